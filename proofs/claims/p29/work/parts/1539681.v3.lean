set_option maxRecDepth 20000
section ZRE
variable {S0 : zSt} {M : zRt} {X : zXt} {kq : Nat × Nat × List Value} {xs : List Int32} {N : Nat} {nc ns : Nat}
def d158_0 (x2 : Int32) (x3 : Int32) (M : zRt) (k : Nat) (u : Int32) : Int32 := if (zgt ((M.2.2.1 0).getD (Int32.toNatClampNeg ((Int32.ofNat k))) []) (Int32.ofInt 0)) = x2 then (if x3 = (Int32.ofInt (-1)) then (u + (Int32.ofInt 1)) else (if (zgt ((M.2.2.1 0).getD (Int32.toNatClampNeg ((Int32.ofNat k))) []) (Int32.ofInt 1)) = x3 then (u + (Int32.ofInt 1)) else (u + (Int32.ofInt 0)))) else (u + (Int32.ofInt 0))
def w158_0 (x2 : Int32) (x3 : Int32) (M : zRt) (u0 : Int32) : Nat → Int32
  | 0 => u0
  | k + 1 => d158_0 x2 x3 M k (w158_0 x2 x3 M u0 k)
def y158_0 (x2 : Int32) (x3 : Int32) (M : zRt) (u : Int32) : Int32 := u
theorem l_r158_0 {x2 x3 : Int32} {u0 : Int32} (hX : zUX kq X M.2.2) : ∀ (N k : Nat) (nc ns : Nat), k ≤ (Int32.ofNat (M.2.2.1 0).length).toInt.toNat → zpE xs N 158 6 [some (.ref 44), some (.ref (X.1 0)), some (.int x2), some (.int x3), some (.int ((w158_0 x2 x3 M u0 k))), some (.int (Int32.ofNat k))] [] (zy S0 M X) nc ns (zOq (.inl (some (.int (y158_0 x2 x3 M (w158_0 x2 x3 M u0 (Int32.ofNat (M.2.2.1 0).length).toInt.toNat))))) (zy S0 M X))
  | 0, _, _, _, _ => zpE_0
  | N + 1, k, nc, ns, hk => by
    refine zpE_run1 1 (L' := [some (.ref 44), some (.ref (X.1 0)), some (.int x2), some (.int x3), some (.int ((w158_0 x2 x3 M u0 k))), some (.int (Int32.ofNat k))]) (st' := [.ref (X.1 0), .int (Int32.ofNat k)]) rfl ?_
    obtain ⟨vs1, lc1⟩ := zUX_lc (S0 := S0) (M := M) (i := 0) (by decide) hX
    refine zpE_call rfl (show zcallV 0 10 243 14 (.ref (X.1 0) :: _) (zy S0 M X) = _ from zcallV_eq rfl lc1 (Nat.le_of_ble_eq_true rfl)) (zul_243 (i := 0) (by decide) hX) (fun v h1 nc1 ns1 q8 => ?_) (fun E h1 nc1 ns1 q8 => by cases q8)
    cases q8
    refine zpE_icmp rfl (fun q14 => ?_) (fun q14 => ?_)
    · have z14_0 := Int.not_lt.mpr (zF_ge_t q14)
      refine zpE_run 1 (L' := [some (.ref 44), some (.ref (X.1 0)), some (.int x2), some (.int x3), some (.int ((w158_0 x2 x3 M u0 k))), some (.int (Int32.ofNat k))]) (st' := [.int ((w158_0 x2 x3 M u0 k))]) rfl ?_
      exact zpE_end rfl rfl (by rw [← zlp_out z14_0 hk]; exact zOq_v (by unfold y158_0; (first | done | rfl)))
    · have z14_0 := zF_ge_f q14
      refine zpE_run 3 (L' := [some (.ref 44), some (.ref (X.1 0)), some (.int x2), some (.int x3), some (.int ((w158_0 x2 x3 M u0 k))), some (.int (Int32.ofNat k))]) (st' := [.int (Int32.ofNat k), .ref (X.1 0), .int ((w158_0 x2 x3 M u0 k))]) rfl ?_
      have n2 : ¬ (Int32.ofNat k) < 0 ∧ (Int32.toNatClampNeg (Int32.ofNat k)) < (M.2.2.1 0).length := zlp_rg (i := 0) (by decide) hX z14_0 hk
      obtain ⟨vs3, lc3⟩ := zUX_lc (S0 := S0) (M := M) (i := 0) (by decide) hX
      refine zpE_call rfl (show zcallV 1 10 239 27 (.int (Int32.ofNat k) :: .ref (X.1 0) :: _) (zy S0 M X) = _ from zcallV_eq rfl lc3 (Nat.le_of_ble_eq_true rfl)) (zul_239 (i := 0) (j := Int32.ofNat k) (by decide) hX n2) (fun v h1 nc1 ns1 q8 => ?_) (fun E h1 nc1 ns1 q8 => by cases q8)
      cases q8
      refine zpE_chk rfl (zUX_e hX n2) ?_
      refine zpE_run 1 (L' := [some (.ref 44), some (.ref (X.1 0)), some (.int x2), some (.int x3), some (.int ((w158_0 x2 x3 M u0 k))), some (.int (Int32.ofNat k))]) (st' := [.int (Int32.ofInt 0), .ref (zel X 0 (Int32.ofNat k)), .int ((w158_0 x2 x3 M u0 k))]) rfl ?_
      refine zpE_aly rfl (zUX_e hX n2) (fun _ _ => ?_)
      refine zpE_gen (fun nc ns => ?_)
      refine zpE_run 1 (L' := [some (.ref 44), some (.ref (X.1 0)), some (.int x2), some (.int x3), some (.int ((w158_0 x2 x3 M u0 k))), some (.int (Int32.ofNat k))]) (st' := [.int x2, .int (zgt ((M.2.2.1 0).getD (Int32.toNatClampNeg (Int32.ofNat k)) []) (Int32.ofInt 0)), .int ((w158_0 x2 x3 M u0 k))]) rfl ?_
      refine zpE_icmp rfl (fun q33 => ?_) (fun q33 => ?_)
      · have z33_1 := zF_n1 q33
        refine zpE_run 5 (L' := [some (.ref 44), some (.ref (X.1 0)), some (.int x2), some (.int x3), some (.int (((w158_0 x2 x3 M u0 k)) + (Int32.ofInt 0))), some (.int ((Int32.ofNat k) + Int32.ofInt 1))]) (st' := []) rfl ?_
        have eW : w158_0 x2 x3 M u0 (k + 1) = ((w158_0 x2 x3 M u0 k)) + (Int32.ofInt 0) := by
          show d158_0 x2 x3 M k _ = _
          unfold d158_0
          rw [if_neg z33_1]
        have K := fun nc ns => l_r158_0 (x2 := x2) (x3 := x3) (u0 := u0) hX N (k + 1) nc ns (zlp_in z14_0 hk)
        rw [← zof1, eW] at K
        exact K _ _
      · have z33_1 := zF_n0 q33
        refine zpE_run 2 (L' := [some (.ref 44), some (.ref (X.1 0)), some (.int x2), some (.int x3), some (.int ((w158_0 x2 x3 M u0 k))), some (.int (Int32.ofNat k))]) (st' := [.int (Int32.ofInt (-1)), .int x3, .int ((w158_0 x2 x3 M u0 k))]) rfl ?_
        refine zpE_icmp rfl (fun q38 => ?_) (fun q38 => ?_)
        · have z38_2 := zF_e1 q38
          refine zpE_run 6 (L' := [some (.ref 44), some (.ref (X.1 0)), some (.int x2), some (.int x3), some (.int (((w158_0 x2 x3 M u0 k)) + (Int32.ofInt 1))), some (.int ((Int32.ofNat k) + Int32.ofInt 1))]) (st' := []) rfl ?_
          have eW : w158_0 x2 x3 M u0 (k + 1) = ((w158_0 x2 x3 M u0 k)) + (Int32.ofInt 1) := by
            show d158_0 x2 x3 M k _ = _
            unfold d158_0
            rw [if_pos z33_1, if_pos z38_2]
          have K := fun nc ns => l_r158_0 (x2 := x2) (x3 := x3) (u0 := u0) hX N (k + 1) nc ns (zlp_in z14_0 hk)
          rw [← zof1, eW] at K
          exact K _ _
        · have z38_2 := zF_e0 q38
          refine zpE_run 2 (L' := [some (.ref 44), some (.ref (X.1 0)), some (.int x2), some (.int x3), some (.int ((w158_0 x2 x3 M u0 k))), some (.int (Int32.ofNat k))]) (st' := [.int (Int32.ofNat k), .ref (X.1 0), .int ((w158_0 x2 x3 M u0 k))]) rfl ?_
          have n4 : ¬ (Int32.ofNat k) < 0 ∧ (Int32.toNatClampNeg (Int32.ofNat k)) < (M.2.2.1 0).length := zlp_rg (i := 0) (by decide) hX z14_0 hk
          obtain ⟨vs5, lc5⟩ := zUX_lc (S0 := S0) (M := M) (i := 0) (by decide) hX
          refine zpE_call rfl (show zcallV 1 10 239 49 (.int (Int32.ofNat k) :: .ref (X.1 0) :: _) (zy S0 M X) = _ from zcallV_eq rfl lc5 (Nat.le_of_ble_eq_true rfl)) (zul_239 (i := 0) (j := Int32.ofNat k) (by decide) hX n4) (fun v h1 nc1 ns1 q8 => ?_) (fun E h1 nc1 ns1 q8 => by cases q8)
          cases q8
          refine zpE_chk rfl (zUX_e hX n4) ?_
          refine zpE_run 1 (L' := [some (.ref 44), some (.ref (X.1 0)), some (.int x2), some (.int x3), some (.int ((w158_0 x2 x3 M u0 k))), some (.int (Int32.ofNat k))]) (st' := [.int (Int32.ofInt 1), .ref (zel X 0 (Int32.ofNat k)), .int ((w158_0 x2 x3 M u0 k))]) rfl ?_
          refine zpE_aly rfl (zUX_e hX n4) (fun _ _ => ?_)
          refine zpE_gen (fun nc ns => ?_)
          refine zpE_run 1 (L' := [some (.ref 44), some (.ref (X.1 0)), some (.int x2), some (.int x3), some (.int ((w158_0 x2 x3 M u0 k))), some (.int (Int32.ofNat k))]) (st' := [.int x3, .int (zgt ((M.2.2.1 0).getD (Int32.toNatClampNeg (Int32.ofNat k)) []) (Int32.ofInt 1)), .int ((w158_0 x2 x3 M u0 k))]) rfl ?_
          refine zpE_icmp rfl (fun q55 => ?_) (fun q55 => ?_)
          · have z55_3 := zF_n1 q55
            refine zpE_run 5 (L' := [some (.ref 44), some (.ref (X.1 0)), some (.int x2), some (.int x3), some (.int (((w158_0 x2 x3 M u0 k)) + (Int32.ofInt 0))), some (.int ((Int32.ofNat k) + Int32.ofInt 1))]) (st' := []) rfl ?_
            have eW : w158_0 x2 x3 M u0 (k + 1) = ((w158_0 x2 x3 M u0 k)) + (Int32.ofInt 0) := by
              show d158_0 x2 x3 M k _ = _
              unfold d158_0
              rw [if_pos z33_1, if_neg z38_2, if_neg z55_3]
            have K := fun nc ns => l_r158_0 (x2 := x2) (x3 := x3) (u0 := u0) hX N (k + 1) nc ns (zlp_in z14_0 hk)
            rw [← zof1, eW] at K
            exact K _ _
          · have z55_3 := zF_n0 q55
            refine zpE_run 6 (L' := [some (.ref 44), some (.ref (X.1 0)), some (.int x2), some (.int x3), some (.int (((w158_0 x2 x3 M u0 k)) + (Int32.ofInt 1))), some (.int ((Int32.ofNat k) + Int32.ofInt 1))]) (st' := []) rfl ?_
            have eW : w158_0 x2 x3 M u0 (k + 1) = ((w158_0 x2 x3 M u0 k)) + (Int32.ofInt 1) := by
              show d158_0 x2 x3 M k _ = _
              unfold d158_0
              rw [if_pos z33_1, if_neg z38_2, if_pos z55_3]
            have K := fun nc ns => l_r158_0 (x2 := x2) (x3 := x3) (u0 := u0) hX N (k + 1) nc ns (zlp_in z14_0 hk)
            rw [← zof1, eW] at K
            exact K _ _
def v158_0 (x2 : Int32) (x3 : Int32) (M : zRt) : Int32 := y158_0 x2 x3 M (w158_0 x2 x3 M (Int32.ofInt 0) (Int32.ofNat (M.2.2.1 0).length).toInt.toNat)
theorem f_158_0 {x2 x3 : Int32} (hX : zUX kq X M.2.2) : zpM xs N 158 [.ref 44, .ref (X.1 0), .int x2, .int x3] (zy S0 M X) nc ns (zOq (.inl (some (.int (v158_0 x2 x3 M)))) (zy S0 M X)) := by
  intro L0 e
  cases e
  refine zpE_run 4 rfl ?_
  exact l_r158_0 (x2 := x2) (x3 := x3) (M := M) (u0 := Int32.ofInt 0) hX N 0 _ _ (Nat.zero_le _)
def d158_1 (x2 : Int32) (x3 : Int32) (M : zRt) (k : Nat) (u : Int32) : Int32 := if (zgt ((M.2.2.1 1).getD (Int32.toNatClampNeg ((Int32.ofNat k))) []) (Int32.ofInt 0)) = x2 then (if x3 = (Int32.ofInt (-1)) then (u + (Int32.ofInt 1)) else (if (zgt ((M.2.2.1 1).getD (Int32.toNatClampNeg ((Int32.ofNat k))) []) (Int32.ofInt 1)) = x3 then (u + (Int32.ofInt 1)) else (u + (Int32.ofInt 0)))) else (u + (Int32.ofInt 0))
def w158_1 (x2 : Int32) (x3 : Int32) (M : zRt) (u0 : Int32) : Nat → Int32
  | 0 => u0
  | k + 1 => d158_1 x2 x3 M k (w158_1 x2 x3 M u0 k)
def y158_1 (x2 : Int32) (x3 : Int32) (M : zRt) (u : Int32) : Int32 := u
theorem l_r158_1 {x2 x3 : Int32} {u0 : Int32} (hX : zUX kq X M.2.2) : ∀ (N k : Nat) (nc ns : Nat), k ≤ (Int32.ofNat (M.2.2.1 1).length).toInt.toNat → zpE xs N 158 6 [some (.ref 44), some (.ref (X.1 1)), some (.int x2), some (.int x3), some (.int ((w158_1 x2 x3 M u0 k))), some (.int (Int32.ofNat k))] [] (zy S0 M X) nc ns (zOq (.inl (some (.int (y158_1 x2 x3 M (w158_1 x2 x3 M u0 (Int32.ofNat (M.2.2.1 1).length).toInt.toNat))))) (zy S0 M X))
  | 0, _, _, _, _ => zpE_0
  | N + 1, k, nc, ns, hk => by
    refine zpE_run1 1 (L' := [some (.ref 44), some (.ref (X.1 1)), some (.int x2), some (.int x3), some (.int ((w158_1 x2 x3 M u0 k))), some (.int (Int32.ofNat k))]) (st' := [.ref (X.1 1), .int (Int32.ofNat k)]) rfl ?_
    obtain ⟨vs1, lc1⟩ := zUX_lc (S0 := S0) (M := M) (i := 1) (by decide) hX
    refine zpE_call rfl (show zcallV 0 10 243 14 (.ref (X.1 1) :: _) (zy S0 M X) = _ from zcallV_eq rfl lc1 (Nat.le_of_ble_eq_true rfl)) (zul_243 (i := 1) (by decide) hX) (fun v h1 nc1 ns1 q8 => ?_) (fun E h1 nc1 ns1 q8 => by cases q8)
    cases q8
    refine zpE_icmp rfl (fun q14 => ?_) (fun q14 => ?_)
    · have z14_0 := Int.not_lt.mpr (zF_ge_t q14)
      refine zpE_run 1 (L' := [some (.ref 44), some (.ref (X.1 1)), some (.int x2), some (.int x3), some (.int ((w158_1 x2 x3 M u0 k))), some (.int (Int32.ofNat k))]) (st' := [.int ((w158_1 x2 x3 M u0 k))]) rfl ?_
      exact zpE_end rfl rfl (by rw [← zlp_out z14_0 hk]; exact zOq_v (by unfold y158_1; (first | done | rfl)))
    · have z14_0 := zF_ge_f q14
      refine zpE_run 3 (L' := [some (.ref 44), some (.ref (X.1 1)), some (.int x2), some (.int x3), some (.int ((w158_1 x2 x3 M u0 k))), some (.int (Int32.ofNat k))]) (st' := [.int (Int32.ofNat k), .ref (X.1 1), .int ((w158_1 x2 x3 M u0 k))]) rfl ?_
      have n2 : ¬ (Int32.ofNat k) < 0 ∧ (Int32.toNatClampNeg (Int32.ofNat k)) < (M.2.2.1 1).length := zlp_rg (i := 1) (by decide) hX z14_0 hk
      obtain ⟨vs3, lc3⟩ := zUX_lc (S0 := S0) (M := M) (i := 1) (by decide) hX
      refine zpE_call rfl (show zcallV 1 10 239 27 (.int (Int32.ofNat k) :: .ref (X.1 1) :: _) (zy S0 M X) = _ from zcallV_eq rfl lc3 (Nat.le_of_ble_eq_true rfl)) (zul_239 (i := 1) (j := Int32.ofNat k) (by decide) hX n2) (fun v h1 nc1 ns1 q8 => ?_) (fun E h1 nc1 ns1 q8 => by cases q8)
      cases q8
      refine zpE_chk rfl (zUX_e hX n2) ?_
      refine zpE_run 1 (L' := [some (.ref 44), some (.ref (X.1 1)), some (.int x2), some (.int x3), some (.int ((w158_1 x2 x3 M u0 k))), some (.int (Int32.ofNat k))]) (st' := [.int (Int32.ofInt 0), .ref (zel X 1 (Int32.ofNat k)), .int ((w158_1 x2 x3 M u0 k))]) rfl ?_
      refine zpE_aly rfl (zUX_e hX n2) (fun _ _ => ?_)
      refine zpE_gen (fun nc ns => ?_)
      refine zpE_run 1 (L' := [some (.ref 44), some (.ref (X.1 1)), some (.int x2), some (.int x3), some (.int ((w158_1 x2 x3 M u0 k))), some (.int (Int32.ofNat k))]) (st' := [.int x2, .int (zgt ((M.2.2.1 1).getD (Int32.toNatClampNeg (Int32.ofNat k)) []) (Int32.ofInt 0)), .int ((w158_1 x2 x3 M u0 k))]) rfl ?_
      refine zpE_icmp rfl (fun q33 => ?_) (fun q33 => ?_)
      · have z33_1 := zF_n1 q33
        refine zpE_run 5 (L' := [some (.ref 44), some (.ref (X.1 1)), some (.int x2), some (.int x3), some (.int (((w158_1 x2 x3 M u0 k)) + (Int32.ofInt 0))), some (.int ((Int32.ofNat k) + Int32.ofInt 1))]) (st' := []) rfl ?_
        have eW : w158_1 x2 x3 M u0 (k + 1) = ((w158_1 x2 x3 M u0 k)) + (Int32.ofInt 0) := by
          show d158_1 x2 x3 M k _ = _
          unfold d158_1
          rw [if_neg z33_1]
        have K := fun nc ns => l_r158_1 (x2 := x2) (x3 := x3) (u0 := u0) hX N (k + 1) nc ns (zlp_in z14_0 hk)
        rw [← zof1, eW] at K
        exact K _ _
      · have z33_1 := zF_n0 q33
        refine zpE_run 2 (L' := [some (.ref 44), some (.ref (X.1 1)), some (.int x2), some (.int x3), some (.int ((w158_1 x2 x3 M u0 k))), some (.int (Int32.ofNat k))]) (st' := [.int (Int32.ofInt (-1)), .int x3, .int ((w158_1 x2 x3 M u0 k))]) rfl ?_
        refine zpE_icmp rfl (fun q38 => ?_) (fun q38 => ?_)
        · have z38_2 := zF_e1 q38
          refine zpE_run 6 (L' := [some (.ref 44), some (.ref (X.1 1)), some (.int x2), some (.int x3), some (.int (((w158_1 x2 x3 M u0 k)) + (Int32.ofInt 1))), some (.int ((Int32.ofNat k) + Int32.ofInt 1))]) (st' := []) rfl ?_
          have eW : w158_1 x2 x3 M u0 (k + 1) = ((w158_1 x2 x3 M u0 k)) + (Int32.ofInt 1) := by
            show d158_1 x2 x3 M k _ = _
            unfold d158_1
            rw [if_pos z33_1, if_pos z38_2]
          have K := fun nc ns => l_r158_1 (x2 := x2) (x3 := x3) (u0 := u0) hX N (k + 1) nc ns (zlp_in z14_0 hk)
          rw [← zof1, eW] at K
          exact K _ _
        · have z38_2 := zF_e0 q38
          refine zpE_run 2 (L' := [some (.ref 44), some (.ref (X.1 1)), some (.int x2), some (.int x3), some (.int ((w158_1 x2 x3 M u0 k))), some (.int (Int32.ofNat k))]) (st' := [.int (Int32.ofNat k), .ref (X.1 1), .int ((w158_1 x2 x3 M u0 k))]) rfl ?_
          have n4 : ¬ (Int32.ofNat k) < 0 ∧ (Int32.toNatClampNeg (Int32.ofNat k)) < (M.2.2.1 1).length := zlp_rg (i := 1) (by decide) hX z14_0 hk
          obtain ⟨vs5, lc5⟩ := zUX_lc (S0 := S0) (M := M) (i := 1) (by decide) hX
          refine zpE_call rfl (show zcallV 1 10 239 49 (.int (Int32.ofNat k) :: .ref (X.1 1) :: _) (zy S0 M X) = _ from zcallV_eq rfl lc5 (Nat.le_of_ble_eq_true rfl)) (zul_239 (i := 1) (j := Int32.ofNat k) (by decide) hX n4) (fun v h1 nc1 ns1 q8 => ?_) (fun E h1 nc1 ns1 q8 => by cases q8)
          cases q8
          refine zpE_chk rfl (zUX_e hX n4) ?_
          refine zpE_run 1 (L' := [some (.ref 44), some (.ref (X.1 1)), some (.int x2), some (.int x3), some (.int ((w158_1 x2 x3 M u0 k))), some (.int (Int32.ofNat k))]) (st' := [.int (Int32.ofInt 1), .ref (zel X 1 (Int32.ofNat k)), .int ((w158_1 x2 x3 M u0 k))]) rfl ?_
          refine zpE_aly rfl (zUX_e hX n4) (fun _ _ => ?_)
          refine zpE_gen (fun nc ns => ?_)
          refine zpE_run 1 (L' := [some (.ref 44), some (.ref (X.1 1)), some (.int x2), some (.int x3), some (.int ((w158_1 x2 x3 M u0 k))), some (.int (Int32.ofNat k))]) (st' := [.int x3, .int (zgt ((M.2.2.1 1).getD (Int32.toNatClampNeg (Int32.ofNat k)) []) (Int32.ofInt 1)), .int ((w158_1 x2 x3 M u0 k))]) rfl ?_
          refine zpE_icmp rfl (fun q55 => ?_) (fun q55 => ?_)
          · have z55_3 := zF_n1 q55
            refine zpE_run 5 (L' := [some (.ref 44), some (.ref (X.1 1)), some (.int x2), some (.int x3), some (.int (((w158_1 x2 x3 M u0 k)) + (Int32.ofInt 0))), some (.int ((Int32.ofNat k) + Int32.ofInt 1))]) (st' := []) rfl ?_
            have eW : w158_1 x2 x3 M u0 (k + 1) = ((w158_1 x2 x3 M u0 k)) + (Int32.ofInt 0) := by
              show d158_1 x2 x3 M k _ = _
              unfold d158_1
              rw [if_pos z33_1, if_neg z38_2, if_neg z55_3]
            have K := fun nc ns => l_r158_1 (x2 := x2) (x3 := x3) (u0 := u0) hX N (k + 1) nc ns (zlp_in z14_0 hk)
            rw [← zof1, eW] at K
            exact K _ _
          · have z55_3 := zF_n0 q55
            refine zpE_run 6 (L' := [some (.ref 44), some (.ref (X.1 1)), some (.int x2), some (.int x3), some (.int (((w158_1 x2 x3 M u0 k)) + (Int32.ofInt 1))), some (.int ((Int32.ofNat k) + Int32.ofInt 1))]) (st' := []) rfl ?_
            have eW : w158_1 x2 x3 M u0 (k + 1) = ((w158_1 x2 x3 M u0 k)) + (Int32.ofInt 1) := by
              show d158_1 x2 x3 M k _ = _
              unfold d158_1
              rw [if_pos z33_1, if_neg z38_2, if_pos z55_3]
            have K := fun nc ns => l_r158_1 (x2 := x2) (x3 := x3) (u0 := u0) hX N (k + 1) nc ns (zlp_in z14_0 hk)
            rw [← zof1, eW] at K
            exact K _ _
def v158_1 (x2 : Int32) (x3 : Int32) (M : zRt) : Int32 := y158_1 x2 x3 M (w158_1 x2 x3 M (Int32.ofInt 0) (Int32.ofNat (M.2.2.1 1).length).toInt.toNat)
theorem f_158_1 {x2 x3 : Int32} (hX : zUX kq X M.2.2) : zpM xs N 158 [.ref 44, .ref (X.1 1), .int x2, .int x3] (zy S0 M X) nc ns (zOq (.inl (some (.int (v158_1 x2 x3 M)))) (zy S0 M X)) := by
  intro L0 e
  cases e
  refine zpE_run 4 rfl ?_
  exact l_r158_1 (x2 := x2) (x3 := x3) (M := M) (u0 := Int32.ofInt 0) hX N 0 _ _ (Nat.zero_le _)
def v159 (x1 : Int32) (x2 : Int32) (M : zRt) : Int32 := if x2 = Int32.ofInt 0 then ((v125 x1 M)) else (if x2 = Int32.ofInt 1 then ((zkd M.2.2.2 (v125 x1 M))) else (if x2 = Int32.ofInt 2 then (if (zgt (M.2.1 24) x1) = ((0 : Int32)) then ((Int32.ofInt 0)) else ((Int32.ofInt 1))) else (if x2 = Int32.ofInt 3 then (if (zgt (M.2.1 25) x1) = ((0 : Int32)) then ((Int32.ofInt 0)) else ((Int32.ofInt 1))) else (if x2 = Int32.ofInt 4 then ((zrmd (v124 x1 M) (Int32.ofInt 10))) else (if x2 = Int32.ofInt 5 then ((v158_0 (v124 x1 M) (zrmd x1 (Int32.ofInt 8)) M)) else ((v158_1 (v124 x1 M) (zrmd x1 (Int32.ofInt 8)) M)))))))
theorem f_159 {x1 x2 : Int32} (hX : zUX kq X M.2.2) : zpM xs N 159 [.ref 44, .int x1, .int x2] (zy S0 M X) nc ns (zOq (.inl (some (.int (v159 x1 x2 M)))) (zy S0 M X)) := by
  intro L0 e
  cases e
  refine zpE_run 2 (L' := [some (.ref 44), some (.int x1), some (.int x2), none, none]) (st' := [.int x1, .ref 44]) rfl ?_
  refine zpE_call rfl rfl (f_124 (M := M) (x1 := x1) hX) (fun v h1 nc1 ns1 q8 => ?_) (fun E h1 nc1 ns1 q8 => by cases q8.1)
  obtain ⟨q8, q9⟩ := q8
  cases q8
  cases q9
  refine zpE_run 3 (L' := [some (.ref 44), some (.int x1), some (.int x2), some (.int (v124 x1 M)), none]) (st' := [.int (Int32.ofInt 8), .int x1]) rfl ?_
  refine zpE_irem rfl (fun _ => ?_)
  refine zpE_run 2 (L' := [some (.ref 44), some (.int x1), some (.int x2), some (.int (v124 x1 M)), some (.int (zrmd x1 (Int32.ofInt 8)))]) (st' := [.int x2]) rfl ?_
  by_cases z13_0_0 : x2 = Int32.ofInt 0
  · refine zpE_tabi (i := 0) (t := 52) rfl (by rw [z13_0_0]; decide) (by rw [z13_0_0]; decide) rfl rfl ?_
    refine zpE_run 2 (L' := [some (.ref 44), some (.int x1), some (.int x2), some (.int (v124 x1 M)), some (.int (zrmd x1 (Int32.ofInt 8)))]) (st' := [.int x1, .ref 44]) rfl ?_
    refine zpE_call rfl rfl (f_125 (M := M) (x1 := x1) hX) (fun v h1 nc1 ns1 q8 => ?_) (fun E h1 nc1 ns1 q8 => by cases q8.1)
    obtain ⟨q8, q9⟩ := q8
    cases q8
    cases q9
    exact zpE_end rfl rfl (zOq_v (by unfold v159; rw [if_pos z13_0_0]))
  · skip
    by_cases z13_1_1 : x2 = Int32.ofInt 1
    · refine zpE_tabi (i := 1) (t := 58) rfl (by rw [z13_1_1]; decide) (by rw [z13_1_1]; decide) rfl rfl ?_
      refine zpE_run 3 (L' := [some (.ref 44), some (.int x1), some (.int x2), some (.int (v124 x1 M)), some (.int (zrmd x1 (Int32.ofInt 8)))]) (st' := [.int x1, .ref 44, .ref 44]) rfl ?_
      refine zpE_call rfl rfl (f_125 (M := M) (x1 := x1) hX) (fun v h1 nc1 ns1 q8 => ?_) (fun E h1 nc1 ns1 q8 => by cases q8.1)
      obtain ⟨q8, q9⟩ := q8
      cases q8
      cases q9
      refine zpE_call rfl rfl (r_121 (zy_mc (M := M) hX)) (fun v h1 nc1 ns1 q8 => ?_) (fun E h1 nc1 ns1 q8 => by cases q8)
      cases q8
      exact zpE_end rfl rfl (zOq_v (by unfold v159; rw [if_neg z13_0_0, if_pos z13_1_1]))
    · skip
      by_cases z13_2_2 : x2 = Int32.ofInt 2
      · refine zpE_tabi (i := 2) (t := 68) rfl (by rw [z13_2_2]; decide) (by rw [z13_2_2]; decide) rfl rfl ?_
        refine zpE_run 3 (L' := [some (.ref 44), some (.int x1), some (.int x2), some (.int (v124 x1 M)), some (.int (zrmd x1 (Int32.ofInt 8)))]) (st' := [.int x1, .ref 71]) rfl ?_
        refine zpE_bly rfl (zy_g71 (M := M)) (fun _ _ => ?_)
        refine zpE_gen (fun nc ns => ?_)
        refine zpE_if rfl (fun q74 => ?_) (fun q74 => ?_)
        · have z74_3 := zF_e1 q74
          refine zpE_run 1 (L' := [some (.ref 44), some (.int x1), some (.int x2), some (.int (v124 x1 M)), some (.int (zrmd x1 (Int32.ofInt 8)))]) (st' := [.int (Int32.ofInt 0)]) rfl ?_
          exact zpE_end rfl rfl (zOq_v (by unfold v159; rw [if_neg z13_0_0, if_neg z13_1_1, if_pos z13_2_2, if_pos z74_3]))
        · have z74_3 := zF_e0 q74
          refine zpE_run 2 (L' := [some (.ref 44), some (.int x1), some (.int x2), some (.int (v124 x1 M)), some (.int (zrmd x1 (Int32.ofInt 8)))]) (st' := [.int (Int32.ofInt 1)]) rfl ?_
          exact zpE_end rfl rfl (zOq_v (by unfold v159; rw [if_neg z13_0_0, if_neg z13_1_1, if_pos z13_2_2, if_neg z74_3]))
      · skip
        by_cases z13_3_3 : x2 = Int32.ofInt 3
        · refine zpE_tabi (i := 3) (t := 83) rfl (by rw [z13_3_3]; decide) (by rw [z13_3_3]; decide) rfl rfl ?_
          refine zpE_run 3 (L' := [some (.ref 44), some (.int x1), some (.int x2), some (.int (v124 x1 M)), some (.int (zrmd x1 (Int32.ofInt 8)))]) (st' := [.int x1, .ref 72]) rfl ?_
          refine zpE_bly rfl (zy_g72 (M := M)) (fun _ _ => ?_)
          refine zpE_gen (fun nc ns => ?_)
          refine zpE_if rfl (fun q89 => ?_) (fun q89 => ?_)
          · have z89_4 := zF_e1 q89
            refine zpE_run 1 (L' := [some (.ref 44), some (.int x1), some (.int x2), some (.int (v124 x1 M)), some (.int (zrmd x1 (Int32.ofInt 8)))]) (st' := [.int (Int32.ofInt 0)]) rfl ?_
            exact zpE_end rfl rfl (zOq_v (by unfold v159; rw [if_neg z13_0_0, if_neg z13_1_1, if_neg z13_2_2, if_pos z13_3_3, if_pos z89_4]))
          · have z89_4 := zF_e0 q89
            refine zpE_run 2 (L' := [some (.ref 44), some (.int x1), some (.int x2), some (.int (v124 x1 M)), some (.int (zrmd x1 (Int32.ofInt 8)))]) (st' := [.int (Int32.ofInt 1)]) rfl ?_
            exact zpE_end rfl rfl (zOq_v (by unfold v159; rw [if_neg z13_0_0, if_neg z13_1_1, if_neg z13_2_2, if_pos z13_3_3, if_neg z89_4]))
        · skip
          by_cases z13_4_4 : x2 = Int32.ofInt 4
          · refine zpE_tabi (i := 4) (t := 98) rfl (by rw [z13_4_4]; decide) (by rw [z13_4_4]; decide) rfl rfl ?_
            refine zpE_run 2 (L' := [some (.ref 44), some (.int x1), some (.int x2), some (.int (v124 x1 M)), some (.int (zrmd x1 (Int32.ofInt 8)))]) (st' := [.int (Int32.ofInt 10), .int (v124 x1 M)]) rfl ?_
            refine zpE_irem rfl (fun _ => ?_)
            exact zpE_end rfl rfl (zOq_v (by unfold v159; rw [if_neg z13_0_0, if_neg z13_1_1, if_neg z13_2_2, if_neg z13_3_3, if_pos z13_4_4]))
          · skip
            by_cases z13_5_5 : x2 = Int32.ofInt 5
            · refine zpE_tabi (i := 5) (t := 103) rfl (by rw [z13_5_5]; decide) (by rw [z13_5_5]; decide) rfl rfl ?_
              refine zpE_run 5 (L' := [some (.ref 44), some (.int x1), some (.int x2), some (.int (v124 x1 M)), some (.int (zrmd x1 (Int32.ofInt 8)))]) (st' := [.int (zrmd x1 (Int32.ofInt 8)), .int (v124 x1 M), .ref (X.1 0), .ref 44]) rfl ?_
              refine zpE_call rfl rfl (f_158_0 (M := M) (x2 := v124 x1 M) (x3 := zrmd x1 (Int32.ofInt 8)) hX) (fun v h1 nc1 ns1 q8 => ?_) (fun E h1 nc1 ns1 q8 => by cases q8.1)
              obtain ⟨q8, q9⟩ := q8
              cases q8
              cases q9
              exact zpE_end rfl rfl (zOq_v (by unfold v159; rw [if_neg z13_0_0, if_neg z13_1_1, if_neg z13_2_2, if_neg z13_3_3, if_neg z13_4_4, if_pos z13_5_5]))
            · skip
              have hd : x2.toInt < 0 ∨ 5 < x2.toInt := by
                refine Classical.byContradiction (fun hh => ?_)
                rcases (show x2.toInt = 0 ∨ x2.toInt = 1 ∨ x2.toInt = 2 ∨ x2.toInt = 3 ∨ x2.toInt = 4 ∨ x2.toInt = 5 by omega) with k9 | k9 | k9 | k9 | k9 | k9
                · exact z13_0_0 (Int32.toInt_inj.mp (k9.trans (by decide)))
                · exact z13_1_1 (Int32.toInt_inj.mp (k9.trans (by decide)))
                · exact z13_2_2 (Int32.toInt_inj.mp (k9.trans (by decide)))
                · exact z13_3_3 (Int32.toInt_inj.mp (k9.trans (by decide)))
                · exact z13_4_4 (Int32.toInt_inj.mp (k9.trans (by decide)))
                · exact z13_5_5 (Int32.toInt_inj.mp (k9.trans (by decide)))
              refine zpE_tabd (t := 115) rfl hd rfl ?_
              refine zpE_run 5 (L' := [some (.ref 44), some (.int x1), some (.int x2), some (.int (v124 x1 M)), some (.int (zrmd x1 (Int32.ofInt 8)))]) (st' := [.int (zrmd x1 (Int32.ofInt 8)), .int (v124 x1 M), .ref (X.1 1), .ref 44]) rfl ?_
              refine zpE_call rfl rfl (f_158_1 (M := M) (x2 := v124 x1 M) (x3 := zrmd x1 (Int32.ofInt 8)) hX) (fun v h1 nc1 ns1 q8 => ?_) (fun E h1 nc1 ns1 q8 => by cases q8.1)
              obtain ⟨q8, q9⟩ := q8
              cases q8
              cases q9
              exact zpE_end rfl rfl (zOq_v (by unfold v159; rw [if_neg z13_0_0, if_neg z13_1_1, if_neg z13_2_2, if_neg z13_3_3, if_neg z13_4_4, if_neg z13_5_5]))
def v160 (x1 : Int32) (x2 : Int32) (M : zRt) : Int32 := if (v138 x1 (zmS M 0 (Int32.ofInt 0))) = ((0 : Int32)) then ((v111 (Int32.ofInt 1) (zmS M 0 (Int32.ofInt 0)))) else (if (v112 x2 (Int32.ofInt 0) (Int32.ofInt 6) (zmS M 0 (Int32.ofInt 0))) = ((0 : Int32)) then ((v111 (Int32.ofInt 2) (zmS M 0 (Int32.ofInt 0)))) else ((v159 x1 x2 (zmS M 0 (Int32.ofInt 0)))))
def r160 (x1 : Int32) (x2 : Int32) (M : zRt) : zRt := if (v138 x1 (zmS M 0 (Int32.ofInt 0))) = ((0 : Int32)) then ((r111 (Int32.ofInt 1) (zmS M 0 (Int32.ofInt 0)))) else (if (v112 x2 (Int32.ofInt 0) (Int32.ofInt 6) (zmS M 0 (Int32.ofInt 0))) = ((0 : Int32)) then ((r111 (Int32.ofInt 2) (zmS M 0 (Int32.ofInt 0)))) else (zmS M 0 (Int32.ofInt 0)))
theorem f_160 {x1 x2 : Int32} (hX : zUX kq X M.2.2) : zpM xs N 160 [.ref 44, .int x1, .int x2] (zy S0 M X) nc ns (zOq (.inl (some (.int (v160 x1 x2 M)))) (zy S0 (r160 x1 x2 M) X)) := by
  intro L0 e
  cases e
  refine zpE_run 4 (L' := [some (.ref 44), some (.int x1), some (.int x2)]) (st' := [.int x1]) (h' := zy S0 (zmS M 0 (Int32.ofInt 0)) X) rfl ?_
  refine zpE_call rfl rfl (f_138 (M := zmS M 0 (Int32.ofInt 0)) (x1 := x1) hX) (fun v h1 nc1 ns1 q8 => ?_) (fun E h1 nc1 ns1 q8 => by cases q8.1)
  obtain ⟨q8, q9⟩ := q8
  cases q8
  cases q9
  refine zpE_if rfl (fun q9 => ?_) (fun q9 => ?_)
  · have z9_0 := zF_n1 q9
    refine zpE_run 3 (L' := [some (.ref 44), some (.int x1), some (.int x2)]) (st' := [.int (Int32.ofInt 6), .int (Int32.ofInt 0), .int x2]) rfl ?_
    refine zpE_call rfl rfl (f_112 (M := zmS M 0 (Int32.ofInt 0)) (x1 := x2) (x2 := Int32.ofInt 0) (x3 := Int32.ofInt 6) hX) (fun v h1 nc1 ns1 q8 => ?_) (fun E h1 nc1 ns1 q8 => by cases q8.1)
    obtain ⟨q8, q9⟩ := q8
    cases q8
    cases q9
    refine zpE_if rfl (fun q25 => ?_) (fun q25 => ?_)
    · have z25_1 := zF_n1 q25
      refine zpE_run 3 (L' := [some (.ref 44), some (.int x1), some (.int x2)]) (st' := [.int x2, .int x1, .ref 44]) rfl ?_
      refine zpE_call rfl rfl (f_159 (M := zmS M 0 (Int32.ofInt 0)) (x1 := x1) (x2 := x2) hX) (fun v h1 nc1 ns1 q8 => ?_) (fun E h1 nc1 ns1 q8 => by cases q8.1)
      obtain ⟨q8, q9⟩ := q8
      cases q8
      cases q9
      exact zpE_end rfl rfl (zOr_w (M' := zmS M 0 (Int32.ofInt 0)) (by unfold v160; rw [if_neg z9_0, if_neg z25_1]) (by unfold r160; rw [if_neg z9_0, if_neg z25_1]))
    · have z25_1 := zF_n0 q25
      refine zpE_run 2 (L' := [some (.ref 44), some (.int x1), some (.int x2)]) (st' := [.int (Int32.ofInt 2), .ref 44]) rfl ?_
      refine zpE_call rfl rfl (f_111 (M := zmS M 0 (Int32.ofInt 0)) (x1 := Int32.ofInt 2) hX) (fun v h1 nc1 ns1 q8 => ?_) (fun E h1 nc1 ns1 q8 => by cases q8.1)
      obtain ⟨q8, q9⟩ := q8
      cases q8
      cases q9
      obtain ⟨Z1, hZ1⟩ : ∃ Z, Z = r111 (Int32.ofInt 2) (zmS M 0 (Int32.ofInt 0)) := ⟨_, rfl⟩
      rw [← hZ1]
      have hY1 : zUX kq X Z1.2.2 := by
        rw [hZ1, rl_111]
        exact hX
      exact zpE_end rfl rfl (zOr_w (M' := Z1) (by unfold v160; (try rw [← hZ1]); rw [if_neg z9_0, if_pos z25_1]) (by unfold r160; (try rw [← hZ1]); rw [if_neg z9_0, if_pos z25_1]))
  · have z9_0 := zF_n0 q9
    refine zpE_run 2 (L' := [some (.ref 44), some (.int x1), some (.int x2)]) (st' := [.int (Int32.ofInt 1), .ref 44]) rfl ?_
    refine zpE_call rfl rfl (f_111 (M := zmS M 0 (Int32.ofInt 0)) (x1 := Int32.ofInt 1) hX) (fun v h1 nc1 ns1 q8 => ?_) (fun E h1 nc1 ns1 q8 => by cases q8.1)
    obtain ⟨q8, q9⟩ := q8
    cases q8
    cases q9
    obtain ⟨Z2, hZ2⟩ : ∃ Z, Z = r111 (Int32.ofInt 1) (zmS M 0 (Int32.ofInt 0)) := ⟨_, rfl⟩
    rw [← hZ2]
    have hY2 : zUX kq X Z2.2.2 := by
      rw [hZ2, rl_111]
      exact hX
    exact zpE_end rfl rfl (zOr_w (M' := Z2) (by unfold v160; (try rw [← hZ2]); rw [if_pos z9_0]) (by unfold r160; (try rw [← hZ2]); rw [if_pos z9_0]))
theorem gr_160 {x1 x2 : Int32} : zfrM [0] [] [] (r160 x1 x2 M) M := by
  unfold r160
  exact (gm_ite (gm_c gr_111 (gm_c gm_S gm_rf (by decide) (by decide) (by decide)) (by decide) (by decide) (by decide)) (gm_ite (gm_c gr_111 (gm_c gm_S gm_rf (by decide) (by decide) (by decide)) (by decide) (by decide) (by decide)) (gm_c gm_S gm_rf (by decide) (by decide) (by decide))))
theorem rl_160 {x1 x2 : Int32} : (r160 x1 x2 M).2.2 = M.2.2 := gm_l gr_160
def v176 (x1 : Int32) (M : zRt) : Int32 := if (zgt (M.2.1 24) x1) = ((0 : Int32)) then (if (zkd M.2.2.2 (v125 x1 M)) = (Int32.ofInt 2) then ((Int32.ofInt (-1))) else ((zdo M.2.2.2 (M.1 1) (v125 x1 M)))) else ((Int32.ofInt (-1)))
theorem f_176 {x1 : Int32} (hX : zUX kq X M.2.2) : zpM xs N 176 [.ref 44, .int x1] (zy S0 M X) nc ns (zOq (.inl (some (.int (v176 x1 M)))) (zy S0 M X)) := by
  intro L0 e
  cases e
  refine zpE_run 3 (L' := [some (.ref 44), some (.int x1)]) (st' := [.int x1, .ref 71]) rfl ?_
  refine zpE_bly rfl (zy_g71 (M := M)) (fun _ _ => ?_)
  refine zpE_gen (fun nc ns => ?_)
  refine zpE_if rfl (fun q6 => ?_) (fun q6 => ?_)
  · have z6_0 := zF_n1 q6
    refine zpE_run 2 (L' := [some (.ref 44), some (.int x1)]) (st' := [.int (Int32.ofInt (-1))]) rfl ?_
    exact zpE_end rfl rfl (zOq_v (by unfold v176; rw [if_neg z6_0]))
  · have z6_0 := zF_n0 q6
    refine zpE_run 3 (L' := [some (.ref 44), some (.int x1)]) (st' := [.int x1, .ref 44, .ref 44]) rfl ?_
    refine zpE_call rfl rfl (f_125 (M := M) (x1 := x1) hX) (fun v h1 nc1 ns1 q8 => ?_) (fun E h1 nc1 ns1 q8 => by cases q8.1)
    obtain ⟨q8, q9⟩ := q8
    cases q8
    cases q9
    refine zpE_call rfl rfl (r_121 (zy_mc (M := M) hX)) (fun v h1 nc1 ns1 q8 => ?_) (fun E h1 nc1 ns1 q8 => by cases q8)
    cases q8
    refine zpE_run 1 (L' := [some (.ref 44), some (.int x1)]) (st' := [.int (Int32.ofInt 2), .int (zkd M.2.2.2 (v125 x1 M))]) rfl ?_
    refine zpE_icmp rfl (fun q19 => ?_) (fun q19 => ?_)
    · have z19_1 := zF_n1 q19
      refine zpE_run 3 (L' := [some (.ref 44), some (.int x1)]) (st' := [.int x1, .ref 44, .ref 44]) rfl ?_
      refine zpE_call rfl rfl (f_125 (M := M) (x1 := x1) hX) (fun v h1 nc1 ns1 q8 => ?_) (fun E h1 nc1 ns1 q8 => by cases q8.1)
      obtain ⟨q8, q9⟩ := q8
      cases q8
      cases q9
      refine zpE_call rfl rfl (r_123 (zy_mc (M := M) hX)) (fun v h1 nc1 ns1 q8 => ?_) (fun E h1 nc1 ns1 q8 => by cases q8)
      cases q8
      exact zpE_end rfl rfl (zOq_v (by unfold v176; rw [if_pos z6_0, if_neg z19_1]))
    · have z19_1 := zF_n0 q19
      refine zpE_run 2 (L' := [some (.ref 44), some (.int x1)]) (st' := [.int (Int32.ofInt (-1))]) rfl ?_
      exact zpE_end rfl rfl (zOq_v (by unfold v176; rw [if_pos z6_0, if_pos z19_1]))
def v177 (x1 : Int32) (M : zRt) : Int32 := if (zgt (M.2.1 25) x1) = ((0 : Int32)) then (if (v176 x1 M) = (Int32.ofInt (-1)) then (if (M.1 9) = ((0 : Int32)) then ((v176 x1 M)) else (if (zgt (M.2.1 25) (v131 x1 M)) = ((0 : Int32)) then ((v176 (v131 x1 M) M)) else ((v176 x1 M)))) else ((v176 x1 M))) else ((Int32.ofInt (-2)))
theorem f_177 {x1 : Int32} (hX : zUX kq X M.2.2) : zpM xs N 177 [.ref 44, .int x1] (zy S0 M X) nc ns (zOq (.inl (some (.int (v177 x1 M)))) (zy S0 M X)) := by
  intro L0 e
  cases e
  refine zpE_run 3 (L' := [some (.ref 44), some (.int x1), none, none]) (st' := [.int x1, .ref 72]) rfl ?_
  refine zpE_bly rfl (zy_g72 (M := M)) (fun _ _ => ?_)
  refine zpE_gen (fun nc ns => ?_)
  refine zpE_if rfl (fun q6 => ?_) (fun q6 => ?_)
  · have z6_0 := zF_e1 q6
    refine zpE_run 2 (L' := [some (.ref 44), some (.int x1), none, none]) (st' := [.int x1, .ref 44]) rfl ?_
    refine zpE_call rfl rfl (f_176 (M := M) (x1 := x1) hX) (fun v h1 nc1 ns1 q8 => ?_) (fun E h1 nc1 ns1 q8 => by cases q8.1)
    obtain ⟨q8, q9⟩ := q8
    cases q8
    cases q9
    refine zpE_run 2 (L' := [some (.ref 44), some (.int x1), some (.int (v176 x1 M)), none]) (st' := [.int x1]) rfl ?_
    refine zpE_call rfl rfl (f_131 (M := M) (x1 := x1) hX) (fun v h1 nc1 ns1 q8 => ?_) (fun E h1 nc1 ns1 q8 => by cases q8.1)
    obtain ⟨q8, q9⟩ := q8
    cases q8
    cases q9
    refine zpE_run 3 (L' := [some (.ref 44), some (.int x1), some (.int (v176 x1 M)), some (.int (v131 x1 M))]) (st' := [.int (Int32.ofInt (-1)), .int (v176 x1 M)]) rfl ?_
    refine zpE_icmp rfl (fun q25 => ?_) (fun q25 => ?_)
    · have z25_1 := zF_n1 q25
      refine zpE_run 2 (L' := [some (.ref 44), some (.int x1), some (.int (v176 x1 M)), some (.int (v131 x1 M))]) (st' := [.int (v176 x1 M)]) rfl ?_
      exact zpE_end rfl rfl (zOq_v (by unfold v177; rw [if_pos z6_0, if_neg z25_1]))
    · have z25_1 := zF_n0 q25
      refine zpE_run 2 (L' := [some (.ref 44), some (.int x1), some (.int (v176 x1 M)), some (.int (v131 x1 M))]) (st' := [.int (M.1 9)]) rfl ?_
      refine zpE_if rfl (fun q32 => ?_) (fun q32 => ?_)
      · have z32_2 := zF_e1 q32
        refine zpE_run 2 (L' := [some (.ref 44), some (.int x1), some (.int (v176 x1 M)), some (.int (v131 x1 M))]) (st' := [.int (v176 x1 M)]) rfl ?_
        exact zpE_end rfl rfl (zOq_v (by unfold v177; rw [if_pos z6_0, if_pos z25_1, if_pos z32_2]))
      · have z32_2 := zF_e0 q32
        refine zpE_run 3 (L' := [some (.ref 44), some (.int x1), some (.int (v176 x1 M)), some (.int (v131 x1 M))]) (st' := [.int (v131 x1 M), .ref 72]) rfl ?_
        refine zpE_bly rfl (zy_g72 (M := M)) (fun _ _ => ?_)
        refine zpE_gen (fun nc ns => ?_)
        refine zpE_if rfl (fun q41 => ?_) (fun q41 => ?_)
        · have z41_3 := zF_e1 q41
          refine zpE_run 2 (L' := [some (.ref 44), some (.int x1), some (.int (v176 x1 M)), some (.int (v131 x1 M))]) (st' := [.int (v131 x1 M), .ref 44]) rfl ?_
          refine zpE_call rfl rfl (f_176 (M := M) (x1 := v131 x1 M) hX) (fun v h1 nc1 ns1 q8 => ?_) (fun E h1 nc1 ns1 q8 => by cases q8.1)
          obtain ⟨q8, q9⟩ := q8
          cases q8
          cases q9
          exact zpE_end rfl rfl (zOq_v (by unfold v177; rw [if_pos z6_0, if_pos z25_1, if_neg z32_2, if_pos z41_3]))
        · have z41_3 := zF_e0 q41
          refine zpE_run 2 (L' := [some (.ref 44), some (.int x1), some (.int (v176 x1 M)), some (.int (v131 x1 M))]) (st' := [.int (v176 x1 M)]) rfl ?_
          exact zpE_end rfl rfl (zOq_v (by unfold v177; rw [if_pos z6_0, if_pos z25_1, if_neg z32_2, if_neg z41_3]))
  · have z6_0 := zF_e0 q6
    refine zpE_run 1 (L' := [some (.ref 44), some (.int x1), none, none]) (st' := [.int (Int32.ofInt (-2))]) rfl ?_
    exact zpE_end rfl rfl (zOq_v (by unfold v177; rw [if_neg z6_0]))
def v178 (x1 : Int32) (M : zRt) : Int32 := if (v138 x1 (zmS M 0 (Int32.ofInt 0))) = ((0 : Int32)) then ((v111 (Int32.ofInt 1) (zmS M 0 (Int32.ofInt 0)))) else ((v177 x1 (zmS M 0 (Int32.ofInt 0))))
def r178 (x1 : Int32) (M : zRt) : zRt := if (v138 x1 (zmS M 0 (Int32.ofInt 0))) = ((0 : Int32)) then ((r111 (Int32.ofInt 1) (zmS M 0 (Int32.ofInt 0)))) else (zmS M 0 (Int32.ofInt 0))
theorem f_178 {x1 : Int32} (hX : zUX kq X M.2.2) : zpM xs N 178 [.ref 44, .int x1] (zy S0 M X) nc ns (zOq (.inl (some (.int (v178 x1 M)))) (zy S0 (r178 x1 M) X)) := by
  intro L0 e
  cases e
  refine zpE_run 4 (L' := [some (.ref 44), some (.int x1)]) (st' := [.int x1]) (h' := zy S0 (zmS M 0 (Int32.ofInt 0)) X) rfl ?_
  refine zpE_call rfl rfl (f_138 (M := zmS M 0 (Int32.ofInt 0)) (x1 := x1) hX) (fun v h1 nc1 ns1 q8 => ?_) (fun E h1 nc1 ns1 q8 => by cases q8.1)
  obtain ⟨q8, q9⟩ := q8
  cases q8
  cases q9
  refine zpE_if rfl (fun q9 => ?_) (fun q9 => ?_)
  · have z9_0 := zF_n1 q9
    refine zpE_run 2 (L' := [some (.ref 44), some (.int x1)]) (st' := [.int x1, .ref 44]) rfl ?_
    refine zpE_call rfl rfl (f_177 (M := zmS M 0 (Int32.ofInt 0)) (x1 := x1) hX) (fun v h1 nc1 ns1 q8 => ?_) (fun E h1 nc1 ns1 q8 => by cases q8.1)
    obtain ⟨q8, q9⟩ := q8
    cases q8
    cases q9
    exact zpE_end rfl rfl (zOr_w (M' := zmS M 0 (Int32.ofInt 0)) (by unfold v178; rw [if_neg z9_0]) (by unfold r178; rw [if_neg z9_0]))
  · have z9_0 := zF_n0 q9
    refine zpE_run 2 (L' := [some (.ref 44), some (.int x1)]) (st' := [.int (Int32.ofInt 1), .ref 44]) rfl ?_
    refine zpE_call rfl rfl (f_111 (M := zmS M 0 (Int32.ofInt 0)) (x1 := Int32.ofInt 1) hX) (fun v h1 nc1 ns1 q8 => ?_) (fun E h1 nc1 ns1 q8 => by cases q8.1)
    obtain ⟨q8, q9⟩ := q8
    cases q8
    cases q9
    obtain ⟨Z1, hZ1⟩ : ∃ Z, Z = r111 (Int32.ofInt 1) (zmS M 0 (Int32.ofInt 0)) := ⟨_, rfl⟩
    rw [← hZ1]
    have hY1 : zUX kq X Z1.2.2 := by
      rw [hZ1, rl_111]
      exact hX
    exact zpE_end rfl rfl (zOr_w (M' := Z1) (by unfold v178; (try rw [← hZ1]); rw [if_pos z9_0]) (by unfold r178; (try rw [← hZ1]); rw [if_pos z9_0]))
theorem gr_178 {x1 : Int32} : zfrM [0] [] [] (r178 x1 M) M := by
  unfold r178
  exact (gm_ite (gm_c gr_111 (gm_c gm_S gm_rf (by decide) (by decide) (by decide)) (by decide) (by decide) (by decide)) (gm_c gm_S gm_rf (by decide) (by decide) (by decide)))
theorem rl_178 {x1 : Int32} : (r178 x1 M).2.2 = M.2.2 := gm_l gr_178
def v165 (x1 : Int32) (x2 : Int32) (M : zRt) : Int32 := if (v112 x1 (Int32.ofInt 0) ((Int32.ofNat ((zmS M 0 (Int32.ofInt 0)).2.2.1 2).length) - (Int32.ofInt 1)) (zmS M 0 (Int32.ofInt 0))) = ((0 : Int32)) then ((v111 (Int32.ofInt 1) (zmS M 0 (Int32.ofInt 0)))) else (if (v112 x2 (Int32.ofInt 0) (Int32.ofInt 2) (zmS M 0 (Int32.ofInt 0))) = ((0 : Int32)) then ((v111 (Int32.ofInt 2) (zmS M 0 (Int32.ofInt 0)))) else ((zgt (((zmS M 0 (Int32.ofInt 0)).2.2.1 2).getD (Int32.toNatClampNeg x1) []) x2)))
def r165 (x1 : Int32) (x2 : Int32) (M : zRt) : zRt := if (v112 x1 (Int32.ofInt 0) ((Int32.ofNat ((zmS M 0 (Int32.ofInt 0)).2.2.1 2).length) - (Int32.ofInt 1)) (zmS M 0 (Int32.ofInt 0))) = ((0 : Int32)) then ((r111 (Int32.ofInt 1) (zmS M 0 (Int32.ofInt 0)))) else (if (v112 x2 (Int32.ofInt 0) (Int32.ofInt 2) (zmS M 0 (Int32.ofInt 0))) = ((0 : Int32)) then ((r111 (Int32.ofInt 2) (zmS M 0 (Int32.ofInt 0)))) else (zmS M 0 (Int32.ofInt 0)))
theorem f_165 {x1 x2 : Int32} (hX : zUX kq X M.2.2) : zpM xs N 165 [.ref 44, .int x1, .int x2] (zy S0 M X) nc ns (zOq (.inl (some (.int (v165 x1 x2 M)))) (zy S0 (r165 x1 x2 M) X)) := by
  intro L0 e
  cases e
  refine zpE_run 7 (L' := [some (.ref 44), some (.int x1), some (.int x2)]) (st' := [.ref (X.1 2), .int (Int32.ofInt 0), .int x1]) (h' := zy S0 (zmS M 0 (Int32.ofInt 0)) X) rfl ?_
  obtain ⟨vs1, lc1⟩ := zUX_lc (S0 := S0) (M := zmS M 0 (Int32.ofInt 0)) (i := 2) (by decide) hX
  refine zpE_call rfl (show zcallV 0 10 243 16 (.ref (X.1 2) :: _) (zy S0 (zmS M 0 (Int32.ofInt 0)) X) = _ from zcallV_eq rfl lc1 (Nat.le_of_ble_eq_true rfl)) (zul_243 (i := 2) (by decide) hX) (fun v h1 nc1 ns1 q8 => ?_) (fun E h1 nc1 ns1 q8 => by cases q8)
  cases q8
  refine zpE_run 2 (L' := [some (.ref 44), some (.int x1), some (.int x2)]) (st' := [.int ((Int32.ofNat ((zmS M 0 (Int32.ofInt 0)).2.2.1 2).length) - (Int32.ofInt 1)), .int (Int32.ofInt 0), .int x1]) rfl ?_
  refine zpE_call rfl rfl (f_112 (M := zmS M 0 (Int32.ofInt 0)) (x1 := x1) (x2 := Int32.ofInt 0) (x3 := (Int32.ofNat ((zmS M 0 (Int32.ofInt 0)).2.2.1 2).length) - (Int32.ofInt 1)) hX) (fun v h1 nc1 ns1 q8 => ?_) (fun E h1 nc1 ns1 q8 => by cases q8.1)
  obtain ⟨q8, q9⟩ := q8
  cases q8
  cases q9
  refine zpE_if rfl (fun q21 => ?_) (fun q21 => ?_)
  · have z21_0 := zF_n1 q21
    refine zpE_run 3 (L' := [some (.ref 44), some (.int x1), some (.int x2)]) (st' := [.int (Int32.ofInt 2), .int (Int32.ofInt 0), .int x2]) rfl ?_
    refine zpE_call rfl rfl (f_112 (M := zmS M 0 (Int32.ofInt 0)) (x1 := x2) (x2 := Int32.ofInt 0) (x3 := Int32.ofInt 2) hX) (fun v h1 nc1 ns1 q8 => ?_) (fun E h1 nc1 ns1 q8 => by cases q8.1)
    obtain ⟨q8, q9⟩ := q8
    cases q8
    cases q9
    refine zpE_if rfl (fun q36 => ?_) (fun q36 => ?_)
    · have z36_1 := zF_n1 q36
      refine zpE_run 3 (L' := [some (.ref 44), some (.int x1), some (.int x2)]) (st' := [.int x1, .ref (X.1 2)]) rfl ?_
      have n2 : ¬ x1 < 0 ∧ (Int32.toNatClampNeg x1) < ((zmS M 0 (Int32.ofInt 0)).2.2.1 2).length := (zeg_2 (M := zmS M 0 (Int32.ofInt 0)) z21_0 hX)
      obtain ⟨vs3, lc3⟩ := zUX_lc (S0 := S0) (M := zmS M 0 (Int32.ofInt 0)) (i := 2) (by decide) hX
      refine zpE_call rfl (show zcallV 1 10 239 55 (.int x1 :: .ref (X.1 2) :: _) (zy S0 (zmS M 0 (Int32.ofInt 0)) X) = _ from zcallV_eq rfl lc3 (Nat.le_of_ble_eq_true rfl)) (zul_239 (i := 2) (j := x1) (by decide) hX n2) (fun v h1 nc1 ns1 q8 => ?_) (fun E h1 nc1 ns1 q8 => by cases q8)
      cases q8
      refine zpE_chk rfl (zUX_e hX n2) ?_
      refine zpE_run 1 (L' := [some (.ref 44), some (.int x1), some (.int x2)]) (st' := [.int x2, .ref (zel X 2 x1)]) rfl ?_
      refine zpE_aly rfl (zUX_e hX n2) (fun _ _ => ?_)
      refine zpE_gen (fun nc ns => ?_)
      exact zpE_end rfl rfl (zOr_w (M' := zmS M 0 (Int32.ofInt 0)) (by unfold v165; rw [if_neg z21_0, if_neg z36_1]) (by unfold r165; rw [if_neg z21_0, if_neg z36_1]))
    · have z36_1 := zF_n0 q36
      refine zpE_run 2 (L' := [some (.ref 44), some (.int x1), some (.int x2)]) (st' := [.int (Int32.ofInt 2), .ref 44]) rfl ?_
      refine zpE_call rfl rfl (f_111 (M := zmS M 0 (Int32.ofInt 0)) (x1 := Int32.ofInt 2) hX) (fun v h1 nc1 ns1 q8 => ?_) (fun E h1 nc1 ns1 q8 => by cases q8.1)
      obtain ⟨q8, q9⟩ := q8
      cases q8
      cases q9
      obtain ⟨Z1, hZ1⟩ : ∃ Z, Z = r111 (Int32.ofInt 2) (zmS M 0 (Int32.ofInt 0)) := ⟨_, rfl⟩
      rw [← hZ1]
      have hY4 : zUX kq X Z1.2.2 := by
        rw [hZ1, rl_111]
        exact hX
      exact zpE_end rfl rfl (zOr_w (M' := Z1) (by unfold v165; (try rw [← hZ1]); rw [if_neg z21_0, if_pos z36_1]) (by unfold r165; (try rw [← hZ1]); rw [if_neg z21_0, if_pos z36_1]))
  · have z21_0 := zF_n0 q21
    refine zpE_run 2 (L' := [some (.ref 44), some (.int x1), some (.int x2)]) (st' := [.int (Int32.ofInt 1), .ref 44]) rfl ?_
    refine zpE_call rfl rfl (f_111 (M := zmS M 0 (Int32.ofInt 0)) (x1 := Int32.ofInt 1) hX) (fun v h1 nc1 ns1 q8 => ?_) (fun E h1 nc1 ns1 q8 => by cases q8.1)
    obtain ⟨q8, q9⟩ := q8
    cases q8
    cases q9
    obtain ⟨Z2, hZ2⟩ : ∃ Z, Z = r111 (Int32.ofInt 1) (zmS M 0 (Int32.ofInt 0)) := ⟨_, rfl⟩
    rw [← hZ2]
    have hY5 : zUX kq X Z2.2.2 := by
      rw [hZ2, rl_111]
      exact hX
    exact zpE_end rfl rfl (zOr_w (M' := Z2) (by unfold v165; (try rw [← hZ2]); rw [if_pos z21_0]) (by unfold r165; (try rw [← hZ2]); rw [if_pos z21_0]))
theorem gr_165 {x1 x2 : Int32} : zfrM [0] [] [] (r165 x1 x2 M) M := by
  unfold r165
  exact (gm_ite (gm_c gr_111 (gm_c gm_S gm_rf (by decide) (by decide) (by decide)) (by decide) (by decide) (by decide)) (gm_ite (gm_c gr_111 (gm_c gm_S gm_rf (by decide) (by decide) (by decide)) (by decide) (by decide) (by decide)) (gm_c gm_S gm_rf (by decide) (by decide) (by decide))))
theorem rl_165 {x1 x2 : Int32} : (r165 x1 x2 M).2.2 = M.2.2 := gm_l gr_165
end ZRE
