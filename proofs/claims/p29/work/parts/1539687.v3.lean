set_option maxRecDepth 20000
section ZRE
variable {S0 : zSt} {M : zRt} {X : zXt} {kq : Nat × Nat × List Value} {xs : List Int32} {N : Nat} {nc ns : Nat}
def d156 (x1 : Int32) (M : zRt) (k : Nat) (u : Int32) : Int32 := if (zwg 31 (Int32.ofInt 0) ((Int32.ofNat k))) = x1 then (if (zkd M.2.2.2 ((Int32.ofNat k))) = (Int32.ofInt 1) then (u + (Int32.ofInt 1)) else (u + (Int32.ofInt 0))) else (u + (Int32.ofInt 0))
def w156 (x1 : Int32) (M : zRt) (u0 : Int32) : Nat → Int32
  | 0 => u0
  | k + 1 => d156 x1 M k (w156 x1 M u0 k)
def y156 (x1 : Int32) (M : zRt) (u : Int32) : Int32 := u
theorem l_r156 {x1 : Int32} {u0 : Int32} (hX : zUX kq X M.2.2) : ∀ (N k : Nat) (nc ns : Nat), k ≤ (Int32.ofInt 1 <<< ((M.1 1 + M.1 2) &&& 31)).toInt.toNat → zpE xs N 156 4 [some (.ref 44), some (.int x1), some (.int ((w156 x1 M u0 k))), some (.int (Int32.ofNat k))] [] (zy S0 M X) nc ns (zOq (.inl (some (.int (y156 x1 M (w156 x1 M u0 (Int32.ofInt 1 <<< ((M.1 1 + M.1 2) &&& 31)).toInt.toNat))))) (zy S0 M X))
  | 0, _, _, _, _ => zpE_0
  | N + 1, k, nc, ns, hk => by
    refine zpE_run1 2 (L' := [some (.ref 44), some (.int x1), some (.int ((w156 x1 M u0 k))), some (.int (Int32.ofNat k))]) (st' := [.ref 44, .int (Int32.ofInt 1), .int (Int32.ofNat k)]) rfl ?_
    refine zpE_call rfl rfl (r_117 (zy_mc (M := M) hX)) (fun v h1 nc1 ns1 q8 => ?_) (fun E h1 nc1 ns1 q8 => by cases q8)
    cases q8
    refine zpE_run 1 (L' := [some (.ref 44), some (.int x1), some (.int ((w156 x1 M u0 k))), some (.int (Int32.ofNat k))]) (st' := [.int ((Int32.ofInt 1) <<< ((M.1 1 + M.1 2) &&& 31)), .int (Int32.ofNat k)]) rfl ?_
    refine zpE_icmp rfl (fun q11 => ?_) (fun q11 => ?_)
    · have z11_0 := Int.not_lt.mpr (zF_ge_t q11)
      refine zpE_run 1 (L' := [some (.ref 44), some (.int x1), some (.int ((w156 x1 M u0 k))), some (.int (Int32.ofNat k))]) (st' := [.int ((w156 x1 M u0 k))]) rfl ?_
      exact zpE_end rfl rfl (by rw [← zlp_out z11_0 hk]; exact zOq_v (by unfold y156; (first | done | rfl)))
    · have z11_0 := zF_ge_f q11
      refine zpE_run 2 (L' := [some (.ref 44), some (.int x1), some (.int ((w156 x1 M u0 k))), some (.int (Int32.ofNat k))]) (st' := [.int (Int32.ofNat k), .int ((w156 x1 M u0 k))]) rfl ?_
      refine zpE_call rfl rfl (g_wg (x := Int32.ofNat k)) (fun v h1 nc1 ns1 q8 => ?_) (fun E h1 nc1 ns1 q8 => by cases q8.1)
      obtain ⟨q8, q9⟩ := q8
      cases q8
      cases q9
      refine zpE_run 1 (L' := [some (.ref 44), some (.int x1), some (.int ((w156 x1 M u0 k))), some (.int (Int32.ofNat k))]) (st' := [.int x1, .int (zwg 31 (Int32.ofInt 0) (Int32.ofNat k)), .int ((w156 x1 M u0 k))]) rfl ?_
      refine zpE_icmp rfl (fun q20 => ?_) (fun q20 => ?_)
      · have z20_1 := zF_n1 q20
        refine zpE_run 5 (L' := [some (.ref 44), some (.int x1), some (.int (((w156 x1 M u0 k)) + (Int32.ofInt 0))), some (.int ((Int32.ofNat k) + Int32.ofInt 1))]) (st' := []) rfl ?_
        have eW : w156 x1 M u0 (k + 1) = ((w156 x1 M u0 k)) + (Int32.ofInt 0) := by
          show d156 x1 M k _ = _
          unfold d156
          rw [if_neg z20_1]
        have K := fun nc ns => l_r156 (x1 := x1) (u0 := u0) hX N (k + 1) nc ns (zlp_in z11_0 hk)
        rw [← zof1, eW] at K
        exact K _ _
      · have z20_1 := zF_n0 q20
        refine zpE_run 2 (L' := [some (.ref 44), some (.int x1), some (.int ((w156 x1 M u0 k))), some (.int (Int32.ofNat k))]) (st' := [.int (Int32.ofNat k), .ref 44, .int ((w156 x1 M u0 k))]) rfl ?_
        refine zpE_call rfl rfl (r_121 (zy_mc (M := M) hX)) (fun v h1 nc1 ns1 q8 => ?_) (fun E h1 nc1 ns1 q8 => by cases q8)
        cases q8
        refine zpE_run 1 (L' := [some (.ref 44), some (.int x1), some (.int ((w156 x1 M u0 k))), some (.int (Int32.ofNat k))]) (st' := [.int (Int32.ofInt 1), .int (zkd M.2.2.2 (Int32.ofNat k)), .int ((w156 x1 M u0 k))]) rfl ?_
        refine zpE_icmp rfl (fun q29 => ?_) (fun q29 => ?_)
        · have z29_2 := zF_n1 q29
          refine zpE_run 5 (L' := [some (.ref 44), some (.int x1), some (.int (((w156 x1 M u0 k)) + (Int32.ofInt 0))), some (.int ((Int32.ofNat k) + Int32.ofInt 1))]) (st' := []) rfl ?_
          have eW : w156 x1 M u0 (k + 1) = ((w156 x1 M u0 k)) + (Int32.ofInt 0) := by
            show d156 x1 M k _ = _
            unfold d156
            rw [if_pos z20_1, if_neg z29_2]
          have K := fun nc ns => l_r156 (x1 := x1) (u0 := u0) hX N (k + 1) nc ns (zlp_in z11_0 hk)
          rw [← zof1, eW] at K
          exact K _ _
        · have z29_2 := zF_n0 q29
          refine zpE_run 6 (L' := [some (.ref 44), some (.int x1), some (.int (((w156 x1 M u0 k)) + (Int32.ofInt 1))), some (.int ((Int32.ofNat k) + Int32.ofInt 1))]) (st' := []) rfl ?_
          have eW : w156 x1 M u0 (k + 1) = ((w156 x1 M u0 k)) + (Int32.ofInt 1) := by
            show d156 x1 M k _ = _
            unfold d156
            rw [if_pos z20_1, if_pos z29_2]
          have K := fun nc ns => l_r156 (x1 := x1) (u0 := u0) hX N (k + 1) nc ns (zlp_in z11_0 hk)
          rw [← zof1, eW] at K
          exact K _ _
def v156 (x1 : Int32) (M : zRt) : Int32 := y156 x1 M (w156 x1 M (Int32.ofInt 0) (Int32.ofInt 1 <<< ((M.1 1 + M.1 2) &&& 31)).toInt.toNat)
theorem f_156 {x1 : Int32} (hX : zUX kq X M.2.2) : zpM xs N 156 [.ref 44, .int x1] (zy S0 M X) nc ns (zOq (.inl (some (.int (v156 x1 M)))) (zy S0 M X)) := by
  intro L0 e
  cases e
  refine zpE_run 4 rfl ?_
  exact l_r156 (x1 := x1) (M := M) (u0 := Int32.ofInt 0) hX N 0 _ _ (Nat.zero_le _)
def v157 (x1 : Int32) (M : zRt) : Int32 := if (v112 x1 (Int32.ofInt 2) (Int32.ofInt 3) (zmS M 0 (Int32.ofInt 0))) = ((0 : Int32)) then ((v111 (Int32.ofInt 1) (zmS M 0 (Int32.ofInt 0)))) else ((v156 x1 (zmS M 0 (Int32.ofInt 0))))
def r157 (x1 : Int32) (M : zRt) : zRt := if (v112 x1 (Int32.ofInt 2) (Int32.ofInt 3) (zmS M 0 (Int32.ofInt 0))) = ((0 : Int32)) then ((r111 (Int32.ofInt 1) (zmS M 0 (Int32.ofInt 0)))) else (zmS M 0 (Int32.ofInt 0))
theorem f_157 {x1 : Int32} (hX : zUX kq X M.2.2) : zpM xs N 157 [.ref 44, .int x1] (zy S0 M X) nc ns (zOq (.inl (some (.int (v157 x1 M)))) (zy S0 (r157 x1 M) X)) := by
  intro L0 e
  cases e
  refine zpE_run 6 (L' := [some (.ref 44), some (.int x1)]) (st' := [.int (Int32.ofInt 3), .int (Int32.ofInt 2), .int x1]) (h' := zy S0 (zmS M 0 (Int32.ofInt 0)) X) rfl ?_
  refine zpE_call rfl rfl (f_112 (M := zmS M 0 (Int32.ofInt 0)) (x1 := x1) (x2 := Int32.ofInt 2) (x3 := Int32.ofInt 3) hX) (fun v h1 nc1 ns1 q8 => ?_) (fun E h1 nc1 ns1 q8 => by cases q8.1)
  obtain ⟨q8, q9⟩ := q8
  cases q8
  cases q9
  refine zpE_if rfl (fun q11 => ?_) (fun q11 => ?_)
  · have z11_0 := zF_n1 q11
    refine zpE_run 2 (L' := [some (.ref 44), some (.int x1)]) (st' := [.int x1, .ref 44]) rfl ?_
    refine zpE_call rfl rfl (f_156 (M := zmS M 0 (Int32.ofInt 0)) (x1 := x1) hX) (fun v h1 nc1 ns1 q8 => ?_) (fun E h1 nc1 ns1 q8 => by cases q8.1)
    obtain ⟨q8, q9⟩ := q8
    cases q8
    cases q9
    exact zpE_end rfl rfl (zOr_w (M' := zmS M 0 (Int32.ofInt 0)) (by unfold v157; rw [if_neg z11_0]) (by unfold r157; rw [if_neg z11_0]))
  · have z11_0 := zF_n0 q11
    refine zpE_run 2 (L' := [some (.ref 44), some (.int x1)]) (st' := [.int (Int32.ofInt 1), .ref 44]) rfl ?_
    refine zpE_call rfl rfl (f_111 (M := zmS M 0 (Int32.ofInt 0)) (x1 := Int32.ofInt 1) hX) (fun v h1 nc1 ns1 q8 => ?_) (fun E h1 nc1 ns1 q8 => by cases q8.1)
    obtain ⟨q8, q9⟩ := q8
    cases q8
    cases q9
    obtain ⟨Z1, hZ1⟩ : ∃ Z, Z = r111 (Int32.ofInt 1) (zmS M 0 (Int32.ofInt 0)) := ⟨_, rfl⟩
    rw [← hZ1]
    have hY1 : zUX kq X Z1.2.2 := by
      rw [hZ1, rl_111]
      exact hX
    exact zpE_end rfl rfl (zOr_w (M' := Z1) (by unfold v157; (try rw [← hZ1]); rw [if_pos z11_0]) (by unfold r157; (try rw [← hZ1]); rw [if_pos z11_0]))
theorem gr_157 {x1 : Int32} : zfrM [0] [] [] (r157 x1 M) M := by
  unfold r157
  exact (gm_ite (gm_c gr_111 (gm_c gm_S gm_rf (by decide) (by decide) (by decide)) (by decide) (by decide) (by decide)) (gm_c gm_S gm_rf (by decide) (by decide) (by decide)))
theorem rl_157 {x1 : Int32} : (r157 x1 M).2.2 = M.2.2 := gm_l gr_157
end ZRE
