section ZCA
variable {xs : List Int32} {N : Nat} {S : zSt} {T : zH} {nc ns : Nat}
def V37 (x1 : Int32) (x2 : Int32) (S : zSt) : Int32 := if (zgt (S.2 13) x2) = (Int32.ofInt (-1)) then ((Int32.ofInt 0)) else (if (zqtd (zgt (S.2 12) x2) (Int32.ofInt 64)) = x1 then ((Int32.ofInt 1)) else ((Int32.ofInt 0)))
theorem e_37 {x1 x2 : Int32} (HL : zaL S.2) : zpM xs N 37 [.ref 29, .int x1, .int x2] (zx S.1 S.2 T) nc ns (zOq (.inl (some (.int (V37 x1 x2 S)))) (zx S.1 S.2 T)) := by
  intro L0 e
  cases e
  refine zpE_run 3 (L' := [some (.ref 29), some (.int x1), some (.int x2)]) (st' := [.int x2, .ref 32]) rfl ?_
  refine zpE_call rfl rfl (p_25 13 33 32 rfl rfl (HL : zaL S.2)) (fun v h1 nc1 ns1 q8 => ?_) (fun E h1 nc1 ns1 q8 => by cases q8)
  cases q8
  refine zpE_run 1 (L' := [some (.ref 29), some (.int x1), some (.int x2)]) (st' := [.int (Int32.ofInt (-1)), .int (zgt (S.2 13) x2)]) rfl ?_
  refine zpE_icmp rfl (fun q9 => ?_) (fun q9 => ?_)
  · have z9_0 := zF_e1 q9
    refine zpE_run 1 (L' := [some (.ref 29), some (.int x1), some (.int x2)]) (st' := [.int (Int32.ofInt 0)]) rfl ?_
    exact zpE_end rfl rfl (zOq_v (by unfold V37; rw [if_pos z9_0]))
  · have z9_0 := zF_e0 q9
    refine zpE_run 3 (L' := [some (.ref 29), some (.int x1), some (.int x2)]) (st' := [.int x2, .ref 30]) rfl ?_
    refine zpE_call rfl rfl (p_25 12 31 30 rfl rfl (HL : zaL S.2)) (fun v h1 nc1 ns1 q8 => ?_) (fun E h1 nc1 ns1 q8 => by cases q8)
    cases q8
    refine zpE_run 1 (L' := [some (.ref 29), some (.int x1), some (.int x2)]) (st' := [.int (Int32.ofInt 64), .int (zgt (S.2 12) x2)]) rfl ?_
    refine zpE_idiv rfl (fun _ => ?_)
    refine zpE_run 1 (L' := [some (.ref 29), some (.int x1), some (.int x2)]) (st' := [.int x1, .int (zqtd (zgt (S.2 12) x2) (Int32.ofInt 64))]) rfl ?_
    refine zpE_icmp rfl (fun q24 => ?_) (fun q24 => ?_)
    · have z24_1 := zF_n1 q24
      refine zpE_run 1 (L' := [some (.ref 29), some (.int x1), some (.int x2)]) (st' := [.int (Int32.ofInt 0)]) rfl ?_
      exact zpE_end rfl rfl (zOq_v (by unfold V37; rw [if_neg z9_0, if_neg z24_1]))
    · have z24_1 := zF_n0 q24
      refine zpE_run 2 (L' := [some (.ref 29), some (.int x1), some (.int x2)]) (st' := [.int (Int32.ofInt 1)]) rfl ?_
      exact zpE_end rfl rfl (zOq_v (by unfold V37; rw [if_neg z9_0, if_pos z24_1]))
def V34 (x1 : Int32) (x2 : Int32) (x3 : Int32) (x4 : Int32) (S : zSt) : Int32 := if x1 = (Int32.ofInt 3) then x4 else (if x1 = (Int32.ofInt 2) then x3 else x2)
theorem e_34 {x1 x2 x3 x4 : Int32} (HL : zaL S.2) : zpM xs N 34 [.int x1, .int x2, .int x3, .int x4] (zx S.1 S.2 T) nc ns (zOq (.inl (some (.int (V34 x1 x2 x3 x4 S)))) (zx S.1 S.2 T)) := by
  intro L0 e
  cases e
  refine zpE_run 2 (L' := [some (.int x1), some (.int x2), some (.int x3), some (.int x4)]) (st' := [.int (Int32.ofInt 3), .int x1]) rfl ?_
  refine zpE_icmp rfl (fun q2 => ?_) (fun q2 => ?_)
  · have z2_0 := zF_n1 q2
    refine zpE_run 2 (L' := [some (.int x1), some (.int x2), some (.int x3), some (.int x4)]) (st' := [.int (Int32.ofInt 2), .int x1]) rfl ?_
    refine zpE_icmp rfl (fun q9 => ?_) (fun q9 => ?_)
    · have z9_1 := zF_n1 q9
      refine zpE_run 1 (L' := [some (.int x1), some (.int x2), some (.int x3), some (.int x4)]) (st' := [.int x2]) rfl ?_
      exact zpE_end rfl rfl (zOq_v (by unfold V34; rw [if_neg z2_0, if_neg z9_1]))
    · have z9_1 := zF_n0 q9
      refine zpE_run 2 (L' := [some (.int x1), some (.int x2), some (.int x3), some (.int x4)]) (st' := [.int x3]) rfl ?_
      exact zpE_end rfl rfl (zOq_v (by unfold V34; rw [if_neg z2_0, if_pos z9_1]))
  · have z2_0 := zF_n0 q2
    refine zpE_run 1 (L' := [some (.int x1), some (.int x2), some (.int x3), some (.int x4)]) (st' := [.int x4]) rfl ?_
    exact zpE_end rfl rfl (zOq_v (by unfold V34; rw [if_pos z2_0]))
def D33 (x1 : Int32) (x2 : Int32) (x3 : Int32) (S : zSt) (k : Nat) (u : Int32) : Int32 := if (V37 x1 ((Int32.ofNat k)) S) = ((0 : Int32)) then u else (if (V34 x2 (zgt (S.2 13) ((Int32.ofNat k))) (zqtd (zrmd (zgt (S.2 12) ((Int32.ofNat k))) (Int32.ofInt 64)) (Int32.ofInt 8)) (zrmd (zgt (S.2 12) ((Int32.ofNat k))) (Int32.ofInt 8)) S) = x3 then (if x2 = (Int32.ofInt 2) then (u ||| ((Int32.ofInt 1) <<< ((zrmd (zgt (S.2 12) ((Int32.ofNat k))) (Int32.ofInt 8)) &&& 31))) else (u ||| ((Int32.ofInt 1) <<< ((zqtd (zrmd (zgt (S.2 12) ((Int32.ofNat k))) (Int32.ofInt 64)) (Int32.ofInt 8)) &&& 31)))) else u)
def W33 (x1 : Int32) (x2 : Int32) (x3 : Int32) (S : zSt) (u0 : Int32) : Nat → Int32
  | 0 => u0
  | k + 1 => D33 x1 x2 x3 S k (W33 x1 x2 x3 S u0 k)
def Y33 (x1 : Int32) (x2 : Int32) (x3 : Int32) (S : zSt) (u : Int32) : Int32 := if (zbc u).toInt < (Int32.ofInt 3).toInt then ((Int32.ofInt 0)) else ((Int32.ofInt 1))
theorem l_33 {x1 x2 x3 : Int32} {u0 : Int32} (HL : zaL S.2) : ∀ (N k : Nat) (o6 : Option Value) (o7 : Option Value) (nc ns : Nat), k ≤ (S.1 11).toInt.toNat → zpE xs N 33 6 [some (.ref 29), some (.int x1), some (.int x2), some (.int x3), some (.int ((W33 x1 x2 x3 S u0 k))), some (.int (Int32.ofNat k)), o6, o7] [] (zx S.1 S.2 T) nc ns (zOq (.inl (some (.int (Y33 x1 x2 x3 S (W33 x1 x2 x3 S u0 (S.1 11).toInt.toNat))))) (zx S.1 S.2 T))
  | 0, _, _, _, _, _, _ => zpE_0
  | N + 1, k, o6, o7, nc, ns, hk => by
    refine zpE_run1 2 (L' := [some (.ref 29), some (.int x1), some (.int x2), some (.int x3), some (.int ((W33 x1 x2 x3 S u0 k))), some (.int (Int32.ofNat k)), o6, o7]) (st' := [.int (S.1 11), .int (Int32.ofNat k)]) rfl ?_
    refine zpE_icmp rfl (fun q12 => ?_) (fun q12 => ?_)
    · have z12_0 := Int.not_lt.mpr (zF_ge_t q12)
      refine zpE_run 1 (L' := [some (.ref 29), some (.int x1), some (.int x2), some (.int x3), some (.int ((W33 x1 x2 x3 S u0 k))), some (.int (Int32.ofNat k)), o6, o7]) (st' := [.int ((W33 x1 x2 x3 S u0 k))]) rfl ?_
      refine zpE_call rfl rfl ((zpM_of (t_229 (D := 0)))) (fun v h1 nc1 ns1 q8 => ?_) (fun E h1 nc1 ns1 q8 => by cases q8)
      cases q8
      refine zpE_run 1 (L' := [some (.ref 29), some (.int x1), some (.int x2), some (.int x3), some (.int ((W33 x1 x2 x3 S u0 k))), some (.int (Int32.ofNat k)), o6, o7]) (st' := [.int (Int32.ofInt 3), .int (zbc ((W33 x1 x2 x3 S u0 k)))]) rfl ?_
      refine zpE_icmp rfl (fun q108 => ?_) (fun q108 => ?_)
      · have z108_1 := zF_lt_t q108
        refine zpE_run 1 (L' := [some (.ref 29), some (.int x1), some (.int x2), some (.int x3), some (.int ((W33 x1 x2 x3 S u0 k))), some (.int (Int32.ofNat k)), o6, o7]) (st' := [.int (Int32.ofInt 0)]) rfl ?_
        exact zpE_end rfl rfl (by rw [← zlp_out z12_0 hk]; exact zOq_v (by unfold Y33; rw [if_pos z108_1]))
      · have z108_1 := Int.not_lt.mpr (zF_lt_f q108)
        refine zpE_run 2 (L' := [some (.ref 29), some (.int x1), some (.int x2), some (.int x3), some (.int ((W33 x1 x2 x3 S u0 k))), some (.int (Int32.ofNat k)), o6, o7]) (st' := [.int (Int32.ofInt 1)]) rfl ?_
        exact zpE_end rfl rfl (by rw [← zlp_out z12_0 hk]; exact zOq_v (by unfold Y33; rw [if_neg z108_1]))
    · have z12_0 := zF_ge_f q12
      refine zpE_run 3 (L' := [some (.ref 29), some (.int x1), some (.int x2), some (.int x3), some (.int ((W33 x1 x2 x3 S u0 k))), some (.int (Int32.ofNat k)), o6, o7]) (st' := [.int (Int32.ofNat k), .ref 30]) rfl ?_
      refine zpE_call rfl rfl (p_25 12 31 30 rfl rfl (HL : zaL S.2)) (fun v h1 nc1 ns1 q8 => ?_) (fun E h1 nc1 ns1 q8 => by cases q8)
      cases q8
      refine zpE_run 1 (L' := [some (.ref 29), some (.int x1), some (.int x2), some (.int x3), some (.int ((W33 x1 x2 x3 S u0 k))), some (.int (Int32.ofNat k)), o6, o7]) (st' := [.int (Int32.ofInt 64), .int (zgt (S.2 12) (Int32.ofNat k))]) rfl ?_
      refine zpE_irem rfl (fun _ => ?_)
      refine zpE_run 1 (L' := [some (.ref 29), some (.int x1), some (.int x2), some (.int x3), some (.int ((W33 x1 x2 x3 S u0 k))), some (.int (Int32.ofNat k)), o6, o7]) (st' := [.int (Int32.ofInt 8), .int (zrmd (zgt (S.2 12) (Int32.ofNat k)) (Int32.ofInt 64))]) rfl ?_
      refine zpE_idiv rfl (fun _ => ?_)
      refine zpE_run 4 (L' := [some (.ref 29), some (.int x1), some (.int x2), some (.int x3), some (.int ((W33 x1 x2 x3 S u0 k))), some (.int (Int32.ofNat k)), some (.int (zqtd (zrmd (zgt (S.2 12) (Int32.ofNat k)) (Int32.ofInt 64)) (Int32.ofInt 8))), o7]) (st' := [.int (Int32.ofNat k), .ref 30]) rfl ?_
      refine zpE_call rfl rfl (p_25 12 31 30 rfl rfl (HL : zaL S.2)) (fun v h1 nc1 ns1 q8 => ?_) (fun E h1 nc1 ns1 q8 => by cases q8)
      cases q8
      refine zpE_run 1 (L' := [some (.ref 29), some (.int x1), some (.int x2), some (.int x3), some (.int ((W33 x1 x2 x3 S u0 k))), some (.int (Int32.ofNat k)), some (.int (zqtd (zrmd (zgt (S.2 12) (Int32.ofNat k)) (Int32.ofInt 64)) (Int32.ofInt 8))), o7]) (st' := [.int (Int32.ofInt 8), .int (zgt (S.2 12) (Int32.ofNat k))]) rfl ?_
      refine zpE_irem rfl (fun _ => ?_)
      refine zpE_run 4 (L' := [some (.ref 29), some (.int x1), some (.int x2), some (.int x3), some (.int ((W33 x1 x2 x3 S u0 k))), some (.int (Int32.ofNat k)), some (.int (zqtd (zrmd (zgt (S.2 12) (Int32.ofNat k)) (Int32.ofInt 64)) (Int32.ofInt 8))), some (.int (zrmd (zgt (S.2 12) (Int32.ofNat k)) (Int32.ofInt 8)))]) (st' := [.int (Int32.ofNat k), .int x1, .ref 29]) rfl ?_
      refine zpE_call rfl rfl (e_37 (S := S) (x1 := x1) (x2 := Int32.ofNat k) HL) (fun v h1 nc1 ns1 q8 => ?_) (fun E h1 nc1 ns1 q8 => by cases q8.1)
      obtain ⟨q8, q9⟩ := q8
      cases q8
      cases q9
      refine zpE_if rfl (fun q53 => ?_) (fun q53 => ?_)
      · have z53_1 := zF_e1 q53
        refine zpE_run 2 (L' := [some (.ref 29), some (.int x1), some (.int x2), some (.int x3), some (.int ((W33 x1 x2 x3 S u0 k))), some (.int ((Int32.ofNat k) + Int32.ofInt 1)), some (.int (zqtd (zrmd (zgt (S.2 12) (Int32.ofNat k)) (Int32.ofInt 64)) (Int32.ofInt 8))), some (.int (zrmd (zgt (S.2 12) (Int32.ofNat k)) (Int32.ofInt 8)))]) (st' := []) rfl ?_
        have K := fun o6 o7 nc ns => l_33 (x1 := x1) (x2 := x2) (x3 := x3) (u0 := u0) HL N (k + 1) o6 o7 nc ns (zlp_in z12_0 hk)
        rw [← zof1, show W33 x1 x2 x3 S u0 (k + 1) = (W33 x1 x2 x3 S u0 k) from by
            show D33 x1 x2 x3 S k _ = _
            unfold D33
            rw [if_pos z53_1]] at K
        exact K _ _ _ _
      · have z53_1 := zF_e0 q53
        refine zpE_run 4 (L' := [some (.ref 29), some (.int x1), some (.int x2), some (.int x3), some (.int ((W33 x1 x2 x3 S u0 k))), some (.int (Int32.ofNat k)), some (.int (zqtd (zrmd (zgt (S.2 12) (Int32.ofNat k)) (Int32.ofInt 64)) (Int32.ofInt 8))), some (.int (zrmd (zgt (S.2 12) (Int32.ofNat k)) (Int32.ofInt 8)))]) (st' := [.int (Int32.ofNat k), .ref 32, .int x2]) rfl ?_
        refine zpE_call rfl rfl (p_25 13 33 32 rfl rfl (HL : zaL S.2)) (fun v h1 nc1 ns1 q8 => ?_) (fun E h1 nc1 ns1 q8 => by cases q8)
        cases q8
        refine zpE_run 2 (L' := [some (.ref 29), some (.int x1), some (.int x2), some (.int x3), some (.int ((W33 x1 x2 x3 S u0 k))), some (.int (Int32.ofNat k)), some (.int (zqtd (zrmd (zgt (S.2 12) (Int32.ofNat k)) (Int32.ofInt 64)) (Int32.ofInt 8))), some (.int (zrmd (zgt (S.2 12) (Int32.ofNat k)) (Int32.ofInt 8)))]) (st' := [.int (zrmd (zgt (S.2 12) (Int32.ofNat k)) (Int32.ofInt 8)), .int (zqtd (zrmd (zgt (S.2 12) (Int32.ofNat k)) (Int32.ofInt 64)) (Int32.ofInt 8)), .int (zgt (S.2 13) (Int32.ofNat k)), .int x2]) rfl ?_
        refine zpE_call rfl rfl (e_34 (S := S) (x1 := x2) (x2 := zgt (S.2 13) (Int32.ofNat k)) (x3 := zqtd (zrmd (zgt (S.2 12) (Int32.ofNat k)) (Int32.ofInt 64)) (Int32.ofInt 8)) (x4 := zrmd (zgt (S.2 12) (Int32.ofNat k)) (Int32.ofInt 8)) HL) (fun v h1 nc1 ns1 q8 => ?_) (fun E h1 nc1 ns1 q8 => by cases q8.1)
        obtain ⟨q8, q9⟩ := q8
        cases q8
        cases q9
        refine zpE_run 1 (L' := [some (.ref 29), some (.int x1), some (.int x2), some (.int x3), some (.int ((W33 x1 x2 x3 S u0 k))), some (.int (Int32.ofNat k)), some (.int (zqtd (zrmd (zgt (S.2 12) (Int32.ofNat k)) (Int32.ofInt 64)) (Int32.ofInt 8))), some (.int (zrmd (zgt (S.2 12) (Int32.ofNat k)) (Int32.ofInt 8)))]) (st' := [.int x3, .int (V34 x2 (zgt (S.2 13) (Int32.ofNat k)) (zqtd (zrmd (zgt (S.2 12) (Int32.ofNat k)) (Int32.ofInt 64)) (Int32.ofInt 8)) (zrmd (zgt (S.2 12) (Int32.ofNat k)) (Int32.ofInt 8)) S)]) rfl ?_
        refine zpE_icmp rfl (fun q74 => ?_) (fun q74 => ?_)
        · have z74_2 := zF_n1 q74
          refine zpE_run 2 (L' := [some (.ref 29), some (.int x1), some (.int x2), some (.int x3), some (.int ((W33 x1 x2 x3 S u0 k))), some (.int ((Int32.ofNat k) + Int32.ofInt 1)), some (.int (zqtd (zrmd (zgt (S.2 12) (Int32.ofNat k)) (Int32.ofInt 64)) (Int32.ofInt 8))), some (.int (zrmd (zgt (S.2 12) (Int32.ofNat k)) (Int32.ofInt 8)))]) (st' := []) rfl ?_
          have K := fun o6 o7 nc ns => l_33 (x1 := x1) (x2 := x2) (x3 := x3) (u0 := u0) HL N (k + 1) o6 o7 nc ns (zlp_in z12_0 hk)
          rw [← zof1, show W33 x1 x2 x3 S u0 (k + 1) = (W33 x1 x2 x3 S u0 k) from by
              show D33 x1 x2 x3 S k _ = _
              unfold D33
              rw [if_neg z53_1, if_neg z74_2]] at K
          exact K _ _ _ _
        · have z74_2 := zF_n0 q74
          refine zpE_run 4 (L' := [some (.ref 29), some (.int x1), some (.int x2), some (.int x3), some (.int ((W33 x1 x2 x3 S u0 k))), some (.int (Int32.ofNat k)), some (.int (zqtd (zrmd (zgt (S.2 12) (Int32.ofNat k)) (Int32.ofInt 64)) (Int32.ofInt 8))), some (.int (zrmd (zgt (S.2 12) (Int32.ofNat k)) (Int32.ofInt 8)))]) (st' := [.int (Int32.ofInt 2), .int x2, .int (Int32.ofInt 1), .int ((W33 x1 x2 x3 S u0 k))]) rfl ?_
          refine zpE_icmp rfl (fun q82 => ?_) (fun q82 => ?_)
          · have z82_3 := zF_n1 q82
            refine zpE_run 6 (L' := [some (.ref 29), some (.int x1), some (.int x2), some (.int x3), some (.int (((W33 x1 x2 x3 S u0 k)) ||| ((Int32.ofInt 1) <<< ((zqtd (zrmd (zgt (S.2 12) (Int32.ofNat k)) (Int32.ofInt 64)) (Int32.ofInt 8)) &&& 31)))), some (.int ((Int32.ofNat k) + Int32.ofInt 1)), some (.int (zqtd (zrmd (zgt (S.2 12) (Int32.ofNat k)) (Int32.ofInt 64)) (Int32.ofInt 8))), some (.int (zrmd (zgt (S.2 12) (Int32.ofNat k)) (Int32.ofInt 8)))]) (st' := []) rfl ?_
            have K := fun o6 o7 nc ns => l_33 (x1 := x1) (x2 := x2) (x3 := x3) (u0 := u0) HL N (k + 1) o6 o7 nc ns (zlp_in z12_0 hk)
            rw [← zof1, show W33 x1 x2 x3 S u0 (k + 1) = ((W33 x1 x2 x3 S u0 k)) ||| ((Int32.ofInt 1) <<< ((zqtd (zrmd (zgt (S.2 12) (Int32.ofNat k)) (Int32.ofInt 64)) (Int32.ofInt 8)) &&& 31)) from by
                show D33 x1 x2 x3 S k _ = _
                unfold D33
                rw [if_neg z53_1, if_pos z74_2, if_neg z82_3]] at K
            exact K _ _ _ _
          · have z82_3 := zF_n0 q82
            refine zpE_run 7 (L' := [some (.ref 29), some (.int x1), some (.int x2), some (.int x3), some (.int (((W33 x1 x2 x3 S u0 k)) ||| ((Int32.ofInt 1) <<< ((zrmd (zgt (S.2 12) (Int32.ofNat k)) (Int32.ofInt 8)) &&& 31)))), some (.int ((Int32.ofNat k) + Int32.ofInt 1)), some (.int (zqtd (zrmd (zgt (S.2 12) (Int32.ofNat k)) (Int32.ofInt 64)) (Int32.ofInt 8))), some (.int (zrmd (zgt (S.2 12) (Int32.ofNat k)) (Int32.ofInt 8)))]) (st' := []) rfl ?_
            have K := fun o6 o7 nc ns => l_33 (x1 := x1) (x2 := x2) (x3 := x3) (u0 := u0) HL N (k + 1) o6 o7 nc ns (zlp_in z12_0 hk)
            rw [← zof1, show W33 x1 x2 x3 S u0 (k + 1) = ((W33 x1 x2 x3 S u0 k)) ||| ((Int32.ofInt 1) <<< ((zrmd (zgt (S.2 12) (Int32.ofNat k)) (Int32.ofInt 8)) &&& 31)) from by
                show D33 x1 x2 x3 S k _ = _
                unfold D33
                rw [if_neg z53_1, if_pos z74_2, if_pos z82_3]] at K
            exact K _ _ _ _
def V33 (x1 : Int32) (x2 : Int32) (x3 : Int32) (S : zSt) : Int32 := Y33 x1 x2 x3 S (W33 x1 x2 x3 S (Int32.ofInt 0) (S.1 11).toInt.toNat)
theorem e_33 {x1 x2 x3 : Int32} (HL : zaL S.2) : zpM xs N 33 [.ref 29, .int x1, .int x2, .int x3] (zx S.1 S.2 T) nc ns (zOq (.inl (some (.int (V33 x1 x2 x3 S)))) (zx S.1 S.2 T)) := by
  intro L0 e
  cases e
  refine zpE_run 4 rfl ?_
  exact l_33 (x1 := x1) (x2 := x2) (x3 := x3) (S := S) (u0 := Int32.ofInt 0) HL N 0 _ _ _ _ (Nat.zero_le _)
def Q36 (x1 : Int32) (S : zSt) : Nat → Nat → Int32
  | 0, k => (Int32.ofInt 0)
  | m + 1, k => if (zgt (S.2 12) ((Int32.ofNat k))) = (zgt (S.2 12) x1) then (if (zgt (S.2 13) ((Int32.ofNat k))) = (zgt (S.2 13) x1) then ((Int32.ofInt 1)) else (Q36 x1 S m (k + 1))) else (Q36 x1 S m (k + 1))
theorem l_36 {x1 : Int32} (HL : zaL S.2) : ∀ (N k m : Nat) (nc ns : Nat), k + m = (S.1 11).toInt.toNat → zpE xs N 36 4 [some (.ref 29), some (.int x1), some (.int (Int32.ofNat k))] [] (zx S.1 S.2 T) nc ns (zOq (.inl (some (.int (Q36 x1 S m k)))) (zx S.1 S.2 T))
  | 0, _, _, _, _, _ => zpE_0
  | N + 1, k, m0, nc, ns, hk => by
    refine zpE_run1 2 (L' := [some (.ref 29), some (.int x1), some (.int (Int32.ofNat k))]) (st' := [.int (S.1 11), .int (Int32.ofNat k)]) rfl ?_
    refine zpE_icmp rfl (fun q9 => ?_) (fun q9 => ?_)
    · have z9_0 := Int.not_lt.mpr (zF_ge_t q9)
      refine zpE_run 1 (L' := [some (.ref 29), some (.int x1), some (.int (Int32.ofNat k))]) (st' := [.int (Int32.ofInt 0)]) rfl ?_
      exact zpE_end rfl rfl (by rw [zlp_o2 z9_0 hk]; exact zOq_v (by first | rfl | done))
    · have z9_0 := zF_ge_f q9
      obtain ⟨m, rfl⟩ := zlp_i2 z9_0 hk
      have eQ : Q36 x1 S (m + 1) k = if (zgt (S.2 12) ((Int32.ofNat k))) = (zgt (S.2 12) x1) then (if (zgt (S.2 13) ((Int32.ofNat k))) = (zgt (S.2 13) x1) then ((Int32.ofInt 1)) else (Q36 x1 S m (k + 1))) else (Q36 x1 S m (k + 1)) := rfl
      refine zpE_run 3 (L' := [some (.ref 29), some (.int x1), some (.int (Int32.ofNat k))]) (st' := [.int (Int32.ofNat k), .ref 30]) rfl ?_
      refine zpE_call rfl rfl (p_25 12 31 30 rfl rfl (HL : zaL S.2)) (fun v h1 nc1 ns1 q8 => ?_) (fun E h1 nc1 ns1 q8 => by cases q8)
      cases q8
      refine zpE_run 3 (L' := [some (.ref 29), some (.int x1), some (.int (Int32.ofNat k))]) (st' := [.int x1, .ref 30, .int (zgt (S.2 12) (Int32.ofNat k))]) rfl ?_
      refine zpE_call rfl rfl (p_25 12 31 30 rfl rfl (HL : zaL S.2)) (fun v h1 nc1 ns1 q8 => ?_) (fun E h1 nc1 ns1 q8 => by cases q8)
      cases q8
      refine zpE_icmp rfl (fun q28 => ?_) (fun q28 => ?_)
      · have z28_1 := zF_n1 q28
        refine zpE_run 2 (L' := [some (.ref 29), some (.int x1), some (.int ((Int32.ofNat k) + Int32.ofInt 1))]) (st' := []) rfl ?_
        have K := fun nc ns => l_36 (x1 := x1) HL N (k + 1) m nc ns (by omega)
        rw [← zof1] at K
        rw [eQ, if_neg z28_1]
        exact K _ _
      · have z28_1 := zF_n0 q28
        refine zpE_run 3 (L' := [some (.ref 29), some (.int x1), some (.int (Int32.ofNat k))]) (st' := [.int (Int32.ofNat k), .ref 32]) rfl ?_
        refine zpE_call rfl rfl (p_25 13 33 32 rfl rfl (HL : zaL S.2)) (fun v h1 nc1 ns1 q8 => ?_) (fun E h1 nc1 ns1 q8 => by cases q8)
        cases q8
        refine zpE_run 3 (L' := [some (.ref 29), some (.int x1), some (.int (Int32.ofNat k))]) (st' := [.int x1, .ref 32, .int (zgt (S.2 13) (Int32.ofNat k))]) rfl ?_
        refine zpE_call rfl rfl (p_25 13 33 32 rfl rfl (HL : zaL S.2)) (fun v h1 nc1 ns1 q8 => ?_) (fun E h1 nc1 ns1 q8 => by cases q8)
        cases q8
        refine zpE_icmp rfl (fun q47 => ?_) (fun q47 => ?_)
        · have z47_2 := zF_n1 q47
          refine zpE_run 2 (L' := [some (.ref 29), some (.int x1), some (.int ((Int32.ofNat k) + Int32.ofInt 1))]) (st' := []) rfl ?_
          have K := fun nc ns => l_36 (x1 := x1) HL N (k + 1) m nc ns (by omega)
          rw [← zof1] at K
          rw [eQ, if_pos z28_1, if_neg z47_2]
          exact K _ _
        · have z47_2 := zF_n0 q47
          refine zpE_run 1 (L' := [some (.ref 29), some (.int x1), some (.int (Int32.ofNat k))]) (st' := [.int (Int32.ofInt 1)]) rfl ?_
          exact zpE_end rfl rfl (zOq_v (by rw [eQ, if_pos z28_1, if_pos z47_2]))
def V36 (e : Nat) (S : zSt) : Int32 := Q36 (Int32.ofNat e) S ((S.1 11).toInt.toNat - (e + 1)) (e + 1)
theorem e_36 {e : Nat} (HL : zaL S.2) (he : e + 1 ≤ (S.1 11).toInt.toNat) : zpM xs N 36 [.ref 29, .int (Int32.ofNat e)] (zx S.1 S.2 T) nc ns (zOq (.inl (some (.int (V36 e S)))) (zx S.1 S.2 T)) := by
  intro L0 e9
  cases e9
  refine zpE_run 4 (L' := [some (.ref 29), some (.int (Int32.ofNat e)), some (.int (Int32.ofNat e + Int32.ofInt 1))]) (st' := []) rfl ?_
  rw [zof1]
  exact l_36 (x1 := Int32.ofNat e) HL N (e + 1) _ _ _ (by omega)
def D35 (x1 : Int32) (S : zSt) (k : Nat) (u : Int32) : Int32 := if u = (Int32.ofInt (-1)) then (if (V37 x1 ((Int32.ofNat k)) S) = ((0 : Int32)) then u else (if (V36 k S) = ((0 : Int32)) then u else (zgt (S.2 12) ((Int32.ofNat k))))) else (if (zgt (S.2 12) ((Int32.ofNat k))).toInt < u.toInt then (if (V37 x1 ((Int32.ofNat k)) S) = ((0 : Int32)) then u else (if (V36 k S) = ((0 : Int32)) then u else (zgt (S.2 12) ((Int32.ofNat k))))) else u)
def W35 (x1 : Int32) (S : zSt) (u0 : Int32) : Nat → Int32
  | 0 => u0
  | k + 1 => D35 x1 S k (W35 x1 S u0 k)
def Y35 (x1 : Int32) (S : zSt) (u : Int32) : Int32 := u
theorem l_35 {x1 : Int32} {u0 : Int32} (HL : zaL S.2) : ∀ (N k : Nat) (o4 : Option Value) (o5 : Option Value) (nc ns : Nat), k ≤ (S.1 11).toInt.toNat → zpE xs N 35 4 [some (.ref 29), some (.int x1), some (.int ((W35 x1 S u0 k))), some (.int (Int32.ofNat k)), o4, o5] [] (zx S.1 S.2 T) nc ns (zOq (.inl (some (.int (Y35 x1 S (W35 x1 S u0 (S.1 11).toInt.toNat))))) (zx S.1 S.2 T))
  | 0, _, _, _, _, _, _ => zpE_0
  | N + 1, k, o4, o5, nc, ns, hk => by
    refine zpE_run1 2 (L' := [some (.ref 29), some (.int x1), some (.int ((W35 x1 S u0 k))), some (.int (Int32.ofNat k)), o4, o5]) (st' := [.int (S.1 11), .int (Int32.ofNat k)]) rfl ?_
    refine zpE_icmp rfl (fun q9 => ?_) (fun q9 => ?_)
    · have z9_0 := Int.not_lt.mpr (zF_ge_t q9)
      refine zpE_run 1 (L' := [some (.ref 29), some (.int x1), some (.int ((W35 x1 S u0 k))), some (.int (Int32.ofNat k)), o4, o5]) (st' := [.int ((W35 x1 S u0 k))]) rfl ?_
      exact zpE_end rfl rfl (by rw [← zlp_out z9_0 hk]; exact zOq_v (by unfold Y35; (first | done | rfl)))
    · have z9_0 := zF_ge_f q9
      refine zpE_run 3 (L' := [some (.ref 29), some (.int x1), some (.int ((W35 x1 S u0 k))), some (.int (Int32.ofNat k)), o4, o5]) (st' := [.int (Int32.ofNat k), .ref 30]) rfl ?_
      refine zpE_call rfl rfl (p_25 12 31 30 rfl rfl (HL : zaL S.2)) (fun v h1 nc1 ns1 q8 => ?_) (fun E h1 nc1 ns1 q8 => by cases q8)
      cases q8
      refine zpE_run 3 (L' := [some (.ref 29), some (.int x1), some (.int ((W35 x1 S u0 k))), some (.int (Int32.ofNat k)), some (.int (zgt (S.2 12) (Int32.ofNat k))), o5]) (st' := [.int (Int32.ofInt (-1)), .int ((W35 x1 S u0 k))]) rfl ?_
      refine zpE_icmp rfl (fun q24 => ?_) (fun q24 => ?_)
      · have z24_1 := zF_e1 q24
        refine zpE_run 4 (L' := [some (.ref 29), some (.int x1), some (.int ((W35 x1 S u0 k))), some (.int (Int32.ofNat k)), some (.int (zgt (S.2 12) (Int32.ofNat k))), some (.int (Int32.ofInt 1))]) (st' := [.int (Int32.ofInt 1)]) rfl ?_
        refine zpE_if rfl (fun q42 => ?_) (fun q42 => ?_)
        · exact absurd (zF_e1 q42) (by decide)
        · clear q42
          refine zpE_run 3 (L' := [some (.ref 29), some (.int x1), some (.int ((W35 x1 S u0 k))), some (.int (Int32.ofNat k)), some (.int (zgt (S.2 12) (Int32.ofNat k))), some (.int (Int32.ofInt 1))]) (st' := [.int (Int32.ofNat k), .int x1, .ref 29]) rfl ?_
          refine zpE_call rfl rfl (e_37 (S := S) (x1 := x1) (x2 := Int32.ofNat k) HL) (fun v h1 nc1 ns1 q8 => ?_) (fun E h1 nc1 ns1 q8 => by cases q8.1)
          obtain ⟨q8, q9⟩ := q8
          cases q8
          cases q9
          refine zpE_if rfl (fun q51 => ?_) (fun q51 => ?_)
          · have z51_2 := zF_e1 q51
            refine zpE_run 2 (L' := [some (.ref 29), some (.int x1), some (.int ((W35 x1 S u0 k))), some (.int ((Int32.ofNat k) + Int32.ofInt 1)), some (.int (zgt (S.2 12) (Int32.ofNat k))), some (.int (Int32.ofInt 1))]) (st' := []) rfl ?_
            have K := fun o4 o5 nc ns => l_35 (x1 := x1) (u0 := u0) HL N (k + 1) o4 o5 nc ns (zlp_in z9_0 hk)
            rw [← zof1, show W35 x1 S u0 (k + 1) = (W35 x1 S u0 k) from by
                show D35 x1 S k _ = _
                unfold D35
                rw [if_pos z24_1, if_pos z51_2]] at K
            exact K _ _ _ _
          · have z51_2 := zF_e0 q51
            refine zpE_run 2 (L' := [some (.ref 29), some (.int x1), some (.int ((W35 x1 S u0 k))), some (.int (Int32.ofNat k)), some (.int (zgt (S.2 12) (Int32.ofNat k))), some (.int (Int32.ofInt 1))]) (st' := [.int (Int32.ofNat k), .ref 29]) rfl ?_
            refine zpE_call rfl rfl (e_36 (S := S) (e := k) HL (zlp_in (by assumption) hk)) (fun v h1 nc1 ns1 q8 => ?_) (fun E h1 nc1 ns1 q8 => by cases q8.1)
            obtain ⟨q8, q9⟩ := q8
            cases q8
            cases q9
            refine zpE_if rfl (fun q59 => ?_) (fun q59 => ?_)
            · have z59_3 := zF_e1 q59
              refine zpE_run 2 (L' := [some (.ref 29), some (.int x1), some (.int ((W35 x1 S u0 k))), some (.int ((Int32.ofNat k) + Int32.ofInt 1)), some (.int (zgt (S.2 12) (Int32.ofNat k))), some (.int (Int32.ofInt 1))]) (st' := []) rfl ?_
              have K := fun o4 o5 nc ns => l_35 (x1 := x1) (u0 := u0) HL N (k + 1) o4 o5 nc ns (zlp_in z9_0 hk)
              rw [← zof1, show W35 x1 S u0 (k + 1) = (W35 x1 S u0 k) from by
                  show D35 x1 S k _ = _
                  unfold D35
                  rw [if_pos z24_1, if_neg z51_2, if_pos z59_3]] at K
              exact K _ _ _ _
            · have z59_3 := zF_e0 q59
              refine zpE_run 4 (L' := [some (.ref 29), some (.int x1), some (.int (zgt (S.2 12) (Int32.ofNat k))), some (.int ((Int32.ofNat k) + Int32.ofInt 1)), some (.int (zgt (S.2 12) (Int32.ofNat k))), some (.int (Int32.ofInt 1))]) (st' := []) rfl ?_
              have K := fun o4 o5 nc ns => l_35 (x1 := x1) (u0 := u0) HL N (k + 1) o4 o5 nc ns (zlp_in z9_0 hk)
              rw [← zof1, show W35 x1 S u0 (k + 1) = zgt (S.2 12) (Int32.ofNat k) from by
                  show D35 x1 S k _ = _
                  unfold D35
                  rw [if_pos z24_1, if_neg z51_2, if_neg z59_3]] at K
              exact K _ _ _ _
      · have z24_1 := zF_e0 q24
        refine zpE_run 2 (L' := [some (.ref 29), some (.int x1), some (.int ((W35 x1 S u0 k))), some (.int (Int32.ofNat k)), some (.int (zgt (S.2 12) (Int32.ofNat k))), o5]) (st' := [.int ((W35 x1 S u0 k)), .int (zgt (S.2 12) (Int32.ofNat k))]) rfl ?_
        refine zpE_icmp rfl (fun q30 => ?_) (fun q30 => ?_)
        · have z30_2 := Int.not_lt.mpr (zF_ge_t q30)
          refine zpE_run 3 (L' := [some (.ref 29), some (.int x1), some (.int ((W35 x1 S u0 k))), some (.int (Int32.ofNat k)), some (.int (zgt (S.2 12) (Int32.ofNat k))), some (.int (Int32.ofInt 0))]) (st' := [.int (Int32.ofInt 0)]) rfl ?_
          refine zpE_if rfl (fun q42 => ?_) (fun q42 => ?_)
          · clear q42
            refine zpE_run 2 (L' := [some (.ref 29), some (.int x1), some (.int ((W35 x1 S u0 k))), some (.int ((Int32.ofNat k) + Int32.ofInt 1)), some (.int (zgt (S.2 12) (Int32.ofNat k))), some (.int (Int32.ofInt 0))]) (st' := []) rfl ?_
            have K := fun o4 o5 nc ns => l_35 (x1 := x1) (u0 := u0) HL N (k + 1) o4 o5 nc ns (zlp_in z9_0 hk)
            rw [← zof1, show W35 x1 S u0 (k + 1) = (W35 x1 S u0 k) from by
                show D35 x1 S k _ = _
                unfold D35
                rw [if_neg z24_1, if_neg z30_2]] at K
            exact K _ _ _ _
          · exact absurd (zF_e0 q42) (by decide)
        · have z30_2 := zF_ge_f q30
          refine zpE_run 4 (L' := [some (.ref 29), some (.int x1), some (.int ((W35 x1 S u0 k))), some (.int (Int32.ofNat k)), some (.int (zgt (S.2 12) (Int32.ofNat k))), some (.int (Int32.ofInt 1))]) (st' := [.int (Int32.ofInt 1)]) rfl ?_
          refine zpE_if rfl (fun q42 => ?_) (fun q42 => ?_)
          · exact absurd (zF_e1 q42) (by decide)
          · clear q42
            refine zpE_run 3 (L' := [some (.ref 29), some (.int x1), some (.int ((W35 x1 S u0 k))), some (.int (Int32.ofNat k)), some (.int (zgt (S.2 12) (Int32.ofNat k))), some (.int (Int32.ofInt 1))]) (st' := [.int (Int32.ofNat k), .int x1, .ref 29]) rfl ?_
            refine zpE_call rfl rfl (e_37 (S := S) (x1 := x1) (x2 := Int32.ofNat k) HL) (fun v h1 nc1 ns1 q8 => ?_) (fun E h1 nc1 ns1 q8 => by cases q8.1)
            obtain ⟨q8, q9⟩ := q8
            cases q8
            cases q9
            refine zpE_if rfl (fun q51 => ?_) (fun q51 => ?_)
            · have z51_3 := zF_e1 q51
              refine zpE_run 2 (L' := [some (.ref 29), some (.int x1), some (.int ((W35 x1 S u0 k))), some (.int ((Int32.ofNat k) + Int32.ofInt 1)), some (.int (zgt (S.2 12) (Int32.ofNat k))), some (.int (Int32.ofInt 1))]) (st' := []) rfl ?_
              have K := fun o4 o5 nc ns => l_35 (x1 := x1) (u0 := u0) HL N (k + 1) o4 o5 nc ns (zlp_in z9_0 hk)
              rw [← zof1, show W35 x1 S u0 (k + 1) = (W35 x1 S u0 k) from by
                  show D35 x1 S k _ = _
                  unfold D35
                  rw [if_neg z24_1, if_pos z30_2, if_pos z51_3]] at K
              exact K _ _ _ _
            · have z51_3 := zF_e0 q51
              refine zpE_run 2 (L' := [some (.ref 29), some (.int x1), some (.int ((W35 x1 S u0 k))), some (.int (Int32.ofNat k)), some (.int (zgt (S.2 12) (Int32.ofNat k))), some (.int (Int32.ofInt 1))]) (st' := [.int (Int32.ofNat k), .ref 29]) rfl ?_
              refine zpE_call rfl rfl (e_36 (S := S) (e := k) HL (zlp_in (by assumption) hk)) (fun v h1 nc1 ns1 q8 => ?_) (fun E h1 nc1 ns1 q8 => by cases q8.1)
              obtain ⟨q8, q9⟩ := q8
              cases q8
              cases q9
              refine zpE_if rfl (fun q59 => ?_) (fun q59 => ?_)
              · have z59_4 := zF_e1 q59
                refine zpE_run 2 (L' := [some (.ref 29), some (.int x1), some (.int ((W35 x1 S u0 k))), some (.int ((Int32.ofNat k) + Int32.ofInt 1)), some (.int (zgt (S.2 12) (Int32.ofNat k))), some (.int (Int32.ofInt 1))]) (st' := []) rfl ?_
                have K := fun o4 o5 nc ns => l_35 (x1 := x1) (u0 := u0) HL N (k + 1) o4 o5 nc ns (zlp_in z9_0 hk)
                rw [← zof1, show W35 x1 S u0 (k + 1) = (W35 x1 S u0 k) from by
                    show D35 x1 S k _ = _
                    unfold D35
                    rw [if_neg z24_1, if_pos z30_2, if_neg z51_3, if_pos z59_4]] at K
                exact K _ _ _ _
              · have z59_4 := zF_e0 q59
                refine zpE_run 4 (L' := [some (.ref 29), some (.int x1), some (.int (zgt (S.2 12) (Int32.ofNat k))), some (.int ((Int32.ofNat k) + Int32.ofInt 1)), some (.int (zgt (S.2 12) (Int32.ofNat k))), some (.int (Int32.ofInt 1))]) (st' := []) rfl ?_
                have K := fun o4 o5 nc ns => l_35 (x1 := x1) (u0 := u0) HL N (k + 1) o4 o5 nc ns (zlp_in z9_0 hk)
                rw [← zof1, show W35 x1 S u0 (k + 1) = zgt (S.2 12) (Int32.ofNat k) from by
                    show D35 x1 S k _ = _
                    unfold D35
                    rw [if_neg z24_1, if_pos z30_2, if_neg z51_3, if_neg z59_4]] at K
                exact K _ _ _ _
def V35 (x1 : Int32) (S : zSt) : Int32 := Y35 x1 S (W35 x1 S (Int32.ofInt (-1)) (S.1 11).toInt.toNat)
theorem e_35 {x1 : Int32} (HL : zaL S.2) : zpM xs N 35 [.ref 29, .int x1] (zx S.1 S.2 T) nc ns (zOq (.inl (some (.int (V35 x1 S)))) (zx S.1 S.2 T)) := by
  intro L0 e
  cases e
  refine zpE_run 4 rfl ?_
  exact l_35 (x1 := x1) (S := S) (u0 := Int32.ofInt (-1)) HL N 0 _ _ _ _ (Nat.zero_le _)
def Q32 (x1 : Int32) (x2 : Int32) (l3 : Int32) (S : zSt) : Nat → Nat → Int32
  | 0, k => (Int32.ofInt (-1))
  | m + 1, k => if (V33 x1 x2 ((Int32.ofNat k)) S) = ((0 : Int32)) then (Q32 x1 x2 l3 S m (k + 1)) else (((Int32.ofNat k)))
theorem l_32 {x1 x2 l3 : Int32} (HL : zaL S.2) : ∀ (N k m : Nat) (nc ns : Nat), k + m = (l3).toInt.toNat → zpE xs N 32 27 [some (.ref 29), some (.int x1), some (.int x2), some (.int l3), some (.int (Int32.ofNat k))] [] (zx S.1 S.2 T) nc ns (zOq (.inl (some (.int (Q32 x1 x2 l3 S m k)))) (zx S.1 S.2 T))
  | 0, _, _, _, _, _ => zpE_0
  | N + 1, k, m0, nc, ns, hk => by
    refine zpE_run1 1 (L' := [some (.ref 29), some (.int x1), some (.int x2), some (.int l3), some (.int (Int32.ofNat k))]) (st' := [.int l3, .int (Int32.ofNat k)]) rfl ?_
    refine zpE_icmp rfl (fun q30 => ?_) (fun q30 => ?_)
    · have z30_0 := Int.not_lt.mpr (zF_ge_t q30)
      refine zpE_run 1 (L' := [some (.ref 29), some (.int x1), some (.int x2), some (.int l3), some (.int (Int32.ofNat k))]) (st' := [.int (Int32.ofInt (-1))]) rfl ?_
      exact zpE_end rfl rfl (by rw [zlp_o2 z30_0 hk]; exact zOq_v (by first | rfl | done))
    · have z30_0 := zF_ge_f q30
      obtain ⟨m, rfl⟩ := zlp_i2 z30_0 hk
      have eQ : Q32 x1 x2 l3 S (m + 1) k = if (V33 x1 x2 ((Int32.ofNat k)) S) = ((0 : Int32)) then (Q32 x1 x2 l3 S m (k + 1)) else (((Int32.ofNat k))) := rfl
      refine zpE_run 4 (L' := [some (.ref 29), some (.int x1), some (.int x2), some (.int l3), some (.int (Int32.ofNat k))]) (st' := [.int (Int32.ofNat k), .int x2, .int x1, .ref 29]) rfl ?_
      refine zpE_call rfl rfl (e_33 (S := S) (x1 := x1) (x2 := x2) (x3 := Int32.ofNat k) HL) (fun v h1 nc1 ns1 q8 => ?_) (fun E h1 nc1 ns1 q8 => by cases q8.1)
      obtain ⟨q8, q9⟩ := q8
      cases q8
      cases q9
      refine zpE_if rfl (fun q41 => ?_) (fun q41 => ?_)
      · have z41_1 := zF_e1 q41
        refine zpE_run 2 (L' := [some (.ref 29), some (.int x1), some (.int x2), some (.int l3), some (.int ((Int32.ofNat k) + Int32.ofInt 1))]) (st' := []) rfl ?_
        have K := fun nc ns => l_32 (x1 := x1) (x2 := x2) (l3 := l3) HL N (k + 1) m nc ns (by omega)
        rw [← zof1] at K
        rw [eQ, if_pos z41_1]
        exact K _ _
      · have z41_1 := zF_e0 q41
        refine zpE_run 1 (L' := [some (.ref 29), some (.int x1), some (.int x2), some (.int l3), some (.int (Int32.ofNat k))]) (st' := [.int (Int32.ofNat k)]) rfl ?_
        exact zpE_end rfl rfl (zOq_v (by rw [eQ, if_neg z41_1]))
def V32 (x1 : Int32) (x2 : Int32) (S : zSt) : Int32 := if x2 = (Int32.ofInt 4) then ((V35 x1 S)) else (if x2 = (Int32.ofInt 1) then (Q32 x1 x2 (Int32.ofInt 16) S ((Int32.ofInt 16)).toInt.toNat 0) else (Q32 x1 x2 (Int32.ofInt 8) S ((Int32.ofInt 8)).toInt.toNat 0))
theorem e_32 {x1 x2 : Int32} (HL : zaL S.2) : zpM xs N 32 [.ref 29, .int x1, .int x2] (zx S.1 S.2 T) nc ns (zOq (.inl (some (.int (V32 x1 x2 S)))) (zx S.1 S.2 T)) := by
  intro L0 e
  cases e
  refine zpE_run 2 (L' := [some (.ref 29), some (.int x1), some (.int x2), none, none]) (st' := [.int (Int32.ofInt 4), .int x2]) rfl ?_
  refine zpE_icmp rfl (fun q2 => ?_) (fun q2 => ?_)
  · have z2_0 := zF_n1 q2
    refine zpE_run 2 (L' := [some (.ref 29), some (.int x1), some (.int x2), none, none]) (st' := [.int (Int32.ofInt 1), .int x2]) rfl ?_
    refine zpE_icmp rfl (fun q13 => ?_) (fun q13 => ?_)
    · have z13_1 := zF_n1 q13
      refine zpE_run 4 rfl ?_
      rw [show V32 x1 x2 S = Q32 x1 x2 (Int32.ofInt 8) S ((Int32.ofInt 8)).toInt.toNat 0 from by
        unfold V32
        rw [if_neg z2_0, if_neg z13_1]]
      exact l_32 (x1 := x1) (x2 := x2) (l3 := Int32.ofInt 8) HL N 0 _ _ _ (Nat.zero_add _)
    · have z13_1 := zF_n0 q13
      refine zpE_run 5 rfl ?_
      rw [show V32 x1 x2 S = Q32 x1 x2 (Int32.ofInt 16) S ((Int32.ofInt 16)).toInt.toNat 0 from by
        unfold V32
        rw [if_neg z2_0, if_pos z13_1]]
      exact l_32 (x1 := x1) (x2 := x2) (l3 := Int32.ofInt 16) HL N 0 _ _ _ (Nat.zero_add _)
  · have z2_0 := zF_n0 q2
    refine zpE_run 2 (L' := [some (.ref 29), some (.int x1), some (.int x2), none, none]) (st' := [.int x1, .ref 29]) rfl ?_
    refine zpE_call rfl rfl (e_35 (S := S) (x1 := x1) HL) (fun v h1 nc1 ns1 q8 => ?_) (fun E h1 nc1 ns1 q8 => by cases q8.1)
    obtain ⟨q8, q9⟩ := q8
    cases q8
    cases q9
    exact zpE_end rfl rfl (zOq_v (by unfold V32; rw [if_pos z2_0]))
def R73 (x1 : Int32) (x2 : Int32) (S : zSt) : Option Value ⊕ Nat := if C83 x1 S = true then (if (V32 x1 (Int32.ofInt 1) S) = (Int32.ofInt (-1)) then (if (V32 x1 (Int32.ofInt 2) S) = (Int32.ofInt (-1)) then (if (V32 x1 (Int32.ofInt 3) S) = (Int32.ofInt (-1)) then (if (V32 x1 (Int32.ofInt 4) S) = (Int32.ofInt (-1)) then (if x2 = ((0 : Int32)) then (.inl (some (.int (Int32.ofInt 0)))) else (.inl (some (.int (Int32.ofInt (-1)))))) else (if x2 = ((0 : Int32)) then (.inl (some (.int (Int32.ofInt 4)))) else (.inl (some (.int (V32 x1 (Int32.ofInt 4) S)))))) else (if x2 = ((0 : Int32)) then (.inl (some (.int (Int32.ofInt 3)))) else (.inl (some (.int (V32 x1 (Int32.ofInt 3) S)))))) else (if x2 = ((0 : Int32)) then (.inl (some (.int (Int32.ofInt 2)))) else (.inl (some (.int (V32 x1 (Int32.ofInt 2) S)))))) else (if x2 = ((0 : Int32)) then (.inl (some (.int (Int32.ofInt 1)))) else (.inl (some (.int (V32 x1 (Int32.ofInt 1) S)))))) else (.inr 1)
def F73 (x1 : Int32) (x2 : Int32) (S : zSt) : zSt := if C83 x1 S = true then (if (V32 x1 (Int32.ofInt 1) S) = (Int32.ofInt (-1)) then (if (V32 x1 (Int32.ofInt 2) S) = (Int32.ofInt (-1)) then (if (V32 x1 (Int32.ofInt 3) S) = (Int32.ofInt (-1)) then (if (V32 x1 (Int32.ofInt 4) S) = (Int32.ofInt (-1)) then (if x2 = ((0 : Int32)) then S else S) else (if x2 = ((0 : Int32)) then S else S)) else (if x2 = ((0 : Int32)) then S else S)) else (if x2 = ((0 : Int32)) then S else S)) else (if x2 = ((0 : Int32)) then S else S)) else S
theorem e_73 {x1 x2 : Int32} (HL : zaL S.2) : zpM xs N 73 [.ref 0, .int x1, .int x2] (zx S.1 S.2 T) nc ns (zOq (R73 x1 x2 S) (zx (F73 x1 x2 S).1 (F73 x1 x2 S).2 T)) := by
  intro L0 e
  cases e
  refine zpE_run 1 (L' := [some (.ref 0), some (.int x1), some (.int x2), none, none]) (st' := [.int x1]) rfl ?_
  refine zpE_call rfl rfl (e_83 (S := S) (x1 := x1) HL) (fun v h1 nc1 ns1 q8 => ?_) (fun E h1 nc1 ns1 q8 => ?_)
  rotate_left
  · rcases q8 with ⟨_, q8, _⟩ | ⟨c1, q8, q9⟩
    · cases q8
    · cases q8
      cases q9
      exact ⟨fun _ => (zOq_g (r := .inr 1) (S' := S) (by unfold R73; rw [if_neg c1]) (by unfold F73; rw [if_neg c1])), fun pc2 L2 e => by cases e⟩
  replace q8 := q8.resolve_right (fun y9 => by cases y9.2.1)
  obtain ⟨c1, q8, q9⟩ := q8
  cases q8
  cases q9
  refine zpE_run 4 (L' := [some (.ref 0), some (.int x1), some (.int x2), some (.int (Int32.ofInt 1)), none]) (st' := [.int (Int32.ofInt 4), .int (Int32.ofInt 1)]) rfl ?_
  refine zpE_icmp rfl (fun q8 => ?_) (fun q8 => ?_)
  · exact absurd (zF_gt_t q8) (by decide)
  · clear q8
    refine zpE_run 4 (L' := [some (.ref 0), some (.int x1), some (.int x2), some (.int (Int32.ofInt 1)), none]) (st' := [.int (Int32.ofInt 1), .int x1, .ref 29]) rfl ?_
    refine zpE_call rfl rfl (e_32 (S := S) (x1 := x1) (x2 := Int32.ofInt 1) HL) (fun v h1 nc1 ns1 q8 => ?_) (fun E h1 nc1 ns1 q8 => by cases q8.1)
    obtain ⟨q8, q9⟩ := q8
    cases q8
    cases q9
    refine zpE_run 3 (L' := [some (.ref 0), some (.int x1), some (.int x2), some (.int (Int32.ofInt 1)), some (.int (V32 x1 (Int32.ofInt 1) S))]) (st' := [.int (Int32.ofInt (-1)), .int (V32 x1 (Int32.ofInt 1) S)]) rfl ?_
    refine zpE_icmp rfl (fun q25 => ?_) (fun q25 => ?_)
    · have z25_1 := zF_e1 q25
      refine zpE_run 4 (L' := [some (.ref 0), some (.int x1), some (.int x2), some (.int (Int32.ofInt 2)), some (.int (V32 x1 (Int32.ofInt 1) S))]) (st' := [.int (Int32.ofInt 4), .int (Int32.ofInt 2)]) rfl ?_
      refine zpE_icmp rfl (fun q8 => ?_) (fun q8 => ?_)
      · exact absurd (zF_gt_t q8) (by decide)
      · clear q8
        refine zpE_run 4 (L' := [some (.ref 0), some (.int x1), some (.int x2), some (.int (Int32.ofInt 2)), some (.int (V32 x1 (Int32.ofInt 1) S))]) (st' := [.int (Int32.ofInt 2), .int x1, .ref 29]) rfl ?_
        refine zpE_call rfl rfl (e_32 (S := S) (x1 := x1) (x2 := Int32.ofInt 2) HL) (fun v h1 nc1 ns1 q8 => ?_) (fun E h1 nc1 ns1 q8 => by cases q8.1)
        obtain ⟨q8, q9⟩ := q8
        cases q8
        cases q9
        refine zpE_run 3 (L' := [some (.ref 0), some (.int x1), some (.int x2), some (.int (Int32.ofInt 2)), some (.int (V32 x1 (Int32.ofInt 2) S))]) (st' := [.int (Int32.ofInt (-1)), .int (V32 x1 (Int32.ofInt 2) S)]) rfl ?_
        refine zpE_icmp rfl (fun q25 => ?_) (fun q25 => ?_)
        · have z25_2 := zF_e1 q25
          refine zpE_run 4 (L' := [some (.ref 0), some (.int x1), some (.int x2), some (.int (Int32.ofInt 3)), some (.int (V32 x1 (Int32.ofInt 2) S))]) (st' := [.int (Int32.ofInt 4), .int (Int32.ofInt 3)]) rfl ?_
          refine zpE_icmp rfl (fun q8 => ?_) (fun q8 => ?_)
          · exact absurd (zF_gt_t q8) (by decide)
          · clear q8
            refine zpE_run 4 (L' := [some (.ref 0), some (.int x1), some (.int x2), some (.int (Int32.ofInt 3)), some (.int (V32 x1 (Int32.ofInt 2) S))]) (st' := [.int (Int32.ofInt 3), .int x1, .ref 29]) rfl ?_
            refine zpE_call rfl rfl (e_32 (S := S) (x1 := x1) (x2 := Int32.ofInt 3) HL) (fun v h1 nc1 ns1 q8 => ?_) (fun E h1 nc1 ns1 q8 => by cases q8.1)
            obtain ⟨q8, q9⟩ := q8
            cases q8
            cases q9
            refine zpE_run 3 (L' := [some (.ref 0), some (.int x1), some (.int x2), some (.int (Int32.ofInt 3)), some (.int (V32 x1 (Int32.ofInt 3) S))]) (st' := [.int (Int32.ofInt (-1)), .int (V32 x1 (Int32.ofInt 3) S)]) rfl ?_
            refine zpE_icmp rfl (fun q25 => ?_) (fun q25 => ?_)
            · have z25_3 := zF_e1 q25
              refine zpE_run 4 (L' := [some (.ref 0), some (.int x1), some (.int x2), some (.int (Int32.ofInt 4)), some (.int (V32 x1 (Int32.ofInt 3) S))]) (st' := [.int (Int32.ofInt 4), .int (Int32.ofInt 4)]) rfl ?_
              refine zpE_icmp rfl (fun q8 => ?_) (fun q8 => ?_)
              · exact absurd (zF_gt_t q8) (by decide)
              · clear q8
                refine zpE_run 4 (L' := [some (.ref 0), some (.int x1), some (.int x2), some (.int (Int32.ofInt 4)), some (.int (V32 x1 (Int32.ofInt 3) S))]) (st' := [.int (Int32.ofInt 4), .int x1, .ref 29]) rfl ?_
                refine zpE_call rfl rfl (e_32 (S := S) (x1 := x1) (x2 := Int32.ofInt 4) HL) (fun v h1 nc1 ns1 q8 => ?_) (fun E h1 nc1 ns1 q8 => by cases q8.1)
                obtain ⟨q8, q9⟩ := q8
                cases q8
                cases q9
                refine zpE_run 3 (L' := [some (.ref 0), some (.int x1), some (.int x2), some (.int (Int32.ofInt 4)), some (.int (V32 x1 (Int32.ofInt 4) S))]) (st' := [.int (Int32.ofInt (-1)), .int (V32 x1 (Int32.ofInt 4) S)]) rfl ?_
                refine zpE_icmp rfl (fun q25 => ?_) (fun q25 => ?_)
                · have z25_4 := zF_e1 q25
                  refine zpE_run 4 (L' := [some (.ref 0), some (.int x1), some (.int x2), some (.int (Int32.ofInt 5)), some (.int (V32 x1 (Int32.ofInt 4) S))]) (st' := [.int (Int32.ofInt 4), .int (Int32.ofInt 5)]) rfl ?_
                  refine zpE_icmp rfl (fun q8 => ?_) (fun q8 => ?_)
                  · clear q8
                    refine zpE_run 1 (L' := [some (.ref 0), some (.int x1), some (.int x2), some (.int (Int32.ofInt 5)), some (.int (V32 x1 (Int32.ofInt 4) S))]) (st' := [.int x2]) rfl ?_
                    refine zpE_if rfl (fun q46 => ?_) (fun q46 => ?_)
                    · have z46_5 := zF_e1 q46
                      refine zpE_run 1 (L' := [some (.ref 0), some (.int x1), some (.int x2), some (.int (Int32.ofInt 5)), some (.int (V32 x1 (Int32.ofInt 4) S))]) (st' := [.int (Int32.ofInt 0)]) rfl ?_
                      exact zpE_end rfl rfl (zOq_g (r := .inl (some (.int (Int32.ofInt 0)))) (S' := S) (by unfold R73; rw [if_pos c1, if_pos z25_1, if_pos z25_2, if_pos z25_3, if_pos z25_4, if_pos z46_5]) (by unfold F73; rw [if_pos c1, if_pos z25_1, if_pos z25_2, if_pos z25_3, if_pos z25_4, if_pos z46_5]))
                    · have z46_5 := zF_e0 q46
                      refine zpE_run 2 (L' := [some (.ref 0), some (.int x1), some (.int x2), some (.int (Int32.ofInt 5)), some (.int (V32 x1 (Int32.ofInt 4) S))]) (st' := [.int (Int32.ofInt (-1))]) rfl ?_
                      exact zpE_end rfl rfl (zOq_g (r := .inl (some (.int (Int32.ofInt (-1))))) (S' := S) (by unfold R73; rw [if_pos c1, if_pos z25_1, if_pos z25_2, if_pos z25_3, if_pos z25_4, if_neg z46_5]) (by unfold F73; rw [if_pos c1, if_pos z25_1, if_pos z25_2, if_pos z25_3, if_pos z25_4, if_neg z46_5]))
                  · exact absurd (Int.not_lt.mpr (zF_gt_f q8)) (by decide)
                · have z25_4 := zF_e0 q25
                  refine zpE_run 1 (L' := [some (.ref 0), some (.int x1), some (.int x2), some (.int (Int32.ofInt 4)), some (.int (V32 x1 (Int32.ofInt 4) S))]) (st' := [.int x2]) rfl ?_
                  refine zpE_if rfl (fun q29 => ?_) (fun q29 => ?_)
                  · have z29_5 := zF_e1 q29
                    refine zpE_run 1 (L' := [some (.ref 0), some (.int x1), some (.int x2), some (.int (Int32.ofInt 4)), some (.int (V32 x1 (Int32.ofInt 4) S))]) (st' := [.int (Int32.ofInt 4)]) rfl ?_
                    exact zpE_end rfl rfl (zOq_g (r := .inl (some (.int (Int32.ofInt 4)))) (S' := S) (by unfold R73; rw [if_pos c1, if_pos z25_1, if_pos z25_2, if_pos z25_3, if_neg z25_4, if_pos z29_5]) (by unfold F73; rw [if_pos c1, if_pos z25_1, if_pos z25_2, if_pos z25_3, if_neg z25_4, if_pos z29_5]))
                  · have z29_5 := zF_e0 q29
                    refine zpE_run 2 (L' := [some (.ref 0), some (.int x1), some (.int x2), some (.int (Int32.ofInt 4)), some (.int (V32 x1 (Int32.ofInt 4) S))]) (st' := [.int (V32 x1 (Int32.ofInt 4) S)]) rfl ?_
                    exact zpE_end rfl rfl (zOq_g (r := .inl (some (.int (V32 x1 (Int32.ofInt 4) S)))) (S' := S) (by unfold R73; rw [if_pos c1, if_pos z25_1, if_pos z25_2, if_pos z25_3, if_neg z25_4, if_neg z29_5]) (by unfold F73; rw [if_pos c1, if_pos z25_1, if_pos z25_2, if_pos z25_3, if_neg z25_4, if_neg z29_5]))
            · have z25_3 := zF_e0 q25
              refine zpE_run 1 (L' := [some (.ref 0), some (.int x1), some (.int x2), some (.int (Int32.ofInt 3)), some (.int (V32 x1 (Int32.ofInt 3) S))]) (st' := [.int x2]) rfl ?_
              refine zpE_if rfl (fun q29 => ?_) (fun q29 => ?_)
              · have z29_4 := zF_e1 q29
                refine zpE_run 1 (L' := [some (.ref 0), some (.int x1), some (.int x2), some (.int (Int32.ofInt 3)), some (.int (V32 x1 (Int32.ofInt 3) S))]) (st' := [.int (Int32.ofInt 3)]) rfl ?_
                exact zpE_end rfl rfl (zOq_g (r := .inl (some (.int (Int32.ofInt 3)))) (S' := S) (by unfold R73; rw [if_pos c1, if_pos z25_1, if_pos z25_2, if_neg z25_3, if_pos z29_4]) (by unfold F73; rw [if_pos c1, if_pos z25_1, if_pos z25_2, if_neg z25_3, if_pos z29_4]))
              · have z29_4 := zF_e0 q29
                refine zpE_run 2 (L' := [some (.ref 0), some (.int x1), some (.int x2), some (.int (Int32.ofInt 3)), some (.int (V32 x1 (Int32.ofInt 3) S))]) (st' := [.int (V32 x1 (Int32.ofInt 3) S)]) rfl ?_
                exact zpE_end rfl rfl (zOq_g (r := .inl (some (.int (V32 x1 (Int32.ofInt 3) S)))) (S' := S) (by unfold R73; rw [if_pos c1, if_pos z25_1, if_pos z25_2, if_neg z25_3, if_neg z29_4]) (by unfold F73; rw [if_pos c1, if_pos z25_1, if_pos z25_2, if_neg z25_3, if_neg z29_4]))
        · have z25_2 := zF_e0 q25
          refine zpE_run 1 (L' := [some (.ref 0), some (.int x1), some (.int x2), some (.int (Int32.ofInt 2)), some (.int (V32 x1 (Int32.ofInt 2) S))]) (st' := [.int x2]) rfl ?_
          refine zpE_if rfl (fun q29 => ?_) (fun q29 => ?_)
          · have z29_3 := zF_e1 q29
            refine zpE_run 1 (L' := [some (.ref 0), some (.int x1), some (.int x2), some (.int (Int32.ofInt 2)), some (.int (V32 x1 (Int32.ofInt 2) S))]) (st' := [.int (Int32.ofInt 2)]) rfl ?_
            exact zpE_end rfl rfl (zOq_g (r := .inl (some (.int (Int32.ofInt 2)))) (S' := S) (by unfold R73; rw [if_pos c1, if_pos z25_1, if_neg z25_2, if_pos z29_3]) (by unfold F73; rw [if_pos c1, if_pos z25_1, if_neg z25_2, if_pos z29_3]))
          · have z29_3 := zF_e0 q29
            refine zpE_run 2 (L' := [some (.ref 0), some (.int x1), some (.int x2), some (.int (Int32.ofInt 2)), some (.int (V32 x1 (Int32.ofInt 2) S))]) (st' := [.int (V32 x1 (Int32.ofInt 2) S)]) rfl ?_
            exact zpE_end rfl rfl (zOq_g (r := .inl (some (.int (V32 x1 (Int32.ofInt 2) S)))) (S' := S) (by unfold R73; rw [if_pos c1, if_pos z25_1, if_neg z25_2, if_neg z29_3]) (by unfold F73; rw [if_pos c1, if_pos z25_1, if_neg z25_2, if_neg z29_3]))
    · have z25_1 := zF_e0 q25
      refine zpE_run 1 (L' := [some (.ref 0), some (.int x1), some (.int x2), some (.int (Int32.ofInt 1)), some (.int (V32 x1 (Int32.ofInt 1) S))]) (st' := [.int x2]) rfl ?_
      refine zpE_if rfl (fun q29 => ?_) (fun q29 => ?_)
      · have z29_2 := zF_e1 q29
        refine zpE_run 1 (L' := [some (.ref 0), some (.int x1), some (.int x2), some (.int (Int32.ofInt 1)), some (.int (V32 x1 (Int32.ofInt 1) S))]) (st' := [.int (Int32.ofInt 1)]) rfl ?_
        exact zpE_end rfl rfl (zOq_g (r := .inl (some (.int (Int32.ofInt 1)))) (S' := S) (by unfold R73; rw [if_pos c1, if_neg z25_1, if_pos z29_2]) (by unfold F73; rw [if_pos c1, if_neg z25_1, if_pos z29_2]))
      · have z29_2 := zF_e0 q29
        refine zpE_run 2 (L' := [some (.ref 0), some (.int x1), some (.int x2), some (.int (Int32.ofInt 1)), some (.int (V32 x1 (Int32.ofInt 1) S))]) (st' := [.int (V32 x1 (Int32.ofInt 1) S)]) rfl ?_
        exact zpE_end rfl rfl (zOq_g (r := .inl (some (.int (V32 x1 (Int32.ofInt 1) S)))) (S' := S) (by unfold R73; rw [if_pos c1, if_neg z25_1, if_neg z29_2]) (by unfold F73; rw [if_pos c1, if_neg z25_1, if_neg z29_2]))
theorem fr_F73 {x1 x2 : Int32} : zfrm [] [] (F73 x1 x2 S) S := by
  unfold F73
  exact (fm_ite (fm_ite (fm_ite (fm_ite (fm_ite (fm_ite fm_rf fm_rf) (fm_ite fm_rf fm_rf)) (fm_ite fm_rf fm_rf)) (fm_ite fm_rf fm_rf)) (fm_ite fm_rf fm_rf)) fm_rf)
theorem ln_F73 {x1 x2 : Int32} (HL : zaL S.2) : zaL (F73 x1 x2 S).2 := fm_L fr_F73 HL
end ZCA

