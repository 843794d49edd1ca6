section ZCA
variable {xs : List Int32} {N : Nat} {S : zSt} {T : zH} {nc ns : Nat}
def Q18i (a : Nat) (S : zSt) : Nat → Nat → Bool
  | 0, _ => true
  | m + 1, k => if (zgt (S.2 0) (Int32.ofNat a)) = (zgt (S.2 0) ((Int32.ofNat k))) then false else (Q18i a S m (k + 1))
theorem l_18i {a N0 k0 m0 : Nat} {P : zO → Prop} (HL : zaL S.2) (K : Q18i a S m0 k0 = true → ∀ (o2 : Option Value) (nc ns : Nat), zpE xs N0 18 67 [some (.ref 1), some (.int (Int32.ofNat a)), o2] [] (zx S.1 S.2 T) nc ns P) (H : Q18i a S m0 k0 = false → ∀ o, zOq (.inl (some (.int (Int32.ofInt 0)))) (zx S.1 S.2 T) o → P o) : ∀ (N k m : Nat) (nc ns : Nat), N ≤ N0 → k + m = (S.1 2).toInt.toNat → Q18i a S m0 k0 = Q18i a S m k → zpE xs N 18 32 [some (.ref 1), some (.int (Int32.ofNat a)), some (.int (Int32.ofNat k))] [] (zx S.1 S.2 T) nc ns P
  | 0, _, _, _, _, _, _, _ => zpE_0
  | N + 1, k, m0, nc, ns, hN, hk, hq => by
    refine zpE_run1 2 (L' := [some (.ref 1), some (.int (Int32.ofNat a)), some (.int (Int32.ofNat k))]) (st' := [.int (S.1 2), .int (Int32.ofNat k)]) rfl ?_
    refine zpE_icmp rfl (fun q37 => ?_) (fun q37 => ?_)
    · have z37_0 := Int.not_lt.mpr (zF_ge_t q37)
      skip
      rw [zlp_o2 z37_0 hk] at hq
      exact zpE_le (by omega) (K hq _ _ _)
    · have z37_0 := zF_ge_f q37
      obtain ⟨m, rfl⟩ := zlp_i2 z37_0 hk
      have eQ : Q18i a S (m + 1) k = if (zgt (S.2 0) (Int32.ofNat a)) = (zgt (S.2 0) ((Int32.ofNat k))) then false else (Q18i a S m (k + 1)) := rfl
      refine zpE_run 3 (L' := [some (.ref 1), some (.int (Int32.ofNat a)), some (.int (Int32.ofNat k))]) (st' := [.int (Int32.ofNat a), .ref 2]) rfl ?_
      refine zpE_call rfl rfl (p_25 0 3 2 rfl rfl (HL : zaL S.2)) (fun v h1 nc1 ns1 q8 => ?_) (fun E h1 nc1 ns1 q8 => by cases q8)
      cases q8
      refine zpE_run 3 (L' := [some (.ref 1), some (.int (Int32.ofNat a)), some (.int (Int32.ofNat k))]) (st' := [.int (Int32.ofNat k), .ref 2, .int (zgt (S.2 0) (Int32.ofNat a))]) rfl ?_
      refine zpE_call rfl rfl (p_25 0 3 2 rfl rfl (HL : zaL S.2)) (fun v h1 nc1 ns1 q8 => ?_) (fun E h1 nc1 ns1 q8 => by cases q8)
      cases q8
      refine zpE_icmp rfl (fun q56 => ?_) (fun q56 => ?_)
      · have z56_1 := zF_n1 q56
        refine zpE_run 2 (L' := [some (.ref 1), some (.int (Int32.ofNat a)), some (.int ((Int32.ofNat k) + Int32.ofInt 1))]) (st' := []) rfl ?_
        have K9 := fun nc ns => l_18i HL K H N (k + 1) m nc ns (by omega) (by omega) (hq.trans (by rw [eQ, if_neg z56_1]))
        rw [← zof1] at K9
        exact K9 _ _
      · have z56_1 := zF_n0 q56
        refine zpE_run 1 (L' := [some (.ref 1), some (.int (Int32.ofNat a)), some (.int (Int32.ofNat k))]) (st' := [.int (Int32.ofInt 0)]) rfl ?_
        exact zpE_end rfl rfl (H (hq.trans (by rw [eQ, if_pos z56_1])) _ (zOq_v rfl))
def Q18 (S : zSt) : Nat → Nat → Int32
  | 0, _ => Int32.ofInt 1
  | m + 1, a => if zrmd (zbc (zgt (S.2 0) (Int32.ofNat a))) (Int32.ofInt 2) = ((0 : Int32)) then Int32.ofInt 0 else if Q18i a S ((S.1 2).toInt.toNat - (a + 1)) (a + 1) = true then Q18 S m (a + 1) else Int32.ofInt 0
theorem l_18 (HL : zaL S.2) : ∀ (N a m : Nat) (o2 : Option Value) (nc ns : Nat), a + m = (S.1 2).toInt.toNat → zpE xs N 18 2 [some (.ref 1), some (.int (Int32.ofNat a)), o2] [] (zx S.1 S.2 T) nc ns (zOq (.inl (some (.int (Q18 S m a)))) (zx S.1 S.2 T))
  | 0, _, _, _, _, _, _ => zpE_0
  | N + 1, a, m0, o2, nc, ns, hk => by
    refine zpE_run1 2 (L' := [some (.ref 1), some (.int (Int32.ofNat a)), o2]) (st' := [.int (S.1 2), .int (Int32.ofNat a)]) rfl ?_
    refine zpE_icmp rfl (fun q7 => ?_) (fun q7 => ?_)
    · have z7_0 := Int.not_lt.mpr (zF_ge_t q7)
      refine zpE_run 1 (L' := [some (.ref 1), some (.int (Int32.ofNat a)), o2]) (st' := [.int (Int32.ofInt 1)]) rfl ?_
      exact zpE_end rfl rfl (by rw [zlp_o2 z7_0 hk]; exact zOq_v rfl)
    · have z7_0 := zF_ge_f q7
      obtain ⟨m, rfl⟩ := zlp_i2 z7_0 hk
      have eQ : Q18 S (m + 1) a = if zrmd (zbc (zgt (S.2 0) (Int32.ofNat a))) (Int32.ofInt 2) = ((0 : Int32)) then Int32.ofInt 0 else if Q18i a S ((S.1 2).toInt.toNat - (a + 1)) (a + 1) = true then Q18 S m (a + 1) else Int32.ofInt 0 := rfl
      refine zpE_run 3 (L' := [some (.ref 1), some (.int (Int32.ofNat a)), o2]) (st' := [.int (Int32.ofNat a), .ref 2]) rfl ?_
      refine zpE_call rfl rfl (p_25 0 3 2 rfl rfl (HL : zaL S.2)) (fun v h1 nc1 ns1 q8 => ?_) (fun E h1 nc1 ns1 q8 => by cases q8)
      cases q8
      refine zpE_call rfl rfl ((zpM_of (t_229 (D := 0)))) (fun v h1 nc1 ns1 q8 => ?_) (fun E h1 nc1 ns1 q8 => by cases q8)
      cases q8
      refine zpE_run 1 (L' := [some (.ref 1), some (.int (Int32.ofNat a)), o2]) (st' := [.int (Int32.ofInt 2), .int (zbc (zgt (S.2 0) (Int32.ofNat a)))]) rfl ?_
      refine zpE_irem rfl (fun _ => ?_)
      refine zpE_if rfl (fun q23 => ?_) (fun q23 => ?_)
      · have z23_1 := zF_n1 q23
        refine zpE_run 4 (L' := [some (.ref 1), some (.int (Int32.ofNat a)), some (.int (Int32.ofNat a + Int32.ofInt 1))]) (st' := []) rfl ?_
        rw [zof1, eQ, if_neg z23_1]
        refine l_18i (N0 := N) (m0 := (S.1 2).toInt.toNat - (a + 1)) (k0 := a + 1) HL (fun e o2 nc ns => ?_) (fun e o ho => ?_) N _ _ _ _ (Nat.le_refl _) (by omega) rfl
        · rw [if_pos e]
          refine zpE_run 2 (L' := [some (.ref 1), some (.int (Int32.ofNat a + Int32.ofInt 1)), o2]) (st' := []) rfl ?_
          rw [zof1]
          exact l_18 HL N (a + 1) m _ _ _ (by omega)
        · rw [if_neg (by rw [e]; exact Bool.false_ne_true)]
          exact ho
      · have z23_1 := zF_n0 q23
        refine zpE_run 1 (L' := [some (.ref 1), some (.int (Int32.ofNat a)), o2]) (st' := [.int (Int32.ofInt 0)]) rfl ?_
        exact zpE_end rfl rfl (by rw [eQ, if_pos z23_1]; exact zOq_v rfl)
def V18 (S : zSt) : Int32 := Q18 S (S.1 2).toInt.toNat 0
theorem e_18 (HL : zaL S.2) : zpM xs N 18 [.ref 1] (zx S.1 S.2 T) nc ns (zOq (.inl (some (.int (V18 S)))) (zx S.1 S.2 T)) := by
  intro L0 e
  cases e
  refine zpE_run 2 (L' := [some (.ref 1), some (.int (Int32.ofNat 0)), none]) (st' := []) rfl ?_
  exact l_18 HL N 0 _ _ _ _ (Nat.zero_add _)
def Q51b (S : zSt) : Nat → Nat → Int32
  | 0, _ => (Int32.ofInt 1)
  | m + 1, k => if (V42 (zgt (S.2 6) ((Int32.ofNat k))) (zgt (S.2 2) (zgt (S.2 6) ((Int32.ofNat k)))) S) = (zgt (S.2 2) (zgt (S.2 6) ((Int32.ofNat k)))) then (Q51b S m (k + 1)) else ((Int32.ofInt 0))
theorem l_51b (HL : zaL S.2) : ∀ (N k m : Nat) (o2 : Option Value) (nc ns : Nat), k + m = (S.1 9).toInt.toNat → zpE xs N 51 29 [some (.ref 6), some (.int (Int32.ofNat k)), o2] [] (zx S.1 S.2 T) nc ns (zOq (.inl (some (.int (Q51b S m k)))) (zx S.1 S.2 T))
  | 0, _, _, _, _, _, _ => zpE_0
  | N + 1, k, m0, o2, nc, ns, hk => by
    refine zpE_run1 3 (L' := [some (.ref 6), some (.int (Int32.ofNat k)), o2]) (st' := [.int (S.1 9), .int (Int32.ofNat k)]) rfl ?_
    refine zpE_icmp rfl (fun q37 => ?_) (fun q37 => ?_)
    · have z37_0 := Int.not_lt.mpr (zF_ge_t q37)
      refine zpE_run 1 (L' := [some (.ref 6), some (.int (Int32.ofNat k)), o2]) (st' := [.int (Int32.ofInt 1)]) rfl ?_
      exact zpE_end rfl rfl (by rw [zlp_o2 z37_0 hk]; exact zOq_v rfl)
    · have z37_0 := zF_ge_f q37
      obtain ⟨m, rfl⟩ := zlp_i2 z37_0 hk
      have eQ : Q51b S (m + 1) k = if (V42 (zgt (S.2 6) ((Int32.ofNat k))) (zgt (S.2 2) (zgt (S.2 6) ((Int32.ofNat k)))) S) = (zgt (S.2 2) (zgt (S.2 6) ((Int32.ofNat k)))) then (Q51b S m (k + 1)) else ((Int32.ofInt 0)) := rfl
      refine zpE_run 4 (L' := [some (.ref 6), some (.int (Int32.ofNat k)), o2]) (st' := [.int (Int32.ofNat k), .ref 16]) rfl ?_
      refine zpE_call rfl rfl (p_25 6 17 16 rfl rfl (HL : zaL S.2)) (fun v h1 nc1 ns1 q8 => ?_) (fun E h1 nc1 ns1 q8 => by cases q8)
      cases q8
      refine zpE_run 6 (L' := [some (.ref 6), some (.int (Int32.ofNat k)), some (.int (zgt (S.2 6) (Int32.ofNat k)))]) (st' := [.int (zgt (S.2 6) (Int32.ofNat k)), .ref 7, .int (zgt (S.2 6) (Int32.ofNat k)), .ref 6]) rfl ?_
      refine zpE_call rfl rfl (p_25 2 8 7 rfl rfl (HL : zaL S.2)) (fun v h1 nc1 ns1 q8 => ?_) (fun E h1 nc1 ns1 q8 => by cases q8)
      cases q8
      refine zpE_call rfl rfl (e_42 (S := S) (x1 := zgt (S.2 6) (Int32.ofNat k)) (x2 := zgt (S.2 2) (zgt (S.2 6) (Int32.ofNat k))) HL) (fun v h1 nc1 ns1 q8 => ?_) (fun E h1 nc1 ns1 q8 => by cases q8.1)
      obtain ⟨q8, q9⟩ := q8
      cases q8
      cases q9
      refine zpE_run 3 (L' := [some (.ref 6), some (.int (Int32.ofNat k)), some (.int (zgt (S.2 6) (Int32.ofNat k)))]) (st' := [.int (zgt (S.2 6) (Int32.ofNat k)), .ref 7, .int (V42 (zgt (S.2 6) (Int32.ofNat k)) (zgt (S.2 2) (zgt (S.2 6) (Int32.ofNat k))) S)]) rfl ?_
      refine zpE_call rfl rfl (p_25 2 8 7 rfl rfl (HL : zaL S.2)) (fun v h1 nc1 ns1 q8 => ?_) (fun E h1 nc1 ns1 q8 => by cases q8)
      cases q8
      refine zpE_icmp rfl (fun q73 => ?_) (fun q73 => ?_)
      · have z73_1 := zF_e1 q73
        refine zpE_run 2 (L' := [some (.ref 6), some (.int ((Int32.ofNat k) + Int32.ofInt 1)), some (.int (zgt (S.2 6) (Int32.ofNat k)))]) (st' := []) rfl ?_
        have K := fun o2 nc ns => l_51b HL N (k + 1) m o2 nc ns (by omega)
        rw [← zof1] at K
        rw [eQ, if_pos z73_1]
        exact K _ _ _
      · have z73_1 := zF_e0 q73
        refine zpE_run 1 (L' := [some (.ref 6), some (.int (Int32.ofNat k)), some (.int (zgt (S.2 6) (Int32.ofNat k)))]) (st' := [.int (Int32.ofInt 0)]) rfl ?_
        exact zpE_end rfl rfl (by rw [eQ, if_neg z73_1]; exact zOq_v rfl)
def Q51a (S : zSt) : Nat → Nat → Int32
  | 0, _ => Q51b S (S.1 9).toInt.toNat 0
  | m + 1, k => if (zgt (S.2 3) ((Int32.ofNat k))).toInt < ((0 : Int32)).toInt then ((Int32.ofInt 0)) else (Q51a S m (k + 1))
theorem l_51a (HL : zaL S.2) : ∀ (N k m : Nat) (o2 : Option Value) (nc ns : Nat), k + m = (Int32.ofInt 20).toInt.toNat → zpE xs N 51 2 [some (.ref 6), some (.int (Int32.ofNat k)), o2] [] (zx S.1 S.2 T) nc ns (zOq (.inl (some (.int (Q51a S m k)))) (zx S.1 S.2 T))
  | 0, _, _, _, _, _, _ => zpE_0
  | N + 1, k, m0, o2, nc, ns, hk => by
    refine zpE_run1 1 (L' := [some (.ref 6), some (.int (Int32.ofNat k)), o2]) (st' := [.int (Int32.ofInt 20), .int (Int32.ofNat k)]) rfl ?_
    refine zpE_icmp rfl (fun q5 => ?_) (fun q5 => ?_)
    · have z5_0 := Int.not_lt.mpr (zF_ge_t q5)
      refine zpE_run 2 (L' := [some (.ref 6), some (.int (Int32.ofNat 0)), o2]) (st' := []) rfl ?_
      rw [zlp_o2 z5_0 hk]
      exact l_51b HL N 0 _ _ _ _ (Nat.zero_add _)
    · have z5_0 := zF_ge_f q5
      obtain ⟨m, rfl⟩ := zlp_i2 z5_0 hk
      have eQ : Q51a S (m + 1) k = if (zgt (S.2 3) ((Int32.ofNat k))).toInt < ((0 : Int32)).toInt then ((Int32.ofInt 0)) else (Q51a S m (k + 1)) := rfl
      refine zpE_run 3 (L' := [some (.ref 6), some (.int (Int32.ofNat k)), o2]) (st' := [.int (Int32.ofNat k), .ref 9]) rfl ?_
      refine zpE_call rfl rfl (p_25 3 10 9 rfl rfl (HL : zaL S.2)) (fun v h1 nc1 ns1 q8 => ?_) (fun E h1 nc1 ns1 q8 => by cases q8)
      cases q8
      refine zpE_if rfl (fun q16 => ?_) (fun q16 => ?_)
      · have z16_1 := Int.not_lt.mpr (zF_ge_t q16)
        refine zpE_run 2 (L' := [some (.ref 6), some (.int ((Int32.ofNat k) + Int32.ofInt 1)), o2]) (st' := []) rfl ?_
        have K := fun o2 nc ns => l_51a HL N (k + 1) m o2 nc ns (by omega)
        rw [← zof1] at K
        rw [eQ, if_neg z16_1]
        exact K _ _ _
      · have z16_1 := zF_ge_f q16
        refine zpE_run 1 (L' := [some (.ref 6), some (.int (Int32.ofNat k)), o2]) (st' := [.int (Int32.ofInt 0)]) rfl ?_
        exact zpE_end rfl rfl (by rw [eQ, if_pos z16_1]; exact zOq_v rfl)
def V51 (S : zSt) : Int32 := Q51a S 20 0
theorem e_51 (HL : zaL S.2) : zpM xs N 51 [.ref 6] (zx S.1 S.2 T) nc ns (zOq (.inl (some (.int (V51 S)))) (zx S.1 S.2 T)) := by
  intro L0 e
  cases e
  refine zpE_run 2 (L' := [some (.ref 6), some (.int (Int32.ofNat 0)), none]) (st' := []) rfl ?_
  exact l_51a HL N 0 20 _ _ _ (by decide)
def V80  (S : zSt) : Int32 := if (V18 S) = ((0 : Int32)) then ((Int32.ofInt 0)) else (if (V51 S) = ((0 : Int32)) then ((Int32.ofInt 0)) else (if (V38 S) = ((0 : Int32)) then ((Int32.ofInt 0)) else (if (V94 S) = ((0 : Int32)) then ((Int32.ofInt 0)) else ((Int32.ofInt 1)))))
theorem e_80 (HL : zaL S.2) : zpM xs N 80 [.ref 0] (zx S.1 S.2 T) nc ns (zOq (.inl (some (.int (V80 S)))) (zx S.1 S.2 T)) := by
  intro L0 e
  cases e
  refine zpE_run 2 (L' := [some (.ref 0)]) (st' := [.ref 1]) rfl ?_
  refine zpE_call rfl rfl (e_18 (S := S) HL) (fun v h1 nc1 ns1 q8 => ?_) (fun E h1 nc1 ns1 q8 => by cases q8.1)
  obtain ⟨q8, q9⟩ := q8
  cases q8
  cases q9
  refine zpE_if rfl (fun q7 => ?_) (fun q7 => ?_)
  · have z7_0 := zF_e1 q7
    refine zpE_run 1 (L' := [some (.ref 0)]) (st' := [.int (Int32.ofInt 0)]) rfl ?_
    exact zpE_end rfl rfl (zOq_v (by unfold V80; rw [if_pos z7_0]))
  · have z7_0 := zF_e0 q7
    refine zpE_run 2 (L' := [some (.ref 0)]) (st' := [.ref 6]) rfl ?_
    refine zpE_call rfl rfl (e_51 (S := S) HL) (fun v h1 nc1 ns1 q8 => ?_) (fun E h1 nc1 ns1 q8 => by cases q8.1)
    obtain ⟨q8, q9⟩ := q8
    cases q8
    cases q9
    refine zpE_if rfl (fun q17 => ?_) (fun q17 => ?_)
    · have z17_1 := zF_e1 q17
      refine zpE_run 1 (L' := [some (.ref 0)]) (st' := [.int (Int32.ofInt 0)]) rfl ?_
      exact zpE_end rfl rfl (zOq_v (by unfold V80; rw [if_neg z7_0, if_pos z17_1]))
    · have z17_1 := zF_e0 q17
      refine zpE_run 2 (L' := [some (.ref 0)]) (st' := [.ref 29]) rfl ?_
      refine zpE_call rfl rfl (e_38 (S := S) HL) (fun v h1 nc1 ns1 q8 => ?_) (fun E h1 nc1 ns1 q8 => by cases q8.1)
      obtain ⟨q8, q9⟩ := q8
      cases q8
      cases q9
      refine zpE_if rfl (fun q27 => ?_) (fun q27 => ?_)
      · have z27_2 := zF_e1 q27
        refine zpE_run 1 (L' := [some (.ref 0)]) (st' := [.int (Int32.ofInt 0)]) rfl ?_
        exact zpE_end rfl rfl (zOq_v (by unfold V80; rw [if_neg z7_0, if_neg z17_1, if_pos z27_2]))
      · have z27_2 := zF_e0 q27
        refine zpE_run 1 (L' := [some (.ref 0)]) (st' := [.ref 0]) rfl ?_
        refine zpE_call rfl rfl (e_94 (S := S) HL) (fun v h1 nc1 ns1 q8 => ?_) (fun E h1 nc1 ns1 q8 => by cases q8.1)
        obtain ⟨q8, q9⟩ := q8
        cases q8
        cases q9
        refine zpE_if rfl (fun q34 => ?_) (fun q34 => ?_)
        · have z34_3 := zF_e1 q34
          refine zpE_run 1 (L' := [some (.ref 0)]) (st' := [.int (Int32.ofInt 0)]) rfl ?_
          exact zpE_end rfl rfl (zOq_v (by unfold V80; rw [if_neg z7_0, if_neg z17_1, if_neg z27_2, if_pos z34_3]))
        · have z34_3 := zF_e0 q34
          refine zpE_run 2 (L' := [some (.ref 0)]) (st' := [.int (Int32.ofInt 1)]) rfl ?_
          exact zpE_end rfl rfl (zOq_v (by unfold V80; rw [if_neg z7_0, if_neg z17_1, if_neg z27_2, if_neg z34_3]))
end ZCA

