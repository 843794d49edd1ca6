section ZCA
variable {xs : List Int32} {N : Nat} {S : zSt} {T : zH} {nc ns : Nat}
def D75 (x1 : Int32) (S : zSt) (k : Nat) (u : Int32) : Int32 := if (V95 ((x1 * (Int32.ofInt 64)) + ((Int32.ofNat k))) S) = ((0 : Int32)) then (if (if zsyn (zco S.2) (V92 ((x1 * (Int32.ofInt 64)) + ((Int32.ofNat k))) S) (zwi S.1) = 0 then 1 else 0) = ((0 : Int32)) then u else (u + Int32.ofInt 1)) else u
def W75 (x1 : Int32) (S : zSt) (u0 : Int32) : Nat → Int32
  | 0 => u0
  | k + 1 => D75 x1 S k (W75 x1 S u0 k)
def Y75 (x1 : Int32) (S : zSt) (u : Int32) : UInt64 := (FP.ddiv (FP.i2d u) (UInt64.ofNat 4634204016564240384))
theorem l_75 {x1 : Int32} {u0 : Int32} (HL : zaL S.2) : ∀ (N k : Nat) (o4 : Option Value) (nc ns : Nat), k ≤ (Int32.ofInt 64).toInt.toNat → zpE xs N 75 8 [some (.ref 0), some (.int x1), some (.int ((W75 x1 S u0 k))), some (.int (Int32.ofNat k)), o4] [] (zx S.1 S.2 T) nc ns (zOq (.inl (some (.double (Y75 x1 S (W75 x1 S u0 (Int32.ofInt 64).toInt.toNat))))) (zx S.1 S.2 T))
  | 0, _, _, _, _, _ => zpE_0
  | N + 1, k, o4, nc, ns, hk => by
    refine zpE_run1 1 (L' := [some (.ref 0), some (.int x1), some (.int ((W75 x1 S u0 k))), some (.int (Int32.ofNat k)), o4]) (st' := [.int (Int32.ofInt 64), .int (Int32.ofNat k)]) rfl ?_
    refine zpE_icmp rfl (fun q11 => ?_) (fun q11 => ?_)
    · have z11_0 := Int.not_lt.mpr (zF_ge_t q11)
      refine zpE_run 3 (L' := [some (.ref 0), some (.int x1), some (.int ((W75 x1 S u0 k))), some (.int (Int32.ofNat k)), o4]) (st' := [.double (UInt64.ofNat 4634204016564240384), .double (FP.i2d ((W75 x1 S u0 k)))]) rfl ?_
      refine zpE_ddiv rfl ?_
      exact zpE_end rfl rfl (by rw [← zlp_out z11_0 hk]; exact zOq_d (by unfold Y75; (first | done | rfl)))
    · have z11_0 := zF_ge_f q11
      refine zpE_run 8 (L' := [some (.ref 0), some (.int x1), some (.int ((W75 x1 S u0 k))), some (.int (Int32.ofNat k)), some (.int ((x1 * (Int32.ofInt 64)) + (Int32.ofNat k)))]) (st' := [.int ((x1 * (Int32.ofInt 64)) + (Int32.ofNat k)), .ref 0]) rfl ?_
      refine zpE_call rfl rfl (e_95 (S := S) (x1 := (x1 * (Int32.ofInt 64)) + (Int32.ofNat k)) HL) (fun v h1 nc1 ns1 q8 => ?_) (fun E h1 nc1 ns1 q8 => by cases q8.1)
      obtain ⟨q8, q9⟩ := q8
      cases q8
      cases q9
      refine zpE_if rfl (fun q28 => ?_) (fun q28 => ?_)
      · have z28_1 := zF_n1 q28
        refine zpE_run 2 (L' := [some (.ref 0), some (.int x1), some (.int ((W75 x1 S u0 k))), some (.int ((Int32.ofNat k) + Int32.ofInt 1)), some (.int ((x1 * (Int32.ofInt 64)) + (Int32.ofNat k)))]) (st' := []) rfl ?_
        have K := fun o4 nc ns => l_75 (x1 := x1) (u0 := u0) HL N (k + 1) o4 nc ns (zlp_in z11_0 hk)
        rw [← zof1, show W75 x1 S u0 (k + 1) = (W75 x1 S u0 k) from by
            show D75 x1 S k _ = _
            unfold D75
            rw [if_neg z28_1]] at K
        exact K _ _ _
      · have z28_1 := zF_n0 q28
        refine zpE_run 4 (L' := [some (.ref 0), some (.int x1), some (.int ((W75 x1 S u0 k))), some (.int (Int32.ofNat k)), some (.int ((x1 * (Int32.ofInt 64)) + (Int32.ofNat k)))]) (st' := [.int ((x1 * (Int32.ofInt 64)) + (Int32.ofNat k)), .ref 0, .ref 1]) rfl ?_
        refine zpE_call rfl rfl (e_92 (S := S) (x1 := (x1 * (Int32.ofInt 64)) + (Int32.ofNat k)) HL) (fun v h1 nc1 ns1 q8 => ?_) (fun E h1 nc1 ns1 q8 => by cases q8.1)
        obtain ⟨q8, q9⟩ := q8
        cases q8
        cases q9
        refine zpE_call rfl rfl (p_10 HL) (fun v h1 nc1 ns1 q8 => ?_) (fun E h1 nc1 ns1 q8 => by cases q8)
        cases q8
        refine zpE_if rfl (fun q44 => ?_) (fun q44 => ?_)
        · have z44_2 := zF_e1 q44
          refine zpE_run 2 (L' := [some (.ref 0), some (.int x1), some (.int ((W75 x1 S u0 k))), some (.int ((Int32.ofNat k) + Int32.ofInt 1)), some (.int ((x1 * (Int32.ofInt 64)) + (Int32.ofNat k)))]) (st' := []) rfl ?_
          have K := fun o4 nc ns => l_75 (x1 := x1) (u0 := u0) HL N (k + 1) o4 nc ns (zlp_in z11_0 hk)
          rw [← zof1, show W75 x1 S u0 (k + 1) = (W75 x1 S u0 k) from by
              show D75 x1 S k _ = _
              unfold D75
              rw [if_pos z28_1, if_pos z44_2]] at K
          exact K _ _ _
        · have z44_2 := zF_e0 q44
          refine zpE_run 3 (L' := [some (.ref 0), some (.int x1), some (.int (((W75 x1 S u0 k)) + Int32.ofInt 1)), some (.int ((Int32.ofNat k) + Int32.ofInt 1)), some (.int ((x1 * (Int32.ofInt 64)) + (Int32.ofNat k)))]) (st' := []) rfl ?_
          have K := fun o4 nc ns => l_75 (x1 := x1) (u0 := u0) HL N (k + 1) o4 nc ns (zlp_in z11_0 hk)
          rw [← zof1, show W75 x1 S u0 (k + 1) = ((W75 x1 S u0 k)) + Int32.ofInt 1 from by
              show D75 x1 S k _ = _
              unfold D75
              rw [if_pos z28_1, if_neg z44_2]] at K
          exact K _ _ _
def R75 (x1 : Int32) (S : zSt) : Option Value ⊕ Nat := if C83 x1 S = true then (.inl (some (.double (Y75 x1 S (W75 x1 S (Int32.ofInt 0) (Int32.ofInt 64).toInt.toNat))))) else (.inr 1)
def F75 (x1 : Int32) (S : zSt) : zSt := if C83 x1 S = true then S else S
theorem e_75 {x1 : Int32} (HL : zaL S.2) : zpM xs N 75 [.ref 0, .int x1] (zx S.1 S.2 T) nc ns (zOq (R75 x1 S) (zx (F75 x1 S).1 (F75 x1 S).2 T)) := by
  intro L0 e
  cases e
  refine zpE_run 1 (L' := [some (.ref 0), some (.int x1), none, none, none]) (st' := [.int x1]) rfl ?_
  refine zpE_call rfl rfl (e_83 (S := S) (x1 := x1) HL) (fun v h1 nc1 ns1 q8 => ?_) (fun E h1 nc1 ns1 q8 => ?_)
  rotate_left
  · rcases q8 with ⟨_, q8, _⟩ | ⟨c1, q8, q9⟩
    · cases q8
    · cases q8
      cases q9
      exact ⟨fun _ => (zOq_g (r := .inr 1) (S' := S) (by unfold R75; rw [if_neg c1]) (by unfold F75; rw [if_neg c1])), fun pc2 L2 e => by cases e⟩
  replace q8 := q8.resolve_right (fun y9 => by cases y9.2.1)
  obtain ⟨c1, q8, q9⟩ := q8
  cases q8
  cases q9
  refine zpE_run 4 rfl ?_
  rw [show R75 x1 S = .inl (some (.double (Y75 x1 S (W75 x1 S (Int32.ofInt 0) (Int32.ofInt 64).toInt.toNat)))) from by
    unfold R75
    rw [if_pos c1]]
  rw [show F75 x1 S = S from by
    unfold F75
    rw [if_pos c1]]
  exact l_75 (x1 := x1) (S := S) (u0 := Int32.ofInt 0) HL N 0 _ _ _ (Nat.zero_le _)
end ZCA

set_option maxRecDepth 20000
section ZRE
variable {S0 : zSt} {M : zRt} {X : zXt} {kq : Nat × Nat × List Value} {xs : List Int32} {N : Nat} {nc ns : Nat}
def q173 (x1 : Int32) (M : zRt) : Nat → Nat → Int32 → UInt64
  | 0, k, wa => (FP.ddiv (FP.i2d wa) (UInt64.ofNat 4634204016564240384))
  | m + 1, k, wa => if (zkd M.2.2.2 (v125 ((Int32.ofNat k)) M)) = ((0 : Int32)) then (if (zgt (M.2.1 24) ((Int32.ofNat k))) = ((0 : Int32)) then (q173 x1 M m (k + 1) (wa + (Int32.ofInt 1))) else (q173 x1 M m (k + 1) (wa + (Int32.ofInt 0)))) else (q173 x1 M m (k + 1) (wa + (Int32.ofInt 0)))
theorem l_r173 {x1 : Int32} (hX : zUX kq X M.2.2) : ∀ (N k m : Nat) (wa : Int32) (nc ns : Nat), k + m = (Int32.ofInt 64 * x1 + Int32.ofInt 64).toInt.toNat → zpE xs N 173 7 [some (.ref 44), some (.int x1), some (.int wa), some (.int (Int32.ofNat k))] [] (zy S0 M X) nc ns (zOq (.inl (some (.double (q173 x1 M m k wa)))) (zy S0 M X))
  | 0, _, _, _, _, _, _ => zpE_0
  | N + 1, k, m0, wa, nc, ns, hk => by
    refine zpE_run1 5 (L' := [some (.ref 44), some (.int x1), some (.int wa), some (.int (Int32.ofNat k))]) (st' := [.int (((Int32.ofInt 64) * x1) + (Int32.ofInt 64)), .int (Int32.ofNat k)]) rfl ?_
    refine zpE_icmp rfl (fun q15 => ?_) (fun q15 => ?_)
    · have z15_0 := Int.not_lt.mpr (zF_ge_t q15)
      refine zpE_run 3 (L' := [some (.ref 44), some (.int x1), some (.int wa), some (.int (Int32.ofNat k))]) (st' := [.double (UInt64.ofNat 4634204016564240384), .double (FP.i2d wa)]) rfl ?_
      refine zpE_ddiv rfl ?_
      exact zpE_end rfl rfl (by rw [zlp_o2 z15_0 hk]; exact zOq_d (by first | rfl | done))
    · have z15_0 := zF_ge_f q15
      obtain ⟨m, rfl⟩ := zlp_i2 z15_0 hk
      have eQ : q173 x1 M (m + 1) k wa = if (zkd M.2.2.2 (v125 ((Int32.ofNat k)) M)) = ((0 : Int32)) then (if (zgt (M.2.1 24) ((Int32.ofNat k))) = ((0 : Int32)) then (q173 x1 M m (k + 1) (wa + (Int32.ofInt 1))) else (q173 x1 M m (k + 1) (wa + (Int32.ofInt 0)))) else (q173 x1 M m (k + 1) (wa + (Int32.ofInt 0))) := rfl
      refine zpE_run 4 (L' := [some (.ref 44), some (.int x1), some (.int wa), some (.int (Int32.ofNat k))]) (st' := [.int (Int32.ofNat k), .ref 44, .ref 44, .int wa]) rfl ?_
      refine zpE_call rfl rfl (f_125 (M := M) (x1 := Int32.ofNat k) hX) (fun v h1 nc1 ns1 q8 => ?_) (fun E h1 nc1 ns1 q8 => by cases q8.1)
      obtain ⟨q8, q9⟩ := q8
      cases q8
      cases q9
      refine zpE_call rfl rfl (r_121 (zy_mc (M := M) hX)) (fun v h1 nc1 ns1 q8 => ?_) (fun E h1 nc1 ns1 q8 => by cases q8)
      cases q8
      refine zpE_if rfl (fun q28 => ?_) (fun q28 => ?_)
      · have z28_1 := zF_n1 q28
        refine zpE_run 5 (L' := [some (.ref 44), some (.int x1), some (.int (wa + (Int32.ofInt 0))), some (.int ((Int32.ofNat k) + Int32.ofInt 1))]) (st' := []) rfl ?_
        have K := fun nc ns => l_r173 (x1 := x1) hX N (k + 1) m (wa + (Int32.ofInt 0)) nc ns (by omega)
        rw [← zof1] at K
        rw [eQ, if_neg z28_1]
        exact K _ _
      · have z28_1 := zF_n0 q28
        refine zpE_run 3 (L' := [some (.ref 44), some (.int x1), some (.int wa), some (.int (Int32.ofNat k))]) (st' := [.int (Int32.ofNat k), .ref 71, .int wa]) rfl ?_
        refine zpE_bly rfl (zy_g71 (M := M)) (fun _ _ => ?_)
        refine zpE_gen (fun nc ns => ?_)
        refine zpE_if rfl (fun q37 => ?_) (fun q37 => ?_)
        · have z37_2 := zF_n1 q37
          refine zpE_run 5 (L' := [some (.ref 44), some (.int x1), some (.int (wa + (Int32.ofInt 0))), some (.int ((Int32.ofNat k) + Int32.ofInt 1))]) (st' := []) rfl ?_
          have K := fun nc ns => l_r173 (x1 := x1) hX N (k + 1) m (wa + (Int32.ofInt 0)) nc ns (by omega)
          rw [← zof1] at K
          rw [eQ, if_pos z28_1, if_neg z37_2]
          exact K _ _
        · have z37_2 := zF_n0 q37
          refine zpE_run 6 (L' := [some (.ref 44), some (.int x1), some (.int (wa + (Int32.ofInt 1))), some (.int ((Int32.ofNat k) + Int32.ofInt 1))]) (st' := []) rfl ?_
          have K := fun nc ns => l_r173 (x1 := x1) hX N (k + 1) m (wa + (Int32.ofInt 1)) nc ns (by omega)
          rw [← zof1] at K
          rw [eQ, if_pos z28_1, if_pos z37_2]
          exact K _ _
def v173 (x1 : Int32) (M : zRt) : UInt64 := q173 x1 M 64 (Int32.ofInt 64 * x1).toInt.toNat (Int32.ofInt 0)
theorem f_173 {x1 : Int32} {M' : zRt} (hb : ¬ v112 x1 (Int32.ofInt 0) (Int32.ofInt 1) M' = 0) (hX : zUX kq X M.2.2) : zpM xs N 173 [.ref 44, .int x1] (zy S0 M X) nc ns (zOq (.inl (some (.double (v173 x1 M)))) (zy S0 M X)) := by
  have z : (Int32.ofInt 0).toInt ≤ x1.toInt ∧ x1.toInt ≤ (Int32.ofInt 1).toInt := Classical.byContradiction (fun q => hb (v112_1.mpr q))
  rw [show (Int32.ofInt 0).toInt = 0 by decide, show (Int32.ofInt 1).toInt = 1 by decide] at z
  obtain ⟨a, rfl, ha⟩ := znat z.1
  have e : Int32.ofInt 64 * Int32.ofNat a = Int32.ofNat (64 * a) := by
    rw [show Int32.ofInt 64 = Int32.ofNat 64 from rfl, ← Int32.ofNat_mul]
  have e2 : (Int32.ofNat (64 * a)).toInt.toNat = 64 * a := by
    rw [zof_0 (by omega)]
    omega
  have e3 : 64 * a + 64 = (Int32.ofInt 64 * Int32.ofNat a + Int32.ofInt 64).toInt.toNat := by
    rw [e, show Int32.ofInt 64 = Int32.ofNat 64 from rfl, ← Int32.ofNat_add, zof_0 (by omega)]
    omega
  intro L0 e9
  cases e9
  refine zpE_run 6 (L' := [some (.ref 44), some (.int (Int32.ofNat a)), some (.int (Int32.ofInt 0)), some (.int (Int32.ofInt 64 * Int32.ofNat a))]) (st' := []) rfl ?_
  have G := l_r173 (S0 := S0) (x1 := Int32.ofNat a) (xs := xs) hX N (64 * a) 64 (Int32.ofInt 0)
  unfold v173
  rw [e, e2]
  exact G _ _ e3
def v174 (x1 : Int32) (M : zRt) : UInt64 := if (v112 x1 (Int32.ofInt 0) (Int32.ofInt 1) (zmS M 0 (Int32.ofInt 0))) = ((0 : Int32)) then ((FP.i2d (v111 (Int32.ofInt 1) (zmS M 0 (Int32.ofInt 0))))) else ((v173 x1 (zmS M 0 (Int32.ofInt 0))))
def r174 (x1 : Int32) (M : zRt) : zRt := if (v112 x1 (Int32.ofInt 0) (Int32.ofInt 1) (zmS M 0 (Int32.ofInt 0))) = ((0 : Int32)) then ((r111 (Int32.ofInt 1) (zmS M 0 (Int32.ofInt 0)))) else (zmS M 0 (Int32.ofInt 0))
theorem f_174 {x1 : Int32} (hX : zUX kq X M.2.2) : zpM xs N 174 [.ref 44, .int x1] (zy S0 M X) nc ns (zOq (.inl (some (.double (v174 x1 M)))) (zy S0 (r174 x1 M) X)) := by
  intro L0 e
  cases e
  refine zpE_run 6 (L' := [some (.ref 44), some (.int x1)]) (st' := [.int (Int32.ofInt 1), .int (Int32.ofInt 0), .int x1]) (h' := zy S0 (zmS M 0 (Int32.ofInt 0)) X) rfl ?_
  refine zpE_call rfl rfl (f_112 (M := zmS M 0 (Int32.ofInt 0)) (x1 := x1) (x2 := Int32.ofInt 0) (x3 := Int32.ofInt 1) hX) (fun v h1 nc1 ns1 q8 => ?_) (fun E h1 nc1 ns1 q8 => by cases q8.1)
  obtain ⟨q8, q9⟩ := q8
  cases q8
  cases q9
  refine zpE_if rfl (fun q11 => ?_) (fun q11 => ?_)
  · have z11_0 := zF_n1 q11
    refine zpE_run 2 (L' := [some (.ref 44), some (.int x1)]) (st' := [.int x1, .ref 44]) rfl ?_
    refine zpE_call rfl rfl (f_173 (M := zmS M 0 (Int32.ofInt 0)) (x1 := x1) (by assumption) hX) (fun v h1 nc1 ns1 q8 => ?_) (fun E h1 nc1 ns1 q8 => by cases q8.1)
    obtain ⟨q8, q9⟩ := q8
    cases q8
    cases q9
    exact zpE_end rfl rfl (zOr_d (M' := zmS M 0 (Int32.ofInt 0)) (by unfold v174; rw [if_neg z11_0]) (by unfold r174; rw [if_neg z11_0]))
  · have z11_0 := zF_n0 q11
    refine zpE_run 2 (L' := [some (.ref 44), some (.int x1)]) (st' := [.int (Int32.ofInt 1), .ref 44]) rfl ?_
    refine zpE_call rfl rfl (f_111 (M := zmS M 0 (Int32.ofInt 0)) (x1 := Int32.ofInt 1) hX) (fun v h1 nc1 ns1 q8 => ?_) (fun E h1 nc1 ns1 q8 => by cases q8.1)
    obtain ⟨q8, q9⟩ := q8
    cases q8
    cases q9
    obtain ⟨Z1, hZ1⟩ : ∃ Z, Z = r111 (Int32.ofInt 1) (zmS M 0 (Int32.ofInt 0)) := ⟨_, rfl⟩
    rw [← hZ1]
    have hY1 : zUX kq X Z1.2.2 := by
      rw [hZ1, rl_111]
      exact hX
    refine zpE_run 1 (L' := [some (.ref 44), some (.int x1)]) (st' := [.double (FP.i2d (v111 (Int32.ofInt 1) (zmS M 0 (Int32.ofInt 0))))]) rfl ?_
    exact zpE_end rfl rfl (zOr_d (M' := Z1) (by unfold v174; (try rw [← hZ1]); rw [if_pos z11_0]) (by unfold r174; (try rw [← hZ1]); rw [if_pos z11_0]))
theorem gr_174 {x1 : Int32} : zfrM [0] [] [] (r174 x1 M) M := by
  unfold r174
  exact (gm_ite (gm_c gr_111 (gm_c gm_S gm_rf (by decide) (by decide) (by decide)) (by decide) (by decide) (by decide)) (gm_c gm_S gm_rf (by decide) (by decide) (by decide)))
theorem rl_174 {x1 : Int32} : (r174 x1 M).2.2 = M.2.2 := gm_l gr_174
end ZRE
