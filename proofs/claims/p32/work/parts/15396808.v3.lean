section ZCA
variable {xs : List Int32} {N : Nat} {S : zSt} {T : zH} {nc ns : Nat}
def D75 (x1 : Int32) (S : zSt) (k : Nat) (u : Int32) : Int32 := if (V95 ((x1 * (Int32.ofInt 64)) + ((Int32.ofNat k))) S) = ((0 : Int32)) then (if (if zsyn (zco S.2) (V92 ((x1 * (Int32.ofInt 64)) + ((Int32.ofNat k))) S) (zwi S.1) = 0 then 1 else 0) = ((0 : Int32)) then u else (u + Int32.ofInt 1)) else u
def W75 (x1 : Int32) (S : zSt) (u0 : Int32) : Nat → Int32
  | 0 => u0
  | k + 1 => D75 x1 S k (W75 x1 S u0 k)
def Y75 (x1 : Int32) (S : zSt) (u : Int32) : UInt64 := (FP.ddiv (FP.i2d u) (UInt64.ofNat 4634204016564240384))
theorem l_75 {x1 : Int32} {u0 : Int32} (HL : zaL S.2) : ∀ (N k : Nat) (o4 : Option Value) (nc ns : Nat), k ≤ (Int32.ofInt 64).toInt.toNat → zpE xs N 75 8 [some (.ref 0), some (.int x1), some (.int ((W75 x1 S u0 k))), some (.int (Int32.ofNat k)), o4] [] (zx S.1 S.2 T) nc ns (zOq (.inl (some (.double (Y75 x1 S (W75 x1 S u0 (Int32.ofInt 64).toInt.toNat))))) (zx S.1 S.2 T))
  | 0, _, _, _, _, _ => zpE_0
  | N + 1, k, o4, nc, ns, hk => by
    refine zpE_run1 1 (L' := [some (.ref 0), some (.int x1), some (.int ((W75 x1 S u0 k))), some (.int (Int32.ofNat k)), o4]) (st' := [.int (Int32.ofInt 64), .int (Int32.ofNat k)]) rfl ?_
    refine zpE_icmp rfl (fun q11 => ?_) (fun q11 => ?_)
    · have z11_0 := Int.not_lt.mpr (zF_ge_t q11)
      refine zpE_run 3 (L' := [some (.ref 0), some (.int x1), some (.int ((W75 x1 S u0 k))), some (.int (Int32.ofNat k)), o4]) (st' := [.double (UInt64.ofNat 4634204016564240384), .double (FP.i2d ((W75 x1 S u0 k)))]) rfl ?_
      refine zpE_ddiv rfl ?_
      exact zpE_end rfl rfl (by rw [← zlp_out z11_0 hk]; exact zOq_d (by unfold Y75; (first | done | rfl)))
    · have z11_0 := zF_ge_f q11
      refine zpE_run 8 (L' := [some (.ref 0), some (.int x1), some (.int ((W75 x1 S u0 k))), some (.int (Int32.ofNat k)), some (.int ((x1 * (Int32.ofInt 64)) + (Int32.ofNat k)))]) (st' := [.int ((x1 * (Int32.ofInt 64)) + (Int32.ofNat k)), .ref 0]) rfl ?_
      refine zpE_call rfl rfl (e_95 (S := S) (x1 := (x1 * (Int32.ofInt 64)) + (Int32.ofNat k)) HL) (fun v h1 nc1 ns1 q8 => ?_) (fun E h1 nc1 ns1 q8 => by cases q8.1)
      obtain ⟨q8, q9⟩ := q8
      cases q8
      cases q9
      refine zpE_if rfl (fun q28 => ?_) (fun q28 => ?_)
      · have z28_1 := zF_n1 q28
        refine zpE_run 2 (L' := [some (.ref 0), some (.int x1), some (.int ((W75 x1 S u0 k))), some (.int ((Int32.ofNat k) + Int32.ofInt 1)), some (.int ((x1 * (Int32.ofInt 64)) + (Int32.ofNat k)))]) (st' := []) rfl ?_
        have K := fun o4 nc ns => l_75 (x1 := x1) (u0 := u0) HL N (k + 1) o4 nc ns (zlp_in z11_0 hk)
        rw [← zof1, show W75 x1 S u0 (k + 1) = (W75 x1 S u0 k) from by
            show D75 x1 S k _ = _
            unfold D75
            rw [if_neg z28_1]] at K
        exact K _ _ _
      · have z28_1 := zF_n0 q28
        refine zpE_run 4 (L' := [some (.ref 0), some (.int x1), some (.int ((W75 x1 S u0 k))), some (.int (Int32.ofNat k)), some (.int ((x1 * (Int32.ofInt 64)) + (Int32.ofNat k)))]) (st' := [.int ((x1 * (Int32.ofInt 64)) + (Int32.ofNat k)), .ref 0, .ref 1]) rfl ?_
        refine zpE_call rfl rfl (e_92 (S := S) (x1 := (x1 * (Int32.ofInt 64)) + (Int32.ofNat k)) HL) (fun v h1 nc1 ns1 q8 => ?_) (fun E h1 nc1 ns1 q8 => by cases q8.1)
        obtain ⟨q8, q9⟩ := q8
        cases q8
        cases q9
        refine zpE_call rfl rfl (p_10 HL) (fun v h1 nc1 ns1 q8 => ?_) (fun E h1 nc1 ns1 q8 => by cases q8)
        cases q8
        refine zpE_if rfl (fun q44 => ?_) (fun q44 => ?_)
        · have z44_2 := zF_e1 q44
          refine zpE_run 2 (L' := [some (.ref 0), some (.int x1), some (.int ((W75 x1 S u0 k))), some (.int ((Int32.ofNat k) + Int32.ofInt 1)), some (.int ((x1 * (Int32.ofInt 64)) + (Int32.ofNat k)))]) (st' := []) rfl ?_
          have K := fun o4 nc ns => l_75 (x1 := x1) (u0 := u0) HL N (k + 1) o4 nc ns (zlp_in z11_0 hk)
          rw [← zof1, show W75 x1 S u0 (k + 1) = (W75 x1 S u0 k) from by
              show D75 x1 S k _ = _
              unfold D75
              rw [if_pos z28_1, if_pos z44_2]] at K
          exact K _ _ _
        · have z44_2 := zF_e0 q44
          refine zpE_run 3 (L' := [some (.ref 0), some (.int x1), some (.int (((W75 x1 S u0 k)) + Int32.ofInt 1)), some (.int ((Int32.ofNat k) + Int32.ofInt 1)), some (.int ((x1 * (Int32.ofInt 64)) + (Int32.ofNat k)))]) (st' := []) rfl ?_
          have K := fun o4 nc ns => l_75 (x1 := x1) (u0 := u0) HL N (k + 1) o4 nc ns (zlp_in z11_0 hk)
          rw [← zof1, show W75 x1 S u0 (k + 1) = ((W75 x1 S u0 k)) + Int32.ofInt 1 from by
              show D75 x1 S k _ = _
              unfold D75
              rw [if_pos z28_1, if_neg z44_2]] at K
          exact K _ _ _
def R75 (x1 : Int32) (S : zSt) : Option Value ⊕ Nat := if C83 x1 S = true then (.inl (some (.double (Y75 x1 S (W75 x1 S (Int32.ofInt 0) (Int32.ofInt 64).toInt.toNat))))) else (.inr 1)
def F75 (x1 : Int32) (S : zSt) : zSt := if C83 x1 S = true then S else S
theorem e_75 {x1 : Int32} (HL : zaL S.2) : zpM xs N 75 [.ref 0, .int x1] (zx S.1 S.2 T) nc ns (zOq (R75 x1 S) (zx (F75 x1 S).1 (F75 x1 S).2 T)) := by
  intro L0 e
  cases e
  refine zpE_run 1 (L' := [some (.ref 0), some (.int x1), none, none, none]) (st' := [.int x1]) rfl ?_
  refine zpE_call rfl rfl (e_83 (S := S) (x1 := x1) HL) (fun v h1 nc1 ns1 q8 => ?_) (fun E h1 nc1 ns1 q8 => ?_)
  rotate_left
  · rcases q8 with ⟨_, q8, _⟩ | ⟨c1, q8, q9⟩
    · cases q8
    · cases q8
      cases q9
      exact ⟨fun _ => (zOq_g (r := .inr 1) (S' := S) (by unfold R75; rw [if_neg c1]) (by unfold F75; rw [if_neg c1])), fun pc2 L2 e => by cases e⟩
  replace q8 := q8.resolve_right (fun y9 => by cases y9.2.1)
  obtain ⟨c1, q8, q9⟩ := q8
  cases q8
  cases q9
  refine zpE_run 4 rfl ?_
  rw [show R75 x1 S = .inl (some (.double (Y75 x1 S (W75 x1 S (Int32.ofInt 0) (Int32.ofInt 64).toInt.toNat)))) from by
    unfold R75
    rw [if_pos c1]]
  rw [show F75 x1 S = S from by
    unfold F75
    rw [if_pos c1]]
  exact l_75 (x1 := x1) (S := S) (u0 := Int32.ofInt 0) HL N 0 _ _ _ (Nat.zero_le _)
end ZCA

