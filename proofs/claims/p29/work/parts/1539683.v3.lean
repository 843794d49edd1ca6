/-! Loops that may return early. -/
theorem zlp_o2 {k m : Nat} {b : Int32} (h : ¬ (Int32.ofNat k).toInt < b.toInt) (hk : k + m = b.toInt.toNat) : m = 0 := by
  have := Int32.toInt_lt b
  rw [zofI (by omega)] at h
  omega
theorem zlp_i2 {k m : Nat} {b : Int32} (h : (Int32.ofNat k).toInt < b.toInt) (hk : k + m = b.toInt.toNat) : ∃ n, m = n + 1 := by
  have := Int32.toInt_lt b
  rw [zofI (by omega)] at h
  exact ⟨m - 1, by omega⟩
theorem zlp_rg2 {M : zRt} {X : zXt} {kq : Nat × Nat × List Value} {n i k m : Nat} (hi : i < n) (hX : zUN n kq X M.2.2) (h : (Int32.ofNat k).toInt < (Int32.ofNat (M.2.2.1 i).length).toInt) (hk : k + m = (Int32.ofNat (M.2.2.1 i).length).toInt.toNat) : ¬ Int32.ofNat k < 0 ∧ (Int32.ofNat k).toNatClampNeg < (M.2.2.1 i).length := zlp_rg hi hX h (by omega)
section ZSD
variable {xs : List Int32} {N : Nat} {nc ns : Nat} {P : zO → Prop}
theorem zOq_d {h : zH} {V v : UInt64} (e : V = v) : zOq (.inl (some (.double V))) h (.inl (some (.double v)), h, nc, ns) := by
  subst e
  exact ⟨rfl, rfl⟩
theorem zOr_d {S0 : zSt} {M' R : zRt} {X : zXt} {V v : UInt64} (e1 : V = v) (e : R = M') : zOq (.inl (some (.double V))) (zy S0 R X) (.inl (some (.double v)), zy S0 M' X, nc, ns) := by
  subst e
  subst e1
  exact ⟨rfl, rfl⟩
theorem zpE_ddiv {y pc nx k yy m c : Nat} {L : zL} {h : zH} {x z : UInt64} {r : List Value} (h1 : zat (zmc y) pc = some (.ddiv, nx, k, yy, m, c)) (g : zpE xs N y nx L (.double (FP.ddiv x z) :: r) h nc ns P) : zpE xs N y pc L (.double z :: .double x :: r) h nc ns P := by
  have en : zstep zcf xs pc .ddiv nx k yy m c L (.double z :: .double x :: r) h = if (FP.ddiv x z) &&& 0x7fffffffffffffff ≤ 0x7ff0000000000000 then zgo nx L (.double (FP.ddiv x z) :: r) h else none := rfl
  by_cases hz : (FP.ddiv x z) &&& 0x7fffffffffffffff ≤ 0x7ff0000000000000
  · exact zpE_step (dc := 0) (ds := 0) h1 (by rw [en, if_pos hz]; rfl) g
  · refine zpE_le (Nat.le_succ _) (zpE_st1 h1 (fun pc' L' st' h' dc ds e => ?_) (fun r9 e => ?_)) <;> (rw [en, if_neg hz] at e; cases e)
end ZSD
section ZCA
variable {xs : List Int32} {N : Nat} {S : zSt} {T : zH} {nc ns : Nat}
def Q93 (x1 : Int32) (x2 : Int32) (S : zSt) : Nat → Nat → Int32
  | 0, k => (Int32.ofInt (-1))
  | m + 1, k => if (zgt (S.2 15) ((x1 * (Int32.ofInt 8)) + ((Int32.ofNat k)))) = x2 then (((Int32.ofNat k))) else (Q93 x1 x2 S m (k + 1))
theorem l_93 {x1 x2 : Int32} (HL : zaL S.2) : ∀ (N k m : Nat) (nc ns : Nat), k + m = (Int32.ofInt 8).toInt.toNat → zpE xs N 93 2 [some (.ref 0), some (.int x1), some (.int x2), some (.int (Int32.ofNat k))] [] (zx S.1 S.2 T) nc ns (zOq (.inl (some (.int (Q93 x1 x2 S m k)))) (zx S.1 S.2 T))
  | 0, _, _, _, _, _ => zpE_0
  | N + 1, k, m0, nc, ns, hk => by
    refine zpE_run1 1 (L' := [some (.ref 0), some (.int x1), some (.int x2), some (.int (Int32.ofNat k))]) (st' := [.int (Int32.ofInt 8), .int (Int32.ofNat k)]) rfl ?_
    refine zpE_icmp rfl (fun q5 => ?_) (fun q5 => ?_)
    · have z5_0 := Int.not_lt.mpr (zF_ge_t q5)
      refine zpE_run 1 (L' := [some (.ref 0), some (.int x1), some (.int x2), some (.int (Int32.ofNat k))]) (st' := [.int (Int32.ofInt (-1))]) rfl ?_
      exact zpE_end rfl rfl (by rw [zlp_o2 z5_0 hk]; exact zOq_v (by first | rfl | done))
    · have z5_0 := zF_ge_f q5
      obtain ⟨m, rfl⟩ := zlp_i2 z5_0 hk
      have eQ : Q93 x1 x2 S (m + 1) k = if (zgt (S.2 15) ((x1 * (Int32.ofInt 8)) + ((Int32.ofNat k)))) = x2 then (((Int32.ofNat k))) else (Q93 x1 x2 S m (k + 1)) := rfl
      refine zpE_run 7 (L' := [some (.ref 0), some (.int x1), some (.int x2), some (.int (Int32.ofNat k))]) (st' := [.int ((x1 * (Int32.ofInt 8)) + (Int32.ofNat k)), .ref 36]) rfl ?_
      refine zpE_call rfl rfl (p_25 15 37 36 rfl rfl (HL : zaL S.2)) (fun v h1 nc1 ns1 q8 => ?_) (fun E h1 nc1 ns1 q8 => by cases q8)
      cases q8
      refine zpE_run 1 (L' := [some (.ref 0), some (.int x1), some (.int x2), some (.int (Int32.ofNat k))]) (st' := [.int x2, .int (zgt (S.2 15) ((x1 * (Int32.ofInt 8)) + (Int32.ofNat k)))]) rfl ?_
      refine zpE_icmp rfl (fun q22 => ?_) (fun q22 => ?_)
      · have z22_1 := zF_n1 q22
        refine zpE_run 2 (L' := [some (.ref 0), some (.int x1), some (.int x2), some (.int ((Int32.ofNat k) + Int32.ofInt 1))]) (st' := []) rfl ?_
        have K := fun nc ns => l_93 (x1 := x1) (x2 := x2) HL N (k + 1) m nc ns (by omega)
        rw [← zof1] at K
        rw [eQ, if_neg z22_1]
        exact K _ _
      · have z22_1 := zF_n0 q22
        refine zpE_run 1 (L' := [some (.ref 0), some (.int x1), some (.int x2), some (.int (Int32.ofNat k))]) (st' := [.int (Int32.ofNat k)]) rfl ?_
        exact zpE_end rfl rfl (zOq_v (by rw [eQ, if_pos z22_1]))
def V93 (x1 : Int32) (x2 : Int32) (S : zSt) : Int32 := Q93 x1 x2 S (Int32.ofInt 8).toInt.toNat 0
theorem e_93 {x1 x2 : Int32} (HL : zaL S.2) : zpM xs N 93 [.ref 0, .int x1, .int x2] (zx S.1 S.2 T) nc ns (zOq (.inl (some (.int (V93 x1 x2 S)))) (zx S.1 S.2 T)) := by
  intro L0 e
  cases e
  refine zpE_run 2 rfl ?_
  exact l_93 (x1 := x1) (x2 := x2) HL N 0 _ _ _ (Nat.zero_add _)
def V99 (x1 : Int32) (S : zSt) : Int32 := (V23_15 (x1 * (Int32.ofInt 8)) ((x1 * (Int32.ofInt 8)) + (Int32.ofInt 8)) S)
theorem e_99 {x1 : Int32} (HL : zaL S.2) : zpM xs N 99 [.ref 0, .int x1] (zx S.1 S.2 T) nc ns (zOq (.inl (some (.int (V99 x1 S)))) (zx S.1 S.2 T)) := by
  intro L0 e
  cases e
  refine zpE_run 11 (L' := [some (.ref 0), some (.int x1)]) (st' := [.int ((x1 * (Int32.ofInt 8)) + (Int32.ofInt 8)), .int (x1 * (Int32.ofInt 8)), .ref 15]) rfl ?_
  refine zpE_call rfl rfl (e_23_15 (S := S) (x1 := x1 * (Int32.ofInt 8)) (x2 := (x1 * (Int32.ofInt 8)) + (Int32.ofInt 8)) HL) (fun v h1 nc1 ns1 q8 => ?_) (fun E h1 nc1 ns1 q8 => by cases q8.1)
  obtain ⟨q8, q9⟩ := q8
  cases q8
  cases q9
  exact zpE_end rfl rfl (zOq_v (by unfold V99; (first | done | rfl)))
def D100 (x1 : Int32) (S : zSt) (k : Nat) (u : Int32) : Int32 := if (if zsyn (zco S.2) (zgt (S.2 2) ((x1 * (Int32.ofInt 8)) + ((Int32.ofNat k)))) (zwi S.1) = 0 then 1 else 0) = ((0 : Int32)) then (u + Int32.ofInt 1) else u
def W100 (x1 : Int32) (S : zSt) (u0 : Int32) : Nat → Int32
  | 0 => u0
  | k + 1 => D100 x1 S k (W100 x1 S u0 k)
def Y100 (x1 : Int32) (S : zSt) (u : Int32) : Int32 := u
theorem l_100 {x1 : Int32} {u0 : Int32} (HL : zaL S.2) : ∀ (N k : Nat) (nc ns : Nat), k ≤ (Int32.ofInt 8).toInt.toNat → zpE xs N 100 4 [some (.ref 0), some (.int x1), some (.int ((W100 x1 S u0 k))), some (.int (Int32.ofNat k))] [] (zx S.1 S.2 T) nc ns (zOq (.inl (some (.int (Y100 x1 S (W100 x1 S u0 (Int32.ofInt 8).toInt.toNat))))) (zx S.1 S.2 T))
  | 0, _, _, _, _ => zpE_0
  | N + 1, k, nc, ns, hk => by
    refine zpE_run1 1 (L' := [some (.ref 0), some (.int x1), some (.int ((W100 x1 S u0 k))), some (.int (Int32.ofNat k))]) (st' := [.int (Int32.ofInt 8), .int (Int32.ofNat k)]) rfl ?_
    refine zpE_icmp rfl (fun q7 => ?_) (fun q7 => ?_)
    · have z7_0 := Int.not_lt.mpr (zF_ge_t q7)
      refine zpE_run 1 (L' := [some (.ref 0), some (.int x1), some (.int ((W100 x1 S u0 k))), some (.int (Int32.ofNat k))]) (st' := [.int ((W100 x1 S u0 k))]) rfl ?_
      exact zpE_end rfl rfl (by rw [← zlp_out z7_0 hk]; exact zOq_v (by unfold Y100; (first | done | rfl)))
    · have z7_0 := zF_ge_f q7
      refine zpE_run 10 (L' := [some (.ref 0), some (.int x1), some (.int ((W100 x1 S u0 k))), some (.int (Int32.ofNat k))]) (st' := [.int ((x1 * (Int32.ofInt 8)) + (Int32.ofNat k)), .ref 7, .ref 1]) rfl ?_
      refine zpE_call rfl rfl (p_25 2 8 7 rfl rfl (HL : zaL S.2)) (fun v h1 nc1 ns1 q8 => ?_) (fun E h1 nc1 ns1 q8 => by cases q8)
      cases q8
      refine zpE_call rfl rfl (p_10 HL) (fun v h1 nc1 ns1 q8 => ?_) (fun E h1 nc1 ns1 q8 => by cases q8)
      cases q8
      refine zpE_if rfl (fun q33 => ?_) (fun q33 => ?_)
      · have z33_1 := zF_n1 q33
        refine zpE_run 2 (L' := [some (.ref 0), some (.int x1), some (.int ((W100 x1 S u0 k))), some (.int ((Int32.ofNat k) + Int32.ofInt 1))]) (st' := []) rfl ?_
        have K := fun nc ns => l_100 (x1 := x1) (u0 := u0) HL N (k + 1) nc ns (zlp_in z7_0 hk)
        rw [← zof1, show W100 x1 S u0 (k + 1) = (W100 x1 S u0 k) from by
            show D100 x1 S k _ = _
            unfold D100
            rw [if_neg z33_1]] at K
        exact K _ _
      · have z33_1 := zF_n0 q33
        refine zpE_run 3 (L' := [some (.ref 0), some (.int x1), some (.int (((W100 x1 S u0 k)) + Int32.ofInt 1)), some (.int ((Int32.ofNat k) + Int32.ofInt 1))]) (st' := []) rfl ?_
        have K := fun nc ns => l_100 (x1 := x1) (u0 := u0) HL N (k + 1) nc ns (zlp_in z7_0 hk)
        rw [← zof1, show W100 x1 S u0 (k + 1) = ((W100 x1 S u0 k)) + Int32.ofInt 1 from by
            show D100 x1 S k _ = _
            unfold D100
            rw [if_pos z33_1]] at K
        exact K _ _
def V100 (x1 : Int32) (S : zSt) : Int32 := Y100 x1 S (W100 x1 S (Int32.ofInt 0) (Int32.ofInt 8).toInt.toNat)
theorem e_100 {x1 : Int32} (HL : zaL S.2) : zpM xs N 100 [.ref 0, .int x1] (zx S.1 S.2 T) nc ns (zOq (.inl (some (.int (V100 x1 S)))) (zx S.1 S.2 T)) := by
  intro L0 e
  cases e
  refine zpE_run 4 rfl ?_
  exact l_100 (x1 := x1) (S := S) (u0 := Int32.ofInt 0) HL N 0 _ _ (Nat.zero_le _)
def R71 (x1 : Int32) (x2 : Int32) (x3 : Int32) (S : zSt) : Option Value ⊕ Nat := if C83 x1 S = true then (if x2.toInt < ((0 : Int32)).toInt then (.inr 1) else (if x2.toInt < (Int32.ofInt 10).toInt then (if x3 = Int32.ofInt 0 then (.inl (some (.int (zgt (S.2 3) ((x1 * (Int32.ofInt 10)) + x2))))) else (if x3 = Int32.ofInt 1 then (.inl (some (.int (V93 x1 x2 S)))) else (if x3 = Int32.ofInt 2 then (.inl (some (.int ((S.1 4) - (zgt (S.2 4) ((x1 * (Int32.ofInt 10)) + x2)))))) else (if x3 = Int32.ofInt 3 then (.inl (some (.int (V99 ((x1 * (Int32.ofInt 10)) + x2) S)))) else (if x3 = Int32.ofInt 4 then (.inl (some (.int (V100 ((x1 * (Int32.ofInt 10)) + x2) S)))) else (.inr 0)))))) else (.inr 1))) else (.inr 1)
def F71 (x1 : Int32) (x2 : Int32) (x3 : Int32) (S : zSt) : zSt := if C83 x1 S = true then (if x2.toInt < ((0 : Int32)).toInt then S else (if x2.toInt < (Int32.ofInt 10).toInt then (if x3 = Int32.ofInt 0 then S else (if x3 = Int32.ofInt 1 then S else (if x3 = Int32.ofInt 2 then S else (if x3 = Int32.ofInt 3 then S else (if x3 = Int32.ofInt 4 then S else S))))) else S)) else S
theorem e_71 {x1 x2 x3 : Int32} (HL : zaL S.2) : zpM xs N 71 [.ref 0, .int x1, .int x2, .int x3] (zx S.1 S.2 T) nc ns (zOq (R71 x1 x2 x3 S) (zx (F71 x1 x2 x3 S).1 (F71 x1 x2 x3 S).2 T)) := by
  intro L0 e
  cases e
  refine zpE_run 1 (L' := [some (.ref 0), some (.int x1), some (.int x2), some (.int x3), none]) (st' := [.int x1]) rfl ?_
  refine zpE_call rfl rfl (e_83 (S := S) (x1 := x1) HL) (fun v h1 nc1 ns1 q8 => ?_) (fun E h1 nc1 ns1 q8 => ?_)
  rotate_left
  · rcases q8 with ⟨_, q8, _⟩ | ⟨c1, q8, q9⟩
    · cases q8
    · cases q8
      cases q9
      exact ⟨fun _ => (zOq_g (r := .inr 1) (S' := S) (by unfold R71; rw [if_neg c1]) (by unfold F71; rw [if_neg c1])), fun pc2 L2 e => by cases e⟩
  replace q8 := q8.resolve_right (fun y9 => by cases y9.2.1)
  obtain ⟨c1, q8, q9⟩ := q8
  cases q8
  cases q9
  refine zpE_run 1 (L' := [some (.ref 0), some (.int x1), some (.int x2), some (.int x3), none]) (st' := [.int x2]) rfl ?_
  refine zpE_if rfl (fun q5 => ?_) (fun q5 => ?_)
  · have z5_1 := zF_lt_t q5
    exact zpE_end rfl rfl (zOq_g (r := .inr 1) (S' := S) (by unfold R71; rw [if_pos c1, if_pos z5_1]) (by unfold F71; rw [if_pos c1, if_pos z5_1]))
  · have z5_1 := Int.not_lt.mpr (zF_lt_f q5)
    refine zpE_run 2 (L' := [some (.ref 0), some (.int x1), some (.int x2), some (.int x3), none]) (st' := [.int (Int32.ofInt 10), .int x2]) rfl ?_
    refine zpE_icmp rfl (fun q11 => ?_) (fun q11 => ?_)
    · have z11_2 := zF_lt_t q11
      refine zpE_run 7 (L' := [some (.ref 0), some (.int x1), some (.int x2), some (.int x3), some (.int ((x1 * (Int32.ofInt 10)) + x2))]) (st' := [.int x3]) rfl ?_
      by_cases z34_3_0 : x3 = Int32.ofInt 0
      · refine zpE_tabi (i := 0) (t := 68) rfl (by rw [z34_3_0]; decide) (by rw [z34_3_0]; decide) rfl rfl ?_
        refine zpE_run 4 (L' := [some (.ref 0), some (.int x1), some (.int x2), some (.int x3), some (.int ((x1 * (Int32.ofInt 10)) + x2))]) (st' := [.int ((x1 * (Int32.ofInt 10)) + x2), .ref 9]) rfl ?_
        refine zpE_call rfl rfl (p_25 3 10 9 rfl rfl (HL : zaL S.2)) (fun v h1 nc1 ns1 q8 => ?_) (fun E h1 nc1 ns1 q8 => by cases q8)
        cases q8
        exact zpE_end rfl rfl (zOq_g (r := .inl (some (.int (zgt (S.2 3) ((x1 * (Int32.ofInt 10)) + x2))))) (S' := S) (by unfold R71; rw [if_pos c1, if_neg z5_1, if_pos z11_2, if_pos z34_3_0]) (by unfold F71; rw [if_pos c1, if_neg z5_1, if_pos z11_2, if_pos z34_3_0]))
      · skip
        by_cases z34_4_1 : x3 = Int32.ofInt 1
        · refine zpE_tabi (i := 1) (t := 81) rfl (by rw [z34_4_1]; decide) (by rw [z34_4_1]; decide) rfl rfl ?_
          refine zpE_run 3 (L' := [some (.ref 0), some (.int x1), some (.int x2), some (.int x3), some (.int ((x1 * (Int32.ofInt 10)) + x2))]) (st' := [.int x2, .int x1, .ref 0]) rfl ?_
          refine zpE_call rfl rfl (e_93 (S := S) (x1 := x1) (x2 := x2) HL) (fun v h1 nc1 ns1 q8 => ?_) (fun E h1 nc1 ns1 q8 => by cases q8.1)
          obtain ⟨q8, q9⟩ := q8
          cases q8
          cases q9
          exact zpE_end rfl rfl (zOq_g (r := .inl (some (.int (V93 x1 x2 S)))) (S' := S) (by unfold R71; rw [if_pos c1, if_neg z5_1, if_pos z11_2, if_neg z34_3_0, if_pos z34_4_1]) (by unfold F71; rw [if_pos c1, if_neg z5_1, if_pos z11_2, if_neg z34_3_0, if_pos z34_4_1]))
        · skip
          by_cases z34_5_2 : x3 = Int32.ofInt 2
          · refine zpE_tabi (i := 2) (t := 88) rfl (by rw [z34_5_2]; decide) (by rw [z34_5_2]; decide) rfl rfl ?_
            refine zpE_run 7 (L' := [some (.ref 0), some (.int x1), some (.int x2), some (.int x3), some (.int ((x1 * (Int32.ofInt 10)) + x2))]) (st' := [.int ((x1 * (Int32.ofInt 10)) + x2), .ref 11, .int (S.1 4)]) rfl ?_
            refine zpE_call rfl rfl (p_25 4 12 11 rfl rfl (HL : zaL S.2)) (fun v h1 nc1 ns1 q8 => ?_) (fun E h1 nc1 ns1 q8 => by cases q8)
            cases q8
            refine zpE_run 1 (L' := [some (.ref 0), some (.int x1), some (.int x2), some (.int x3), some (.int ((x1 * (Int32.ofInt 10)) + x2))]) (st' := [.int ((S.1 4) - (zgt (S.2 4) ((x1 * (Int32.ofInt 10)) + x2)))]) rfl ?_
            exact zpE_end rfl rfl (zOq_g (r := .inl (some (.int ((S.1 4) - (zgt (S.2 4) ((x1 * (Int32.ofInt 10)) + x2)))))) (S' := S) (by unfold R71; rw [if_pos c1, if_neg z5_1, if_pos z11_2, if_neg z34_3_0, if_neg z34_4_1, if_pos z34_5_2]) (by unfold F71; rw [if_pos c1, if_neg z5_1, if_pos z11_2, if_neg z34_3_0, if_neg z34_4_1, if_pos z34_5_2]))
          · skip
            by_cases z34_6_3 : x3 = Int32.ofInt 3
            · refine zpE_tabi (i := 3) (t := 109) rfl (by rw [z34_6_3]; decide) (by rw [z34_6_3]; decide) rfl rfl ?_
              refine zpE_run 2 (L' := [some (.ref 0), some (.int x1), some (.int x2), some (.int x3), some (.int ((x1 * (Int32.ofInt 10)) + x2))]) (st' := [.int ((x1 * (Int32.ofInt 10)) + x2), .ref 0]) rfl ?_
              refine zpE_call rfl rfl (e_99 (S := S) (x1 := (x1 * (Int32.ofInt 10)) + x2) HL) (fun v h1 nc1 ns1 q8 => ?_) (fun E h1 nc1 ns1 q8 => by cases q8.1)
              obtain ⟨q8, q9⟩ := q8
              cases q8
              cases q9
              exact zpE_end rfl rfl (zOq_g (r := .inl (some (.int (V99 ((x1 * (Int32.ofInt 10)) + x2) S)))) (S' := S) (by unfold R71; rw [if_pos c1, if_neg z5_1, if_pos z11_2, if_neg z34_3_0, if_neg z34_4_1, if_neg z34_5_2, if_pos z34_6_3]) (by unfold F71; rw [if_pos c1, if_neg z5_1, if_pos z11_2, if_neg z34_3_0, if_neg z34_4_1, if_neg z34_5_2, if_pos z34_6_3]))
            · skip
              by_cases z34_7_4 : x3 = Int32.ofInt 4
              · refine zpE_tabi (i := 4) (t := 116) rfl (by rw [z34_7_4]; decide) (by rw [z34_7_4]; decide) rfl rfl ?_
                refine zpE_run 2 (L' := [some (.ref 0), some (.int x1), some (.int x2), some (.int x3), some (.int ((x1 * (Int32.ofInt 10)) + x2))]) (st' := [.int ((x1 * (Int32.ofInt 10)) + x2), .ref 0]) rfl ?_
                refine zpE_call rfl rfl (e_100 (S := S) (x1 := (x1 * (Int32.ofInt 10)) + x2) HL) (fun v h1 nc1 ns1 q8 => ?_) (fun E h1 nc1 ns1 q8 => by cases q8.1)
                obtain ⟨q8, q9⟩ := q8
                cases q8
                cases q9
                exact zpE_end rfl rfl (zOq_g (r := .inl (some (.int (V100 ((x1 * (Int32.ofInt 10)) + x2) S)))) (S' := S) (by unfold R71; rw [if_pos c1, if_neg z5_1, if_pos z11_2, if_neg z34_3_0, if_neg z34_4_1, if_neg z34_5_2, if_neg z34_6_3, if_pos z34_7_4]) (by unfold F71; rw [if_pos c1, if_neg z5_1, if_pos z11_2, if_neg z34_3_0, if_neg z34_4_1, if_neg z34_5_2, if_neg z34_6_3, if_pos z34_7_4]))
              · skip
                have hd : x3.toInt < 0 ∨ 4 < x3.toInt := by
                  refine Classical.byContradiction (fun hh => ?_)
                  rcases (show x3.toInt = 0 ∨ x3.toInt = 1 ∨ x3.toInt = 2 ∨ x3.toInt = 3 ∨ x3.toInt = 4 by omega) with k9 | k9 | k9 | k9 | k9
                  · exact z34_3_0 (Int32.toInt_inj.mp (k9.trans (by decide)))
                  · exact z34_4_1 (Int32.toInt_inj.mp (k9.trans (by decide)))
                  · exact z34_5_2 (Int32.toInt_inj.mp (k9.trans (by decide)))
                  · exact z34_6_3 (Int32.toInt_inj.mp (k9.trans (by decide)))
                  · exact z34_7_4 (Int32.toInt_inj.mp (k9.trans (by decide)))
                refine zpE_tabd (t := 123) rfl hd rfl ?_
                exact zpE_end rfl rfl (zOq_g (r := .inr 0) (S' := S) (by unfold R71; rw [if_pos c1, if_neg z5_1, if_pos z11_2, if_neg z34_3_0, if_neg z34_4_1, if_neg z34_5_2, if_neg z34_6_3, if_neg z34_7_4]) (by unfold F71; rw [if_pos c1, if_neg z5_1, if_pos z11_2, if_neg z34_3_0, if_neg z34_4_1, if_neg z34_5_2, if_neg z34_6_3, if_neg z34_7_4]))
    · have z11_2 := Int.not_lt.mpr (zF_lt_f q11)
      exact zpE_end rfl rfl (zOq_g (r := .inr 1) (S' := S) (by unfold R71; rw [if_pos c1, if_neg z5_1, if_neg z11_2]) (by unfold F71; rw [if_pos c1, if_neg z5_1, if_neg z11_2]))
theorem fr_F71 {x1 x2 x3 : Int32} : zfrm [] [] (F71 x1 x2 x3 S) S := by
  unfold F71
  exact (fm_ite (fm_ite fm_rf (fm_ite (fm_ite fm_rf (fm_ite fm_rf (fm_ite fm_rf (fm_ite fm_rf (fm_ite fm_rf fm_rf))))) fm_rf)) fm_rf)
theorem ln_F71 {x1 x2 x3 : Int32} (HL : zaL S.2) : zaL (F71 x1 x2 x3 S).2 := fm_L fr_F71 HL
def D78 (x1 : Int32) (S : zSt) (k : Nat) (u : Int32 × Int32 × Int32) : Int32 × Int32 × Int32 := if u.2.1.toInt < (V100 (V90 (V88 x1 ((Int32.ofNat k)) S) S) S).toInt then (((Int32.ofNat k), V100 (V90 (V88 x1 ((Int32.ofNat k)) S) S) S, V99 (V90 (V88 x1 ((Int32.ofNat k)) S) S) S)) else (if ((0 : Int32)).toInt < (V100 (V90 (V88 x1 ((Int32.ofNat k)) S) S) S).toInt then (if (V100 (V90 (V88 x1 ((Int32.ofNat k)) S) S) S) = u.2.1 then (if u.2.2.toInt < (V99 (V90 (V88 x1 ((Int32.ofNat k)) S) S) S).toInt then (((Int32.ofNat k), V100 (V90 (V88 x1 ((Int32.ofNat k)) S) S) S, V99 (V90 (V88 x1 ((Int32.ofNat k)) S) S) S)) else ((u.1, u.2.1, u.2.2))) else ((u.1, u.2.1, u.2.2))) else ((u.1, u.2.1, u.2.2)))
def W78 (x1 : Int32) (S : zSt) (u0 : Int32 × Int32 × Int32) : Nat → Int32 × Int32 × Int32
  | 0 => u0
  | k + 1 => D78 x1 S k (W78 x1 S u0 k)
def Y78 (x1 : Int32) (S : zSt) (u : Int32 × Int32 × Int32) : Int32 := (u.1)
theorem l_78 {x1 : Int32} {u0 : Int32 × Int32 × Int32} (HL : zaL S.2) : ∀ (N k : Nat) (o6 : Option Value) (o7 : Option Value) (o8 : Option Value) (nc ns : Nat), k ≤ (Int32.ofInt 8).toInt.toNat → zpE xs N 78 28 [some (.ref 0), some (.int x1), some (.int ((W78 x1 S u0 k).1)), some (.int ((W78 x1 S u0 k).2.1)), some (.int ((W78 x1 S u0 k).2.2)), some (.int (Int32.ofNat k)), o6, o7, o8] [] (zx S.1 S.2 T) nc ns (zOq (.inl (some (.int (Y78 x1 S (W78 x1 S u0 (Int32.ofInt 8).toInt.toNat))))) (zx S.1 S.2 T))
  | 0, _, _, _, _, _, _, _ => zpE_0
  | N + 1, k, o6, o7, o8, nc, ns, hk => by
    refine zpE_run1 1 (L' := [some (.ref 0), some (.int x1), some (.int ((W78 x1 S u0 k).1)), some (.int ((W78 x1 S u0 k).2.1)), some (.int ((W78 x1 S u0 k).2.2)), some (.int (Int32.ofNat k)), o6, o7, o8]) (st' := [.int (Int32.ofInt 8), .int (Int32.ofNat k)]) rfl ?_
    refine zpE_icmp rfl (fun q32 => ?_) (fun q32 => ?_)
    · have z32_0 := Int.not_lt.mpr (zF_ge_t q32)
      refine zpE_run 1 (L' := [some (.ref 0), some (.int x1), some (.int ((W78 x1 S u0 k).1)), some (.int ((W78 x1 S u0 k).2.1)), some (.int ((W78 x1 S u0 k).2.2)), some (.int (Int32.ofNat k)), o6, o7, o8]) (st' := [.int ((W78 x1 S u0 k).1)]) rfl ?_
      exact zpE_end rfl rfl (by rw [← zlp_out z32_0 hk]; exact zOq_v (by unfold Y78; (first | done | rfl)))
    · have z32_0 := zF_ge_f q32
      refine zpE_run 3 (L' := [some (.ref 0), some (.int x1), some (.int ((W78 x1 S u0 k).1)), some (.int ((W78 x1 S u0 k).2.1)), some (.int ((W78 x1 S u0 k).2.2)), some (.int (Int32.ofNat k)), o6, o7, o8]) (st' := [.int (Int32.ofNat k), .int x1, .ref 0]) rfl ?_
      refine zpE_call rfl rfl (e_88 (S := S) (x1 := x1) (x2 := Int32.ofNat k) HL) (fun v h1 nc1 ns1 q8 => ?_) (fun E h1 nc1 ns1 q8 => by cases q8.1)
      obtain ⟨q8, q9⟩ := q8
      cases q8
      cases q9
      refine zpE_call rfl rfl (e_90 (S := S) (x1 := V88 x1 (Int32.ofNat k) S) HL) (fun v h1 nc1 ns1 q8 => ?_) (fun E h1 nc1 ns1 q8 => by cases q8.1)
      obtain ⟨q8, q9⟩ := q8
      cases q8
      cases q9
      refine zpE_run 3 (L' := [some (.ref 0), some (.int x1), some (.int ((W78 x1 S u0 k).1)), some (.int ((W78 x1 S u0 k).2.1)), some (.int ((W78 x1 S u0 k).2.2)), some (.int (Int32.ofNat k)), some (.int (V90 (V88 x1 (Int32.ofNat k) S) S)), o7, o8]) (st' := [.int (V90 (V88 x1 (Int32.ofNat k) S) S), .ref 0]) rfl ?_
      refine zpE_call rfl rfl (e_100 (S := S) (x1 := V90 (V88 x1 (Int32.ofNat k) S) S) HL) (fun v h1 nc1 ns1 q8 => ?_) (fun E h1 nc1 ns1 q8 => by cases q8.1)
      obtain ⟨q8, q9⟩ := q8
      cases q8
      cases q9
      refine zpE_run 3 (L' := [some (.ref 0), some (.int x1), some (.int ((W78 x1 S u0 k).1)), some (.int ((W78 x1 S u0 k).2.1)), some (.int ((W78 x1 S u0 k).2.2)), some (.int (Int32.ofNat k)), some (.int (V90 (V88 x1 (Int32.ofNat k) S) S)), some (.int (V100 (V90 (V88 x1 (Int32.ofNat k) S) S) S)), o8]) (st' := [.int (V90 (V88 x1 (Int32.ofNat k) S) S), .ref 0]) rfl ?_
      refine zpE_call rfl rfl (e_99 (S := S) (x1 := V90 (V88 x1 (Int32.ofNat k) S) S) HL) (fun v h1 nc1 ns1 q8 => ?_) (fun E h1 nc1 ns1 q8 => by cases q8.1)
      obtain ⟨q8, q9⟩ := q8
      cases q8
      cases q9
      refine zpE_run 3 (L' := [some (.ref 0), some (.int x1), some (.int ((W78 x1 S u0 k).1)), some (.int ((W78 x1 S u0 k).2.1)), some (.int ((W78 x1 S u0 k).2.2)), some (.int (Int32.ofNat k)), some (.int (V90 (V88 x1 (Int32.ofNat k) S) S)), some (.int (V100 (V90 (V88 x1 (Int32.ofNat k) S) S) S)), some (.int (V99 (V90 (V88 x1 (Int32.ofNat k) S) S) S))]) (st' := [.int ((W78 x1 S u0 k).2.1), .int (V100 (V90 (V88 x1 (Int32.ofNat k) S) S) S)]) rfl ?_
      refine zpE_icmp rfl (fun q66 => ?_) (fun q66 => ?_)
      · have z66_1 := zF_gt_t q66
        refine zpE_run 8 (L' := [some (.ref 0), some (.int x1), some (.int (Int32.ofNat k)), some (.int (V100 (V90 (V88 x1 (Int32.ofNat k) S) S) S)), some (.int (V99 (V90 (V88 x1 (Int32.ofNat k) S) S) S)), some (.int ((Int32.ofNat k) + Int32.ofInt 1)), some (.int (V90 (V88 x1 (Int32.ofNat k) S) S)), some (.int (V100 (V90 (V88 x1 (Int32.ofNat k) S) S) S)), some (.int (V99 (V90 (V88 x1 (Int32.ofNat k) S) S) S))]) (st' := []) rfl ?_
        have K := fun o6 o7 o8 nc ns => l_78 (x1 := x1) (u0 := u0) HL N (k + 1) o6 o7 o8 nc ns (zlp_in z32_0 hk)
        rw [← zof1, show W78 x1 S u0 (k + 1) = (Int32.ofNat k, V100 (V90 (V88 x1 (Int32.ofNat k) S) S) S, V99 (V90 (V88 x1 (Int32.ofNat k) S) S) S) from by
            show D78 x1 S k _ = _
            unfold D78
            rw [if_pos z66_1]] at K
        exact K _ _ _ _ _
      · have z66_1 := Int.not_lt.mpr (zF_gt_f q66)
        refine zpE_run 1 (L' := [some (.ref 0), some (.int x1), some (.int ((W78 x1 S u0 k).1)), some (.int ((W78 x1 S u0 k).2.1)), some (.int ((W78 x1 S u0 k).2.2)), some (.int (Int32.ofNat k)), some (.int (V90 (V88 x1 (Int32.ofNat k) S) S)), some (.int (V100 (V90 (V88 x1 (Int32.ofNat k) S) S) S)), some (.int (V99 (V90 (V88 x1 (Int32.ofNat k) S) S) S))]) (st' := [.int (V100 (V90 (V88 x1 (Int32.ofNat k) S) S) S)]) rfl ?_
        refine zpE_if rfl (fun q71 => ?_) (fun q71 => ?_)
        · have z71_2 := Int.not_lt.mpr (zF_le_t q71)
          refine zpE_run 2 (L' := [some (.ref 0), some (.int x1), some (.int ((W78 x1 S u0 k).1)), some (.int ((W78 x1 S u0 k).2.1)), some (.int ((W78 x1 S u0 k).2.2)), some (.int ((Int32.ofNat k) + Int32.ofInt 1)), some (.int (V90 (V88 x1 (Int32.ofNat k) S) S)), some (.int (V100 (V90 (V88 x1 (Int32.ofNat k) S) S) S)), some (.int (V99 (V90 (V88 x1 (Int32.ofNat k) S) S) S))]) (st' := []) rfl ?_
          have K := fun o6 o7 o8 nc ns => l_78 (x1 := x1) (u0 := u0) HL N (k + 1) o6 o7 o8 nc ns (zlp_in z32_0 hk)
          rw [← zof1, show W78 x1 S u0 (k + 1) = ((W78 x1 S u0 k).1, (W78 x1 S u0 k).2.1, (W78 x1 S u0 k).2.2) from by
              show D78 x1 S k _ = _
              unfold D78
              rw [if_neg z66_1, if_neg z71_2]] at K
          exact K _ _ _ _ _
        · have z71_2 := zF_le_f q71
          refine zpE_run 2 (L' := [some (.ref 0), some (.int x1), some (.int ((W78 x1 S u0 k).1)), some (.int ((W78 x1 S u0 k).2.1)), some (.int ((W78 x1 S u0 k).2.2)), some (.int (Int32.ofNat k)), some (.int (V90 (V88 x1 (Int32.ofNat k) S) S)), some (.int (V100 (V90 (V88 x1 (Int32.ofNat k) S) S) S)), some (.int (V99 (V90 (V88 x1 (Int32.ofNat k) S) S) S))]) (st' := [.int ((W78 x1 S u0 k).2.1), .int (V100 (V90 (V88 x1 (Int32.ofNat k) S) S) S)]) rfl ?_
          refine zpE_icmp rfl (fun q77 => ?_) (fun q77 => ?_)
          · have z77_3 := zF_n1 q77
            refine zpE_run 2 (L' := [some (.ref 0), some (.int x1), some (.int ((W78 x1 S u0 k).1)), some (.int ((W78 x1 S u0 k).2.1)), some (.int ((W78 x1 S u0 k).2.2)), some (.int ((Int32.ofNat k) + Int32.ofInt 1)), some (.int (V90 (V88 x1 (Int32.ofNat k) S) S)), some (.int (V100 (V90 (V88 x1 (Int32.ofNat k) S) S) S)), some (.int (V99 (V90 (V88 x1 (Int32.ofNat k) S) S) S))]) (st' := []) rfl ?_
            have K := fun o6 o7 o8 nc ns => l_78 (x1 := x1) (u0 := u0) HL N (k + 1) o6 o7 o8 nc ns (zlp_in z32_0 hk)
            rw [← zof1, show W78 x1 S u0 (k + 1) = ((W78 x1 S u0 k).1, (W78 x1 S u0 k).2.1, (W78 x1 S u0 k).2.2) from by
                show D78 x1 S k _ = _
                unfold D78
                rw [if_neg z66_1, if_pos z71_2, if_neg z77_3]] at K
            exact K _ _ _ _ _
          · have z77_3 := zF_n0 q77
            refine zpE_run 2 (L' := [some (.ref 0), some (.int x1), some (.int ((W78 x1 S u0 k).1)), some (.int ((W78 x1 S u0 k).2.1)), some (.int ((W78 x1 S u0 k).2.2)), some (.int (Int32.ofNat k)), some (.int (V90 (V88 x1 (Int32.ofNat k) S) S)), some (.int (V100 (V90 (V88 x1 (Int32.ofNat k) S) S) S)), some (.int (V99 (V90 (V88 x1 (Int32.ofNat k) S) S) S))]) (st' := [.int ((W78 x1 S u0 k).2.2), .int (V99 (V90 (V88 x1 (Int32.ofNat k) S) S) S)]) rfl ?_
            refine zpE_icmp rfl (fun q84 => ?_) (fun q84 => ?_)
            · have z84_4 := Int.not_lt.mpr (zF_le_t q84)
              refine zpE_run 2 (L' := [some (.ref 0), some (.int x1), some (.int ((W78 x1 S u0 k).1)), some (.int ((W78 x1 S u0 k).2.1)), some (.int ((W78 x1 S u0 k).2.2)), some (.int ((Int32.ofNat k) + Int32.ofInt 1)), some (.int (V90 (V88 x1 (Int32.ofNat k) S) S)), some (.int (V100 (V90 (V88 x1 (Int32.ofNat k) S) S) S)), some (.int (V99 (V90 (V88 x1 (Int32.ofNat k) S) S) S))]) (st' := []) rfl ?_
              have K := fun o6 o7 o8 nc ns => l_78 (x1 := x1) (u0 := u0) HL N (k + 1) o6 o7 o8 nc ns (zlp_in z32_0 hk)
              rw [← zof1, show W78 x1 S u0 (k + 1) = ((W78 x1 S u0 k).1, (W78 x1 S u0 k).2.1, (W78 x1 S u0 k).2.2) from by
                  show D78 x1 S k _ = _
                  unfold D78
                  rw [if_neg z66_1, if_pos z71_2, if_pos z77_3, if_neg z84_4]] at K
              exact K _ _ _ _ _
            · have z84_4 := zF_le_f q84
              refine zpE_run 8 (L' := [some (.ref 0), some (.int x1), some (.int (Int32.ofNat k)), some (.int (V100 (V90 (V88 x1 (Int32.ofNat k) S) S) S)), some (.int (V99 (V90 (V88 x1 (Int32.ofNat k) S) S) S)), some (.int ((Int32.ofNat k) + Int32.ofInt 1)), some (.int (V90 (V88 x1 (Int32.ofNat k) S) S)), some (.int (V100 (V90 (V88 x1 (Int32.ofNat k) S) S) S)), some (.int (V99 (V90 (V88 x1 (Int32.ofNat k) S) S) S))]) (st' := []) rfl ?_
              have K := fun o6 o7 o8 nc ns => l_78 (x1 := x1) (u0 := u0) HL N (k + 1) o6 o7 o8 nc ns (zlp_in z32_0 hk)
              rw [← zof1, show W78 x1 S u0 (k + 1) = (Int32.ofNat k, V100 (V90 (V88 x1 (Int32.ofNat k) S) S) S, V99 (V90 (V88 x1 (Int32.ofNat k) S) S) S) from by
                  show D78 x1 S k _ = _
                  unfold D78
                  rw [if_neg z66_1, if_pos z71_2, if_pos z77_3, if_pos z84_4]] at K
              exact K _ _ _ _ _
def R78 (x1 : Int32) (S : zSt) : Option Value ⊕ Nat := if C83 x1 S = true then (if (zgt (S.2 16) x1).toInt < (Int32.ofInt 2).toInt then (.inl (some (.int (Y78 x1 S (W78 x1 S (Int32.ofInt (-1), Int32.ofInt 0, Int32.ofInt 0) (Int32.ofInt 8).toInt.toNat))))) else (.inl (some (.int (Int32.ofInt (-1)))))) else (.inr 1)
def F78 (x1 : Int32) (S : zSt) : zSt := if C83 x1 S = true then (if (zgt (S.2 16) x1).toInt < (Int32.ofInt 2).toInt then S else S) else S
theorem e_78 {x1 : Int32} (HL : zaL S.2) : zpM xs N 78 [.ref 0, .int x1] (zx S.1 S.2 T) nc ns (zOq (R78 x1 S) (zx (F78 x1 S).1 (F78 x1 S).2 T)) := by
  intro L0 e
  cases e
  refine zpE_run 1 (L' := [some (.ref 0), some (.int x1), none, none, none, none, none, none, none]) (st' := [.int x1]) rfl ?_
  refine zpE_call rfl rfl (e_83 (S := S) (x1 := x1) HL) (fun v h1 nc1 ns1 q8 => ?_) (fun E h1 nc1 ns1 q8 => ?_)
  rotate_left
  · rcases q8 with ⟨_, q8, _⟩ | ⟨c1, q8, q9⟩
    · cases q8
    · cases q8
      cases q9
      exact ⟨fun _ => (zOq_g (r := .inr 1) (S' := S) (by unfold R78; rw [if_neg c1]) (by unfold F78; rw [if_neg c1])), fun pc2 L2 e => by cases e⟩
  replace q8 := q8.resolve_right (fun y9 => by cases y9.2.1)
  obtain ⟨c1, q8, q9⟩ := q8
  cases q8
  cases q9
  refine zpE_run 3 (L' := [some (.ref 0), some (.int x1), none, none, none, none, none, none, none]) (st' := [.int x1, .ref 38]) rfl ?_
  refine zpE_call rfl rfl (p_25 16 39 38 rfl rfl (HL : zaL S.2)) (fun v h1 nc1 ns1 q8 => ?_) (fun E h1 nc1 ns1 q8 => by cases q8)
  cases q8
  refine zpE_run 1 (L' := [some (.ref 0), some (.int x1), none, none, none, none, none, none, none]) (st' := [.int (Int32.ofInt 2), .int (zgt (S.2 16) x1)]) rfl ?_
  refine zpE_icmp rfl (fun q13 => ?_) (fun q13 => ?_)
  · have z13_1 := zF_lt_t q13
    refine zpE_run 8 rfl ?_
    rw [show R78 x1 S = .inl (some (.int (Y78 x1 S (W78 x1 S (Int32.ofInt (-1), Int32.ofInt 0, Int32.ofInt 0) (Int32.ofInt 8).toInt.toNat)))) from by
      unfold R78
      rw [if_pos c1, if_pos z13_1]]
    rw [show F78 x1 S = S from by
      unfold F78
      rw [if_pos c1, if_pos z13_1]]
    exact l_78 (x1 := x1) (S := S) (u0 := (Int32.ofInt (-1), Int32.ofInt 0, Int32.ofInt 0)) HL N 0 _ _ _ _ _ (Nat.zero_le _)
  · have z13_1 := Int.not_lt.mpr (zF_lt_f q13)
    refine zpE_run 1 (L' := [some (.ref 0), some (.int x1), none, none, none, none, none, none, none]) (st' := [.int (Int32.ofInt (-1))]) rfl ?_
    exact zpE_end rfl rfl (zOq_g (r := .inl (some (.int (Int32.ofInt (-1))))) (S' := S) (by unfold R78; rw [if_pos c1, if_neg z13_1]) (by unfold F78; rw [if_pos c1, if_neg z13_1]))
end ZCA

