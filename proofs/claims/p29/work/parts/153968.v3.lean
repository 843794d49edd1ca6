/-! What is asked: a switch; an element that is asked for. -/
section ZQH
variable {xs : List Int32} {N : Nat} {nc ns : Nat} {P : zO → Prop}
theorem zpE_tabi {y pc nx k yy m c : Nat} {d lo hi i o : Int} {offs : Array Int} {L : zL} {h : zH} {x : Int32} {r : List Value} {t : Nat} (h1 : zat (zmc y) pc = some (.tableswitch d lo hi offs, nx, k, yy, m, c)) (hx : ¬ (x.toInt < lo ∨ hi < x.toInt)) (hi9 : x.toInt = i) (ho : offs[(i - lo).toNat]? = some o) (ht : (pc : Int) + o = .ofNat t) (g : zpE xs N y t L r h nc ns P) : zpE xs N y pc L (.int x :: r) h nc ns P := by
  refine zpE_step (dc := 0) (ds := 0) h1 ?_ g
  show ztab pc d lo hi offs L (.int x :: r) h = _
  unfold ztab
  dsimp only
  rw [if_neg hx, hi9, ho]
  dsimp only
  unfold zoff
  rw [ht]
  rfl
theorem zlnm1 {n : Nat} (h : n ≤ 40) : (Int32.ofNat n - Int32.ofInt 1).toInt = (n : Int) - 1 := by
  have e : (List.range 41).all (fun n => decide ((Int32.ofNat n - Int32.ofInt 1).toInt = (n : Int) - 1)) = true := by decide +kernel
  exact of_decide_eq_true (List.all_eq_true.mp e n (List.mem_range.mpr (by omega)))
theorem zeg_2 {M M' : zRt} {X : zXt} {kq : Nat × Nat × List Value} {x1 : Int32} (h : ¬ v112 x1 (Int32.ofInt 0) (Int32.ofNat (M.2.2.1 2).length - Int32.ofInt 1) M' = 0) (hX : zUX kq X M.2.2) : ¬ x1 < 0 ∧ x1.toNatClampNeg < (M.2.2.1 2).length := by
  have hl := Nat.le_trans (hX.2.1 2 (by decide)).2.1 (zlm_le 2)
  have z : (Int32.ofInt 0).toInt ≤ x1.toInt ∧ x1.toInt ≤ (Int32.ofNat (M.2.2.1 2).length - Int32.ofInt 1).toInt := Classical.byContradiction (fun q => h (v112_1.mpr q))
  rw [zlnm1 hl, show (Int32.ofInt 0).toInt = 0 by decide] at z
  obtain ⟨a, b⟩ := zin_ge9 z.1
  refine ⟨a, ?_⟩
  rw [b]
  omega
end ZQH
section ZCA
variable {xs : List Int32} {N : Nat} {S : zSt} {T : zH} {nc ns : Nat}
def D23_15 (x1 : Int32) (x2 : Int32) (S : zSt) (k : Nat) (u : Int32) : Int32 := if (zgt (S.2 6) ((Int32.ofNat k))).toInt < x1.toInt then u else (if (zgt (S.2 6) ((Int32.ofNat k))).toInt < x2.toInt then (u + Int32.ofInt 1) else u)
def W23_15 (x1 : Int32) (x2 : Int32) (S : zSt) (u0 : Int32) : Nat → Int32
  | 0 => u0
  | k + 1 => D23_15 x1 x2 S k (W23_15 x1 x2 S u0 k)
def Y23_15 (x1 : Int32) (x2 : Int32) (S : zSt) (u : Int32) : Int32 := u
theorem l_23_15 {x1 x2 : Int32} {u0 : Int32} (HL : zaL S.2) : ∀ (N k : Nat) (nc ns : Nat), k ≤ (S.1 9).toInt.toNat → zpE xs N 23 5 [some (.ref 15), some (.int x1), some (.int x2), some (.int ((W23_15 x1 x2 S u0 k))), some (.int (Int32.ofNat k))] [] (zx S.1 S.2 T) nc ns (zOq (.inl (some (.int (Y23_15 x1 x2 S (W23_15 x1 x2 S u0 (S.1 9).toInt.toNat))))) (zx S.1 S.2 T))
  | 0, _, _, _, _ => zpE_0
  | N + 1, k, nc, ns, hk => by
    refine zpE_run1 2 (L' := [some (.ref 15), some (.int x1), some (.int x2), some (.int ((W23_15 x1 x2 S u0 k))), some (.int (Int32.ofNat k))]) (st' := [.int (S.1 9), .int (Int32.ofNat k)]) rfl ?_
    refine zpE_icmp rfl (fun q11 => ?_) (fun q11 => ?_)
    · have z11_0 := Int.not_lt.mpr (zF_ge_t q11)
      refine zpE_run 1 (L' := [some (.ref 15), some (.int x1), some (.int x2), some (.int ((W23_15 x1 x2 S u0 k))), some (.int (Int32.ofNat k))]) (st' := [.int ((W23_15 x1 x2 S u0 k))]) rfl ?_
      exact zpE_end rfl rfl (by rw [← zlp_out z11_0 hk]; exact zOq_v (by unfold Y23_15; (first | done | rfl)))
    · have z11_0 := zF_ge_f q11
      refine zpE_run 3 (L' := [some (.ref 15), some (.int x1), some (.int x2), some (.int ((W23_15 x1 x2 S u0 k))), some (.int (Int32.ofNat k))]) (st' := [.int (Int32.ofNat k), .ref 16]) rfl ?_
      refine zpE_call rfl rfl (p_25 6 17 16 rfl rfl (HL : zaL S.2)) (fun v h1 nc1 ns1 q8 => ?_) (fun E h1 nc1 ns1 q8 => by cases q8)
      cases q8
      refine zpE_run 1 (L' := [some (.ref 15), some (.int x1), some (.int x2), some (.int ((W23_15 x1 x2 S u0 k))), some (.int (Int32.ofNat k))]) (st' := [.int x1, .int (zgt (S.2 6) (Int32.ofNat k))]) rfl ?_
      refine zpE_icmp rfl (fun q24 => ?_) (fun q24 => ?_)
      · have z24_1 := zF_lt_t q24
        refine zpE_run 2 (L' := [some (.ref 15), some (.int x1), some (.int x2), some (.int ((W23_15 x1 x2 S u0 k))), some (.int ((Int32.ofNat k) + Int32.ofInt 1))]) (st' := []) rfl ?_
        have K := fun nc ns => l_23_15 (x1 := x1) (x2 := x2) (u0 := u0) HL N (k + 1) nc ns (zlp_in z11_0 hk)
        rw [← zof1, show W23_15 x1 x2 S u0 (k + 1) = (W23_15 x1 x2 S u0 k) from by
            show D23_15 x1 x2 S k _ = _
            unfold D23_15
            rw [if_pos z24_1]] at K
        exact K _ _
      · have z24_1 := Int.not_lt.mpr (zF_lt_f q24)
        refine zpE_run 3 (L' := [some (.ref 15), some (.int x1), some (.int x2), some (.int ((W23_15 x1 x2 S u0 k))), some (.int (Int32.ofNat k))]) (st' := [.int (Int32.ofNat k), .ref 16]) rfl ?_
        refine zpE_call rfl rfl (p_25 6 17 16 rfl rfl (HL : zaL S.2)) (fun v h1 nc1 ns1 q8 => ?_) (fun E h1 nc1 ns1 q8 => by cases q8)
        cases q8
        refine zpE_run 1 (L' := [some (.ref 15), some (.int x1), some (.int x2), some (.int ((W23_15 x1 x2 S u0 k))), some (.int (Int32.ofNat k))]) (st' := [.int x2, .int (zgt (S.2 6) (Int32.ofNat k))]) rfl ?_
        refine zpE_icmp rfl (fun q37 => ?_) (fun q37 => ?_)
        · have z37_2 := Int.not_lt.mpr (zF_ge_t q37)
          refine zpE_run 2 (L' := [some (.ref 15), some (.int x1), some (.int x2), some (.int ((W23_15 x1 x2 S u0 k))), some (.int ((Int32.ofNat k) + Int32.ofInt 1))]) (st' := []) rfl ?_
          have K := fun nc ns => l_23_15 (x1 := x1) (x2 := x2) (u0 := u0) HL N (k + 1) nc ns (zlp_in z11_0 hk)
          rw [← zof1, show W23_15 x1 x2 S u0 (k + 1) = (W23_15 x1 x2 S u0 k) from by
              show D23_15 x1 x2 S k _ = _
              unfold D23_15
              rw [if_neg z24_1, if_neg z37_2]] at K
          exact K _ _
        · have z37_2 := zF_ge_f q37
          refine zpE_run 3 (L' := [some (.ref 15), some (.int x1), some (.int x2), some (.int (((W23_15 x1 x2 S u0 k)) + Int32.ofInt 1)), some (.int ((Int32.ofNat k) + Int32.ofInt 1))]) (st' := []) rfl ?_
          have K := fun nc ns => l_23_15 (x1 := x1) (x2 := x2) (u0 := u0) HL N (k + 1) nc ns (zlp_in z11_0 hk)
          rw [← zof1, show W23_15 x1 x2 S u0 (k + 1) = ((W23_15 x1 x2 S u0 k)) + Int32.ofInt 1 from by
              show D23_15 x1 x2 S k _ = _
              unfold D23_15
              rw [if_neg z24_1, if_pos z37_2]] at K
          exact K _ _
def V23_15 (x1 : Int32) (x2 : Int32) (S : zSt) : Int32 := Y23_15 x1 x2 S (W23_15 x1 x2 S (Int32.ofInt 0) (S.1 9).toInt.toNat)
theorem e_23_15 {x1 x2 : Int32} (HL : zaL S.2) : zpM xs N 23 [.ref 15, .int x1, .int x2] (zx S.1 S.2 T) nc ns (zOq (.inl (some (.int (V23_15 x1 x2 S)))) (zx S.1 S.2 T)) := by
  intro L0 e
  cases e
  refine zpE_run 4 rfl ?_
  exact l_23_15 (x1 := x1) (x2 := x2) (S := S) (u0 := Int32.ofInt 0) HL N 0 _ _ (Nat.zero_le _)
def D23_22 (x1 : Int32) (x2 : Int32) (S : zSt) (k : Nat) (u : Int32) : Int32 := if (zgt (S.2 9) ((Int32.ofNat k))).toInt < x1.toInt then u else (if (zgt (S.2 9) ((Int32.ofNat k))).toInt < x2.toInt then (u + Int32.ofInt 1) else u)
def W23_22 (x1 : Int32) (x2 : Int32) (S : zSt) (u0 : Int32) : Nat → Int32
  | 0 => u0
  | k + 1 => D23_22 x1 x2 S k (W23_22 x1 x2 S u0 k)
def Y23_22 (x1 : Int32) (x2 : Int32) (S : zSt) (u : Int32) : Int32 := u
theorem l_23_22 {x1 x2 : Int32} {u0 : Int32} (HL : zaL S.2) : ∀ (N k : Nat) (nc ns : Nat), k ≤ (S.1 10).toInt.toNat → zpE xs N 23 5 [some (.ref 22), some (.int x1), some (.int x2), some (.int ((W23_22 x1 x2 S u0 k))), some (.int (Int32.ofNat k))] [] (zx S.1 S.2 T) nc ns (zOq (.inl (some (.int (Y23_22 x1 x2 S (W23_22 x1 x2 S u0 (S.1 10).toInt.toNat))))) (zx S.1 S.2 T))
  | 0, _, _, _, _ => zpE_0
  | N + 1, k, nc, ns, hk => by
    refine zpE_run1 2 (L' := [some (.ref 22), some (.int x1), some (.int x2), some (.int ((W23_22 x1 x2 S u0 k))), some (.int (Int32.ofNat k))]) (st' := [.int (S.1 10), .int (Int32.ofNat k)]) rfl ?_
    refine zpE_icmp rfl (fun q11 => ?_) (fun q11 => ?_)
    · have z11_0 := Int.not_lt.mpr (zF_ge_t q11)
      refine zpE_run 1 (L' := [some (.ref 22), some (.int x1), some (.int x2), some (.int ((W23_22 x1 x2 S u0 k))), some (.int (Int32.ofNat k))]) (st' := [.int ((W23_22 x1 x2 S u0 k))]) rfl ?_
      exact zpE_end rfl rfl (by rw [← zlp_out z11_0 hk]; exact zOq_v (by unfold Y23_22; (first | done | rfl)))
    · have z11_0 := zF_ge_f q11
      refine zpE_run 3 (L' := [some (.ref 22), some (.int x1), some (.int x2), some (.int ((W23_22 x1 x2 S u0 k))), some (.int (Int32.ofNat k))]) (st' := [.int (Int32.ofNat k), .ref 23]) rfl ?_
      refine zpE_call rfl rfl (p_25 9 24 23 rfl rfl (HL : zaL S.2)) (fun v h1 nc1 ns1 q8 => ?_) (fun E h1 nc1 ns1 q8 => by cases q8)
      cases q8
      refine zpE_run 1 (L' := [some (.ref 22), some (.int x1), some (.int x2), some (.int ((W23_22 x1 x2 S u0 k))), some (.int (Int32.ofNat k))]) (st' := [.int x1, .int (zgt (S.2 9) (Int32.ofNat k))]) rfl ?_
      refine zpE_icmp rfl (fun q24 => ?_) (fun q24 => ?_)
      · have z24_1 := zF_lt_t q24
        refine zpE_run 2 (L' := [some (.ref 22), some (.int x1), some (.int x2), some (.int ((W23_22 x1 x2 S u0 k))), some (.int ((Int32.ofNat k) + Int32.ofInt 1))]) (st' := []) rfl ?_
        have K := fun nc ns => l_23_22 (x1 := x1) (x2 := x2) (u0 := u0) HL N (k + 1) nc ns (zlp_in z11_0 hk)
        rw [← zof1, show W23_22 x1 x2 S u0 (k + 1) = (W23_22 x1 x2 S u0 k) from by
            show D23_22 x1 x2 S k _ = _
            unfold D23_22
            rw [if_pos z24_1]] at K
        exact K _ _
      · have z24_1 := Int.not_lt.mpr (zF_lt_f q24)
        refine zpE_run 3 (L' := [some (.ref 22), some (.int x1), some (.int x2), some (.int ((W23_22 x1 x2 S u0 k))), some (.int (Int32.ofNat k))]) (st' := [.int (Int32.ofNat k), .ref 23]) rfl ?_
        refine zpE_call rfl rfl (p_25 9 24 23 rfl rfl (HL : zaL S.2)) (fun v h1 nc1 ns1 q8 => ?_) (fun E h1 nc1 ns1 q8 => by cases q8)
        cases q8
        refine zpE_run 1 (L' := [some (.ref 22), some (.int x1), some (.int x2), some (.int ((W23_22 x1 x2 S u0 k))), some (.int (Int32.ofNat k))]) (st' := [.int x2, .int (zgt (S.2 9) (Int32.ofNat k))]) rfl ?_
        refine zpE_icmp rfl (fun q37 => ?_) (fun q37 => ?_)
        · have z37_2 := Int.not_lt.mpr (zF_ge_t q37)
          refine zpE_run 2 (L' := [some (.ref 22), some (.int x1), some (.int x2), some (.int ((W23_22 x1 x2 S u0 k))), some (.int ((Int32.ofNat k) + Int32.ofInt 1))]) (st' := []) rfl ?_
          have K := fun nc ns => l_23_22 (x1 := x1) (x2 := x2) (u0 := u0) HL N (k + 1) nc ns (zlp_in z11_0 hk)
          rw [← zof1, show W23_22 x1 x2 S u0 (k + 1) = (W23_22 x1 x2 S u0 k) from by
              show D23_22 x1 x2 S k _ = _
              unfold D23_22
              rw [if_neg z24_1, if_neg z37_2]] at K
          exact K _ _
        · have z37_2 := zF_ge_f q37
          refine zpE_run 3 (L' := [some (.ref 22), some (.int x1), some (.int x2), some (.int (((W23_22 x1 x2 S u0 k)) + Int32.ofInt 1)), some (.int ((Int32.ofNat k) + Int32.ofInt 1))]) (st' := []) rfl ?_
          have K := fun nc ns => l_23_22 (x1 := x1) (x2 := x2) (u0 := u0) HL N (k + 1) nc ns (zlp_in z11_0 hk)
          rw [← zof1, show W23_22 x1 x2 S u0 (k + 1) = ((W23_22 x1 x2 S u0 k)) + Int32.ofInt 1 from by
              show D23_22 x1 x2 S k _ = _
              unfold D23_22
              rw [if_neg z24_1, if_pos z37_2]] at K
          exact K _ _
def V23_22 (x1 : Int32) (x2 : Int32) (S : zSt) : Int32 := Y23_22 x1 x2 S (W23_22 x1 x2 S (Int32.ofInt 0) (S.1 10).toInt.toNat)
theorem e_23_22 {x1 x2 : Int32} (HL : zaL S.2) : zpM xs N 23 [.ref 22, .int x1, .int x2] (zx S.1 S.2 T) nc ns (zOq (.inl (some (.int (V23_22 x1 x2 S)))) (zx S.1 S.2 T)) := by
  intro L0 e
  cases e
  refine zpE_run 4 rfl ?_
  exact l_23_22 (x1 := x1) (x2 := x2) (S := S) (u0 := Int32.ofInt 0) HL N 0 _ _ (Nat.zero_le _)
def R70 (x1 : Int32) (x2 : Int32) (S : zSt) : Option Value ⊕ Nat := if C82 x1 S = true then (if x2 = Int32.ofInt 0 then (.inl (some (.int (V92 x1 S)))) else (if x2 = Int32.ofInt 1 then (.inl (some (.int (zvd (ztu S.1 S.2 (V92 x1 S)))))) else (if x2 = Int32.ofInt 2 then (.inl (some (.int (zgt (S.2 17) x1)))) else (if x2 = Int32.ofInt 3 then (.inl (some (.int (zgt (S.2 18) x1)))) else (if x2 = Int32.ofInt 4 then (.inl (some (.int (zgt (S.2 15) (zqtd x1 (Int32.ofInt 8)))))) else (if x2 = Int32.ofInt 5 then (.inl (some (.int (V23_15 (V91 x1 S) ((V91 x1 S) + (Int32.ofInt 1)) S)))) else (if x2 = Int32.ofInt 6 then (.inl (some (.int (V23_22 (V91 x1 S) ((V91 x1 S) + (Int32.ofInt 1)) S)))) else (.inr 0)))))))) else (.inr 1)
def F70 (x1 : Int32) (x2 : Int32) (S : zSt) : zSt := if C82 x1 S = true then (if x2 = Int32.ofInt 0 then S else (if x2 = Int32.ofInt 1 then S else (if x2 = Int32.ofInt 2 then S else (if x2 = Int32.ofInt 3 then S else (if x2 = Int32.ofInt 4 then S else (if x2 = Int32.ofInt 5 then S else (if x2 = Int32.ofInt 6 then S else S))))))) else S
theorem e_70 {x1 x2 : Int32} (HL : zaL S.2) : zpM xs N 70 [.ref 0, .int x1, .int x2] (zx S.1 S.2 T) nc ns (zOq (R70 x1 x2 S) (zx (F70 x1 x2 S).1 (F70 x1 x2 S).2 T)) := by
  intro L0 e
  cases e
  refine zpE_run 1 (L' := [some (.ref 0), some (.int x1), some (.int x2), none]) (st' := [.int x1]) rfl ?_
  refine zpE_call rfl rfl (e_82 (S := S) (x1 := x1) HL) (fun v h1 nc1 ns1 q8 => ?_) (fun E h1 nc1 ns1 q8 => ?_)
  rotate_left
  · rcases q8 with ⟨_, q8, _⟩ | ⟨c1, q8, q9⟩
    · cases q8
    · cases q8
      cases q9
      exact ⟨fun _ => (zOq_g (r := .inr 1) (S' := S) (by unfold R70; rw [if_neg c1]) (by unfold F70; rw [if_neg c1])), fun pc2 L2 e => by cases e⟩
  replace q8 := q8.resolve_right (fun y9 => by cases y9.2.1)
  obtain ⟨c1, q8, q9⟩ := q8
  cases q8
  cases q9
  refine zpE_run 2 (L' := [some (.ref 0), some (.int x1), some (.int x2), none]) (st' := [.int x1, .ref 0]) rfl ?_
  refine zpE_call rfl rfl (e_91 (S := S) (x1 := x1) HL) (fun v h1 nc1 ns1 q8 => ?_) (fun E h1 nc1 ns1 q8 => by cases q8.1)
  obtain ⟨q8, q9⟩ := q8
  cases q8
  cases q9
  refine zpE_run 2 (L' := [some (.ref 0), some (.int x1), some (.int x2), some (.int (V91 x1 S))]) (st' := [.int x2]) rfl ?_
  by_cases z11_1_0 : x2 = Int32.ofInt 0
  · refine zpE_tabi (i := 0) (t := 52) rfl (by rw [z11_1_0]; decide) (by rw [z11_1_0]; decide) rfl rfl ?_
    refine zpE_run 2 (L' := [some (.ref 0), some (.int x1), some (.int x2), some (.int (V91 x1 S))]) (st' := [.int x1, .ref 0]) rfl ?_
    refine zpE_call rfl rfl (e_92 (S := S) (x1 := x1) HL) (fun v h1 nc1 ns1 q8 => ?_) (fun E h1 nc1 ns1 q8 => by cases q8.1)
    obtain ⟨q8, q9⟩ := q8
    cases q8
    cases q9
    exact zpE_end rfl rfl (zOq_g (r := .inl (some (.int (V92 x1 S)))) (S' := S) (by unfold R70; rw [if_pos c1, if_pos z11_1_0]) (by unfold F70; rw [if_pos c1, if_pos z11_1_0]))
  · skip
    by_cases z11_2_1 : x2 = Int32.ofInt 1
    · refine zpE_tabi (i := 1) (t := 58) rfl (by rw [z11_2_1]; decide) (by rw [z11_2_1]; decide) rfl rfl ?_
      refine zpE_run 4 (L' := [some (.ref 0), some (.int x1), some (.int x2), some (.int (V91 x1 S))]) (st' := [.int x1, .ref 0, .ref 1]) rfl ?_
      refine zpE_call rfl rfl (e_92 (S := S) (x1 := x1) HL) (fun v h1 nc1 ns1 q8 => ?_) (fun E h1 nc1 ns1 q8 => by cases q8.1)
      obtain ⟨q8, q9⟩ := q8
      cases q8
      cases q9
      refine zpE_call rfl rfl (p_11 HL) (fun v h1 nc1 ns1 q8 => ?_) (fun E h1 nc1 ns1 q8 => by cases q8)
      cases q8
      exact zpE_end rfl rfl (zOq_g (r := .inl (some (.int (zvd (ztu S.1 S.2 (V92 x1 S)))))) (S' := S) (by unfold R70; rw [if_pos c1, if_neg z11_1_0, if_pos z11_2_1]) (by unfold F70; rw [if_pos c1, if_neg z11_1_0, if_pos z11_2_1]))
    · skip
      by_cases z11_3_2 : x2 = Int32.ofInt 2
      · refine zpE_tabi (i := 2) (t := 71) rfl (by rw [z11_3_2]; decide) (by rw [z11_3_2]; decide) rfl rfl ?_
        refine zpE_run 3 (L' := [some (.ref 0), some (.int x1), some (.int x2), some (.int (V91 x1 S))]) (st' := [.int x1, .ref 40]) rfl ?_
        refine zpE_call rfl rfl (p_25 17 41 40 rfl rfl (HL : zaL S.2)) (fun v h1 nc1 ns1 q8 => ?_) (fun E h1 nc1 ns1 q8 => by cases q8)
        cases q8
        exact zpE_end rfl rfl (zOq_g (r := .inl (some (.int (zgt (S.2 17) x1)))) (S' := S) (by unfold R70; rw [if_pos c1, if_neg z11_1_0, if_neg z11_2_1, if_pos z11_3_2]) (by unfold F70; rw [if_pos c1, if_neg z11_1_0, if_neg z11_2_1, if_pos z11_3_2]))
      · skip
        by_cases z11_4_3 : x2 = Int32.ofInt 3
        · refine zpE_tabi (i := 3) (t := 80) rfl (by rw [z11_4_3]; decide) (by rw [z11_4_3]; decide) rfl rfl ?_
          refine zpE_run 3 (L' := [some (.ref 0), some (.int x1), some (.int x2), some (.int (V91 x1 S))]) (st' := [.int x1, .ref 42]) rfl ?_
          refine zpE_call rfl rfl (p_25 18 43 42 rfl rfl (HL : zaL S.2)) (fun v h1 nc1 ns1 q8 => ?_) (fun E h1 nc1 ns1 q8 => by cases q8)
          cases q8
          exact zpE_end rfl rfl (zOq_g (r := .inl (some (.int (zgt (S.2 18) x1)))) (S' := S) (by unfold R70; rw [if_pos c1, if_neg z11_1_0, if_neg z11_2_1, if_neg z11_3_2, if_pos z11_4_3]) (by unfold F70; rw [if_pos c1, if_neg z11_1_0, if_neg z11_2_1, if_neg z11_3_2, if_pos z11_4_3]))
        · skip
          by_cases z11_5_4 : x2 = Int32.ofInt 4
          · refine zpE_tabi (i := 4) (t := 89) rfl (by rw [z11_5_4]; decide) (by rw [z11_5_4]; decide) rfl rfl ?_
            refine zpE_run 4 (L' := [some (.ref 0), some (.int x1), some (.int x2), some (.int (V91 x1 S))]) (st' := [.int (Int32.ofInt 8), .int x1, .ref 36]) rfl ?_
            refine zpE_idiv rfl (fun _ => ?_)
            refine zpE_call rfl rfl (p_25 15 37 36 rfl rfl (HL : zaL S.2)) (fun v h1 nc1 ns1 q8 => ?_) (fun E h1 nc1 ns1 q8 => by cases q8)
            cases q8
            exact zpE_end rfl rfl (zOq_g (r := .inl (some (.int (zgt (S.2 15) (zqtd x1 (Int32.ofInt 8)))))) (S' := S) (by unfold R70; rw [if_pos c1, if_neg z11_1_0, if_neg z11_2_1, if_neg z11_3_2, if_neg z11_4_3, if_pos z11_5_4]) (by unfold F70; rw [if_pos c1, if_neg z11_1_0, if_neg z11_2_1, if_neg z11_3_2, if_neg z11_4_3, if_pos z11_5_4]))
          · skip
            by_cases z11_6_5 : x2 = Int32.ofInt 5
            · refine zpE_tabi (i := 5) (t := 101) rfl (by rw [z11_6_5]; decide) (by rw [z11_6_5]; decide) rfl rfl ?_
              refine zpE_run 7 (L' := [some (.ref 0), some (.int x1), some (.int x2), some (.int (V91 x1 S))]) (st' := [.int ((V91 x1 S) + (Int32.ofInt 1)), .int (V91 x1 S), .ref 15]) rfl ?_
              refine zpE_call rfl rfl (e_23_15 (S := S) (x1 := V91 x1 S) (x2 := (V91 x1 S) + (Int32.ofInt 1)) HL) (fun v h1 nc1 ns1 q8 => ?_) (fun E h1 nc1 ns1 q8 => by cases q8.1)
              obtain ⟨q8, q9⟩ := q8
              cases q8
              cases q9
              exact zpE_end rfl rfl (zOq_g (r := .inl (some (.int (V23_15 (V91 x1 S) ((V91 x1 S) + (Int32.ofInt 1)) S)))) (S' := S) (by unfold R70; rw [if_pos c1, if_neg z11_1_0, if_neg z11_2_1, if_neg z11_3_2, if_neg z11_4_3, if_neg z11_5_4, if_pos z11_6_5]) (by unfold F70; rw [if_pos c1, if_neg z11_1_0, if_neg z11_2_1, if_neg z11_3_2, if_neg z11_4_3, if_neg z11_5_4, if_pos z11_6_5]))
            · skip
              by_cases z11_7_6 : x2 = Int32.ofInt 6
              · refine zpE_tabi (i := 6) (t := 116) rfl (by rw [z11_7_6]; decide) (by rw [z11_7_6]; decide) rfl rfl ?_
                refine zpE_run 7 (L' := [some (.ref 0), some (.int x1), some (.int x2), some (.int (V91 x1 S))]) (st' := [.int ((V91 x1 S) + (Int32.ofInt 1)), .int (V91 x1 S), .ref 22]) rfl ?_
                refine zpE_call rfl rfl (e_23_22 (S := S) (x1 := V91 x1 S) (x2 := (V91 x1 S) + (Int32.ofInt 1)) HL) (fun v h1 nc1 ns1 q8 => ?_) (fun E h1 nc1 ns1 q8 => by cases q8.1)
                obtain ⟨q8, q9⟩ := q8
                cases q8
                cases q9
                exact zpE_end rfl rfl (zOq_g (r := .inl (some (.int (V23_22 (V91 x1 S) ((V91 x1 S) + (Int32.ofInt 1)) S)))) (S' := S) (by unfold R70; rw [if_pos c1, if_neg z11_1_0, if_neg z11_2_1, if_neg z11_3_2, if_neg z11_4_3, if_neg z11_5_4, if_neg z11_6_5, if_pos z11_7_6]) (by unfold F70; rw [if_pos c1, if_neg z11_1_0, if_neg z11_2_1, if_neg z11_3_2, if_neg z11_4_3, if_neg z11_5_4, if_neg z11_6_5, if_pos z11_7_6]))
              · skip
                have hd : x2.toInt < 0 ∨ 6 < x2.toInt := by
                  refine Classical.byContradiction (fun hh => ?_)
                  rcases (show x2.toInt = 0 ∨ x2.toInt = 1 ∨ x2.toInt = 2 ∨ x2.toInt = 3 ∨ x2.toInt = 4 ∨ x2.toInt = 5 ∨ x2.toInt = 6 by omega) with k9 | k9 | k9 | k9 | k9 | k9 | k9
                  · exact z11_1_0 (Int32.toInt_inj.mp (k9.trans (by decide)))
                  · exact z11_2_1 (Int32.toInt_inj.mp (k9.trans (by decide)))
                  · exact z11_3_2 (Int32.toInt_inj.mp (k9.trans (by decide)))
                  · exact z11_4_3 (Int32.toInt_inj.mp (k9.trans (by decide)))
                  · exact z11_5_4 (Int32.toInt_inj.mp (k9.trans (by decide)))
                  · exact z11_6_5 (Int32.toInt_inj.mp (k9.trans (by decide)))
                  · exact z11_7_6 (Int32.toInt_inj.mp (k9.trans (by decide)))
                refine zpE_tabd (t := 131) rfl hd rfl ?_
                exact zpE_end rfl rfl (zOq_g (r := .inr 0) (S' := S) (by unfold R70; rw [if_pos c1, if_neg z11_1_0, if_neg z11_2_1, if_neg z11_3_2, if_neg z11_4_3, if_neg z11_5_4, if_neg z11_6_5, if_neg z11_7_6]) (by unfold F70; rw [if_pos c1, if_neg z11_1_0, if_neg z11_2_1, if_neg z11_3_2, if_neg z11_4_3, if_neg z11_5_4, if_neg z11_6_5, if_neg z11_7_6]))
theorem fr_F70 {x1 x2 : Int32} : zfrm [] [] (F70 x1 x2 S) S := by
  unfold F70
  exact (fm_ite (fm_ite fm_rf (fm_ite fm_rf (fm_ite fm_rf (fm_ite fm_rf (fm_ite fm_rf (fm_ite fm_rf (fm_ite fm_rf fm_rf))))))) fm_rf)
theorem ln_F70 {x1 x2 : Int32} (HL : zaL S.2) : zaL (F70 x1 x2 S).2 := fm_L fr_F70 HL
def R72 (x1 : Int32) (x2 : Int32) (S : zSt) : Option Value ⊕ Nat := if x1.toInt < ((0 : Int32)).toInt then (.inr 1) else (if x1.toInt < (S.1 11).toInt then (if x2 = Int32.ofInt 0 then (.inl (some (.int (zgt (S.2 12) x1)))) else (if x2 = Int32.ofInt 1 then (.inl (some (.int (zgt (S.2 13) x1)))) else (if x2 = Int32.ofInt 2 then (.inl (some (.int (zgt (S.2 14) x1)))) else (.inr 0)))) else (.inr 1))
def F72 (x1 : Int32) (x2 : Int32) (S : zSt) : zSt := if x1.toInt < ((0 : Int32)).toInt then S else (if x1.toInt < (S.1 11).toInt then (if x2 = Int32.ofInt 0 then S else (if x2 = Int32.ofInt 1 then S else (if x2 = Int32.ofInt 2 then S else S))) else S)
theorem e_72 {x1 x2 : Int32} (HL : zaL S.2) : zpM xs N 72 [.ref 0, .int x1, .int x2] (zx S.1 S.2 T) nc ns (zOq (R72 x1 x2 S) (zx (F72 x1 x2 S).1 (F72 x1 x2 S).2 T)) := by
  intro L0 e
  cases e
  refine zpE_run 1 (L' := [some (.ref 0), some (.int x1), some (.int x2)]) (st' := [.int x1]) rfl ?_
  refine zpE_if rfl (fun q1 => ?_) (fun q1 => ?_)
  · have z1_0 := zF_lt_t q1
    exact zpE_end rfl rfl (zOq_g (r := .inr 1) (S' := S) (by unfold R72; rw [if_pos z1_0]) (by unfold F72; rw [if_pos z1_0]))
  · have z1_0 := Int.not_lt.mpr (zF_lt_f q1)
    refine zpE_run 4 (L' := [some (.ref 0), some (.int x1), some (.int x2)]) (st' := [.int (S.1 11), .int x1]) rfl ?_
    refine zpE_icmp rfl (fun q12 => ?_) (fun q12 => ?_)
    · have z12_1 := zF_lt_t q12
      refine zpE_run 1 (L' := [some (.ref 0), some (.int x1), some (.int x2)]) (st' := [.int x2]) rfl ?_
      by_cases z27_2_0 : x2 = Int32.ofInt 0
      · refine zpE_tabi (i := 0) (t := 52) rfl (by rw [z27_2_0]; decide) (by rw [z27_2_0]; decide) rfl rfl ?_
        refine zpE_run 4 (L' := [some (.ref 0), some (.int x1), some (.int x2)]) (st' := [.int x1, .ref 30]) rfl ?_
        refine zpE_call rfl rfl (p_25 12 31 30 rfl rfl (HL : zaL S.2)) (fun v h1 nc1 ns1 q8 => ?_) (fun E h1 nc1 ns1 q8 => by cases q8)
        cases q8
        exact zpE_end rfl rfl (zOq_g (r := .inl (some (.int (zgt (S.2 12) x1)))) (S' := S) (by unfold R72; rw [if_neg z1_0, if_pos z12_1, if_pos z27_2_0]) (by unfold F72; rw [if_neg z1_0, if_pos z12_1, if_pos z27_2_0]))
      · skip
        by_cases z27_3_1 : x2 = Int32.ofInt 1
        · refine zpE_tabi (i := 1) (t := 64) rfl (by rw [z27_3_1]; decide) (by rw [z27_3_1]; decide) rfl rfl ?_
          refine zpE_run 4 (L' := [some (.ref 0), some (.int x1), some (.int x2)]) (st' := [.int x1, .ref 32]) rfl ?_
          refine zpE_call rfl rfl (p_25 13 33 32 rfl rfl (HL : zaL S.2)) (fun v h1 nc1 ns1 q8 => ?_) (fun E h1 nc1 ns1 q8 => by cases q8)
          cases q8
          exact zpE_end rfl rfl (zOq_g (r := .inl (some (.int (zgt (S.2 13) x1)))) (S' := S) (by unfold R72; rw [if_neg z1_0, if_pos z12_1, if_neg z27_2_0, if_pos z27_3_1]) (by unfold F72; rw [if_neg z1_0, if_pos z12_1, if_neg z27_2_0, if_pos z27_3_1]))
        · skip
          by_cases z27_4_2 : x2 = Int32.ofInt 2
          · refine zpE_tabi (i := 2) (t := 76) rfl (by rw [z27_4_2]; decide) (by rw [z27_4_2]; decide) rfl rfl ?_
            refine zpE_run 4 (L' := [some (.ref 0), some (.int x1), some (.int x2)]) (st' := [.int x1, .ref 34]) rfl ?_
            refine zpE_call rfl rfl (p_25 14 35 34 rfl rfl (HL : zaL S.2)) (fun v h1 nc1 ns1 q8 => ?_) (fun E h1 nc1 ns1 q8 => by cases q8)
            cases q8
            exact zpE_end rfl rfl (zOq_g (r := .inl (some (.int (zgt (S.2 14) x1)))) (S' := S) (by unfold R72; rw [if_neg z1_0, if_pos z12_1, if_neg z27_2_0, if_neg z27_3_1, if_pos z27_4_2]) (by unfold F72; rw [if_neg z1_0, if_pos z12_1, if_neg z27_2_0, if_neg z27_3_1, if_pos z27_4_2]))
          · skip
            have hd : x2.toInt < 0 ∨ 2 < x2.toInt := by
              refine Classical.byContradiction (fun hh => ?_)
              rcases (show x2.toInt = 0 ∨ x2.toInt = 1 ∨ x2.toInt = 2 by omega) with k9 | k9 | k9
              · exact z27_2_0 (Int32.toInt_inj.mp (k9.trans (by decide)))
              · exact z27_3_1 (Int32.toInt_inj.mp (k9.trans (by decide)))
              · exact z27_4_2 (Int32.toInt_inj.mp (k9.trans (by decide)))
            refine zpE_tabd (t := 88) rfl hd rfl ?_
            exact zpE_end rfl rfl (zOq_g (r := .inr 0) (S' := S) (by unfold R72; rw [if_neg z1_0, if_pos z12_1, if_neg z27_2_0, if_neg z27_3_1, if_neg z27_4_2]) (by unfold F72; rw [if_neg z1_0, if_pos z12_1, if_neg z27_2_0, if_neg z27_3_1, if_neg z27_4_2]))
    · have z12_1 := Int.not_lt.mpr (zF_lt_f q12)
      exact zpE_end rfl rfl (zOq_g (r := .inr 1) (S' := S) (by unfold R72; rw [if_neg z1_0, if_neg z12_1]) (by unfold F72; rw [if_neg z1_0, if_neg z12_1]))
theorem fr_F72 {x1 x2 : Int32} : zfrm [] [] (F72 x1 x2 S) S := by
  unfold F72
  exact (fm_ite fm_rf (fm_ite (fm_ite fm_rf (fm_ite fm_rf (fm_ite fm_rf fm_rf))) fm_rf))
theorem ln_F72 {x1 x2 : Int32} (HL : zaL S.2) : zaL (F72 x1 x2 S).2 := fm_L fr_F72 HL
def R74 (x1 : Int32) (S : zSt) : Option Value ⊕ Nat := if x1 = Int32.ofInt 0 then (.inl (some (.int (S.1 4)))) else (if x1 = Int32.ofInt 1 then (.inl (some (.int (S.1 0)))) else (if x1 = Int32.ofInt 2 then (.inl (some (.int (S.1 1)))) else (if x1 = Int32.ofInt 3 then (.inl (some (.int (S.1 5)))) else (if x1 = Int32.ofInt 4 then (.inl (some (.int (S.1 6)))) else (if x1 = Int32.ofInt 5 then (.inl (some (.int (S.1 14)))) else (if x1 = Int32.ofInt 6 then (if (S.1 15) = ((0 : Int32)) then (.inl (some (.int (Int32.ofInt 0)))) else (.inl (some (.int (Int32.ofInt 1))))) else (if x1 = Int32.ofInt 7 then (if (S.1 16) = ((0 : Int32)) then (.inl (some (.int (Int32.ofInt 0)))) else (.inl (some (.int (Int32.ofInt 1))))) else (if x1 = Int32.ofInt 8 then (.inl (some (.int (S.1 17)))) else (if x1 = Int32.ofInt 9 then (.inl (some (.int (S.1 11)))) else (if x1 = Int32.ofInt 10 then (.inl (some (.int (S.1 12)))) else (if x1 = Int32.ofInt 11 then (.inl (some (.int (S.1 13)))) else (if x1 = Int32.ofInt 12 then (.inl (some (.int (zsum (S.2 17))))) else (if x1 = Int32.ofInt 13 then (.inl (some (.int (zsum (S.2 18))))) else (if x1 = Int32.ofInt 14 then (.inl (some (.int (S.1 9)))) else (if x1 = Int32.ofInt 15 then (.inl (some (.int (S.1 10)))) else (if x1 = Int32.ofInt 16 then (.inl (some (.int (S.1 8)))) else (if x1 = Int32.ofInt 17 then (.inl (some (.int (S.1 18)))) else (.inr 0))))))))))))))))))
def F74 (x1 : Int32) (S : zSt) : zSt := if x1 = Int32.ofInt 0 then S else (if x1 = Int32.ofInt 1 then S else (if x1 = Int32.ofInt 2 then S else (if x1 = Int32.ofInt 3 then S else (if x1 = Int32.ofInt 4 then S else (if x1 = Int32.ofInt 5 then S else (if x1 = Int32.ofInt 6 then (if (S.1 15) = ((0 : Int32)) then S else S) else (if x1 = Int32.ofInt 7 then (if (S.1 16) = ((0 : Int32)) then S else S) else (if x1 = Int32.ofInt 8 then S else (if x1 = Int32.ofInt 9 then S else (if x1 = Int32.ofInt 10 then S else (if x1 = Int32.ofInt 11 then S else (if x1 = Int32.ofInt 12 then S else (if x1 = Int32.ofInt 13 then S else (if x1 = Int32.ofInt 14 then S else (if x1 = Int32.ofInt 15 then S else (if x1 = Int32.ofInt 16 then S else (if x1 = Int32.ofInt 17 then S else S)))))))))))))))))
theorem e_74 {x1 : Int32} (HL : zaL S.2) : zpM xs N 74 [.ref 0, .int x1] (zx S.1 S.2 T) nc ns (zOq (R74 x1 S) (zx (F74 x1 S).1 (F74 x1 S).2 T)) := by
  intro L0 e
  cases e
  refine zpE_run 1 (L' := [some (.ref 0), some (.int x1)]) (st' := [.int x1]) rfl ?_
  by_cases z1_0_0 : x1 = Int32.ofInt 0
  · refine zpE_tabi (i := 0) (t := 88) rfl (by rw [z1_0_0]; decide) (by rw [z1_0_0]; decide) rfl rfl ?_
    refine zpE_run 3 (L' := [some (.ref 0), some (.int x1)]) (st' := [.int (S.1 4)]) rfl ?_
    exact zpE_end rfl rfl (zOq_g (r := .inl (some (.int (S.1 4)))) (S' := S) (by unfold R74; rw [if_pos z1_0_0]) (by unfold F74; rw [if_pos z1_0_0]))
  · skip
    by_cases z1_1_1 : x1 = Int32.ofInt 1
    · refine zpE_tabi (i := 1) (t := 96) rfl (by rw [z1_1_1]; decide) (by rw [z1_1_1]; decide) rfl rfl ?_
      refine zpE_run 3 (L' := [some (.ref 0), some (.int x1)]) (st' := [.int (S.1 0)]) rfl ?_
      exact zpE_end rfl rfl (zOq_g (r := .inl (some (.int (S.1 0)))) (S' := S) (by unfold R74; rw [if_neg z1_0_0, if_pos z1_1_1]) (by unfold F74; rw [if_neg z1_0_0, if_pos z1_1_1]))
    · skip
      by_cases z1_2_2 : x1 = Int32.ofInt 2
      · refine zpE_tabi (i := 2) (t := 104) rfl (by rw [z1_2_2]; decide) (by rw [z1_2_2]; decide) rfl rfl ?_
        refine zpE_run 3 (L' := [some (.ref 0), some (.int x1)]) (st' := [.int (S.1 1)]) rfl ?_
        exact zpE_end rfl rfl (zOq_g (r := .inl (some (.int (S.1 1)))) (S' := S) (by unfold R74; rw [if_neg z1_0_0, if_neg z1_1_1, if_pos z1_2_2]) (by unfold F74; rw [if_neg z1_0_0, if_neg z1_1_1, if_pos z1_2_2]))
      · skip
        by_cases z1_3_3 : x1 = Int32.ofInt 3
        · refine zpE_tabi (i := 3) (t := 112) rfl (by rw [z1_3_3]; decide) (by rw [z1_3_3]; decide) rfl rfl ?_
          refine zpE_run 3 (L' := [some (.ref 0), some (.int x1)]) (st' := [.int (S.1 5)]) rfl ?_
          exact zpE_end rfl rfl (zOq_g (r := .inl (some (.int (S.1 5)))) (S' := S) (by unfold R74; rw [if_neg z1_0_0, if_neg z1_1_1, if_neg z1_2_2, if_pos z1_3_3]) (by unfold F74; rw [if_neg z1_0_0, if_neg z1_1_1, if_neg z1_2_2, if_pos z1_3_3]))
        · skip
          by_cases z1_4_4 : x1 = Int32.ofInt 4
          · refine zpE_tabi (i := 4) (t := 120) rfl (by rw [z1_4_4]; decide) (by rw [z1_4_4]; decide) rfl rfl ?_
            refine zpE_run 3 (L' := [some (.ref 0), some (.int x1)]) (st' := [.int (S.1 6)]) rfl ?_
            exact zpE_end rfl rfl (zOq_g (r := .inl (some (.int (S.1 6)))) (S' := S) (by unfold R74; rw [if_neg z1_0_0, if_neg z1_1_1, if_neg z1_2_2, if_neg z1_3_3, if_pos z1_4_4]) (by unfold F74; rw [if_neg z1_0_0, if_neg z1_1_1, if_neg z1_2_2, if_neg z1_3_3, if_pos z1_4_4]))
          · skip
            by_cases z1_5_5 : x1 = Int32.ofInt 5
            · refine zpE_tabi (i := 5) (t := 128) rfl (by rw [z1_5_5]; decide) (by rw [z1_5_5]; decide) rfl rfl ?_
              refine zpE_run 2 (L' := [some (.ref 0), some (.int x1)]) (st' := [.int (S.1 14)]) rfl ?_
              exact zpE_end rfl rfl (zOq_g (r := .inl (some (.int (S.1 14)))) (S' := S) (by unfold R74; rw [if_neg z1_0_0, if_neg z1_1_1, if_neg z1_2_2, if_neg z1_3_3, if_neg z1_4_4, if_pos z1_5_5]) (by unfold F74; rw [if_neg z1_0_0, if_neg z1_1_1, if_neg z1_2_2, if_neg z1_3_3, if_neg z1_4_4, if_pos z1_5_5]))
            · skip
              by_cases z1_6_6 : x1 = Int32.ofInt 6
              · refine zpE_tabi (i := 6) (t := 133) rfl (by rw [z1_6_6]; decide) (by rw [z1_6_6]; decide) rfl rfl ?_
                refine zpE_run 2 (L' := [some (.ref 0), some (.int x1)]) (st' := [.int (S.1 15)]) rfl ?_
                refine zpE_if rfl (fun q137 => ?_) (fun q137 => ?_)
                · have z137_7 := zF_e1 q137
                  refine zpE_run 1 (L' := [some (.ref 0), some (.int x1)]) (st' := [.int (Int32.ofInt 0)]) rfl ?_
                  exact zpE_end rfl rfl (zOq_g (r := .inl (some (.int (Int32.ofInt 0)))) (S' := S) (by unfold R74; rw [if_neg z1_0_0, if_neg z1_1_1, if_neg z1_2_2, if_neg z1_3_3, if_neg z1_4_4, if_neg z1_5_5, if_pos z1_6_6, if_pos z137_7]) (by unfold F74; rw [if_neg z1_0_0, if_neg z1_1_1, if_neg z1_2_2, if_neg z1_3_3, if_neg z1_4_4, if_neg z1_5_5, if_pos z1_6_6, if_pos z137_7]))
                · have z137_7 := zF_e0 q137
                  refine zpE_run 2 (L' := [some (.ref 0), some (.int x1)]) (st' := [.int (Int32.ofInt 1)]) rfl ?_
                  exact zpE_end rfl rfl (zOq_g (r := .inl (some (.int (Int32.ofInt 1)))) (S' := S) (by unfold R74; rw [if_neg z1_0_0, if_neg z1_1_1, if_neg z1_2_2, if_neg z1_3_3, if_neg z1_4_4, if_neg z1_5_5, if_pos z1_6_6, if_neg z137_7]) (by unfold F74; rw [if_neg z1_0_0, if_neg z1_1_1, if_neg z1_2_2, if_neg z1_3_3, if_neg z1_4_4, if_neg z1_5_5, if_pos z1_6_6, if_neg z137_7]))
              · skip
                by_cases z1_7_7 : x1 = Int32.ofInt 7
                · refine zpE_tabi (i := 7) (t := 146) rfl (by rw [z1_7_7]; decide) (by rw [z1_7_7]; decide) rfl rfl ?_
                  refine zpE_run 2 (L' := [some (.ref 0), some (.int x1)]) (st' := [.int (S.1 16)]) rfl ?_
                  refine zpE_if rfl (fun q150 => ?_) (fun q150 => ?_)
                  · have z150_8 := zF_e1 q150
                    refine zpE_run 1 (L' := [some (.ref 0), some (.int x1)]) (st' := [.int (Int32.ofInt 0)]) rfl ?_
                    exact zpE_end rfl rfl (zOq_g (r := .inl (some (.int (Int32.ofInt 0)))) (S' := S) (by unfold R74; rw [if_neg z1_0_0, if_neg z1_1_1, if_neg z1_2_2, if_neg z1_3_3, if_neg z1_4_4, if_neg z1_5_5, if_neg z1_6_6, if_pos z1_7_7, if_pos z150_8]) (by unfold F74; rw [if_neg z1_0_0, if_neg z1_1_1, if_neg z1_2_2, if_neg z1_3_3, if_neg z1_4_4, if_neg z1_5_5, if_neg z1_6_6, if_pos z1_7_7, if_pos z150_8]))
                  · have z150_8 := zF_e0 q150
                    refine zpE_run 2 (L' := [some (.ref 0), some (.int x1)]) (st' := [.int (Int32.ofInt 1)]) rfl ?_
                    exact zpE_end rfl rfl (zOq_g (r := .inl (some (.int (Int32.ofInt 1)))) (S' := S) (by unfold R74; rw [if_neg z1_0_0, if_neg z1_1_1, if_neg z1_2_2, if_neg z1_3_3, if_neg z1_4_4, if_neg z1_5_5, if_neg z1_6_6, if_pos z1_7_7, if_neg z150_8]) (by unfold F74; rw [if_neg z1_0_0, if_neg z1_1_1, if_neg z1_2_2, if_neg z1_3_3, if_neg z1_4_4, if_neg z1_5_5, if_neg z1_6_6, if_pos z1_7_7, if_neg z150_8]))
                · skip
                  by_cases z1_8_8 : x1 = Int32.ofInt 8
                  · refine zpE_tabi (i := 8) (t := 159) rfl (by rw [z1_8_8]; decide) (by rw [z1_8_8]; decide) rfl rfl ?_
                    refine zpE_run 2 (L' := [some (.ref 0), some (.int x1)]) (st' := [.int (S.1 17)]) rfl ?_
                    exact zpE_end rfl rfl (zOq_g (r := .inl (some (.int (S.1 17)))) (S' := S) (by unfold R74; rw [if_neg z1_0_0, if_neg z1_1_1, if_neg z1_2_2, if_neg z1_3_3, if_neg z1_4_4, if_neg z1_5_5, if_neg z1_6_6, if_neg z1_7_7, if_pos z1_8_8]) (by unfold F74; rw [if_neg z1_0_0, if_neg z1_1_1, if_neg z1_2_2, if_neg z1_3_3, if_neg z1_4_4, if_neg z1_5_5, if_neg z1_6_6, if_neg z1_7_7, if_pos z1_8_8]))
                  · skip
                    by_cases z1_9_9 : x1 = Int32.ofInt 9
                    · refine zpE_tabi (i := 9) (t := 164) rfl (by rw [z1_9_9]; decide) (by rw [z1_9_9]; decide) rfl rfl ?_
                      refine zpE_run 3 (L' := [some (.ref 0), some (.int x1)]) (st' := [.int (S.1 11)]) rfl ?_
                      exact zpE_end rfl rfl (zOq_g (r := .inl (some (.int (S.1 11)))) (S' := S) (by unfold R74; rw [if_neg z1_0_0, if_neg z1_1_1, if_neg z1_2_2, if_neg z1_3_3, if_neg z1_4_4, if_neg z1_5_5, if_neg z1_6_6, if_neg z1_7_7, if_neg z1_8_8, if_pos z1_9_9]) (by unfold F74; rw [if_neg z1_0_0, if_neg z1_1_1, if_neg z1_2_2, if_neg z1_3_3, if_neg z1_4_4, if_neg z1_5_5, if_neg z1_6_6, if_neg z1_7_7, if_neg z1_8_8, if_pos z1_9_9]))
                    · skip
                      by_cases z1_10_10 : x1 = Int32.ofInt 10
                      · refine zpE_tabi (i := 10) (t := 172) rfl (by rw [z1_10_10]; decide) (by rw [z1_10_10]; decide) rfl rfl ?_
                        refine zpE_run 3 (L' := [some (.ref 0), some (.int x1)]) (st' := [.int (S.1 12)]) rfl ?_
                        exact zpE_end rfl rfl (zOq_g (r := .inl (some (.int (S.1 12)))) (S' := S) (by unfold R74; rw [if_neg z1_0_0, if_neg z1_1_1, if_neg z1_2_2, if_neg z1_3_3, if_neg z1_4_4, if_neg z1_5_5, if_neg z1_6_6, if_neg z1_7_7, if_neg z1_8_8, if_neg z1_9_9, if_pos z1_10_10]) (by unfold F74; rw [if_neg z1_0_0, if_neg z1_1_1, if_neg z1_2_2, if_neg z1_3_3, if_neg z1_4_4, if_neg z1_5_5, if_neg z1_6_6, if_neg z1_7_7, if_neg z1_8_8, if_neg z1_9_9, if_pos z1_10_10]))
                      · skip
                        by_cases z1_11_11 : x1 = Int32.ofInt 11
                        · refine zpE_tabi (i := 11) (t := 180) rfl (by rw [z1_11_11]; decide) (by rw [z1_11_11]; decide) rfl rfl ?_
                          refine zpE_run 3 (L' := [some (.ref 0), some (.int x1)]) (st' := [.int (S.1 13)]) rfl ?_
                          exact zpE_end rfl rfl (zOq_g (r := .inl (some (.int (S.1 13)))) (S' := S) (by unfold R74; rw [if_neg z1_0_0, if_neg z1_1_1, if_neg z1_2_2, if_neg z1_3_3, if_neg z1_4_4, if_neg z1_5_5, if_neg z1_6_6, if_neg z1_7_7, if_neg z1_8_8, if_neg z1_9_9, if_neg z1_10_10, if_pos z1_11_11]) (by unfold F74; rw [if_neg z1_0_0, if_neg z1_1_1, if_neg z1_2_2, if_neg z1_3_3, if_neg z1_4_4, if_neg z1_5_5, if_neg z1_6_6, if_neg z1_7_7, if_neg z1_8_8, if_neg z1_9_9, if_neg z1_10_10, if_pos z1_11_11]))
                        · skip
                          by_cases z1_12_12 : x1 = Int32.ofInt 12
                          · refine zpE_tabi (i := 12) (t := 188) rfl (by rw [z1_12_12]; decide) (by rw [z1_12_12]; decide) rfl rfl ?_
                            refine zpE_run 2 (L' := [some (.ref 0), some (.int x1)]) (st' := [.ref 40]) rfl ?_
                            refine zpE_call rfl rfl (p_28 17 41 40 rfl rfl (HL : zaL S.2)) (fun v h1 nc1 ns1 q8 => ?_) (fun E h1 nc1 ns1 q8 => by cases q8)
                            cases q8
                            exact zpE_end rfl rfl (zOq_g (r := .inl (some (.int (zsum (S.2 17))))) (S' := S) (by unfold R74; rw [if_neg z1_0_0, if_neg z1_1_1, if_neg z1_2_2, if_neg z1_3_3, if_neg z1_4_4, if_neg z1_5_5, if_neg z1_6_6, if_neg z1_7_7, if_neg z1_8_8, if_neg z1_9_9, if_neg z1_10_10, if_neg z1_11_11, if_pos z1_12_12]) (by unfold F74; rw [if_neg z1_0_0, if_neg z1_1_1, if_neg z1_2_2, if_neg z1_3_3, if_neg z1_4_4, if_neg z1_5_5, if_neg z1_6_6, if_neg z1_7_7, if_neg z1_8_8, if_neg z1_9_9, if_neg z1_10_10, if_neg z1_11_11, if_pos z1_12_12]))
                          · skip
                            by_cases z1_13_13 : x1 = Int32.ofInt 13
                            · refine zpE_tabi (i := 13) (t := 196) rfl (by rw [z1_13_13]; decide) (by rw [z1_13_13]; decide) rfl rfl ?_
                              refine zpE_run 2 (L' := [some (.ref 0), some (.int x1)]) (st' := [.ref 42]) rfl ?_
                              refine zpE_call rfl rfl (p_28 18 43 42 rfl rfl (HL : zaL S.2)) (fun v h1 nc1 ns1 q8 => ?_) (fun E h1 nc1 ns1 q8 => by cases q8)
                              cases q8
                              exact zpE_end rfl rfl (zOq_g (r := .inl (some (.int (zsum (S.2 18))))) (S' := S) (by unfold R74; rw [if_neg z1_0_0, if_neg z1_1_1, if_neg z1_2_2, if_neg z1_3_3, if_neg z1_4_4, if_neg z1_5_5, if_neg z1_6_6, if_neg z1_7_7, if_neg z1_8_8, if_neg z1_9_9, if_neg z1_10_10, if_neg z1_11_11, if_neg z1_12_12, if_pos z1_13_13]) (by unfold F74; rw [if_neg z1_0_0, if_neg z1_1_1, if_neg z1_2_2, if_neg z1_3_3, if_neg z1_4_4, if_neg z1_5_5, if_neg z1_6_6, if_neg z1_7_7, if_neg z1_8_8, if_neg z1_9_9, if_neg z1_10_10, if_neg z1_11_11, if_neg z1_12_12, if_pos z1_13_13]))
                            · skip
                              by_cases z1_14_14 : x1 = Int32.ofInt 14
                              · refine zpE_tabi (i := 14) (t := 204) rfl (by rw [z1_14_14]; decide) (by rw [z1_14_14]; decide) rfl rfl ?_
                                refine zpE_run 4 (L' := [some (.ref 0), some (.int x1)]) (st' := [.int (S.1 9)]) rfl ?_
                                exact zpE_end rfl rfl (zOq_g (r := .inl (some (.int (S.1 9)))) (S' := S) (by unfold R74; rw [if_neg z1_0_0, if_neg z1_1_1, if_neg z1_2_2, if_neg z1_3_3, if_neg z1_4_4, if_neg z1_5_5, if_neg z1_6_6, if_neg z1_7_7, if_neg z1_8_8, if_neg z1_9_9, if_neg z1_10_10, if_neg z1_11_11, if_neg z1_12_12, if_neg z1_13_13, if_pos z1_14_14]) (by unfold F74; rw [if_neg z1_0_0, if_neg z1_1_1, if_neg z1_2_2, if_neg z1_3_3, if_neg z1_4_4, if_neg z1_5_5, if_neg z1_6_6, if_neg z1_7_7, if_neg z1_8_8, if_neg z1_9_9, if_neg z1_10_10, if_neg z1_11_11, if_neg z1_12_12, if_neg z1_13_13, if_pos z1_14_14]))
                              · skip
                                by_cases z1_15_15 : x1 = Int32.ofInt 15
                                · refine zpE_tabi (i := 15) (t := 215) rfl (by rw [z1_15_15]; decide) (by rw [z1_15_15]; decide) rfl rfl ?_
                                  refine zpE_run 4 (L' := [some (.ref 0), some (.int x1)]) (st' := [.int (S.1 10)]) rfl ?_
                                  exact zpE_end rfl rfl (zOq_g (r := .inl (some (.int (S.1 10)))) (S' := S) (by unfold R74; rw [if_neg z1_0_0, if_neg z1_1_1, if_neg z1_2_2, if_neg z1_3_3, if_neg z1_4_4, if_neg z1_5_5, if_neg z1_6_6, if_neg z1_7_7, if_neg z1_8_8, if_neg z1_9_9, if_neg z1_10_10, if_neg z1_11_11, if_neg z1_12_12, if_neg z1_13_13, if_neg z1_14_14, if_pos z1_15_15]) (by unfold F74; rw [if_neg z1_0_0, if_neg z1_1_1, if_neg z1_2_2, if_neg z1_3_3, if_neg z1_4_4, if_neg z1_5_5, if_neg z1_6_6, if_neg z1_7_7, if_neg z1_8_8, if_neg z1_9_9, if_neg z1_10_10, if_neg z1_11_11, if_neg z1_12_12, if_neg z1_13_13, if_neg z1_14_14, if_pos z1_15_15]))
                                · skip
                                  by_cases z1_16_16 : x1 = Int32.ofInt 16
                                  · refine zpE_tabi (i := 16) (t := 226) rfl (by rw [z1_16_16]; decide) (by rw [z1_16_16]; decide) rfl rfl ?_
                                    refine zpE_run 3 (L' := [some (.ref 0), some (.int x1)]) (st' := [.int (S.1 8)]) rfl ?_
                                    exact zpE_end rfl rfl (zOq_g (r := .inl (some (.int (S.1 8)))) (S' := S) (by unfold R74; rw [if_neg z1_0_0, if_neg z1_1_1, if_neg z1_2_2, if_neg z1_3_3, if_neg z1_4_4, if_neg z1_5_5, if_neg z1_6_6, if_neg z1_7_7, if_neg z1_8_8, if_neg z1_9_9, if_neg z1_10_10, if_neg z1_11_11, if_neg z1_12_12, if_neg z1_13_13, if_neg z1_14_14, if_neg z1_15_15, if_pos z1_16_16]) (by unfold F74; rw [if_neg z1_0_0, if_neg z1_1_1, if_neg z1_2_2, if_neg z1_3_3, if_neg z1_4_4, if_neg z1_5_5, if_neg z1_6_6, if_neg z1_7_7, if_neg z1_8_8, if_neg z1_9_9, if_neg z1_10_10, if_neg z1_11_11, if_neg z1_12_12, if_neg z1_13_13, if_neg z1_14_14, if_neg z1_15_15, if_pos z1_16_16]))
                                  · skip
                                    by_cases z1_17_17 : x1 = Int32.ofInt 17
                                    · refine zpE_tabi (i := 17) (t := 234) rfl (by rw [z1_17_17]; decide) (by rw [z1_17_17]; decide) rfl rfl ?_
                                      refine zpE_run 2 (L' := [some (.ref 0), some (.int x1)]) (st' := [.int (S.1 18)]) rfl ?_
                                      exact zpE_end rfl rfl (zOq_g (r := .inl (some (.int (S.1 18)))) (S' := S) (by unfold R74; rw [if_neg z1_0_0, if_neg z1_1_1, if_neg z1_2_2, if_neg z1_3_3, if_neg z1_4_4, if_neg z1_5_5, if_neg z1_6_6, if_neg z1_7_7, if_neg z1_8_8, if_neg z1_9_9, if_neg z1_10_10, if_neg z1_11_11, if_neg z1_12_12, if_neg z1_13_13, if_neg z1_14_14, if_neg z1_15_15, if_neg z1_16_16, if_pos z1_17_17]) (by unfold F74; rw [if_neg z1_0_0, if_neg z1_1_1, if_neg z1_2_2, if_neg z1_3_3, if_neg z1_4_4, if_neg z1_5_5, if_neg z1_6_6, if_neg z1_7_7, if_neg z1_8_8, if_neg z1_9_9, if_neg z1_10_10, if_neg z1_11_11, if_neg z1_12_12, if_neg z1_13_13, if_neg z1_14_14, if_neg z1_15_15, if_neg z1_16_16, if_pos z1_17_17]))
                                    · skip
                                      have hd : x1.toInt < 0 ∨ 17 < x1.toInt := by
                                        refine Classical.byContradiction (fun hh => ?_)
                                        rcases (show x1.toInt = 0 ∨ x1.toInt = 1 ∨ x1.toInt = 2 ∨ x1.toInt = 3 ∨ x1.toInt = 4 ∨ x1.toInt = 5 ∨ x1.toInt = 6 ∨ x1.toInt = 7 ∨ x1.toInt = 8 ∨ x1.toInt = 9 ∨ x1.toInt = 10 ∨ x1.toInt = 11 ∨ x1.toInt = 12 ∨ x1.toInt = 13 ∨ x1.toInt = 14 ∨ x1.toInt = 15 ∨ x1.toInt = 16 ∨ x1.toInt = 17 by omega) with k9 | k9 | k9 | k9 | k9 | k9 | k9 | k9 | k9 | k9 | k9 | k9 | k9 | k9 | k9 | k9 | k9 | k9
                                        · exact z1_0_0 (Int32.toInt_inj.mp (k9.trans (by decide)))
                                        · exact z1_1_1 (Int32.toInt_inj.mp (k9.trans (by decide)))
                                        · exact z1_2_2 (Int32.toInt_inj.mp (k9.trans (by decide)))
                                        · exact z1_3_3 (Int32.toInt_inj.mp (k9.trans (by decide)))
                                        · exact z1_4_4 (Int32.toInt_inj.mp (k9.trans (by decide)))
                                        · exact z1_5_5 (Int32.toInt_inj.mp (k9.trans (by decide)))
                                        · exact z1_6_6 (Int32.toInt_inj.mp (k9.trans (by decide)))
                                        · exact z1_7_7 (Int32.toInt_inj.mp (k9.trans (by decide)))
                                        · exact z1_8_8 (Int32.toInt_inj.mp (k9.trans (by decide)))
                                        · exact z1_9_9 (Int32.toInt_inj.mp (k9.trans (by decide)))
                                        · exact z1_10_10 (Int32.toInt_inj.mp (k9.trans (by decide)))
                                        · exact z1_11_11 (Int32.toInt_inj.mp (k9.trans (by decide)))
                                        · exact z1_12_12 (Int32.toInt_inj.mp (k9.trans (by decide)))
                                        · exact z1_13_13 (Int32.toInt_inj.mp (k9.trans (by decide)))
                                        · exact z1_14_14 (Int32.toInt_inj.mp (k9.trans (by decide)))
                                        · exact z1_15_15 (Int32.toInt_inj.mp (k9.trans (by decide)))
                                        · exact z1_16_16 (Int32.toInt_inj.mp (k9.trans (by decide)))
                                        · exact z1_17_17 (Int32.toInt_inj.mp (k9.trans (by decide)))
                                      refine zpE_tabd (t := 239) rfl hd rfl ?_
                                      exact zpE_end rfl rfl (zOq_g (r := .inr 0) (S' := S) (by unfold R74; rw [if_neg z1_0_0, if_neg z1_1_1, if_neg z1_2_2, if_neg z1_3_3, if_neg z1_4_4, if_neg z1_5_5, if_neg z1_6_6, if_neg z1_7_7, if_neg z1_8_8, if_neg z1_9_9, if_neg z1_10_10, if_neg z1_11_11, if_neg z1_12_12, if_neg z1_13_13, if_neg z1_14_14, if_neg z1_15_15, if_neg z1_16_16, if_neg z1_17_17]) (by unfold F74; rw [if_neg z1_0_0, if_neg z1_1_1, if_neg z1_2_2, if_neg z1_3_3, if_neg z1_4_4, if_neg z1_5_5, if_neg z1_6_6, if_neg z1_7_7, if_neg z1_8_8, if_neg z1_9_9, if_neg z1_10_10, if_neg z1_11_11, if_neg z1_12_12, if_neg z1_13_13, if_neg z1_14_14, if_neg z1_15_15, if_neg z1_16_16, if_neg z1_17_17]))
theorem fr_F74 {x1 : Int32} : zfrm [] [] (F74 x1 S) S := by
  unfold F74
  exact (fm_ite fm_rf (fm_ite fm_rf (fm_ite fm_rf (fm_ite fm_rf (fm_ite fm_rf (fm_ite fm_rf (fm_ite (fm_ite fm_rf fm_rf) (fm_ite (fm_ite fm_rf fm_rf) (fm_ite fm_rf (fm_ite fm_rf (fm_ite fm_rf (fm_ite fm_rf (fm_ite fm_rf (fm_ite fm_rf (fm_ite fm_rf (fm_ite fm_rf (fm_ite fm_rf (fm_ite fm_rf fm_rf))))))))))))))))))
theorem ln_F74 {x1 : Int32} (HL : zaL S.2) : zaL (F74 x1 S).2 := fm_L fr_F74 HL
def R77 (x1 : Int32) (S : zSt) : Option Value ⊕ Nat := if C82 x1 S = true then (if (V96 x1 S) = ((0 : Int32)) then (if (V97 x1 S) = (Int32.ofInt (-1)) then (if (S.1 16) = ((0 : Int32)) then (.inl (some (.int (V97 x1 S)))) else (if (V96 (V89 x1 S) S) = ((0 : Int32)) then (.inl (some (.int (V97 (V89 x1 S) S)))) else (.inl (some (.int (V97 x1 S)))))) else (.inl (some (.int (V97 x1 S))))) else (.inl (some (.int (Int32.ofInt (-2)))))) else (.inr 1)
def F77 (x1 : Int32) (S : zSt) : zSt := if C82 x1 S = true then (if (V96 x1 S) = ((0 : Int32)) then (if (V97 x1 S) = (Int32.ofInt (-1)) then (if (S.1 16) = ((0 : Int32)) then S else (if (V96 (V89 x1 S) S) = ((0 : Int32)) then S else S)) else S) else S) else S
theorem e_77 {x1 : Int32} (HL : zaL S.2) : zpM xs N 77 [.ref 0, .int x1] (zx S.1 S.2 T) nc ns (zOq (R77 x1 S) (zx (F77 x1 S).1 (F77 x1 S).2 T)) := by
  intro L0 e
  cases e
  refine zpE_run 1 (L' := [some (.ref 0), some (.int x1), none, none]) (st' := [.int x1]) rfl ?_
  refine zpE_call rfl rfl (e_82 (S := S) (x1 := x1) HL) (fun v h1 nc1 ns1 q8 => ?_) (fun E h1 nc1 ns1 q8 => ?_)
  rotate_left
  · rcases q8 with ⟨_, q8, _⟩ | ⟨c1, q8, q9⟩
    · cases q8
    · cases q8
      cases q9
      exact ⟨fun _ => (zOq_g (r := .inr 1) (S' := S) (by unfold R77; rw [if_neg c1]) (by unfold F77; rw [if_neg c1])), fun pc2 L2 e => by cases e⟩
  replace q8 := q8.resolve_right (fun y9 => by cases y9.2.1)
  obtain ⟨c1, q8, q9⟩ := q8
  cases q8
  cases q9
  refine zpE_run 2 (L' := [some (.ref 0), some (.int x1), none, none]) (st' := [.int x1, .ref 0]) rfl ?_
  refine zpE_call rfl rfl (e_96 (S := S) (x1 := x1) HL) (fun v h1 nc1 ns1 q8 => ?_) (fun E h1 nc1 ns1 q8 => by cases q8.1)
  obtain ⟨q8, q9⟩ := q8
  cases q8
  cases q9
  refine zpE_if rfl (fun q9 => ?_) (fun q9 => ?_)
  · have z9_1 := zF_e1 q9
    refine zpE_run 2 (L' := [some (.ref 0), some (.int x1), none, none]) (st' := [.int x1, .ref 0]) rfl ?_
    refine zpE_call rfl rfl (e_97 (S := S) (x1 := x1) HL) (fun v h1 nc1 ns1 q8 => ?_) (fun E h1 nc1 ns1 q8 => by cases q8.1)
    obtain ⟨q8, q9⟩ := q8
    cases q8
    cases q9
    refine zpE_run 2 (L' := [some (.ref 0), some (.int x1), some (.int (V97 x1 S)), none]) (st' := [.int x1]) rfl ?_
    refine zpE_call rfl rfl (e_89 (S := S) (x1 := x1) HL) (fun v h1 nc1 ns1 q8 => ?_) (fun E h1 nc1 ns1 q8 => by cases q8.1)
    obtain ⟨q8, q9⟩ := q8
    cases q8
    cases q9
    refine zpE_run 3 (L' := [some (.ref 0), some (.int x1), some (.int (V97 x1 S)), some (.int (V89 x1 S))]) (st' := [.int (Int32.ofInt (-1)), .int (V97 x1 S)]) rfl ?_
    refine zpE_icmp rfl (fun q28 => ?_) (fun q28 => ?_)
    · have z28_2 := zF_n1 q28
      refine zpE_run 1 (L' := [some (.ref 0), some (.int x1), some (.int (V97 x1 S)), some (.int (V89 x1 S))]) (st' := [.int (V97 x1 S)]) rfl ?_
      exact zpE_end rfl rfl (zOq_g (r := .inl (some (.int (V97 x1 S)))) (S' := S) (by unfold R77; rw [if_pos c1, if_pos z9_1, if_neg z28_2]) (by unfold F77; rw [if_pos c1, if_pos z9_1, if_neg z28_2]))
    · have z28_2 := zF_n0 q28
      refine zpE_run 2 (L' := [some (.ref 0), some (.int x1), some (.int (V97 x1 S)), some (.int (V89 x1 S))]) (st' := [.int (S.1 16)]) rfl ?_
      refine zpE_if rfl (fun q35 => ?_) (fun q35 => ?_)
      · have z35_3 := zF_e1 q35
        refine zpE_run 1 (L' := [some (.ref 0), some (.int x1), some (.int (V97 x1 S)), some (.int (V89 x1 S))]) (st' := [.int (V97 x1 S)]) rfl ?_
        exact zpE_end rfl rfl (zOq_g (r := .inl (some (.int (V97 x1 S)))) (S' := S) (by unfold R77; rw [if_pos c1, if_pos z9_1, if_pos z28_2, if_pos z35_3]) (by unfold F77; rw [if_pos c1, if_pos z9_1, if_pos z28_2, if_pos z35_3]))
      · have z35_3 := zF_e0 q35
        refine zpE_run 2 (L' := [some (.ref 0), some (.int x1), some (.int (V97 x1 S)), some (.int (V89 x1 S))]) (st' := [.int (V89 x1 S), .ref 0]) rfl ?_
        refine zpE_call rfl rfl (e_96 (S := S) (x1 := V89 x1 S) HL) (fun v h1 nc1 ns1 q8 => ?_) (fun E h1 nc1 ns1 q8 => by cases q8.1)
        obtain ⟨q8, q9⟩ := q8
        cases q8
        cases q9
        refine zpE_if rfl (fun q43 => ?_) (fun q43 => ?_)
        · have z43_4 := zF_n1 q43
          refine zpE_run 1 (L' := [some (.ref 0), some (.int x1), some (.int (V97 x1 S)), some (.int (V89 x1 S))]) (st' := [.int (V97 x1 S)]) rfl ?_
          exact zpE_end rfl rfl (zOq_g (r := .inl (some (.int (V97 x1 S)))) (S' := S) (by unfold R77; rw [if_pos c1, if_pos z9_1, if_pos z28_2, if_neg z35_3, if_neg z43_4]) (by unfold F77; rw [if_pos c1, if_pos z9_1, if_pos z28_2, if_neg z35_3, if_neg z43_4]))
        · have z43_4 := zF_n0 q43
          refine zpE_run 2 (L' := [some (.ref 0), some (.int x1), some (.int (V97 x1 S)), some (.int (V89 x1 S))]) (st' := [.int (V89 x1 S), .ref 0]) rfl ?_
          refine zpE_call rfl rfl (e_97 (S := S) (x1 := V89 x1 S) HL) (fun v h1 nc1 ns1 q8 => ?_) (fun E h1 nc1 ns1 q8 => by cases q8.1)
          obtain ⟨q8, q9⟩ := q8
          cases q8
          cases q9
          refine zpE_run 2 (L' := [some (.ref 0), some (.int x1), some (.int (V97 (V89 x1 S) S)), some (.int (V89 x1 S))]) (st' := [.int (V97 (V89 x1 S) S)]) rfl ?_
          exact zpE_end rfl rfl (zOq_g (r := .inl (some (.int (V97 (V89 x1 S) S)))) (S' := S) (by unfold R77; rw [if_pos c1, if_pos z9_1, if_pos z28_2, if_neg z35_3, if_pos z43_4]) (by unfold F77; rw [if_pos c1, if_pos z9_1, if_pos z28_2, if_neg z35_3, if_pos z43_4]))
  · have z9_1 := zF_e0 q9
    refine zpE_run 1 (L' := [some (.ref 0), some (.int x1), none, none]) (st' := [.int (Int32.ofInt (-2))]) rfl ?_
    exact zpE_end rfl rfl (zOq_g (r := .inl (some (.int (Int32.ofInt (-2))))) (S' := S) (by unfold R77; rw [if_pos c1, if_neg z9_1]) (by unfold F77; rw [if_pos c1, if_neg z9_1]))
theorem fr_F77 {x1 : Int32} : zfrm [] [] (F77 x1 S) S := by
  unfold F77
  exact (fm_ite (fm_ite (fm_ite (fm_ite fm_rf (fm_ite fm_rf fm_rf)) fm_rf) fm_rf) fm_rf)
theorem ln_F77 {x1 : Int32} (HL : zaL S.2) : zaL (F77 x1 S).2 := fm_L fr_F77 HL
end ZCA

