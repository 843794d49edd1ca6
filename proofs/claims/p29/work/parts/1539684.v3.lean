set_option maxRecDepth 20000
section ZRE
variable {S0 : zSt} {M : zRt} {X : zXt} {kq : Nat × Nat × List Value} {xs : List Int32} {N : Nat} {nc ns : Nat}
def q162 (x1 : Int32) (M : zRt) : Nat → Nat → Int32
  | 0, k => (Int32.ofInt (-1))
  | m + 1, k => if (zgt (M.2.1 22) ((Int32.ofNat k))) = x1 then ((zrmd ((Int32.ofNat k)) (Int32.ofInt 8))) else (q162 x1 M m (k + 1))
theorem l_r162 {x1 : Int32} (hX : zUX kq X M.2.2) : ∀ (N k m : Nat) (nc ns : Nat), k + m = (Int32.ofNat (M.2.1 22).length).toInt.toNat → zpE xs N 162 2 [some (.ref 44), some (.int x1), some (.int (Int32.ofNat k))] [] (zy S0 M X) nc ns (zOq (.inl (some (.int (q162 x1 M m k)))) (zy S0 M X))
  | 0, _, _, _, _, _ => zpE_0
  | N + 1, k, m0, nc, ns, hk => by
    refine zpE_run1 2 (L' := [some (.ref 44), some (.int x1), some (.int (Int32.ofNat k))]) (st' := [.ref 69, .int (Int32.ofNat k)]) rfl ?_
    refine zpE_alen rfl rfl (by decide) ?_
    rw [List.length_map]
    refine zpE_icmp rfl (fun q8 => ?_) (fun q8 => ?_)
    · have z8_0 := Int.not_lt.mpr (zF_ge_t q8)
      refine zpE_run 1 (L' := [some (.ref 44), some (.int x1), some (.int (Int32.ofNat k))]) (st' := [.int (Int32.ofInt (-1))]) rfl ?_
      exact zpE_end rfl rfl (by rw [zlp_o2 z8_0 hk]; exact zOq_v (by first | rfl | done))
    · have z8_0 := zF_ge_f q8
      obtain ⟨m, rfl⟩ := zlp_i2 z8_0 hk
      have eQ : q162 x1 M (m + 1) k = if (zgt (M.2.1 22) ((Int32.ofNat k))) = x1 then ((zrmd ((Int32.ofNat k)) (Int32.ofInt 8))) else (q162 x1 M m (k + 1)) := rfl
      refine zpE_run 3 (L' := [some (.ref 44), some (.int x1), some (.int (Int32.ofNat k))]) (st' := [.int (Int32.ofNat k), .ref 69]) rfl ?_
      refine zpE_aly rfl (zy_g69 (M := M)) (fun _ _ => ?_)
      refine zpE_gen (fun nc ns => ?_)
      refine zpE_run 1 (L' := [some (.ref 44), some (.int x1), some (.int (Int32.ofNat k))]) (st' := [.int x1, .int (zgt (M.2.1 22) (Int32.ofNat k))]) rfl ?_
      refine zpE_icmp rfl (fun q18 => ?_) (fun q18 => ?_)
      · have z18_1 := zF_n1 q18
        refine zpE_run 2 (L' := [some (.ref 44), some (.int x1), some (.int ((Int32.ofNat k) + Int32.ofInt 1))]) (st' := []) rfl ?_
        have K := fun nc ns => l_r162 (x1 := x1) hX N (k + 1) m nc ns (by omega)
        rw [← zof1] at K
        rw [eQ, if_neg z18_1]
        exact K _ _
      · have z18_1 := zF_n0 q18
        refine zpE_run 2 (L' := [some (.ref 44), some (.int x1), some (.int (Int32.ofNat k))]) (st' := [.int (Int32.ofInt 8), .int (Int32.ofNat k)]) rfl ?_
        refine zpE_irem rfl (fun _ => ?_)
        exact zpE_end rfl rfl (zOq_v (by rw [eQ, if_pos z18_1]))
def v162 (x1 : Int32) (M : zRt) : Int32 := q162 x1 M (Int32.ofNat (M.2.1 22).length).toInt.toNat 0
theorem f_162 {x1 : Int32} (hX : zUX kq X M.2.2) : zpM xs N 162 [.ref 44, .int x1] (zy S0 M X) nc ns (zOq (.inl (some (.int (v162 x1 M)))) (zy S0 M X)) := by
  intro L0 e
  cases e
  refine zpE_run 2 rfl ?_
  exact l_r162 (x1 := x1) hX N 0 _ _ _ (Nat.zero_add _)
def d161 (x1 : Int32) (l4 : Int32) (M : zRt) (k : Nat) (u : Int32) : Int32 := if (zkd M.2.2.2 (zgt (M.2.1 (Int32.toNatClampNeg x1)) ((Int32.ofNat k)))) = ((0 : Int32)) then (u + (Int32.ofInt 0)) else (u + (Int32.ofInt 1))
def w161 (x1 : Int32) (l4 : Int32) (M : zRt) (u0 : Int32) : Nat → Int32
  | 0 => u0
  | k + 1 => d161 x1 l4 M k (w161 x1 l4 M u0 k)
def y161 (x1 : Int32) (l4 : Int32) (M : zRt) (u : Int32) : Int32 := u
theorem l_r161 {x1 l4 : Int32} {u0 : Int32} (hX : zUX kq X M.2.2) (n0 : ¬ x1 < 0 ∧ x1.toNatClampNeg < 20) : ∀ (N k : Nat) (o6 : Option Value) (nc ns : Nat), k ≤ (l4).toInt.toNat → zpE xs N 161 16 [some (.ref 44), some (.int x1), some (.int ((w161 x1 l4 M u0 k))), some (.ref (47 + Int32.toNatClampNeg x1)), some (.int l4), some (.int (Int32.ofNat k)), o6] [] (zy S0 M X) nc ns (zOq (.inl (some (.int (y161 x1 l4 M (w161 x1 l4 M u0 (l4).toInt.toNat))))) (zy S0 M X))
  | 0, _, _, _, _, _ => zpE_0
  | N + 1, k, o6, nc, ns, hk => by
    refine zpE_run1 1 (L' := [some (.ref 44), some (.int x1), some (.int ((w161 x1 l4 M u0 k))), some (.ref (47 + Int32.toNatClampNeg x1)), some (.int l4), some (.int (Int32.ofNat k)), o6]) (st' := [.int l4, .int (Int32.ofNat k)]) rfl ?_
    refine zpE_icmp rfl (fun q20 => ?_) (fun q20 => ?_)
    · have z20_0 := Int.not_lt.mpr (zF_ge_t q20)
      refine zpE_run 1 (L' := [some (.ref 44), some (.int x1), some (.int ((w161 x1 l4 M u0 k))), some (.ref (47 + Int32.toNatClampNeg x1)), some (.int l4), some (.int (Int32.ofNat k)), o6]) (st' := [.int ((w161 x1 l4 M u0 k))]) rfl ?_
      exact zpE_end rfl rfl (by rw [← zlp_out z20_0 hk]; exact zOq_v (by unfold y161; (first | done | rfl)))
    · have z20_0 := zF_ge_f q20
      refine zpE_run 2 (L' := [some (.ref 44), some (.int x1), some (.int ((w161 x1 l4 M u0 k))), some (.ref (47 + Int32.toNatClampNeg x1)), some (.int l4), some (.int (Int32.ofNat k)), o6]) (st' := [.int (Int32.ofNat k), .ref (47 + Int32.toNatClampNeg x1)]) rfl ?_
      refine zpE_aly rfl (zy_row n0.2) (fun _ _ => ?_)
      refine zpE_gen (fun nc ns => ?_)
      refine zpE_run 4 (L' := [some (.ref 44), some (.int x1), some (.int ((w161 x1 l4 M u0 k))), some (.ref (47 + Int32.toNatClampNeg x1)), some (.int l4), some (.int (Int32.ofNat k)), some (.int (zgt (M.2.1 (Int32.toNatClampNeg x1)) (Int32.ofNat k)))]) (st' := [.int (zgt (M.2.1 (Int32.toNatClampNeg x1)) (Int32.ofNat k)), .ref 44, .int ((w161 x1 l4 M u0 k))]) rfl ?_
      refine zpE_call rfl rfl (r_121 (zy_mc (M := M) hX)) (fun v h1 nc1 ns1 q8 => ?_) (fun E h1 nc1 ns1 q8 => by cases q8)
      cases q8
      refine zpE_if rfl (fun q36 => ?_) (fun q36 => ?_)
      · have z36_1 := zF_n1 q36
        refine zpE_run 5 (L' := [some (.ref 44), some (.int x1), some (.int (((w161 x1 l4 M u0 k)) + (Int32.ofInt 1))), some (.ref (47 + Int32.toNatClampNeg x1)), some (.int l4), some (.int ((Int32.ofNat k) + Int32.ofInt 1)), some (.int (zgt (M.2.1 (Int32.toNatClampNeg x1)) (Int32.ofNat k)))]) (st' := []) rfl ?_
        have eW : w161 x1 l4 M u0 (k + 1) = ((w161 x1 l4 M u0 k)) + (Int32.ofInt 1) := by
          show d161 x1 l4 M k _ = _
          unfold d161
          rw [if_neg z36_1]
        have K := fun o6 nc ns => l_r161 (x1 := x1) (l4 := l4) (u0 := u0) hX n0 N (k + 1) o6 nc ns (zlp_in z20_0 hk)
        rw [← zof1, eW] at K
        exact K _ _ _
      · have z36_1 := zF_n0 q36
        refine zpE_run 6 (L' := [some (.ref 44), some (.int x1), some (.int (((w161 x1 l4 M u0 k)) + (Int32.ofInt 0))), some (.ref (47 + Int32.toNatClampNeg x1)), some (.int l4), some (.int ((Int32.ofNat k) + Int32.ofInt 1)), some (.int (zgt (M.2.1 (Int32.toNatClampNeg x1)) (Int32.ofNat k)))]) (st' := []) rfl ?_
        have eW : w161 x1 l4 M u0 (k + 1) = ((w161 x1 l4 M u0 k)) + (Int32.ofInt 0) := by
          show d161 x1 l4 M k _ = _
          unfold d161
          rw [if_pos z36_1]
        have K := fun o6 nc ns => l_r161 (x1 := x1) (l4 := l4) (u0 := u0) hX n0 N (k + 1) o6 nc ns (zlp_in z20_0 hk)
        rw [← zof1, eW] at K
        exact K _ _ _
def v161 (x1 : Int32) (M : zRt) : Int32 := y161 x1 (Int32.ofNat (M.2.1 (Int32.toNatClampNeg x1)).length) M (w161 x1 (Int32.ofNat (M.2.1 (Int32.toNatClampNeg x1)).length) M (Int32.ofInt 0) ((Int32.ofNat (M.2.1 (Int32.toNatClampNeg x1)).length)).toInt.toNat)
theorem f_161 {x1 : Int32} (hX : zUX kq X M.2.2) : zpM xs N 161 [.ref 44, .int x1] (zy S0 M X) nc ns (zOq (.inl (some (.int (v161 x1 M)))) (zy S0 M X)) := by
  intro L0 e
  cases e
  refine zpE_run 5 (L' := [some (.ref 44), some (.int x1), some (.int (Int32.ofInt 0)), none, none, none, none]) (st' := [.int x1, .ref 46]) rfl ?_
  refine zpE_aaw rfl rfl (fun n1a n1 => ?_)
  replace n1 := And.intro n1a n1
  refine zpE_run 2 (L' := [some (.ref 44), some (.int x1), some (.int (Int32.ofInt 0)), some (.ref (47 + Int32.toNatClampNeg x1)), none, none, none]) (st' := [.ref (47 + Int32.toNatClampNeg x1)]) rfl ?_
  refine zpE_alen rfl (zy_row n1.2) (by decide) ?_
  rw [List.length_map]
  refine zpE_run 3 rfl ?_
  exact l_r161 (x1 := x1) (l4 := Int32.ofNat (M.2.1 (Int32.toNatClampNeg x1)).length) (M := M) (u0 := Int32.ofInt 0) hX n1 N 0 _ _ _ (Nat.zero_le _)
def v163 (x1 : Int32) (x2 : Int32) (M : zRt) : Int32 := if x2 = Int32.ofInt 0 then ((zgt (M.2.1 20) x1)) else (if x2 = Int32.ofInt 1 then ((v162 x1 M)) else (if x2 = Int32.ofInt 2 then (((M.1 4) - (zgt (M.2.1 21) x1))) else (if x2 = Int32.ofInt 3 then ((v158_0 x1 (Int32.ofInt (-1)) M)) else ((v161 x1 M)))))
theorem f_163 {x1 x2 : Int32} (hX : zUX kq X M.2.2) : zpM xs N 163 [.ref 44, .int x1, .int x2] (zy S0 M X) nc ns (zOq (.inl (some (.int (v163 x1 x2 M)))) (zy S0 M X)) := by
  intro L0 e
  cases e
  refine zpE_run 1 (L' := [some (.ref 44), some (.int x1), some (.int x2)]) (st' := [.int x2]) rfl ?_
  by_cases z1_0_0 : x2 = Int32.ofInt 0
  · refine zpE_tabi (i := 0) (t := 32) rfl (by rw [z1_0_0]; decide) (by rw [z1_0_0]; decide) rfl rfl ?_
    refine zpE_run 3 (L' := [some (.ref 44), some (.int x1), some (.int x2)]) (st' := [.int x1, .ref 67]) rfl ?_
    refine zpE_aly rfl (zy_g67 (M := M)) (fun _ _ => ?_)
    refine zpE_gen (fun nc ns => ?_)
    exact zpE_end rfl rfl (zOq_v (by unfold v163; rw [if_pos z1_0_0]))
  · skip
    by_cases z1_1_1 : x2 = Int32.ofInt 1
    · refine zpE_tabi (i := 1) (t := 39) rfl (by rw [z1_1_1]; decide) (by rw [z1_1_1]; decide) rfl rfl ?_
      refine zpE_run 2 (L' := [some (.ref 44), some (.int x1), some (.int x2)]) (st' := [.int x1, .ref 44]) rfl ?_
      refine zpE_call rfl rfl (f_162 (M := M) (x1 := x1) hX) (fun v h1 nc1 ns1 q8 => ?_) (fun E h1 nc1 ns1 q8 => by cases q8.1)
      obtain ⟨q8, q9⟩ := q8
      cases q8
      cases q9
      exact zpE_end rfl rfl (zOq_v (by unfold v163; rw [if_neg z1_0_0, if_pos z1_1_1]))
    · skip
      by_cases z1_2_2 : x2 = Int32.ofInt 2
      · refine zpE_tabi (i := 2) (t := 45) rfl (by rw [z1_2_2]; decide) (by rw [z1_2_2]; decide) rfl rfl ?_
        refine zpE_run 5 (L' := [some (.ref 44), some (.int x1), some (.int x2)]) (st' := [.int x1, .ref 68, .int (M.1 4)]) rfl ?_
        refine zpE_aly rfl (zy_g68 (M := M)) (fun _ _ => ?_)
        refine zpE_gen (fun nc ns => ?_)
        refine zpE_run 1 (L' := [some (.ref 44), some (.int x1), some (.int x2)]) (st' := [.int ((M.1 4) - (zgt (M.2.1 21) x1))]) rfl ?_
        exact zpE_end rfl rfl (zOq_v (by unfold v163; rw [if_neg z1_0_0, if_neg z1_1_1, if_pos z1_2_2]))
      · skip
        by_cases z1_3_3 : x2 = Int32.ofInt 3
        · refine zpE_tabi (i := 3) (t := 57) rfl (by rw [z1_3_3]; decide) (by rw [z1_3_3]; decide) rfl rfl ?_
          refine zpE_run 5 (L' := [some (.ref 44), some (.int x1), some (.int x2)]) (st' := [.int (Int32.ofInt (-1)), .int x1, .ref (X.1 0), .ref 44]) rfl ?_
          refine zpE_call rfl rfl (f_158_0 (M := M) (x2 := x1) (x3 := Int32.ofInt (-1)) hX) (fun v h1 nc1 ns1 q8 => ?_) (fun E h1 nc1 ns1 q8 => by cases q8.1)
          obtain ⟨q8, q9⟩ := q8
          cases q8
          cases q9
          exact zpE_end rfl rfl (zOq_v (by unfold v163; rw [if_neg z1_0_0, if_neg z1_1_1, if_neg z1_2_2, if_pos z1_3_3]))
        · skip
          have hd : x2.toInt < 0 ∨ 3 < x2.toInt := by
            refine Classical.byContradiction (fun hh => ?_)
            rcases (show x2.toInt = 0 ∨ x2.toInt = 1 ∨ x2.toInt = 2 ∨ x2.toInt = 3 by omega) with k9 | k9 | k9 | k9
            · exact z1_0_0 (Int32.toInt_inj.mp (k9.trans (by decide)))
            · exact z1_1_1 (Int32.toInt_inj.mp (k9.trans (by decide)))
            · exact z1_2_2 (Int32.toInt_inj.mp (k9.trans (by decide)))
            · exact z1_3_3 (Int32.toInt_inj.mp (k9.trans (by decide)))
          refine zpE_tabd (t := 68) rfl hd rfl ?_
          refine zpE_run 2 (L' := [some (.ref 44), some (.int x1), some (.int x2)]) (st' := [.int x1, .ref 44]) rfl ?_
          refine zpE_call rfl rfl (f_161 (M := M) (x1 := x1) hX) (fun v h1 nc1 ns1 q8 => ?_) (fun E h1 nc1 ns1 q8 => by cases q8.1)
          obtain ⟨q8, q9⟩ := q8
          cases q8
          cases q9
          exact zpE_end rfl rfl (zOq_v (by unfold v163; rw [if_neg z1_0_0, if_neg z1_1_1, if_neg z1_2_2, if_neg z1_3_3]))
def v164 (x1 : Int32) (x2 : Int32) (x3 : Int32) (M : zRt) : Int32 := if (v112 x1 (Int32.ofInt 0) (Int32.ofInt 1) (zmS M 0 (Int32.ofInt 0))) = ((0 : Int32)) then ((v111 (Int32.ofInt 1) (zmS M 0 (Int32.ofInt 0)))) else (if (v112 x2 (Int32.ofInt 0) (Int32.ofInt 9) (zmS M 0 (Int32.ofInt 0))) = ((0 : Int32)) then ((v111 (Int32.ofInt 1) (zmS M 0 (Int32.ofInt 0)))) else (if (v112 x3 (Int32.ofInt 0) (Int32.ofInt 4) (zmS M 0 (Int32.ofInt 0))) = ((0 : Int32)) then ((v111 (Int32.ofInt 2) (zmS M 0 (Int32.ofInt 0)))) else ((v163 ((x1 * (Int32.ofInt 10)) + x2) x3 (zmS M 0 (Int32.ofInt 0))))))
def r164 (x1 : Int32) (x2 : Int32) (x3 : Int32) (M : zRt) : zRt := if (v112 x1 (Int32.ofInt 0) (Int32.ofInt 1) (zmS M 0 (Int32.ofInt 0))) = ((0 : Int32)) then ((r111 (Int32.ofInt 1) (zmS M 0 (Int32.ofInt 0)))) else (if (v112 x2 (Int32.ofInt 0) (Int32.ofInt 9) (zmS M 0 (Int32.ofInt 0))) = ((0 : Int32)) then ((r111 (Int32.ofInt 1) (zmS M 0 (Int32.ofInt 0)))) else (if (v112 x3 (Int32.ofInt 0) (Int32.ofInt 4) (zmS M 0 (Int32.ofInt 0))) = ((0 : Int32)) then ((r111 (Int32.ofInt 2) (zmS M 0 (Int32.ofInt 0)))) else (zmS M 0 (Int32.ofInt 0))))
theorem f_164 {x1 x2 x3 : Int32} (hX : zUX kq X M.2.2) : zpM xs N 164 [.ref 44, .int x1, .int x2, .int x3] (zy S0 M X) nc ns (zOq (.inl (some (.int (v164 x1 x2 x3 M)))) (zy S0 (r164 x1 x2 x3 M) X)) := by
  intro L0 e
  cases e
  refine zpE_run 6 (L' := [some (.ref 44), some (.int x1), some (.int x2), some (.int x3)]) (st' := [.int (Int32.ofInt 1), .int (Int32.ofInt 0), .int x1]) (h' := zy S0 (zmS M 0 (Int32.ofInt 0)) X) rfl ?_
  refine zpE_call rfl rfl (f_112 (M := zmS M 0 (Int32.ofInt 0)) (x1 := x1) (x2 := Int32.ofInt 0) (x3 := Int32.ofInt 1) hX) (fun v h1 nc1 ns1 q8 => ?_) (fun E h1 nc1 ns1 q8 => by cases q8.1)
  obtain ⟨q8, q9⟩ := q8
  cases q8
  cases q9
  refine zpE_if rfl (fun q11 => ?_) (fun q11 => ?_)
  · have z11_0 := zF_e1 q11
    refine zpE_run 2 (L' := [some (.ref 44), some (.int x1), some (.int x2), some (.int x3)]) (st' := [.int (Int32.ofInt 1), .ref 44]) rfl ?_
    refine zpE_call rfl rfl (f_111 (M := zmS M 0 (Int32.ofInt 0)) (x1 := Int32.ofInt 1) hX) (fun v h1 nc1 ns1 q8 => ?_) (fun E h1 nc1 ns1 q8 => by cases q8.1)
    obtain ⟨q8, q9⟩ := q8
    cases q8
    cases q9
    obtain ⟨Z1, hZ1⟩ : ∃ Z, Z = r111 (Int32.ofInt 1) (zmS M 0 (Int32.ofInt 0)) := ⟨_, rfl⟩
    rw [← hZ1]
    have hY1 : zUX kq X Z1.2.2 := by
      rw [hZ1, rl_111]
      exact hX
    exact zpE_end rfl rfl (zOr_w (M' := Z1) (by unfold v164; (try rw [← hZ1]); rw [if_pos z11_0]) (by unfold r164; (try rw [← hZ1]); rw [if_pos z11_0]))
  · have z11_0 := zF_e0 q11
    refine zpE_run 3 (L' := [some (.ref 44), some (.int x1), some (.int x2), some (.int x3)]) (st' := [.int (Int32.ofInt 9), .int (Int32.ofInt 0), .int x2]) rfl ?_
    refine zpE_call rfl rfl (f_112 (M := zmS M 0 (Int32.ofInt 0)) (x1 := x2) (x2 := Int32.ofInt 0) (x3 := Int32.ofInt 9) hX) (fun v h1 nc1 ns1 q8 => ?_) (fun E h1 nc1 ns1 q8 => by cases q8.1)
    obtain ⟨q8, q9⟩ := q8
    cases q8
    cases q9
    refine zpE_if rfl (fun q21 => ?_) (fun q21 => ?_)
    · have z21_1 := zF_n1 q21
      refine zpE_run 3 (L' := [some (.ref 44), some (.int x1), some (.int x2), some (.int x3)]) (st' := [.int (Int32.ofInt 4), .int (Int32.ofInt 0), .int x3]) rfl ?_
      refine zpE_call rfl rfl (f_112 (M := zmS M 0 (Int32.ofInt 0)) (x1 := x3) (x2 := Int32.ofInt 0) (x3 := Int32.ofInt 4) hX) (fun v h1 nc1 ns1 q8 => ?_) (fun E h1 nc1 ns1 q8 => by cases q8.1)
      obtain ⟨q8, q9⟩ := q8
      cases q8
      cases q9
      refine zpE_if rfl (fun q36 => ?_) (fun q36 => ?_)
      · have z36_2 := zF_n1 q36
        refine zpE_run 7 (L' := [some (.ref 44), some (.int x1), some (.int x2), some (.int x3)]) (st' := [.int x3, .int ((x1 * (Int32.ofInt 10)) + x2), .ref 44]) rfl ?_
        refine zpE_call rfl rfl (f_163 (M := zmS M 0 (Int32.ofInt 0)) (x1 := (x1 * (Int32.ofInt 10)) + x2) (x2 := x3) hX) (fun v h1 nc1 ns1 q8 => ?_) (fun E h1 nc1 ns1 q8 => by cases q8.1)
        obtain ⟨q8, q9⟩ := q8
        cases q8
        cases q9
        exact zpE_end rfl rfl (zOr_w (M' := zmS M 0 (Int32.ofInt 0)) (by unfold v164; rw [if_neg z11_0, if_neg z21_1, if_neg z36_2]) (by unfold r164; rw [if_neg z11_0, if_neg z21_1, if_neg z36_2]))
      · have z36_2 := zF_n0 q36
        refine zpE_run 2 (L' := [some (.ref 44), some (.int x1), some (.int x2), some (.int x3)]) (st' := [.int (Int32.ofInt 2), .ref 44]) rfl ?_
        refine zpE_call rfl rfl (f_111 (M := zmS M 0 (Int32.ofInt 0)) (x1 := Int32.ofInt 2) hX) (fun v h1 nc1 ns1 q8 => ?_) (fun E h1 nc1 ns1 q8 => by cases q8.1)
        obtain ⟨q8, q9⟩ := q8
        cases q8
        cases q9
        obtain ⟨Z2, hZ2⟩ : ∃ Z, Z = r111 (Int32.ofInt 2) (zmS M 0 (Int32.ofInt 0)) := ⟨_, rfl⟩
        rw [← hZ2]
        have hY2 : zUX kq X Z2.2.2 := by
          rw [hZ2, rl_111]
          exact hX
        exact zpE_end rfl rfl (zOr_w (M' := Z2) (by unfold v164; (try rw [← hZ2]); rw [if_neg z11_0, if_neg z21_1, if_pos z36_2]) (by unfold r164; (try rw [← hZ2]); rw [if_neg z11_0, if_neg z21_1, if_pos z36_2]))
    · have z21_1 := zF_n0 q21
      refine zpE_run 2 (L' := [some (.ref 44), some (.int x1), some (.int x2), some (.int x3)]) (st' := [.int (Int32.ofInt 1), .ref 44]) rfl ?_
      refine zpE_call rfl rfl (f_111 (M := zmS M 0 (Int32.ofInt 0)) (x1 := Int32.ofInt 1) hX) (fun v h1 nc1 ns1 q8 => ?_) (fun E h1 nc1 ns1 q8 => by cases q8.1)
      obtain ⟨q8, q9⟩ := q8
      cases q8
      cases q9
      obtain ⟨Z3, hZ3⟩ : ∃ Z, Z = r111 (Int32.ofInt 1) (zmS M 0 (Int32.ofInt 0)) := ⟨_, rfl⟩
      rw [← hZ3]
      have hY3 : zUX kq X Z3.2.2 := by
        rw [hZ3, rl_111]
        exact hX
      exact zpE_end rfl rfl (zOr_w (M' := Z3) (by unfold v164; (try rw [← hZ3]); rw [if_neg z11_0, if_pos z21_1]) (by unfold r164; (try rw [← hZ3]); rw [if_neg z11_0, if_pos z21_1]))
theorem gr_164 {x1 x2 x3 : Int32} : zfrM [0] [] [] (r164 x1 x2 x3 M) M := by
  unfold r164
  exact (gm_ite (gm_c gr_111 (gm_c gm_S gm_rf (by decide) (by decide) (by decide)) (by decide) (by decide) (by decide)) (gm_ite (gm_c gr_111 (gm_c gm_S gm_rf (by decide) (by decide) (by decide)) (by decide) (by decide) (by decide)) (gm_ite (gm_c gr_111 (gm_c gm_S gm_rf (by decide) (by decide) (by decide)) (by decide) (by decide) (by decide)) (gm_c gm_S gm_rf (by decide) (by decide) (by decide)))))
theorem rl_164 {x1 x2 x3 : Int32} : (r164 x1 x2 x3 M).2.2 = M.2.2 := gm_l gr_164
def q179 (x1 : Int32) (M : zRt) : Nat → Nat → Int32 → Int32
  | 0, k, wa => wa
  | m + 1, k, wa => if (zgt (M.2.1 23) x1).toInt < (Int32.ofInt 2).toInt then (if (v161 (zgt (M.2.1 22) ((x1 * (Int32.ofInt 8)) + ((Int32.ofNat k)))) M) = ((0 : Int32)) then (q179 x1 M m (k + 1) wa) else (if wa = (Int32.ofInt (-1)) then (if wa = (Int32.ofInt (-1)) then (q179 x1 M m (k + 1) ((Int32.ofNat k))) else (if (v161 (Int32.ofInt 0) M).toInt < (v161 (zgt (M.2.1 22) ((x1 * (Int32.ofInt 8)) + ((Int32.ofNat k)))) M).toInt then (q179 x1 M m (k + 1) ((Int32.ofNat k))) else (if (v161 (zgt (M.2.1 22) ((x1 * (Int32.ofInt 8)) + ((Int32.ofNat k)))) M) = (v161 (Int32.ofInt 0) M) then (if (v158_0 (Int32.ofInt 0) (Int32.ofInt (-1)) M).toInt < (v158_0 (zgt (M.2.1 22) ((x1 * (Int32.ofInt 8)) + ((Int32.ofNat k)))) (Int32.ofInt (-1)) M).toInt then (q179 x1 M m (k + 1) ((Int32.ofNat k))) else (q179 x1 M m (k + 1) wa)) else (q179 x1 M m (k + 1) wa)))) else (if wa = (Int32.ofInt (-1)) then (q179 x1 M m (k + 1) ((Int32.ofNat k))) else (if (v161 (zgt (M.2.1 22) ((x1 * (Int32.ofInt 8)) + wa)) M).toInt < (v161 (zgt (M.2.1 22) ((x1 * (Int32.ofInt 8)) + ((Int32.ofNat k)))) M).toInt then (q179 x1 M m (k + 1) ((Int32.ofNat k))) else (if (v161 (zgt (M.2.1 22) ((x1 * (Int32.ofInt 8)) + ((Int32.ofNat k)))) M) = (v161 (zgt (M.2.1 22) ((x1 * (Int32.ofInt 8)) + wa)) M) then (if (v158_0 (zgt (M.2.1 22) ((x1 * (Int32.ofInt 8)) + wa)) (Int32.ofInt (-1)) M).toInt < (v158_0 (zgt (M.2.1 22) ((x1 * (Int32.ofInt 8)) + ((Int32.ofNat k)))) (Int32.ofInt (-1)) M).toInt then (q179 x1 M m (k + 1) ((Int32.ofNat k))) else (q179 x1 M m (k + 1) wa)) else (q179 x1 M m (k + 1) wa)))))) else wa
theorem l_r179 {x1 : Int32} (hX : zUX kq X M.2.2) : ∀ (N k m : Nat) (wa : Int32) (o4 : Option Value) (o5 : Option Value) (nc ns : Nat), k + m = (Int32.ofInt 8).toInt.toNat → zpE xs N 179 4 [some (.ref 44), some (.int x1), some (.int wa), some (.int (Int32.ofNat k)), o4, o5] [] (zy S0 M X) nc ns (zOq (.inl (some (.int (q179 x1 M m k wa)))) (zy S0 M X))
  | 0, _, _, _, _, _, _, _, _ => zpE_0
  | N + 1, k, m0, wa, o4, o5, nc, ns, hk => by
    refine zpE_run1 1 (L' := [some (.ref 44), some (.int x1), some (.int wa), some (.int (Int32.ofNat k)), o4, o5]) (st' := [.int (Int32.ofInt 8), .int (Int32.ofNat k)]) rfl ?_
    refine zpE_icmp rfl (fun q7 => ?_) (fun q7 => ?_)
    · have z7_0 := Int.not_lt.mpr (zF_ge_t q7)
      refine zpE_run 1 (L' := [some (.ref 44), some (.int x1), some (.int wa), some (.int (Int32.ofNat k)), o4, o5]) (st' := [.int wa]) rfl ?_
      exact zpE_end rfl rfl (by rw [zlp_o2 z7_0 hk]; exact zOq_v (by first | rfl | done))
    · have z7_0 := zF_ge_f q7
      obtain ⟨m, rfl⟩ := zlp_i2 z7_0 hk
      have eQ : q179 x1 M (m + 1) k wa = if (zgt (M.2.1 23) x1).toInt < (Int32.ofInt 2).toInt then (if (v161 (zgt (M.2.1 22) ((x1 * (Int32.ofInt 8)) + ((Int32.ofNat k)))) M) = ((0 : Int32)) then (q179 x1 M m (k + 1) wa) else (if wa = (Int32.ofInt (-1)) then (if wa = (Int32.ofInt (-1)) then (q179 x1 M m (k + 1) ((Int32.ofNat k))) else (if (v161 (Int32.ofInt 0) M).toInt < (v161 (zgt (M.2.1 22) ((x1 * (Int32.ofInt 8)) + ((Int32.ofNat k)))) M).toInt then (q179 x1 M m (k + 1) ((Int32.ofNat k))) else (if (v161 (zgt (M.2.1 22) ((x1 * (Int32.ofInt 8)) + ((Int32.ofNat k)))) M) = (v161 (Int32.ofInt 0) M) then (if (v158_0 (Int32.ofInt 0) (Int32.ofInt (-1)) M).toInt < (v158_0 (zgt (M.2.1 22) ((x1 * (Int32.ofInt 8)) + ((Int32.ofNat k)))) (Int32.ofInt (-1)) M).toInt then (q179 x1 M m (k + 1) ((Int32.ofNat k))) else (q179 x1 M m (k + 1) wa)) else (q179 x1 M m (k + 1) wa)))) else (if wa = (Int32.ofInt (-1)) then (q179 x1 M m (k + 1) ((Int32.ofNat k))) else (if (v161 (zgt (M.2.1 22) ((x1 * (Int32.ofInt 8)) + wa)) M).toInt < (v161 (zgt (M.2.1 22) ((x1 * (Int32.ofInt 8)) + ((Int32.ofNat k)))) M).toInt then (q179 x1 M m (k + 1) ((Int32.ofNat k))) else (if (v161 (zgt (M.2.1 22) ((x1 * (Int32.ofInt 8)) + ((Int32.ofNat k)))) M) = (v161 (zgt (M.2.1 22) ((x1 * (Int32.ofInt 8)) + wa)) M) then (if (v158_0 (zgt (M.2.1 22) ((x1 * (Int32.ofInt 8)) + wa)) (Int32.ofInt (-1)) M).toInt < (v158_0 (zgt (M.2.1 22) ((x1 * (Int32.ofInt 8)) + ((Int32.ofNat k)))) (Int32.ofInt (-1)) M).toInt then (q179 x1 M m (k + 1) ((Int32.ofNat k))) else (q179 x1 M m (k + 1) wa)) else (q179 x1 M m (k + 1) wa)))))) else wa := rfl
      refine zpE_run 3 (L' := [some (.ref 44), some (.int x1), some (.int wa), some (.int (Int32.ofNat k)), o4, o5]) (st' := [.int x1, .ref 70]) rfl ?_
      refine zpE_aly rfl (zy_g70 (M := M)) (fun _ _ => ?_)
      refine zpE_gen (fun nc ns => ?_)
      refine zpE_run 1 (L' := [some (.ref 44), some (.int x1), some (.int wa), some (.int (Int32.ofNat k)), o4, o5]) (st' := [.int (Int32.ofInt 2), .int (zgt (M.2.1 23) x1)]) rfl ?_
      refine zpE_icmp rfl (fun q17 => ?_) (fun q17 => ?_)
      · have z17_1 := Int.not_lt.mpr (zF_ge_t q17)
        refine zpE_run 1 (L' := [some (.ref 44), some (.int x1), some (.int wa), some (.int (Int32.ofNat k)), o4, o5]) (st' := [.int wa]) rfl ?_
        exact zpE_end rfl rfl (zOq_v (by rw [eQ, if_neg z17_1]))
      · have z17_1 := zF_ge_f q17
        refine zpE_run 7 (L' := [some (.ref 44), some (.int x1), some (.int wa), some (.int (Int32.ofNat k)), o4, o5]) (st' := [.int ((x1 * (Int32.ofInt 8)) + (Int32.ofNat k)), .ref 69]) rfl ?_
        refine zpE_aly rfl (zy_g69 (M := M)) (fun _ _ => ?_)
        refine zpE_gen (fun nc ns => ?_)
        refine zpE_run 3 (L' := [some (.ref 44), some (.int x1), some (.int wa), some (.int (Int32.ofNat k)), some (.int (zgt (M.2.1 22) ((x1 * (Int32.ofInt 8)) + (Int32.ofNat k)))), o5]) (st' := [.int (zgt (M.2.1 22) ((x1 * (Int32.ofInt 8)) + (Int32.ofNat k))), .ref 44]) rfl ?_
        refine zpE_call rfl rfl (f_161 (M := M) (x1 := zgt (M.2.1 22) ((x1 * (Int32.ofInt 8)) + (Int32.ofNat k))) hX) (fun v h1 nc1 ns1 q8 => ?_) (fun E h1 nc1 ns1 q8 => by cases q8.1)
        obtain ⟨q8, q9⟩ := q8
        cases q8
        cases q9
        refine zpE_if rfl (fun q39 => ?_) (fun q39 => ?_)
        · have z39_2 := zF_n1 q39
          refine zpE_run 2 (L' := [some (.ref 44), some (.int x1), some (.int wa), some (.int (Int32.ofNat k)), some (.int (zgt (M.2.1 22) ((x1 * (Int32.ofInt 8)) + (Int32.ofNat k)))), o5]) (st' := [.int (Int32.ofInt (-1)), .int wa]) rfl ?_
          refine zpE_icmp rfl (fun q47 => ?_) (fun q47 => ?_)
          · have z47_3 := zF_n1 q47
            refine zpE_run 7 (L' := [some (.ref 44), some (.int x1), some (.int wa), some (.int (Int32.ofNat k)), some (.int (zgt (M.2.1 22) ((x1 * (Int32.ofInt 8)) + (Int32.ofNat k)))), o5]) (st' := [.int ((x1 * (Int32.ofInt 8)) + wa), .ref 69]) rfl ?_
            refine zpE_aly rfl (zy_g69 (M := M)) (fun _ _ => ?_)
            refine zpE_gen (fun nc ns => ?_)
            refine zpE_run 3 (L' := [some (.ref 44), some (.int x1), some (.int wa), some (.int (Int32.ofNat k)), some (.int (zgt (M.2.1 22) ((x1 * (Int32.ofInt 8)) + (Int32.ofNat k)))), some (.int (zgt (M.2.1 22) ((x1 * (Int32.ofInt 8)) + wa)))]) (st' := [.int (Int32.ofInt (-1)), .int wa]) rfl ?_
            refine zpE_icmp rfl (fun q69 => ?_) (fun q69 => ?_)
            · have z69_4 := zF_e1 q69
              refine zpE_run 4 (L' := [some (.ref 44), some (.int x1), some (.int (Int32.ofNat k)), some (.int ((Int32.ofNat k) + Int32.ofInt 1)), some (.int (zgt (M.2.1 22) ((x1 * (Int32.ofInt 8)) + (Int32.ofNat k)))), some (.int (zgt (M.2.1 22) ((x1 * (Int32.ofInt 8)) + wa)))]) (st' := []) rfl ?_
              have K := fun o4 o5 nc ns => l_r179 (x1 := x1) hX N (k + 1) m (Int32.ofNat k) o4 o5 nc ns (by omega)
              rw [← zof1] at K
              rw [eQ, if_pos z17_1, if_neg z39_2, if_neg z47_3, if_pos z69_4]
              exact K _ _ _ _
            · have z69_4 := zF_e0 q69
              refine zpE_run 2 (L' := [some (.ref 44), some (.int x1), some (.int wa), some (.int (Int32.ofNat k)), some (.int (zgt (M.2.1 22) ((x1 * (Int32.ofInt 8)) + (Int32.ofNat k)))), some (.int (zgt (M.2.1 22) ((x1 * (Int32.ofInt 8)) + wa)))]) (st' := [.int (zgt (M.2.1 22) ((x1 * (Int32.ofInt 8)) + (Int32.ofNat k))), .ref 44]) rfl ?_
              refine zpE_call rfl rfl (f_161 (M := M) (x1 := zgt (M.2.1 22) ((x1 * (Int32.ofInt 8)) + (Int32.ofNat k))) hX) (fun v h1 nc1 ns1 q8 => ?_) (fun E h1 nc1 ns1 q8 => by cases q8.1)
              obtain ⟨q8, q9⟩ := q8
              cases q8
              cases q9
              refine zpE_run 2 (L' := [some (.ref 44), some (.int x1), some (.int wa), some (.int (Int32.ofNat k)), some (.int (zgt (M.2.1 22) ((x1 * (Int32.ofInt 8)) + (Int32.ofNat k)))), some (.int (zgt (M.2.1 22) ((x1 * (Int32.ofInt 8)) + wa)))]) (st' := [.int (zgt (M.2.1 22) ((x1 * (Int32.ofInt 8)) + wa)), .ref 44, .int (v161 (zgt (M.2.1 22) ((x1 * (Int32.ofInt 8)) + (Int32.ofNat k))) M)]) rfl ?_
              refine zpE_call rfl rfl (f_161 (M := M) (x1 := zgt (M.2.1 22) ((x1 * (Int32.ofInt 8)) + wa)) hX) (fun v h1 nc1 ns1 q8 => ?_) (fun E h1 nc1 ns1 q8 => by cases q8.1)
              obtain ⟨q8, q9⟩ := q8
              cases q8
              cases q9
              refine zpE_icmp rfl (fun q84 => ?_) (fun q84 => ?_)
              · have z84_5 := zF_gt_t q84
                refine zpE_run 4 (L' := [some (.ref 44), some (.int x1), some (.int (Int32.ofNat k)), some (.int ((Int32.ofNat k) + Int32.ofInt 1)), some (.int (zgt (M.2.1 22) ((x1 * (Int32.ofInt 8)) + (Int32.ofNat k)))), some (.int (zgt (M.2.1 22) ((x1 * (Int32.ofInt 8)) + wa)))]) (st' := []) rfl ?_
                have K := fun o4 o5 nc ns => l_r179 (x1 := x1) hX N (k + 1) m (Int32.ofNat k) o4 o5 nc ns (by omega)
                rw [← zof1] at K
                rw [eQ, if_pos z17_1, if_neg z39_2, if_neg z47_3, if_neg z69_4, if_pos z84_5]
                exact K _ _ _ _
              · have z84_5 := Int.not_lt.mpr (zF_gt_f q84)
                refine zpE_run 2 (L' := [some (.ref 44), some (.int x1), some (.int wa), some (.int (Int32.ofNat k)), some (.int (zgt (M.2.1 22) ((x1 * (Int32.ofInt 8)) + (Int32.ofNat k)))), some (.int (zgt (M.2.1 22) ((x1 * (Int32.ofInt 8)) + wa)))]) (st' := [.int (zgt (M.2.1 22) ((x1 * (Int32.ofInt 8)) + (Int32.ofNat k))), .ref 44]) rfl ?_
                refine zpE_call rfl rfl (f_161 (M := M) (x1 := zgt (M.2.1 22) ((x1 * (Int32.ofInt 8)) + (Int32.ofNat k))) hX) (fun v h1 nc1 ns1 q8 => ?_) (fun E h1 nc1 ns1 q8 => by cases q8.1)
                obtain ⟨q8, q9⟩ := q8
                cases q8
                cases q9
                refine zpE_run 2 (L' := [some (.ref 44), some (.int x1), some (.int wa), some (.int (Int32.ofNat k)), some (.int (zgt (M.2.1 22) ((x1 * (Int32.ofInt 8)) + (Int32.ofNat k)))), some (.int (zgt (M.2.1 22) ((x1 * (Int32.ofInt 8)) + wa)))]) (st' := [.int (zgt (M.2.1 22) ((x1 * (Int32.ofInt 8)) + wa)), .ref 44, .int (v161 (zgt (M.2.1 22) ((x1 * (Int32.ofInt 8)) + (Int32.ofNat k))) M)]) rfl ?_
                refine zpE_call rfl rfl (f_161 (M := M) (x1 := zgt (M.2.1 22) ((x1 * (Int32.ofInt 8)) + wa)) hX) (fun v h1 nc1 ns1 q8 => ?_) (fun E h1 nc1 ns1 q8 => by cases q8.1)
                obtain ⟨q8, q9⟩ := q8
                cases q8
                cases q9
                refine zpE_icmp rfl (fun q99 => ?_) (fun q99 => ?_)
                · have z99_6 := zF_n1 q99
                  refine zpE_run 2 (L' := [some (.ref 44), some (.int x1), some (.int wa), some (.int ((Int32.ofNat k) + Int32.ofInt 1)), some (.int (zgt (M.2.1 22) ((x1 * (Int32.ofInt 8)) + (Int32.ofNat k)))), some (.int (zgt (M.2.1 22) ((x1 * (Int32.ofInt 8)) + wa)))]) (st' := []) rfl ?_
                  have K := fun o4 o5 nc ns => l_r179 (x1 := x1) hX N (k + 1) m wa o4 o5 nc ns (by omega)
                  rw [← zof1] at K
                  rw [eQ, if_pos z17_1, if_neg z39_2, if_neg z47_3, if_neg z69_4, if_neg z84_5, if_neg z99_6]
                  exact K _ _ _ _
                · have z99_6 := zF_n0 q99
                  refine zpE_run 5 (L' := [some (.ref 44), some (.int x1), some (.int wa), some (.int (Int32.ofNat k)), some (.int (zgt (M.2.1 22) ((x1 * (Int32.ofInt 8)) + (Int32.ofNat k)))), some (.int (zgt (M.2.1 22) ((x1 * (Int32.ofInt 8)) + wa)))]) (st' := [.int (Int32.ofInt (-1)), .int (zgt (M.2.1 22) ((x1 * (Int32.ofInt 8)) + (Int32.ofNat k))), .ref (X.1 0), .ref 44]) rfl ?_
                  refine zpE_call rfl rfl (f_158_0 (M := M) (x2 := zgt (M.2.1 22) ((x1 * (Int32.ofInt 8)) + (Int32.ofNat k))) (x3 := Int32.ofInt (-1)) hX) (fun v h1 nc1 ns1 q8 => ?_) (fun E h1 nc1 ns1 q8 => by cases q8.1)
                  obtain ⟨q8, q9⟩ := q8
                  cases q8
                  cases q9
                  refine zpE_run 5 (L' := [some (.ref 44), some (.int x1), some (.int wa), some (.int (Int32.ofNat k)), some (.int (zgt (M.2.1 22) ((x1 * (Int32.ofInt 8)) + (Int32.ofNat k)))), some (.int (zgt (M.2.1 22) ((x1 * (Int32.ofInt 8)) + wa)))]) (st' := [.int (Int32.ofInt (-1)), .int (zgt (M.2.1 22) ((x1 * (Int32.ofInt 8)) + wa)), .ref (X.1 0), .ref 44, .int (v158_0 (zgt (M.2.1 22) ((x1 * (Int32.ofInt 8)) + (Int32.ofNat k))) (Int32.ofInt (-1)) M)]) rfl ?_
                  refine zpE_call rfl rfl (f_158_0 (M := M) (x2 := zgt (M.2.1 22) ((x1 * (Int32.ofInt 8)) + wa)) (x3 := Int32.ofInt (-1)) hX) (fun v h1 nc1 ns1 q8 => ?_) (fun E h1 nc1 ns1 q8 => by cases q8.1)
                  obtain ⟨q8, q9⟩ := q8
                  cases q8
                  cases q9
                  refine zpE_icmp rfl (fun q124 => ?_) (fun q124 => ?_)
                  · have z124_7 := Int.not_lt.mpr (zF_le_t q124)
                    refine zpE_run 2 (L' := [some (.ref 44), some (.int x1), some (.int wa), some (.int ((Int32.ofNat k) + Int32.ofInt 1)), some (.int (zgt (M.2.1 22) ((x1 * (Int32.ofInt 8)) + (Int32.ofNat k)))), some (.int (zgt (M.2.1 22) ((x1 * (Int32.ofInt 8)) + wa)))]) (st' := []) rfl ?_
                    have K := fun o4 o5 nc ns => l_r179 (x1 := x1) hX N (k + 1) m wa o4 o5 nc ns (by omega)
                    rw [← zof1] at K
                    rw [eQ, if_pos z17_1, if_neg z39_2, if_neg z47_3, if_neg z69_4, if_neg z84_5, if_pos z99_6, if_neg z124_7]
                    exact K _ _ _ _
                  · have z124_7 := zF_le_f q124
                    refine zpE_run 4 (L' := [some (.ref 44), some (.int x1), some (.int (Int32.ofNat k)), some (.int ((Int32.ofNat k) + Int32.ofInt 1)), some (.int (zgt (M.2.1 22) ((x1 * (Int32.ofInt 8)) + (Int32.ofNat k)))), some (.int (zgt (M.2.1 22) ((x1 * (Int32.ofInt 8)) + wa)))]) (st' := []) rfl ?_
                    have K := fun o4 o5 nc ns => l_r179 (x1 := x1) hX N (k + 1) m (Int32.ofNat k) o4 o5 nc ns (by omega)
                    rw [← zof1] at K
                    rw [eQ, if_pos z17_1, if_neg z39_2, if_neg z47_3, if_neg z69_4, if_neg z84_5, if_pos z99_6, if_pos z124_7]
                    exact K _ _ _ _
          · have z47_3 := zF_n0 q47
            refine zpE_run 5 (L' := [some (.ref 44), some (.int x1), some (.int wa), some (.int (Int32.ofNat k)), some (.int (zgt (M.2.1 22) ((x1 * (Int32.ofInt 8)) + (Int32.ofNat k)))), some (.int (Int32.ofInt 0))]) (st' := [.int (Int32.ofInt (-1)), .int wa]) rfl ?_
            refine zpE_icmp rfl (fun q69 => ?_) (fun q69 => ?_)
            · have z69_4 := zF_e1 q69
              refine zpE_run 4 (L' := [some (.ref 44), some (.int x1), some (.int (Int32.ofNat k)), some (.int ((Int32.ofNat k) + Int32.ofInt 1)), some (.int (zgt (M.2.1 22) ((x1 * (Int32.ofInt 8)) + (Int32.ofNat k)))), some (.int (Int32.ofInt 0))]) (st' := []) rfl ?_
              have K := fun o4 o5 nc ns => l_r179 (x1 := x1) hX N (k + 1) m (Int32.ofNat k) o4 o5 nc ns (by omega)
              rw [← zof1] at K
              rw [eQ, if_pos z17_1, if_neg z39_2, if_pos z47_3, if_pos z69_4]
              exact K _ _ _ _
            · have z69_4 := zF_e0 q69
              refine zpE_run 2 (L' := [some (.ref 44), some (.int x1), some (.int wa), some (.int (Int32.ofNat k)), some (.int (zgt (M.2.1 22) ((x1 * (Int32.ofInt 8)) + (Int32.ofNat k)))), some (.int (Int32.ofInt 0))]) (st' := [.int (zgt (M.2.1 22) ((x1 * (Int32.ofInt 8)) + (Int32.ofNat k))), .ref 44]) rfl ?_
              refine zpE_call rfl rfl (f_161 (M := M) (x1 := zgt (M.2.1 22) ((x1 * (Int32.ofInt 8)) + (Int32.ofNat k))) hX) (fun v h1 nc1 ns1 q8 => ?_) (fun E h1 nc1 ns1 q8 => by cases q8.1)
              obtain ⟨q8, q9⟩ := q8
              cases q8
              cases q9
              refine zpE_run 2 (L' := [some (.ref 44), some (.int x1), some (.int wa), some (.int (Int32.ofNat k)), some (.int (zgt (M.2.1 22) ((x1 * (Int32.ofInt 8)) + (Int32.ofNat k)))), some (.int (Int32.ofInt 0))]) (st' := [.int (Int32.ofInt 0), .ref 44, .int (v161 (zgt (M.2.1 22) ((x1 * (Int32.ofInt 8)) + (Int32.ofNat k))) M)]) rfl ?_
              refine zpE_call rfl rfl (f_161 (M := M) (x1 := Int32.ofInt 0) hX) (fun v h1 nc1 ns1 q8 => ?_) (fun E h1 nc1 ns1 q8 => by cases q8.1)
              obtain ⟨q8, q9⟩ := q8
              cases q8
              cases q9
              refine zpE_icmp rfl (fun q84 => ?_) (fun q84 => ?_)
              · have z84_5 := zF_gt_t q84
                refine zpE_run 4 (L' := [some (.ref 44), some (.int x1), some (.int (Int32.ofNat k)), some (.int ((Int32.ofNat k) + Int32.ofInt 1)), some (.int (zgt (M.2.1 22) ((x1 * (Int32.ofInt 8)) + (Int32.ofNat k)))), some (.int (Int32.ofInt 0))]) (st' := []) rfl ?_
                have K := fun o4 o5 nc ns => l_r179 (x1 := x1) hX N (k + 1) m (Int32.ofNat k) o4 o5 nc ns (by omega)
                rw [← zof1] at K
                rw [eQ, if_pos z17_1, if_neg z39_2, if_pos z47_3, if_neg z69_4, if_pos z84_5]
                exact K _ _ _ _
              · have z84_5 := Int.not_lt.mpr (zF_gt_f q84)
                refine zpE_run 2 (L' := [some (.ref 44), some (.int x1), some (.int wa), some (.int (Int32.ofNat k)), some (.int (zgt (M.2.1 22) ((x1 * (Int32.ofInt 8)) + (Int32.ofNat k)))), some (.int (Int32.ofInt 0))]) (st' := [.int (zgt (M.2.1 22) ((x1 * (Int32.ofInt 8)) + (Int32.ofNat k))), .ref 44]) rfl ?_
                refine zpE_call rfl rfl (f_161 (M := M) (x1 := zgt (M.2.1 22) ((x1 * (Int32.ofInt 8)) + (Int32.ofNat k))) hX) (fun v h1 nc1 ns1 q8 => ?_) (fun E h1 nc1 ns1 q8 => by cases q8.1)
                obtain ⟨q8, q9⟩ := q8
                cases q8
                cases q9
                refine zpE_run 2 (L' := [some (.ref 44), some (.int x1), some (.int wa), some (.int (Int32.ofNat k)), some (.int (zgt (M.2.1 22) ((x1 * (Int32.ofInt 8)) + (Int32.ofNat k)))), some (.int (Int32.ofInt 0))]) (st' := [.int (Int32.ofInt 0), .ref 44, .int (v161 (zgt (M.2.1 22) ((x1 * (Int32.ofInt 8)) + (Int32.ofNat k))) M)]) rfl ?_
                refine zpE_call rfl rfl (f_161 (M := M) (x1 := Int32.ofInt 0) hX) (fun v h1 nc1 ns1 q8 => ?_) (fun E h1 nc1 ns1 q8 => by cases q8.1)
                obtain ⟨q8, q9⟩ := q8
                cases q8
                cases q9
                refine zpE_icmp rfl (fun q99 => ?_) (fun q99 => ?_)
                · have z99_6 := zF_n1 q99
                  refine zpE_run 2 (L' := [some (.ref 44), some (.int x1), some (.int wa), some (.int ((Int32.ofNat k) + Int32.ofInt 1)), some (.int (zgt (M.2.1 22) ((x1 * (Int32.ofInt 8)) + (Int32.ofNat k)))), some (.int (Int32.ofInt 0))]) (st' := []) rfl ?_
                  have K := fun o4 o5 nc ns => l_r179 (x1 := x1) hX N (k + 1) m wa o4 o5 nc ns (by omega)
                  rw [← zof1] at K
                  rw [eQ, if_pos z17_1, if_neg z39_2, if_pos z47_3, if_neg z69_4, if_neg z84_5, if_neg z99_6]
                  exact K _ _ _ _
                · have z99_6 := zF_n0 q99
                  refine zpE_run 5 (L' := [some (.ref 44), some (.int x1), some (.int wa), some (.int (Int32.ofNat k)), some (.int (zgt (M.2.1 22) ((x1 * (Int32.ofInt 8)) + (Int32.ofNat k)))), some (.int (Int32.ofInt 0))]) (st' := [.int (Int32.ofInt (-1)), .int (zgt (M.2.1 22) ((x1 * (Int32.ofInt 8)) + (Int32.ofNat k))), .ref (X.1 0), .ref 44]) rfl ?_
                  refine zpE_call rfl rfl (f_158_0 (M := M) (x2 := zgt (M.2.1 22) ((x1 * (Int32.ofInt 8)) + (Int32.ofNat k))) (x3 := Int32.ofInt (-1)) hX) (fun v h1 nc1 ns1 q8 => ?_) (fun E h1 nc1 ns1 q8 => by cases q8.1)
                  obtain ⟨q8, q9⟩ := q8
                  cases q8
                  cases q9
                  refine zpE_run 5 (L' := [some (.ref 44), some (.int x1), some (.int wa), some (.int (Int32.ofNat k)), some (.int (zgt (M.2.1 22) ((x1 * (Int32.ofInt 8)) + (Int32.ofNat k)))), some (.int (Int32.ofInt 0))]) (st' := [.int (Int32.ofInt (-1)), .int (Int32.ofInt 0), .ref (X.1 0), .ref 44, .int (v158_0 (zgt (M.2.1 22) ((x1 * (Int32.ofInt 8)) + (Int32.ofNat k))) (Int32.ofInt (-1)) M)]) rfl ?_
                  refine zpE_call rfl rfl (f_158_0 (M := M) (x2 := Int32.ofInt 0) (x3 := Int32.ofInt (-1)) hX) (fun v h1 nc1 ns1 q8 => ?_) (fun E h1 nc1 ns1 q8 => by cases q8.1)
                  obtain ⟨q8, q9⟩ := q8
                  cases q8
                  cases q9
                  refine zpE_icmp rfl (fun q124 => ?_) (fun q124 => ?_)
                  · have z124_7 := Int.not_lt.mpr (zF_le_t q124)
                    refine zpE_run 2 (L' := [some (.ref 44), some (.int x1), some (.int wa), some (.int ((Int32.ofNat k) + Int32.ofInt 1)), some (.int (zgt (M.2.1 22) ((x1 * (Int32.ofInt 8)) + (Int32.ofNat k)))), some (.int (Int32.ofInt 0))]) (st' := []) rfl ?_
                    have K := fun o4 o5 nc ns => l_r179 (x1 := x1) hX N (k + 1) m wa o4 o5 nc ns (by omega)
                    rw [← zof1] at K
                    rw [eQ, if_pos z17_1, if_neg z39_2, if_pos z47_3, if_neg z69_4, if_neg z84_5, if_pos z99_6, if_neg z124_7]
                    exact K _ _ _ _
                  · have z124_7 := zF_le_f q124
                    refine zpE_run 4 (L' := [some (.ref 44), some (.int x1), some (.int (Int32.ofNat k)), some (.int ((Int32.ofNat k) + Int32.ofInt 1)), some (.int (zgt (M.2.1 22) ((x1 * (Int32.ofInt 8)) + (Int32.ofNat k)))), some (.int (Int32.ofInt 0))]) (st' := []) rfl ?_
                    have K := fun o4 o5 nc ns => l_r179 (x1 := x1) hX N (k + 1) m (Int32.ofNat k) o4 o5 nc ns (by omega)
                    rw [← zof1] at K
                    rw [eQ, if_pos z17_1, if_neg z39_2, if_pos z47_3, if_neg z69_4, if_neg z84_5, if_pos z99_6, if_pos z124_7]
                    exact K _ _ _ _
        · have z39_2 := zF_n0 q39
          refine zpE_run 3 (L' := [some (.ref 44), some (.int x1), some (.int wa), some (.int ((Int32.ofNat k) + Int32.ofInt 1)), some (.int (zgt (M.2.1 22) ((x1 * (Int32.ofInt 8)) + (Int32.ofNat k)))), o5]) (st' := []) rfl ?_
          have K := fun o4 o5 nc ns => l_r179 (x1 := x1) hX N (k + 1) m wa o4 o5 nc ns (by omega)
          rw [← zof1] at K
          rw [eQ, if_pos z17_1, if_pos z39_2]
          exact K _ _ _ _
def v179 (x1 : Int32) (M : zRt) : Int32 := q179 x1 M (Int32.ofInt 8).toInt.toNat 0 (Int32.ofInt (-1))
theorem f_179 {x1 : Int32} (hX : zUX kq X M.2.2) : zpM xs N 179 [.ref 44, .int x1] (zy S0 M X) nc ns (zOq (.inl (some (.int (v179 x1 M)))) (zy S0 M X)) := by
  intro L0 e
  cases e
  refine zpE_run 4 rfl ?_
  exact l_r179 (x1 := x1) hX N 0 _ (Int32.ofInt (-1)) _ _ _ _ (Nat.zero_add _)
def v180 (x1 : Int32) (M : zRt) : Int32 := if (v112 x1 (Int32.ofInt 0) (Int32.ofInt 1) (zmS M 0 (Int32.ofInt 0))) = ((0 : Int32)) then ((v111 (Int32.ofInt 1) (zmS M 0 (Int32.ofInt 0)))) else ((v179 x1 (zmS M 0 (Int32.ofInt 0))))
def r180 (x1 : Int32) (M : zRt) : zRt := if (v112 x1 (Int32.ofInt 0) (Int32.ofInt 1) (zmS M 0 (Int32.ofInt 0))) = ((0 : Int32)) then ((r111 (Int32.ofInt 1) (zmS M 0 (Int32.ofInt 0)))) else (zmS M 0 (Int32.ofInt 0))
theorem f_180 {x1 : Int32} (hX : zUX kq X M.2.2) : zpM xs N 180 [.ref 44, .int x1] (zy S0 M X) nc ns (zOq (.inl (some (.int (v180 x1 M)))) (zy S0 (r180 x1 M) X)) := by
  intro L0 e
  cases e
  refine zpE_run 6 (L' := [some (.ref 44), some (.int x1)]) (st' := [.int (Int32.ofInt 1), .int (Int32.ofInt 0), .int x1]) (h' := zy S0 (zmS M 0 (Int32.ofInt 0)) X) rfl ?_
  refine zpE_call rfl rfl (f_112 (M := zmS M 0 (Int32.ofInt 0)) (x1 := x1) (x2 := Int32.ofInt 0) (x3 := Int32.ofInt 1) hX) (fun v h1 nc1 ns1 q8 => ?_) (fun E h1 nc1 ns1 q8 => by cases q8.1)
  obtain ⟨q8, q9⟩ := q8
  cases q8
  cases q9
  refine zpE_if rfl (fun q11 => ?_) (fun q11 => ?_)
  · have z11_0 := zF_n1 q11
    refine zpE_run 2 (L' := [some (.ref 44), some (.int x1)]) (st' := [.int x1, .ref 44]) rfl ?_
    refine zpE_call rfl rfl (f_179 (M := zmS M 0 (Int32.ofInt 0)) (x1 := x1) hX) (fun v h1 nc1 ns1 q8 => ?_) (fun E h1 nc1 ns1 q8 => by cases q8.1)
    obtain ⟨q8, q9⟩ := q8
    cases q8
    cases q9
    exact zpE_end rfl rfl (zOr_w (M' := zmS M 0 (Int32.ofInt 0)) (by unfold v180; rw [if_neg z11_0]) (by unfold r180; rw [if_neg z11_0]))
  · have z11_0 := zF_n0 q11
    refine zpE_run 2 (L' := [some (.ref 44), some (.int x1)]) (st' := [.int (Int32.ofInt 1), .ref 44]) rfl ?_
    refine zpE_call rfl rfl (f_111 (M := zmS M 0 (Int32.ofInt 0)) (x1 := Int32.ofInt 1) hX) (fun v h1 nc1 ns1 q8 => ?_) (fun E h1 nc1 ns1 q8 => by cases q8.1)
    obtain ⟨q8, q9⟩ := q8
    cases q8
    cases q9
    obtain ⟨Z1, hZ1⟩ : ∃ Z, Z = r111 (Int32.ofInt 1) (zmS M 0 (Int32.ofInt 0)) := ⟨_, rfl⟩
    rw [← hZ1]
    have hY1 : zUX kq X Z1.2.2 := by
      rw [hZ1, rl_111]
      exact hX
    exact zpE_end rfl rfl (zOr_w (M' := Z1) (by unfold v180; (try rw [← hZ1]); rw [if_pos z11_0]) (by unfold r180; (try rw [← hZ1]); rw [if_pos z11_0]))
theorem gr_180 {x1 : Int32} : zfrM [0] [] [] (r180 x1 M) M := by
  unfold r180
  exact (gm_ite (gm_c gr_111 (gm_c gm_S gm_rf (by decide) (by decide) (by decide)) (by decide) (by decide) (by decide)) (gm_c gm_S gm_rf (by decide) (by decide) (by decide)))
theorem rl_180 {x1 : Int32} : (r180 x1 M).2.2 = M.2.2 := gm_l gr_180
end ZRE
