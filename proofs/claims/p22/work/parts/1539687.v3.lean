/-! The reference's weight of any number, and Math.min. -/
section ZWG
variable {xs : List Int32} {N : Nat} {h : zH} {nc ns : Nat}
def zwg : Nat → Int32 → Int32 → Int32
  | 0, a, _ => a
  | f + 1, a, n => if n.toInt ≤ (0 : Int32).toInt then a else zwg f (a + zrmd n (Int32.ofInt 2)) (zqtd n (Int32.ofInt 2))
theorem zwg_0 {n a : Int32} (hn : n.toInt ≤ (0 : Int32).toInt) : ∀ f, zwg f a n = a
  | 0 => rfl
  | _ + 1 => if_pos hn
theorem zq2 {n : Int32} : (zqtd n (Int32.ofInt 2)).toInt = n.toInt.tdiv 2 := by
  show (n / Int32.ofInt 2).toInt = _
  rw [Int32.toInt_div_of_ne_right _ _ (by decide), show (Int32.ofInt 2).toInt = 2 by decide]
theorem lg_114 {s : Int32} : ∀ (N f : Nat) (n a : Int32) (nc ns : Nat), n.toInt < 2 ^ f → zpE xs N 114 4 [some (.int s), some (.int a), some (.int n)] [] h nc ns (zOq (.inl (some (.int (zwg f a n)))) h)
  | 0, _, _, _, _, _, _ => zpE_0
  | N + 1, f, n, a, nc, ns, hn => by
    refine zpE_run1 0 (L' := [some (.int s), some (.int a), some (.int n)]) (st' := [.int n]) rfl ?_
    refine zpE_if rfl (fun q => ?_) (fun q => ?_)
    · have z := zF_le_t q
      rw [zwg_0 z]
      refine zpE_run 1 (L' := [some (.int s), some (.int a), some (.int n)]) (st' := [.int a]) rfl ?_
      exact zpE_end rfl rfl (zOq_v rfl)
    · have z := zF_le_f q
      rw [show (0 : Int32).toInt = 0 by decide] at z
      cases f with
      | zero => exact absurd hn (by simp; omega)
      | succ f =>
        have e : zwg (f + 1) a n = zwg f (a + zrmd n (Int32.ofInt 2)) (zqtd n (Int32.ofInt 2)) := if_neg (by rw [show (0 : Int32).toInt = 0 by decide]; omega)
        rw [e]
        refine zpE_run 3 (L' := [some (.int s), some (.int a), some (.int n)]) (st' := [.int (Int32.ofInt 2), .int n, .int a]) rfl ?_
        refine zpE_irem rfl (fun _ => ?_)
        refine zpE_run 4 (L' := [some (.int s), some (.int (a + zrmd n (Int32.ofInt 2))), some (.int n)]) (st' := [.int (Int32.ofInt 2), .int n]) rfl ?_
        refine zpE_idiv rfl (fun _ => ?_)
        refine zpE_run 2 (L' := [some (.int s), some (.int (a + zrmd n (Int32.ofInt 2))), some (.int (zqtd n (Int32.ofInt 2)))]) (st' := []) rfl ?_
        refine lg_114 N f _ _ _ _ ?_
        rw [zq2, Int.tdiv_eq_ediv_of_nonneg (by omega)]
        rw [Int.pow_succ] at hn
        omega
theorem g_wg {x : Int32} : zpM xs N 114 [.int x] h nc ns (zOq (.inl (some (.int (zwg 31 (Int32.ofInt 0) x)))) h) := by
  intro L0 e
  cases e
  refine zpE_run 4 (L' := [some (.int x), some (.int (Int32.ofInt 0)), some (.int x)]) (st' := []) rfl ?_
  exact lg_114 N 31 x (Int32.ofInt 0) _ _ (Int32.toInt_lt x)
end ZWG
set_option maxRecDepth 20000
section ZRE
variable {S0 : zSt} {M : zRt} {X : zXt} {kq : Nat × Nat × List Value} {xs : List Int32} {N : Nat} {nc ns : Nat}
def v166 (x1 : Int32) (x2 : Int32) (M : zRt) : Int32 := if (zqtd (zgt ((M.2.2.1 2).getD (Int32.toNatClampNeg x1) []) (Int32.ofInt 0)) (Int32.ofInt 64)) = x2 then (if (zgt ((M.2.2.1 2).getD (Int32.toNatClampNeg x1) []) (Int32.ofInt 1)) = (Int32.ofInt (-1)) then ((Int32.ofInt 0)) else ((Int32.ofInt 1))) else ((Int32.ofInt 0))
theorem f_166 {x1 x2 : Int32} (hX : zUX kq X M.2.2) (n0 : ¬ x1 < 0 ∧ x1.toNatClampNeg < (M.2.2.1 2).length) : zpM xs N 166 [.ref 44, .int x1, .int x2] (zy S0 M X) nc ns (zOq (.inl (some (.int (v166 x1 x2 M)))) (zy S0 M X)) := by
  intro L0 e
  cases e
  refine zpE_run 3 (L' := [some (.ref 44), some (.int x1), some (.int x2)]) (st' := [.int x1, .ref (X.1 2)]) rfl ?_
  have n1 : ¬ x1 < 0 ∧ (Int32.toNatClampNeg x1) < (M.2.2.1 2).length := n0
  obtain ⟨vs2, lc2⟩ := zUX_lc (S0 := S0) (M := M) (i := 2) (by decide) hX
  refine zpE_call rfl (show zcallV 1 10 239 10 (.int x1 :: .ref (X.1 2) :: _) (zy S0 M X) = _ from zcallV_eq rfl lc2 (Nat.le_of_ble_eq_true rfl)) (zul_239 (i := 2) (j := x1) (by decide) hX n1) (fun v h1 nc1 ns1 q8 => ?_) (fun E h1 nc1 ns1 q8 => by cases q8)
  cases q8
  refine zpE_chk rfl (zUX_e hX n1) ?_
  refine zpE_run 1 (L' := [some (.ref 44), some (.int x1), some (.int x2)]) (st' := [.int (Int32.ofInt 0), .ref (zel X 2 x1)]) rfl ?_
  refine zpE_aly rfl (zUX_e hX n1) (fun _ _ => ?_)
  refine zpE_gen (fun nc ns => ?_)
  refine zpE_run 1 (L' := [some (.ref 44), some (.int x1), some (.int x2)]) (st' := [.int (Int32.ofInt 64), .int (zgt ((M.2.2.1 2).getD (Int32.toNatClampNeg x1) []) (Int32.ofInt 0))]) rfl ?_
  refine zpE_idiv rfl (fun _ => ?_)
  refine zpE_run 1 (L' := [some (.ref 44), some (.int x1), some (.int x2)]) (st' := [.int x2, .int (zqtd (zgt ((M.2.2.1 2).getD (Int32.toNatClampNeg x1) []) (Int32.ofInt 0)) (Int32.ofInt 64))]) rfl ?_
  refine zpE_icmp rfl (fun q19 => ?_) (fun q19 => ?_)
  · have z19_0 := zF_n1 q19
    refine zpE_run 1 (L' := [some (.ref 44), some (.int x1), some (.int x2)]) (st' := [.int (Int32.ofInt 0)]) rfl ?_
    exact zpE_end rfl rfl (zOq_v (by unfold v166; rw [if_neg z19_0]))
  · have z19_0 := zF_n0 q19
    refine zpE_run 3 (L' := [some (.ref 44), some (.int x1), some (.int x2)]) (st' := [.int x1, .ref (X.1 2)]) rfl ?_
    have n3 : ¬ x1 < 0 ∧ (Int32.toNatClampNeg x1) < (M.2.2.1 2).length := n0
    obtain ⟨vs4, lc4⟩ := zUX_lc (S0 := S0) (M := M) (i := 2) (by decide) hX
    refine zpE_call rfl (show zcallV 1 10 239 32 (.int x1 :: .ref (X.1 2) :: _) (zy S0 M X) = _ from zcallV_eq rfl lc4 (Nat.le_of_ble_eq_true rfl)) (zul_239 (i := 2) (j := x1) (by decide) hX n3) (fun v h1 nc1 ns1 q8 => ?_) (fun E h1 nc1 ns1 q8 => by cases q8)
    cases q8
    refine zpE_chk rfl (zUX_e hX n3) ?_
    refine zpE_run 1 (L' := [some (.ref 44), some (.int x1), some (.int x2)]) (st' := [.int (Int32.ofInt 1), .ref (zel X 2 x1)]) rfl ?_
    refine zpE_aly rfl (zUX_e hX n3) (fun _ _ => ?_)
    refine zpE_gen (fun nc ns => ?_)
    refine zpE_run 1 (L' := [some (.ref 44), some (.int x1), some (.int x2)]) (st' := [.int (Int32.ofInt (-1)), .int (zgt ((M.2.2.1 2).getD (Int32.toNatClampNeg x1) []) (Int32.ofInt 1))]) rfl ?_
    refine zpE_icmp rfl (fun q38 => ?_) (fun q38 => ?_)
    · have z38_1 := zF_e1 q38
      refine zpE_run 1 (L' := [some (.ref 44), some (.int x1), some (.int x2)]) (st' := [.int (Int32.ofInt 0)]) rfl ?_
      exact zpE_end rfl rfl (zOq_v (by unfold v166; rw [if_pos z19_0, if_pos z38_1]))
    · have z38_1 := zF_e0 q38
      refine zpE_run 2 (L' := [some (.ref 44), some (.int x1), some (.int x2)]) (st' := [.int (Int32.ofInt 1)]) rfl ?_
      exact zpE_end rfl rfl (zOq_v (by unfold v166; rw [if_pos z19_0, if_neg z38_1]))
def d167 (x1 : Int32) (x2 : Int32) (x3 : Int32) (x4 : Int32) (M : zRt) (k : Nat) (u : Int32) : Int32 := if (v166 ((Int32.ofNat k)) x1 M) = ((0 : Int32)) then u else (if x2 = (Int32.ofInt 1) then (if (zgt ((M.2.2.1 2).getD (Int32.toNatClampNeg ((Int32.ofNat k))) []) (Int32.ofInt 1)) = x3 then (if x4 = ((0 : Int32)) then (u ||| ((Int32.ofInt 1) <<< ((zrmd (zgt ((M.2.2.1 2).getD (Int32.toNatClampNeg ((Int32.ofNat k))) []) (Int32.ofInt 0)) (Int32.ofInt 8)) &&& 31))) else (u ||| ((Int32.ofInt 1) <<< ((zrmd (zqtd (zgt ((M.2.2.1 2).getD (Int32.toNatClampNeg ((Int32.ofNat k))) []) (Int32.ofInt 0)) (Int32.ofInt 8)) (Int32.ofInt 8)) &&& 31)))) else u) else (if x2 = (Int32.ofInt 2) then (if (zrmd (zqtd (zgt ((M.2.2.1 2).getD (Int32.toNatClampNeg ((Int32.ofNat k))) []) (Int32.ofInt 0)) (Int32.ofInt 8)) (Int32.ofInt 8)) = x3 then (if x4 = ((0 : Int32)) then (u ||| ((Int32.ofInt 1) <<< ((zrmd (zgt ((M.2.2.1 2).getD (Int32.toNatClampNeg ((Int32.ofNat k))) []) (Int32.ofInt 0)) (Int32.ofInt 8)) &&& 31))) else (u ||| ((Int32.ofInt 1) <<< ((zrmd (zqtd (zgt ((M.2.2.1 2).getD (Int32.toNatClampNeg ((Int32.ofNat k))) []) (Int32.ofInt 0)) (Int32.ofInt 8)) (Int32.ofInt 8)) &&& 31)))) else u) else (if (zrmd (zgt ((M.2.2.1 2).getD (Int32.toNatClampNeg ((Int32.ofNat k))) []) (Int32.ofInt 0)) (Int32.ofInt 8)) = x3 then (if x4 = ((0 : Int32)) then (u ||| ((Int32.ofInt 1) <<< ((zrmd (zgt ((M.2.2.1 2).getD (Int32.toNatClampNeg ((Int32.ofNat k))) []) (Int32.ofInt 0)) (Int32.ofInt 8)) &&& 31))) else (u ||| ((Int32.ofInt 1) <<< ((zrmd (zqtd (zgt ((M.2.2.1 2).getD (Int32.toNatClampNeg ((Int32.ofNat k))) []) (Int32.ofInt 0)) (Int32.ofInt 8)) (Int32.ofInt 8)) &&& 31)))) else u)))
def w167 (x1 : Int32) (x2 : Int32) (x3 : Int32) (x4 : Int32) (M : zRt) (u0 : Int32) : Nat → Int32
  | 0 => u0
  | k + 1 => d167 x1 x2 x3 x4 M k (w167 x1 x2 x3 x4 M u0 k)
def y167 (x1 : Int32) (x2 : Int32) (x3 : Int32) (x4 : Int32) (M : zRt) (u : Int32) : Int32 := (zwg 31 (Int32.ofInt 0) u)
theorem l_r167 {x1 x2 x3 x4 : Int32} {u0 : Int32} (hX : zUX kq X M.2.2) : ∀ (N k : Nat) (o7 : Option Value) (o8 : Option Value) (nc ns : Nat), k ≤ (Int32.ofNat (M.2.2.1 2).length).toInt.toNat → zpE xs N 167 6 [some (.ref 44), some (.int x1), some (.int x2), some (.int x3), some (.int x4), some (.int ((w167 x1 x2 x3 x4 M u0 k))), some (.int (Int32.ofNat k)), o7, o8] [] (zy S0 M X) nc ns (zOq (.inl (some (.int (y167 x1 x2 x3 x4 M (w167 x1 x2 x3 x4 M u0 (Int32.ofNat (M.2.2.1 2).length).toInt.toNat))))) (zy S0 M X))
  | 0, _, _, _, _, _, _ => zpE_0
  | N + 1, k, o7, o8, nc, ns, hk => by
    refine zpE_run1 2 (L' := [some (.ref 44), some (.int x1), some (.int x2), some (.int x3), some (.int x4), some (.int ((w167 x1 x2 x3 x4 M u0 k))), some (.int (Int32.ofNat k)), o7, o8]) (st' := [.ref (X.1 2), .int (Int32.ofNat k)]) rfl ?_
    obtain ⟨vs1, lc1⟩ := zUX_lc (S0 := S0) (M := M) (i := 2) (by decide) hX
    refine zpE_call rfl (show zcallV 0 10 243 17 (.ref (X.1 2) :: _) (zy S0 M X) = _ from zcallV_eq rfl lc1 (Nat.le_of_ble_eq_true rfl)) (zul_243 (i := 2) (by decide) hX) (fun v h1 nc1 ns1 q8 => ?_) (fun E h1 nc1 ns1 q8 => by cases q8)
    cases q8
    refine zpE_icmp rfl (fun q17 => ?_) (fun q17 => ?_)
    · have z17_0 := Int.not_lt.mpr (zF_ge_t q17)
      refine zpE_run 1 (L' := [some (.ref 44), some (.int x1), some (.int x2), some (.int x3), some (.int x4), some (.int ((w167 x1 x2 x3 x4 M u0 k))), some (.int (Int32.ofNat k)), o7, o8]) (st' := [.int ((w167 x1 x2 x3 x4 M u0 k))]) rfl ?_
      refine zpE_call rfl rfl (g_wg (x := (w167 x1 x2 x3 x4 M u0 k))) (fun v h1 nc1 ns1 q8 => ?_) (fun E h1 nc1 ns1 q8 => by cases q8.1)
      obtain ⟨q8, q9⟩ := q8
      cases q8
      cases q9
      exact zpE_end rfl rfl (by rw [← zlp_out z17_0 hk]; exact zOq_v (by unfold y167; (first | done | rfl)))
    · have z17_0 := zF_ge_f q17
      refine zpE_run 3 (L' := [some (.ref 44), some (.int x1), some (.int x2), some (.int x3), some (.int x4), some (.int ((w167 x1 x2 x3 x4 M u0 k))), some (.int (Int32.ofNat k)), o7, o8]) (st' := [.int x1, .int (Int32.ofNat k), .ref 44]) rfl ?_
      refine zpE_call rfl rfl (f_166 (M := M) (x1 := Int32.ofNat k) (x2 := x1) hX (zlp_rg (n := 3) (i := 2) (by decide) hX (by assumption) hk)) (fun v h1 nc1 ns1 q8 => ?_) (fun E h1 nc1 ns1 q8 => by cases q8.1)
      obtain ⟨q8, q9⟩ := q8
      cases q8
      cases q9
      refine zpE_if rfl (fun q27 => ?_) (fun q27 => ?_)
      · have z27_1 := zF_n1 q27
        refine zpE_run 3 (L' := [some (.ref 44), some (.int x1), some (.int x2), some (.int x3), some (.int x4), some (.int ((w167 x1 x2 x3 x4 M u0 k))), some (.int (Int32.ofNat k)), o7, o8]) (st' := [.int (Int32.ofNat k), .ref (X.1 2)]) rfl ?_
        have n2 : ¬ (Int32.ofNat k) < 0 ∧ (Int32.toNatClampNeg (Int32.ofNat k)) < (M.2.2.1 2).length := zlp_rg (i := 2) (by decide) hX z17_0 hk
        obtain ⟨vs3, lc3⟩ := zUX_lc (S0 := S0) (M := M) (i := 2) (by decide) hX
        refine zpE_call rfl (show zcallV 1 10 239 44 (.int (Int32.ofNat k) :: .ref (X.1 2) :: _) (zy S0 M X) = _ from zcallV_eq rfl lc3 (Nat.le_of_ble_eq_true rfl)) (zul_239 (i := 2) (j := Int32.ofNat k) (by decide) hX n2) (fun v h1 nc1 ns1 q8 => ?_) (fun E h1 nc1 ns1 q8 => by cases q8)
        cases q8
        refine zpE_chk rfl (zUX_e hX n2) ?_
        refine zpE_run 1 (L' := [some (.ref 44), some (.int x1), some (.int x2), some (.int x3), some (.int x4), some (.int ((w167 x1 x2 x3 x4 M u0 k))), some (.int (Int32.ofNat k)), o7, o8]) (st' := [.int (Int32.ofInt 0), .ref (zel X 2 (Int32.ofNat k))]) rfl ?_
        refine zpE_aly rfl (zUX_e hX n2) (fun _ _ => ?_)
        refine zpE_gen (fun nc ns => ?_)
        refine zpE_run 3 (L' := [some (.ref 44), some (.int x1), some (.int x2), some (.int x3), some (.int x4), some (.int ((w167 x1 x2 x3 x4 M u0 k))), some (.int (Int32.ofNat k)), some (.int (zgt ((M.2.2.1 2).getD (Int32.toNatClampNeg (Int32.ofNat k)) []) (Int32.ofInt 0))), o8]) (st' := [.int (Int32.ofInt 1), .int x2]) rfl ?_
        refine zpE_icmp rfl (fun q53 => ?_) (fun q53 => ?_)
        · have z53_2 := zF_n1 q53
          refine zpE_run 2 (L' := [some (.ref 44), some (.int x1), some (.int x2), some (.int x3), some (.int x4), some (.int ((w167 x1 x2 x3 x4 M u0 k))), some (.int (Int32.ofNat k)), some (.int (zgt ((M.2.2.1 2).getD (Int32.toNatClampNeg (Int32.ofNat k)) []) (Int32.ofInt 0))), o8]) (st' := [.int (Int32.ofInt 2), .int x2]) rfl ?_
          refine zpE_icmp rfl (fun q77 => ?_) (fun q77 => ?_)
          · have z77_3 := zF_n1 q77
            refine zpE_run 2 (L' := [some (.ref 44), some (.int x1), some (.int x2), some (.int x3), some (.int x4), some (.int ((w167 x1 x2 x3 x4 M u0 k))), some (.int (Int32.ofNat k)), some (.int (zgt ((M.2.2.1 2).getD (Int32.toNatClampNeg (Int32.ofNat k)) []) (Int32.ofInt 0))), o8]) (st' := [.int (Int32.ofInt 8), .int (zgt ((M.2.2.1 2).getD (Int32.toNatClampNeg (Int32.ofNat k)) []) (Int32.ofInt 0))]) rfl ?_
            refine zpE_irem rfl (fun _ => ?_)
            refine zpE_run 3 (L' := [some (.ref 44), some (.int x1), some (.int x2), some (.int x3), some (.int x4), some (.int ((w167 x1 x2 x3 x4 M u0 k))), some (.int (Int32.ofNat k)), some (.int (zgt ((M.2.2.1 2).getD (Int32.toNatClampNeg (Int32.ofNat k)) []) (Int32.ofInt 0))), some (.int (zrmd (zgt ((M.2.2.1 2).getD (Int32.toNatClampNeg (Int32.ofNat k)) []) (Int32.ofInt 0)) (Int32.ofInt 8)))]) (st' := [.int x3, .int (zrmd (zgt ((M.2.2.1 2).getD (Int32.toNatClampNeg (Int32.ofNat k)) []) (Int32.ofInt 0)) (Int32.ofInt 8))]) rfl ?_
            refine zpE_icmp rfl (fun q101 => ?_) (fun q101 => ?_)
            · have z101_4 := zF_n1 q101
              refine zpE_run 2 (L' := [some (.ref 44), some (.int x1), some (.int x2), some (.int x3), some (.int x4), some (.int ((w167 x1 x2 x3 x4 M u0 k))), some (.int ((Int32.ofNat k) + Int32.ofInt 1)), some (.int (zgt ((M.2.2.1 2).getD (Int32.toNatClampNeg (Int32.ofNat k)) []) (Int32.ofInt 0))), some (.int (zrmd (zgt ((M.2.2.1 2).getD (Int32.toNatClampNeg (Int32.ofNat k)) []) (Int32.ofInt 0)) (Int32.ofInt 8)))]) (st' := []) rfl ?_
              have eW : w167 x1 x2 x3 x4 M u0 (k + 1) = (w167 x1 x2 x3 x4 M u0 k) := by
                show d167 x1 x2 x3 x4 M k _ = _
                unfold d167
                rw [if_neg z27_1, if_neg z53_2, if_neg z77_3, if_neg z101_4]
              have K := fun o7 o8 nc ns => l_r167 (x1 := x1) (x2 := x2) (x3 := x3) (x4 := x4) (u0 := u0) hX N (k + 1) o7 o8 nc ns (zlp_in z17_0 hk)
              rw [← zof1, eW] at K
              exact K _ _ _ _
            · have z101_4 := zF_n0 q101
              refine zpE_run 3 (L' := [some (.ref 44), some (.int x1), some (.int x2), some (.int x3), some (.int x4), some (.int ((w167 x1 x2 x3 x4 M u0 k))), some (.int (Int32.ofNat k)), some (.int (zgt ((M.2.2.1 2).getD (Int32.toNatClampNeg (Int32.ofNat k)) []) (Int32.ofInt 0))), some (.int (zrmd (zgt ((M.2.2.1 2).getD (Int32.toNatClampNeg (Int32.ofNat k)) []) (Int32.ofInt 0)) (Int32.ofInt 8)))]) (st' := [.int x4, .int (Int32.ofInt 1), .int ((w167 x1 x2 x3 x4 M u0 k))]) rfl ?_
              refine zpE_if rfl (fun q109 => ?_) (fun q109 => ?_)
              · have z109_5 := zF_e1 q109
                refine zpE_run 2 (L' := [some (.ref 44), some (.int x1), some (.int x2), some (.int x3), some (.int x4), some (.int ((w167 x1 x2 x3 x4 M u0 k))), some (.int (Int32.ofNat k)), some (.int (zgt ((M.2.2.1 2).getD (Int32.toNatClampNeg (Int32.ofNat k)) []) (Int32.ofInt 0))), some (.int (zrmd (zgt ((M.2.2.1 2).getD (Int32.toNatClampNeg (Int32.ofNat k)) []) (Int32.ofInt 0)) (Int32.ofInt 8)))]) (st' := [.int (Int32.ofInt 8), .int (zgt ((M.2.2.1 2).getD (Int32.toNatClampNeg (Int32.ofNat k)) []) (Int32.ofInt 0)), .int (Int32.ofInt 1), .int ((w167 x1 x2 x3 x4 M u0 k))]) rfl ?_
                refine zpE_irem rfl (fun _ => ?_)
                refine zpE_run 5 (L' := [some (.ref 44), some (.int x1), some (.int x2), some (.int x3), some (.int x4), some (.int (((w167 x1 x2 x3 x4 M u0 k)) ||| ((Int32.ofInt 1) <<< ((zrmd (zgt ((M.2.2.1 2).getD (Int32.toNatClampNeg (Int32.ofNat k)) []) (Int32.ofInt 0)) (Int32.ofInt 8)) &&& 31)))), some (.int ((Int32.ofNat k) + Int32.ofInt 1)), some (.int (zgt ((M.2.2.1 2).getD (Int32.toNatClampNeg (Int32.ofNat k)) []) (Int32.ofInt 0))), some (.int (zrmd (zgt ((M.2.2.1 2).getD (Int32.toNatClampNeg (Int32.ofNat k)) []) (Int32.ofInt 0)) (Int32.ofInt 8)))]) (st' := []) rfl ?_
                have eW : w167 x1 x2 x3 x4 M u0 (k + 1) = ((w167 x1 x2 x3 x4 M u0 k)) ||| ((Int32.ofInt 1) <<< ((zrmd (zgt ((M.2.2.1 2).getD (Int32.toNatClampNeg (Int32.ofNat k)) []) (Int32.ofInt 0)) (Int32.ofInt 8)) &&& 31)) := by
                  show d167 x1 x2 x3 x4 M k _ = _
                  unfold d167
                  rw [if_neg z27_1, if_neg z53_2, if_neg z77_3, if_pos z101_4, if_pos z109_5]
                have K := fun o7 o8 nc ns => l_r167 (x1 := x1) (x2 := x2) (x3 := x3) (x4 := x4) (u0 := u0) hX N (k + 1) o7 o8 nc ns (zlp_in z17_0 hk)
                rw [← zof1, eW] at K
                exact K _ _ _ _
              · have z109_5 := zF_e0 q109
                refine zpE_run 2 (L' := [some (.ref 44), some (.int x1), some (.int x2), some (.int x3), some (.int x4), some (.int ((w167 x1 x2 x3 x4 M u0 k))), some (.int (Int32.ofNat k)), some (.int (zgt ((M.2.2.1 2).getD (Int32.toNatClampNeg (Int32.ofNat k)) []) (Int32.ofInt 0))), some (.int (zrmd (zgt ((M.2.2.1 2).getD (Int32.toNatClampNeg (Int32.ofNat k)) []) (Int32.ofInt 0)) (Int32.ofInt 8)))]) (st' := [.int (Int32.ofInt 8), .int (zgt ((M.2.2.1 2).getD (Int32.toNatClampNeg (Int32.ofNat k)) []) (Int32.ofInt 0)), .int (Int32.ofInt 1), .int ((w167 x1 x2 x3 x4 M u0 k))]) rfl ?_
                refine zpE_idiv rfl (fun _ => ?_)
                refine zpE_run 1 (L' := [some (.ref 44), some (.int x1), some (.int x2), some (.int x3), some (.int x4), some (.int ((w167 x1 x2 x3 x4 M u0 k))), some (.int (Int32.ofNat k)), some (.int (zgt ((M.2.2.1 2).getD (Int32.toNatClampNeg (Int32.ofNat k)) []) (Int32.ofInt 0))), some (.int (zrmd (zgt ((M.2.2.1 2).getD (Int32.toNatClampNeg (Int32.ofNat k)) []) (Int32.ofInt 0)) (Int32.ofInt 8)))]) (st' := [.int (Int32.ofInt 8), .int (zqtd (zgt ((M.2.2.1 2).getD (Int32.toNatClampNeg (Int32.ofNat k)) []) (Int32.ofInt 0)) (Int32.ofInt 8)), .int (Int32.ofInt 1), .int ((w167 x1 x2 x3 x4 M u0 k))]) rfl ?_
                refine zpE_irem rfl (fun _ => ?_)
                refine zpE_run 6 (L' := [some (.ref 44), some (.int x1), some (.int x2), some (.int x3), some (.int x4), some (.int (((w167 x1 x2 x3 x4 M u0 k)) ||| ((Int32.ofInt 1) <<< ((zrmd (zqtd (zgt ((M.2.2.1 2).getD (Int32.toNatClampNeg (Int32.ofNat k)) []) (Int32.ofInt 0)) (Int32.ofInt 8)) (Int32.ofInt 8)) &&& 31)))), some (.int ((Int32.ofNat k) + Int32.ofInt 1)), some (.int (zgt ((M.2.2.1 2).getD (Int32.toNatClampNeg (Int32.ofNat k)) []) (Int32.ofInt 0))), some (.int (zrmd (zgt ((M.2.2.1 2).getD (Int32.toNatClampNeg (Int32.ofNat k)) []) (Int32.ofInt 0)) (Int32.ofInt 8)))]) (st' := []) rfl ?_
                have eW : w167 x1 x2 x3 x4 M u0 (k + 1) = ((w167 x1 x2 x3 x4 M u0 k)) ||| ((Int32.ofInt 1) <<< ((zrmd (zqtd (zgt ((M.2.2.1 2).getD (Int32.toNatClampNeg (Int32.ofNat k)) []) (Int32.ofInt 0)) (Int32.ofInt 8)) (Int32.ofInt 8)) &&& 31)) := by
                  show d167 x1 x2 x3 x4 M k _ = _
                  unfold d167
                  rw [if_neg z27_1, if_neg z53_2, if_neg z77_3, if_pos z101_4, if_neg z109_5]
                have K := fun o7 o8 nc ns => l_r167 (x1 := x1) (x2 := x2) (x3 := x3) (x4 := x4) (u0 := u0) hX N (k + 1) o7 o8 nc ns (zlp_in z17_0 hk)
                rw [← zof1, eW] at K
                exact K _ _ _ _
          · have z77_3 := zF_n0 q77
            refine zpE_run 2 (L' := [some (.ref 44), some (.int x1), some (.int x2), some (.int x3), some (.int x4), some (.int ((w167 x1 x2 x3 x4 M u0 k))), some (.int (Int32.ofNat k)), some (.int (zgt ((M.2.2.1 2).getD (Int32.toNatClampNeg (Int32.ofNat k)) []) (Int32.ofInt 0))), o8]) (st' := [.int (Int32.ofInt 8), .int (zgt ((M.2.2.1 2).getD (Int32.toNatClampNeg (Int32.ofNat k)) []) (Int32.ofInt 0))]) rfl ?_
            refine zpE_idiv rfl (fun _ => ?_)
            refine zpE_run 1 (L' := [some (.ref 44), some (.int x1), some (.int x2), some (.int x3), some (.int x4), some (.int ((w167 x1 x2 x3 x4 M u0 k))), some (.int (Int32.ofNat k)), some (.int (zgt ((M.2.2.1 2).getD (Int32.toNatClampNeg (Int32.ofNat k)) []) (Int32.ofInt 0))), o8]) (st' := [.int (Int32.ofInt 8), .int (zqtd (zgt ((M.2.2.1 2).getD (Int32.toNatClampNeg (Int32.ofNat k)) []) (Int32.ofInt 0)) (Int32.ofInt 8))]) rfl ?_
            refine zpE_irem rfl (fun _ => ?_)
            refine zpE_run 4 (L' := [some (.ref 44), some (.int x1), some (.int x2), some (.int x3), some (.int x4), some (.int ((w167 x1 x2 x3 x4 M u0 k))), some (.int (Int32.ofNat k)), some (.int (zgt ((M.2.2.1 2).getD (Int32.toNatClampNeg (Int32.ofNat k)) []) (Int32.ofInt 0))), some (.int (zrmd (zqtd (zgt ((M.2.2.1 2).getD (Int32.toNatClampNeg (Int32.ofNat k)) []) (Int32.ofInt 0)) (Int32.ofInt 8)) (Int32.ofInt 8)))]) (st' := [.int x3, .int (zrmd (zqtd (zgt ((M.2.2.1 2).getD (Int32.toNatClampNeg (Int32.ofNat k)) []) (Int32.ofInt 0)) (Int32.ofInt 8)) (Int32.ofInt 8))]) rfl ?_
            refine zpE_icmp rfl (fun q101 => ?_) (fun q101 => ?_)
            · have z101_4 := zF_n1 q101
              refine zpE_run 2 (L' := [some (.ref 44), some (.int x1), some (.int x2), some (.int x3), some (.int x4), some (.int ((w167 x1 x2 x3 x4 M u0 k))), some (.int ((Int32.ofNat k) + Int32.ofInt 1)), some (.int (zgt ((M.2.2.1 2).getD (Int32.toNatClampNeg (Int32.ofNat k)) []) (Int32.ofInt 0))), some (.int (zrmd (zqtd (zgt ((M.2.2.1 2).getD (Int32.toNatClampNeg (Int32.ofNat k)) []) (Int32.ofInt 0)) (Int32.ofInt 8)) (Int32.ofInt 8)))]) (st' := []) rfl ?_
              have eW : w167 x1 x2 x3 x4 M u0 (k + 1) = (w167 x1 x2 x3 x4 M u0 k) := by
                show d167 x1 x2 x3 x4 M k _ = _
                unfold d167
                rw [if_neg z27_1, if_neg z53_2, if_pos z77_3, if_neg z101_4]
              have K := fun o7 o8 nc ns => l_r167 (x1 := x1) (x2 := x2) (x3 := x3) (x4 := x4) (u0 := u0) hX N (k + 1) o7 o8 nc ns (zlp_in z17_0 hk)
              rw [← zof1, eW] at K
              exact K _ _ _ _
            · have z101_4 := zF_n0 q101
              refine zpE_run 3 (L' := [some (.ref 44), some (.int x1), some (.int x2), some (.int x3), some (.int x4), some (.int ((w167 x1 x2 x3 x4 M u0 k))), some (.int (Int32.ofNat k)), some (.int (zgt ((M.2.2.1 2).getD (Int32.toNatClampNeg (Int32.ofNat k)) []) (Int32.ofInt 0))), some (.int (zrmd (zqtd (zgt ((M.2.2.1 2).getD (Int32.toNatClampNeg (Int32.ofNat k)) []) (Int32.ofInt 0)) (Int32.ofInt 8)) (Int32.ofInt 8)))]) (st' := [.int x4, .int (Int32.ofInt 1), .int ((w167 x1 x2 x3 x4 M u0 k))]) rfl ?_
              refine zpE_if rfl (fun q109 => ?_) (fun q109 => ?_)
              · have z109_5 := zF_e1 q109
                refine zpE_run 2 (L' := [some (.ref 44), some (.int x1), some (.int x2), some (.int x3), some (.int x4), some (.int ((w167 x1 x2 x3 x4 M u0 k))), some (.int (Int32.ofNat k)), some (.int (zgt ((M.2.2.1 2).getD (Int32.toNatClampNeg (Int32.ofNat k)) []) (Int32.ofInt 0))), some (.int (zrmd (zqtd (zgt ((M.2.2.1 2).getD (Int32.toNatClampNeg (Int32.ofNat k)) []) (Int32.ofInt 0)) (Int32.ofInt 8)) (Int32.ofInt 8)))]) (st' := [.int (Int32.ofInt 8), .int (zgt ((M.2.2.1 2).getD (Int32.toNatClampNeg (Int32.ofNat k)) []) (Int32.ofInt 0)), .int (Int32.ofInt 1), .int ((w167 x1 x2 x3 x4 M u0 k))]) rfl ?_
                refine zpE_irem rfl (fun _ => ?_)
                refine zpE_run 5 (L' := [some (.ref 44), some (.int x1), some (.int x2), some (.int x3), some (.int x4), some (.int (((w167 x1 x2 x3 x4 M u0 k)) ||| ((Int32.ofInt 1) <<< ((zrmd (zgt ((M.2.2.1 2).getD (Int32.toNatClampNeg (Int32.ofNat k)) []) (Int32.ofInt 0)) (Int32.ofInt 8)) &&& 31)))), some (.int ((Int32.ofNat k) + Int32.ofInt 1)), some (.int (zgt ((M.2.2.1 2).getD (Int32.toNatClampNeg (Int32.ofNat k)) []) (Int32.ofInt 0))), some (.int (zrmd (zqtd (zgt ((M.2.2.1 2).getD (Int32.toNatClampNeg (Int32.ofNat k)) []) (Int32.ofInt 0)) (Int32.ofInt 8)) (Int32.ofInt 8)))]) (st' := []) rfl ?_
                have eW : w167 x1 x2 x3 x4 M u0 (k + 1) = ((w167 x1 x2 x3 x4 M u0 k)) ||| ((Int32.ofInt 1) <<< ((zrmd (zgt ((M.2.2.1 2).getD (Int32.toNatClampNeg (Int32.ofNat k)) []) (Int32.ofInt 0)) (Int32.ofInt 8)) &&& 31)) := by
                  show d167 x1 x2 x3 x4 M k _ = _
                  unfold d167
                  rw [if_neg z27_1, if_neg z53_2, if_pos z77_3, if_pos z101_4, if_pos z109_5]
                have K := fun o7 o8 nc ns => l_r167 (x1 := x1) (x2 := x2) (x3 := x3) (x4 := x4) (u0 := u0) hX N (k + 1) o7 o8 nc ns (zlp_in z17_0 hk)
                rw [← zof1, eW] at K
                exact K _ _ _ _
              · have z109_5 := zF_e0 q109
                refine zpE_run 2 (L' := [some (.ref 44), some (.int x1), some (.int x2), some (.int x3), some (.int x4), some (.int ((w167 x1 x2 x3 x4 M u0 k))), some (.int (Int32.ofNat k)), some (.int (zgt ((M.2.2.1 2).getD (Int32.toNatClampNeg (Int32.ofNat k)) []) (Int32.ofInt 0))), some (.int (zrmd (zqtd (zgt ((M.2.2.1 2).getD (Int32.toNatClampNeg (Int32.ofNat k)) []) (Int32.ofInt 0)) (Int32.ofInt 8)) (Int32.ofInt 8)))]) (st' := [.int (Int32.ofInt 8), .int (zgt ((M.2.2.1 2).getD (Int32.toNatClampNeg (Int32.ofNat k)) []) (Int32.ofInt 0)), .int (Int32.ofInt 1), .int ((w167 x1 x2 x3 x4 M u0 k))]) rfl ?_
                refine zpE_idiv rfl (fun _ => ?_)
                refine zpE_run 1 (L' := [some (.ref 44), some (.int x1), some (.int x2), some (.int x3), some (.int x4), some (.int ((w167 x1 x2 x3 x4 M u0 k))), some (.int (Int32.ofNat k)), some (.int (zgt ((M.2.2.1 2).getD (Int32.toNatClampNeg (Int32.ofNat k)) []) (Int32.ofInt 0))), some (.int (zrmd (zqtd (zgt ((M.2.2.1 2).getD (Int32.toNatClampNeg (Int32.ofNat k)) []) (Int32.ofInt 0)) (Int32.ofInt 8)) (Int32.ofInt 8)))]) (st' := [.int (Int32.ofInt 8), .int (zqtd (zgt ((M.2.2.1 2).getD (Int32.toNatClampNeg (Int32.ofNat k)) []) (Int32.ofInt 0)) (Int32.ofInt 8)), .int (Int32.ofInt 1), .int ((w167 x1 x2 x3 x4 M u0 k))]) rfl ?_
                refine zpE_irem rfl (fun _ => ?_)
                refine zpE_run 6 (L' := [some (.ref 44), some (.int x1), some (.int x2), some (.int x3), some (.int x4), some (.int (((w167 x1 x2 x3 x4 M u0 k)) ||| ((Int32.ofInt 1) <<< ((zrmd (zqtd (zgt ((M.2.2.1 2).getD (Int32.toNatClampNeg (Int32.ofNat k)) []) (Int32.ofInt 0)) (Int32.ofInt 8)) (Int32.ofInt 8)) &&& 31)))), some (.int ((Int32.ofNat k) + Int32.ofInt 1)), some (.int (zgt ((M.2.2.1 2).getD (Int32.toNatClampNeg (Int32.ofNat k)) []) (Int32.ofInt 0))), some (.int (zrmd (zqtd (zgt ((M.2.2.1 2).getD (Int32.toNatClampNeg (Int32.ofNat k)) []) (Int32.ofInt 0)) (Int32.ofInt 8)) (Int32.ofInt 8)))]) (st' := []) rfl ?_
                have eW : w167 x1 x2 x3 x4 M u0 (k + 1) = ((w167 x1 x2 x3 x4 M u0 k)) ||| ((Int32.ofInt 1) <<< ((zrmd (zqtd (zgt ((M.2.2.1 2).getD (Int32.toNatClampNeg (Int32.ofNat k)) []) (Int32.ofInt 0)) (Int32.ofInt 8)) (Int32.ofInt 8)) &&& 31)) := by
                  show d167 x1 x2 x3 x4 M k _ = _
                  unfold d167
                  rw [if_neg z27_1, if_neg z53_2, if_pos z77_3, if_pos z101_4, if_neg z109_5]
                have K := fun o7 o8 nc ns => l_r167 (x1 := x1) (x2 := x2) (x3 := x3) (x4 := x4) (u0 := u0) hX N (k + 1) o7 o8 nc ns (zlp_in z17_0 hk)
                rw [← zof1, eW] at K
                exact K _ _ _ _
        · have z53_2 := zF_n0 q53
          refine zpE_run 3 (L' := [some (.ref 44), some (.int x1), some (.int x2), some (.int x3), some (.int x4), some (.int ((w167 x1 x2 x3 x4 M u0 k))), some (.int (Int32.ofNat k)), some (.int (zgt ((M.2.2.1 2).getD (Int32.toNatClampNeg (Int32.ofNat k)) []) (Int32.ofInt 0))), o8]) (st' := [.int (Int32.ofNat k), .ref (X.1 2)]) rfl ?_
          have n4 : ¬ (Int32.ofNat k) < 0 ∧ (Int32.toNatClampNeg (Int32.ofNat k)) < (M.2.2.1 2).length := zlp_rg (i := 2) (by decide) hX z17_0 hk
          obtain ⟨vs5, lc5⟩ := zUX_lc (S0 := S0) (M := M) (i := 2) (by decide) hX
          refine zpE_call rfl (show zcallV 1 10 239 67 (.int (Int32.ofNat k) :: .ref (X.1 2) :: _) (zy S0 M X) = _ from zcallV_eq rfl lc5 (Nat.le_of_ble_eq_true rfl)) (zul_239 (i := 2) (j := Int32.ofNat k) (by decide) hX n4) (fun v h1 nc1 ns1 q8 => ?_) (fun E h1 nc1 ns1 q8 => by cases q8)
          cases q8
          refine zpE_chk rfl (zUX_e hX n4) ?_
          refine zpE_run 1 (L' := [some (.ref 44), some (.int x1), some (.int x2), some (.int x3), some (.int x4), some (.int ((w167 x1 x2 x3 x4 M u0 k))), some (.int (Int32.ofNat k)), some (.int (zgt ((M.2.2.1 2).getD (Int32.toNatClampNeg (Int32.ofNat k)) []) (Int32.ofInt 0))), o8]) (st' := [.int (Int32.ofInt 1), .ref (zel X 2 (Int32.ofNat k))]) rfl ?_
          refine zpE_aly rfl (zUX_e hX n4) (fun _ _ => ?_)
          refine zpE_gen (fun nc ns => ?_)
          refine zpE_run 4 (L' := [some (.ref 44), some (.int x1), some (.int x2), some (.int x3), some (.int x4), some (.int ((w167 x1 x2 x3 x4 M u0 k))), some (.int (Int32.ofNat k)), some (.int (zgt ((M.2.2.1 2).getD (Int32.toNatClampNeg (Int32.ofNat k)) []) (Int32.ofInt 0))), some (.int (zgt ((M.2.2.1 2).getD (Int32.toNatClampNeg (Int32.ofNat k)) []) (Int32.ofInt 1)))]) (st' := [.int x3, .int (zgt ((M.2.2.1 2).getD (Int32.toNatClampNeg (Int32.ofNat k)) []) (Int32.ofInt 1))]) rfl ?_
          refine zpE_icmp rfl (fun q101 => ?_) (fun q101 => ?_)
          · have z101_3 := zF_n1 q101
            refine zpE_run 2 (L' := [some (.ref 44), some (.int x1), some (.int x2), some (.int x3), some (.int x4), some (.int ((w167 x1 x2 x3 x4 M u0 k))), some (.int ((Int32.ofNat k) + Int32.ofInt 1)), some (.int (zgt ((M.2.2.1 2).getD (Int32.toNatClampNeg (Int32.ofNat k)) []) (Int32.ofInt 0))), some (.int (zgt ((M.2.2.1 2).getD (Int32.toNatClampNeg (Int32.ofNat k)) []) (Int32.ofInt 1)))]) (st' := []) rfl ?_
            have eW : w167 x1 x2 x3 x4 M u0 (k + 1) = (w167 x1 x2 x3 x4 M u0 k) := by
              show d167 x1 x2 x3 x4 M k _ = _
              unfold d167
              rw [if_neg z27_1, if_pos z53_2, if_neg z101_3]
            have K := fun o7 o8 nc ns => l_r167 (x1 := x1) (x2 := x2) (x3 := x3) (x4 := x4) (u0 := u0) hX N (k + 1) o7 o8 nc ns (zlp_in z17_0 hk)
            rw [← zof1, eW] at K
            exact K _ _ _ _
          · have z101_3 := zF_n0 q101
            refine zpE_run 3 (L' := [some (.ref 44), some (.int x1), some (.int x2), some (.int x3), some (.int x4), some (.int ((w167 x1 x2 x3 x4 M u0 k))), some (.int (Int32.ofNat k)), some (.int (zgt ((M.2.2.1 2).getD (Int32.toNatClampNeg (Int32.ofNat k)) []) (Int32.ofInt 0))), some (.int (zgt ((M.2.2.1 2).getD (Int32.toNatClampNeg (Int32.ofNat k)) []) (Int32.ofInt 1)))]) (st' := [.int x4, .int (Int32.ofInt 1), .int ((w167 x1 x2 x3 x4 M u0 k))]) rfl ?_
            refine zpE_if rfl (fun q109 => ?_) (fun q109 => ?_)
            · have z109_4 := zF_e1 q109
              refine zpE_run 2 (L' := [some (.ref 44), some (.int x1), some (.int x2), some (.int x3), some (.int x4), some (.int ((w167 x1 x2 x3 x4 M u0 k))), some (.int (Int32.ofNat k)), some (.int (zgt ((M.2.2.1 2).getD (Int32.toNatClampNeg (Int32.ofNat k)) []) (Int32.ofInt 0))), some (.int (zgt ((M.2.2.1 2).getD (Int32.toNatClampNeg (Int32.ofNat k)) []) (Int32.ofInt 1)))]) (st' := [.int (Int32.ofInt 8), .int (zgt ((M.2.2.1 2).getD (Int32.toNatClampNeg (Int32.ofNat k)) []) (Int32.ofInt 0)), .int (Int32.ofInt 1), .int ((w167 x1 x2 x3 x4 M u0 k))]) rfl ?_
              refine zpE_irem rfl (fun _ => ?_)
              refine zpE_run 5 (L' := [some (.ref 44), some (.int x1), some (.int x2), some (.int x3), some (.int x4), some (.int (((w167 x1 x2 x3 x4 M u0 k)) ||| ((Int32.ofInt 1) <<< ((zrmd (zgt ((M.2.2.1 2).getD (Int32.toNatClampNeg (Int32.ofNat k)) []) (Int32.ofInt 0)) (Int32.ofInt 8)) &&& 31)))), some (.int ((Int32.ofNat k) + Int32.ofInt 1)), some (.int (zgt ((M.2.2.1 2).getD (Int32.toNatClampNeg (Int32.ofNat k)) []) (Int32.ofInt 0))), some (.int (zgt ((M.2.2.1 2).getD (Int32.toNatClampNeg (Int32.ofNat k)) []) (Int32.ofInt 1)))]) (st' := []) rfl ?_
              have eW : w167 x1 x2 x3 x4 M u0 (k + 1) = ((w167 x1 x2 x3 x4 M u0 k)) ||| ((Int32.ofInt 1) <<< ((zrmd (zgt ((M.2.2.1 2).getD (Int32.toNatClampNeg (Int32.ofNat k)) []) (Int32.ofInt 0)) (Int32.ofInt 8)) &&& 31)) := by
                show d167 x1 x2 x3 x4 M k _ = _
                unfold d167
                rw [if_neg z27_1, if_pos z53_2, if_pos z101_3, if_pos z109_4]
              have K := fun o7 o8 nc ns => l_r167 (x1 := x1) (x2 := x2) (x3 := x3) (x4 := x4) (u0 := u0) hX N (k + 1) o7 o8 nc ns (zlp_in z17_0 hk)
              rw [← zof1, eW] at K
              exact K _ _ _ _
            · have z109_4 := zF_e0 q109
              refine zpE_run 2 (L' := [some (.ref 44), some (.int x1), some (.int x2), some (.int x3), some (.int x4), some (.int ((w167 x1 x2 x3 x4 M u0 k))), some (.int (Int32.ofNat k)), some (.int (zgt ((M.2.2.1 2).getD (Int32.toNatClampNeg (Int32.ofNat k)) []) (Int32.ofInt 0))), some (.int (zgt ((M.2.2.1 2).getD (Int32.toNatClampNeg (Int32.ofNat k)) []) (Int32.ofInt 1)))]) (st' := [.int (Int32.ofInt 8), .int (zgt ((M.2.2.1 2).getD (Int32.toNatClampNeg (Int32.ofNat k)) []) (Int32.ofInt 0)), .int (Int32.ofInt 1), .int ((w167 x1 x2 x3 x4 M u0 k))]) rfl ?_
              refine zpE_idiv rfl (fun _ => ?_)
              refine zpE_run 1 (L' := [some (.ref 44), some (.int x1), some (.int x2), some (.int x3), some (.int x4), some (.int ((w167 x1 x2 x3 x4 M u0 k))), some (.int (Int32.ofNat k)), some (.int (zgt ((M.2.2.1 2).getD (Int32.toNatClampNeg (Int32.ofNat k)) []) (Int32.ofInt 0))), some (.int (zgt ((M.2.2.1 2).getD (Int32.toNatClampNeg (Int32.ofNat k)) []) (Int32.ofInt 1)))]) (st' := [.int (Int32.ofInt 8), .int (zqtd (zgt ((M.2.2.1 2).getD (Int32.toNatClampNeg (Int32.ofNat k)) []) (Int32.ofInt 0)) (Int32.ofInt 8)), .int (Int32.ofInt 1), .int ((w167 x1 x2 x3 x4 M u0 k))]) rfl ?_
              refine zpE_irem rfl (fun _ => ?_)
              refine zpE_run 6 (L' := [some (.ref 44), some (.int x1), some (.int x2), some (.int x3), some (.int x4), some (.int (((w167 x1 x2 x3 x4 M u0 k)) ||| ((Int32.ofInt 1) <<< ((zrmd (zqtd (zgt ((M.2.2.1 2).getD (Int32.toNatClampNeg (Int32.ofNat k)) []) (Int32.ofInt 0)) (Int32.ofInt 8)) (Int32.ofInt 8)) &&& 31)))), some (.int ((Int32.ofNat k) + Int32.ofInt 1)), some (.int (zgt ((M.2.2.1 2).getD (Int32.toNatClampNeg (Int32.ofNat k)) []) (Int32.ofInt 0))), some (.int (zgt ((M.2.2.1 2).getD (Int32.toNatClampNeg (Int32.ofNat k)) []) (Int32.ofInt 1)))]) (st' := []) rfl ?_
              have eW : w167 x1 x2 x3 x4 M u0 (k + 1) = ((w167 x1 x2 x3 x4 M u0 k)) ||| ((Int32.ofInt 1) <<< ((zrmd (zqtd (zgt ((M.2.2.1 2).getD (Int32.toNatClampNeg (Int32.ofNat k)) []) (Int32.ofInt 0)) (Int32.ofInt 8)) (Int32.ofInt 8)) &&& 31)) := by
                show d167 x1 x2 x3 x4 M k _ = _
                unfold d167
                rw [if_neg z27_1, if_pos z53_2, if_pos z101_3, if_neg z109_4]
              have K := fun o7 o8 nc ns => l_r167 (x1 := x1) (x2 := x2) (x3 := x3) (x4 := x4) (u0 := u0) hX N (k + 1) o7 o8 nc ns (zlp_in z17_0 hk)
              rw [← zof1, eW] at K
              exact K _ _ _ _
      · have z27_1 := zF_n0 q27
        refine zpE_run 3 (L' := [some (.ref 44), some (.int x1), some (.int x2), some (.int x3), some (.int x4), some (.int ((w167 x1 x2 x3 x4 M u0 k))), some (.int ((Int32.ofNat k) + Int32.ofInt 1)), o7, o8]) (st' := []) rfl ?_
        have eW : w167 x1 x2 x3 x4 M u0 (k + 1) = (w167 x1 x2 x3 x4 M u0 k) := by
          show d167 x1 x2 x3 x4 M k _ = _
          unfold d167
          rw [if_pos z27_1]
        have K := fun o7 o8 nc ns => l_r167 (x1 := x1) (x2 := x2) (x3 := x3) (x4 := x4) (u0 := u0) hX N (k + 1) o7 o8 nc ns (zlp_in z17_0 hk)
        rw [← zof1, eW] at K
        exact K _ _ _ _
def v167 (x1 : Int32) (x2 : Int32) (x3 : Int32) (x4 : Int32) (M : zRt) : Int32 := y167 x1 x2 x3 x4 M (w167 x1 x2 x3 x4 M (Int32.ofInt 0) (Int32.ofNat (M.2.2.1 2).length).toInt.toNat)
theorem f_167 {x1 x2 x3 x4 : Int32} (hX : zUX kq X M.2.2) : zpM xs N 167 [.ref 44, .int x1, .int x2, .int x3, .int x4] (zy S0 M X) nc ns (zOq (.inl (some (.int (v167 x1 x2 x3 x4 M)))) (zy S0 M X)) := by
  intro L0 e
  cases e
  refine zpE_run 4 rfl ?_
  exact l_r167 (x1 := x1) (x2 := x2) (x3 := x3) (x4 := x4) (M := M) (u0 := Int32.ofInt 0) hX N 0 _ _ _ _ (Nat.zero_le _)
theorem zin_a {n k a : Nat} (hR : ¬ Int32.ofNat a < 0 ∧ (Int32.ofNat a).toNatClampNeg < n) (ha : a < 1000) (h : (Int32.ofNat k).toInt < (Int32.ofNat a).toInt) (hk : k ≤ (Int32.ofNat a).toInt.toNat) : ¬ Int32.ofNat k < 0 ∧ (Int32.ofNat k).toNatClampNeg < n := by
  rw [zof_0 (by omega)] at hk
  have hk9 : k ≤ a := by omega
  rw [zof_0 (by omega), zof_0 (by omega)] at h
  have h2 := hR.2
  rw [zcl_of (by omega)] at h2 ⊢
  refine ⟨fun z => ?_, by omega⟩
  have z9 := Int32.lt_iff_toInt_lt.mp z
  rw [zof_0 (by omega), show (0 : Int32).toInt = 0 by decide] at z9
  omega
def d168i (x1 : Int32) (a : Nat) (M : zRt) (k : Nat) (u : Int32) : Int32 := if (v166 (Int32.ofNat a) x1 M) = ((0 : Int32)) then u else (if (zgt ((M.2.2.1 2).getD (Int32.toNatClampNeg (Int32.ofNat a)) []) (Int32.ofInt 0)) = (zgt ((M.2.2.1 2).getD (Int32.toNatClampNeg ((Int32.ofNat k))) []) (Int32.ofInt 0)) then (if (zgt ((M.2.2.1 2).getD (Int32.toNatClampNeg (Int32.ofNat a)) []) (Int32.ofInt 1)) = (zgt ((M.2.2.1 2).getD (Int32.toNatClampNeg ((Int32.ofNat k))) []) (Int32.ofInt 1)) then (if u = (Int32.ofInt (-1)) then (zgt ((M.2.2.1 2).getD (Int32.toNatClampNeg (Int32.ofNat a)) []) (Int32.ofInt 0)) else (if (zgt ((M.2.2.1 2).getD (Int32.toNatClampNeg (Int32.ofNat a)) []) (Int32.ofInt 0)) < u then (zgt ((M.2.2.1 2).getD (Int32.toNatClampNeg (Int32.ofNat a)) []) (Int32.ofInt 0)) else u)) else u) else u)
def w168i (x1 : Int32) (a : Nat) (M : zRt) (u0 : Int32) : Nat → Int32
  | 0 => u0
  | k + 1 => d168i x1 a M k (w168i x1 a M u0 k)
theorem l_168i {x1 u0 : Int32} {a N0 : Nat} {P : zO → Prop} (hX : zUX kq X M.2.2) (ha : a < 1000) (hR : ¬ Int32.ofNat a < 0 ∧ (Int32.ofNat a).toNatClampNeg < (M.2.2.1 2).length) (K : ∀ (nc ns : Nat), zpE xs N0 168 155 [some (.ref 44), some (.int x1), some (.int (w168i x1 a M u0 a)), some (.int (Int32.ofNat a)), some (.int (Int32.ofNat a))] [] (zy S0 M X) nc ns P) : ∀ (N k : Nat) (nc ns : Nat), N ≤ N0 → k ≤ (Int32.ofNat a).toInt.toNat → zpE xs N 168 20 [some (.ref 44), some (.int x1), some (.int ((w168i x1 a M u0 k))), some (.int (Int32.ofNat a)), some (.int (Int32.ofNat k))] [] (zy S0 M X) nc ns P
  | 0, _, _, _, _, _ => zpE_0
  | N + 1, k, nc, ns, hN, hk => by
    refine zpE_run1 1 (L' := [some (.ref 44), some (.int x1), some (.int ((w168i x1 a M u0 k))), some (.int (Int32.ofNat a)), some (.int (Int32.ofNat k))]) (st' := [.int (Int32.ofNat a), .int (Int32.ofNat k)]) rfl ?_
    refine zpE_icmp rfl (fun q23 => ?_) (fun q23 => ?_)
    · have z23_0 := Int.not_lt.mpr (zF_ge_t q23)
      have e9 : k = a := by
        have := zlp_out z23_0 hk
        rwa [zof_0 (by omega), Int.toNat_natCast] at this
      rw [e9]
      exact zpE_le (by omega) (K _ _)
    · have z23_0 := zF_ge_f q23
      refine zpE_run 3 (L' := [some (.ref 44), some (.int x1), some (.int ((w168i x1 a M u0 k))), some (.int (Int32.ofNat a)), some (.int (Int32.ofNat k))]) (st' := [.int x1, .int (Int32.ofNat a), .ref 44]) rfl ?_
      refine zpE_call rfl rfl (f_166 (M := M) (x1 := Int32.ofNat a) (x2 := x1) hX (hR)) (fun v h1 nc1 ns1 q8 => ?_) (fun E h1 nc1 ns1 q8 => by cases q8.1)
      obtain ⟨q8, q9⟩ := q8
      cases q8
      cases q9
      refine zpE_if rfl (fun q32 => ?_) (fun q32 => ?_)
      · have z32_1 := zF_e1 q32
        refine zpE_run 2 (L' := [some (.ref 44), some (.int x1), some (.int ((w168i x1 a M u0 k))), some (.int (Int32.ofNat a)), some (.int ((Int32.ofNat k) + Int32.ofInt 1))]) (st' := []) rfl ?_
        have eW : w168i x1 a M u0 (k + 1) = (w168i x1 a M u0 k) := by
          show d168i x1 a M k _ = _
          unfold d168i
          rw [if_pos z32_1]
        have K9 := fun nc ns => l_168i hX ha hR K N (k + 1) nc ns (by omega) (zlp_in z23_0 hk)
        rw [← zof1, eW] at K9
        exact K9 _ _
      · have z32_1 := zF_e0 q32
        refine zpE_run 3 (L' := [some (.ref 44), some (.int x1), some (.int ((w168i x1 a M u0 k))), some (.int (Int32.ofNat a)), some (.int (Int32.ofNat k))]) (st' := [.int (Int32.ofNat a), .ref (X.1 2)]) rfl ?_
        have n1 : ¬ (Int32.ofNat a) < 0 ∧ (Int32.toNatClampNeg (Int32.ofNat a)) < (M.2.2.1 2).length := hR
        obtain ⟨vs2, lc2⟩ := zUX_lc (S0 := S0) (M := M) (i := 2) (by decide) hX
        refine zpE_call rfl (show zcallV 1 10 239 45 (.int (Int32.ofNat a) :: .ref (X.1 2) :: _) (zy S0 M X) = _ from zcallV_eq rfl lc2 (Nat.le_of_ble_eq_true rfl)) (zul_239 (i := 2) (j := Int32.ofNat a) (by decide) hX n1) (fun v h1 nc1 ns1 q8 => ?_) (fun E h1 nc1 ns1 q8 => by cases q8)
        cases q8
        refine zpE_chk rfl (zUX_e hX n1) ?_
        refine zpE_run 1 (L' := [some (.ref 44), some (.int x1), some (.int ((w168i x1 a M u0 k))), some (.int (Int32.ofNat a)), some (.int (Int32.ofNat k))]) (st' := [.int (Int32.ofInt 0), .ref (zel X 2 (Int32.ofNat a))]) rfl ?_
        refine zpE_aly rfl (zUX_e hX n1) (fun _ _ => ?_)
        refine zpE_gen (fun nc ns => ?_)
        refine zpE_run 3 (L' := [some (.ref 44), some (.int x1), some (.int ((w168i x1 a M u0 k))), some (.int (Int32.ofNat a)), some (.int (Int32.ofNat k))]) (st' := [.int (Int32.ofNat k), .ref (X.1 2), .int (zgt ((M.2.2.1 2).getD (Int32.toNatClampNeg (Int32.ofNat a)) []) (Int32.ofInt 0))]) rfl ?_
        have n3 : ¬ (Int32.ofNat k) < 0 ∧ (Int32.toNatClampNeg (Int32.ofNat k)) < (M.2.2.1 2).length := zin_a hR ha z23_0 hk
        obtain ⟨vs4, lc4⟩ := zUX_lc (S0 := S0) (M := M) (i := 2) (by decide) hX
        refine zpE_call rfl (show zcallV 1 10 239 61 (.int (Int32.ofNat k) :: .ref (X.1 2) :: _) (zy S0 M X) = _ from zcallV_eq rfl lc4 (Nat.le_of_ble_eq_true rfl)) (zul_239 (i := 2) (j := Int32.ofNat k) (by decide) hX n3) (fun v h1 nc1 ns1 q8 => ?_) (fun E h1 nc1 ns1 q8 => by cases q8)
        cases q8
        refine zpE_chk rfl (zUX_e hX n3) ?_
        refine zpE_run 1 (L' := [some (.ref 44), some (.int x1), some (.int ((w168i x1 a M u0 k))), some (.int (Int32.ofNat a)), some (.int (Int32.ofNat k))]) (st' := [.int (Int32.ofInt 0), .ref (zel X 2 (Int32.ofNat k)), .int (zgt ((M.2.2.1 2).getD (Int32.toNatClampNeg (Int32.ofNat a)) []) (Int32.ofInt 0))]) rfl ?_
        refine zpE_aly rfl (zUX_e hX n3) (fun _ _ => ?_)
        refine zpE_gen (fun nc ns => ?_)
        refine zpE_icmp rfl (fun q66 => ?_) (fun q66 => ?_)
        · have z66_2 := zF_n1 q66
          refine zpE_run 2 (L' := [some (.ref 44), some (.int x1), some (.int ((w168i x1 a M u0 k))), some (.int (Int32.ofNat a)), some (.int ((Int32.ofNat k) + Int32.ofInt 1))]) (st' := []) rfl ?_
          have eW : w168i x1 a M u0 (k + 1) = (w168i x1 a M u0 k) := by
            show d168i x1 a M k _ = _
            unfold d168i
            rw [if_neg z32_1, if_neg z66_2]
          have K9 := fun nc ns => l_168i hX ha hR K N (k + 1) nc ns (by omega) (zlp_in z23_0 hk)
          rw [← zof1, eW] at K9
          exact K9 _ _
        · have z66_2 := zF_n0 q66
          refine zpE_run 3 (L' := [some (.ref 44), some (.int x1), some (.int ((w168i x1 a M u0 k))), some (.int (Int32.ofNat a)), some (.int (Int32.ofNat k))]) (st' := [.int (Int32.ofNat a), .ref (X.1 2)]) rfl ?_
          have n5 : ¬ (Int32.ofNat a) < 0 ∧ (Int32.toNatClampNeg (Int32.ofNat a)) < (M.2.2.1 2).length := hR
          obtain ⟨vs6, lc6⟩ := zUX_lc (S0 := S0) (M := M) (i := 2) (by decide) hX
          refine zpE_call rfl (show zcallV 1 10 239 79 (.int (Int32.ofNat a) :: .ref (X.1 2) :: _) (zy S0 M X) = _ from zcallV_eq rfl lc6 (Nat.le_of_ble_eq_true rfl)) (zul_239 (i := 2) (j := Int32.ofNat a) (by decide) hX n5) (fun v h1 nc1 ns1 q8 => ?_) (fun E h1 nc1 ns1 q8 => by cases q8)
          cases q8
          refine zpE_chk rfl (zUX_e hX n5) ?_
          refine zpE_run 1 (L' := [some (.ref 44), some (.int x1), some (.int ((w168i x1 a M u0 k))), some (.int (Int32.ofNat a)), some (.int (Int32.ofNat k))]) (st' := [.int (Int32.ofInt 1), .ref (zel X 2 (Int32.ofNat a))]) rfl ?_
          refine zpE_aly rfl (zUX_e hX n5) (fun _ _ => ?_)
          refine zpE_gen (fun nc ns => ?_)
          refine zpE_run 3 (L' := [some (.ref 44), some (.int x1), some (.int ((w168i x1 a M u0 k))), some (.int (Int32.ofNat a)), some (.int (Int32.ofNat k))]) (st' := [.int (Int32.ofNat k), .ref (X.1 2), .int (zgt ((M.2.2.1 2).getD (Int32.toNatClampNeg (Int32.ofNat a)) []) (Int32.ofInt 1))]) rfl ?_
          have n7 : ¬ (Int32.ofNat k) < 0 ∧ (Int32.toNatClampNeg (Int32.ofNat k)) < (M.2.2.1 2).length := zin_a hR ha z23_0 hk
          obtain ⟨vs8, lc8⟩ := zUX_lc (S0 := S0) (M := M) (i := 2) (by decide) hX
          refine zpE_call rfl (show zcallV 1 10 239 95 (.int (Int32.ofNat k) :: .ref (X.1 2) :: _) (zy S0 M X) = _ from zcallV_eq rfl lc8 (Nat.le_of_ble_eq_true rfl)) (zul_239 (i := 2) (j := Int32.ofNat k) (by decide) hX n7) (fun v h1 nc1 ns1 q8 => ?_) (fun E h1 nc1 ns1 q8 => by cases q8)
          cases q8
          refine zpE_chk rfl (zUX_e hX n7) ?_
          refine zpE_run 1 (L' := [some (.ref 44), some (.int x1), some (.int ((w168i x1 a M u0 k))), some (.int (Int32.ofNat a)), some (.int (Int32.ofNat k))]) (st' := [.int (Int32.ofInt 1), .ref (zel X 2 (Int32.ofNat k)), .int (zgt ((M.2.2.1 2).getD (Int32.toNatClampNeg (Int32.ofNat a)) []) (Int32.ofInt 1))]) rfl ?_
          refine zpE_aly rfl (zUX_e hX n7) (fun _ _ => ?_)
          refine zpE_gen (fun nc ns => ?_)
          refine zpE_icmp rfl (fun q100 => ?_) (fun q100 => ?_)
          · have z100_3 := zF_e1 q100
            refine zpE_run 2 (L' := [some (.ref 44), some (.int x1), some (.int ((w168i x1 a M u0 k))), some (.int (Int32.ofNat a)), some (.int (Int32.ofNat k))]) (st' := [.int (Int32.ofInt (-1)), .int ((w168i x1 a M u0 k))]) rfl ?_
            refine zpE_icmp rfl (fun q108 => ?_) (fun q108 => ?_)
            · have z108_4 := zF_n1 q108
              refine zpE_run 4 (L' := [some (.ref 44), some (.int x1), some (.int ((w168i x1 a M u0 k))), some (.int (Int32.ofNat a)), some (.int (Int32.ofNat k))]) (st' := [.int (Int32.ofNat a), .ref (X.1 2), .int ((w168i x1 a M u0 k))]) rfl ?_
              have n9 : ¬ (Int32.ofNat a) < 0 ∧ (Int32.toNatClampNeg (Int32.ofNat a)) < (M.2.2.1 2).length := hR
              obtain ⟨vs10, lc10⟩ := zUX_lc (S0 := S0) (M := M) (i := 2) (by decide) hX
              refine zpE_call rfl (show zcallV 1 10 239 140 (.int (Int32.ofNat a) :: .ref (X.1 2) :: _) (zy S0 M X) = _ from zcallV_eq rfl lc10 (Nat.le_of_ble_eq_true rfl)) (zul_239 (i := 2) (j := Int32.ofNat a) (by decide) hX n9) (fun v h1 nc1 ns1 q8 => ?_) (fun E h1 nc1 ns1 q8 => by cases q8)
              cases q8
              refine zpE_chk rfl (zUX_e hX n9) ?_
              refine zpE_run 1 (L' := [some (.ref 44), some (.int x1), some (.int ((w168i x1 a M u0 k))), some (.int (Int32.ofNat a)), some (.int (Int32.ofNat k))]) (st' := [.int (Int32.ofInt 0), .ref (zel X 2 (Int32.ofNat a)), .int ((w168i x1 a M u0 k))]) rfl ?_
              refine zpE_aly rfl (zUX_e hX n9) (fun _ _ => ?_)
              refine zpE_gen (fun nc ns => ?_)
              refine zpE_run 4 (L' := [some (.ref 44), some (.int x1), some (.int (if (zgt ((M.2.2.1 2).getD (Int32.toNatClampNeg (Int32.ofNat a)) []) (Int32.ofInt 0)) < ((w168i x1 a M u0 k)) then (zgt ((M.2.2.1 2).getD (Int32.toNatClampNeg (Int32.ofNat a)) []) (Int32.ofInt 0)) else ((w168i x1 a M u0 k)))), some (.int (Int32.ofNat a)), some (.int ((Int32.ofNat k) + Int32.ofInt 1))]) (st' := []) rfl ?_
              have eW : w168i x1 a M u0 (k + 1) = if (zgt ((M.2.2.1 2).getD (Int32.toNatClampNeg (Int32.ofNat a)) []) (Int32.ofInt 0)) < ((w168i x1 a M u0 k)) then (zgt ((M.2.2.1 2).getD (Int32.toNatClampNeg (Int32.ofNat a)) []) (Int32.ofInt 0)) else ((w168i x1 a M u0 k)) := by
                show d168i x1 a M k _ = _
                unfold d168i
                rw [if_neg z32_1, if_pos z66_2, if_pos z100_3, if_neg z108_4]
              have K9 := fun nc ns => l_168i hX ha hR K N (k + 1) nc ns (by omega) (zlp_in z23_0 hk)
              rw [← zof1, eW] at K9
              exact K9 _ _
            · have z108_4 := zF_n0 q108
              refine zpE_run 3 (L' := [some (.ref 44), some (.int x1), some (.int ((w168i x1 a M u0 k))), some (.int (Int32.ofNat a)), some (.int (Int32.ofNat k))]) (st' := [.int (Int32.ofNat a), .ref (X.1 2)]) rfl ?_
              have n11 : ¬ (Int32.ofNat a) < 0 ∧ (Int32.toNatClampNeg (Int32.ofNat a)) < (M.2.2.1 2).length := hR
              obtain ⟨vs12, lc12⟩ := zUX_lc (S0 := S0) (M := M) (i := 2) (by decide) hX
              refine zpE_call rfl (show zcallV 1 10 239 121 (.int (Int32.ofNat a) :: .ref (X.1 2) :: _) (zy S0 M X) = _ from zcallV_eq rfl lc12 (Nat.le_of_ble_eq_true rfl)) (zul_239 (i := 2) (j := Int32.ofNat a) (by decide) hX n11) (fun v h1 nc1 ns1 q8 => ?_) (fun E h1 nc1 ns1 q8 => by cases q8)
              cases q8
              refine zpE_chk rfl (zUX_e hX n11) ?_
              refine zpE_run 1 (L' := [some (.ref 44), some (.int x1), some (.int ((w168i x1 a M u0 k))), some (.int (Int32.ofNat a)), some (.int (Int32.ofNat k))]) (st' := [.int (Int32.ofInt 0), .ref (zel X 2 (Int32.ofNat a))]) rfl ?_
              refine zpE_aly rfl (zUX_e hX n11) (fun _ _ => ?_)
              refine zpE_gen (fun nc ns => ?_)
              refine zpE_run 4 (L' := [some (.ref 44), some (.int x1), some (.int (zgt ((M.2.2.1 2).getD (Int32.toNatClampNeg (Int32.ofNat a)) []) (Int32.ofInt 0))), some (.int (Int32.ofNat a)), some (.int ((Int32.ofNat k) + Int32.ofInt 1))]) (st' := []) rfl ?_
              have eW : w168i x1 a M u0 (k + 1) = zgt ((M.2.2.1 2).getD (Int32.toNatClampNeg (Int32.ofNat a)) []) (Int32.ofInt 0) := by
                show d168i x1 a M k _ = _
                unfold d168i
                rw [if_neg z32_1, if_pos z66_2, if_pos z100_3, if_pos z108_4]
              have K9 := fun nc ns => l_168i hX ha hR K N (k + 1) nc ns (by omega) (zlp_in z23_0 hk)
              rw [← zof1, eW] at K9
              exact K9 _ _
          · have z100_3 := zF_e0 q100
            refine zpE_run 3 (L' := [some (.ref 44), some (.int x1), some (.int ((w168i x1 a M u0 k))), some (.int (Int32.ofNat a)), some (.int ((Int32.ofNat k) + Int32.ofInt 1))]) (st' := []) rfl ?_
            have eW : w168i x1 a M u0 (k + 1) = (w168i x1 a M u0 k) := by
              show d168i x1 a M k _ = _
              unfold d168i
              rw [if_neg z32_1, if_pos z66_2, if_neg z100_3]
            have K9 := fun nc ns => l_168i hX ha hR K N (k + 1) nc ns (by omega) (zlp_in z23_0 hk)
            rw [← zof1, eW] at K9
            exact K9 _ _
def w168 (x1 : Int32) (M : zRt) : Nat → Int32
  | 0 => Int32.ofInt (-1)
  | a + 1 => w168i x1 a M (w168 x1 M a) a
def v168 (x1 : Int32) (M : zRt) : Int32 := w168 x1 M (M.2.2.1 2).length
theorem l_168 {x1 : Int32} (hX : zUX kq X M.2.2) : ∀ (N a : Nat) (o4 : Option Value) (nc ns : Nat), a ≤ (M.2.2.1 2).length → zpE xs N 168 4 [some (.ref 44), some (.int x1), some (.int (w168 x1 M a)), some (.int (Int32.ofNat a)), o4] [] (zy S0 M X) nc ns (zOq (.inl (some (.int (v168 x1 M)))) (zy S0 M X))
  | 0, _, _, _, _, _ => zpE_0
  | N + 1, a, o4, nc, ns, hk => by
    have hl : (M.2.2.1 2).length ≤ 40 := Nat.le_trans (hX.2.1 2 (by decide)).2.1 (zlm_le 2)
    refine zpE_run1 2 (L' := [some (.ref 44), some (.int x1), some (.int (w168 x1 M a)), some (.int (Int32.ofNat a)), o4]) (st' := [.ref (X.1 2), .int (Int32.ofNat a)]) rfl ?_
    obtain ⟨vs, lc⟩ := zUX_lc (S0 := S0) (M := M) (i := 2) (by decide) hX
    refine zpE_call rfl (show zcallV 0 10 243 14 (.ref (X.1 2) :: _) (zy S0 M X) = _ from zcallV_eq rfl lc (Nat.le_of_ble_eq_true rfl)) (zul_243 (i := 2) (by decide) hX) (fun v h1 nc1 ns1 q8 => ?_) (fun E h1 nc1 ns1 q8 => by cases q8)
    cases q8
    refine zpE_icmp rfl (fun q => ?_) (fun q => ?_)
    · have z := zF_ge_t q
      rw [zof_0 (by omega), zof_0 (by omega)] at z
      have e9 : a = (M.2.2.1 2).length := by omega
      refine zpE_run 1 (L' := [some (.ref 44), some (.int x1), some (.int (w168 x1 M a)), some (.int (Int32.ofNat a)), o4]) (st' := [.int (w168 x1 M a)]) rfl ?_
      exact zpE_end rfl rfl (zOq_v (by rw [e9]; rfl))
    · have z := zF_ge_f q
      rw [zof_0 (by omega), zof_0 (by omega)] at z
      refine zpE_run 2 (L' := [some (.ref 44), some (.int x1), some (.int (w168 x1 M a)), some (.int (Int32.ofNat a)), some (.int (Int32.ofNat 0))]) (st' := []) rfl ?_
      refine l_168i (u0 := w168 x1 M a) (N0 := N) hX (by omega) ⟨fun z9 => ?_, by rw [zcl_of (by omega)]; omega⟩ (fun nc ns => ?_) N 0 _ _ (Nat.le_refl _) (Nat.zero_le _)
      · have z8 := Int32.lt_iff_toInt_lt.mp z9
        rw [zof_0 (by omega), show (0 : Int32).toInt = 0 by decide] at z8
        omega
      · refine zpE_run 2 (L' := [some (.ref 44), some (.int x1), some (.int (w168 x1 M (a + 1))), some (.int (Int32.ofNat a + Int32.ofInt 1)), some (.int (Int32.ofNat a))]) (st' := []) rfl ?_
        rw [zof1]
        exact l_168 hX N (a + 1) _ _ _ (by omega)
theorem f_168 {x1 : Int32} (hX : zUX kq X M.2.2) : zpM xs N 168 [.ref 44, .int x1] (zy S0 M X) nc ns (zOq (.inl (some (.int (v168 x1 M)))) (zy S0 M X)) := by
  intro L0 e
  cases e
  refine zpE_run 4 (L' := [some (.ref 44), some (.int x1), some (.int (Int32.ofInt (-1))), some (.int (Int32.ofNat 0)), none]) (st' := []) rfl ?_
  exact l_168 hX N 0 _ _ _ (Nat.zero_le _)
def q169 (x1 b : Int32) (M : zRt) : Nat → Nat → Option Nat
  | 0, _ => none
  | m + 1, k => if b = (Int32.ofInt 2) then (if (v167 x1 b (Int32.ofNat k) (Int32.ofInt 0) M).toInt < (Int32.ofInt 3).toInt then (q169 x1 b M m (k + 1)) else (some k)) else (if (v167 x1 b (Int32.ofNat k) (Int32.ofInt 1) M).toInt < (Int32.ofInt 3).toInt then (q169 x1 b M m (k + 1)) else (some k))
theorem l_169 {x1 x2 b : Int32} {N0 : Nat} {P : zO → Prop} (hX : zUX kq X M.2.2) (K : q169 x1 b M 16 0 = none → ∀ (nc ns : Nat), zpE xs N0 169 56 [some (.ref 44), some (.int x1), some (.int x2), some (.int b), some (.int (Int32.ofNat 16))] [] (zy S0 M X) nc ns P) (H : ∀ k, q169 x1 b M 16 0 = some k → ∀ o, zOq (.inl (some (.int (if x2 = ((0 : Int32)) then b else Int32.ofNat k)))) (zy S0 M X) o → P o) : ∀ (N k m : Nat) (nc ns : Nat), N ≤ N0 → k + m = (Int32.ofInt 16).toInt.toNat → q169 x1 b M 16 0 = q169 x1 b M m k → zpE xs N 169 10 [some (.ref 44), some (.int x1), some (.int x2), some (.int b), some (.int (Int32.ofNat k))] [] (zy S0 M X) nc ns P
  | 0, _, _, _, _, _, _, _ => zpE_0
  | N + 1, k, m0, nc, ns, hN, hk, hq => by
    refine zpE_run1 1 (L' := [some (.ref 44), some (.int x1), some (.int x2), some (.int b), some (.int (Int32.ofNat k))]) (st' := [.int (Int32.ofInt 16), .int (Int32.ofNat k)]) rfl ?_
    refine zpE_icmp rfl (fun q14 => ?_) (fun q14 => ?_)
    · have z14_0 := Int.not_lt.mpr (zF_ge_t q14)
      have e8 := zlp_o2 z14_0 hk
      have e9 : k = 16 := by
        rw [e8] at hk
        exact hk
      rw [e8] at hq
      rw [e9]
      exact zpE_le (by omega) (K hq _ _)
    · have z14_0 := zF_ge_f q14
      obtain ⟨m, rfl⟩ := zlp_i2 z14_0 hk
      have eQ : q169 x1 b M (m + 1) k = if b = (Int32.ofInt 2) then (if (v167 x1 b (Int32.ofNat k) (Int32.ofInt 0) M).toInt < (Int32.ofInt 3).toInt then (q169 x1 b M m (k + 1)) else (some k)) else (if (v167 x1 b (Int32.ofNat k) (Int32.ofInt 1) M).toInt < (Int32.ofInt 3).toInt then (q169 x1 b M m (k + 1)) else (some k)) := rfl
      refine zpE_run 6 (L' := [some (.ref 44), some (.int x1), some (.int x2), some (.int b), some (.int (Int32.ofNat k))]) (st' := [.int (Int32.ofInt 2), .int b, .int (Int32.ofNat k), .int b, .int x1, .ref 44]) rfl ?_
      refine zpE_icmp rfl (fun q24 => ?_) (fun q24 => ?_)
      · have z24_1 := zF_e1 q24
        refine zpE_run 1 (L' := [some (.ref 44), some (.int x1), some (.int x2), some (.int b), some (.int (Int32.ofNat k))]) (st' := [.int (Int32.ofInt 0), .int (Int32.ofNat k), .int b, .int x1, .ref 44]) rfl ?_
        refine zpE_call rfl rfl (f_167 (M := M) (x1 := x1) (x2 := b) (x3 := Int32.ofNat k) (x4 := Int32.ofInt 0) hX) (fun v h1 nc1 ns1 q8 => ?_) (fun E h1 nc1 ns1 q8 => by cases q8.1)
        obtain ⟨q8, q9⟩ := q8
        cases q8
        cases q9
        refine zpE_run 1 (L' := [some (.ref 44), some (.int x1), some (.int x2), some (.int b), some (.int (Int32.ofNat k))]) (st' := [.int (Int32.ofInt 3), .int (v167 x1 b (Int32.ofNat k) (Int32.ofInt 0) M)]) rfl ?_
        refine zpE_icmp rfl (fun q36 => ?_) (fun q36 => ?_)
        · have z36_2 := zF_lt_t q36
          refine zpE_run 2 (L' := [some (.ref 44), some (.int x1), some (.int x2), some (.int b), some (.int ((Int32.ofNat k) + Int32.ofInt 1))]) (st' := []) rfl ?_
          have K9 := fun nc ns => l_169 hX K H N (k + 1) m nc ns (by omega) (by omega) (hq.trans (by rw [eQ, if_pos z24_1, if_pos z36_2]))
          rw [← zof1] at K9
          exact K9 _ _
        · have z36_2 := Int.not_lt.mpr (zF_lt_f q36)
          refine zpE_run 1 (L' := [some (.ref 44), some (.int x1), some (.int x2), some (.int b), some (.int (Int32.ofNat k))]) (st' := [.int x2]) rfl ?_
          refine zpE_if rfl (fun q40 => ?_) (fun q40 => ?_)
          · have z40_3 := zF_e1 q40
            refine zpE_run 1 (L' := [some (.ref 44), some (.int x1), some (.int x2), some (.int b), some (.int (Int32.ofNat k))]) (st' := [.int b]) rfl ?_
            exact zpE_end rfl rfl (H k (hq.trans (by rw [eQ, if_pos z24_1, if_neg z36_2])) _ (zOq_v (by rw [if_pos z40_3])))
          · have z40_3 := zF_e0 q40
            refine zpE_run 2 (L' := [some (.ref 44), some (.int x1), some (.int x2), some (.int b), some (.int (Int32.ofNat k))]) (st' := [.int (Int32.ofNat k)]) rfl ?_
            exact zpE_end rfl rfl (H k (hq.trans (by rw [eQ, if_pos z24_1, if_neg z36_2])) _ (zOq_v (by rw [if_neg z40_3])))
      · have z24_1 := zF_e0 q24
        refine zpE_run 2 (L' := [some (.ref 44), some (.int x1), some (.int x2), some (.int b), some (.int (Int32.ofNat k))]) (st' := [.int (Int32.ofInt 1), .int (Int32.ofNat k), .int b, .int x1, .ref 44]) rfl ?_
        refine zpE_call rfl rfl (f_167 (M := M) (x1 := x1) (x2 := b) (x3 := Int32.ofNat k) (x4 := Int32.ofInt 1) hX) (fun v h1 nc1 ns1 q8 => ?_) (fun E h1 nc1 ns1 q8 => by cases q8.1)
        obtain ⟨q8, q9⟩ := q8
        cases q8
        cases q9
        refine zpE_run 1 (L' := [some (.ref 44), some (.int x1), some (.int x2), some (.int b), some (.int (Int32.ofNat k))]) (st' := [.int (Int32.ofInt 3), .int (v167 x1 b (Int32.ofNat k) (Int32.ofInt 1) M)]) rfl ?_
        refine zpE_icmp rfl (fun q36 => ?_) (fun q36 => ?_)
        · have z36_2 := zF_lt_t q36
          refine zpE_run 2 (L' := [some (.ref 44), some (.int x1), some (.int x2), some (.int b), some (.int ((Int32.ofNat k) + Int32.ofInt 1))]) (st' := []) rfl ?_
          have K9 := fun nc ns => l_169 hX K H N (k + 1) m nc ns (by omega) (by omega) (hq.trans (by rw [eQ, if_neg z24_1, if_pos z36_2]))
          rw [← zof1] at K9
          exact K9 _ _
        · have z36_2 := Int.not_lt.mpr (zF_lt_f q36)
          refine zpE_run 1 (L' := [some (.ref 44), some (.int x1), some (.int x2), some (.int b), some (.int (Int32.ofNat k))]) (st' := [.int x2]) rfl ?_
          refine zpE_if rfl (fun q40 => ?_) (fun q40 => ?_)
          · have z40_3 := zF_e1 q40
            refine zpE_run 1 (L' := [some (.ref 44), some (.int x1), some (.int x2), some (.int b), some (.int (Int32.ofNat k))]) (st' := [.int b]) rfl ?_
            exact zpE_end rfl rfl (H k (hq.trans (by rw [eQ, if_neg z24_1, if_neg z36_2])) _ (zOq_v (by rw [if_pos z40_3])))
          · have z40_3 := zF_e0 q40
            refine zpE_run 2 (L' := [some (.ref 44), some (.int x1), some (.int x2), some (.int b), some (.int (Int32.ofNat k))]) (st' := [.int (Int32.ofNat k)]) rfl ?_
            exact zpE_end rfl rfl (H k (hq.trans (by rw [eQ, if_neg z24_1, if_neg z36_2])) _ (zOq_v (by rw [if_neg z40_3])))
def u169_4 (x1 x2 : Int32) (M : zRt) : Int32 := if x2 = ((0 : Int32)) then (if (v168 x1 M) = (Int32.ofInt (-1)) then ((Int32.ofInt 0)) else ((Int32.ofInt 4))) else ((v168 x1 M))
theorem s169_4 {x1 x2 : Int32} {o4 : Option Value} (hX : zUX kq X M.2.2) : zpE xs N 169 2 [some (.ref 44), some (.int x1), some (.int x2), some (.int (Int32.ofInt 4)), o4] [] (zy S0 M X) nc ns (zOq (.inl (some (.int (u169_4 x1 x2 M)))) (zy S0 M X)) := by
  refine zpE_run 2 (L' := [some (.ref 44), some (.int x1), some (.int x2), some (.int (Int32.ofInt 4)), o4]) (st' := [.int (Int32.ofInt 3), .int (Int32.ofInt 4)]) rfl ?_
  refine zpE_icmp rfl (fun q4 => ?_) (fun q4 => ?_)
  · clear q4
    refine zpE_run 2 (L' := [some (.ref 44), some (.int x1), some (.int x2), some (.int (Int32.ofInt 4)), o4]) (st' := [.int x1, .ref 44]) rfl ?_
    refine zpE_call rfl rfl (f_168 (M := M) (x1 := x1) hX) (fun v h1 nc1 ns1 q8 => ?_) (fun E h1 nc1 ns1 q8 => by cases q8.1)
    obtain ⟨q8, q9⟩ := q8
    cases q8
    cases q9
    refine zpE_run 2 (L' := [some (.ref 44), some (.int x1), some (.int x2), some (.int (v168 x1 M)), o4]) (st' := [.int x2]) rfl ?_
    refine zpE_if rfl (fun q69 => ?_) (fun q69 => ?_)
    · have z69_0 := zF_e1 q69
      refine zpE_run 2 (L' := [some (.ref 44), some (.int x1), some (.int x2), some (.int (v168 x1 M)), o4]) (st' := [.int (Int32.ofInt (-1)), .int (v168 x1 M)]) rfl ?_
      refine zpE_icmp rfl (fun q78 => ?_) (fun q78 => ?_)
      · have z78_1 := zF_n1 q78
        refine zpE_run 1 (L' := [some (.ref 44), some (.int x1), some (.int x2), some (.int (v168 x1 M)), o4]) (st' := [.int (Int32.ofInt 4)]) rfl ?_
        exact zpE_end rfl rfl (zOq_v (by unfold u169_4; rw [if_pos z69_0, if_neg z78_1]))
      · have z78_1 := zF_n0 q78
        refine zpE_run 2 (L' := [some (.ref 44), some (.int x1), some (.int x2), some (.int (v168 x1 M)), o4]) (st' := [.int (Int32.ofInt 0)]) rfl ?_
        exact zpE_end rfl rfl (zOq_v (by unfold u169_4; rw [if_pos z69_0, if_pos z78_1]))
    · have z69_0 := zF_e0 q69
      refine zpE_run 2 (L' := [some (.ref 44), some (.int x1), some (.int x2), some (.int (v168 x1 M)), o4]) (st' := [.int (v168 x1 M)]) rfl ?_
      exact zpE_end rfl rfl (zOq_v (by unfold u169_4; rw [if_neg z69_0]))
  · exact absurd (Int.not_lt.mpr (zF_gt_f q4)) (by decide)
def u169_3 (x1 x2 : Int32) (M : zRt) : Int32 := match q169 x1 (Int32.ofInt 3) M 16 0 with
  | some k => if x2 = ((0 : Int32)) then Int32.ofInt 3 else Int32.ofNat k
  | none => u169_4 x1 x2 M
theorem s169_3 {x1 x2 : Int32} {o4 : Option Value} (hX : zUX kq X M.2.2) : zpE xs N 169 2 [some (.ref 44), some (.int x1), some (.int x2), some (.int (Int32.ofInt 3)), o4] [] (zy S0 M X) nc ns (zOq (.inl (some (.int (u169_3 x1 x2 M)))) (zy S0 M X)) := by
  refine zpE_run 2 (L' := [some (.ref 44), some (.int x1), some (.int x2), some (.int (Int32.ofInt 3)), o4]) (st' := [.int (Int32.ofInt 3), .int (Int32.ofInt 3)]) rfl ?_
  refine zpE_icmp rfl (fun q => absurd (zF_gt_t q) (by decide)) (fun _ => ?_)
  refine zpE_run 2 (L' := [some (.ref 44), some (.int x1), some (.int x2), some (.int (Int32.ofInt 3)), some (.int (Int32.ofNat 0))]) (st' := []) rfl ?_
  refine l_169 (N0 := N) hX (fun e nc ns => ?_) (fun k e o ho => ?_) N 0 16 _ _ (Nat.le_refl _) (by decide) rfl
  · rw [show u169_3 x1 x2 M = u169_4 x1 x2 M from by
      unfold u169_3
      rw [e]]
    refine zpE_run 2 (L' := [some (.ref 44), some (.int x1), some (.int x2), some (.int (Int32.ofInt 4)), some (.int (Int32.ofNat 16))]) (st' := []) rfl ?_
    exact s169_4 hX
  · rw [show u169_3 x1 x2 M = if x2 = ((0 : Int32)) then Int32.ofInt 3 else Int32.ofNat k from by
      unfold u169_3
      rw [e]]
    exact ho
def u169_2 (x1 x2 : Int32) (M : zRt) : Int32 := match q169 x1 (Int32.ofInt 2) M 16 0 with
  | some k => if x2 = ((0 : Int32)) then Int32.ofInt 2 else Int32.ofNat k
  | none => u169_3 x1 x2 M
theorem s169_2 {x1 x2 : Int32} {o4 : Option Value} (hX : zUX kq X M.2.2) : zpE xs N 169 2 [some (.ref 44), some (.int x1), some (.int x2), some (.int (Int32.ofInt 2)), o4] [] (zy S0 M X) nc ns (zOq (.inl (some (.int (u169_2 x1 x2 M)))) (zy S0 M X)) := by
  refine zpE_run 2 (L' := [some (.ref 44), some (.int x1), some (.int x2), some (.int (Int32.ofInt 2)), o4]) (st' := [.int (Int32.ofInt 3), .int (Int32.ofInt 2)]) rfl ?_
  refine zpE_icmp rfl (fun q => absurd (zF_gt_t q) (by decide)) (fun _ => ?_)
  refine zpE_run 2 (L' := [some (.ref 44), some (.int x1), some (.int x2), some (.int (Int32.ofInt 2)), some (.int (Int32.ofNat 0))]) (st' := []) rfl ?_
  refine l_169 (N0 := N) hX (fun e nc ns => ?_) (fun k e o ho => ?_) N 0 16 _ _ (Nat.le_refl _) (by decide) rfl
  · rw [show u169_2 x1 x2 M = u169_3 x1 x2 M from by
      unfold u169_2
      rw [e]]
    refine zpE_run 2 (L' := [some (.ref 44), some (.int x1), some (.int x2), some (.int (Int32.ofInt 3)), some (.int (Int32.ofNat 16))]) (st' := []) rfl ?_
    exact s169_3 hX
  · rw [show u169_2 x1 x2 M = if x2 = ((0 : Int32)) then Int32.ofInt 2 else Int32.ofNat k from by
      unfold u169_2
      rw [e]]
    exact ho
def u169_1 (x1 x2 : Int32) (M : zRt) : Int32 := match q169 x1 (Int32.ofInt 1) M 16 0 with
  | some k => if x2 = ((0 : Int32)) then Int32.ofInt 1 else Int32.ofNat k
  | none => u169_2 x1 x2 M
theorem s169_1 {x1 x2 : Int32} {o4 : Option Value} (hX : zUX kq X M.2.2) : zpE xs N 169 2 [some (.ref 44), some (.int x1), some (.int x2), some (.int (Int32.ofInt 1)), o4] [] (zy S0 M X) nc ns (zOq (.inl (some (.int (u169_1 x1 x2 M)))) (zy S0 M X)) := by
  refine zpE_run 2 (L' := [some (.ref 44), some (.int x1), some (.int x2), some (.int (Int32.ofInt 1)), o4]) (st' := [.int (Int32.ofInt 3), .int (Int32.ofInt 1)]) rfl ?_
  refine zpE_icmp rfl (fun q => absurd (zF_gt_t q) (by decide)) (fun _ => ?_)
  refine zpE_run 2 (L' := [some (.ref 44), some (.int x1), some (.int x2), some (.int (Int32.ofInt 1)), some (.int (Int32.ofNat 0))]) (st' := []) rfl ?_
  refine l_169 (N0 := N) hX (fun e nc ns => ?_) (fun k e o ho => ?_) N 0 16 _ _ (Nat.le_refl _) (by decide) rfl
  · rw [show u169_1 x1 x2 M = u169_2 x1 x2 M from by
      unfold u169_1
      rw [e]]
    refine zpE_run 2 (L' := [some (.ref 44), some (.int x1), some (.int x2), some (.int (Int32.ofInt 2)), some (.int (Int32.ofNat 16))]) (st' := []) rfl ?_
    exact s169_2 hX
  · rw [show u169_1 x1 x2 M = if x2 = ((0 : Int32)) then Int32.ofInt 1 else Int32.ofNat k from by
      unfold u169_1
      rw [e]]
    exact ho
theorem f_169 {x1 x2 : Int32} (hX : zUX kq X M.2.2) : zpM xs N 169 [.ref 44, .int x1, .int x2] (zy S0 M X) nc ns (zOq (.inl (some (.int (u169_1 x1 x2 M)))) (zy S0 M X)) := by
  intro L0 e
  cases e
  refine zpE_run 2 (L' := [some (.ref 44), some (.int x1), some (.int x2), some (.int (Int32.ofInt 1)), none]) (st' := []) rfl ?_
  exact s169_1 hX
def v170 (x1 : Int32) (x2 : Int32) (M : zRt) : Int32 := if (v112 x1 (Int32.ofInt 0) (Int32.ofInt 1) (zmS M 0 (Int32.ofInt 0))) = ((0 : Int32)) then ((v111 (Int32.ofInt 1) (zmS M 0 (Int32.ofInt 0)))) else ((u169_1 x1 x2 (zmS M 0 (Int32.ofInt 0))))
def r170 (x1 : Int32) (x2 : Int32) (M : zRt) : zRt := if (v112 x1 (Int32.ofInt 0) (Int32.ofInt 1) (zmS M 0 (Int32.ofInt 0))) = ((0 : Int32)) then ((r111 (Int32.ofInt 1) (zmS M 0 (Int32.ofInt 0)))) else (zmS M 0 (Int32.ofInt 0))
theorem f_170 {x1 x2 : Int32} (hX : zUX kq X M.2.2) : zpM xs N 170 [.ref 44, .int x1, .int x2] (zy S0 M X) nc ns (zOq (.inl (some (.int (v170 x1 x2 M)))) (zy S0 (r170 x1 x2 M) X)) := by
  intro L0 e
  cases e
  refine zpE_run 6 (L' := [some (.ref 44), some (.int x1), some (.int x2)]) (st' := [.int (Int32.ofInt 1), .int (Int32.ofInt 0), .int x1]) (h' := zy S0 (zmS M 0 (Int32.ofInt 0)) X) rfl ?_
  refine zpE_call rfl rfl (f_112 (M := zmS M 0 (Int32.ofInt 0)) (x1 := x1) (x2 := Int32.ofInt 0) (x3 := Int32.ofInt 1) hX) (fun v h1 nc1 ns1 q8 => ?_) (fun E h1 nc1 ns1 q8 => by cases q8.1)
  obtain ⟨q8, q9⟩ := q8
  cases q8
  cases q9
  refine zpE_if rfl (fun q11 => ?_) (fun q11 => ?_)
  · have z11_0 := zF_n1 q11
    refine zpE_run 3 (L' := [some (.ref 44), some (.int x1), some (.int x2)]) (st' := [.int x2, .int x1, .ref 44]) rfl ?_
    refine zpE_call rfl rfl (f_169 (M := zmS M 0 (Int32.ofInt 0)) (x1 := x1) (x2 := x2) hX) (fun v h1 nc1 ns1 q8 => ?_) (fun E h1 nc1 ns1 q8 => by cases q8.1)
    obtain ⟨q8, q9⟩ := q8
    cases q8
    cases q9
    exact zpE_end rfl rfl (zOr_w (M' := zmS M 0 (Int32.ofInt 0)) (by unfold v170; rw [if_neg z11_0]) (by unfold r170; rw [if_neg z11_0]))
  · have z11_0 := zF_n0 q11
    refine zpE_run 2 (L' := [some (.ref 44), some (.int x1), some (.int x2)]) (st' := [.int (Int32.ofInt 1), .ref 44]) rfl ?_
    refine zpE_call rfl rfl (f_111 (M := zmS M 0 (Int32.ofInt 0)) (x1 := Int32.ofInt 1) hX) (fun v h1 nc1 ns1 q8 => ?_) (fun E h1 nc1 ns1 q8 => by cases q8.1)
    obtain ⟨q8, q9⟩ := q8
    cases q8
    cases q9
    obtain ⟨Z1, hZ1⟩ : ∃ Z, Z = r111 (Int32.ofInt 1) (zmS M 0 (Int32.ofInt 0)) := ⟨_, rfl⟩
    rw [← hZ1]
    have hY1 : zUX kq X Z1.2.2 := by
      rw [hZ1, rl_111]
      exact hX
    exact zpE_end rfl rfl (zOr_w (M' := Z1) (by unfold v170; (try rw [← hZ1]); rw [if_pos z11_0]) (by unfold r170; (try rw [← hZ1]); rw [if_pos z11_0]))
theorem gr_170 {x1 x2 : Int32} : zfrM [0] [] [] (r170 x1 x2 M) M := by
  unfold r170
  exact (gm_ite (gm_c gr_111 (gm_c gm_S gm_rf (by decide) (by decide) (by decide)) (by decide) (by decide) (by decide)) (gm_c gm_S gm_rf (by decide) (by decide) (by decide)))
theorem rl_170 {x1 x2 : Int32} : (r170 x1 x2 M).2.2 = M.2.2 := gm_l gr_170
end ZRE
