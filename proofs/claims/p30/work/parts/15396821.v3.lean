set_option maxRecDepth 20000
section ZRE
variable {S0 : zSt} {M : zRt} {X : zXt} {kq : Nat × Nat × List Value} {xs : List Int32} {N : Nat} {nc ns : Nat}
def t186 (M : zRt) : Int32 := if (Int32.ofInt 40).toInt < (Int32.ofNat (M.2.2.1 2).length).toInt then ((Int32.ofInt 0)) else (if ((M.1 14) + (M.1 15)).toInt < (Int32.ofNat (M.2.2.1 2).length).toInt then ((Int32.ofInt 0)) else ((Int32.ofInt 1)))
theorem e_186t {o1 o2 o3 o4 : Option Value} (hX : zUX kq X M.2.2) : zpE xs N 186 318 [some (.ref 44), o1, o2, o3, o4] [] (zy S0 M X) nc ns (zOq (.inl (some (.int (t186 M)))) (zy S0 M X)) := by
  refine zpE_run 2 (L' := [some (.ref 44), o1, o2, o3, o4]) (st' := [.ref (X.1 2)]) rfl ?_
  obtain ⟨vs1, lc1⟩ := zUX_lc (S0 := S0) (M := M) (i := 2) (by decide) hX
  refine zpE_call rfl (show zcallV 0 10 243 327 (.ref (X.1 2) :: _) (zy S0 M X) = _ from zcallV_eq rfl lc1 (Nat.le_of_ble_eq_true rfl)) (zul_243 (i := 2) (by decide) hX) (fun v h1 nc1 ns1 q8 => ?_) (fun E h1 nc1 ns1 q8 => by cases q8)
  cases q8
  refine zpE_run 1 (L' := [some (.ref 44), o1, o2, o3, o4]) (st' := [.int (Int32.ofInt 40), .int (Int32.ofNat (M.2.2.1 2).length)]) rfl ?_
  refine zpE_icmp rfl (fun q329 => ?_) (fun q329 => ?_)
  · have z329_0 := zF_gt_t q329
    refine zpE_run 1 (L' := [some (.ref 44), o1, o2, o3, o4]) (st' := [.int (Int32.ofInt 0)]) rfl ?_
    exact zpE_end rfl rfl (zOq_v (by unfold t186; rw [if_pos z329_0]))
  · have z329_0 := Int.not_lt.mpr (zF_gt_f q329)
    refine zpE_run 2 (L' := [some (.ref 44), o1, o2, o3, o4]) (st' := [.ref (X.1 2)]) rfl ?_
    obtain ⟨vs2, lc2⟩ := zUX_lc (S0 := S0) (M := M) (i := 2) (by decide) hX
    refine zpE_call rfl (show zcallV 0 10 243 341 (.ref (X.1 2) :: _) (zy S0 M X) = _ from zcallV_eq rfl lc2 (Nat.le_of_ble_eq_true rfl)) (zul_243 (i := 2) (by decide) hX) (fun v h1 nc1 ns1 q8 => ?_) (fun E h1 nc1 ns1 q8 => by cases q8)
    cases q8
    refine zpE_run 5 (L' := [some (.ref 44), o1, o2, o3, o4]) (st' := [.int ((M.1 14) + (M.1 15)), .int (Int32.ofNat (M.2.2.1 2).length)]) rfl ?_
    refine zpE_icmp rfl (fun q350 => ?_) (fun q350 => ?_)
    · have z350_1 := zF_gt_t q350
      refine zpE_run 1 (L' := [some (.ref 44), o1, o2, o3, o4]) (st' := [.int (Int32.ofInt 0)]) rfl ?_
      exact zpE_end rfl rfl (zOq_v (by unfold t186; rw [if_neg z329_0, if_pos z350_1]))
    · have z350_1 := Int.not_lt.mpr (zF_gt_f q350)
      refine zpE_run 2 (L' := [some (.ref 44), o1, o2, o3, o4]) (st' := [.int (Int32.ofInt 1)]) rfl ?_
      exact zpE_end rfl rfl (zOq_v (by unfold t186; rw [if_neg z329_0, if_neg z350_1]))
def q186d (M : zRt) : Nat → Nat → Int32
  | 0, _ => t186 M
  | m + 1, k => if (zgt (M.2.1 20) ((Int32.ofNat k))).toInt < ((0 : Int32)).toInt then ((Int32.ofInt 0)) else (q186d M m (k + 1))
theorem l_186d (hX : zUX kq X M.2.2) : ∀ (N k m : Nat) (o4 : Option Value) (nc ns : Nat), k + m = (Int32.ofNat (M.2.1 20).length).toInt.toNat → zpE xs N 186 295 [some (.ref 44), some (.ref 67), some (.int (Int32.ofNat (M.2.1 20).length)), some (.int (Int32.ofNat k)), o4] [] (zy S0 M X) nc ns (zOq (.inl (some (.int (q186d M m k)))) (zy S0 M X))
  | 0, _, _, _, _, _, _ => zpE_0
  | N + 1, k, m0, o4, nc, ns, hk => by
    refine zpE_run1 1 (L' := [some (.ref 44), some (.ref 67), some (.int (Int32.ofNat (M.2.1 20).length)), some (.int (Int32.ofNat k)), o4]) (st' := [.int (Int32.ofNat (M.2.1 20).length), .int (Int32.ofNat k)]) rfl ?_
    refine zpE_icmp rfl (fun q297 => ?_) (fun q297 => ?_)
    · have z297_0 := Int.not_lt.mpr (zF_ge_t q297)
      rw [show q186d M m0 k = t186 M from by rw [zlp_o2 z297_0 hk]; rfl]
      exact e_186t hX
    · have z297_0 := zF_ge_f q297
      obtain ⟨m, rfl⟩ := zlp_i2 z297_0 hk
      have eQ : q186d M (m + 1) k = if (zgt (M.2.1 20) ((Int32.ofNat k))).toInt < ((0 : Int32)).toInt then ((Int32.ofInt 0)) else (q186d M m (k + 1)) := rfl
      refine zpE_run 2 (L' := [some (.ref 44), some (.ref 67), some (.int (Int32.ofNat (M.2.1 20).length)), some (.int (Int32.ofNat k)), o4]) (st' := [.int (Int32.ofNat k), .ref 67]) rfl ?_
      refine zpE_aly rfl (zy_g67 (M := M)) (fun _ _ => ?_)
      refine zpE_gen (fun nc ns => ?_)
      refine zpE_run 2 (L' := [some (.ref 44), some (.ref 67), some (.int (Int32.ofNat (M.2.1 20).length)), some (.int (Int32.ofNat k)), some (.int (zgt (M.2.1 20) (Int32.ofNat k)))]) (st' := [.int (zgt (M.2.1 20) (Int32.ofNat k))]) rfl ?_
      refine zpE_if rfl (fun q307 => ?_) (fun q307 => ?_)
      · have z307_1 := Int.not_lt.mpr (zF_ge_t q307)
        refine zpE_run 2 (L' := [some (.ref 44), some (.ref 67), some (.int (Int32.ofNat (M.2.1 20).length)), some (.int ((Int32.ofNat k) + Int32.ofInt 1)), some (.int (zgt (M.2.1 20) (Int32.ofNat k)))]) (st' := []) rfl ?_
        have K := fun o4 nc ns => l_186d hX N (k + 1) m o4 nc ns (by omega)
        rw [← zof1] at K
        rw [eQ, if_neg z307_1]
        exact K _ _ _
      · have z307_1 := zF_ge_f q307
        refine zpE_run 1 (L' := [some (.ref 44), some (.ref 67), some (.int (Int32.ofNat (M.2.1 20).length)), some (.int (Int32.ofNat k)), some (.int (zgt (M.2.1 20) (Int32.ofNat k)))]) (st' := [.int (Int32.ofInt 0)]) rfl ?_
        exact zpE_end rfl rfl (by rw [eQ, if_pos z307_1]; exact zOq_v rfl)
def v186d (M : zRt) : Int32 := q186d M (Int32.ofNat (M.2.1 20).length).toInt.toNat 0
theorem e_186d {o1 o2 o3 o4 : Option Value} (hX : zUX kq X M.2.2) : zpE xs N 186 285 [some (.ref 44), o1, o2, o3, o4] [] (zy S0 M X) nc ns (zOq (.inl (some (.int (v186d M)))) (zy S0 M X)) := by
  refine zpE_run 4 (L' := [some (.ref 44), some (.ref 67), o2, o3, o4]) (st' := [.ref 67]) rfl ?_
  refine zpE_alen rfl rfl (by decide) ?_
  rw [List.length_map]
  refine zpE_run 3 rfl ?_
  exact l_186d hX N 0 _ _ _ _ (Nat.zero_add _)
def p186c (a : Nat) (M : zRt) : Nat → Nat → Bool
  | 0, _ => true
  | m + 1, k => if (zgt (M.2.1 22) (Int32.ofNat a)) = (zgt (M.2.1 22) ((Int32.ofNat k))) then false else (p186c a M m (k + 1))
theorem l_186ci {a N0 k0 m0 : Nat} {o3 o4 : Option Value} {P : zO → Prop} (hX : zUX kq X M.2.2) (K : p186c a M m0 k0 = true → ∀ (o2 : Option Value) (nc ns : Nat), zpE xs N0 186 279 [some (.ref 44), some (.int (Int32.ofNat a)), o2, o3, o4] [] (zy S0 M X) nc ns P) (H : p186c a M m0 k0 = false → ∀ o, zOq (.inl (some (.int (Int32.ofInt 0)))) (zy S0 M X) o → P o) : ∀ (N k m : Nat) (nc ns : Nat), N ≤ N0 → k + m = (Int32.ofNat a).toInt.toNat → p186c a M m0 k0 = p186c a M m k → zpE xs N 186 251 [some (.ref 44), some (.int (Int32.ofNat a)), some (.int (Int32.ofNat k)), o3, o4] [] (zy S0 M X) nc ns P
  | 0, _, _, _, _, _, _, _ => zpE_0
  | N + 1, k, m0, nc, ns, hN, hk, hq => by
    refine zpE_run1 1 (L' := [some (.ref 44), some (.int (Int32.ofNat a)), some (.int (Int32.ofNat k)), o3, o4]) (st' := [.int (Int32.ofNat a), .int (Int32.ofNat k)]) rfl ?_
    refine zpE_icmp rfl (fun q253 => ?_) (fun q253 => ?_)
    · have z253_0 := Int.not_lt.mpr (zF_ge_t q253)
      rw [zlp_o2 z253_0 hk] at hq
      exact zpE_le (by omega) (K hq _ _ _)
    · have z253_0 := zF_ge_f q253
      obtain ⟨m, rfl⟩ := zlp_i2 z253_0 hk
      have eQ : p186c a M (m + 1) k = if (zgt (M.2.1 22) (Int32.ofNat a)) = (zgt (M.2.1 22) ((Int32.ofNat k))) then false else (p186c a M m (k + 1)) := rfl
      refine zpE_run 3 (L' := [some (.ref 44), some (.int (Int32.ofNat a)), some (.int (Int32.ofNat k)), o3, o4]) (st' := [.int (Int32.ofNat a), .ref 69]) rfl ?_
      refine zpE_aly rfl (zy_g69 (M := M)) (fun _ _ => ?_)
      refine zpE_gen (fun nc ns => ?_)
      refine zpE_run 3 (L' := [some (.ref 44), some (.int (Int32.ofNat a)), some (.int (Int32.ofNat k)), o3, o4]) (st' := [.int (Int32.ofNat k), .ref 69, .int (zgt (M.2.1 22) (Int32.ofNat a))]) rfl ?_
      refine zpE_aly rfl (zy_g69 (M := M)) (fun _ _ => ?_)
      refine zpE_gen (fun nc ns => ?_)
      refine zpE_icmp rfl (fun q268 => ?_) (fun q268 => ?_)
      · have z268_1 := zF_n1 q268
        refine zpE_run 2 (L' := [some (.ref 44), some (.int (Int32.ofNat a)), some (.int ((Int32.ofNat k) + Int32.ofInt 1)), o3, o4]) (st' := []) rfl ?_
        have K9 := fun nc ns => l_186ci hX K H N (k + 1) m nc ns (by omega) (by omega) (hq.trans (by rw [eQ, if_neg z268_1]))
        rw [← zof1] at K9
        exact K9 _ _
      · have z268_1 := zF_n0 q268
        refine zpE_run 1 (L' := [some (.ref 44), some (.int (Int32.ofNat a)), some (.int (Int32.ofNat k)), o3, o4]) (st' := [.int (Int32.ofInt 0)]) rfl ?_
        exact zpE_end rfl rfl (H (hq.trans (by rw [eQ, if_pos z268_1])) _ (zOq_v rfl))
def q186c (M : zRt) : Nat → Nat → Int32
  | 0, _ => v186d M
  | m + 1, k => if p186c k M (Int32.ofNat k).toInt.toNat 0 = true then q186c M m (k + 1) else Int32.ofInt 0
theorem l_186c (hX : zUX kq X M.2.2) : ∀ (N k m : Nat) (o2 : Option Value) (o3 : Option Value) (o4 : Option Value) (nc ns : Nat), k + m = (Int32.ofNat (M.2.1 22).length).toInt.toNat → zpE xs N 186 240 [some (.ref 44), some (.int (Int32.ofNat k)), o2, o3, o4] [] (zy S0 M X) nc ns (zOq (.inl (some (.int (q186c M m k)))) (zy S0 M X))
  | 0, _, _, _, _, _, _, _, _ => zpE_0
  | N + 1, k, m0, o2, o3, o4, nc, ns, hk => by
    refine zpE_run1 2 (L' := [some (.ref 44), some (.int (Int32.ofNat k)), o2, o3, o4]) (st' := [.ref 69, .int (Int32.ofNat k)]) rfl ?_
    refine zpE_alen rfl rfl (by decide) ?_
    rw [List.length_map]
    refine zpE_icmp rfl (fun q246 => ?_) (fun q246 => ?_)
    · have z246_0 := Int.not_lt.mpr (zF_ge_t q246)
      rw [show q186c M m0 k = v186d M from by rw [zlp_o2 z246_0 hk]; rfl]
      exact e_186d hX
    · have z246_0 := zF_ge_f q246
      obtain ⟨m, rfl⟩ := zlp_i2 z246_0 hk
      have eQ : q186c M (m + 1) k = if p186c k M (Int32.ofNat k).toInt.toNat 0 = true then q186c M m (k + 1) else Int32.ofInt 0 := rfl
      refine zpE_run 2 (L' := [some (.ref 44), some (.int (Int32.ofNat k)), some (.int (Int32.ofNat 0)), o3, o4]) (st' := []) rfl ?_
      rw [eQ]
      refine l_186ci (a := k) (N0 := N) (m0 := (Int32.ofNat k).toInt.toNat) (k0 := 0) hX (fun e o2 nc ns => ?_) (fun e o ho => ?_) N _ _ _ _ (Nat.le_refl _) (Nat.zero_add _) rfl
      · rw [if_pos e]
        refine zpE_run 2 (L' := [some (.ref 44), some (.int (Int32.ofNat k + Int32.ofInt 1)), o2, o3, o4]) (st' := []) rfl ?_
        rw [zof1]
        exact l_186c hX N (k + 1) m _ _ _ _ _ (by omega)
      · rw [if_neg (by rw [e]; exact Bool.false_ne_true)]
        exact ho
def v186c (M : zRt) : Int32 := q186c M (Int32.ofNat (M.2.1 22).length).toInt.toNat 0
theorem e_186c {o1 o2 o3 o4 : Option Value} (hX : zUX kq X M.2.2) : zpE xs N 186 238 [some (.ref 44), o1, o2, o3, o4] [] (zy S0 M X) nc ns (zOq (.inl (some (.int (v186c M)))) (zy S0 M X)) := by
  refine zpE_run 2 (L' := [some (.ref 44), some (.int (Int32.ofNat 0)), o2, o3, o4]) (st' := []) rfl ?_
  exact l_186c hX N 0 _ _ _ _ _ _ (Nat.zero_add _)
def p186b (a : Nat) (M : zRt) : Nat → Nat → Int32 → Int32
  | 0, _, u => u
  | m + 1, k, u => if (zgt ((M.2.2.1 0).getD (Int32.toNatClampNeg ((Int32.ofNat k))) []) (Int32.ofInt 0)) = (zgt ((M.2.2.1 0).getD (Int32.toNatClampNeg (Int32.ofNat a)) []) (Int32.ofInt 0)) then (if (zgt ((M.2.2.1 0).getD (Int32.toNatClampNeg ((Int32.ofNat k))) []) (Int32.ofInt 1)) = (zgt ((M.2.2.1 0).getD (Int32.toNatClampNeg (Int32.ofNat a)) []) (Int32.ofInt 1)) then (if (zgt ((M.2.2.1 0).getD (Int32.toNatClampNeg ((Int32.ofNat k))) []) (Int32.ofInt 2)) = (zgt ((M.2.2.1 0).getD (Int32.toNatClampNeg (Int32.ofNat a)) []) (Int32.ofInt 2)) then (p186b a M m (k + 1) (u &&& (Int32.ofInt 0))) else (p186b a M m (k + 1) (u &&& (Int32.ofInt 1)))) else (p186b a M m (k + 1) (u &&& (Int32.ofInt 1)))) else (p186b a M m (k + 1) (u &&& (Int32.ofInt 1)))
theorem l_186bi {a N0 : Nat} {P : zO → Prop} (hX : zUX kq X M.2.2) (hR : ¬ Int32.ofNat a < 0 ∧ (Int32.toNatClampNeg (Int32.ofNat a)) < (M.2.2.1 0).length) : ∀ (N k m : Nat) (u : Int32) (nc ns : Nat), N ≤ N0 → k + m = (Int32.ofNat (M.2.2.1 0).length).toInt.toNat → (∀ (o4 : Option Value) (nc ns : Nat), zpE xs N0 186 193 [some (.ref 44), some (.int (Int32.ofNat a)), some (.ref (zel X 0 (Int32.ofNat a))), some (.int (p186b a M m k u)), o4] [] (zy S0 M X) nc ns P) → zpE xs N 186 99 [some (.ref 44), some (.int (Int32.ofNat a)), some (.ref (zel X 0 (Int32.ofNat a))), some (.int u), some (.int (Int32.ofNat k))] [] (zy S0 M X) nc ns P
  | 0, _, _, _, _, _, _, _, _ => zpE_0
  | N + 1, k, m0, u, nc, ns, hN, hk, K => by
    refine zpE_run1 2 (L' := [some (.ref 44), some (.int (Int32.ofNat a)), some (.ref (zel X 0 (Int32.ofNat a))), some (.int u), some (.int (Int32.ofNat k))]) (st' := [.ref (X.1 0), .int (Int32.ofNat k)]) rfl ?_
    obtain ⟨vs1, lc1⟩ := zUX_lc (S0 := S0) (M := M) (i := 0) (by decide) hX
    refine zpE_call rfl (show zcallV 0 10 243 110 (.ref (X.1 0) :: _) (zy S0 M X) = _ from zcallV_eq rfl lc1 (Nat.le_of_ble_eq_true rfl)) (zul_243 (i := 0) (by decide) hX) (fun v h1 nc1 ns1 q8 => ?_) (fun E h1 nc1 ns1 q8 => by cases q8)
    cases q8
    refine zpE_icmp rfl (fun q110 => ?_) (fun q110 => ?_)
    · have z110_0 := Int.not_lt.mpr (zF_ge_t q110)
      rw [zlp_o2 z110_0 hk] at K
      exact zpE_le (by omega) (K _ _ _)
    · have z110_0 := zF_ge_f q110
      obtain ⟨m, rfl⟩ := zlp_i2 z110_0 hk
      have eQ : p186b a M (m + 1) k u = if (zgt ((M.2.2.1 0).getD (Int32.toNatClampNeg ((Int32.ofNat k))) []) (Int32.ofInt 0)) = (zgt ((M.2.2.1 0).getD (Int32.toNatClampNeg (Int32.ofNat a)) []) (Int32.ofInt 0)) then (if (zgt ((M.2.2.1 0).getD (Int32.toNatClampNeg ((Int32.ofNat k))) []) (Int32.ofInt 1)) = (zgt ((M.2.2.1 0).getD (Int32.toNatClampNeg (Int32.ofNat a)) []) (Int32.ofInt 1)) then (if (zgt ((M.2.2.1 0).getD (Int32.toNatClampNeg ((Int32.ofNat k))) []) (Int32.ofInt 2)) = (zgt ((M.2.2.1 0).getD (Int32.toNatClampNeg (Int32.ofNat a)) []) (Int32.ofInt 2)) then (p186b a M m (k + 1) (u &&& (Int32.ofInt 0))) else (p186b a M m (k + 1) (u &&& (Int32.ofInt 1)))) else (p186b a M m (k + 1) (u &&& (Int32.ofInt 1)))) else (p186b a M m (k + 1) (u &&& (Int32.ofInt 1))) := rfl
      refine zpE_run 4 (L' := [some (.ref 44), some (.int (Int32.ofNat a)), some (.ref (zel X 0 (Int32.ofNat a))), some (.int u), some (.int (Int32.ofNat k))]) (st' := [.int (Int32.ofNat k), .ref (X.1 0), .int u]) rfl ?_
      have n2 : ¬ (Int32.ofNat k) < 0 ∧ (Int32.toNatClampNeg (Int32.ofNat k)) < (M.2.2.1 0).length := zlp_rg2 (n := 3) (i := 0) (by decide) hX z110_0 hk
      obtain ⟨vs3, lc3⟩ := zUX_lc (S0 := S0) (M := M) (i := 0) (by decide) hX
      refine zpE_call rfl (show zcallV 1 10 239 125 (.int (Int32.ofNat k) :: .ref (X.1 0) :: _) (zy S0 M X) = _ from zcallV_eq rfl lc3 (Nat.le_of_ble_eq_true rfl)) (zul_239 (i := 0) (j := Int32.ofNat k) (by decide) hX n2) (fun v h1 nc1 ns1 q8 => ?_) (fun E h1 nc1 ns1 q8 => by cases q8)
      cases q8
      refine zpE_chk rfl (zUX_e hX n2) ?_
      refine zpE_run 1 (L' := [some (.ref 44), some (.int (Int32.ofNat a)), some (.ref (zel X 0 (Int32.ofNat a))), some (.int u), some (.int (Int32.ofNat k))]) (st' := [.int (Int32.ofInt 0), .ref (zel X 0 (Int32.ofNat k)), .int u]) rfl ?_
      refine zpE_aly rfl (zUX_e hX n2) (fun _ _ => ?_)
      refine zpE_gen (fun nc ns => ?_)
      refine zpE_run 2 (L' := [some (.ref 44), some (.int (Int32.ofNat a)), some (.ref (zel X 0 (Int32.ofNat a))), some (.int u), some (.int (Int32.ofNat k))]) (st' := [.int (Int32.ofInt 0), .ref (zel X 0 (Int32.ofNat a)), .int (zgt ((M.2.2.1 0).getD (Int32.toNatClampNeg (Int32.ofNat k)) []) (Int32.ofInt 0)), .int u]) rfl ?_
      refine zpE_aly rfl (zUX_e hX hR) (fun _ _ => ?_)
      refine zpE_gen (fun nc ns => ?_)
      refine zpE_icmp rfl (fun q133 => ?_) (fun q133 => ?_)
      · have z133_1 := zF_n1 q133
        refine zpE_run 6 (L' := [some (.ref 44), some (.int (Int32.ofNat a)), some (.ref (zel X 0 (Int32.ofNat a))), some (.int (u &&& (Int32.ofInt 1))), some (.int ((Int32.ofNat k) + Int32.ofInt 1))]) (st' := []) rfl ?_
        rw [eQ, if_neg z133_1] at K
        have K9 := fun nc ns => l_186bi hX hR N (k + 1) m (u &&& (Int32.ofInt 1)) nc ns (by omega) (by omega) K
        rw [← zof1] at K9
        exact K9 _ _
      · have z133_1 := zF_n0 q133
        refine zpE_run 3 (L' := [some (.ref 44), some (.int (Int32.ofNat a)), some (.ref (zel X 0 (Int32.ofNat a))), some (.int u), some (.int (Int32.ofNat k))]) (st' := [.int (Int32.ofNat k), .ref (X.1 0), .int u]) rfl ?_
        have n4 : ¬ (Int32.ofNat k) < 0 ∧ (Int32.toNatClampNeg (Int32.ofNat k)) < (M.2.2.1 0).length := zlp_rg2 (n := 3) (i := 0) (by decide) hX z110_0 hk
        obtain ⟨vs5, lc5⟩ := zUX_lc (S0 := S0) (M := M) (i := 0) (by decide) hX
        refine zpE_call rfl (show zcallV 1 10 239 147 (.int (Int32.ofNat k) :: .ref (X.1 0) :: _) (zy S0 M X) = _ from zcallV_eq rfl lc5 (Nat.le_of_ble_eq_true rfl)) (zul_239 (i := 0) (j := Int32.ofNat k) (by decide) hX n4) (fun v h1 nc1 ns1 q8 => ?_) (fun E h1 nc1 ns1 q8 => by cases q8)
        cases q8
        refine zpE_chk rfl (zUX_e hX n4) ?_
        refine zpE_run 1 (L' := [some (.ref 44), some (.int (Int32.ofNat a)), some (.ref (zel X 0 (Int32.ofNat a))), some (.int u), some (.int (Int32.ofNat k))]) (st' := [.int (Int32.ofInt 1), .ref (zel X 0 (Int32.ofNat k)), .int u]) rfl ?_
        refine zpE_aly rfl (zUX_e hX n4) (fun _ _ => ?_)
        refine zpE_gen (fun nc ns => ?_)
        refine zpE_run 2 (L' := [some (.ref 44), some (.int (Int32.ofNat a)), some (.ref (zel X 0 (Int32.ofNat a))), some (.int u), some (.int (Int32.ofNat k))]) (st' := [.int (Int32.ofInt 1), .ref (zel X 0 (Int32.ofNat a)), .int (zgt ((M.2.2.1 0).getD (Int32.toNatClampNeg (Int32.ofNat k)) []) (Int32.ofInt 1)), .int u]) rfl ?_
        refine zpE_aly rfl (zUX_e hX hR) (fun _ _ => ?_)
        refine zpE_gen (fun nc ns => ?_)
        refine zpE_icmp rfl (fun q155 => ?_) (fun q155 => ?_)
        · have z155_2 := zF_n1 q155
          refine zpE_run 6 (L' := [some (.ref 44), some (.int (Int32.ofNat a)), some (.ref (zel X 0 (Int32.ofNat a))), some (.int (u &&& (Int32.ofInt 1))), some (.int ((Int32.ofNat k) + Int32.ofInt 1))]) (st' := []) rfl ?_
          rw [eQ, if_pos z133_1, if_neg z155_2] at K
          have K9 := fun nc ns => l_186bi hX hR N (k + 1) m (u &&& (Int32.ofInt 1)) nc ns (by omega) (by omega) K
          rw [← zof1] at K9
          exact K9 _ _
        · have z155_2 := zF_n0 q155
          refine zpE_run 3 (L' := [some (.ref 44), some (.int (Int32.ofNat a)), some (.ref (zel X 0 (Int32.ofNat a))), some (.int u), some (.int (Int32.ofNat k))]) (st' := [.int (Int32.ofNat k), .ref (X.1 0), .int u]) rfl ?_
          have n6 : ¬ (Int32.ofNat k) < 0 ∧ (Int32.toNatClampNeg (Int32.ofNat k)) < (M.2.2.1 0).length := zlp_rg2 (n := 3) (i := 0) (by decide) hX z110_0 hk
          obtain ⟨vs7, lc7⟩ := zUX_lc (S0 := S0) (M := M) (i := 0) (by decide) hX
          refine zpE_call rfl (show zcallV 1 10 239 169 (.int (Int32.ofNat k) :: .ref (X.1 0) :: _) (zy S0 M X) = _ from zcallV_eq rfl lc7 (Nat.le_of_ble_eq_true rfl)) (zul_239 (i := 0) (j := Int32.ofNat k) (by decide) hX n6) (fun v h1 nc1 ns1 q8 => ?_) (fun E h1 nc1 ns1 q8 => by cases q8)
          cases q8
          refine zpE_chk rfl (zUX_e hX n6) ?_
          refine zpE_run 1 (L' := [some (.ref 44), some (.int (Int32.ofNat a)), some (.ref (zel X 0 (Int32.ofNat a))), some (.int u), some (.int (Int32.ofNat k))]) (st' := [.int (Int32.ofInt 2), .ref (zel X 0 (Int32.ofNat k)), .int u]) rfl ?_
          refine zpE_aly rfl (zUX_e hX n6) (fun _ _ => ?_)
          refine zpE_gen (fun nc ns => ?_)
          refine zpE_run 2 (L' := [some (.ref 44), some (.int (Int32.ofNat a)), some (.ref (zel X 0 (Int32.ofNat a))), some (.int u), some (.int (Int32.ofNat k))]) (st' := [.int (Int32.ofInt 2), .ref (zel X 0 (Int32.ofNat a)), .int (zgt ((M.2.2.1 0).getD (Int32.toNatClampNeg (Int32.ofNat k)) []) (Int32.ofInt 2)), .int u]) rfl ?_
          refine zpE_aly rfl (zUX_e hX hR) (fun _ _ => ?_)
          refine zpE_gen (fun nc ns => ?_)
          refine zpE_icmp rfl (fun q177 => ?_) (fun q177 => ?_)
          · have z177_3 := zF_e1 q177
            refine zpE_run 5 (L' := [some (.ref 44), some (.int (Int32.ofNat a)), some (.ref (zel X 0 (Int32.ofNat a))), some (.int (u &&& (Int32.ofInt 0))), some (.int ((Int32.ofNat k) + Int32.ofInt 1))]) (st' := []) rfl ?_
            rw [eQ, if_pos z133_1, if_pos z155_2, if_pos z177_3] at K
            have K9 := fun nc ns => l_186bi hX hR N (k + 1) m (u &&& (Int32.ofInt 0)) nc ns (by omega) (by omega) K
            rw [← zof1] at K9
            exact K9 _ _
          · have z177_3 := zF_e0 q177
            refine zpE_run 6 (L' := [some (.ref 44), some (.int (Int32.ofNat a)), some (.ref (zel X 0 (Int32.ofNat a))), some (.int (u &&& (Int32.ofInt 1))), some (.int ((Int32.ofNat k) + Int32.ofInt 1))]) (st' := []) rfl ?_
            rw [eQ, if_pos z133_1, if_pos z155_2, if_neg z177_3] at K
            have K9 := fun nc ns => l_186bi hX hR N (k + 1) m (u &&& (Int32.ofInt 1)) nc ns (by omega) (by omega) K
            rw [← zof1] at K9
            exact K9 _ _
def q186b (M : zRt) : Nat → Nat → Int32
  | 0, _ => v186c M
  | m + 1, k => if ((p186b k M ((Int32.ofNat (M.2.2.1 0).length).toInt.toNat - (k + 1)) (k + 1) (Int32.ofInt 1))) = ((0 : Int32)) then (q186b M m (k + 1)) else (if (zgt ((M.2.2.1 0).getD (Int32.toNatClampNeg (Int32.ofNat k)) []) (Int32.ofInt 3)) = (Int32.ofInt 1) then (if (v113 (zgt (M.2.1 (Int32.toNatClampNeg (zgt ((M.2.2.1 0).getD (Int32.toNatClampNeg (Int32.ofNat k)) []) (Int32.ofInt 0)))) (zgt ((M.2.2.1 0).getD (Int32.toNatClampNeg (Int32.ofNat k)) []) (Int32.ofInt 1))) (zgt ((M.2.2.1 0).getD (Int32.toNatClampNeg (Int32.ofNat k)) []) (Int32.ofInt 2)) M) = (Int32.ofInt 1) then (q186b M m (k + 1)) else ((Int32.ofInt 0))) else (if (v113 (zgt (M.2.1 (Int32.toNatClampNeg (zgt ((M.2.2.1 0).getD (Int32.toNatClampNeg (Int32.ofNat k)) []) (Int32.ofInt 0)))) (zgt ((M.2.2.1 0).getD (Int32.toNatClampNeg (Int32.ofNat k)) []) (Int32.ofInt 1))) (zgt ((M.2.2.1 0).getD (Int32.toNatClampNeg (Int32.ofNat k)) []) (Int32.ofInt 2)) M) = (Int32.ofInt 0) then (q186b M m (k + 1)) else ((Int32.ofInt 0))))
theorem l_186b (hX : zUX kq X M.2.2) : ∀ (N k m : Nat) (o2 : Option Value) (o3 : Option Value) (o4 : Option Value) (nc ns : Nat), k + m = (Int32.ofNat (M.2.2.1 0).length).toInt.toNat → zpE xs N 186 65 [some (.ref 44), some (.int (Int32.ofNat k)), o2, o3, o4] [] (zy S0 M X) nc ns (zOq (.inl (some (.int (q186b M m k)))) (zy S0 M X))
  | 0, _, _, _, _, _, _, _, _ => zpE_0
  | N + 1, k, m0, o2, o3, o4, nc, ns, hk => by
    refine zpE_run1 2 (L' := [some (.ref 44), some (.int (Int32.ofNat k)), o2, o3, o4]) (st' := [.ref (X.1 0), .int (Int32.ofNat k)]) rfl ?_
    obtain ⟨vs1, lc1⟩ := zUX_lc (S0 := S0) (M := M) (i := 0) (by decide) hX
    refine zpE_call rfl (show zcallV 0 10 243 75 (.ref (X.1 0) :: _) (zy S0 M X) = _ from zcallV_eq rfl lc1 (Nat.le_of_ble_eq_true rfl)) (zul_243 (i := 0) (by decide) hX) (fun v h1 nc1 ns1 q8 => ?_) (fun E h1 nc1 ns1 q8 => by cases q8)
    cases q8
    refine zpE_icmp rfl (fun q75 => ?_) (fun q75 => ?_)
    · have z75_0 := Int.not_lt.mpr (zF_ge_t q75)
      rw [show q186b M m0 k = v186c M from by rw [zlp_o2 z75_0 hk]; rfl]
      exact e_186c hX
    · have z75_0 := zF_ge_f q75
      obtain ⟨m, rfl⟩ := zlp_i2 z75_0 hk
      have eQ : q186b M (m + 1) k = if ((p186b k M ((Int32.ofNat (M.2.2.1 0).length).toInt.toNat - (k + 1)) (k + 1) (Int32.ofInt 1))) = ((0 : Int32)) then (q186b M m (k + 1)) else (if (zgt ((M.2.2.1 0).getD (Int32.toNatClampNeg (Int32.ofNat k)) []) (Int32.ofInt 3)) = (Int32.ofInt 1) then (if (v113 (zgt (M.2.1 (Int32.toNatClampNeg (zgt ((M.2.2.1 0).getD (Int32.toNatClampNeg (Int32.ofNat k)) []) (Int32.ofInt 0)))) (zgt ((M.2.2.1 0).getD (Int32.toNatClampNeg (Int32.ofNat k)) []) (Int32.ofInt 1))) (zgt ((M.2.2.1 0).getD (Int32.toNatClampNeg (Int32.ofNat k)) []) (Int32.ofInt 2)) M) = (Int32.ofInt 1) then (q186b M m (k + 1)) else ((Int32.ofInt 0))) else (if (v113 (zgt (M.2.1 (Int32.toNatClampNeg (zgt ((M.2.2.1 0).getD (Int32.toNatClampNeg (Int32.ofNat k)) []) (Int32.ofInt 0)))) (zgt ((M.2.2.1 0).getD (Int32.toNatClampNeg (Int32.ofNat k)) []) (Int32.ofInt 1))) (zgt ((M.2.2.1 0).getD (Int32.toNatClampNeg (Int32.ofNat k)) []) (Int32.ofInt 2)) M) = (Int32.ofInt 0) then (q186b M m (k + 1)) else ((Int32.ofInt 0)))) := rfl
      refine zpE_run 3 (L' := [some (.ref 44), some (.int (Int32.ofNat k)), o2, o3, o4]) (st' := [.int (Int32.ofNat k), .ref (X.1 0)]) rfl ?_
      have n2 : ¬ (Int32.ofNat k) < 0 ∧ (Int32.toNatClampNeg (Int32.ofNat k)) < (M.2.2.1 0).length := zlp_rg2 (n := 3) (i := 0) (by decide) hX z75_0 hk
      obtain ⟨vs3, lc3⟩ := zUX_lc (S0 := S0) (M := M) (i := 0) (by decide) hX
      refine zpE_call rfl (show zcallV 1 10 239 88 (.int (Int32.ofNat k) :: .ref (X.1 0) :: _) (zy S0 M X) = _ from zcallV_eq rfl lc3 (Nat.le_of_ble_eq_true rfl)) (zul_239 (i := 0) (j := Int32.ofNat k) (by decide) hX n2) (fun v h1 nc1 ns1 q8 => ?_) (fun E h1 nc1 ns1 q8 => by cases q8)
      cases q8
      refine zpE_chk rfl (zUX_e hX n2) ?_
      refine zpE_run 7 (L' := [some (.ref 44), some (.int (Int32.ofNat k)), some (.ref (zel X 0 (Int32.ofNat k))), some (.int (Int32.ofInt 1)), some (.int (Int32.ofNat k + Int32.ofInt 1))]) (st' := []) rfl ?_
      rw [zof1]
      have hR : ¬ Int32.ofNat k < 0 ∧ (Int32.toNatClampNeg (Int32.ofNat k)) < (M.2.2.1 0).length := zlp_rg2 (n := 3) (i := 0) (by decide) hX z75_0 hk
      refine l_186bi (N0 := N) hX hR N (k + 1) ((Int32.ofNat (M.2.2.1 0).length).toInt.toNat - (k + 1)) _ _ _ (Nat.le_refl _) (by omega) (fun o4 nc ns => ?_)
      refine zpE_run 1 (L' := [some (.ref 44), some (.int (Int32.ofNat k)), some (.ref (zel X 0 (Int32.ofNat k))), some (.int ((p186b k M ((Int32.ofNat (M.2.2.1 0).length).toInt.toNat - (k + 1)) (k + 1) (Int32.ofInt 1)))), o4]) (st' := [.int ((p186b k M ((Int32.ofNat (M.2.2.1 0).length).toInt.toNat - (k + 1)) (k + 1) (Int32.ofInt 1)))]) rfl ?_
      refine zpE_if rfl (fun q194 => ?_) (fun q194 => ?_)
      · have z194_0 := zF_e1 q194
        refine zpE_run 2 (L' := [some (.ref 44), some (.int ((Int32.ofNat k) + Int32.ofInt 1)), some (.ref (zel X 0 (Int32.ofNat k))), some (.int ((p186b k M ((Int32.ofNat (M.2.2.1 0).length).toInt.toNat - (k + 1)) (k + 1) (Int32.ofInt 1)))), o4]) (st' := []) rfl ?_
        rw [zof1, eQ, if_pos z194_0]
        exact l_186b hX N (k + 1) m _ _ _ _ _ (by omega)
      · have z194_0 := zF_e0 q194
        refine zpE_run 4 (L' := [some (.ref 44), some (.int (Int32.ofNat k)), some (.ref (zel X 0 (Int32.ofNat k))), some (.int ((p186b k M ((Int32.ofNat (M.2.2.1 0).length).toInt.toNat - (k + 1)) (k + 1) (Int32.ofInt 1)))), o4]) (st' := [.int (Int32.ofInt 0), .ref (zel X 0 (Int32.ofNat k)), .ref 46]) rfl ?_
        refine zpE_aly rfl (zUX_e hX hR) (fun _ _ => ?_)
        refine zpE_gen (fun nc ns => ?_)
        refine zpE_aaw rfl rfl (fun n1a n1 => ?_)
        replace n1 := And.intro n1a n1
        refine zpE_run 2 (L' := [some (.ref 44), some (.int (Int32.ofNat k)), some (.ref (zel X 0 (Int32.ofNat k))), some (.int ((p186b k M ((Int32.ofNat (M.2.2.1 0).length).toInt.toNat - (k + 1)) (k + 1) (Int32.ofInt 1)))), o4]) (st' := [.int (Int32.ofInt 1), .ref (zel X 0 (Int32.ofNat k)), .ref (47 + Int32.toNatClampNeg (zgt ((M.2.2.1 0).getD (Int32.toNatClampNeg (Int32.ofNat k)) []) (Int32.ofInt 0)))]) rfl ?_
        refine zpE_aly rfl (zUX_e hX hR) (fun _ _ => ?_)
        refine zpE_gen (fun nc ns => ?_)
        refine zpE_aly rfl (zy_row n1.2) (fun _ _ => ?_)
        refine zpE_gen (fun nc ns => ?_)
        refine zpE_run 2 (L' := [some (.ref 44), some (.int (Int32.ofNat k)), some (.ref (zel X 0 (Int32.ofNat k))), some (.int ((p186b k M ((Int32.ofNat (M.2.2.1 0).length).toInt.toNat - (k + 1)) (k + 1) (Int32.ofInt 1)))), o4]) (st' := [.int (Int32.ofInt 2), .ref (zel X 0 (Int32.ofNat k)), .int (zgt (M.2.1 (Int32.toNatClampNeg (zgt ((M.2.2.1 0).getD (Int32.toNatClampNeg (Int32.ofNat k)) []) (Int32.ofInt 0)))) (zgt ((M.2.2.1 0).getD (Int32.toNatClampNeg (Int32.ofNat k)) []) (Int32.ofInt 1)))]) rfl ?_
        refine zpE_aly rfl (zUX_e hX hR) (fun _ _ => ?_)
        refine zpE_gen (fun nc ns => ?_)
        refine zpE_call rfl rfl (f_113 (M := M) (x1 := zgt (M.2.1 (Int32.toNatClampNeg (zgt ((M.2.2.1 0).getD (Int32.toNatClampNeg (Int32.ofNat k)) []) (Int32.ofInt 0)))) (zgt ((M.2.2.1 0).getD (Int32.toNatClampNeg (Int32.ofNat k)) []) (Int32.ofInt 1))) (x2 := zgt ((M.2.2.1 0).getD (Int32.toNatClampNeg (Int32.ofNat k)) []) (Int32.ofInt 2)) hX) (fun v h1 nc1 ns1 q8 => ?_) (fun E h1 nc1 ns1 q8 => by cases q8.1)
        obtain ⟨q8, q9⟩ := q8
        cases q8
        cases q9
        refine zpE_run 2 (L' := [some (.ref 44), some (.int (Int32.ofNat k)), some (.ref (zel X 0 (Int32.ofNat k))), some (.int ((p186b k M ((Int32.ofNat (M.2.2.1 0).length).toInt.toNat - (k + 1)) (k + 1) (Int32.ofInt 1)))), o4]) (st' := [.int (Int32.ofInt 3), .ref (zel X 0 (Int32.ofNat k)), .int (v113 (zgt (M.2.1 (Int32.toNatClampNeg (zgt ((M.2.2.1 0).getD (Int32.toNatClampNeg (Int32.ofNat k)) []) (Int32.ofInt 0)))) (zgt ((M.2.2.1 0).getD (Int32.toNatClampNeg (Int32.ofNat k)) []) (Int32.ofInt 1))) (zgt ((M.2.2.1 0).getD (Int32.toNatClampNeg (Int32.ofNat k)) []) (Int32.ofInt 2)) M)]) rfl ?_
        refine zpE_aly rfl (zUX_e hX hR) (fun _ _ => ?_)
        refine zpE_gen (fun nc ns => ?_)
        refine zpE_run 1 (L' := [some (.ref 44), some (.int (Int32.ofNat k)), some (.ref (zel X 0 (Int32.ofNat k))), some (.int ((p186b k M ((Int32.ofNat (M.2.2.1 0).length).toInt.toNat - (k + 1)) (k + 1) (Int32.ofInt 1)))), o4]) (st' := [.int (Int32.ofInt 1), .int (zgt ((M.2.2.1 0).getD (Int32.toNatClampNeg (Int32.ofNat k)) []) (Int32.ofInt 3)), .int (v113 (zgt (M.2.1 (Int32.toNatClampNeg (zgt ((M.2.2.1 0).getD (Int32.toNatClampNeg (Int32.ofNat k)) []) (Int32.ofInt 0)))) (zgt ((M.2.2.1 0).getD (Int32.toNatClampNeg (Int32.ofNat k)) []) (Int32.ofInt 1))) (zgt ((M.2.2.1 0).getD (Int32.toNatClampNeg (Int32.ofNat k)) []) (Int32.ofInt 2)) M)]) rfl ?_
        refine zpE_icmp rfl (fun q219 => ?_) (fun q219 => ?_)
        · have z219_1 := zF_n1 q219
          refine zpE_run 1 (L' := [some (.ref 44), some (.int (Int32.ofNat k)), some (.ref (zel X 0 (Int32.ofNat k))), some (.int ((p186b k M ((Int32.ofNat (M.2.2.1 0).length).toInt.toNat - (k + 1)) (k + 1) (Int32.ofInt 1)))), o4]) (st' := [.int (Int32.ofInt 0), .int (v113 (zgt (M.2.1 (Int32.toNatClampNeg (zgt ((M.2.2.1 0).getD (Int32.toNatClampNeg (Int32.ofNat k)) []) (Int32.ofInt 0)))) (zgt ((M.2.2.1 0).getD (Int32.toNatClampNeg (Int32.ofNat k)) []) (Int32.ofInt 1))) (zgt ((M.2.2.1 0).getD (Int32.toNatClampNeg (Int32.ofNat k)) []) (Int32.ofInt 2)) M)]) rfl ?_
          refine zpE_icmp rfl (fun q227 => ?_) (fun q227 => ?_)
          · have z227_2 := zF_e1 q227
            refine zpE_run 2 (L' := [some (.ref 44), some (.int ((Int32.ofNat k) + Int32.ofInt 1)), some (.ref (zel X 0 (Int32.ofNat k))), some (.int ((p186b k M ((Int32.ofNat (M.2.2.1 0).length).toInt.toNat - (k + 1)) (k + 1) (Int32.ofInt 1)))), o4]) (st' := []) rfl ?_
            rw [zof1, eQ, if_neg z194_0, if_neg z219_1, if_pos z227_2]
            exact l_186b hX N (k + 1) m _ _ _ _ _ (by omega)
          · have z227_2 := zF_e0 q227
            refine zpE_run 1 (L' := [some (.ref 44), some (.int (Int32.ofNat k)), some (.ref (zel X 0 (Int32.ofNat k))), some (.int ((p186b k M ((Int32.ofNat (M.2.2.1 0).length).toInt.toNat - (k + 1)) (k + 1) (Int32.ofInt 1)))), o4]) (st' := [.int (Int32.ofInt 0)]) rfl ?_
            exact zpE_end rfl rfl (by rw [eQ, if_neg z194_0, if_neg z219_1, if_neg z227_2]; exact zOq_v rfl)
        · have z219_1 := zF_n0 q219
          refine zpE_run 2 (L' := [some (.ref 44), some (.int (Int32.ofNat k)), some (.ref (zel X 0 (Int32.ofNat k))), some (.int ((p186b k M ((Int32.ofNat (M.2.2.1 0).length).toInt.toNat - (k + 1)) (k + 1) (Int32.ofInt 1)))), o4]) (st' := [.int (Int32.ofInt 1), .int (v113 (zgt (M.2.1 (Int32.toNatClampNeg (zgt ((M.2.2.1 0).getD (Int32.toNatClampNeg (Int32.ofNat k)) []) (Int32.ofInt 0)))) (zgt ((M.2.2.1 0).getD (Int32.toNatClampNeg (Int32.ofNat k)) []) (Int32.ofInt 1))) (zgt ((M.2.2.1 0).getD (Int32.toNatClampNeg (Int32.ofNat k)) []) (Int32.ofInt 2)) M)]) rfl ?_
          refine zpE_icmp rfl (fun q227 => ?_) (fun q227 => ?_)
          · have z227_2 := zF_e1 q227
            refine zpE_run 2 (L' := [some (.ref 44), some (.int ((Int32.ofNat k) + Int32.ofInt 1)), some (.ref (zel X 0 (Int32.ofNat k))), some (.int ((p186b k M ((Int32.ofNat (M.2.2.1 0).length).toInt.toNat - (k + 1)) (k + 1) (Int32.ofInt 1)))), o4]) (st' := []) rfl ?_
            rw [zof1, eQ, if_neg z194_0, if_pos z219_1, if_pos z227_2]
            exact l_186b hX N (k + 1) m _ _ _ _ _ (by omega)
          · have z227_2 := zF_e0 q227
            refine zpE_run 1 (L' := [some (.ref 44), some (.int (Int32.ofNat k)), some (.ref (zel X 0 (Int32.ofNat k))), some (.int ((p186b k M ((Int32.ofNat (M.2.2.1 0).length).toInt.toNat - (k + 1)) (k + 1) (Int32.ofInt 1)))), o4]) (st' := [.int (Int32.ofInt 0)]) rfl ?_
            exact zpE_end rfl rfl (by rw [eQ, if_neg z194_0, if_pos z219_1, if_neg z227_2]; exact zOq_v rfl)
def v186b (M : zRt) : Int32 := q186b M (Int32.ofNat (M.2.2.1 0).length).toInt.toNat 0
theorem e_186b {o1 o2 o3 o4 : Option Value} (hX : zUX kq X M.2.2) : zpE xs N 186 63 [some (.ref 44), o1, o2, o3, o4] [] (zy S0 M X) nc ns (zOq (.inl (some (.int (v186b M)))) (zy S0 M X)) := by
  refine zpE_run 2 (L' := [some (.ref 44), some (.int (Int32.ofNat 0)), o2, o3, o4]) (st' := []) rfl ?_
  exact l_186b hX N 0 _ _ _ _ _ _ (Nat.zero_add _)
def p186a (a : Nat) (M : zRt) : Nat → Nat → Bool
  | 0, _ => true
  | m + 1, k => if (zgt M.2.2.2 (Int32.ofNat a)) = (zgt M.2.2.2 ((Int32.ofNat k))) then false else (p186a a M m (k + 1))
theorem l_186ai {a N0 k0 m0 : Nat} {o3 o4 : Option Value} {P : zO → Prop} (hX : zUX kq X M.2.2) (K : p186a a M m0 k0 = true → ∀ (o2 : Option Value) (nc ns : Nat), zpE xs N0 186 57 [some (.ref 44), some (.int (Int32.ofNat a)), o2, o3, o4] [] (zy S0 M X) nc ns P) (H : p186a a M m0 k0 = false → ∀ o, zOq (.inl (some (.int (Int32.ofInt 0)))) (zy S0 M X) o → P o) : ∀ (N k m : Nat) (nc ns : Nat), N ≤ N0 → k + m = (Int32.ofNat a).toInt.toNat → p186a a M m0 k0 = p186a a M m k → zpE xs N 186 29 [some (.ref 44), some (.int (Int32.ofNat a)), some (.int (Int32.ofNat k)), o3, o4] [] (zy S0 M X) nc ns P
  | 0, _, _, _, _, _, _, _ => zpE_0
  | N + 1, k, m0, nc, ns, hN, hk, hq => by
    refine zpE_run1 1 (L' := [some (.ref 44), some (.int (Int32.ofNat a)), some (.int (Int32.ofNat k)), o3, o4]) (st' := [.int (Int32.ofNat a), .int (Int32.ofNat k)]) rfl ?_
    refine zpE_icmp rfl (fun q31 => ?_) (fun q31 => ?_)
    · have z31_0 := Int.not_lt.mpr (zF_ge_t q31)
      rw [zlp_o2 z31_0 hk] at hq
      exact zpE_le (by omega) (K hq _ _ _)
    · have z31_0 := zF_ge_f q31
      obtain ⟨m, rfl⟩ := zlp_i2 z31_0 hk
      have eQ : p186a a M (m + 1) k = if (zgt M.2.2.2 (Int32.ofNat a)) = (zgt M.2.2.2 ((Int32.ofNat k))) then false else (p186a a M m (k + 1)) := rfl
      refine zpE_run 3 (L' := [some (.ref 44), some (.int (Int32.ofNat a)), some (.int (Int32.ofNat k)), o3, o4]) (st' := [.int (Int32.ofNat a), .ref (X.1 9)]) rfl ?_
      refine zpE_aly rfl (zUX_c hX) (fun _ _ => ?_)
      refine zpE_gen (fun nc ns => ?_)
      refine zpE_run 3 (L' := [some (.ref 44), some (.int (Int32.ofNat a)), some (.int (Int32.ofNat k)), o3, o4]) (st' := [.int (Int32.ofNat k), .ref (X.1 9), .int (zgt M.2.2.2 (Int32.ofNat a))]) rfl ?_
      refine zpE_aly rfl (zUX_c hX) (fun _ _ => ?_)
      refine zpE_gen (fun nc ns => ?_)
      refine zpE_icmp rfl (fun q46 => ?_) (fun q46 => ?_)
      · have z46_1 := zF_n1 q46
        refine zpE_run 2 (L' := [some (.ref 44), some (.int (Int32.ofNat a)), some (.int ((Int32.ofNat k) + Int32.ofInt 1)), o3, o4]) (st' := []) rfl ?_
        have K9 := fun nc ns => l_186ai hX K H N (k + 1) m nc ns (by omega) (by omega) (hq.trans (by rw [eQ, if_neg z46_1]))
        rw [← zof1] at K9
        exact K9 _ _
      · have z46_1 := zF_n0 q46
        refine zpE_run 1 (L' := [some (.ref 44), some (.int (Int32.ofNat a)), some (.int (Int32.ofNat k)), o3, o4]) (st' := [.int (Int32.ofInt 0)]) rfl ?_
        exact zpE_end rfl rfl (H (hq.trans (by rw [eQ, if_pos z46_1])) _ (zOq_v rfl))
def q186a (M : zRt) : Nat → Nat → Int32
  | 0, _ => v186b M
  | m + 1, k => if (zrmd (zwg 31 (Int32.ofInt 0) (zgt M.2.2.2 ((Int32.ofNat k)))) (Int32.ofInt 2)) = ((0 : Int32)) then ((Int32.ofInt 0)) else (if p186a k M (Int32.ofNat k).toInt.toNat 0 = true then q186a M m (k + 1) else Int32.ofInt 0)
theorem l_186a (hX : zUX kq X M.2.2) : ∀ (N k m : Nat) (o2 : Option Value) (o3 : Option Value) (o4 : Option Value) (nc ns : Nat), k + m = (Int32.ofNat M.2.2.2.length).toInt.toNat → zpE xs N 186 2 [some (.ref 44), some (.int (Int32.ofNat k)), o2, o3, o4] [] (zy S0 M X) nc ns (zOq (.inl (some (.int (q186a M m k)))) (zy S0 M X))
  | 0, _, _, _, _, _, _, _, _ => zpE_0
  | N + 1, k, m0, o2, o3, o4, nc, ns, hk => by
    refine zpE_run1 2 (L' := [some (.ref 44), some (.int (Int32.ofNat k)), o2, o3, o4]) (st' := [.ref (X.1 9), .int (Int32.ofNat k)]) rfl ?_
    refine zpE_alen rfl (zUX_c hX) (by decide) ?_
    rw [List.length_map]
    refine zpE_icmp rfl (fun q8 => ?_) (fun q8 => ?_)
    · have z8_0 := Int.not_lt.mpr (zF_ge_t q8)
      rw [show q186a M m0 k = v186b M from by rw [zlp_o2 z8_0 hk]; rfl]
      exact e_186b hX
    · have z8_0 := zF_ge_f q8
      obtain ⟨m, rfl⟩ := zlp_i2 z8_0 hk
      have eQ : q186a M (m + 1) k = if (zrmd (zwg 31 (Int32.ofInt 0) (zgt M.2.2.2 ((Int32.ofNat k)))) (Int32.ofInt 2)) = ((0 : Int32)) then ((Int32.ofInt 0)) else (if p186a k M (Int32.ofNat k).toInt.toNat 0 = true then q186a M m (k + 1) else Int32.ofInt 0) := rfl
      refine zpE_run 3 (L' := [some (.ref 44), some (.int (Int32.ofNat k)), o2, o3, o4]) (st' := [.int (Int32.ofNat k), .ref (X.1 9)]) rfl ?_
      refine zpE_aly rfl (zUX_c hX) (fun _ _ => ?_)
      refine zpE_gen (fun nc ns => ?_)
      refine zpE_call rfl rfl (g_wg (x := zgt M.2.2.2 (Int32.ofNat k))) (fun v h1 nc1 ns1 q8 => ?_) (fun E h1 nc1 ns1 q8 => by cases q8.1)
      obtain ⟨q8, q9⟩ := q8
      cases q8
      cases q9
      refine zpE_run 1 (L' := [some (.ref 44), some (.int (Int32.ofNat k)), o2, o3, o4]) (st' := [.int (Int32.ofInt 2), .int (zwg 31 (Int32.ofInt 0) (zgt M.2.2.2 (Int32.ofNat k)))]) rfl ?_
      refine zpE_irem rfl (fun _ => ?_)
      refine zpE_if rfl (fun q22 => ?_) (fun q22 => ?_)
      · have z22_1 := zF_n1 q22
        refine zpE_run 2 (L' := [some (.ref 44), some (.int (Int32.ofNat k)), some (.int (Int32.ofNat 0)), o3, o4]) (st' := []) rfl ?_
        rw [eQ, if_neg z22_1]
        refine l_186ai (a := k) (N0 := N) (m0 := (Int32.ofNat k).toInt.toNat) (k0 := 0) hX (fun e o2 nc ns => ?_) (fun e o ho => ?_) N _ _ _ _ (Nat.le_refl _) (Nat.zero_add _) rfl
        · rw [if_pos e]
          refine zpE_run 2 (L' := [some (.ref 44), some (.int (Int32.ofNat k + Int32.ofInt 1)), o2, o3, o4]) (st' := []) rfl ?_
          rw [zof1]
          exact l_186a hX N (k + 1) m _ _ _ _ _ (by omega)
        · rw [if_neg (by rw [e]; exact Bool.false_ne_true)]
          exact ho
      · have z22_1 := zF_n0 q22
        refine zpE_run 1 (L' := [some (.ref 44), some (.int (Int32.ofNat k)), o2, o3, o4]) (st' := [.int (Int32.ofInt 0)]) rfl ?_
        exact zpE_end rfl rfl (by rw [eQ, if_pos z22_1]; exact zOq_v rfl)
def v186 (M : zRt) : Int32 := q186a M (Int32.ofNat M.2.2.2.length).toInt.toNat 0
theorem f_186 (hX : zUX kq X M.2.2) : zpM xs N 186 [.ref 44] (zy S0 M X) nc ns (zOq (.inl (some (.int (v186 M)))) (zy S0 M X)) := by
  intro L0 e
  cases e
  refine zpE_run 2 (L' := [some (.ref 44), some (.int (Int32.ofNat 0)), none, none, none]) (st' := []) rfl ?_
  exact l_186a hX N 0 _ _ _ _ _ _ (Nat.zero_add _)
def v187  (M : zRt) : Int32 := (v186 (zmS M 0 (Int32.ofInt 0)))
def r187  (M : zRt) : zRt := zmS M 0 (Int32.ofInt 0)
theorem f_187 (hX : zUX kq X M.2.2) : zpM xs N 187 [.ref 44] (zy S0 M X) nc ns (zOq (.inl (some (.int (v187 M)))) (zy S0 (r187 M) X)) := by
  intro L0 e
  cases e
  refine zpE_run 4 (L' := [some (.ref 44)]) (st' := [.ref 44]) (h' := zy S0 (zmS M 0 (Int32.ofInt 0)) X) rfl ?_
  refine zpE_call rfl rfl (f_186 (M := zmS M 0 (Int32.ofInt 0)) hX) (fun v h1 nc1 ns1 q8 => ?_) (fun E h1 nc1 ns1 q8 => by cases q8.1)
  obtain ⟨q8, q9⟩ := q8
  cases q8
  cases q9
  exact zpE_retb rfl (fun _ => (zOr_w (M' := zmS M 0 (Int32.ofInt 0)) (by unfold v187; (first | done | rfl)) (by unfold r187; (first | done | rfl))))
theorem gr_187 : zfrM [0] [] [] (r187 M) M := by
  unfold r187
  exact (gm_c gm_S gm_rf (by decide) (by decide) (by decide))
theorem rl_187 : (r187 M).2.2 = M.2.2 := gm_l gr_187
end ZRE
