section ZCA
variable {xs : List Int32} {N : Nat} {S : zSt} {T : zH} {nc ns : Nat}
theorem zlp_o3 {k m : Nat} {b : Int32} (h : b.toInt < (Int32.ofNat k).toInt) (hb : 0 ≤ b.toInt ∧ b.toInt < 100000) (hk : k + m = b.toInt.toNat + 1) : m = 0 := by
  rw [zofI (by omega)] at h
  omega
theorem zlp_i3 {k m : Nat} {b : Int32} (h : ¬ b.toInt < (Int32.ofNat k).toInt) (hb : 0 ≤ b.toInt ∧ b.toInt < 100000) (hk : k + m = b.toInt.toNat + 1) : ∃ n, m = n + 1 := by
  rw [zofI (by omega)] at h
  exact ⟨m - 1, by omega⟩
def V49 (x1 : Int32) (x2 : Int32) (S : zSt) : Int32 := if ((zgt (S.2 2) x1) &&& x2) = ((0 : Int32)) then ((Int32.ofInt 0)) else (if ((V42 x1 ((zgt (S.2 2) x1) &&& (x2 ^^^ (Int32.ofInt (-1)))) S) &&& x2) = ((0 : Int32)) then ((Int32.ofInt 1)) else ((Int32.ofInt 0)))
theorem e_49 {x1 x2 : Int32} (HL : zaL S.2) : zpM xs N 49 [.ref 6, .int x1, .int x2] (zx S.1 S.2 T) nc ns (zOq (.inl (some (.int (V49 x1 x2 S)))) (zx S.1 S.2 T)) := by
  intro L0 e
  cases e
  refine zpE_run 3 (L' := [some (.ref 6), some (.int x1), some (.int x2), none]) (st' := [.int x1, .ref 7]) rfl ?_
  refine zpE_call rfl rfl (p_25 2 8 7 rfl rfl (HL : zaL S.2)) (fun v h1 nc1 ns1 q8 => ?_) (fun E h1 nc1 ns1 q8 => by cases q8)
  cases q8
  refine zpE_run 4 (L' := [some (.ref 6), some (.int x1), some (.int x2), some (.int (zgt (S.2 2) x1))]) (st' := [.int ((zgt (S.2 2) x1) &&& x2)]) rfl ?_
  refine zpE_if rfl (fun q12 => ?_) (fun q12 => ?_)
  · have z12_0 := zF_e1 q12
    refine zpE_run 1 (L' := [some (.ref 6), some (.int x1), some (.int x2), some (.int (zgt (S.2 2) x1))]) (st' := [.int (Int32.ofInt 0)]) rfl ?_
    exact zpE_end rfl rfl (zOq_v (by unfold V49; rw [if_pos z12_0]))
  · have z12_0 := zF_e0 q12
    refine zpE_run 7 (L' := [some (.ref 6), some (.int x1), some (.int x2), some (.int (zgt (S.2 2) x1))]) (st' := [.int ((zgt (S.2 2) x1) &&& (x2 ^^^ (Int32.ofInt (-1)))), .int x1, .ref 6]) rfl ?_
    refine zpE_call rfl rfl (e_42 (S := S) (x1 := x1) (x2 := (zgt (S.2 2) x1) &&& (x2 ^^^ (Int32.ofInt (-1)))) HL) (fun v h1 nc1 ns1 q8 => ?_) (fun E h1 nc1 ns1 q8 => by cases q8.1)
    obtain ⟨q8, q9⟩ := q8
    cases q8
    cases q9
    refine zpE_run 2 (L' := [some (.ref 6), some (.int x1), some (.int x2), some (.int (zgt (S.2 2) x1))]) (st' := [.int ((V42 x1 ((zgt (S.2 2) x1) &&& (x2 ^^^ (Int32.ofInt (-1)))) S) &&& x2)]) rfl ?_
    refine zpE_if rfl (fun q27 => ?_) (fun q27 => ?_)
    · have z27_1 := zF_n1 q27
      refine zpE_run 1 (L' := [some (.ref 6), some (.int x1), some (.int x2), some (.int (zgt (S.2 2) x1))]) (st' := [.int (Int32.ofInt 0)]) rfl ?_
      exact zpE_end rfl rfl (zOq_v (by unfold V49; rw [if_neg z12_0, if_neg z27_1]))
    · have z27_1 := zF_n0 q27
      refine zpE_run 2 (L' := [some (.ref 6), some (.int x1), some (.int x2), some (.int (zgt (S.2 2) x1))]) (st' := [.int (Int32.ofInt 1)]) rfl ?_
      exact zpE_end rfl rfl (zOq_v (by unfold V49; rw [if_neg z12_0, if_pos z27_1]))
def Q50 (x1 x2 : Int32) (S : zSt) : Nat → Nat → Int32 → Int32
  | 0, _, _ => (Int32.ofInt 0)
  | m + 1, k, u => if (((Int32.ofNat k)) - u).toInt < (zgt (S.2 11) x1).toInt then (if (V47 ((Int32.ofNat k)) S) = ((0 : Int32)) then (Q50 x1 x2 S m (k + 1) u) else (Q50 x1 x2 S m (k + 1) ((Int32.ofNat k)))) else ((Int32.ofInt 1))
theorem l_50 {x1 x2 : Int32} (HL : zaL S.2) (hb : 0 ≤ (S.1 4 + x2).toInt ∧ (S.1 4 + x2).toInt < 100000) : ∀ (N k m : Nat) (u : Int32) (nc ns : Nat), k + m = (S.1 4 + x2).toInt.toNat + 1 → zpE xs N 50 30 [some (.ref 6), some (.int x1), some (.int x2), some (.int u), some (.int (Int32.ofNat k))] [] (zx S.1 S.2 T) nc ns (zOq (.inl (some (.int (Q50 x1 x2 S m k u)))) (zx S.1 S.2 T))
  | 0, _, _, _, _, _, _ => zpE_0
  | N + 1, k, m0, u, nc, ns, hk => by
    refine zpE_run1 4 (L' := [some (.ref 6), some (.int x1), some (.int x2), some (.int u), some (.int (Int32.ofNat k))]) (st' := [.int ((S.1 4) + x2), .int (Int32.ofNat k)]) rfl ?_
    refine zpE_icmp rfl (fun q38 => ?_) (fun q38 => ?_)
    · have z38_0 := zF_gt_t q38
      refine zpE_run 1 (L' := [some (.ref 6), some (.int x1), some (.int x2), some (.int u), some (.int (Int32.ofNat k))]) (st' := [.int (Int32.ofInt 0)]) rfl ?_
      exact zpE_end rfl rfl (by rw [zlp_o3 z38_0 hb hk]; exact zOq_v (by first | rfl | done))
    · have z38_0 := Int.not_lt.mpr (zF_gt_f q38)
      obtain ⟨m, rfl⟩ := zlp_i3 z38_0 hb hk
      have eQ : Q50 x1 x2 S (m + 1) k u = if (((Int32.ofNat k)) - u).toInt < (zgt (S.2 11) x1).toInt then (if (V47 ((Int32.ofNat k)) S) = ((0 : Int32)) then (Q50 x1 x2 S m (k + 1) u) else (Q50 x1 x2 S m (k + 1) ((Int32.ofNat k)))) else ((Int32.ofInt 1)) := rfl
      refine zpE_run 7 (L' := [some (.ref 6), some (.int x1), some (.int x2), some (.int u), some (.int (Int32.ofNat k))]) (st' := [.int x1, .ref 27, .int ((Int32.ofNat k) - u)]) rfl ?_
      refine zpE_call rfl rfl (p_25 11 28 27 rfl rfl (HL : zaL S.2)) (fun v h1 nc1 ns1 q8 => ?_) (fun E h1 nc1 ns1 q8 => by cases q8)
      cases q8
      refine zpE_icmp rfl (fun q56 => ?_) (fun q56 => ?_)
      · have z56_1 := zF_lt_t q56
        refine zpE_run 2 (L' := [some (.ref 6), some (.int x1), some (.int x2), some (.int u), some (.int (Int32.ofNat k))]) (st' := [.int (Int32.ofNat k), .ref 6]) rfl ?_
        refine zpE_call rfl rfl (e_47 (S := S) (x1 := Int32.ofNat k) HL) (fun v h1 nc1 ns1 q8 => ?_) (fun E h1 nc1 ns1 q8 => by cases q8.1)
        obtain ⟨q8, q9⟩ := q8
        cases q8
        cases q9
        refine zpE_if rfl (fun q67 => ?_) (fun q67 => ?_)
        · have z67_2 := zF_e1 q67
          refine zpE_run 2 (L' := [some (.ref 6), some (.int x1), some (.int x2), some (.int u), some (.int ((Int32.ofNat k) + Int32.ofInt 1))]) (st' := []) rfl ?_
          have K := fun nc ns => l_50 (x1 := x1) HL hb N (k + 1) m (u) nc ns (by omega)
          rw [← zof1] at K
          rw [eQ, if_pos z56_1, if_pos z67_2]
          exact K _ _
        · have z67_2 := zF_e0 q67
          refine zpE_run 4 (L' := [some (.ref 6), some (.int x1), some (.int x2), some (.int (Int32.ofNat k)), some (.int ((Int32.ofNat k) + Int32.ofInt 1))]) (st' := []) rfl ?_
          have K := fun nc ns => l_50 (x1 := x1) HL hb N (k + 1) m (Int32.ofNat k) nc ns (by omega)
          rw [← zof1] at K
          rw [eQ, if_pos z56_1, if_neg z67_2]
          exact K _ _
      · have z56_1 := Int.not_lt.mpr (zF_lt_f q56)
        refine zpE_run 1 (L' := [some (.ref 6), some (.int x1), some (.int x2), some (.int u), some (.int (Int32.ofNat k))]) (st' := [.int (Int32.ofInt 1)]) rfl ?_
        exact zpE_end rfl rfl (zOq_v (by rw [eQ, if_neg z56_1]))
def V50 (x1 x2 : Int32) (S : zSt) : Int32 := Q50 x1 x2 S x2.toInt.toNat ((S.1 4).toInt.toNat + 1) (zgt (S.2 4) (zqtd (zgt (S.2 9) x1) (Int32.ofInt 8)))
theorem e_50 {x1 x2 : Int32} (HL : zaL S.2) (hs : 0 ≤ (S.1 4).toInt ∧ (S.1 4).toInt ≤ 5000) (hx : 1 ≤ x2.toInt ∧ x2.toInt ≤ 100) : zpM xs N 50 [.ref 6, .int x1, .int x2] (zx S.1 S.2 T) nc ns (zOq (.inl (some (.int (V50 x1 x2 S)))) (zx S.1 S.2 T)) := by
  have e1 : S.1 4 + Int32.ofInt 1 = Int32.ofNat ((S.1 4).toInt.toNat + 1) := by
    obtain ⟨t, ht, ht2⟩ := znat hs.1
    rw [ht, zof1, zof_0 (by omega), Int.toNat_natCast]
  have e2 : (S.1 4 + x2).toInt = (S.1 4).toInt + x2.toInt := by
    rw [Int32.toInt_add, Int.bmod_eq_of_le (by omega) (by omega)]
  intro L0 e
  cases e
  refine zpE_run 6 (L' := [some (.ref 6), some (.int x1), some (.int x2), none, none]) (st' := [.int x1, .ref 23, .ref 11]) rfl ?_
  refine zpE_call rfl rfl (p_25 9 24 23 rfl rfl (HL : zaL S.2)) (fun v h1 nc1 ns1 q8 => ?_) (fun E h1 nc1 ns1 q8 => by cases q8)
  cases q8
  refine zpE_run 1 (L' := [some (.ref 6), some (.int x1), some (.int x2), none, none]) (st' := [.int (Int32.ofInt 8), .int (zgt (S.2 9) x1), .ref 11]) rfl ?_
  refine zpE_idiv rfl (fun _ => ?_)
  refine zpE_call rfl rfl (p_25 4 12 11 rfl rfl (HL : zaL S.2)) (fun v h1 nc1 ns1 q8 => ?_) (fun E h1 nc1 ns1 q8 => by cases q8)
  cases q8
  refine zpE_run 6 (L' := [some (.ref 6), some (.int x1), some (.int x2), some (.int (zgt (S.2 4) (zqtd (zgt (S.2 9) x1) (Int32.ofInt 8)))), some (.int ((S.1 4) + (Int32.ofInt 1)))]) (st' := []) rfl ?_
  rw [e1]
  exact l_50 HL (by omega) N _ _ _ _ _ (by rw [e2]; omega)
/-- the class's state with the row of what has leaked -/
def z5 (S : zSt) (r : List Int32) : zSt := (S.1, zup S.2 5 r)
theorem z5_s {r : List Int32} {j v : Int32} : zsR (z5 S r) 5 j v = z5 S (zst r j v) := by
  refine Prod.ext rfl (funext fun i => ?_)
  show (if i = 5 then zst (if 5 = 5 then r else S.2 5) j v else if i = 5 then r else S.2 i) = if i = 5 then zst r j v else S.2 i
  by_cases h : i = 5
  · rw [if_pos h, if_pos h, if_pos rfl]
  · rw [if_neg h, if_neg h, if_neg h]
theorem z5_L {r : List Int32} (h : zaL S.2) (hr : r.length = (S.2 5).length) : zaL (z5 S r).2 := by
  intro i
  show (if i = 5 then r else S.2 i).length < _
  split
  · rw [hr]
    exact h 5
  · exact h i
def D48 (x1 : Int32) (S : zSt) (k : Nat) (u : Int32 × List Int32) : Int32 × List Int32 := if ((zgt ((z5 S u.2).2 5) (zgt ((z5 S u.2).2 9) ((Int32.ofNat k)))) &&& (zgt ((z5 S u.2).2 10) ((Int32.ofNat k)))) = ((0 : Int32)) then (if (V49 (zgt ((z5 S u.2).2 9) ((Int32.ofNat k))) (zgt ((z5 S u.2).2 10) ((Int32.ofNat k))) (z5 S u.2)) = ((0 : Int32)) then (u) else (if (V50 ((Int32.ofNat k)) x1 (z5 S u.2)) = ((0 : Int32)) then (u) else ((u.1 + Int32.ofInt 1, zst u.2 (zgt ((z5 S u.2).2 9) ((Int32.ofNat k))) ((zgt ((z5 S u.2).2 5) (zgt ((z5 S u.2).2 9) ((Int32.ofNat k)))) ||| (zgt ((z5 S u.2).2 10) ((Int32.ofNat k)))))))) else (u)
def W48 (x1 : Int32) (S : zSt) (u0 : Int32 × List Int32) : Nat → Int32 × List Int32
  | 0 => u0
  | k + 1 => D48 x1 S k (W48 x1 S u0 k)
theorem W48_n {x1 : Int32} {u0 : Int32 × List Int32} : ∀ k, (W48 x1 S u0 k).2.length = u0.2.length
  | 0 => rfl
  | k + 1 => by
    refine Eq.trans ?_ (W48_n (x1 := x1) k)
    show (D48 x1 S k (W48 x1 S u0 k)).2.length = (W48 x1 S u0 k).2.length
    obtain ⟨u, hu⟩ : ∃ u, u = W48 x1 S u0 k := ⟨_, rfl⟩
    rw [← hu]
    unfold D48
    repeat' first | refine zifP (P := fun v : Int32 × List Int32 => v.2.length = u.2.length) ?_ ?_ | exact rfl | (show (zst _ _ _).length = _; rw [zst_len])
theorem l_48 {x1 : Int32} {u0 : Int32 × List Int32} (HL : zaL S.2) (hs : 0 ≤ (S.1 4).toInt ∧ (S.1 4).toInt ≤ 5000) (hx : 1 ≤ x1.toInt ∧ x1.toInt ≤ 100) (h0 : u0.2.length = (S.2 5).length) : ∀ (N k : Nat) (o4 o5 o6 : Option Value) (nc ns : Nat), k ≤ (S.1 10).toInt.toNat → zpE xs N 48 12 [some (.ref 6), some (.int x1), some (.int ((W48 x1 S u0 k).1)), some (.int (Int32.ofNat k)), o4, o5, o6] [] (zx (z5 S (W48 x1 S u0 k).2).1 (z5 S (W48 x1 S u0 k).2).2 T) nc ns (zOq (.inl (some (.int (W48 x1 S u0 (S.1 10).toInt.toNat).1))) (zx (z5 S (W48 x1 S u0 (S.1 10).toInt.toNat).2).1 (z5 S (W48 x1 S u0 (S.1 10).toInt.toNat).2).2 T))
  | 0, _, _, _, _, _, _, _ => zpE_0
  | N + 1, k, o4, o5, o6, nc, ns, hk => by
    have HL5 : zaL (z5 S (W48 x1 S u0 k).2).2 := z5_L HL ((W48_n k).trans h0)
    refine zpE_run1 3 (L' := [some (.ref 6), some (.int x1), some (.int ((W48 x1 S u0 k).1)), some (.int (Int32.ofNat k)), o4, o5, o6]) (st' := [.int ((z5 S (W48 x1 S u0 k).2).1 10), .int (Int32.ofNat k)]) rfl ?_
    refine zpE_icmp rfl (fun q20 => ?_) (fun q20 => ?_)
    · have z20_0 := Int.not_lt.mpr (zF_ge_t q20)
      refine zpE_run 1 (L' := [some (.ref 6), some (.int x1), some (.int ((W48 x1 S u0 k).1)), some (.int (Int32.ofNat k)), o4, o5, o6]) (st' := [.int ((W48 x1 S u0 k).1)]) rfl ?_
      exact zpE_end rfl rfl (by have e9 : k = (S.1 10).toInt.toNat := zlp_out z20_0 hk; rw [← e9]; exact zOq_w (S' := z5 S (W48 x1 S u0 k).2) rfl rfl)
    · have z20_0 := zF_ge_f q20
      refine zpE_run 4 (L' := [some (.ref 6), some (.int x1), some (.int ((W48 x1 S u0 k).1)), some (.int (Int32.ofNat k)), o4, o5, o6]) (st' := [.int (Int32.ofNat k), .ref 23]) rfl ?_
      refine zpE_call rfl rfl (p_25 9 24 23 rfl rfl (HL5 : zaL (z5 S (W48 x1 S u0 k).2).2)) (fun v h1 nc1 ns1 q8 => ?_) (fun E h1 nc1 ns1 q8 => by cases q8)
      cases q8
      refine zpE_run 5 (L' := [some (.ref 6), some (.int x1), some (.int ((W48 x1 S u0 k).1)), some (.int (Int32.ofNat k)), some (.int (zgt ((z5 S (W48 x1 S u0 k).2).2 9) (Int32.ofNat k))), o5, o6]) (st' := [.int (Int32.ofNat k), .ref 25]) rfl ?_
      refine zpE_call rfl rfl (p_25 10 26 25 rfl rfl (HL5 : zaL (z5 S (W48 x1 S u0 k).2).2)) (fun v h1 nc1 ns1 q8 => ?_) (fun E h1 nc1 ns1 q8 => by cases q8)
      cases q8
      refine zpE_run 4 (L' := [some (.ref 6), some (.int x1), some (.int ((W48 x1 S u0 k).1)), some (.int (Int32.ofNat k)), some (.int (zgt ((z5 S (W48 x1 S u0 k).2).2 9) (Int32.ofNat k))), some (.int (zgt ((z5 S (W48 x1 S u0 k).2).2 10) (Int32.ofNat k))), o6]) (st' := [.int (zgt ((z5 S (W48 x1 S u0 k).2).2 9) (Int32.ofNat k)), .ref 13]) rfl ?_
      refine zpE_call rfl rfl (p_25 5 14 13 rfl rfl (HL5 : zaL (z5 S (W48 x1 S u0 k).2).2)) (fun v h1 nc1 ns1 q8 => ?_) (fun E h1 nc1 ns1 q8 => by cases q8)
      cases q8
      refine zpE_run 2 (L' := [some (.ref 6), some (.int x1), some (.int ((W48 x1 S u0 k).1)), some (.int (Int32.ofNat k)), some (.int (zgt ((z5 S (W48 x1 S u0 k).2).2 9) (Int32.ofNat k))), some (.int (zgt ((z5 S (W48 x1 S u0 k).2).2 10) (Int32.ofNat k))), o6]) (st' := [.int ((zgt ((z5 S (W48 x1 S u0 k).2).2 5) (zgt ((z5 S (W48 x1 S u0 k).2).2 9) (Int32.ofNat k))) &&& (zgt ((z5 S (W48 x1 S u0 k).2).2 10) (Int32.ofNat k)))]) rfl ?_
      refine zpE_if rfl (fun q61 => ?_) (fun q61 => ?_)
      · have z61_1 := zF_e1 q61
        refine zpE_run 3 (L' := [some (.ref 6), some (.int x1), some (.int ((W48 x1 S u0 k).1)), some (.int (Int32.ofNat k)), some (.int (zgt ((z5 S (W48 x1 S u0 k).2).2 9) (Int32.ofNat k))), some (.int (zgt ((z5 S (W48 x1 S u0 k).2).2 10) (Int32.ofNat k))), some (.int (Int32.ofInt 0))]) (st' := [.int (Int32.ofInt 0)]) rfl ?_
        refine zpE_if rfl (fun q73 => ?_) (fun q73 => ?_)
        · exact absurd (zF_n1 q73) (by decide)
        · clear q73
          refine zpE_run 3 (L' := [some (.ref 6), some (.int x1), some (.int ((W48 x1 S u0 k).1)), some (.int (Int32.ofNat k)), some (.int (zgt ((z5 S (W48 x1 S u0 k).2).2 9) (Int32.ofNat k))), some (.int (zgt ((z5 S (W48 x1 S u0 k).2).2 10) (Int32.ofNat k))), some (.int (Int32.ofInt 0))]) (st' := [.int (zgt ((z5 S (W48 x1 S u0 k).2).2 10) (Int32.ofNat k)), .int (zgt ((z5 S (W48 x1 S u0 k).2).2 9) (Int32.ofNat k)), .ref 6]) rfl ?_
          refine zpE_call rfl rfl (e_49 (S := z5 S (W48 x1 S u0 k).2) (x1 := zgt ((z5 S (W48 x1 S u0 k).2).2 9) (Int32.ofNat k)) (x2 := zgt ((z5 S (W48 x1 S u0 k).2).2 10) (Int32.ofNat k)) HL5) (fun v h1 nc1 ns1 q8 => ?_) (fun E h1 nc1 ns1 q8 => by cases q8.1)
          obtain ⟨q8, q9⟩ := q8
          cases q8
          cases q9
          refine zpE_if rfl (fun q84 => ?_) (fun q84 => ?_)
          · have z84_2 := zF_e1 q84
            refine zpE_run 2 (L' := [some (.ref 6), some (.int x1), some (.int ((W48 x1 S u0 k).1)), some (.int ((Int32.ofNat k) + Int32.ofInt 1)), some (.int (zgt ((z5 S (W48 x1 S u0 k).2).2 9) (Int32.ofNat k))), some (.int (zgt ((z5 S (W48 x1 S u0 k).2).2 10) (Int32.ofNat k))), some (.int (Int32.ofInt 0))]) (st' := []) (h' := zx (z5 S ((W48 x1 S u0 k).2)).1 (z5 S ((W48 x1 S u0 k).2)).2 T) rfl ?_
            have eW : W48 x1 S u0 (k + 1) = ((W48 x1 S u0 k).1, (W48 x1 S u0 k).2) := by
              show D48 x1 S k _ = _
              unfold D48
              rw [if_pos z61_1, if_pos z84_2]
            have K := fun o4 o5 o6 nc ns => l_48 (u0 := u0) HL hs hx h0 N (k + 1) o4 o5 o6 nc ns (zlp_in z20_0 hk)
            rw [← zof1, eW] at K
            exact K _ _ _ _ _
          · have z84_2 := zF_e0 q84
            refine zpE_run 3 (L' := [some (.ref 6), some (.int x1), some (.int ((W48 x1 S u0 k).1)), some (.int (Int32.ofNat k)), some (.int (zgt ((z5 S (W48 x1 S u0 k).2).2 9) (Int32.ofNat k))), some (.int (zgt ((z5 S (W48 x1 S u0 k).2).2 10) (Int32.ofNat k))), some (.int (Int32.ofInt 0))]) (st' := [.int x1, .int (Int32.ofNat k), .ref 6]) rfl ?_
            refine zpE_call rfl rfl (e_50 (S := z5 S (W48 x1 S u0 k).2) (x1 := Int32.ofNat k) (x2 := x1) HL5 hs hx) (fun v h1 nc1 ns1 q8 => ?_) (fun E h1 nc1 ns1 q8 => by cases q8.1)
            obtain ⟨q8, q9⟩ := q8
            cases q8
            cases q9
            refine zpE_if rfl (fun q93 => ?_) (fun q93 => ?_)
            · have z93_3 := zF_e1 q93
              refine zpE_run 2 (L' := [some (.ref 6), some (.int x1), some (.int ((W48 x1 S u0 k).1)), some (.int ((Int32.ofNat k) + Int32.ofInt 1)), some (.int (zgt ((z5 S (W48 x1 S u0 k).2).2 9) (Int32.ofNat k))), some (.int (zgt ((z5 S (W48 x1 S u0 k).2).2 10) (Int32.ofNat k))), some (.int (Int32.ofInt 0))]) (st' := []) (h' := zx (z5 S ((W48 x1 S u0 k).2)).1 (z5 S ((W48 x1 S u0 k).2)).2 T) rfl ?_
              have eW : W48 x1 S u0 (k + 1) = ((W48 x1 S u0 k).1, (W48 x1 S u0 k).2) := by
                show D48 x1 S k _ = _
                unfold D48
                rw [if_pos z61_1, if_neg z84_2, if_pos z93_3]
              have K := fun o4 o5 o6 nc ns => l_48 (u0 := u0) HL hs hx h0 N (k + 1) o4 o5 o6 nc ns (zlp_in z20_0 hk)
              rw [← zof1, eW] at K
              exact K _ _ _ _ _
            · have z93_3 := zF_e0 q93
              refine zpE_run 6 (L' := [some (.ref 6), some (.int x1), some (.int ((W48 x1 S u0 k).1)), some (.int (Int32.ofNat k)), some (.int (zgt ((z5 S (W48 x1 S u0 k).2).2 9) (Int32.ofNat k))), some (.int (zgt ((z5 S (W48 x1 S u0 k).2).2 10) (Int32.ofNat k))), some (.int (Int32.ofInt 0))]) (st' := [.int (zgt ((z5 S (W48 x1 S u0 k).2).2 9) (Int32.ofNat k)), .ref 13, .int (zgt ((z5 S (W48 x1 S u0 k).2).2 9) (Int32.ofNat k)), .ref 13]) rfl ?_
              refine zpE_call rfl rfl (p_25 5 14 13 rfl rfl (HL5 : zaL (z5 S (W48 x1 S u0 k).2).2)) (fun v h1 nc1 ns1 q8 => ?_) (fun E h1 nc1 ns1 q8 => by cases q8)
              cases q8
              refine zpE_run 2 (L' := [some (.ref 6), some (.int x1), some (.int ((W48 x1 S u0 k).1)), some (.int (Int32.ofNat k)), some (.int (zgt ((z5 S (W48 x1 S u0 k).2).2 9) (Int32.ofNat k))), some (.int (zgt ((z5 S (W48 x1 S u0 k).2).2 10) (Int32.ofNat k))), some (.int (Int32.ofInt 0))]) (st' := [.int ((zgt ((z5 S (W48 x1 S u0 k).2).2 5) (zgt ((z5 S (W48 x1 S u0 k).2).2 9) (Int32.ofNat k))) ||| (zgt ((z5 S (W48 x1 S u0 k).2).2 10) (Int32.ofNat k))), .int (zgt ((z5 S (W48 x1 S u0 k).2).2 9) (Int32.ofNat k)), .ref 13]) rfl ?_
              refine zpE_call rfl rfl (p_26 5 14 13 rfl rfl (fun _ => rfl) ((HL5 : zaL (z5 S (W48 x1 S u0 k).2).2) 5)) (fun v h1 nc1 ns1 q8 => ?_) (fun E h1 nc1 ns1 q8 => by cases q8)
              cases q8
              refine zpE_run 3 (L' := [some (.ref 6), some (.int x1), some (.int (((W48 x1 S u0 k).1) + Int32.ofInt 1)), some (.int ((Int32.ofNat k) + Int32.ofInt 1)), some (.int (zgt ((z5 S (W48 x1 S u0 k).2).2 9) (Int32.ofNat k))), some (.int (zgt ((z5 S (W48 x1 S u0 k).2).2 10) (Int32.ofNat k))), some (.int (Int32.ofInt 0))]) (st' := []) (h' := zx (z5 S (zst (W48 x1 S u0 k).2 (zgt ((z5 S (W48 x1 S u0 k).2).2 9) (Int32.ofNat k)) ((zgt ((z5 S (W48 x1 S u0 k).2).2 5) (zgt ((z5 S (W48 x1 S u0 k).2).2 9) (Int32.ofNat k))) ||| (zgt ((z5 S (W48 x1 S u0 k).2).2 10) (Int32.ofNat k))))).1 (z5 S (zst (W48 x1 S u0 k).2 (zgt ((z5 S (W48 x1 S u0 k).2).2 9) (Int32.ofNat k)) ((zgt ((z5 S (W48 x1 S u0 k).2).2 5) (zgt ((z5 S (W48 x1 S u0 k).2).2 9) (Int32.ofNat k))) ||| (zgt ((z5 S (W48 x1 S u0 k).2).2 10) (Int32.ofNat k))))).2 T) rfl ?_
              have eW : W48 x1 S u0 (k + 1) = (((W48 x1 S u0 k).1) + Int32.ofInt 1, zst (W48 x1 S u0 k).2 (zgt ((z5 S (W48 x1 S u0 k).2).2 9) (Int32.ofNat k)) ((zgt ((z5 S (W48 x1 S u0 k).2).2 5) (zgt ((z5 S (W48 x1 S u0 k).2).2 9) (Int32.ofNat k))) ||| (zgt ((z5 S (W48 x1 S u0 k).2).2 10) (Int32.ofNat k)))) := by
                show D48 x1 S k _ = _
                unfold D48
                rw [if_pos z61_1, if_neg z84_2, if_neg z93_3]
              have K := fun o4 o5 o6 nc ns => l_48 (u0 := u0) HL hs hx h0 N (k + 1) o4 o5 o6 nc ns (zlp_in z20_0 hk)
              rw [← zof1, eW] at K
              exact K _ _ _ _ _
      · have z61_1 := zF_e0 q61
        refine zpE_run 4 (L' := [some (.ref 6), some (.int x1), some (.int ((W48 x1 S u0 k).1)), some (.int (Int32.ofNat k)), some (.int (zgt ((z5 S (W48 x1 S u0 k).2).2 9) (Int32.ofNat k))), some (.int (zgt ((z5 S (W48 x1 S u0 k).2).2 10) (Int32.ofNat k))), some (.int (Int32.ofInt 1))]) (st' := [.int (Int32.ofInt 1)]) rfl ?_
        refine zpE_if rfl (fun q73 => ?_) (fun q73 => ?_)
        · clear q73
          refine zpE_run 2 (L' := [some (.ref 6), some (.int x1), some (.int ((W48 x1 S u0 k).1)), some (.int ((Int32.ofNat k) + Int32.ofInt 1)), some (.int (zgt ((z5 S (W48 x1 S u0 k).2).2 9) (Int32.ofNat k))), some (.int (zgt ((z5 S (W48 x1 S u0 k).2).2 10) (Int32.ofNat k))), some (.int (Int32.ofInt 1))]) (st' := []) (h' := zx (z5 S ((W48 x1 S u0 k).2)).1 (z5 S ((W48 x1 S u0 k).2)).2 T) rfl ?_
          have eW : W48 x1 S u0 (k + 1) = ((W48 x1 S u0 k).1, (W48 x1 S u0 k).2) := by
            show D48 x1 S k _ = _
            unfold D48
            rw [if_neg z61_1]
          have K := fun o4 o5 o6 nc ns => l_48 (u0 := u0) HL hs hx h0 N (k + 1) o4 o5 o6 nc ns (zlp_in z20_0 hk)
          rw [← zof1, eW] at K
          exact K _ _ _ _ _
        · exact absurd (zF_n0 q73) (by decide)
def V48 (x1 : Int32) (S : zSt) : Int32 := (W48 x1 S (Int32.ofInt 0, List.replicate (S.2 5).length (Int32.ofInt 0)) (S.1 10).toInt.toNat).1
def F48 (x1 : Int32) (S : zSt) : zSt := z5 S (W48 x1 S (Int32.ofInt 0, List.replicate (S.2 5).length (Int32.ofInt 0)) (S.1 10).toInt.toNat).2
theorem e_48 {x1 : Int32} (HL : zaL S.2) (hs : 0 ≤ (S.1 4).toInt ∧ (S.1 4).toInt ≤ 5000) (hx : 1 ≤ x1.toInt ∧ x1.toInt ≤ 100) : zpM xs N 48 [.ref 6, .int x1] (zx S.1 S.2 T) nc ns (zOq (.inl (some (.int (V48 x1 S)))) (zx (F48 x1 S).1 (F48 x1 S).2 T)) := by
  intro L0 e
  cases e
  refine zpE_run 3 (L' := [some (.ref 6), some (.int x1), none, none, none, none, none]) (st' := [.int (Int32.ofInt 0), .ref 13]) rfl ?_
  refine zpE_call rfl rfl (p_27 5 14 13 (fun _ => rfl) (fun _ => rfl) (fun _ _ => rfl) ((HL : zaL S.2) 5)) (fun v h1 nc1 ns1 q8 => ?_) (fun E h1 nc1 ns1 q8 => by cases q8)
  cases q8
  refine zpE_run 4 rfl ?_
  exact l_48 (u0 := (Int32.ofInt 0, List.replicate (S.2 5).length (Int32.ofInt 0))) HL hs hx (List.length_replicate) N 0 _ _ _ _ _ (Nat.zero_le _)
theorem fr_F48 {x1 : Int32} : zfrm [] [5] (F48 x1 S) S := by
  refine ⟨fun _ _ => rfl, fun i hi => if_neg (fun z => hi (List.mem_singleton.mpr z)), fun i => ?_⟩
  show (if i = 5 then (W48 x1 S (Int32.ofInt 0, List.replicate (S.2 5).length (Int32.ofInt 0)) (S.1 10).toInt.toNat).2 else S.2 i).length = _
  split
  · next z =>
    rw [W48_n, z]
    exact List.length_replicate
  · rfl
theorem ln_F48 {x1 : Int32} (HL : zaL S.2) : zaL (F48 x1 S).2 := z5_L HL ((W48_n _).trans List.length_replicate)
theorem C85_9 {x1 : Int32} (h : C85 x1 S = true) : 1 ≤ x1.toInt ∧ x1.toInt ≤ 100 := by
  unfold C85 at h
  rw [show (Int32.ofInt 1).toInt = 1 by decide, show (Int32.ofInt 100).toInt = 100 by decide] at h
  split at h
  · cases h
  · split at h
    · cases h
    · omega
def R79 (x1 : Int32) (S : zSt) : Option Value ⊕ Nat := if C85 x1 S = true then (.inl (some (.int (V48 x1 S)))) else (.inr 0)
def F79 (x1 : Int32) (S : zSt) : zSt := if C85 x1 S = true then ((F48 x1 S)) else S
theorem e_79 {x1 : Int32} (HL : zaL S.2) (hs : 0 ≤ (S.1 4).toInt ∧ (S.1 4).toInt ≤ 5000) : zpM xs N 79 [.ref 0, .int x1] (zx S.1 S.2 T) nc ns (zOq (R79 x1 S) (zx (F79 x1 S).1 (F79 x1 S).2 T)) := by
  intro L0 e
  cases e
  refine zpE_run 1 (L' := [some (.ref 0), some (.int x1)]) (st' := [.int x1]) rfl ?_
  refine zpE_call rfl rfl (e_85 (S := S) (x1 := x1) HL) (fun v h1 nc1 ns1 q8 => ?_) (fun E h1 nc1 ns1 q8 => ?_)
  rotate_left
  · rcases q8 with ⟨_, q8, _⟩ | ⟨c1, q8, q9⟩
    · cases q8
    · cases q8
      cases q9
      exact ⟨fun _ => (zOq_g (r := .inr 0) (S' := S) (by unfold R79; rw [if_neg c1]) (by unfold F79; rw [if_neg c1])), fun pc2 L2 e => by cases e⟩
  replace q8 := q8.resolve_right (fun y9 => by cases y9.2.1)
  obtain ⟨c1, q8, q9⟩ := q8
  cases q8
  cases q9
  refine zpE_run 3 (L' := [some (.ref 0), some (.int x1)]) (st' := [.int x1, .ref 6]) rfl ?_
  refine zpE_call rfl rfl (e_48 (S := S) (x1 := x1) HL hs (C85_9 (by assumption))) (fun v h1 nc1 ns1 q8 => ?_) (fun E h1 nc1 ns1 q8 => by cases q8.1)
  obtain ⟨q8, q9⟩ := q8
  cases q8
  cases q9
  obtain ⟨Z1, hZ1⟩ : ∃ Z, Z = F48 x1 S := ⟨_, rfl⟩
  rw [← hZ1]
  have LZ1 : zaL Z1.2 := by
    rw [hZ1]
    exact ln_F48 HL
  exact zpE_end rfl rfl (zOq_g (r := .inl (some (.int (V48 x1 S)))) (S' := Z1) (by unfold R79; (try rw [← hZ1]); rw [if_pos c1]) (by unfold F79; (try rw [← hZ1]); rw [if_pos c1]))
theorem fr_F79 {x1 : Int32} : zfrm [] [5] (F79 x1 S) S := by
  unfold F79
  exact (fm_ite (fm_c fr_F48 fm_rf (by decide) (by decide)) fm_rf)
theorem ln_F79 {x1 : Int32} (HL : zaL S.2) : zaL (F79 x1 S).2 := fm_L fr_F79 HL
end ZCA

section ZCA
variable {xs : List Int32} {N : Nat} {S : zSt} {T : zH} {nc ns : Nat}
def Q18i (a : Nat) (S : zSt) : Nat → Nat → Bool
  | 0, _ => true
  | m + 1, k => if (zgt (S.2 0) (Int32.ofNat a)) = (zgt (S.2 0) ((Int32.ofNat k))) then false else (Q18i a S m (k + 1))
theorem l_18i {a N0 k0 m0 : Nat} {P : zO → Prop} (HL : zaL S.2) (K : Q18i a S m0 k0 = true → ∀ (o2 : Option Value) (nc ns : Nat), zpE xs N0 18 67 [some (.ref 1), some (.int (Int32.ofNat a)), o2] [] (zx S.1 S.2 T) nc ns P) (H : Q18i a S m0 k0 = false → ∀ o, zOq (.inl (some (.int (Int32.ofInt 0)))) (zx S.1 S.2 T) o → P o) : ∀ (N k m : Nat) (nc ns : Nat), N ≤ N0 → k + m = (S.1 2).toInt.toNat → Q18i a S m0 k0 = Q18i a S m k → zpE xs N 18 32 [some (.ref 1), some (.int (Int32.ofNat a)), some (.int (Int32.ofNat k))] [] (zx S.1 S.2 T) nc ns P
  | 0, _, _, _, _, _, _, _ => zpE_0
  | N + 1, k, m0, nc, ns, hN, hk, hq => by
    refine zpE_run1 2 (L' := [some (.ref 1), some (.int (Int32.ofNat a)), some (.int (Int32.ofNat k))]) (st' := [.int (S.1 2), .int (Int32.ofNat k)]) rfl ?_
    refine zpE_icmp rfl (fun q37 => ?_) (fun q37 => ?_)
    · have z37_0 := Int.not_lt.mpr (zF_ge_t q37)
      skip
      rw [zlp_o2 z37_0 hk] at hq
      exact zpE_le (by omega) (K hq _ _ _)
    · have z37_0 := zF_ge_f q37
      obtain ⟨m, rfl⟩ := zlp_i2 z37_0 hk
      have eQ : Q18i a S (m + 1) k = if (zgt (S.2 0) (Int32.ofNat a)) = (zgt (S.2 0) ((Int32.ofNat k))) then false else (Q18i a S m (k + 1)) := rfl
      refine zpE_run 3 (L' := [some (.ref 1), some (.int (Int32.ofNat a)), some (.int (Int32.ofNat k))]) (st' := [.int (Int32.ofNat a), .ref 2]) rfl ?_
      refine zpE_call rfl rfl (p_25 0 3 2 rfl rfl (HL : zaL S.2)) (fun v h1 nc1 ns1 q8 => ?_) (fun E h1 nc1 ns1 q8 => by cases q8)
      cases q8
      refine zpE_run 3 (L' := [some (.ref 1), some (.int (Int32.ofNat a)), some (.int (Int32.ofNat k))]) (st' := [.int (Int32.ofNat k), .ref 2, .int (zgt (S.2 0) (Int32.ofNat a))]) rfl ?_
      refine zpE_call rfl rfl (p_25 0 3 2 rfl rfl (HL : zaL S.2)) (fun v h1 nc1 ns1 q8 => ?_) (fun E h1 nc1 ns1 q8 => by cases q8)
      cases q8
      refine zpE_icmp rfl (fun q56 => ?_) (fun q56 => ?_)
      · have z56_1 := zF_n1 q56
        refine zpE_run 2 (L' := [some (.ref 1), some (.int (Int32.ofNat a)), some (.int ((Int32.ofNat k) + Int32.ofInt 1))]) (st' := []) rfl ?_
        have K9 := fun nc ns => l_18i HL K H N (k + 1) m nc ns (by omega) (by omega) (hq.trans (by rw [eQ, if_neg z56_1]))
        rw [← zof1] at K9
        exact K9 _ _
      · have z56_1 := zF_n0 q56
        refine zpE_run 1 (L' := [some (.ref 1), some (.int (Int32.ofNat a)), some (.int (Int32.ofNat k))]) (st' := [.int (Int32.ofInt 0)]) rfl ?_
        exact zpE_end rfl rfl (H (hq.trans (by rw [eQ, if_pos z56_1])) _ (zOq_v rfl))
def Q18 (S : zSt) : Nat → Nat → Int32
  | 0, _ => Int32.ofInt 1
  | m + 1, a => if zrmd (zbc (zgt (S.2 0) (Int32.ofNat a))) (Int32.ofInt 2) = ((0 : Int32)) then Int32.ofInt 0 else if Q18i a S ((S.1 2).toInt.toNat - (a + 1)) (a + 1) = true then Q18 S m (a + 1) else Int32.ofInt 0
theorem l_18 (HL : zaL S.2) : ∀ (N a m : Nat) (o2 : Option Value) (nc ns : Nat), a + m = (S.1 2).toInt.toNat → zpE xs N 18 2 [some (.ref 1), some (.int (Int32.ofNat a)), o2] [] (zx S.1 S.2 T) nc ns (zOq (.inl (some (.int (Q18 S m a)))) (zx S.1 S.2 T))
  | 0, _, _, _, _, _, _ => zpE_0
  | N + 1, a, m0, o2, nc, ns, hk => by
    refine zpE_run1 2 (L' := [some (.ref 1), some (.int (Int32.ofNat a)), o2]) (st' := [.int (S.1 2), .int (Int32.ofNat a)]) rfl ?_
    refine zpE_icmp rfl (fun q7 => ?_) (fun q7 => ?_)
    · have z7_0 := Int.not_lt.mpr (zF_ge_t q7)
      refine zpE_run 1 (L' := [some (.ref 1), some (.int (Int32.ofNat a)), o2]) (st' := [.int (Int32.ofInt 1)]) rfl ?_
      exact zpE_end rfl rfl (by rw [zlp_o2 z7_0 hk]; exact zOq_v rfl)
    · have z7_0 := zF_ge_f q7
      obtain ⟨m, rfl⟩ := zlp_i2 z7_0 hk
      have eQ : Q18 S (m + 1) a = if zrmd (zbc (zgt (S.2 0) (Int32.ofNat a))) (Int32.ofInt 2) = ((0 : Int32)) then Int32.ofInt 0 else if Q18i a S ((S.1 2).toInt.toNat - (a + 1)) (a + 1) = true then Q18 S m (a + 1) else Int32.ofInt 0 := rfl
      refine zpE_run 3 (L' := [some (.ref 1), some (.int (Int32.ofNat a)), o2]) (st' := [.int (Int32.ofNat a), .ref 2]) rfl ?_
      refine zpE_call rfl rfl (p_25 0 3 2 rfl rfl (HL : zaL S.2)) (fun v h1 nc1 ns1 q8 => ?_) (fun E h1 nc1 ns1 q8 => by cases q8)
      cases q8
      refine zpE_call rfl rfl ((zpM_of (t_229 (D := 0)))) (fun v h1 nc1 ns1 q8 => ?_) (fun E h1 nc1 ns1 q8 => by cases q8)
      cases q8
      refine zpE_run 1 (L' := [some (.ref 1), some (.int (Int32.ofNat a)), o2]) (st' := [.int (Int32.ofInt 2), .int (zbc (zgt (S.2 0) (Int32.ofNat a)))]) rfl ?_
      refine zpE_irem rfl (fun _ => ?_)
      refine zpE_if rfl (fun q23 => ?_) (fun q23 => ?_)
      · have z23_1 := zF_n1 q23
        refine zpE_run 4 (L' := [some (.ref 1), some (.int (Int32.ofNat a)), some (.int (Int32.ofNat a + Int32.ofInt 1))]) (st' := []) rfl ?_
        rw [zof1, eQ, if_neg z23_1]
        refine l_18i (N0 := N) (m0 := (S.1 2).toInt.toNat - (a + 1)) (k0 := a + 1) HL (fun e o2 nc ns => ?_) (fun e o ho => ?_) N _ _ _ _ (Nat.le_refl _) (by omega) rfl
        · rw [if_pos e]
          refine zpE_run 2 (L' := [some (.ref 1), some (.int (Int32.ofNat a + Int32.ofInt 1)), o2]) (st' := []) rfl ?_
          rw [zof1]
          exact l_18 HL N (a + 1) m _ _ _ (by omega)
        · rw [if_neg (by rw [e]; exact Bool.false_ne_true)]
          exact ho
      · have z23_1 := zF_n0 q23
        refine zpE_run 1 (L' := [some (.ref 1), some (.int (Int32.ofNat a)), o2]) (st' := [.int (Int32.ofInt 0)]) rfl ?_
        exact zpE_end rfl rfl (by rw [eQ, if_pos z23_1]; exact zOq_v rfl)
def V18 (S : zSt) : Int32 := Q18 S (S.1 2).toInt.toNat 0
theorem e_18 (HL : zaL S.2) : zpM xs N 18 [.ref 1] (zx S.1 S.2 T) nc ns (zOq (.inl (some (.int (V18 S)))) (zx S.1 S.2 T)) := by
  intro L0 e
  cases e
  refine zpE_run 2 (L' := [some (.ref 1), some (.int (Int32.ofNat 0)), none]) (st' := []) rfl ?_
  exact l_18 HL N 0 _ _ _ _ (Nat.zero_add _)
def Q51b (S : zSt) : Nat → Nat → Int32
  | 0, _ => (Int32.ofInt 1)
  | m + 1, k => if (V42 (zgt (S.2 6) ((Int32.ofNat k))) (zgt (S.2 2) (zgt (S.2 6) ((Int32.ofNat k)))) S) = (zgt (S.2 2) (zgt (S.2 6) ((Int32.ofNat k)))) then (Q51b S m (k + 1)) else ((Int32.ofInt 0))
theorem l_51b (HL : zaL S.2) : ∀ (N k m : Nat) (o2 : Option Value) (nc ns : Nat), k + m = (S.1 9).toInt.toNat → zpE xs N 51 29 [some (.ref 6), some (.int (Int32.ofNat k)), o2] [] (zx S.1 S.2 T) nc ns (zOq (.inl (some (.int (Q51b S m k)))) (zx S.1 S.2 T))
  | 0, _, _, _, _, _, _ => zpE_0
  | N + 1, k, m0, o2, nc, ns, hk => by
    refine zpE_run1 3 (L' := [some (.ref 6), some (.int (Int32.ofNat k)), o2]) (st' := [.int (S.1 9), .int (Int32.ofNat k)]) rfl ?_
    refine zpE_icmp rfl (fun q37 => ?_) (fun q37 => ?_)
    · have z37_0 := Int.not_lt.mpr (zF_ge_t q37)
      refine zpE_run 1 (L' := [some (.ref 6), some (.int (Int32.ofNat k)), o2]) (st' := [.int (Int32.ofInt 1)]) rfl ?_
      exact zpE_end rfl rfl (by rw [zlp_o2 z37_0 hk]; exact zOq_v rfl)
    · have z37_0 := zF_ge_f q37
      obtain ⟨m, rfl⟩ := zlp_i2 z37_0 hk
      have eQ : Q51b S (m + 1) k = if (V42 (zgt (S.2 6) ((Int32.ofNat k))) (zgt (S.2 2) (zgt (S.2 6) ((Int32.ofNat k)))) S) = (zgt (S.2 2) (zgt (S.2 6) ((Int32.ofNat k)))) then (Q51b S m (k + 1)) else ((Int32.ofInt 0)) := rfl
      refine zpE_run 4 (L' := [some (.ref 6), some (.int (Int32.ofNat k)), o2]) (st' := [.int (Int32.ofNat k), .ref 16]) rfl ?_
      refine zpE_call rfl rfl (p_25 6 17 16 rfl rfl (HL : zaL S.2)) (fun v h1 nc1 ns1 q8 => ?_) (fun E h1 nc1 ns1 q8 => by cases q8)
      cases q8
      refine zpE_run 6 (L' := [some (.ref 6), some (.int (Int32.ofNat k)), some (.int (zgt (S.2 6) (Int32.ofNat k)))]) (st' := [.int (zgt (S.2 6) (Int32.ofNat k)), .ref 7, .int (zgt (S.2 6) (Int32.ofNat k)), .ref 6]) rfl ?_
      refine zpE_call rfl rfl (p_25 2 8 7 rfl rfl (HL : zaL S.2)) (fun v h1 nc1 ns1 q8 => ?_) (fun E h1 nc1 ns1 q8 => by cases q8)
      cases q8
      refine zpE_call rfl rfl (e_42 (S := S) (x1 := zgt (S.2 6) (Int32.ofNat k)) (x2 := zgt (S.2 2) (zgt (S.2 6) (Int32.ofNat k))) HL) (fun v h1 nc1 ns1 q8 => ?_) (fun E h1 nc1 ns1 q8 => by cases q8.1)
      obtain ⟨q8, q9⟩ := q8
      cases q8
      cases q9
      refine zpE_run 3 (L' := [some (.ref 6), some (.int (Int32.ofNat k)), some (.int (zgt (S.2 6) (Int32.ofNat k)))]) (st' := [.int (zgt (S.2 6) (Int32.ofNat k)), .ref 7, .int (V42 (zgt (S.2 6) (Int32.ofNat k)) (zgt (S.2 2) (zgt (S.2 6) (Int32.ofNat k))) S)]) rfl ?_
      refine zpE_call rfl rfl (p_25 2 8 7 rfl rfl (HL : zaL S.2)) (fun v h1 nc1 ns1 q8 => ?_) (fun E h1 nc1 ns1 q8 => by cases q8)
      cases q8
      refine zpE_icmp rfl (fun q73 => ?_) (fun q73 => ?_)
      · have z73_1 := zF_e1 q73
        refine zpE_run 2 (L' := [some (.ref 6), some (.int ((Int32.ofNat k) + Int32.ofInt 1)), some (.int (zgt (S.2 6) (Int32.ofNat k)))]) (st' := []) rfl ?_
        have K := fun o2 nc ns => l_51b HL N (k + 1) m o2 nc ns (by omega)
        rw [← zof1] at K
        rw [eQ, if_pos z73_1]
        exact K _ _ _
      · have z73_1 := zF_e0 q73
        refine zpE_run 1 (L' := [some (.ref 6), some (.int (Int32.ofNat k)), some (.int (zgt (S.2 6) (Int32.ofNat k)))]) (st' := [.int (Int32.ofInt 0)]) rfl ?_
        exact zpE_end rfl rfl (by rw [eQ, if_neg z73_1]; exact zOq_v rfl)
def Q51a (S : zSt) : Nat → Nat → Int32
  | 0, _ => Q51b S (S.1 9).toInt.toNat 0
  | m + 1, k => if (zgt (S.2 3) ((Int32.ofNat k))).toInt < ((0 : Int32)).toInt then ((Int32.ofInt 0)) else (Q51a S m (k + 1))
theorem l_51a (HL : zaL S.2) : ∀ (N k m : Nat) (o2 : Option Value) (nc ns : Nat), k + m = (Int32.ofInt 20).toInt.toNat → zpE xs N 51 2 [some (.ref 6), some (.int (Int32.ofNat k)), o2] [] (zx S.1 S.2 T) nc ns (zOq (.inl (some (.int (Q51a S m k)))) (zx S.1 S.2 T))
  | 0, _, _, _, _, _, _ => zpE_0
  | N + 1, k, m0, o2, nc, ns, hk => by
    refine zpE_run1 1 (L' := [some (.ref 6), some (.int (Int32.ofNat k)), o2]) (st' := [.int (Int32.ofInt 20), .int (Int32.ofNat k)]) rfl ?_
    refine zpE_icmp rfl (fun q5 => ?_) (fun q5 => ?_)
    · have z5_0 := Int.not_lt.mpr (zF_ge_t q5)
      refine zpE_run 2 (L' := [some (.ref 6), some (.int (Int32.ofNat 0)), o2]) (st' := []) rfl ?_
      rw [zlp_o2 z5_0 hk]
      exact l_51b HL N 0 _ _ _ _ (Nat.zero_add _)
    · have z5_0 := zF_ge_f q5
      obtain ⟨m, rfl⟩ := zlp_i2 z5_0 hk
      have eQ : Q51a S (m + 1) k = if (zgt (S.2 3) ((Int32.ofNat k))).toInt < ((0 : Int32)).toInt then ((Int32.ofInt 0)) else (Q51a S m (k + 1)) := rfl
      refine zpE_run 3 (L' := [some (.ref 6), some (.int (Int32.ofNat k)), o2]) (st' := [.int (Int32.ofNat k), .ref 9]) rfl ?_
      refine zpE_call rfl rfl (p_25 3 10 9 rfl rfl (HL : zaL S.2)) (fun v h1 nc1 ns1 q8 => ?_) (fun E h1 nc1 ns1 q8 => by cases q8)
      cases q8
      refine zpE_if rfl (fun q16 => ?_) (fun q16 => ?_)
      · have z16_1 := Int.not_lt.mpr (zF_ge_t q16)
        refine zpE_run 2 (L' := [some (.ref 6), some (.int ((Int32.ofNat k) + Int32.ofInt 1)), o2]) (st' := []) rfl ?_
        have K := fun o2 nc ns => l_51a HL N (k + 1) m o2 nc ns (by omega)
        rw [← zof1] at K
        rw [eQ, if_neg z16_1]
        exact K _ _ _
      · have z16_1 := zF_ge_f q16
        refine zpE_run 1 (L' := [some (.ref 6), some (.int (Int32.ofNat k)), o2]) (st' := [.int (Int32.ofInt 0)]) rfl ?_
        exact zpE_end rfl rfl (by rw [eQ, if_pos z16_1]; exact zOq_v rfl)
def V51 (S : zSt) : Int32 := Q51a S 20 0
theorem e_51 (HL : zaL S.2) : zpM xs N 51 [.ref 6] (zx S.1 S.2 T) nc ns (zOq (.inl (some (.int (V51 S)))) (zx S.1 S.2 T)) := by
  intro L0 e
  cases e
  refine zpE_run 2 (L' := [some (.ref 6), some (.int (Int32.ofNat 0)), none]) (st' := []) rfl ?_
  exact l_51a HL N 0 20 _ _ _ (by decide)
def V80  (S : zSt) : Int32 := if (V18 S) = ((0 : Int32)) then ((Int32.ofInt 0)) else (if (V51 S) = ((0 : Int32)) then ((Int32.ofInt 0)) else (if (V38 S) = ((0 : Int32)) then ((Int32.ofInt 0)) else (if (V94 S) = ((0 : Int32)) then ((Int32.ofInt 0)) else ((Int32.ofInt 1)))))
theorem e_80 (HL : zaL S.2) : zpM xs N 80 [.ref 0] (zx S.1 S.2 T) nc ns (zOq (.inl (some (.int (V80 S)))) (zx S.1 S.2 T)) := by
  intro L0 e
  cases e
  refine zpE_run 2 (L' := [some (.ref 0)]) (st' := [.ref 1]) rfl ?_
  refine zpE_call rfl rfl (e_18 (S := S) HL) (fun v h1 nc1 ns1 q8 => ?_) (fun E h1 nc1 ns1 q8 => by cases q8.1)
  obtain ⟨q8, q9⟩ := q8
  cases q8
  cases q9
  refine zpE_if rfl (fun q7 => ?_) (fun q7 => ?_)
  · have z7_0 := zF_e1 q7
    refine zpE_run 1 (L' := [some (.ref 0)]) (st' := [.int (Int32.ofInt 0)]) rfl ?_
    exact zpE_end rfl rfl (zOq_v (by unfold V80; rw [if_pos z7_0]))
  · have z7_0 := zF_e0 q7
    refine zpE_run 2 (L' := [some (.ref 0)]) (st' := [.ref 6]) rfl ?_
    refine zpE_call rfl rfl (e_51 (S := S) HL) (fun v h1 nc1 ns1 q8 => ?_) (fun E h1 nc1 ns1 q8 => by cases q8.1)
    obtain ⟨q8, q9⟩ := q8
    cases q8
    cases q9
    refine zpE_if rfl (fun q17 => ?_) (fun q17 => ?_)
    · have z17_1 := zF_e1 q17
      refine zpE_run 1 (L' := [some (.ref 0)]) (st' := [.int (Int32.ofInt 0)]) rfl ?_
      exact zpE_end rfl rfl (zOq_v (by unfold V80; rw [if_neg z7_0, if_pos z17_1]))
    · have z17_1 := zF_e0 q17
      refine zpE_run 2 (L' := [some (.ref 0)]) (st' := [.ref 29]) rfl ?_
      refine zpE_call rfl rfl (e_38 (S := S) HL) (fun v h1 nc1 ns1 q8 => ?_) (fun E h1 nc1 ns1 q8 => by cases q8.1)
      obtain ⟨q8, q9⟩ := q8
      cases q8
      cases q9
      refine zpE_if rfl (fun q27 => ?_) (fun q27 => ?_)
      · have z27_2 := zF_e1 q27
        refine zpE_run 1 (L' := [some (.ref 0)]) (st' := [.int (Int32.ofInt 0)]) rfl ?_
        exact zpE_end rfl rfl (zOq_v (by unfold V80; rw [if_neg z7_0, if_neg z17_1, if_pos z27_2]))
      · have z27_2 := zF_e0 q27
        refine zpE_run 1 (L' := [some (.ref 0)]) (st' := [.ref 0]) rfl ?_
        refine zpE_call rfl rfl (e_94 (S := S) HL) (fun v h1 nc1 ns1 q8 => ?_) (fun E h1 nc1 ns1 q8 => by cases q8.1)
        obtain ⟨q8, q9⟩ := q8
        cases q8
        cases q9
        refine zpE_if rfl (fun q34 => ?_) (fun q34 => ?_)
        · have z34_3 := zF_e1 q34
          refine zpE_run 1 (L' := [some (.ref 0)]) (st' := [.int (Int32.ofInt 0)]) rfl ?_
          exact zpE_end rfl rfl (zOq_v (by unfold V80; rw [if_neg z7_0, if_neg z17_1, if_neg z27_2, if_pos z34_3]))
        · have z34_3 := zF_e0 q34
          refine zpE_run 2 (L' := [some (.ref 0)]) (st' := [.int (Int32.ofInt 1)]) rfl ?_
          exact zpE_end rfl rfl (zOq_v (by unfold V80; rw [if_neg z7_0, if_neg z17_1, if_neg z27_2, if_neg z34_3]))
end ZCA

