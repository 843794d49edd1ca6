/-! The reference's weight of any number, and Math.min. -/
section ZWG
variable {xs : List Int32} {N : Nat} {h : zH} {nc ns : Nat}
def zwg : Nat → Int32 → Int32 → Int32
  | 0, a, _ => a
  | f + 1, a, n => if n.toInt ≤ (0 : Int32).toInt then a else zwg f (a + zrmd n (Int32.ofInt 2)) (zqtd n (Int32.ofInt 2))
theorem zwg_0 {n a : Int32} (hn : n.toInt ≤ (0 : Int32).toInt) : ∀ f, zwg f a n = a
  | 0 => rfl
  | _ + 1 => if_pos hn
theorem zq2 {n : Int32} : (zqtd n (Int32.ofInt 2)).toInt = n.toInt.tdiv 2 := by
  show (n / Int32.ofInt 2).toInt = _
  rw [Int32.toInt_div_of_ne_right _ _ (by decide), show (Int32.ofInt 2).toInt = 2 by decide]
theorem lg_114 {s : Int32} : ∀ (N f : Nat) (n a : Int32) (nc ns : Nat), n.toInt < 2 ^ f → zpE xs N 114 4 [some (.int s), some (.int a), some (.int n)] [] h nc ns (zOq (.inl (some (.int (zwg f a n)))) h)
  | 0, _, _, _, _, _, _ => zpE_0
  | N + 1, f, n, a, nc, ns, hn => by
    refine zpE_run1 0 (L' := [some (.int s), some (.int a), some (.int n)]) (st' := [.int n]) rfl ?_
    refine zpE_if rfl (fun q => ?_) (fun q => ?_)
    · have z := zF_le_t q
      rw [zwg_0 z]
      refine zpE_run 1 (L' := [some (.int s), some (.int a), some (.int n)]) (st' := [.int a]) rfl ?_
      exact zpE_end rfl rfl (zOq_v rfl)
    · have z := zF_le_f q
      rw [show (0 : Int32).toInt = 0 by decide] at z
      cases f with
      | zero => exact absurd hn (by simp; omega)
      | succ f =>
        have e : zwg (f + 1) a n = zwg f (a + zrmd n (Int32.ofInt 2)) (zqtd n (Int32.ofInt 2)) := if_neg (by rw [show (0 : Int32).toInt = 0 by decide]; omega)
        rw [e]
        refine zpE_run 3 (L' := [some (.int s), some (.int a), some (.int n)]) (st' := [.int (Int32.ofInt 2), .int n, .int a]) rfl ?_
        refine zpE_irem rfl (fun _ => ?_)
        refine zpE_run 4 (L' := [some (.int s), some (.int (a + zrmd n (Int32.ofInt 2))), some (.int n)]) (st' := [.int (Int32.ofInt 2), .int n]) rfl ?_
        refine zpE_idiv rfl (fun _ => ?_)
        refine zpE_run 2 (L' := [some (.int s), some (.int (a + zrmd n (Int32.ofInt 2))), some (.int (zqtd n (Int32.ofInt 2)))]) (st' := []) rfl ?_
        refine lg_114 N f _ _ _ _ ?_
        rw [zq2, Int.tdiv_eq_ediv_of_nonneg (by omega)]
        rw [Int.pow_succ] at hn
        omega
theorem g_wg {x : Int32} : zpM xs N 114 [.int x] h nc ns (zOq (.inl (some (.int (zwg 31 (Int32.ofInt 0) x)))) h) := by
  intro L0 e
  cases e
  refine zpE_run 4 (L' := [some (.int x), some (.int (Int32.ofInt 0)), some (.int x)]) (st' := []) rfl ?_
  exact lg_114 N 31 x (Int32.ofInt 0) _ _ (Int32.toInt_lt x)
end ZWG
section ZCA
variable {xs : List Int32} {N : Nat} {S : zSt} {T : zH} {nc ns : Nat}
def V17 (x1 : Int32) (S : zSt) : Int32 := if ((0 : Int32)).toInt < (zgt (S.2 1) x1).toInt then ((Int32.ofInt 1)) else ((Int32.ofInt 0))
theorem e_17 {x1 : Int32} (HL : zaL S.2) : zpM xs N 17 [.ref 1, .int x1] (zx S.1 S.2 T) nc ns (zOq (.inl (some (.int (V17 x1 S)))) (zx S.1 S.2 T)) := by
  intro L0 e
  cases e
  refine zpE_run 3 (L' := [some (.ref 1), some (.int x1)]) (st' := [.int x1, .ref 4]) rfl ?_
  refine zpE_call rfl rfl (p_25 1 5 4 rfl rfl (HL : zaL S.2)) (fun v h1 nc1 ns1 q8 => ?_) (fun E h1 nc1 ns1 q8 => by cases q8)
  cases q8
  refine zpE_if rfl (fun q8 => ?_) (fun q8 => ?_)
  · have z8_0 := Int.not_lt.mpr (zF_le_t q8)
    refine zpE_run 1 (L' := [some (.ref 1), some (.int x1)]) (st' := [.int (Int32.ofInt 0)]) rfl ?_
    exact zpE_end rfl rfl (zOq_v (by unfold V17; rw [if_neg z8_0]))
  · have z8_0 := zF_le_f q8
    refine zpE_run 2 (L' := [some (.ref 1), some (.int x1)]) (st' := [.int (Int32.ofInt 1)]) rfl ?_
    exact zpE_end rfl rfl (zOq_v (by unfold V17; rw [if_pos z8_0]))
theorem zlp_in2 {k m : Nat} {b : Int32} (h : (Int32.ofNat k).toInt < b.toInt) (hk : k + m = b.toInt.toNat) : k + 1 ≤ b.toInt.toNat := zlp_in h (by omega)
def Q16 (x1 x2 : Int32) (S : zSt) : Nat → Nat → Int32 → Int32
  | 0, _, u => u
  | m + 1, k, u => Q16 x1 x2 S m (k + 1) (u + (V17 (x1 ^^^ (zgt (S.2 0) ((Int32.ofNat k)))) S))
theorem l_16 {x1 x2 : Int32} (HL : zaL S.2) : ∀ (N k m : Nat) (u : Int32) (nc ns : Nat), k + m = (S.1 2).toInt.toNat → zpE xs N 16 5 [some (.ref 1), some (.int x1), some (.int x2), some (.int u), some (.int (Int32.ofNat k))] [] (zx S.1 S.2 T) nc ns (zOq (.inl (some (.int (Q16 x1 x2 S m k u)))) (zx S.1 S.2 T))
  | 0, _, _, _, _, _, _ => zpE_0
  | N + 1, k, m0, u, nc, ns, hk => by
    refine zpE_run1 2 (L' := [some (.ref 1), some (.int x1), some (.int x2), some (.int u), some (.int (Int32.ofNat k))]) (st' := [.int (S.1 2), .int (Int32.ofNat k)]) rfl ?_
    refine zpE_icmp rfl (fun q11 => ?_) (fun q11 => ?_)
    · have z11_0 := Int.not_lt.mpr (zF_ge_t q11)
      refine zpE_run 1 (L' := [some (.ref 1), some (.int x1), some (.int x2), some (.int u), some (.int (Int32.ofNat k))]) (st' := [.int u]) rfl ?_
      exact zpE_end rfl rfl (by rw [zlp_o2 z11_0 hk]; exact zOq_v rfl)
    · have z11_0 := zF_ge_f q11
      obtain ⟨m, rfl⟩ := zlp_i2 z11_0 hk
      have eQ : Q16 x1 x2 S (m + 1) k u = Q16 x1 x2 S m (k + 1) (u + (V17 (x1 ^^^ (zgt (S.2 0) ((Int32.ofNat k)))) S)) := rfl
      refine zpE_run 6 (L' := [some (.ref 1), some (.int x1), some (.int x2), some (.int u), some (.int (Int32.ofNat k))]) (st' := [.int (Int32.ofNat k), .ref 2, .int x1, .ref 1, .int u]) rfl ?_
      refine zpE_call rfl rfl (p_25 0 3 2 rfl rfl (HL : zaL S.2)) (fun v h1 nc1 ns1 q8 => ?_) (fun E h1 nc1 ns1 q8 => by cases q8)
      cases q8
      refine zpE_run 1 (L' := [some (.ref 1), some (.int x1), some (.int x2), some (.int u), some (.int (Int32.ofNat k))]) (st' := [.int (x1 ^^^ (zgt (S.2 0) (Int32.ofNat k))), .ref 1, .int u]) rfl ?_
      refine zpE_call rfl rfl (e_17 (S := S) (x1 := x1 ^^^ (zgt (S.2 0) (Int32.ofNat k))) HL) (fun v h1 nc1 ns1 q8 => ?_) (fun E h1 nc1 ns1 q8 => by cases q8.1)
      obtain ⟨q8, q9⟩ := q8
      cases q8
      cases q9
      refine zpE_run 4 (L' := [some (.ref 1), some (.int x1), some (.int x2), some (.int (u + (V17 (x1 ^^^ (zgt (S.2 0) (Int32.ofNat k))) S))), some (.int ((Int32.ofNat k) + Int32.ofInt 1))]) (st' := []) rfl ?_
      have K := fun nc ns => l_16 (x1 := x1) (x2 := x2) HL N (k + 1) m (u + (V17 (x1 ^^^ (zgt (S.2 0) (Int32.ofNat k))) S)) nc ns (by omega)
      rw [← zof1] at K
      rw [eQ]
      exact K _ _
def V16 (x1 : Int32) (b : Nat) (S : zSt) : Int32 := Q16 x1 (Int32.ofNat b) S ((S.1 2).toInt.toNat - b) b (Int32.ofInt 0)
theorem e_16 {x1 x2 : Int32} {b : Nat} (HL : zaL S.2) (hy : x2 = Int32.ofNat b) (hb : b ≤ (S.1 2).toInt.toNat) : zpM xs N 16 [.ref 1, .int x1, .int x2] (zx S.1 S.2 T) nc ns (zOq (.inl (some (.int (V16 x1 b S)))) (zx S.1 S.2 T)) := by
  subst hy
  intro L0 e
  cases e
  refine zpE_run 4 (L' := [some (.ref 1), some (.int x1), some (.int (Int32.ofNat b)), some (.int (Int32.ofInt 0)), some (.int (Int32.ofNat b))]) (st' := []) rfl ?_
  exact l_16 HL N b _ _ _ _ (by omega)
def Q15i (x1 : Int32) (a : Nat) (S : zSt) : Nat → Nat → Int32 → Int32
  | 0, _, u => u
  | m + 1, k, u => if x1 = (Int32.ofInt 2) then (Q15i x1 a S m (k + 1) (u + (V17 ((zgt (S.2 0) (Int32.ofNat a)) ^^^ (zgt (S.2 0) ((Int32.ofNat k)))) S))) else (Q15i x1 a S m (k + 1) (u + (V16 ((zgt (S.2 0) (Int32.ofNat a)) ^^^ (zgt (S.2 0) ((Int32.ofNat k)))) (k + 1) S)))
theorem l_15i {x1 : Int32} {a N0 : Nat} {P : zO → Prop} (HL : zaL S.2) : ∀ (N k m : Nat) (u : Int32) (o5 : Option Value) (nc ns : Nat), N ≤ N0 → k + m = (S.1 2).toInt.toNat → (∀ (o4 o5 : Option Value) (nc ns : Nat), zpE xs N0 15 79 [some (.ref 1), some (.int x1), some (.int (Q15i x1 a S m k u)), some (.int (Int32.ofNat a)), o4, o5] [] (zx S.1 S.2 T) nc ns P) → zpE xs N 15 17 [some (.ref 1), some (.int x1), some (.int u), some (.int (Int32.ofNat a)), some (.int (Int32.ofNat k)), o5] [] (zx S.1 S.2 T) nc ns P
  | 0, _, _, _, _, _, _, _, _, _ => zpE_0
  | N + 1, k, m0, u, o5, nc, ns, hN, hk, K => by
    refine zpE_run1 2 (L' := [some (.ref 1), some (.int x1), some (.int u), some (.int (Int32.ofNat a)), some (.int (Int32.ofNat k)), o5]) (st' := [.int (S.1 2), .int (Int32.ofNat k)]) rfl ?_
    refine zpE_icmp rfl (fun q23 => ?_) (fun q23 => ?_)
    · have z23_0 := Int.not_lt.mpr (zF_ge_t q23)
      rw [zlp_o2 z23_0 hk] at K
      exact zpE_le (by omega) (K _ _ _ _)
    · have z23_0 := zF_ge_f q23
      obtain ⟨m, rfl⟩ := zlp_i2 z23_0 hk
      have eQ : Q15i x1 a S (m + 1) k u = if x1 = (Int32.ofInt 2) then (Q15i x1 a S m (k + 1) (u + (V17 ((zgt (S.2 0) (Int32.ofNat a)) ^^^ (zgt (S.2 0) ((Int32.ofNat k)))) S))) else (Q15i x1 a S m (k + 1) (u + (V16 ((zgt (S.2 0) (Int32.ofNat a)) ^^^ (zgt (S.2 0) ((Int32.ofNat k)))) (k + 1) S))) := rfl
      refine zpE_run 3 (L' := [some (.ref 1), some (.int x1), some (.int u), some (.int (Int32.ofNat a)), some (.int (Int32.ofNat k)), o5]) (st' := [.int (Int32.ofNat a), .ref 2]) rfl ?_
      refine zpE_call rfl rfl (p_25 0 3 2 rfl rfl (HL : zaL S.2)) (fun v h1 nc1 ns1 q8 => ?_) (fun E h1 nc1 ns1 q8 => by cases q8)
      cases q8
      refine zpE_run 3 (L' := [some (.ref 1), some (.int x1), some (.int u), some (.int (Int32.ofNat a)), some (.int (Int32.ofNat k)), o5]) (st' := [.int (Int32.ofNat k), .ref 2, .int (zgt (S.2 0) (Int32.ofNat a))]) rfl ?_
      refine zpE_call rfl rfl (p_25 0 3 2 rfl rfl (HL : zaL S.2)) (fun v h1 nc1 ns1 q8 => ?_) (fun E h1 nc1 ns1 q8 => by cases q8)
      cases q8
      refine zpE_run 5 (L' := [some (.ref 1), some (.int x1), some (.int u), some (.int (Int32.ofNat a)), some (.int (Int32.ofNat k)), some (.int ((zgt (S.2 0) (Int32.ofNat a)) ^^^ (zgt (S.2 0) (Int32.ofNat k))))]) (st' := [.int (Int32.ofInt 2), .int x1, .int u]) rfl ?_
      refine zpE_icmp rfl (fun q49 => ?_) (fun q49 => ?_)
      · have z49_1 := zF_n1 q49
        refine zpE_run 5 (L' := [some (.ref 1), some (.int x1), some (.int u), some (.int (Int32.ofNat a)), some (.int (Int32.ofNat k)), some (.int ((zgt (S.2 0) (Int32.ofNat a)) ^^^ (zgt (S.2 0) (Int32.ofNat k))))]) (st' := [.int ((Int32.ofNat k) + (Int32.ofInt 1)), .int ((zgt (S.2 0) (Int32.ofNat a)) ^^^ (zgt (S.2 0) (Int32.ofNat k))), .ref 1, .int u]) rfl ?_
        refine zpE_call rfl rfl (e_16 (S := S) (x1 := (zgt (S.2 0) (Int32.ofNat a)) ^^^ (zgt (S.2 0) (Int32.ofNat k))) (x2 := Int32.ofNat k + Int32.ofInt 1) (b := k + 1) HL (zof1 k) (zlp_in2 (by assumption) hk)) (fun v h1 nc1 ns1 q8 => ?_) (fun E h1 nc1 ns1 q8 => by cases q8.1)
        obtain ⟨q8, q9⟩ := q8
        cases q8
        cases q9
        refine zpE_run 4 (L' := [some (.ref 1), some (.int x1), some (.int (u + (V16 ((zgt (S.2 0) (Int32.ofNat a)) ^^^ (zgt (S.2 0) (Int32.ofNat k))) (k + 1) S))), some (.int (Int32.ofNat a)), some (.int ((Int32.ofNat k) + Int32.ofInt 1)), some (.int ((zgt (S.2 0) (Int32.ofNat a)) ^^^ (zgt (S.2 0) (Int32.ofNat k))))]) (st' := []) rfl ?_
        rw [eQ, if_neg z49_1] at K
        have K9 := fun o5 nc ns => l_15i HL N (k + 1) m (u + (V16 ((zgt (S.2 0) (Int32.ofNat a)) ^^^ (zgt (S.2 0) (Int32.ofNat k))) (k + 1) S)) o5 nc ns (by omega) (by omega) K
        rw [← zof1] at K9
        exact K9 _ _ _
      · have z49_1 := zF_n0 q49
        refine zpE_run 2 (L' := [some (.ref 1), some (.int x1), some (.int u), some (.int (Int32.ofNat a)), some (.int (Int32.ofNat k)), some (.int ((zgt (S.2 0) (Int32.ofNat a)) ^^^ (zgt (S.2 0) (Int32.ofNat k))))]) (st' := [.int ((zgt (S.2 0) (Int32.ofNat a)) ^^^ (zgt (S.2 0) (Int32.ofNat k))), .ref 1, .int u]) rfl ?_
        refine zpE_call rfl rfl (e_17 (S := S) (x1 := (zgt (S.2 0) (Int32.ofNat a)) ^^^ (zgt (S.2 0) (Int32.ofNat k))) HL) (fun v h1 nc1 ns1 q8 => ?_) (fun E h1 nc1 ns1 q8 => by cases q8.1)
        obtain ⟨q8, q9⟩ := q8
        cases q8
        cases q9
        refine zpE_run 5 (L' := [some (.ref 1), some (.int x1), some (.int (u + (V17 ((zgt (S.2 0) (Int32.ofNat a)) ^^^ (zgt (S.2 0) (Int32.ofNat k))) S))), some (.int (Int32.ofNat a)), some (.int ((Int32.ofNat k) + Int32.ofInt 1)), some (.int ((zgt (S.2 0) (Int32.ofNat a)) ^^^ (zgt (S.2 0) (Int32.ofNat k))))]) (st' := []) rfl ?_
        rw [eQ, if_pos z49_1] at K
        have K9 := fun o5 nc ns => l_15i HL N (k + 1) m (u + (V17 ((zgt (S.2 0) (Int32.ofNat a)) ^^^ (zgt (S.2 0) (Int32.ofNat k))) S)) o5 nc ns (by omega) (by omega) K
        rw [← zof1] at K9
        exact K9 _ _ _
def W15 (x1 : Int32) (S : zSt) : Nat → Int32
  | 0 => Int32.ofInt 0
  | a + 1 => Q15i x1 a S ((S.1 2).toInt.toNat - (a + 1)) (a + 1) (W15 x1 S a)
def V15 (x1 : Int32) (S : zSt) : Int32 := W15 x1 S (S.1 2).toInt.toNat
theorem l_15 {x1 : Int32} (HL : zaL S.2) : ∀ (N a : Nat) (o4 o5 : Option Value) (nc ns : Nat), a ≤ (S.1 2).toInt.toNat → zpE xs N 15 4 [some (.ref 1), some (.int x1), some (.int (W15 x1 S a)), some (.int (Int32.ofNat a)), o4, o5] [] (zx S.1 S.2 T) nc ns (zOq (.inl (some (.int (V15 x1 S)))) (zx S.1 S.2 T))
  | 0, _, _, _, _, _, _ => zpE_0
  | N + 1, a, o4, o5, nc, ns, hk => by
    refine zpE_run1 2 (L' := [some (.ref 1), some (.int x1), some (.int (W15 x1 S a)), some (.int (Int32.ofNat a)), o4, o5]) (st' := [.int (S.1 2), .int (Int32.ofNat a)]) rfl ?_
    refine zpE_icmp rfl (fun q => ?_) (fun q => ?_)
    · have z := Int.not_lt.mpr (zF_ge_t q)
      have e9 := zlp_out z hk
      refine zpE_run 1 (L' := [some (.ref 1), some (.int x1), some (.int (W15 x1 S a)), some (.int (Int32.ofNat a)), o4, o5]) (st' := [.int (W15 x1 S a)]) rfl ?_
      exact zpE_end rfl rfl (zOq_v (by rw [e9]; rfl))
    · have z := zF_ge_f q
      have h2 := zlp_in z hk
      refine zpE_run 4 (L' := [some (.ref 1), some (.int x1), some (.int (W15 x1 S a)), some (.int (Int32.ofNat a)), some (.int (Int32.ofNat a + Int32.ofInt 1)), o5]) (st' := []) rfl ?_
      rw [zof1]
      refine l_15i (N0 := N) HL N (a + 1) ((S.1 2).toInt.toNat - (a + 1)) _ _ _ _ (Nat.le_refl _) (by omega) (fun o4 o5 nc ns => ?_)
      refine zpE_run 2 (L' := [some (.ref 1), some (.int x1), some (.int (W15 x1 S (a + 1))), some (.int (Int32.ofNat a + Int32.ofInt 1)), o4, o5]) (st' := []) rfl ?_
      rw [zof1]
      exact l_15 HL N (a + 1) _ _ _ _ h2
theorem e_15 {x1 : Int32} (HL : zaL S.2) : zpM xs N 15 [.ref 1, .int x1] (zx S.1 S.2 T) nc ns (zOq (.inl (some (.int (V15 x1 S)))) (zx S.1 S.2 T)) := by
  intro L0 e
  cases e
  refine zpE_run 4 (L' := [some (.ref 1), some (.int x1), some (.int (Int32.ofInt 0)), some (.int (Int32.ofNat 0)), none, none]) (st' := []) rfl ?_
  exact l_15 HL N 0 _ _ _ _ (Nat.zero_le _)
def R69 (x1 : Int32) (S : zSt) : Option Value ⊕ Nat := if x1 = (Int32.ofInt 2) then (.inl (some (.int (V15 x1 S)))) else (if x1 = (Int32.ofInt 3) then (.inl (some (.int (V15 x1 S)))) else (.inr 0))
def F69 (x1 : Int32) (S : zSt) : zSt := if x1 = (Int32.ofInt 2) then S else (if x1 = (Int32.ofInt 3) then S else S)
theorem e_69 {x1 : Int32} (HL : zaL S.2) : zpM xs N 69 [.ref 0, .int x1] (zx S.1 S.2 T) nc ns (zOq (R69 x1 S) (zx (F69 x1 S).1 (F69 x1 S).2 T)) := by
  intro L0 e
  cases e
  refine zpE_run 2 (L' := [some (.ref 0), some (.int x1)]) (st' := [.int (Int32.ofInt 2), .int x1]) rfl ?_
  refine zpE_icmp rfl (fun q2 => ?_) (fun q2 => ?_)
  · have z2_0 := zF_e1 q2
    refine zpE_run 3 (L' := [some (.ref 0), some (.int x1)]) (st' := [.int x1, .ref 1]) rfl ?_
    refine zpE_call rfl rfl (e_15 (S := S) (x1 := x1) HL) (fun v h1 nc1 ns1 q8 => ?_) (fun E h1 nc1 ns1 q8 => by cases q8.1)
    obtain ⟨q8, q9⟩ := q8
    cases q8
    cases q9
    exact zpE_end rfl rfl (zOq_g (r := .inl (some (.int (V15 x1 S)))) (S' := S) (by unfold R69; rw [if_pos z2_0]) (by unfold F69; rw [if_pos z2_0]))
  · have z2_0 := zF_e0 q2
    refine zpE_run 2 (L' := [some (.ref 0), some (.int x1)]) (st' := [.int (Int32.ofInt 3), .int x1]) rfl ?_
    refine zpE_icmp rfl (fun q7 => ?_) (fun q7 => ?_)
    · have z7_1 := zF_e1 q7
      refine zpE_run 3 (L' := [some (.ref 0), some (.int x1)]) (st' := [.int x1, .ref 1]) rfl ?_
      refine zpE_call rfl rfl (e_15 (S := S) (x1 := x1) HL) (fun v h1 nc1 ns1 q8 => ?_) (fun E h1 nc1 ns1 q8 => by cases q8.1)
      obtain ⟨q8, q9⟩ := q8
      cases q8
      cases q9
      exact zpE_end rfl rfl (zOq_g (r := .inl (some (.int (V15 x1 S)))) (S' := S) (by unfold R69; rw [if_neg z2_0, if_pos z7_1]) (by unfold F69; rw [if_neg z2_0, if_pos z7_1]))
    · have z7_1 := zF_e0 q7
      exact zpE_end rfl rfl (zOq_g (r := .inr 0) (S' := S) (by unfold R69; rw [if_neg z2_0, if_neg z7_1]) (by unfold F69; rw [if_neg z2_0, if_neg z7_1]))
theorem fr_F69 {x1 : Int32} : zfrm [] [] (F69 x1 S) S := by
  unfold F69
  exact (fm_ite fm_rf (fm_ite fm_rf fm_rf))
theorem ln_F69 {x1 : Int32} (HL : zaL S.2) : zaL (F69 x1 S).2 := fm_L fr_F69 HL
def V38  (S : zSt) : Int32 := if (Int32.ofInt 40).toInt < (S.1 11).toInt then ((Int32.ofInt 0)) else (if ((S.1 12) + (S.1 13)).toInt < (S.1 11).toInt then ((Int32.ofInt 0)) else ((Int32.ofInt 1)))
theorem e_38 (HL : zaL S.2) : zpM xs N 38 [.ref 29] (zx S.1 S.2 T) nc ns (zOq (.inl (some (.int (V38 S)))) (zx S.1 S.2 T)) := by
  intro L0 e
  cases e
  refine zpE_run 3 (L' := [some (.ref 29)]) (st' := [.int (Int32.ofInt 40), .int (S.1 11)]) rfl ?_
  refine zpE_icmp rfl (fun q6 => ?_) (fun q6 => ?_)
  · have z6_0 := zF_gt_t q6
    refine zpE_run 1 (L' := [some (.ref 29)]) (st' := [.int (Int32.ofInt 0)]) rfl ?_
    exact zpE_end rfl rfl (zOq_v (by unfold V38; rw [if_pos z6_0]))
  · have z6_0 := Int.not_lt.mpr (zF_gt_f q6)
    refine zpE_run 7 (L' := [some (.ref 29)]) (st' := [.int ((S.1 12) + (S.1 13)), .int (S.1 11)]) rfl ?_
    refine zpE_icmp rfl (fun q22 => ?_) (fun q22 => ?_)
    · have z22_1 := zF_gt_t q22
      refine zpE_run 1 (L' := [some (.ref 29)]) (st' := [.int (Int32.ofInt 0)]) rfl ?_
      exact zpE_end rfl rfl (zOq_v (by unfold V38; rw [if_neg z6_0, if_pos z22_1]))
    · have z22_1 := Int.not_lt.mpr (zF_gt_f q22)
      refine zpE_run 2 (L' := [some (.ref 29)]) (st' := [.int (Int32.ofInt 1)]) rfl ?_
      exact zpE_end rfl rfl (zOq_v (by unfold V38; rw [if_neg z6_0, if_neg z22_1]))
def Q94 (S : zSt) : Nat → Nat → Int32
  | 0, k => (Int32.ofInt 1)
  | m + 1, k => if (V93 (zqtd ((Int32.ofNat k)) (Int32.ofInt 8)) (zgt (S.2 15) ((Int32.ofNat k))) S) = (zrmd ((Int32.ofNat k)) (Int32.ofInt 8)) then (Q94 S m (k + 1)) else ((Int32.ofInt 0))
theorem l_94 (HL : zaL S.2) : ∀ (N k m : Nat) (nc ns : Nat), k + m = (Int32.ofInt 16).toInt.toNat → zpE xs N 94 2 [some (.ref 0), some (.int (Int32.ofNat k))] [] (zx S.1 S.2 T) nc ns (zOq (.inl (some (.int (Q94 S m k)))) (zx S.1 S.2 T))
  | 0, _, _, _, _, _ => zpE_0
  | N + 1, k, m0, nc, ns, hk => by
    refine zpE_run1 1 (L' := [some (.ref 0), some (.int (Int32.ofNat k))]) (st' := [.int (Int32.ofInt 16), .int (Int32.ofNat k)]) rfl ?_
    refine zpE_icmp rfl (fun q5 => ?_) (fun q5 => ?_)
    · have z5_0 := Int.not_lt.mpr (zF_ge_t q5)
      refine zpE_run 1 (L' := [some (.ref 0), some (.int (Int32.ofNat k))]) (st' := [.int (Int32.ofInt 1)]) rfl ?_
      exact zpE_end rfl rfl (by rw [zlp_o2 z5_0 hk]; exact zOq_v (by first | rfl | done))
    · have z5_0 := zF_ge_f q5
      obtain ⟨m, rfl⟩ := zlp_i2 z5_0 hk
      have eQ : Q94 S (m + 1) k = if (V93 (zqtd ((Int32.ofNat k)) (Int32.ofInt 8)) (zgt (S.2 15) ((Int32.ofNat k))) S) = (zrmd ((Int32.ofNat k)) (Int32.ofInt 8)) then (Q94 S m (k + 1)) else ((Int32.ofInt 0)) := rfl
      refine zpE_run 3 (L' := [some (.ref 0), some (.int (Int32.ofNat k))]) (st' := [.int (Int32.ofInt 8), .int (Int32.ofNat k), .ref 0]) rfl ?_
      refine zpE_idiv rfl (fun _ => ?_)
      refine zpE_run 3 (L' := [some (.ref 0), some (.int (Int32.ofNat k))]) (st' := [.int (Int32.ofNat k), .ref 36, .int (zqtd (Int32.ofNat k) (Int32.ofInt 8)), .ref 0]) rfl ?_
      refine zpE_call rfl rfl (p_25 15 37 36 rfl rfl (HL : zaL S.2)) (fun v h1 nc1 ns1 q8 => ?_) (fun E h1 nc1 ns1 q8 => by cases q8)
      cases q8
      refine zpE_call rfl rfl (e_93 (S := S) (x1 := zqtd (Int32.ofNat k) (Int32.ofInt 8)) (x2 := zgt (S.2 15) (Int32.ofNat k)) HL) (fun v h1 nc1 ns1 q8 => ?_) (fun E h1 nc1 ns1 q8 => by cases q8.1)
      obtain ⟨q8, q9⟩ := q8
      cases q8
      cases q9
      refine zpE_run 2 (L' := [some (.ref 0), some (.int (Int32.ofNat k))]) (st' := [.int (Int32.ofInt 8), .int (Int32.ofNat k), .int (V93 (zqtd (Int32.ofNat k) (Int32.ofInt 8)) (zgt (S.2 15) (Int32.ofNat k)) S)]) rfl ?_
      refine zpE_irem rfl (fun _ => ?_)
      refine zpE_icmp rfl (fun q28 => ?_) (fun q28 => ?_)
      · have z28_1 := zF_e1 q28
        refine zpE_run 2 (L' := [some (.ref 0), some (.int ((Int32.ofNat k) + Int32.ofInt 1))]) (st' := []) rfl ?_
        have K := fun nc ns => l_94 HL N (k + 1) m nc ns (by omega)
        rw [← zof1] at K
        rw [eQ, if_pos z28_1]
        exact K _ _
      · have z28_1 := zF_e0 q28
        refine zpE_run 1 (L' := [some (.ref 0), some (.int (Int32.ofNat k))]) (st' := [.int (Int32.ofInt 0)]) rfl ?_
        exact zpE_end rfl rfl (zOq_v (by rw [eQ, if_neg z28_1]))
def V94  (S : zSt) : Int32 := Q94 S (Int32.ofInt 16).toInt.toNat 0
theorem e_94 (HL : zaL S.2) : zpM xs N 94 [.ref 0] (zx S.1 S.2 T) nc ns (zOq (.inl (some (.int (V94 S)))) (zx S.1 S.2 T)) := by
  intro L0 e
  cases e
  refine zpE_run 2 rfl ?_
  exact l_94 HL N 0 _ _ _ (Nat.zero_add _)
end ZCA

