section ZPK
variable {xs : List Int32} {N : Nat} {s : Nat → Int32} {a : Nat → List Int32} {T : zH} {nc ns : Nat} {P : zO → Prop}
theorem p_25l (k q r0 : Nat) {j : Int32} (hr : (zx s a T)[r0]? = some (2, [.ref q])) (hq : (zx s a T)[q]? = some (zar (a k))) (hL : (a k).length < 2147483648) : zpM xs N 25 [.ref r0, .int j] (zx s a T) nc ns (fun o => o = (.inl (some (.int (zgt (a k) j))), zx s a T, nc, ns)) :=
  zpM_of (m_25 (xs := xs) (D := 0) (nc := nc) (ns := ns) (i := j) hr hq hL)
theorem zgt_n {l : List Int32} {i : Nat} (h : i < 2147483648) : zgt l (Int32.ofNat i) = l.getD i 0 := by
  unfold zgt
  rw [if_neg (fun z => by
    have z := zlt_z z
    rw [zofI h, zero_z] at z
    omega), zcl_of h]
theorem l_3a {k r : Nat} (hk : k ≤ 10) (hr : r ≤ 6) (hd : (zdl k r).length = k) {N0 : Nat} : ∀ (N i : Nat) (a' : Nat → List Int32), N ≤ N0 → i ≤ r → zpf a a' (zdl k r ++ zck i) →
    (∀ a', zpf a a' (zcol k r) → zpE xs N0 3 47 [some (.ref 1), some (.int (Int32.ofNat k)), some (.int (Int32.ofNat r)), some (.int (Int32.ofNat r))] [] (zx s a' T) nc ns P) →
    zpE xs N 3 23 [some (.ref 1), some (.int (Int32.ofNat k)), some (.int (Int32.ofNat r)), some (.int (Int32.ofNat i))] [] (zx s a' T) nc ns P
  | 0, _, _, _, _, _, _ => zpE_0
  | N + 1, i, a', hN, hi, g, C => by
    refine zpE_run1 1 rfl ?_
    refine zpE_icmp rfl (fun q => ?_) (fun q => ?_)
    · have z := zF_ge_t q
      rw [zofI (by omega), zofI (by omega)] at z
      obtain rfl : i = r := by omega
      exact zpE_le (by omega) (C a' g)
    · have z := zF_ge_f q
      rw [zofI (by omega), zofI (by omega)] at z
      have len : (zdl k r ++ zck i).length = k + i := by rw [List.length_append, hd, zck_len]
      have g9 := zpf_add (v := Int32.ofInt 1 <<< (Int32.ofNat i &&& 31)) g (by rw [len]; omega)
      rw [List.append_assoc, ← zck_s, len] at g9
      have G := l_3a hk hr hd N (i + 1) _ (by omega) (by omega) g9 C
      rw [← zof1] at G
      refine zpE_run 8 (st' := [.int (Int32.ofInt 1 <<< (Int32.ofNat i &&& 31)), .int (Int32.ofNat k + Int32.ofNat i), .ref 2]) rfl ?_
      rw [← Int32.ofNat_add]
      refine zpE_call rfl rfl (p_26 0 3 2 rfl rfl (fun _ => rfl) (by rw [g.1]; decide)) (fun v h1 nc1 ns1 q8 => ?_) (fun E h1 nc1 ns1 q8 => by cases q8)
      cases q8
      exact zpE_run 2 rfl G
theorem l_3b {c t : List Int32} {o1 : Option Value} {y2 : Int32} (hs2 : s 2 = Int32.ofNat c.length) (hc : c.length ≤ 16) (h0 : a 0 = c ++ t) (h16 : (a 0).length = 16) : ∀ (N i : Nat), i ≤ c.length →
    zpE xs N 3 66 [some (.ref 1), o1, some (.int y2), some (.int (Int32.ofNat i))] [] (zx s (zup a 1 (zts c i)) T) nc ns (fun o => o = (.inl none, zx s (zup a 1 (zts c c.length)) T, nc, ns))
  | 0, _, _ => zpE_0
  | N + 1, i, hi => by
    refine zpE_run1 2 (st' := [.int (s 2), .int (Int32.ofNat i)]) rfl ?_
    rw [hs2]
    refine zpE_icmp rfl (fun q => ?_) (fun q => ?_)
    · have z := zF_ge_t q
      rw [zofI (by omega), zofI (by omega)] at z
      obtain rfl : i = c.length := by omega
      exact zpE_end rfl rfl rfl
    · have z := zF_ge_f q
      rw [zofI (by omega), zofI (by omega)] at z
      have G := l_3b hs2 hc h0 h16 (o1 := o1) (y2 := y2) N (i + 1) (by omega)
      rw [← zof1] at G
      refine zpE_run 5 rfl ?_
      refine zpE_call rfl rfl (p_25l 0 3 2 rfl rfl (show (a 0).length < 2147483648 by rw [h16]; decide)) (fun v h1 nc1 ns1 q8 => ?_) (fun E h1 nc1 ns1 q8 => by cases q8)
      cases q8
      have eg : zgt (zup a 1 (zts c i) 0) (Int32.ofNat i) = c.getD i 0 := by
        rw [zgt_n (by omega)]
        show (a 0).getD i 0 = _
        rw [h0, List.getD_eq_getElem?_getD, List.getD_eq_getElem?_getD, List.getElem?_append_left (by omega)]
      rw [eg]
      refine zpE_run 3 (st' := [.int (Int32.ofInt 1 <<< (Int32.ofNat i &&& 31)), .int (c.getD i 0), .ref 4]) rfl ?_
      refine zpE_call rfl rfl (p_26 1 5 4 rfl rfl (fun _ => rfl) (show (zts c i).length < 2147483648 by rw [zts_len]; decide)) (fun v h1 nc1 ns1 q8 => ?_) (fun E h1 nc1 ns1 q8 => by cases q8)
      cases q8
      rw [zup2]
      exact zpE_run 2 rfl G
/-- the class's scalars with a code -/
abbrev zsc (s : Nat → Int32) (k r : Nat) : Nat → Int32 := zup (zup (zup s 0 (Int32.ofNat k)) 1 (Int32.ofNat r)) 2 (Int32.ofNat (k + r))
theorem p_3 {k r : Nat} (hk : k ≤ 10) (hr : r = 4 ∨ r = 5 ∨ r = 6) (hd : (zdl k r).length = k) (h0 : (a 0).length = 16) (h1 : (a 1).length = 64) : zpM xs N 3 [.ref 1, .int (Int32.ofNat k), .int (Int32.ofNat r)] (zx s a T) nc ns (fun o => ∃ a', o = (.inl none, zx (zsc s k r) a' T, nc, ns) ∧ (∃ t, a' 0 = zcol k r ++ t) ∧ (a' 0).length = 16 ∧ a' 1 = zts (zcol k r) (k + r) ∧ ∀ j, j ≠ 0 → j ≠ 1 → a' j = a j) := by
  intro L0 e
  cases e
  have e2 : Int32.ofNat k + Int32.ofNat r = Int32.ofNat (k + r) := (Int32.ofNat_add k r).symm
  refine zpE_run 12 (h' := zx (zup (zup (zup s 0 (Int32.ofNat k)) 1 (Int32.ofNat r)) 2 (Int32.ofNat k + Int32.ofNat r)) a T) rfl ?_
  rw [e2]
  refine zpE_call rfl rfl (p_4 hk hr rfl rfl h0) (fun v h9 nc1 ns1 q8 => ?_) (fun E h9 nc1 ns1 q8 => by obtain ⟨_, q8, _⟩ := q8; cases q8)
  obtain ⟨a1, q8, g1, g2⟩ := q8
  cases q8
  refine zpE_run 2 (L' := [some (.ref 1), some (.int (Int32.ofNat k)), some (.int (Int32.ofNat r)), some (.int (Int32.ofNat 0))]) rfl ?_
  refine l_3a (a := a) hk (by omega) hd N 0 a1 (Nat.le_refl _) (Nat.zero_le _) (by
    rw [show zck 0 = [] from rfl, List.append_nil]
    exact g1) (fun a2 g3 => ?_)
  refine zpE_run 3 rfl ?_
  have l1 : (a2 1).length = 64 := by rw [g3.2.1 1 (by decide)]; exact h1
  refine zpE_call rfl rfl (p_27 1 5 4 (fun _ => rfl) (fun _ => rfl) (fun _ _ => rfl) (by rw [l1]; decide)) (fun v h9 nc1 ns1 q8 => ?_) (fun E h9 nc1 ns1 q8 => by cases q8)
  cases q8
  rw [l1]
  refine zpE_run 4 rfl ?_
  refine zpE_call rfl rfl (p_26 1 5 4 rfl rfl (fun _ => rfl) (show (List.replicate 64 (Int32.ofInt (-1))).length < 2147483648 by rw [List.length_replicate]; decide)) (fun v h9 nc1 ns1 q8 => ?_) (fun E h9 nc1 ns1 q8 => by cases q8)
  cases q8
  rw [zup2]
  obtain ⟨b1, b2, t, b3⟩ := g3
  have lc : (zcol k r).length = k + r := by
    unfold zcol
    rw [List.length_append, hd, zck_len]
  refine zpE_run 2 (L' := [some (.ref 1), some (.int (Int32.ofNat k)), some (.int (Int32.ofNat r)), some (.int (Int32.ofNat 0))]) rfl ?_
  have G := l_3b (xs := xs) (s := zsc s k r) (a := a2) (T := T) (nc := nc) (ns := ns) (c := zcol k r) (t := t) (o1 := some (.int (Int32.ofNat k))) (y2 := Int32.ofNat r) (by rw [lc]; rfl) (by rw [lc]; omega) b3 b1 N 0 (Nat.zero_le _)
  refine zpE_post G (fun o ho => ?_)
  rw [lc] at ho
  refine ⟨_, ho, ⟨t, b3⟩, b1, rfl, fun j j0 j1 => ?_⟩
  show (if j = 1 then _ else a2 j) = a j
  rw [if_neg j1]
  exact b2 j j0
end ZPK
