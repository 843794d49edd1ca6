/-! The reference's columns, word for word. -/
section ZPN
variable {xs : List Int32} {N : Nat} {h : zH} {nc ns : Nat} {P : zO → Prop}
theorem zha_get {l : List Int32} : (h ++ [zar l])[h.length]? = some (100, l.map Value.int) := by
  rw [List.getElem?_append_right (Nat.le_refl _), Nat.sub_self]
  rfl
theorem zha_set {l l' : List Int32} : (h ++ [zar l]).set h.length (100, l'.map Value.int) = h ++ [zar l'] := by
  rw [List.set_append_right _ _ (Nat.le_refl _), Nat.sub_self]
  rfl
/-- a row whose first places are told, the others 0 -/
abbrev zrw (M : Nat) (acc : List Int32) : List Int32 := acc ++ List.replicate (M - acc.length) 0
theorem zrw_add {M : Nat} {acc : List Int32} {v : Int32} (hM : acc.length < M) : (zrw M acc).set acc.length v = zrw M (acc ++ [v]) := by
  show (acc ++ List.replicate (M - acc.length) 0).set acc.length v = (acc ++ [v]) ++ List.replicate (M - (acc ++ [v]).length) 0
  rw [List.set_append_right _ _ (Nat.le_refl _), Nat.sub_self, List.length_append, show [v].length = 1 from rfl, show M - acc.length = (M - (acc.length + 1)) + 1 by omega, List.replicate_succ, List.set_cons_zero, List.append_assoc]
  rfl
theorem zrw_len {M : Nat} {acc : List Int32} (hM : acc.length ≤ M) : (zrw M acc).length = M := by
  show (acc ++ List.replicate (M - acc.length) 0).length = M
  rw [List.length_append, List.length_replicate]
  omega
theorem l_116i {k top w M : Nat} {r : Int32} (hk : k ≤ 10) (hkM : k ≤ M) (hM : M ≤ 16) (htop : Int32.ofInt 1 <<< (r &&& 31) = Int32.ofNat top) (ht : top ≤ 64) (hw : w < 100) {N0 : Nat} : ∀ (N f n : Nat) (acc : List Int32), N ≤ N0 → top - n ≤ f → n ≤ 64 → acc.length ≤ k →
    (∀ n', (zin k top w f n acc).length ≤ k → zpE xs N0 116 57 [some (.int (Int32.ofNat k)), some (.int r), some (.ref h.length), some (.int (Int32.ofNat (zin k top w f n acc).length)), some (.int (Int32.ofNat w)), some (.int n')] [] (h ++ [zar (zrw M (zin k top w f n acc))]) nc ns P) →
    zpE xs N 116 20 [some (.int (Int32.ofNat k)), some (.int r), some (.ref h.length), some (.int (Int32.ofNat acc.length)), some (.int (Int32.ofNat w)), some (.int (Int32.ofNat n))] [] (h ++ [zar (zrw M acc)]) nc ns P
  | 0, _, _, _, _, _, _, _, _ => zpE_0
  | N + 1, f, n, acc, hN, hf, hn, ha, C => by
    have out : ¬ (n < top ∧ acc.length < k) → zin k top w f n acc = acc := by
      intro z
      cases f with
      | zero => rfl
      | succ f => exact if_neg z
    refine zpE_run1 3 (st' := [.int (Int32.ofInt 1 <<< (r &&& 31)), .int (Int32.ofNat n)]) rfl ?_
    rw [htop]
    refine zpE_icmp rfl (fun q => ?_) (fun q => ?_)
    · have z := zF_ge_t q
      rw [zofI (by omega), zofI (by omega)] at z
      rw [out (by omega)] at C
      exact zpE_le (by omega) (C _ ha)
    · have z := zF_ge_f q
      rw [zofI (by omega), zofI (by omega)] at z
      refine zpE_run 2 rfl ?_
      refine zpE_icmp rfl (fun q2 => ?_) (fun q2 => ?_)
      · have z2 := zF_ge_t q2
        rw [zofI (by omega), zofI (by omega)] at z2
        rw [out (by omega)] at C
        exact zpE_le (by omega) (C _ ha)
      · have z2 := zF_ge_f q2
        rw [zofI (by omega), zofI (by omega)] at z2
        refine zpE_run 1 rfl ?_
        refine zpE_call rfl rfl (zpM_of (t_114 (D := 0) (n := n) (by omega))) (fun v h1 nc1 ns1 q8 => ?_) (fun E h1 nc1 ns1 q8 => by cases q8)
        cases q8
        have hw7 := zwt_7 n (by omega)
        cases f with
        | zero => omega
        | succ f =>
          have ez : zin k top w (f + 1) n acc = zin k top w f (n + 1) (if zwt 6 n = w then acc ++ [Int32.ofNat n] else acc) := if_pos ⟨by omega, by omega⟩
          rw [ez] at C
          refine zpE_run 1 rfl ?_
          refine zpE_icmp rfl (fun q3 => ?_) (fun q3 => ?_)
          · have z3 := zF_ne_t q3
            rw [zofI (by omega), zofI (by omega)] at z3
            rw [if_neg (by omega)] at C
            have G := l_116i hk hkM hM htop ht hw N f (n + 1) acc (by omega) (by omega) (by omega) ha C
            rw [← zof1] at G
            exact zpE_run 2 rfl G
          · have z3 := zF_ne_f q3
            rw [zofI (by omega), zofI (by omega)] at z3
            rw [if_pos (by omega)] at C
            have G := l_116i hk hkM hM htop ht hw N f (n + 1) (acc ++ [Int32.ofNat n]) (by omega) (by omega) (by omega) (by simp; omega) C
            rw [← zof1, List.length_append, show [Int32.ofNat n].length = 1 from rfl, ← zof1, ← zrw_add (by omega)] at G
            refine zpE_run 4 rfl ?_
            refine zpE_ast rfl zha_get (fun z9 => by
              have z9 := zlt_z z9
              rw [zofI (by omega), zero_z] at z9
              omega) (by rw [zcl_of (by omega), zrw_len (by omega)]; omega) ?_
            rw [zcl_of (by omega), zha_set]
            exact zpE_run 2 rfl G
end ZPN
