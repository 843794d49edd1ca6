/-! The columns of the data bits. -/
/-- the numbers of weight w from n on, k of all at most -/
def zin (k top w : Nat) : Nat → Nat → List Int32 → List Int32
  | 0, _, acc => acc
  | f + 1, n, acc => if n < top ∧ acc.length < k then zin k top w f (n + 1) (if zwt 6 n = w then acc ++ [Int32.ofNat n] else acc) else acc
def zpf (a a' : Nat → List Int32) (acc : List Int32) : Prop := (a' 0).length = 16 ∧ (∀ j, j ≠ 0 → a' j = a j) ∧ ∃ t, a' 0 = acc ++ t
section ZPD
variable {xs : List Int32} {N : Nat} {s : Nat → Int32} {a : Nat → List Int32} {T : zH} {nc ns : Nat} {P : zO → Prop}
theorem p_26 (k q r0 : Nat) {j v : Int32} (hr : (zx s a T)[r0]? = some (2, [.ref q])) (hq : (zx s a T)[q]? = some (zar (a k))) (hs : ∀ l, (zx s a T).set q (zar l) = zx s (zup a k l) T) (hL : (a k).length < 2147483648) : zpM xs N 26 [.ref r0, .int j, .int v] (zx s a T) nc ns (fun o => o = (.inl none, zx s (zup a k (zst (a k) j v)) T, nc, ns)) := by
  have g := zpM_of (N := N) (m_26 (xs := xs) (D := 0) (nc := nc) (ns := ns) (i := j) (v := v) hr hq hL)
  rw [hs] at g
  exact g
theorem zst_at {acc t : List Int32} {v x : Int32} (h : acc.length < 2147483648) : zst (acc ++ x :: t) (Int32.ofNat acc.length) v = (acc ++ [v]) ++ t := by
  unfold zst
  rw [if_neg (fun z => by
    have z := zlt_z z
    rw [zofI h, zero_z] at z
    omega), zcl_of h, List.set_append_right _ _ (Nat.le_refl _), Nat.sub_self, List.set_cons_zero, List.append_assoc]
  rfl
theorem zpf_add {a' : Nat → List Int32} {acc : List Int32} {v : Int32} (g : zpf a a' acc) (h : acc.length < 16) : zpf a (zup a' 0 (zst (a' 0) (Int32.ofNat acc.length) v)) (acc ++ [v]) := by
  obtain ⟨g1, g2, t, g3⟩ := g
  cases t with
  | nil =>
    rw [List.append_nil] at g3
    rw [g3] at g1
    omega
  | cons x t =>
    refine ⟨?_, fun j hj => ?_, t, ?_⟩
    · show (zst (a' 0) _ _).length = 16
      rw [zst_len]
      exact g1
    · show (if j = 0 then _ else a' j) = a j
      rw [if_neg hj]
      exact g2 j hj
    · show zst (a' 0) _ _ = _
      rw [g3]
      exact zst_at (by omega)
theorem l_4i {k top w : Nat} {r : Int32} (hk : k ≤ 10) (hs0 : s 0 = Int32.ofNat k) (htop : Int32.ofInt 1 <<< (s 1 &&& 31) = Int32.ofNat top) (ht : top ≤ 64) (hw : w < 100) {N0 : Nat} : ∀ (N f n : Nat) (acc : List Int32) (a' : Nat → List Int32), N ≤ N0 → top - n ≤ f → n ≤ 64 → acc.length ≤ k → zpf a a' acc →
    (∀ a' n', zpf a a' (zin k top w f n acc) → (zin k top w f n acc).length ≤ k → zpE xs N0 4 58 [some (.ref 1), some (.int (Int32.ofNat (zin k top w f n acc).length)), some (.int (Int32.ofNat w)), some (.int n')] [] (zx s a' T) nc ns P) →
    zpE xs N 4 14 [some (.ref 1), some (.int (Int32.ofNat acc.length)), some (.int (Int32.ofNat w)), some (.int (Int32.ofNat n))] [] (zx s a' T) nc ns P
  | 0, _, _, _, _, _, _, _, _, _, _ => zpE_0
  | N + 1, f, n, acc, a', hN, hf, hn, ha, g, C => by
    have out : ¬ (n < top ∧ acc.length < k) → zin k top w f n acc = acc := by
      intro z
      cases f with
      | zero => rfl
      | succ f => exact if_neg z
    refine zpE_run1 4 (st' := [.int (Int32.ofInt 1 <<< (s 1 &&& 31)), .int (Int32.ofNat n)]) rfl ?_
    rw [htop]
    refine zpE_icmp rfl (fun q => ?_) (fun q => ?_)
    · have z := zF_ge_t q
      rw [zofI (by omega), zofI (by omega)] at z
      rw [out (by omega)] at C
      exact zpE_le (by omega) (C a' _ g ha)
    · have z := zF_ge_f q
      rw [zofI (by omega), zofI (by omega)] at z
      refine zpE_run 3 (st' := [.int (s 0), .int (Int32.ofNat acc.length)]) rfl ?_
      rw [hs0]
      refine zpE_icmp rfl (fun q2 => ?_) (fun q2 => ?_)
      · have z2 := zF_ge_t q2
        rw [zofI (by omega), zofI (by omega)] at z2
        rw [out (by omega)] at C
        exact zpE_le (by omega) (C a' _ g ha)
      · have z2 := zF_ge_f q2
        rw [zofI (by omega), zofI (by omega)] at z2
        refine zpE_run 1 rfl ?_
        refine zpE_call rfl rfl (zpM_of (t_229 (D := 0))) (fun v h1 nc1 ns1 q8 => ?_) (fun E h1 nc1 ns1 q8 => by cases q8)
        cases q8
        rw [zbc_wt n (by omega)]
        have hw7 := zwt_7 n (by omega)
        cases f with
        | zero => omega
        | succ f =>
          have ez : zin k top w (f + 1) n acc = zin k top w f (n + 1) (if zwt 6 n = w then acc ++ [Int32.ofNat n] else acc) := if_pos ⟨by omega, by omega⟩
          rw [ez] at C
          refine zpE_run 1 rfl ?_
          refine zpE_icmp rfl (fun q3 => ?_) (fun q3 => ?_)
          · have z3 := zF_ne_t q3
            rw [zofI (by omega), zofI (by omega)] at z3
            rw [if_neg (by omega)] at C
            have G := l_4i (r := r) hk hs0 htop ht hw N f (n + 1) acc a' (by omega) (by omega) (by omega) ha g C
            rw [← zof1] at G
            exact zpE_run 2 rfl G
          · have z3 := zF_ne_f q3
            rw [zofI (by omega), zofI (by omega)] at z3
            rw [if_pos (by omega)] at C
            refine zpE_run 4 rfl ?_
            refine zpE_call rfl rfl (p_26 0 3 2 rfl rfl (fun _ => rfl) (by rw [g.1]; decide)) (fun v h1 nc1 ns1 q8 => ?_) (fun E h1 nc1 ns1 q8 => by cases q8)
            cases q8
            have G := l_4i (r := r) hk hs0 htop ht hw N f (n + 1) (acc ++ [Int32.ofNat n]) (zup a' 0 (zst (a' 0) (Int32.ofNat acc.length) (Int32.ofNat n))) (by omega) (by omega) (by omega) (by simp; omega) (zpf_add g (by omega)) C
            rw [← zof1, List.length_append, show [Int32.ofNat n].length = 1 from rfl, ← zof1] at G
            exact zpE_run 3 rfl G
end ZPD
