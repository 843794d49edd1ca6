/-- the columns of the data bits -/
def zdl (k r : Nat) : List Int32 := if 5 ≤ r then zin k (2 ^ r) 5 64 1 (zin k (2 ^ r) 3 64 1 []) else zin k (2 ^ r) 3 64 1 []
section ZPH
variable {xs : List Int32} {N : Nat} {s : Nat → Int32} {a : Nat → List Int32} {T : zH} {nc ns : Nat} {P : zO → Prop}
theorem ztop {r : Nat} (hr : r = 4 ∨ r = 5 ∨ r = 6) : Int32.ofInt 1 <<< (Int32.ofNat r &&& 31) = Int32.ofNat (2 ^ r) ∧ 2 ^ r ≤ 64 := by
  rcases hr with rfl | rfl | rfl <;> decide
theorem p_4 {k r : Nat} (hk : k ≤ 10) (hr : r = 4 ∨ r = 5 ∨ r = 6) (hs0 : s 0 = Int32.ofNat k) (hs1 : s 1 = Int32.ofNat r) (hL : (a 0).length = 16) : zpM xs N 4 [.ref 1] (zx s a T) nc ns (fun o => ∃ a', o = (.inl none, zx s a' T, nc, ns) ∧ zpf a a' (zdl k r) ∧ (zdl k r).length ≤ k) := by
  intro L0 e
  cases e
  obtain ⟨top, ht⟩ := ztop hr
  rw [← hs1] at top
  refine zpE_run 7 (L' := [some (.ref 1), some (.int (Int32.ofNat 0)), some (.int (Int32.ofNat 3)), none]) (st' := [.int (s 1), .int (Int32.ofNat 3)]) rfl ?_
  have he : ∀ w : Nat, w < 100 → r < w → ∀ (a' : Nat → List Int32) (m n' : Option Value), zpf a a' (zdl k r) → (zdl k r).length ≤ k → zpE xs N 4 9 [some (.ref 1), m, some (.int (Int32.ofNat w)), n'] [.int (s 1), .int (Int32.ofNat w)] (zx s a' T) nc ns (fun o => ∃ a', o = (.inl none, zx s a' T, nc, ns) ∧ zpf a a' (zdl k r) ∧ (zdl k r).length ≤ k) := by
    intro w hw hrw a' m n' g h9
    rw [hs1]
    refine zpE_icmp rfl (fun _ => ?_) (fun q => ?_)
    · exact zpE_end rfl rfl ⟨a', rfl, g, h9⟩
    · have z := zF_gt_f q
      rw [zofI (by omega), zofI (by omega)] at z
      omega
  rw [hs1]
  refine zpE_icmp rfl (fun q => ?_) (fun _ => ?_)
  · have z := zF_gt_t q
    rw [zofI (by omega), zofI (by omega)] at z
    omega
  · refine zpE_run 2 (L' := [some (.ref 1), some (.int (Int32.ofNat ([] : List Int32).length)), some (.int (Int32.ofNat 3)), some (.int (Int32.ofNat 1))]) rfl ?_
    refine l_4i (r := s 1) hk hs0 top ht (by decide) N 64 1 [] a (Nat.le_refl _) (by omega) (by decide) (Nat.zero_le _) ⟨hL, fun _ _ => rfl, a 0, rfl⟩ (fun a1 n1 g1 h1 => ?_)
    refine zpE_run 5 (L' := [some (.ref 1), some (.int (Int32.ofNat (zin k (2 ^ r) 3 64 1 []).length)), some (.int (Int32.ofNat 5)), some (.int n1)]) (st' := [.int (s 1), .int (Int32.ofNat 5)]) rfl ?_
    by_cases h5 : 5 ≤ r
    · have ez : zdl k r = zin k (2 ^ r) 5 64 1 (zin k (2 ^ r) 3 64 1 []) := if_pos h5
      rw [hs1]
      refine zpE_icmp rfl (fun q => ?_) (fun _ => ?_)
      · have z := zF_gt_t q
        rw [zofI (by omega), zofI (by omega)] at z
        omega
      · refine zpE_run 2 (L' := [some (.ref 1), some (.int (Int32.ofNat (zin k (2 ^ r) 3 64 1 []).length)), some (.int (Int32.ofNat 5)), some (.int (Int32.ofNat 1))]) rfl ?_
        refine l_4i (r := s 1) hk hs0 top ht (by decide) N 64 1 _ a1 (Nat.le_refl _) (by omega) (by decide) h1 g1 (fun a2 n2 g2 h2 => ?_)
        rw [← ez] at g2 h2
        refine zpE_run 5 (L' := [some (.ref 1), some (.int (Int32.ofNat (zin k (2 ^ r) 5 64 1 (zin k (2 ^ r) 3 64 1 [])).length)), some (.int (Int32.ofNat 7)), some (.int n2)]) (st' := [.int (s 1), .int (Int32.ofNat 7)]) rfl ?_
        exact he 7 (by decide) (by omega) a2 _ _ g2 h2
    · have ez : zdl k r = zin k (2 ^ r) 3 64 1 [] := if_neg h5
      rw [← ez] at g1 h1
      exact he 5 (by decide) (by omega) a1 _ _ g1 h1
end ZPH
