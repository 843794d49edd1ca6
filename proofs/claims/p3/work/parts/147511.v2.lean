section ZPO
variable {xs : List Int32} {N y pc nx k yy m9 c : Nat} {L : zL} {h : zH} {nc ns : Nat} {P : zO → Prop}
theorem zpE_newi {m : Nat} {r : List Value} (hm : m ≤ 100) (h1 : zat (zmc y) pc = some (.newarray .int, nx, k, yy, m9, c)) (g : zpE xs N y nx L (.ref h.length :: r) (h ++ [zar (List.replicate m 0)]) (nc + 1) (ns + m) P) : zpE xs N y pc L (.int (Int32.ofNat m) :: r) h nc ns P := by
  refine zpE_step (dc := 1) (ds := m) h1 ?_ g
  show znewa 100 (.int 0) nx L (.int (Int32.ofNat m) :: r) h = _
  unfold znewa
  dsimp only
  rw [if_neg (fun z9 => by
    have z9 := zlt_z z9
    rw [zofI (by omega), zero_z] at z9
    omega), zcl_of (by omega), if_pos (by omega), if_neg (by decide)]
  unfold zar
  rw [List.map_replicate]
theorem l_116e {k r M : Nat} {o4 : Option Value} (hk : k ≤ 10) (hr : r ≤ 6) (hM : M = k + r) (hd : (zdl k r).length = k) : ∀ (N i : Nat), i ≤ r →
    zpE xs N 116 66 [some (.int (Int32.ofNat k)), some (.int (Int32.ofNat r)), some (.ref h.length), some (.int (Int32.ofNat k)), some (.int (Int32.ofNat i)), o4] [] (h ++ [zar (zrw M (zdl k r ++ zck i))]) nc ns (fun o => o = (.inl (some (.ref h.length)), h ++ [zar (zcol k r)], nc, ns))
  | 0, _, _ => zpE_0
  | N + 1, i, hi => by
    have len : (zdl k r ++ zck i).length = k + i := by rw [List.length_append, hd, zck_len]
    refine zpE_run1 1 rfl ?_
    refine zpE_icmp rfl (fun q => ?_) (fun q => ?_)
    · have z := zF_ge_t q
      rw [zofI (by omega), zofI (by omega)] at z
      obtain rfl : i = r := by omega
      refine zpE_run 1 rfl (zpE_end rfl rfl ?_)
      show (_, h ++ [zar ((zdl k i ++ zck i) ++ List.replicate (M - (zdl k i ++ zck i).length) 0)], _, _) = _
      rw [len, hM, Nat.sub_self, List.replicate_zero, List.append_nil]
      rfl
    · have z := zF_ge_f q
      rw [zofI (by omega), zofI (by omega)] at z
      have G := l_116e hk hr hM hd (o4 := o4) N (i + 1) (by omega)
      rw [← zof1, zck_s, ← List.append_assoc, ← zrw_add (by omega), len] at G
      refine zpE_run 7 (st' := [.int (Int32.ofInt 1 <<< (Int32.ofNat i &&& 31)), .int (Int32.ofNat k + Int32.ofNat i), .ref h.length]) rfl ?_
      rw [← Int32.ofNat_add]
      refine zpE_ast rfl zha_get (fun z9 => by
        have z9 := zlt_z z9
        rw [zofI (by omega), zero_z] at z9
        omega) (by rw [zcl_of (by omega), zrw_len (by omega)]; omega) ?_
      rw [zcl_of (by omega), zha_set]
      exact zpE_run 2 rfl G
theorem r_116 {k r : Nat} (hk : k ≤ 10) (hr : r = 4 ∨ r = 5 ∨ r = 6) (hd : (zdl k r).length = k) : zpM xs N 116 [.int (Int32.ofNat k), .int (Int32.ofNat r)] h nc ns (fun o => o = (.inl (some (.ref h.length)), h ++ [zar (zcol k r)], nc + 1, ns + (k + r))) := by
  intro L0 e
  cases e
  obtain ⟨top, ht⟩ := ztop hr
  refine zpE_run 3 (st' := [.int (Int32.ofNat k + Int32.ofNat r)]) rfl ?_
  rw [← Int32.ofNat_add]
  refine zpE_newi (by omega) rfl ?_
  have e0 : List.replicate (k + r) 0 = zrw (k + r) [] := by
    show _ = [] ++ List.replicate (k + r - 0) 0
    rw [List.nil_append, Nat.sub_zero]
  rw [e0]
  generalize hnc : nc + 1 = nc1
  generalize hns : ns + (k + r) = ns1
  have fin : ∀ (w : Nat) (v4 v5 : Option Value), w < 100 → r < w → zpE xs N 116 14 [some (.int (Int32.ofNat k)), some (.int (Int32.ofNat r)), some (.ref h.length), some (.int (Int32.ofNat (zdl k r).length)), some (.int (Int32.ofNat w)), v5] [.int (Int32.ofNat r), .int (Int32.ofNat w)] (h ++ [zar (zrw (k + r) (zdl k r))]) nc1 ns1 (fun o => o = (.inl (some (.ref h.length)), h ++ [zar (zcol k r)], nc1, ns1)) := by
    intro w v4 v5 hw hrw
    refine zpE_icmp rfl (fun _ => ?_) (fun q => ?_)
    · have G := l_116e (xs := xs) (h := h) (nc := nc1) (ns := ns1) (k := k) (r := r) (M := k + r) (o4 := v5) hk (by omega) rfl hd N 0 (Nat.zero_le _)
      rw [show zck 0 = [] from rfl, List.append_nil] at G
      rw [hd]
      exact zpE_run 2 rfl G
    · have z := zF_gt_f q
      rw [zofI (by omega), zofI (by omega)] at z
      omega
  refine zpE_run 7 (L' := [some (.int (Int32.ofNat k)), some (.int (Int32.ofNat r)), some (.ref h.length), some (.int (Int32.ofNat ([] : List Int32).length)), some (.int (Int32.ofNat 3)), none]) (st' := [.int (Int32.ofNat r), .int (Int32.ofNat 3)]) rfl ?_
  refine zpE_icmp rfl (fun q => ?_) (fun _ => ?_)
  · have z := zF_gt_t q
    rw [zofI (by omega), zofI (by omega)] at z
    omega
  · refine zpE_run 2 (L' := [some (.int (Int32.ofNat k)), some (.int (Int32.ofNat r)), some (.ref h.length), some (.int (Int32.ofNat ([] : List Int32).length)), some (.int (Int32.ofNat 3)), some (.int (Int32.ofNat 1))]) rfl ?_
    refine l_116i hk (show k ≤ k + r by omega) (by omega) top ht (by decide) N 64 1 [] (Nat.le_refl _) (by omega) (by decide) (Nat.zero_le _) (fun n1 h1 => ?_)
    refine zpE_run 4 (L' := [some (.int (Int32.ofNat k)), some (.int (Int32.ofNat r)), some (.ref h.length), some (.int (Int32.ofNat (zin k (2 ^ r) 3 64 1 []).length)), some (.int (Int32.ofNat 5)), some (.int n1)]) (st' := [.int (Int32.ofNat r), .int (Int32.ofNat 5)]) rfl ?_
    by_cases h5 : 5 ≤ r
    · have ez : zdl k r = zin k (2 ^ r) 5 64 1 (zin k (2 ^ r) 3 64 1 []) := if_pos h5
      refine zpE_icmp rfl (fun q => ?_) (fun _ => ?_)
      · have z := zF_gt_t q
        rw [zofI (by omega), zofI (by omega)] at z
        omega
      · refine zpE_run 2 (L' := [some (.int (Int32.ofNat k)), some (.int (Int32.ofNat r)), some (.ref h.length), some (.int (Int32.ofNat (zin k (2 ^ r) 3 64 1 []).length)), some (.int (Int32.ofNat 5)), some (.int (Int32.ofNat 1))]) rfl ?_
        refine l_116i hk (show k ≤ k + r by omega) (by omega) top ht (by decide) N 64 1 _ (Nat.le_refl _) (by omega) (by decide) h1 (fun n2 h2 => ?_)
        rw [← ez]
        refine zpE_run 4 (L' := [some (.int (Int32.ofNat k)), some (.int (Int32.ofNat r)), some (.ref h.length), some (.int (Int32.ofNat (zdl k r).length)), some (.int (Int32.ofNat 7)), some (.int n2)]) (st' := [.int (Int32.ofNat r), .int (Int32.ofNat 7)]) rfl ?_
        exact fin 7 none _ (by decide) (by omega)
    · have ez : zdl k r = zin k (2 ^ r) 3 64 1 [] := if_neg h5
      rw [← ez]
      exact fin 5 none _ (by decide) (by omega)
end ZPO
