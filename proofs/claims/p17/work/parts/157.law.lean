/-! The law, whole. -/
section ZX3
variable {xs : List Int32} {q : Nat}
set_option maxRecDepth 20000
theorem l_214 {NC NS : Nat} (hN : xs.length ≤ 3072) : ∀ (n : Nat) (c : Nat × Nat) (i : Int32) (o5 o6 o7 : Option Value) (h : zH) (nc ns : Nat), zWI c c q h → 0 ≤ i.toInt → i.toInt ≤ xs.length → 6 * (nc : Int) + 410 * (xs.length - i.toInt) ≤ 6 * NC → 6 * (ns : Int) + 14100 * (xs.length - i.toInt) ≤ 6 * NS → (xs.length - i.toInt).toNat < n → zEs xs 41 214 27 [some (.retAddr 0), some (.ref 0), some (.ref 44), some (.ref q), some (.int i), o5, o6, o7] [] h nc ns (zPb NC NS)
  | 0, _, _, _, _, _, _, _, _, _, _, _, _, _, hn => absurd hn (Nat.not_lt_zero _)
  | n + 1, c, i, o5, o6, o7, h, nc, ns, hW, i0, i1, b1, b2, hn => by
    have e1 : (Int32.ofNat xs.length).toInt = (xs.length : Int) := Int32.toInt_ofNat_of_lt (by omega)
    have e2 := Int32.toInt_sub (Int32.ofNat xs.length) (Int8.ofInt 6).toInt32
    rw [e1, show ((Int8.ofInt 6).toInt32).toInt = 6 from by decide, zbm (by omega) (by omega)] at e2
    refine zEs_run 5 rfl ?_
    refine zEs_icmp rfl (fun _ => ?_) (fun g9 => ?_)
    · refine zEs_run 1 rfl ?_
      exact zEs_end rfl rfl ⟨_, _, _, rfl, by omega, by omega⟩
    · have z := zF_gt_f g9
      have z : i.toInt ≤ (Int32.ofNat xs.length - (Int8.ofInt 6).toInt32).toInt := z
      have hlt : i.toInt.toNat < xs.length := by omega
      have e3 := zinc_le (x := i) (n := 6) (by omega) (by decide) (by decide)
      have K : ∀ (c' : Nat × Nat) (p5 p6 p7 : Option Value) (h' : zH) (nc' ns' : Nat), zWI c' c' q h' → nc' ≤ nc + 410 → ns' ≤ ns + 14100 → zEs xs 41 214 1301 [some (.retAddr 0), some (.ref 0), some (.ref 44), some (.ref q), some (.int i), p5, p6, p7] [] h' nc' ns' (zPb NC NS) := by
        intro c' p5 p6 p7 h' nc' ns' W d1 d2
        refine zEs_run 2 rfl ?_
        exact l_214 hN n c' _ p5 p6 p7 h' _ _ W (by omega) (by omega) (by omega) (by omega) (by omega)
      refine zEs_run 2 rfl ?_
      refine zEs_scr (v := xs[i.toInt.toNat]) rfl (fun z => by
        have z := zlt_z z
        rw [zero_z] at z
        omega) (show xs[i.toInt.toNat]? = some _ from List.getElem?_eq_getElem hlt) ?_
      refine zEs_run 2 rfl ?_
      refine zEs_tab [176, 216, 256, 284, 324, 392, 444, 496, 604, 644, 700, 728, 741, 754, 782, 810, 879, 907, 947, 999, 1039, 1095, 1123, 1151, 1191, 1219, 1247, 1275, 1288, 1301] rfl (by decide) (by decide) (List.forall_mem_cons.mpr ⟨?_, List.forall_mem_cons.mpr ⟨?_, List.forall_mem_cons.mpr ⟨?_, List.forall_mem_cons.mpr ⟨?_, List.forall_mem_cons.mpr ⟨?_, List.forall_mem_cons.mpr ⟨?_, List.forall_mem_cons.mpr ⟨?_, List.forall_mem_cons.mpr ⟨?_, List.forall_mem_cons.mpr ⟨?_, List.forall_mem_cons.mpr ⟨?_, List.forall_mem_cons.mpr ⟨?_, List.forall_mem_cons.mpr ⟨?_, List.forall_mem_cons.mpr ⟨?_, List.forall_mem_cons.mpr ⟨?_, List.forall_mem_cons.mpr ⟨?_, List.forall_mem_cons.mpr ⟨?_, List.forall_mem_cons.mpr ⟨?_, List.forall_mem_cons.mpr ⟨?_, List.forall_mem_cons.mpr ⟨?_, List.forall_mem_cons.mpr ⟨?_, List.forall_mem_cons.mpr ⟨?_, List.forall_mem_cons.mpr ⟨?_, List.forall_mem_cons.mpr ⟨?_, List.forall_mem_cons.mpr ⟨?_, List.forall_mem_cons.mpr ⟨?_, List.forall_mem_cons.mpr ⟨?_, List.forall_mem_cons.mpr ⟨?_, List.forall_mem_cons.mpr ⟨?_, List.forall_mem_cons.mpr ⟨?_, List.forall_mem_cons.mpr ⟨?_, fun _ h => absurd h List.not_mem_nil⟩⟩⟩⟩⟩⟩⟩⟩⟩⟩⟩⟩⟩⟩⟩⟩⟩⟩⟩⟩⟩⟩⟩⟩⟩⟩⟩⟩⟩⟩)
      · exact lw_c176 hW i0 (by omega) (by omega) K
      · exact lw_c216 hW i0 (by omega) (by omega) K
      · exact lw_c256 hW i0 (by omega) (by omega) K
      · exact lw_c284 hW i0 (by omega) (by omega) K
      · exact lw_c324 hW i0 (by omega) (by omega) K
      · exact lw_c392 hW i0 (by omega) (by omega) K
      · exact lw_c444 hW i0 (by omega) (by omega) K
      · exact lw_c496 hW i0 (by omega) (by omega) K
      · exact lw_c604 hW i0 (by omega) (by omega) K
      · exact lw_c644 hW i0 (by omega) (by omega) K
      · exact lw_c700 hW i0 (by omega) (by omega) K
      · exact lw_c728 hW i0 (by omega) (by omega) K
      · exact lw_c741 hW i0 (by omega) (by omega) K
      · exact lw_c754 hW i0 (by omega) (by omega) K
      · exact lw_c782 hW i0 (by omega) (by omega) K
      · exact lw_c810 hW i0 (by omega) (by omega) K
      · exact lw_c879 hW i0 (by omega) (by omega) K
      · exact lw_c907 hW i0 (by omega) (by omega) K
      · exact lw_c947 hW i0 (by omega) (by omega) K
      · exact lw_c999 hW i0 (by omega) (by omega) K
      · exact lw_c1039 hW i0 (by omega) (by omega) K
      · exact lw_c1095 hW i0 (by omega) (by omega) K
      · exact lw_c1123 hW i0 (by omega) (by omega) K
      · exact lw_c1151 hW i0 (by omega) (by omega) K
      · exact lw_c1191 hW i0 (by omega) (by omega) K
      · exact lw_c1219 hW i0 (by omega) (by omega) K
      · exact lw_c1247 hW i0 (by omega) (by omega) K
      · exact lw_c1275 hW i0 (by omega) (by omega) K
      · exact lw_c1288 hW i0 (by omega) (by omega) K
      · exact K c o5 o6 o7 h _ _ hW (by omega) (by omega)
theorem m_109 {H : zH} {vs : List Value} {D nc ns : Nat} : zMs xs (D + 0) 109 [.ref H.length] (H ++ [(6, vs)]) nc ns (fun o => o = (.inl none, H ++ [(6, vs)], nc, ns)) := ⟨_, rfl, zEs_run 2 rfl (zEs_end rfl rfl rfl)⟩
theorem m_214 (hN : xs.length ≤ 3072) : zMs xs 41 214 [.retAddr 0] [] 0 0 (zPb 601024 7293034) := by
  refine ⟨_, rfl, zEs_run 2 (h' := [(5, (zcf 5).map (fun q => zdf q.2))]) rfl ?_⟩
  refine zEs_callG rfl rfl (m_52c (D := 34)) (fun v h9 nc9 ns9 w => ?_) (fun E h9 nc9 ns9 w => by obtain ⟨_, _, _, _, _, _, _, _, _, w⟩ := w; cases w)
  obtain ⟨s, a, nc1, ns1, hL, hC, s4, a1, a2, w⟩ := w
  cases w
  refine zEs_run 3 (h' := zx s a [(7, (zcf 7).map (fun q => zdf q.2))]) rfl ?_
  refine zEs_callG rfl (show zcallI 0 110 15 [.ref 44, .ref 44] = some (.inr (.inl (110, [.ref 44], [.ref 44], 15))) from rfl) (zMs_mono (show 20 ≤ 40 by decide) m_110) (fun v h9 nc9 ns9 w => ?_) (fun E h9 nc9 ns9 w => by obtain ⟨_, _, _, _, _, w, _⟩ := w; cases w)
  obtain ⟨n, lg, h1, nc2, ns2, w, hI, row, b1, b2⟩ := w
  cases w
  refine zEs_run 3 rfl ?_
  refine zEs_callG rfl rfl (m_109 (D := 40)) (fun v h9 nc9 ns9 w => ?_) (fun E h9 nc9 ns9 w => by cases w)
  cases w
  refine zEs_run 3 rfl ?_
  have t5 : (zcf 5).length = 12 := rfl
  have t7 : (zcf 7).length = 26 := rfl
  have t6 : (zcf 6).length = 3 := rfl
  have z0 : (Int32.ofInt 0).toInt = 0 := by decide
  have hlen := zHI_len hI
  refine l_214 hN _ (8, 5) (Int32.ofInt 0) _ _ _ _ _ _ ?_ (by omega) (by omega) (by omega) (by omega) (Nat.lt_succ_self _)
  exact ⟨zgI s a n, lg, _, (zHI_mv hI (zapp_mv _)).1, hL, hC, ⟨by decide, congrArg Value.int (by decide), congrArg Value.int (by decide), 76, rfl, by decide, zapp_mv _ _ _ row⟩, by rw [show (zgI s a n).s 4 = 0 from s4]; decide, hlen, by rw [List.getElem?_append_right (Nat.le_refl _), Nat.sub_self]; rfl, rfl⟩
end ZX3
