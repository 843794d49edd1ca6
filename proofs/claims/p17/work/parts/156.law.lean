/-! The law: a call. Written by wip/gen/f156.py. -/
def zPb (nc ns : Nat) : zO → Prop := fun o => ∃ h' nc' ns', o = (.inl (some (.int 1)), h', nc', ns') ∧ nc' ≤ nc ∧ ns' ≤ ns
section ZX2
variable {xs : List Int32} {h : zH} {nc ns nc0 ns0 q D y pc nx kk yy m cy : Nat} {c : Nat × Nat} {i : Int32} {o5 o6 o7 : Option Value} {L : zL} {r : List Value} {P : zO → Prop}
/-- an int of the script -/
theorem zEs_scr {j v : Int32} (e1 : zat (zmc y) pc = some (.iaload, nx, kk, yy, m, cy)) (hj : ¬ j < 0) (hv : xs[j.toNatClampNeg]? = some v) (g9 : zEs xs D y nx L (.int v :: r) h nc ns P) : zEs xs D y pc L (.int j :: .retAddr 0 :: r) h nc ns P := by
  refine zEs_step (dc := 0) (ds := 0) e1 ?_ g9
  show (if j < 0 then none else match xs[j.toNatClampNeg]? with
    | some x => zgo nx L (.int x :: r) h
    | none => none) = _
  rw [if_neg hj, hv]
  rfl
theorem zEs_sk {k : Int} (e1 : zat (zmc y) pc = some (.iaload, nx, kk, yy, m, cy)) (h0 : 0 ≤ i.toInt) (h1 : i.toInt + 6 ≤ xs.length) (hN : xs.length ≤ 100000) (hk : 0 < k) (hk2 : k < 6) (g9 : ∀ v : Int32, zEs xs D y nx L (.int v :: r) h nc ns P) : zEs xs D y pc L (.int (i + Int32.ofInt k) :: .retAddr 0 :: r) h nc ns P := by
  have e := zinc_le (x := i) (n := k) (by omega) hk (by omega)
  have hlt : (i + Int32.ofInt k).toInt.toNat < xs.length := by omega
  exact zEs_scr e1 (fun z => by
    have z := zlt_z z
    rw [zero_z] at z
    omega) (show xs[(i + Int32.ofInt k).toInt.toNat]? = some _ from List.getElem?_eq_getElem hlt) (g9 _)
theorem zEs_sk9 {k : Int} (e1 : zat (zmc y) pc = some (.iaload, nx, kk, yy, m, cy)) (h0 : 0 ≤ i.toInt) (h1 : i.toInt + 6 ≤ xs.length) (hN : xs.length ≤ 100000) (hk : 0 < k) (hk2 : k < 6) (g9 : ∀ v : Int32, xs[(i + Int32.ofInt k).toInt.toNat]? = some v → zEs xs D y nx L (.int v :: r) h nc ns P) : zEs xs D y pc L (.int (i + Int32.ofInt k) :: .retAddr 0 :: r) h nc ns P := by
  have e := zinc_le (x := i) (n := k) (by omega) hk (by omega)
  have hlt : (i + Int32.ofInt k).toInt.toNat < xs.length := by omega
  exact zEs_scr e1 (fun z => by
    have z := zlt_z z
    rw [zero_z] at z
    omega) (show xs[(i + Int32.ofInt k).toInt.toNat]? = some _ from List.getElem?_eq_getElem hlt) (g9 _ (List.getElem?_eq_getElem hlt))
theorem zlcm (x : Int64) : lg_cmp x x = 0 := by
  unfold lg_cmp
  rw [if_neg (Int64.lt_irrefl : ¬ x < x), if_pos rfl]
set_option maxRecDepth 20000
theorem lw_c176 (hW : zWI c c q h) (h0 : 0 ≤ i.toInt) (h1 : i.toInt + 6 ≤ xs.length) (hN : xs.length ≤ 100000) (K : ∀ (c' : Nat × Nat) (p5 p6 p7 : Option Value) (h' : zH) (nc' ns' : Nat), zWI c' c' q h' → nc' ≤ nc + 410 → ns' ≤ ns + 14100 → zEs xs 41 214 1301 [some (.retAddr 0), some (.ref 0), some (.ref 44), some (.ref q), some (.int i), p5, p6, p7] [] h' nc' ns' (zPb nc0 ns0)) : zEs xs 41 214 176 [some (.retAddr 0), some (.ref 0), some (.ref 44), some (.ref q), some (.int i), o5, o6, o7] [] h nc ns (zPb nc0 ns0) := by
  refine zEs_run 5 rfl ?_
  refine zEs_sk9 (k := 1) rfl h0 h1 hN (by decide) (by decide) (fun v1 s1 => ?_)
  refine zEs_run 4 rfl ?_
  refine zEs_sk9 (k := 2) rfl h0 h1 hN (by decide) (by decide) (fun v2 s2 => ?_)
  refine zEs_run 1 rfl ?_
  refine zEs_callG rfl rfl (zMs_mono (show 9 ≤ 40 by decide) (w_189 hW)) (fun v h9 nc1 ns1 z => ?_) (fun E h9 nc1 ns1 z => by obtain ⟨_, _, _, _, _, z, _⟩ := z; cases z)
  obtain ⟨k1, h1_, nc1_, ns1_, c1, z, hq1, W1, a1, d1⟩ := z
  cases z
  refine zEs_run 6 rfl ?_
  refine zEs_sk9 (k := 1) rfl h0 h1 hN (by decide) (by decide) (fun v3 s3 => ?_)
  refine zEs_run 4 rfl ?_
  refine zEs_sk9 (k := 2) rfl h0 h1 hN (by decide) (by decide) (fun v4 s4 => ?_)
  obtain ⟨ws2, hw2⟩ := zWI_44 W1
  have q1 : v3 = v1 := Option.some.inj (s3.symm.trans s1)
  have q2 : v4 = v2 := Option.some.inj (s4.symm.trans s2)
  refine zEs_callG rfl (show zcallV 2 7 139 211 (.int v4 :: .int v3 :: .ref 44 :: _) _ = _ from zcallV_eq rfl hw2 (Nat.le_of_ble_eq_true rfl)) (zWm_code W1) (fun v h9 nc1 ns1 z => ?_) (fun E h9 nc1 ns1 z => by obtain ⟨_, _, _, _, _, z, _⟩ := z; cases z)
  obtain ⟨v2_, h2_, nc2_, ns2_, c2_, z, hq2, W2, a2, d2⟩ := z
  cases z
  rw [q1, q2] at hq2
  obtain rfl := zCq_e (fun p hp => ⟨(zcds_kr p hp).2.1, (zcds_kr p hp).2.2.2.1⟩) (zWI_m1 W2).2 (zWI_m1 W2).1 hq2 hq1
  refine zEs_run 2 rfl ?_
  exact K _ _ _ _ _ _ _ W2 (by omega) (by omega)
theorem lw_c216 (hW : zWI c c q h) (h0 : 0 ≤ i.toInt) (h1 : i.toInt + 6 ≤ xs.length) (hN : xs.length ≤ 100000) (K : ∀ (c' : Nat × Nat) (p5 p6 p7 : Option Value) (h' : zH) (nc' ns' : Nat), zWI c' c' q h' → nc' ≤ nc + 410 → ns' ≤ ns + 14100 → zEs xs 41 214 1301 [some (.retAddr 0), some (.ref 0), some (.ref 44), some (.ref q), some (.int i), p5, p6, p7] [] h' nc' ns' (zPb nc0 ns0)) : zEs xs 41 214 216 [some (.retAddr 0), some (.ref 0), some (.ref 44), some (.ref q), some (.int i), o5, o6, o7] [] h nc ns (zPb nc0 ns0) := by
  refine zEs_run 5 rfl ?_
  refine zEs_sk (k := 1) rfl h0 h1 hN (by decide) (by decide) (fun v1 => ?_)
  refine zEs_run 4 rfl ?_
  refine zEs_sk (k := 2) rfl h0 h1 hN (by decide) (by decide) (fun v2 => ?_)
  refine zEs_run 1 rfl ?_
  refine zEs_callG rfl rfl (zMs_mono (show 9 ≤ 40 by decide) (w_190 hW)) (fun v h9 nc1 ns1 z => ?_) (fun E h9 nc1 ns1 z => by obtain ⟨_, _, _, _, z, _⟩ := z; cases z)
  obtain ⟨k1, h1_, nc1_, ns1_, z, W1, a1, d1⟩ := z
  cases z
  refine zEs_run 6 rfl ?_
  refine zEs_sk (k := 1) rfl h0 h1 hN (by decide) (by decide) (fun v3 => ?_)
  refine zEs_run 4 rfl ?_
  refine zEs_sk (k := 2) rfl h0 h1 hN (by decide) (by decide) (fun v4 => ?_)
  obtain ⟨ws2, hw2⟩ := zWI_44 W1
  refine zEs_callG rfl (show zcallV 2 7 140 251 (.int v4 :: .int v3 :: .ref 44 :: _) _ = _ from zcallV_eq rfl hw2 (Nat.le_of_ble_eq_true rfl)) (mm_140 W1) (fun v h9 nc1 ns1 z => ?_) (fun E h9 nc1 ns1 z => by obtain ⟨_, _, _, _, z, _⟩ := z; cases z)
  obtain ⟨v2_, h2_, nc2_, ns2_, z, hv2, W2, a2, d2⟩ := z
  cases z
  obtain ⟨k2, rfl⟩ := hv2
  refine zEs_run 2 rfl ?_
  exact K _ _ _ _ _ _ _ W2 (by omega) (by omega)
theorem lw_c256 (hW : zWI c c q h) (h0 : 0 ≤ i.toInt) (h1 : i.toInt + 6 ≤ xs.length) (hN : xs.length ≤ 100000) (K : ∀ (c' : Nat × Nat) (p5 p6 p7 : Option Value) (h' : zH) (nc' ns' : Nat), zWI c' c' q h' → nc' ≤ nc + 410 → ns' ≤ ns + 14100 → zEs xs 41 214 1301 [some (.retAddr 0), some (.ref 0), some (.ref 44), some (.ref q), some (.int i), p5, p6, p7] [] h' nc' ns' (zPb nc0 ns0)) : zEs xs 41 214 256 [some (.retAddr 0), some (.ref 0), some (.ref 44), some (.ref q), some (.int i), o5, o6, o7] [] h nc ns (zPb nc0 ns0) := by
  refine zEs_run 5 rfl ?_
  refine zEs_sk (k := 1) rfl h0 h1 hN (by decide) (by decide) (fun v1 => ?_)
  refine zEs_run 1 rfl ?_
  refine zEs_callG rfl rfl (zMs_mono (show 9 ≤ 40 by decide) (w_191 hW)) (fun v h9 nc1 ns1 z => ?_) (fun E h9 nc1 ns1 z => by obtain ⟨_, _, _, _, z, _⟩ := z; cases z)
  obtain ⟨k1, h1_, nc1_, ns1_, z, W1, a1, d1⟩ := z
  cases z
  refine zEs_run 6 rfl ?_
  refine zEs_sk (k := 1) rfl h0 h1 hN (by decide) (by decide) (fun v2 => ?_)
  obtain ⟨ws2, hw2⟩ := zWI_44 W1
  refine zEs_callG rfl (show zcallV 1 7 141 279 (.int v2 :: .ref 44 :: _) _ = _ from zcallV_eq rfl hw2 (Nat.le_of_ble_eq_true rfl)) (mm_141 W1) (fun v h9 nc1 ns1 z => ?_) (fun E h9 nc1 ns1 z => by obtain ⟨_, _, _, _, z, _⟩ := z; cases z)
  obtain ⟨v2_, h2_, nc2_, ns2_, z, hv2, W2, a2, d2⟩ := z
  cases z
  obtain ⟨k2, rfl⟩ := hv2
  refine zEs_run 2 rfl ?_
  exact K _ _ _ _ _ _ _ W2 (by omega) (by omega)
theorem lw_c284 (hW : zWI c c q h) (h0 : 0 ≤ i.toInt) (h1 : i.toInt + 6 ≤ xs.length) (hN : xs.length ≤ 100000) (K : ∀ (c' : Nat × Nat) (p5 p6 p7 : Option Value) (h' : zH) (nc' ns' : Nat), zWI c' c' q h' → nc' ≤ nc + 410 → ns' ≤ ns + 14100 → zEs xs 41 214 1301 [some (.retAddr 0), some (.ref 0), some (.ref 44), some (.ref q), some (.int i), p5, p6, p7] [] h' nc' ns' (zPb nc0 ns0)) : zEs xs 41 214 284 [some (.retAddr 0), some (.ref 0), some (.ref 44), some (.ref q), some (.int i), o5, o6, o7] [] h nc ns (zPb nc0 ns0) := by
  refine zEs_run 5 rfl ?_
  refine zEs_sk (k := 1) rfl h0 h1 hN (by decide) (by decide) (fun v1 => ?_)
  refine zEs_run 4 rfl ?_
  refine zEs_sk (k := 2) rfl h0 h1 hN (by decide) (by decide) (fun v2 => ?_)
  refine zEs_run 1 rfl ?_
  refine zEs_callG rfl rfl (zMs_mono (show 9 ≤ 40 by decide) (w_192 hW)) (fun v h9 nc1 ns1 z => ?_) (fun E h9 nc1 ns1 z => by obtain ⟨_, _, _, _, z, _⟩ := z; cases z)
  obtain ⟨k1, h1_, nc1_, ns1_, z, W1, a1, d1⟩ := z
  cases z
  refine zEs_run 6 rfl ?_
  refine zEs_sk (k := 1) rfl h0 h1 hN (by decide) (by decide) (fun v3 => ?_)
  refine zEs_run 4 rfl ?_
  refine zEs_sk (k := 2) rfl h0 h1 hN (by decide) (by decide) (fun v4 => ?_)
  obtain ⟨ws2, hw2⟩ := zWI_44 W1
  refine zEs_callG rfl (show zcallV 2 7 142 319 (.int v4 :: .int v3 :: .ref 44 :: _) _ = _ from zcallV_eq rfl hw2 (Nat.le_of_ble_eq_true rfl)) (mm_142 W1) (fun v h9 nc1 ns1 z => ?_) (fun E h9 nc1 ns1 z => by obtain ⟨_, _, _, _, z, _⟩ := z; cases z)
  obtain ⟨v2_, h2_, nc2_, ns2_, z, hv2, W2, a2, d2⟩ := z
  cases z
  obtain ⟨k2, rfl⟩ := hv2
  refine zEs_run 2 rfl ?_
  exact K _ _ _ _ _ _ _ W2 (by omega) (by omega)
theorem lw_c324 (hW : zWI c c q h) (h0 : 0 ≤ i.toInt) (h1 : i.toInt + 6 ≤ xs.length) (hN : xs.length ≤ 100000) (K : ∀ (c' : Nat × Nat) (p5 p6 p7 : Option Value) (h' : zH) (nc' ns' : Nat), zWI c' c' q h' → nc' ≤ nc + 410 → ns' ≤ ns + 14100 → zEs xs 41 214 1301 [some (.retAddr 0), some (.ref 0), some (.ref 44), some (.ref q), some (.int i), p5, p6, p7] [] h' nc' ns' (zPb nc0 ns0)) : zEs xs 41 214 324 [some (.retAddr 0), some (.ref 0), some (.ref 44), some (.ref q), some (.int i), o5, o6, o7] [] h nc ns (zPb nc0 ns0) := by
  refine zEs_run 5 rfl ?_
  refine zEs_sk (k := 1) rfl h0 h1 hN (by decide) (by decide) (fun v1 => ?_)
  refine zEs_run 4 rfl ?_
  refine zEs_sk (k := 2) rfl h0 h1 hN (by decide) (by decide) (fun v2 => ?_)
  refine zEs_run 4 rfl ?_
  refine zEs_sk (k := 3) rfl h0 h1 hN (by decide) (by decide) (fun v3 => ?_)
  suffices J1 : ∀ w : Int32, (w = 0 ∨ w = 1) → zEs xs 41 214 351 [some (.retAddr 0), some (.ref 0), some (.ref 44), some (.ref q), some (.int i), o5, o6, o7] (.int w :: [.int v2, .int v1, .ref 0]) h _ _ (zPb nc0 ns0) by
    refine zEs_if rfl (fun _ => ?_) (fun _ => ?_)
    · exact zEs_run 1 rfl (J1 _ (by decide))
    · exact zEs_run 2 rfl (J1 _ (by decide))
  intro v4 b4
  refine zEs_run 1 rfl ?_
  refine zEs_callG rfl rfl (zMs_mono (show 9 ≤ 40 by decide) (w_193 hW)) (fun v h9 nc1 ns1 z => ?_) (fun E h9 nc1 ns1 z => by obtain ⟨_, _, _, _, z, _⟩ := z; cases z)
  obtain ⟨k1, h1_, nc1_, ns1_, z, W1, a1, d1⟩ := z
  cases z
  refine zEs_run 6 rfl ?_
  refine zEs_sk (k := 1) rfl h0 h1 hN (by decide) (by decide) (fun v5 => ?_)
  refine zEs_run 4 rfl ?_
  refine zEs_sk (k := 2) rfl h0 h1 hN (by decide) (by decide) (fun v6 => ?_)
  refine zEs_run 4 rfl ?_
  refine zEs_sk (k := 3) rfl h0 h1 hN (by decide) (by decide) (fun v7 => ?_)
  suffices J2 : ∀ w : Int32, (w = 0 ∨ w = 1) → zEs xs 41 214 384 [some (.retAddr 0), some (.ref 0), some (.ref 44), some (.ref q), some (.int i), some (.int k1), o6, o7] (.int w :: [.int v6, .int v5, .ref 44]) h9 _ _ (zPb nc0 ns0) by
    refine zEs_if rfl (fun _ => ?_) (fun _ => ?_)
    · exact zEs_run 1 rfl (J2 _ (by decide))
    · exact zEs_run 2 rfl (J2 _ (by decide))
  intro v8 b8
  obtain ⟨ws2, hw2⟩ := zWI_44 W1
  refine zEs_callG rfl (show zcallV 3 7 143 387 (.int v8 :: .int v6 :: .int v5 :: .ref 44 :: _) _ = _ from zcallV_eq rfl hw2 (Nat.le_of_ble_eq_true rfl)) (mm_143 W1 b8) (fun v h9 nc1 ns1 z => ?_) (fun E h9 nc1 ns1 z => by obtain ⟨_, _, _, _, z, _⟩ := z; cases z)
  obtain ⟨v2_, h2_, nc2_, ns2_, z, hv2, W2, a2, d2⟩ := z
  cases z
  obtain ⟨k2, rfl⟩ := hv2
  refine zEs_run 2 rfl ?_
  exact K _ _ _ _ _ _ _ W2 (by omega) (by omega)
theorem lw_c392 (hW : zWI c c q h) (h0 : 0 ≤ i.toInt) (h1 : i.toInt + 6 ≤ xs.length) (hN : xs.length ≤ 100000) (K : ∀ (c' : Nat × Nat) (p5 p6 p7 : Option Value) (h' : zH) (nc' ns' : Nat), zWI c' c' q h' → nc' ≤ nc + 410 → ns' ≤ ns + 14100 → zEs xs 41 214 1301 [some (.retAddr 0), some (.ref 0), some (.ref 44), some (.ref q), some (.int i), p5, p6, p7] [] h' nc' ns' (zPb nc0 ns0)) : zEs xs 41 214 392 [some (.retAddr 0), some (.ref 0), some (.ref 44), some (.ref q), some (.int i), o5, o6, o7] [] h nc ns (zPb nc0 ns0) := by
  refine zEs_run 5 rfl ?_
  refine zEs_sk (k := 1) rfl h0 h1 hN (by decide) (by decide) (fun v1 => ?_)
  refine zEs_run 4 rfl ?_
  refine zEs_sk (k := 2) rfl h0 h1 hN (by decide) (by decide) (fun v2 => ?_)
  refine zEs_run 4 rfl ?_
  refine zEs_sk (k := 3) rfl h0 h1 hN (by decide) (by decide) (fun v3 => ?_)
  refine zEs_run 1 rfl ?_
  refine zEs_callG rfl rfl (zMs_mono (show 9 ≤ 40 by decide) (w_194 hW)) (fun v h9 nc1 ns1 z => ?_) (fun E h9 nc1 ns1 z => by obtain ⟨_, _, _, _, z, _⟩ := z; cases z)
  obtain ⟨k1, h1_, nc1_, ns1_, z, W1, a1, d1⟩ := z
  cases z
  refine zEs_run 6 rfl ?_
  refine zEs_sk (k := 1) rfl h0 h1 hN (by decide) (by decide) (fun v4 => ?_)
  refine zEs_run 4 rfl ?_
  refine zEs_sk (k := 2) rfl h0 h1 hN (by decide) (by decide) (fun v5 => ?_)
  refine zEs_run 4 rfl ?_
  refine zEs_sk (k := 3) rfl h0 h1 hN (by decide) (by decide) (fun v6 => ?_)
  obtain ⟨ws2, hw2⟩ := zWI_44 W1
  refine zEs_callG rfl (show zcallV 3 7 144 439 (.int v6 :: .int v5 :: .int v4 :: .ref 44 :: _) _ = _ from zcallV_eq rfl hw2 (Nat.le_of_ble_eq_true rfl)) (mm_144 W1) (fun v h9 nc1 ns1 z => ?_) (fun E h9 nc1 ns1 z => by obtain ⟨_, _, _, _, z, _⟩ := z; cases z)
  obtain ⟨v2_, h2_, nc2_, ns2_, z, hv2, W2, a2, d2⟩ := z
  cases z
  obtain ⟨k2, rfl⟩ := hv2
  refine zEs_run 2 rfl ?_
  exact K _ _ _ _ _ _ _ W2 (by omega) (by omega)
theorem lw_c444 (hW : zWI c c q h) (h0 : 0 ≤ i.toInt) (h1 : i.toInt + 6 ≤ xs.length) (hN : xs.length ≤ 100000) (K : ∀ (c' : Nat × Nat) (p5 p6 p7 : Option Value) (h' : zH) (nc' ns' : Nat), zWI c' c' q h' → nc' ≤ nc + 410 → ns' ≤ ns + 14100 → zEs xs 41 214 1301 [some (.retAddr 0), some (.ref 0), some (.ref 44), some (.ref q), some (.int i), p5, p6, p7] [] h' nc' ns' (zPb nc0 ns0)) : zEs xs 41 214 444 [some (.retAddr 0), some (.ref 0), some (.ref 44), some (.ref q), some (.int i), o5, o6, o7] [] h nc ns (zPb nc0 ns0) := by
  refine zEs_run 5 rfl ?_
  refine zEs_sk (k := 1) rfl h0 h1 hN (by decide) (by decide) (fun v1 => ?_)
  refine zEs_run 4 rfl ?_
  refine zEs_sk (k := 2) rfl h0 h1 hN (by decide) (by decide) (fun v2 => ?_)
  refine zEs_run 4 rfl ?_
  refine zEs_sk (k := 3) rfl h0 h1 hN (by decide) (by decide) (fun v3 => ?_)
  refine zEs_run 1 rfl ?_
  refine zEs_callG rfl rfl (zMs_mono (show 9 ≤ 40 by decide) (w_195 hW)) (fun v h9 nc1 ns1 z => ?_) (fun E h9 nc1 ns1 z => by obtain ⟨_, _, _, _, z, _⟩ := z; cases z)
  obtain ⟨k1, h1_, nc1_, ns1_, z, W1, a1, d1⟩ := z
  cases z
  refine zEs_run 6 rfl ?_
  refine zEs_sk (k := 1) rfl h0 h1 hN (by decide) (by decide) (fun v4 => ?_)
  refine zEs_run 4 rfl ?_
  refine zEs_sk (k := 2) rfl h0 h1 hN (by decide) (by decide) (fun v5 => ?_)
  refine zEs_run 4 rfl ?_
  refine zEs_sk (k := 3) rfl h0 h1 hN (by decide) (by decide) (fun v6 => ?_)
  obtain ⟨ws2, hw2⟩ := zWI_44 W1
  refine zEs_callG rfl (show zcallV 3 7 145 491 (.int v6 :: .int v5 :: .int v4 :: .ref 44 :: _) _ = _ from zcallV_eq rfl hw2 (Nat.le_of_ble_eq_true rfl)) (mm_145 W1) (fun v h9 nc1 ns1 z => ?_) (fun E h9 nc1 ns1 z => by obtain ⟨_, _, _, _, z, _⟩ := z; cases z)
  obtain ⟨v2_, h2_, nc2_, ns2_, z, hv2, W2, a2, d2⟩ := z
  cases z
  obtain ⟨k2, rfl⟩ := hv2
  refine zEs_run 2 rfl ?_
  exact K _ _ _ _ _ _ _ W2 (by omega) (by omega)
theorem lw_c496 (hW : zWI c c q h) (h0 : 0 ≤ i.toInt) (h1 : i.toInt + 6 ≤ xs.length) (hN : xs.length ≤ 100000) (K : ∀ (c' : Nat × Nat) (p5 p6 p7 : Option Value) (h' : zH) (nc' ns' : Nat), zWI c' c' q h' → nc' ≤ nc + 410 → ns' ≤ ns + 14100 → zEs xs 41 214 1301 [some (.retAddr 0), some (.ref 0), some (.ref 44), some (.ref q), some (.int i), p5, p6, p7] [] h' nc' ns' (zPb nc0 ns0)) : zEs xs 41 214 496 [some (.retAddr 0), some (.ref 0), some (.ref 44), some (.ref q), some (.int i), o5, o6, o7] [] h nc ns (zPb nc0 ns0) := by
  refine zEs_run 5 rfl ?_
  refine zEs_sk (k := 1) rfl h0 h1 hN (by decide) (by decide) (fun v1 => ?_)
  refine zEs_run 4 rfl ?_
  refine zEs_sk (k := 2) rfl h0 h1 hN (by decide) (by decide) (fun v2 => ?_)
  refine zEs_run 4 rfl ?_
  refine zEs_sk (k := 3) rfl h0 h1 hN (by decide) (by decide) (fun v3 => ?_)
  refine zEs_run 4 rfl ?_
  refine zEs_sk (k := 4) rfl h0 h1 hN (by decide) (by decide) (fun v4 => ?_)
  suffices J1 : ∀ w : Int32, (w = 0 ∨ w = 1) → zEs xs 41 214 529 [some (.retAddr 0), some (.ref 0), some (.ref 44), some (.ref q), some (.int i), o5, o6, o7] (.int w :: [.int v3, .int v2, .int v1, .ref 0]) h _ _ (zPb nc0 ns0) by
    refine zEs_if rfl (fun _ => ?_) (fun _ => ?_)
    · exact zEs_run 1 rfl (J1 _ (by decide))
    · exact zEs_run 2 rfl (J1 _ (by decide))
  intro v5 b5
  refine zEs_run 4 rfl ?_
  refine zEs_sk (k := 5) rfl h0 h1 hN (by decide) (by decide) (fun v6 => ?_)
  suffices J2 : ∀ w : Int32, (w = 0 ∨ w = 1) → zEs xs 41 214 543 [some (.retAddr 0), some (.ref 0), some (.ref 44), some (.ref q), some (.int i), o5, o6, o7] (.int w :: [.int v5, .int v3, .int v2, .int v1, .ref 0]) h _ _ (zPb nc0 ns0) by
    refine zEs_if rfl (fun _ => ?_) (fun _ => ?_)
    · exact zEs_run 1 rfl (J2 _ (by decide))
    · exact zEs_run 2 rfl (J2 _ (by decide))
  intro v7 b7
  refine zEs_run 1 rfl ?_
  refine zEs_callG rfl rfl (zMs_mono (show 9 ≤ 40 by decide) (w_196 hW b5 b7)) (fun v h9 nc1 ns1 z => ?_) (fun E h9 nc1 ns1 z => by obtain ⟨_, _, _, _, z, _⟩ := z; cases z)
  obtain ⟨k1, h1_, nc1_, ns1_, z, W1, a1, d1⟩ := z
  cases z
  refine zEs_run 6 rfl ?_
  refine zEs_sk (k := 1) rfl h0 h1 hN (by decide) (by decide) (fun v8 => ?_)
  refine zEs_run 4 rfl ?_
  refine zEs_sk (k := 2) rfl h0 h1 hN (by decide) (by decide) (fun v9 => ?_)
  refine zEs_run 4 rfl ?_
  refine zEs_sk (k := 3) rfl h0 h1 hN (by decide) (by decide) (fun v10 => ?_)
  refine zEs_run 4 rfl ?_
  refine zEs_sk (k := 4) rfl h0 h1 hN (by decide) (by decide) (fun v11 => ?_)
  suffices J3 : ∀ w : Int32, (w = 0 ∨ w = 1) → zEs xs 41 214 582 [some (.retAddr 0), some (.ref 0), some (.ref 44), some (.ref q), some (.int i), some (.int k1), o6, o7] (.int w :: [.int v10, .int v9, .int v8, .ref 44]) h9 _ _ (zPb nc0 ns0) by
    refine zEs_if rfl (fun _ => ?_) (fun _ => ?_)
    · exact zEs_run 1 rfl (J3 _ (by decide))
    · exact zEs_run 2 rfl (J3 _ (by decide))
  intro v12 b12
  refine zEs_run 4 rfl ?_
  refine zEs_sk (k := 5) rfl h0 h1 hN (by decide) (by decide) (fun v13 => ?_)
  suffices J4 : ∀ w : Int32, (w = 0 ∨ w = 1) → zEs xs 41 214 596 [some (.retAddr 0), some (.ref 0), some (.ref 44), some (.ref q), some (.int i), some (.int k1), o6, o7] (.int w :: [.int v12, .int v10, .int v9, .int v8, .ref 44]) h9 _ _ (zPb nc0 ns0) by
    refine zEs_if rfl (fun _ => ?_) (fun _ => ?_)
    · exact zEs_run 1 rfl (J4 _ (by decide))
    · exact zEs_run 2 rfl (J4 _ (by decide))
  intro v14 b14
  obtain ⟨ws2, hw2⟩ := zWI_44 W1
  refine zEs_callG rfl (show zcallV 5 7 146 599 (.int v14 :: .int v12 :: .int v10 :: .int v9 :: .int v8 :: .ref 44 :: _) _ = _ from zcallV_eq rfl hw2 (Nat.le_of_ble_eq_true rfl)) (mm_146 W1 b12 b14) (fun v h9 nc1 ns1 z => ?_) (fun E h9 nc1 ns1 z => by obtain ⟨_, _, _, _, z, _⟩ := z; cases z)
  obtain ⟨v2_, h2_, nc2_, ns2_, z, hv2, W2, a2, d2⟩ := z
  cases z
  obtain ⟨k2, rfl⟩ := hv2
  refine zEs_run 2 rfl ?_
  exact K _ _ _ _ _ _ _ W2 (by omega) (by omega)
theorem lw_c604 (hW : zWI c c q h) (h0 : 0 ≤ i.toInt) (h1 : i.toInt + 6 ≤ xs.length) (hN : xs.length ≤ 100000) (K : ∀ (c' : Nat × Nat) (p5 p6 p7 : Option Value) (h' : zH) (nc' ns' : Nat), zWI c' c' q h' → nc' ≤ nc + 410 → ns' ≤ ns + 14100 → zEs xs 41 214 1301 [some (.retAddr 0), some (.ref 0), some (.ref 44), some (.ref q), some (.int i), p5, p6, p7] [] h' nc' ns' (zPb nc0 ns0)) : zEs xs 41 214 604 [some (.retAddr 0), some (.ref 0), some (.ref 44), some (.ref q), some (.int i), o5, o6, o7] [] h nc ns (zPb nc0 ns0) := by
  refine zEs_run 5 rfl ?_
  refine zEs_sk (k := 1) rfl h0 h1 hN (by decide) (by decide) (fun v1 => ?_)
  refine zEs_run 4 rfl ?_
  refine zEs_sk (k := 2) rfl h0 h1 hN (by decide) (by decide) (fun v2 => ?_)
  refine zEs_run 1 rfl ?_
  refine zEs_callG rfl rfl (zMs_mono (show 9 ≤ 40 by decide) (w_197 hW)) (fun v h9 nc1 ns1 z => ?_) (fun E h9 nc1 ns1 z => by obtain ⟨_, _, _, _, z, _⟩ := z; cases z)
  obtain ⟨k1, h1_, nc1_, ns1_, z, W1, a1, d1⟩ := z
  cases z
  refine zEs_run 6 rfl ?_
  refine zEs_sk (k := 1) rfl h0 h1 hN (by decide) (by decide) (fun v3 => ?_)
  refine zEs_run 4 rfl ?_
  refine zEs_sk (k := 2) rfl h0 h1 hN (by decide) (by decide) (fun v4 => ?_)
  obtain ⟨ws2, hw2⟩ := zWI_44 W1
  refine zEs_callG rfl (show zcallV 2 7 147 639 (.int v4 :: .int v3 :: .ref 44 :: _) _ = _ from zcallV_eq rfl hw2 (Nat.le_of_ble_eq_true rfl)) (mm_147 W1) (fun v h9 nc1 ns1 z => ?_) (fun E h9 nc1 ns1 z => by obtain ⟨_, _, _, _, z, _⟩ := z; cases z)
  obtain ⟨v2_, h2_, nc2_, ns2_, z, hv2, W2, a2, d2⟩ := z
  cases z
  obtain ⟨k2, rfl⟩ := hv2
  refine zEs_run 2 rfl ?_
  exact K _ _ _ _ _ _ _ W2 (by omega) (by omega)
theorem lw_c644 (hW : zWI c c q h) (h0 : 0 ≤ i.toInt) (h1 : i.toInt + 6 ≤ xs.length) (hN : xs.length ≤ 100000) (K : ∀ (c' : Nat × Nat) (p5 p6 p7 : Option Value) (h' : zH) (nc' ns' : Nat), zWI c' c' q h' → nc' ≤ nc + 410 → ns' ≤ ns + 14100 → zEs xs 41 214 1301 [some (.retAddr 0), some (.ref 0), some (.ref 44), some (.ref q), some (.int i), p5, p6, p7] [] h' nc' ns' (zPb nc0 ns0)) : zEs xs 41 214 644 [some (.retAddr 0), some (.ref 0), some (.ref 44), some (.ref q), some (.int i), o5, o6, o7] [] h nc ns (zPb nc0 ns0) := by
  refine zEs_run 5 rfl ?_
  refine zEs_sk (k := 1) rfl h0 h1 hN (by decide) (by decide) (fun v1 => ?_)
  refine zEs_run 4 rfl ?_
  refine zEs_sk (k := 2) rfl h0 h1 hN (by decide) (by decide) (fun v2 => ?_)
  suffices J1 : ∀ w : Int32, (w = 0 ∨ w = 1) → zEs xs 41 214 665 [some (.retAddr 0), some (.ref 0), some (.ref 44), some (.ref q), some (.int i), o5, o6, o7] (.int w :: [.int v1, .ref 0]) h _ _ (zPb nc0 ns0) by
    refine zEs_if rfl (fun _ => ?_) (fun _ => ?_)
    · exact zEs_run 1 rfl (J1 _ (by decide))
    · exact zEs_run 2 rfl (J1 _ (by decide))
  intro v3 b3
  refine zEs_run 1 rfl ?_
  refine zEs_callG rfl rfl (zMs_mono (show 9 ≤ 40 by decide) (w_198 hW)) (fun v h9 nc1 ns1 z => ?_) (fun E h9 nc1 ns1 z => by obtain ⟨_, _, _, _, z, _⟩ := z; cases z)
  obtain ⟨k1, h1_, nc1_, ns1_, z, W1, a1, d1⟩ := z
  cases z
  refine zEs_run 6 rfl ?_
  refine zEs_sk (k := 1) rfl h0 h1 hN (by decide) (by decide) (fun v4 => ?_)
  refine zEs_run 4 rfl ?_
  refine zEs_sk (k := 2) rfl h0 h1 hN (by decide) (by decide) (fun v5 => ?_)
  suffices J2 : ∀ w : Int32, (w = 0 ∨ w = 1) → zEs xs 41 214 692 [some (.retAddr 0), some (.ref 0), some (.ref 44), some (.ref q), some (.int i), some (.int k1), o6, o7] (.int w :: [.int v4, .ref 44]) h9 _ _ (zPb nc0 ns0) by
    refine zEs_if rfl (fun _ => ?_) (fun _ => ?_)
    · exact zEs_run 1 rfl (J2 _ (by decide))
    · exact zEs_run 2 rfl (J2 _ (by decide))
  intro v6 b6
  obtain ⟨ws2, hw2⟩ := zWI_44 W1
  refine zEs_callG rfl (show zcallV 2 7 148 695 (.int v6 :: .int v4 :: .ref 44 :: _) _ = _ from zcallV_eq rfl hw2 (Nat.le_of_ble_eq_true rfl)) (mm_148 W1 b6) (fun v h9 nc1 ns1 z => ?_) (fun E h9 nc1 ns1 z => by obtain ⟨_, _, _, _, z, _⟩ := z; cases z)
  obtain ⟨v2_, h2_, nc2_, ns2_, z, hv2, W2, a2, d2⟩ := z
  cases z
  obtain ⟨k2, rfl⟩ := hv2
  refine zEs_run 2 rfl ?_
  exact K _ _ _ _ _ _ _ W2 (by omega) (by omega)
theorem lw_c700 (hW : zWI c c q h) (h0 : 0 ≤ i.toInt) (h1 : i.toInt + 6 ≤ xs.length) (hN : xs.length ≤ 100000) (K : ∀ (c' : Nat × Nat) (p5 p6 p7 : Option Value) (h' : zH) (nc' ns' : Nat), zWI c' c' q h' → nc' ≤ nc + 410 → ns' ≤ ns + 14100 → zEs xs 41 214 1301 [some (.retAddr 0), some (.ref 0), some (.ref 44), some (.ref q), some (.int i), p5, p6, p7] [] h' nc' ns' (zPb nc0 ns0)) : zEs xs 41 214 700 [some (.retAddr 0), some (.ref 0), some (.ref 44), some (.ref q), some (.int i), o5, o6, o7] [] h nc ns (zPb nc0 ns0) := by
  refine zEs_run 5 rfl ?_
  refine zEs_sk (k := 1) rfl h0 h1 hN (by decide) (by decide) (fun v1 => ?_)
  refine zEs_run 1 rfl ?_
  refine zEs_callG rfl rfl (zMs_mono (show 9 ≤ 40 by decide) (w_199 hW)) (fun v h9 nc1 ns1 z => ?_) (fun E h9 nc1 ns1 z => by obtain ⟨_, _, _, _, z, _⟩ := z; cases z)
  obtain ⟨k1, h1_, nc1_, ns1_, z, W1, a1, d1⟩ := z
  cases z
  refine zEs_run 6 rfl ?_
  refine zEs_sk (k := 1) rfl h0 h1 hN (by decide) (by decide) (fun v2 => ?_)
  obtain ⟨ws2, hw2⟩ := zWI_44 W1
  refine zEs_callG rfl (show zcallV 1 7 150 723 (.int v2 :: .ref 44 :: _) _ = _ from zcallV_eq rfl hw2 (Nat.le_of_ble_eq_true rfl)) (mm_150 W1) (fun v h9 nc1 ns1 z => ?_) (fun E h9 nc1 ns1 z => by obtain ⟨_, _, _, _, z, _⟩ := z; cases z)
  obtain ⟨v2_, h2_, nc2_, ns2_, z, hv2, W2, a2, d2⟩ := z
  cases z
  obtain ⟨k2, rfl⟩ := hv2
  refine zEs_run 2 rfl ?_
  exact K _ _ _ _ _ _ _ W2 (by omega) (by omega)
theorem lw_c728 (hW : zWI c c q h) (h0 : 0 ≤ i.toInt) (h1 : i.toInt + 6 ≤ xs.length) (hN : xs.length ≤ 100000) (K : ∀ (c' : Nat × Nat) (p5 p6 p7 : Option Value) (h' : zH) (nc' ns' : Nat), zWI c' c' q h' → nc' ≤ nc + 410 → ns' ≤ ns + 14100 → zEs xs 41 214 1301 [some (.retAddr 0), some (.ref 0), some (.ref 44), some (.ref q), some (.int i), p5, p6, p7] [] h' nc' ns' (zPb nc0 ns0)) : zEs xs 41 214 728 [some (.retAddr 0), some (.ref 0), some (.ref 44), some (.ref q), some (.int i), o5, o6, o7] [] h nc ns (zPb nc0 ns0) := by
  refine zEs_run 1 rfl ?_
  obtain ⟨ws1, hw1⟩ := zWI_0 hW
  have e1 : ∀ rs, zcs rs ≤ 8 → zcallV 0 5 64 732 (.ref 0 :: rs) h = some (.inr (.inl (64, [.ref 0], rs, 732))) := fun rs hr => zcallV_eq rfl hw1 hr
  refine zEs_callG rfl (e1 _ (by decide)) (zMs_mono (show 9 ≤ 40 by decide) (zKo (D := 9) hW (by decide) (by decide) (fun s a T hL ht => k_64 hL))) (fun v h9 nc1 ns1 z => ?_) (fun E h9 nc1 ns1 z => by rcases z with ⟨_, _, _, _, _, _, _, _, z⟩ | ⟨_, _, _, _, z, _⟩ <;> cases z)
  replace z := z.resolve_right (fun y9 => by obtain ⟨_, _, _, _, y9, _⟩ := y9; cases y9)
  obtain ⟨v1_, h1_, nc1_, ns1_, hv1, W1, a1, d1, z⟩ := z
  cases z
  obtain ⟨k1, rfl⟩ := hv1
  refine zEs_run 2 rfl ?_
  obtain ⟨ws2, hw2⟩ := zWI_44 W1
  refine zEs_callG rfl (show zcallV 0 7 151 737 (.ref 44 :: _) _ = _ from zcallV_eq rfl hw2 (Nat.le_of_ble_eq_true rfl)) (mm_151 W1) (fun v h9 nc1 ns1 z => ?_) (fun E h9 nc1 ns1 z => by obtain ⟨_, _, _, _, z, _⟩ := z; cases z)
  obtain ⟨v2_, h2_, nc2_, ns2_, z, hv2, W2, a2, d2⟩ := z
  cases z
  obtain ⟨k2, rfl⟩ := hv2
  refine zEs_run 2 rfl ?_
  exact K _ _ _ _ _ _ _ W2 (by omega) (by omega)
theorem lw_c741 (hW : zWI c c q h) (h0 : 0 ≤ i.toInt) (h1 : i.toInt + 6 ≤ xs.length) (hN : xs.length ≤ 100000) (K : ∀ (c' : Nat × Nat) (p5 p6 p7 : Option Value) (h' : zH) (nc' ns' : Nat), zWI c' c' q h' → nc' ≤ nc + 410 → ns' ≤ ns + 14100 → zEs xs 41 214 1301 [some (.retAddr 0), some (.ref 0), some (.ref 44), some (.ref q), some (.int i), p5, p6, p7] [] h' nc' ns' (zPb nc0 ns0)) : zEs xs 41 214 741 [some (.retAddr 0), some (.ref 0), some (.ref 44), some (.ref q), some (.int i), o5, o6, o7] [] h nc ns (zPb nc0 ns0) := by
  refine zEs_run 1 rfl ?_
  obtain ⟨ws1, hw1⟩ := zWI_0 hW
  have e1 : ∀ rs, zcs rs ≤ 8 → zcallV 0 5 65 745 (.ref 0 :: rs) h = some (.inr (.inl (65, [.ref 0], rs, 745))) := fun rs hr => zcallV_eq rfl hw1 hr
  refine zEs_callG rfl (e1 _ (by decide)) (zKc (D := 40) hW) (fun v h9 nc1 ns1 z => ?_) (fun E h9 nc1 ns1 z => by obtain ⟨_, _, z, _⟩ := z; cases z)
  obtain ⟨v1_, h', z, W1⟩ := z
  cases z
  refine zEs_run 2 rfl ?_
  obtain ⟨ws2, hw2⟩ := zWI_44 W1
  refine zEs_callG rfl (show zcallV 0 7 152 750 (.ref 44 :: _) _ = _ from zcallV_eq rfl hw2 (Nat.le_of_ble_eq_true rfl)) (zWm_call (D := 40) W1) (fun v h9 nc1 ns1 z => ?_) (fun E h9 nc1 ns1 z => by obtain ⟨_, _, z, _⟩ := z; cases z)
  obtain ⟨v2_, h', z, W2⟩ := z
  cases z
  refine zEs_run 2 rfl ?_
  exact K _ _ _ _ _ _ _ W2 (by omega) (by omega)
theorem lw_c754 (hW : zWI c c q h) (h0 : 0 ≤ i.toInt) (h1 : i.toInt + 6 ≤ xs.length) (hN : xs.length ≤ 100000) (K : ∀ (c' : Nat × Nat) (p5 p6 p7 : Option Value) (h' : zH) (nc' ns' : Nat), zWI c' c' q h' → nc' ≤ nc + 410 → ns' ≤ ns + 14100 → zEs xs 41 214 1301 [some (.retAddr 0), some (.ref 0), some (.ref 44), some (.ref q), some (.int i), p5, p6, p7] [] h' nc' ns' (zPb nc0 ns0)) : zEs xs 41 214 754 [some (.retAddr 0), some (.ref 0), some (.ref 44), some (.ref q), some (.int i), o5, o6, o7] [] h nc ns (zPb nc0 ns0) := by
  refine zEs_run 5 rfl ?_
  refine zEs_sk (k := 1) rfl h0 h1 hN (by decide) (by decide) (fun v1 => ?_)
  refine zEs_run 1 rfl ?_
  refine zEs_callG rfl rfl (zMs_mono (show 9 ≤ 40 by decide) (w_200 hW)) (fun v h9 nc1 ns1 z => ?_) (fun E h9 nc1 ns1 z => by obtain ⟨_, _, _, _, z, _⟩ := z; cases z)
  obtain ⟨k1, h1_, nc1_, ns1_, z, W1, a1, d1⟩ := z
  cases z
  refine zEs_run 6 rfl ?_
  refine zEs_sk (k := 1) rfl h0 h1 hN (by decide) (by decide) (fun v2 => ?_)
  obtain ⟨ws2, hw2⟩ := zWI_44 W1
  refine zEs_callG rfl (show zcallV 1 7 153 777 (.int v2 :: .ref 44 :: _) _ = _ from zcallV_eq rfl hw2 (Nat.le_of_ble_eq_true rfl)) (mm_153 W1) (fun v h9 nc1 ns1 z => ?_) (fun E h9 nc1 ns1 z => by obtain ⟨_, _, _, _, z, _⟩ := z; cases z)
  obtain ⟨v2_, h2_, nc2_, ns2_, z, hv2, W2, a2, d2⟩ := z
  cases z
  obtain ⟨k2, rfl⟩ := hv2
  refine zEs_run 2 rfl ?_
  exact K _ _ _ _ _ _ _ W2 (by omega) (by omega)
theorem lw_c782 (hW : zWI c c q h) (h0 : 0 ≤ i.toInt) (h1 : i.toInt + 6 ≤ xs.length) (hN : xs.length ≤ 100000) (K : ∀ (c' : Nat × Nat) (p5 p6 p7 : Option Value) (h' : zH) (nc' ns' : Nat), zWI c' c' q h' → nc' ≤ nc + 410 → ns' ≤ ns + 14100 → zEs xs 41 214 1301 [some (.retAddr 0), some (.ref 0), some (.ref 44), some (.ref q), some (.int i), p5, p6, p7] [] h' nc' ns' (zPb nc0 ns0)) : zEs xs 41 214 782 [some (.retAddr 0), some (.ref 0), some (.ref 44), some (.ref q), some (.int i), o5, o6, o7] [] h nc ns (zPb nc0 ns0) := by
  refine zEs_run 5 rfl ?_
  refine zEs_sk (k := 1) rfl h0 h1 hN (by decide) (by decide) (fun v1 => ?_)
  refine zEs_run 1 rfl ?_
  refine zEs_callG rfl rfl (zMs_mono (show 9 ≤ 40 by decide) (w_201 hW)) (fun v h9 nc1 ns1 z => ?_) (fun E h9 nc1 ns1 z => by obtain ⟨_, _, _, _, z, _⟩ := z; cases z)
  obtain ⟨k1, h1_, nc1_, ns1_, z, W1, a1, d1⟩ := z
  cases z
  refine zEs_run 6 rfl ?_
  refine zEs_sk (k := 1) rfl h0 h1 hN (by decide) (by decide) (fun v2 => ?_)
  obtain ⟨ws2, hw2⟩ := zWI_44 W1
  refine zEs_callG rfl (show zcallV 1 7 154 805 (.int v2 :: .ref 44 :: _) _ = _ from zcallV_eq rfl hw2 (Nat.le_of_ble_eq_true rfl)) (mm_154 W1) (fun v h9 nc1 ns1 z => ?_) (fun E h9 nc1 ns1 z => by obtain ⟨_, _, _, _, z, _⟩ := z; cases z)
  obtain ⟨v2_, h2_, nc2_, ns2_, z, hv2, W2, a2, d2⟩ := z
  cases z
  obtain ⟨k2, rfl⟩ := hv2
  refine zEs_run 2 rfl ?_
  exact K _ _ _ _ _ _ _ W2 (by omega) (by omega)
theorem lw_c810 (hW : zWI c c q h) (h0 : 0 ≤ i.toInt) (h1 : i.toInt + 6 ≤ xs.length) (hN : xs.length ≤ 100000) (K : ∀ (c' : Nat × Nat) (p5 p6 p7 : Option Value) (h' : zH) (nc' ns' : Nat), zWI c' c' q h' → nc' ≤ nc + 410 → ns' ≤ ns + 14100 → zEs xs 41 214 1301 [some (.retAddr 0), some (.ref 0), some (.ref 44), some (.ref q), some (.int i), p5, p6, p7] [] h' nc' ns' (zPb nc0 ns0)) : zEs xs 41 214 810 [some (.retAddr 0), some (.ref 0), some (.ref 44), some (.ref q), some (.int i), o5, o6, o7] [] h nc ns (zPb nc0 ns0) := by
  refine zEs_run 5 rfl ?_
  refine zEs_sk9 (k := 1) rfl h0 h1 hN (by decide) (by decide) (fun v1 s1 => ?_)
  refine zEs_run 4 rfl ?_
  refine zEs_sk9 (k := 2) rfl h0 h1 hN (by decide) (by decide) (fun v2 s2 => ?_)
  refine zEs_run 1 rfl ?_
  refine zEs_callG rfl rfl (zMs_mono (show 9 ≤ 40 by decide) (wx_202 hW)) (fun v h9 nc1 ns1 z => ?_) (fun E h9 nc1 ns1 z => by obtain ⟨_, _, _, _, z, _⟩ := z; cases z)
  obtain ⟨k1, h1_, nc1_, ns1_, z, a1, d1, W1, hk⟩ := z
  cases z
  refine zEs_run 6 rfl ?_
  refine zEs_sk9 (k := 1) rfl h0 h1 hN (by decide) (by decide) (fun v3 s3 => ?_)
  refine zEs_run 4 rfl ?_
  refine zEs_sk9 (k := 2) rfl h0 h1 hN (by decide) (by decide) (fun v4 s4 => ?_)
  have q1 : v3 = v1 := Option.some.inj (s3.symm.trans s1)
  have q2 : v4 = v2 := Option.some.inj (s4.symm.trans s2)
  rcases hk with ⟨hr, rfl, us, u1, u2⟩ | ⟨nr, rfl⟩
  · obtain ⟨ws2, hw2⟩ := zWI_44 W1
    refine zEs_callG rfl (show zcallV 2 7 155 845 (.int v4 :: .int v3 :: .ref 44 :: _) _ = _ from zcallV_eq rfl hw2 (Nat.le_of_ble_eq_true rfl)) (mx_155 W1) (fun v h9 nc1 ns1 z => ?_) (fun E h9 nc1 ns1 z => by obtain ⟨_, _, _, _, _, z, _⟩ := z; cases z)
    obtain ⟨t, v', h', nc2_, ns2_, z, a2, d2, W2, ⟨vs, m1, mk⟩, mo, hm⟩ := z
    cases z
    rw [q1, q2] at hm
    replace hm := hm.resolve_right (fun y9 => y9.1 hr)
    obtain ⟨-, rfl, rfl⟩ := hm
    have u3 := mo us u1
    refine zEs_run 2 rfl ?_
    refine zEs_callG rfl (show zcallV 0 7 247 851 [.ref 44] _ = _ from zcallV_eq rfl m1 (by decide)) (m_247 (D := 40) m1 mk) (fun v h9 nc1 ns1 z => ?_) (fun E h9 nc1 ns1 z => by cases z)
    cases z
    refine zEs_run 1 rfl ?_
    refine zEs_icmp rfl (fun _ => ?_) (fun g9 => absurd rfl g9)
    refine zEs_run 1 rfl ?_
    refine zEs_if rfl (fun g9 => absurd rfl g9) (fun _ => ?_)
    refine zEs_run 1 rfl ?_
    refine zEs_get rfl u3 rfl u2 ?_
    refine zEs_run 3 rfl ?_
    refine zEs_if rfl (fun _ => ?_) (fun g9 => absurd (zlcm _) g9)
    refine zEs_run 1 rfl ?_
    exact K _ _ _ _ _ _ _ W2 (by omega) (by omega)
  · obtain ⟨ws2, hw2⟩ := zWI_44 W1
    refine zEs_callG rfl (show zcallV 2 7 155 845 (.int v4 :: .int v3 :: .ref 44 :: _) _ = _ from zcallV_eq rfl hw2 (Nat.le_of_ble_eq_true rfl)) (mx_155 W1) (fun v h9 nc1 ns1 z => ?_) (fun E h9 nc1 ns1 z => by obtain ⟨_, _, _, _, _, z, _⟩ := z; cases z)
    obtain ⟨t, v', h', nc2_, ns2_, z, a2, d2, W2, ⟨vs, m1, mk⟩, mo, hm⟩ := z
    cases z
    rw [q1, q2] at hm
    replace hm := hm.resolve_left (fun y9 => nr y9.1)
    obtain ⟨-, rfl⟩ := hm
    refine zEs_run 2 rfl ?_
    refine zEs_callG rfl (show zcallV 0 7 247 851 [.ref 44] _ = _ from zcallV_eq rfl m1 (by decide)) (m_247 (D := 40) m1 mk) (fun v h9 nc1 ns1 z => ?_) (fun E h9 nc1 ns1 z => by cases z)
    cases z
    refine zEs_run 1 rfl ?_
    refine zEs_icmp rfl (fun _ => ?_) (fun g9 => absurd rfl g9)
    refine zEs_run 1 rfl ?_
    refine zEs_if rfl (fun _ => ?_) (fun g9 => absurd (zF_ne_f g9) (by decide))
    refine zEs_run 1 rfl ?_
    exact K _ _ _ _ _ _ _ W2 (by omega) (by omega)
theorem lw_c879 (hW : zWI c c q h) (h0 : 0 ≤ i.toInt) (h1 : i.toInt + 6 ≤ xs.length) (hN : xs.length ≤ 100000) (K : ∀ (c' : Nat × Nat) (p5 p6 p7 : Option Value) (h' : zH) (nc' ns' : Nat), zWI c' c' q h' → nc' ≤ nc + 410 → ns' ≤ ns + 14100 → zEs xs 41 214 1301 [some (.retAddr 0), some (.ref 0), some (.ref 44), some (.ref q), some (.int i), p5, p6, p7] [] h' nc' ns' (zPb nc0 ns0)) : zEs xs 41 214 879 [some (.retAddr 0), some (.ref 0), some (.ref 44), some (.ref q), some (.int i), o5, o6, o7] [] h nc ns (zPb nc0 ns0) := by
  refine zEs_run 5 rfl ?_
  refine zEs_sk (k := 1) rfl h0 h1 hN (by decide) (by decide) (fun v1 => ?_)
  refine zEs_run 1 rfl ?_
  refine zEs_callG rfl rfl (zMs_mono (show 9 ≤ 40 by decide) (w_203 hW)) (fun v h9 nc1 ns1 z => ?_) (fun E h9 nc1 ns1 z => by obtain ⟨_, _, _, _, z, _⟩ := z; cases z)
  obtain ⟨k1, h1_, nc1_, ns1_, z, W1, a1, d1⟩ := z
  cases z
  refine zEs_run 6 rfl ?_
  refine zEs_sk (k := 1) rfl h0 h1 hN (by decide) (by decide) (fun v2 => ?_)
  obtain ⟨ws2, hw2⟩ := zWI_44 W1
  refine zEs_callG rfl (show zcallV 1 7 157 902 (.int v2 :: .ref 44 :: _) _ = _ from zcallV_eq rfl hw2 (Nat.le_of_ble_eq_true rfl)) (mm_157 W1) (fun v h9 nc1 ns1 z => ?_) (fun E h9 nc1 ns1 z => by obtain ⟨_, _, _, _, z, _⟩ := z; cases z)
  obtain ⟨v2_, h2_, nc2_, ns2_, z, hv2, W2, a2, d2⟩ := z
  cases z
  obtain ⟨k2, rfl⟩ := hv2
  refine zEs_run 2 rfl ?_
  exact K _ _ _ _ _ _ _ W2 (by omega) (by omega)
theorem lw_c907 (hW : zWI c c q h) (h0 : 0 ≤ i.toInt) (h1 : i.toInt + 6 ≤ xs.length) (hN : xs.length ≤ 100000) (K : ∀ (c' : Nat × Nat) (p5 p6 p7 : Option Value) (h' : zH) (nc' ns' : Nat), zWI c' c' q h' → nc' ≤ nc + 410 → ns' ≤ ns + 14100 → zEs xs 41 214 1301 [some (.retAddr 0), some (.ref 0), some (.ref 44), some (.ref q), some (.int i), p5, p6, p7] [] h' nc' ns' (zPb nc0 ns0)) : zEs xs 41 214 907 [some (.retAddr 0), some (.ref 0), some (.ref 44), some (.ref q), some (.int i), o5, o6, o7] [] h nc ns (zPb nc0 ns0) := by
  refine zEs_run 5 rfl ?_
  refine zEs_sk (k := 1) rfl h0 h1 hN (by decide) (by decide) (fun v1 => ?_)
  refine zEs_run 4 rfl ?_
  refine zEs_sk (k := 2) rfl h0 h1 hN (by decide) (by decide) (fun v2 => ?_)
  refine zEs_run 1 rfl ?_
  refine zEs_callG rfl rfl (zMs_mono (show 9 ≤ 40 by decide) (w_204 hW)) (fun v h9 nc1 ns1 z => ?_) (fun E h9 nc1 ns1 z => by obtain ⟨_, _, _, _, z, _⟩ := z; cases z)
  obtain ⟨k1, h1_, nc1_, ns1_, z, W1, a1, d1⟩ := z
  cases z
  refine zEs_run 6 rfl ?_
  refine zEs_sk (k := 1) rfl h0 h1 hN (by decide) (by decide) (fun v3 => ?_)
  refine zEs_run 4 rfl ?_
  refine zEs_sk (k := 2) rfl h0 h1 hN (by decide) (by decide) (fun v4 => ?_)
  obtain ⟨ws2, hw2⟩ := zWI_44 W1
  refine zEs_callG rfl (show zcallV 2 7 160 942 (.int v4 :: .int v3 :: .ref 44 :: _) _ = _ from zcallV_eq rfl hw2 (Nat.le_of_ble_eq_true rfl)) (mm_160 W1) (fun v h9 nc1 ns1 z => ?_) (fun E h9 nc1 ns1 z => by obtain ⟨_, _, _, _, z, _⟩ := z; cases z)
  obtain ⟨v2_, h2_, nc2_, ns2_, z, hv2, W2, a2, d2⟩ := z
  cases z
  obtain ⟨k2, rfl⟩ := hv2
  refine zEs_run 2 rfl ?_
  exact K _ _ _ _ _ _ _ W2 (by omega) (by omega)
theorem lw_c947 (hW : zWI c c q h) (h0 : 0 ≤ i.toInt) (h1 : i.toInt + 6 ≤ xs.length) (hN : xs.length ≤ 100000) (K : ∀ (c' : Nat × Nat) (p5 p6 p7 : Option Value) (h' : zH) (nc' ns' : Nat), zWI c' c' q h' → nc' ≤ nc + 410 → ns' ≤ ns + 14100 → zEs xs 41 214 1301 [some (.retAddr 0), some (.ref 0), some (.ref 44), some (.ref q), some (.int i), p5, p6, p7] [] h' nc' ns' (zPb nc0 ns0)) : zEs xs 41 214 947 [some (.retAddr 0), some (.ref 0), some (.ref 44), some (.ref q), some (.int i), o5, o6, o7] [] h nc ns (zPb nc0 ns0) := by
  refine zEs_run 5 rfl ?_
  refine zEs_sk (k := 1) rfl h0 h1 hN (by decide) (by decide) (fun v1 => ?_)
  refine zEs_run 4 rfl ?_
  refine zEs_sk (k := 2) rfl h0 h1 hN (by decide) (by decide) (fun v2 => ?_)
  refine zEs_run 4 rfl ?_
  refine zEs_sk (k := 3) rfl h0 h1 hN (by decide) (by decide) (fun v3 => ?_)
  refine zEs_run 1 rfl ?_
  refine zEs_callG rfl rfl (zMs_mono (show 9 ≤ 40 by decide) (w_205 hW)) (fun v h9 nc1 ns1 z => ?_) (fun E h9 nc1 ns1 z => by obtain ⟨_, _, _, _, z, _⟩ := z; cases z)
  obtain ⟨k1, h1_, nc1_, ns1_, z, W1, a1, d1⟩ := z
  cases z
  refine zEs_run 6 rfl ?_
  refine zEs_sk (k := 1) rfl h0 h1 hN (by decide) (by decide) (fun v4 => ?_)
  refine zEs_run 4 rfl ?_
  refine zEs_sk (k := 2) rfl h0 h1 hN (by decide) (by decide) (fun v5 => ?_)
  refine zEs_run 4 rfl ?_
  refine zEs_sk (k := 3) rfl h0 h1 hN (by decide) (by decide) (fun v6 => ?_)
  obtain ⟨ws2, hw2⟩ := zWI_44 W1
  refine zEs_callG rfl (show zcallV 3 7 164 994 (.int v6 :: .int v5 :: .int v4 :: .ref 44 :: _) _ = _ from zcallV_eq rfl hw2 (Nat.le_of_ble_eq_true rfl)) (mm_164 W1) (fun v h9 nc1 ns1 z => ?_) (fun E h9 nc1 ns1 z => by obtain ⟨_, _, _, _, z, _⟩ := z; cases z)
  obtain ⟨v2_, h2_, nc2_, ns2_, z, hv2, W2, a2, d2⟩ := z
  cases z
  obtain ⟨k2, rfl⟩ := hv2
  refine zEs_run 2 rfl ?_
  exact K _ _ _ _ _ _ _ W2 (by omega) (by omega)
theorem lw_c999 (hW : zWI c c q h) (h0 : 0 ≤ i.toInt) (h1 : i.toInt + 6 ≤ xs.length) (hN : xs.length ≤ 100000) (K : ∀ (c' : Nat × Nat) (p5 p6 p7 : Option Value) (h' : zH) (nc' ns' : Nat), zWI c' c' q h' → nc' ≤ nc + 410 → ns' ≤ ns + 14100 → zEs xs 41 214 1301 [some (.retAddr 0), some (.ref 0), some (.ref 44), some (.ref q), some (.int i), p5, p6, p7] [] h' nc' ns' (zPb nc0 ns0)) : zEs xs 41 214 999 [some (.retAddr 0), some (.ref 0), some (.ref 44), some (.ref q), some (.int i), o5, o6, o7] [] h nc ns (zPb nc0 ns0) := by
  refine zEs_run 5 rfl ?_
  refine zEs_sk (k := 1) rfl h0 h1 hN (by decide) (by decide) (fun v1 => ?_)
  refine zEs_run 4 rfl ?_
  refine zEs_sk (k := 2) rfl h0 h1 hN (by decide) (by decide) (fun v2 => ?_)
  refine zEs_run 1 rfl ?_
  refine zEs_callG rfl rfl (zMs_mono (show 9 ≤ 40 by decide) (w_206 hW)) (fun v h9 nc1 ns1 z => ?_) (fun E h9 nc1 ns1 z => by obtain ⟨_, _, _, _, z, _⟩ := z; cases z)
  obtain ⟨k1, h1_, nc1_, ns1_, z, W1, a1, d1⟩ := z
  cases z
  refine zEs_run 6 rfl ?_
  refine zEs_sk (k := 1) rfl h0 h1 hN (by decide) (by decide) (fun v3 => ?_)
  refine zEs_run 4 rfl ?_
  refine zEs_sk (k := 2) rfl h0 h1 hN (by decide) (by decide) (fun v4 => ?_)
  obtain ⟨ws2, hw2⟩ := zWI_44 W1
  refine zEs_callG rfl (show zcallV 2 7 165 1034 (.int v4 :: .int v3 :: .ref 44 :: _) _ = _ from zcallV_eq rfl hw2 (Nat.le_of_ble_eq_true rfl)) (mm_165 W1) (fun v h9 nc1 ns1 z => ?_) (fun E h9 nc1 ns1 z => by obtain ⟨_, _, _, _, z, _⟩ := z; cases z)
  obtain ⟨v2_, h2_, nc2_, ns2_, z, hv2, W2, a2, d2⟩ := z
  cases z
  obtain ⟨k2, rfl⟩ := hv2
  refine zEs_run 2 rfl ?_
  exact K _ _ _ _ _ _ _ W2 (by omega) (by omega)
theorem lw_c1039 (hW : zWI c c q h) (h0 : 0 ≤ i.toInt) (h1 : i.toInt + 6 ≤ xs.length) (hN : xs.length ≤ 100000) (K : ∀ (c' : Nat × Nat) (p5 p6 p7 : Option Value) (h' : zH) (nc' ns' : Nat), zWI c' c' q h' → nc' ≤ nc + 410 → ns' ≤ ns + 14100 → zEs xs 41 214 1301 [some (.retAddr 0), some (.ref 0), some (.ref 44), some (.ref q), some (.int i), p5, p6, p7] [] h' nc' ns' (zPb nc0 ns0)) : zEs xs 41 214 1039 [some (.retAddr 0), some (.ref 0), some (.ref 44), some (.ref q), some (.int i), o5, o6, o7] [] h nc ns (zPb nc0 ns0) := by
  refine zEs_run 5 rfl ?_
  refine zEs_sk (k := 1) rfl h0 h1 hN (by decide) (by decide) (fun v1 => ?_)
  refine zEs_run 4 rfl ?_
  refine zEs_sk (k := 2) rfl h0 h1 hN (by decide) (by decide) (fun v2 => ?_)
  suffices J1 : ∀ w : Int32, (w = 0 ∨ w = 1) → zEs xs 41 214 1060 [some (.retAddr 0), some (.ref 0), some (.ref 44), some (.ref q), some (.int i), o5, o6, o7] (.int w :: [.int v1, .ref 0]) h _ _ (zPb nc0 ns0) by
    refine zEs_if rfl (fun _ => ?_) (fun _ => ?_)
    · exact zEs_run 1 rfl (J1 _ (by decide))
    · exact zEs_run 2 rfl (J1 _ (by decide))
  intro v3 b3
  refine zEs_run 1 rfl ?_
  refine zEs_callG rfl rfl (zMs_mono (show 9 ≤ 40 by decide) (w_207 hW)) (fun v h9 nc1 ns1 z => ?_) (fun E h9 nc1 ns1 z => by obtain ⟨_, _, _, _, z, _⟩ := z; cases z)
  obtain ⟨k1, h1_, nc1_, ns1_, z, W1, a1, d1⟩ := z
  cases z
  refine zEs_run 6 rfl ?_
  refine zEs_sk (k := 1) rfl h0 h1 hN (by decide) (by decide) (fun v4 => ?_)
  refine zEs_run 4 rfl ?_
  refine zEs_sk (k := 2) rfl h0 h1 hN (by decide) (by decide) (fun v5 => ?_)
  suffices J2 : ∀ w : Int32, (w = 0 ∨ w = 1) → zEs xs 41 214 1087 [some (.retAddr 0), some (.ref 0), some (.ref 44), some (.ref q), some (.int i), some (.int k1), o6, o7] (.int w :: [.int v4, .ref 44]) h9 _ _ (zPb nc0 ns0) by
    refine zEs_if rfl (fun _ => ?_) (fun _ => ?_)
    · exact zEs_run 1 rfl (J2 _ (by decide))
    · exact zEs_run 2 rfl (J2 _ (by decide))
  intro v6 b6
  obtain ⟨ws2, hw2⟩ := zWI_44 W1
  refine zEs_callG rfl (show zcallV 2 7 170 1090 (.int v6 :: .int v4 :: .ref 44 :: _) _ = _ from zcallV_eq rfl hw2 (Nat.le_of_ble_eq_true rfl)) (mm_170 W1 b6) (fun v h9 nc1 ns1 z => ?_) (fun E h9 nc1 ns1 z => by obtain ⟨_, _, _, _, z, _⟩ := z; cases z)
  obtain ⟨v2_, h2_, nc2_, ns2_, z, hv2, W2, a2, d2⟩ := z
  cases z
  obtain ⟨k2, rfl⟩ := hv2
  refine zEs_run 2 rfl ?_
  exact K _ _ _ _ _ _ _ W2 (by omega) (by omega)
theorem lw_c1095 (hW : zWI c c q h) (h0 : 0 ≤ i.toInt) (h1 : i.toInt + 6 ≤ xs.length) (hN : xs.length ≤ 100000) (K : ∀ (c' : Nat × Nat) (p5 p6 p7 : Option Value) (h' : zH) (nc' ns' : Nat), zWI c' c' q h' → nc' ≤ nc + 410 → ns' ≤ ns + 14100 → zEs xs 41 214 1301 [some (.retAddr 0), some (.ref 0), some (.ref 44), some (.ref q), some (.int i), p5, p6, p7] [] h' nc' ns' (zPb nc0 ns0)) : zEs xs 41 214 1095 [some (.retAddr 0), some (.ref 0), some (.ref 44), some (.ref q), some (.int i), o5, o6, o7] [] h nc ns (zPb nc0 ns0) := by
  refine zEs_run 5 rfl ?_
  refine zEs_sk (k := 1) rfl h0 h1 hN (by decide) (by decide) (fun v1 => ?_)
  refine zEs_run 1 rfl ?_
  refine zEs_callG rfl rfl (zMs_mono (show 9 ≤ 40 by decide) (w_208 hW)) (fun v h9 nc1 ns1 z => ?_) (fun E h9 nc1 ns1 z => by obtain ⟨_, _, _, _, z, _⟩ := z; cases z)
  obtain ⟨k1, h1_, nc1_, ns1_, z, W1, a1, d1⟩ := z
  cases z
  refine zEs_run 6 rfl ?_
  refine zEs_sk (k := 1) rfl h0 h1 hN (by decide) (by decide) (fun v2 => ?_)
  obtain ⟨ws2, hw2⟩ := zWI_44 W1
  refine zEs_callG rfl (show zcallV 1 7 172 1118 (.int v2 :: .ref 44 :: _) _ = _ from zcallV_eq rfl hw2 (Nat.le_of_ble_eq_true rfl)) (mm_172 W1) (fun v h9 nc1 ns1 z => ?_) (fun E h9 nc1 ns1 z => by obtain ⟨_, _, _, _, z, _⟩ := z; cases z)
  obtain ⟨v2_, h2_, nc2_, ns2_, z, hv2, W2, a2, d2⟩ := z
  cases z
  obtain ⟨k2, rfl⟩ := hv2
  refine zEs_run 2 rfl ?_
  exact K _ _ _ _ _ _ _ W2 (by omega) (by omega)
theorem lw_c1123 (hW : zWI c c q h) (h0 : 0 ≤ i.toInt) (h1 : i.toInt + 6 ≤ xs.length) (hN : xs.length ≤ 100000) (K : ∀ (c' : Nat × Nat) (p5 p6 p7 : Option Value) (h' : zH) (nc' ns' : Nat), zWI c' c' q h' → nc' ≤ nc + 410 → ns' ≤ ns + 14100 → zEs xs 41 214 1301 [some (.retAddr 0), some (.ref 0), some (.ref 44), some (.ref q), some (.int i), p5, p6, p7] [] h' nc' ns' (zPb nc0 ns0)) : zEs xs 41 214 1123 [some (.retAddr 0), some (.ref 0), some (.ref 44), some (.ref q), some (.int i), o5, o6, o7] [] h nc ns (zPb nc0 ns0) := by
  refine zEs_run 5 rfl ?_
  refine zEs_sk (k := 1) rfl h0 h1 hN (by decide) (by decide) (fun v1 => ?_)
  refine zEs_run 1 rfl ?_
  refine zEs_callG rfl rfl (zMs_mono (show 9 ≤ 40 by decide) (w_209 hW)) (fun v h9 nc1 ns1 z => ?_) (fun E h9 nc1 ns1 z => by obtain ⟨_, _, _, _, z, _⟩ := z; cases z)
  obtain ⟨k1, h1_, nc1_, ns1_, z, W1, a1, d1⟩ := z
  cases z
  refine zEs_run 6 rfl ?_
  refine zEs_sk (k := 1) rfl h0 h1 hN (by decide) (by decide) (fun v2 => ?_)
  obtain ⟨ws2, hw2⟩ := zWI_44 W1
  refine zEs_callG rfl (show zcallV 1 7 174 1146 (.int v2 :: .ref 44 :: _) _ = _ from zcallV_eq rfl hw2 (Nat.le_of_ble_eq_true rfl)) (mm_174 W1) (fun v h9 nc1 ns1 z => ?_) (fun E h9 nc1 ns1 z => by obtain ⟨_, _, _, _, z, _⟩ := z; cases z)
  obtain ⟨v2_, h2_, nc2_, ns2_, z, hv2, W2, a2, d2⟩ := z
  cases z
  obtain ⟨k2, rfl⟩ := hv2
  refine zEs_run 2 rfl ?_
  exact K _ _ _ _ _ _ _ W2 (by omega) (by omega)
theorem lw_c1151 (hW : zWI c c q h) (h0 : 0 ≤ i.toInt) (h1 : i.toInt + 6 ≤ xs.length) (hN : xs.length ≤ 100000) (K : ∀ (c' : Nat × Nat) (p5 p6 p7 : Option Value) (h' : zH) (nc' ns' : Nat), zWI c' c' q h' → nc' ≤ nc + 410 → ns' ≤ ns + 14100 → zEs xs 41 214 1301 [some (.retAddr 0), some (.ref 0), some (.ref 44), some (.ref q), some (.int i), p5, p6, p7] [] h' nc' ns' (zPb nc0 ns0)) : zEs xs 41 214 1151 [some (.retAddr 0), some (.ref 0), some (.ref 44), some (.ref q), some (.int i), o5, o6, o7] [] h nc ns (zPb nc0 ns0) := by
  refine zEs_run 5 rfl ?_
  refine zEs_sk (k := 1) rfl h0 h1 hN (by decide) (by decide) (fun v1 => ?_)
  refine zEs_run 4 rfl ?_
  refine zEs_sk (k := 2) rfl h0 h1 hN (by decide) (by decide) (fun v2 => ?_)
  refine zEs_run 1 rfl ?_
  refine zEs_callG rfl rfl (zMs_mono (show 9 ≤ 40 by decide) (w_210 hW)) (fun v h9 nc1 ns1 z => ?_) (fun E h9 nc1 ns1 z => by obtain ⟨_, _, _, _, z, _⟩ := z; cases z)
  obtain ⟨k1, h1_, nc1_, ns1_, z, W1, a1, d1⟩ := z
  cases z
  refine zEs_run 6 rfl ?_
  refine zEs_sk (k := 1) rfl h0 h1 hN (by decide) (by decide) (fun v3 => ?_)
  refine zEs_run 4 rfl ?_
  refine zEs_sk (k := 2) rfl h0 h1 hN (by decide) (by decide) (fun v4 => ?_)
  obtain ⟨ws2, hw2⟩ := zWI_44 W1
  refine zEs_callG rfl (show zcallV 2 7 175 1186 (.int v4 :: .int v3 :: .ref 44 :: _) _ = _ from zcallV_eq rfl hw2 (Nat.le_of_ble_eq_true rfl)) (mm_175 W1) (fun v h9 nc1 ns1 z => ?_) (fun E h9 nc1 ns1 z => by obtain ⟨_, _, _, _, z, _⟩ := z; cases z)
  obtain ⟨v2_, h2_, nc2_, ns2_, z, hv2, W2, a2, d2⟩ := z
  cases z
  rcases hv2 with rfl | ⟨k2, rfl⟩
  · refine zEs_run 2 rfl ?_
    exact K _ _ _ _ _ _ _ W2 (by omega) (by omega)
  · refine zEs_run 2 rfl ?_
    exact K _ _ _ _ _ _ _ W2 (by omega) (by omega)
theorem lw_c1191 (hW : zWI c c q h) (h0 : 0 ≤ i.toInt) (h1 : i.toInt + 6 ≤ xs.length) (hN : xs.length ≤ 100000) (K : ∀ (c' : Nat × Nat) (p5 p6 p7 : Option Value) (h' : zH) (nc' ns' : Nat), zWI c' c' q h' → nc' ≤ nc + 410 → ns' ≤ ns + 14100 → zEs xs 41 214 1301 [some (.retAddr 0), some (.ref 0), some (.ref 44), some (.ref q), some (.int i), p5, p6, p7] [] h' nc' ns' (zPb nc0 ns0)) : zEs xs 41 214 1191 [some (.retAddr 0), some (.ref 0), some (.ref 44), some (.ref q), some (.int i), o5, o6, o7] [] h nc ns (zPb nc0 ns0) := by
  refine zEs_run 5 rfl ?_
  refine zEs_sk (k := 1) rfl h0 h1 hN (by decide) (by decide) (fun v1 => ?_)
  refine zEs_run 1 rfl ?_
  refine zEs_callG rfl rfl (zMs_mono (show 9 ≤ 40 by decide) (w_211 hW)) (fun v h9 nc1 ns1 z => ?_) (fun E h9 nc1 ns1 z => by obtain ⟨_, _, _, _, z, _⟩ := z; cases z)
  obtain ⟨k1, h1_, nc1_, ns1_, z, W1, a1, d1⟩ := z
  cases z
  refine zEs_run 6 rfl ?_
  refine zEs_sk (k := 1) rfl h0 h1 hN (by decide) (by decide) (fun v2 => ?_)
  obtain ⟨ws2, hw2⟩ := zWI_44 W1
  refine zEs_callG rfl (show zcallV 1 7 178 1214 (.int v2 :: .ref 44 :: _) _ = _ from zcallV_eq rfl hw2 (Nat.le_of_ble_eq_true rfl)) (mm_178 W1) (fun v h9 nc1 ns1 z => ?_) (fun E h9 nc1 ns1 z => by obtain ⟨_, _, _, _, z, _⟩ := z; cases z)
  obtain ⟨v2_, h2_, nc2_, ns2_, z, hv2, W2, a2, d2⟩ := z
  cases z
  obtain ⟨k2, rfl⟩ := hv2
  refine zEs_run 2 rfl ?_
  exact K _ _ _ _ _ _ _ W2 (by omega) (by omega)
theorem lw_c1219 (hW : zWI c c q h) (h0 : 0 ≤ i.toInt) (h1 : i.toInt + 6 ≤ xs.length) (hN : xs.length ≤ 100000) (K : ∀ (c' : Nat × Nat) (p5 p6 p7 : Option Value) (h' : zH) (nc' ns' : Nat), zWI c' c' q h' → nc' ≤ nc + 410 → ns' ≤ ns + 14100 → zEs xs 41 214 1301 [some (.retAddr 0), some (.ref 0), some (.ref 44), some (.ref q), some (.int i), p5, p6, p7] [] h' nc' ns' (zPb nc0 ns0)) : zEs xs 41 214 1219 [some (.retAddr 0), some (.ref 0), some (.ref 44), some (.ref q), some (.int i), o5, o6, o7] [] h nc ns (zPb nc0 ns0) := by
  refine zEs_run 5 rfl ?_
  refine zEs_sk (k := 1) rfl h0 h1 hN (by decide) (by decide) (fun v1 => ?_)
  refine zEs_run 1 rfl ?_
  refine zEs_callG rfl rfl (zMs_mono (show 9 ≤ 40 by decide) (w_212 hW)) (fun v h9 nc1 ns1 z => ?_) (fun E h9 nc1 ns1 z => by obtain ⟨_, _, _, _, z, _⟩ := z; cases z)
  obtain ⟨k1, h1_, nc1_, ns1_, z, W1, a1, d1⟩ := z
  cases z
  refine zEs_run 6 rfl ?_
  refine zEs_sk (k := 1) rfl h0 h1 hN (by decide) (by decide) (fun v2 => ?_)
  obtain ⟨ws2, hw2⟩ := zWI_44 W1
  refine zEs_callG rfl (show zcallV 1 7 180 1242 (.int v2 :: .ref 44 :: _) _ = _ from zcallV_eq rfl hw2 (Nat.le_of_ble_eq_true rfl)) (mm_180 W1) (fun v h9 nc1 ns1 z => ?_) (fun E h9 nc1 ns1 z => by obtain ⟨_, _, _, _, z, _⟩ := z; cases z)
  obtain ⟨v2_, h2_, nc2_, ns2_, z, hv2, W2, a2, d2⟩ := z
  cases z
  obtain ⟨k2, rfl⟩ := hv2
  refine zEs_run 2 rfl ?_
  exact K _ _ _ _ _ _ _ W2 (by omega) (by omega)
theorem lw_c1247 (hW : zWI c c q h) (h0 : 0 ≤ i.toInt) (h1 : i.toInt + 6 ≤ xs.length) (hN : xs.length ≤ 100000) (K : ∀ (c' : Nat × Nat) (p5 p6 p7 : Option Value) (h' : zH) (nc' ns' : Nat), zWI c' c' q h' → nc' ≤ nc + 410 → ns' ≤ ns + 14100 → zEs xs 41 214 1301 [some (.retAddr 0), some (.ref 0), some (.ref 44), some (.ref q), some (.int i), p5, p6, p7] [] h' nc' ns' (zPb nc0 ns0)) : zEs xs 41 214 1247 [some (.retAddr 0), some (.ref 0), some (.ref 44), some (.ref q), some (.int i), o5, o6, o7] [] h nc ns (zPb nc0 ns0) := by
  refine zEs_run 5 rfl ?_
  refine zEs_sk (k := 1) rfl h0 h1 hN (by decide) (by decide) (fun v1 => ?_)
  refine zEs_run 1 rfl ?_
  refine zEs_callG rfl rfl (zMs_mono (show 9 ≤ 40 by decide) (w_213 hW)) (fun v h9 nc1 ns1 z => ?_) (fun E h9 nc1 ns1 z => by obtain ⟨_, _, _, _, z, _⟩ := z; cases z)
  obtain ⟨k1, h1_, nc1_, ns1_, z, W1, a1, d1⟩ := z
  cases z
  refine zEs_run 6 rfl ?_
  refine zEs_sk (k := 1) rfl h0 h1 hN (by decide) (by decide) (fun v2 => ?_)
  obtain ⟨ws2, hw2⟩ := zWI_44 W1
  refine zEs_callG rfl (show zcallV 1 7 185 1270 (.int v2 :: .ref 44 :: _) _ = _ from zcallV_eq rfl hw2 (Nat.le_of_ble_eq_true rfl)) (mm_185 W1) (fun v h9 nc1 ns1 z => ?_) (fun E h9 nc1 ns1 z => by obtain ⟨_, _, _, _, z, _⟩ := z; cases z)
  obtain ⟨v2_, h2_, nc2_, ns2_, z, hv2, W2, a2, d2⟩ := z
  cases z
  obtain ⟨k2, rfl⟩ := hv2
  refine zEs_run 2 rfl ?_
  exact K _ _ _ _ _ _ _ W2 (by omega) (by omega)
theorem lw_c1275 (hW : zWI c c q h) (h0 : 0 ≤ i.toInt) (h1 : i.toInt + 6 ≤ xs.length) (hN : xs.length ≤ 100000) (K : ∀ (c' : Nat × Nat) (p5 p6 p7 : Option Value) (h' : zH) (nc' ns' : Nat), zWI c' c' q h' → nc' ≤ nc + 410 → ns' ≤ ns + 14100 → zEs xs 41 214 1301 [some (.retAddr 0), some (.ref 0), some (.ref 44), some (.ref q), some (.int i), p5, p6, p7] [] h' nc' ns' (zPb nc0 ns0)) : zEs xs 41 214 1275 [some (.retAddr 0), some (.ref 0), some (.ref 44), some (.ref q), some (.int i), o5, o6, o7] [] h nc ns (zPb nc0 ns0) := by
  refine zEs_run 1 rfl ?_
  obtain ⟨ws1, hw1⟩ := zWI_0 hW
  have e1 : ∀ rs, zcs rs ≤ 8 → zcallV 0 5 80 1279 (.ref 0 :: rs) h = some (.inr (.inl (80, [.ref 0], rs, 1279))) := fun rs hr => zcallV_eq rfl hw1 hr
  refine zEs_callG rfl (e1 _ (by decide)) (zMs_mono (show 9 ≤ 40 by decide) (zKr (D := 9) hW (fun s a T hL ht => k_80 hL))) (fun v h9 nc1 ns1 z => ?_) (fun E h9 nc1 ns1 z => by rcases z with ⟨_, _, _, _, _, _, _, _, z⟩ | ⟨_, _, _, _, z, _⟩ <;> cases z)
  replace z := z.resolve_right (fun y9 => by obtain ⟨_, _, _, _, y9, _⟩ := y9; cases y9)
  obtain ⟨v1_, h1_, nc1_, ns1_, hv1, W1, a1, d1, z⟩ := z
  cases z
  obtain ⟨k1, -, rfl⟩ := hv1
  refine zEs_run 2 rfl ?_
  obtain ⟨ws2, hw2⟩ := zWI_44 W1
  refine zEs_callG rfl (show zcallV 0 7 187 1284 (.ref 44 :: _) _ = _ from zcallV_eq rfl hw2 (Nat.le_of_ble_eq_true rfl)) (mm_187 W1) (fun v h9 nc1 ns1 z => ?_) (fun E h9 nc1 ns1 z => by obtain ⟨_, _, _, _, z, _⟩ := z; cases z)
  obtain ⟨v2_, h2_, nc2_, ns2_, z, hv2, W2, a2, d2⟩ := z
  cases z
  obtain ⟨k2, rfl⟩ := hv2
  refine zEs_run 2 rfl ?_
  exact K _ _ _ _ _ _ _ W2 (by omega) (by omega)
theorem lw_c1288 (hW : zWI c c q h) (h0 : 0 ≤ i.toInt) (h1 : i.toInt + 6 ≤ xs.length) (hN : xs.length ≤ 100000) (K : ∀ (c' : Nat × Nat) (p5 p6 p7 : Option Value) (h' : zH) (nc' ns' : Nat), zWI c' c' q h' → nc' ≤ nc + 410 → ns' ≤ ns + 14100 → zEs xs 41 214 1301 [some (.retAddr 0), some (.ref 0), some (.ref 44), some (.ref q), some (.int i), p5, p6, p7] [] h' nc' ns' (zPb nc0 ns0)) : zEs xs 41 214 1288 [some (.retAddr 0), some (.ref 0), some (.ref 44), some (.ref q), some (.int i), o5, o6, o7] [] h nc ns (zPb nc0 ns0) := by
  refine zEs_run 1 rfl ?_
  obtain ⟨ws1, hw1⟩ := zWI_0 hW
  have e1 : ∀ rs, zcs rs ≤ 8 → zcallV 0 5 81 1292 (.ref 0 :: rs) h = some (.inr (.inl (81, [.ref 0], rs, 1292))) := fun rs hr => zcallV_eq rfl hw1 hr
  refine zEs_callG rfl (e1 _ (by decide)) (zMs_mono (show 9 ≤ 40 by decide) (zKo (D := 9) hW (by decide) (by decide) (fun s a T hL ht => kn_81 hL ht))) (fun v h9 nc1 ns1 z => ?_) (fun E h9 nc1 ns1 z => by rcases z with ⟨_, _, _, _, _, _, _, _, z⟩ | ⟨_, _, _, _, z, _⟩ <;> cases z)
  replace z := z.resolve_right (fun y9 => by obtain ⟨_, _, _, _, y9, _⟩ := y9; cases y9)
  obtain ⟨v1_, h1_, nc1_, ns1_, hv1, W1, a1, d1, z⟩ := z
  cases z
  obtain ⟨k1, rfl⟩ := hv1
  refine zEs_run 2 rfl ?_
  obtain ⟨ws2, hw2⟩ := zWI_44 W1
  refine zEs_callG rfl (show zcallV 0 7 188 1297 (.ref 44 :: _) _ = _ from zcallV_eq rfl hw2 (Nat.le_of_ble_eq_true rfl)) (mm_188 W1) (fun v h9 nc1 ns1 z => ?_) (fun E h9 nc1 ns1 z => by obtain ⟨_, _, _, _, z, _⟩ := z; cases z)
  obtain ⟨v2_, h2_, nc2_, ns2_, z, hv2, W2, a2, d2⟩ := z
  cases z
  obtain ⟨k2, rfl⟩ := hv2
  refine zEs_run 2 rfl ?_
  exact K _ _ _ _ _ _ _ W2 (by omega) (by omega)
end ZX2
