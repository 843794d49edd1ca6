/-! The reference's methods, by hand: stick, weak, spare. -/
def ce_stA : List zCe := [(0, [(.inl 22)], (0, 0), [(.inr (.inr (.inl (44, 44)))), zIA, zIA, (.inl (0, 1, 0, 0))], []),
  (1, [(.inl 21)], (0, 0), [(.inr (.inr (.inl (44, 44)))), zIA, zIA, (.inl (0, 1, 0, 0))], [(.inr (.inr (.inl (44, 44))))]),
  (2, [(.inl 20)], (0, 0), [(.inr (.inr (.inl (44, 44)))), zIA, zIA, (.inl (0, 1, 0, 0))], [(.inl (0, 0, 0, 0)), (.inr (.inr (.inl (44, 44))))]),
  (5, [(.inl 19)], (0, 0), [(.inr (.inr (.inl (44, 44)))), zIA, zIA, (.inl (0, 1, 0, 0))], []),
  (6, [(.inl 18)], (0, 0), [(.inr (.inr (.inl (44, 44)))), zIA, zIA, (.inl (0, 1, 0, 0))], [(.inl ((-2147483648), 2147483647, 0, 2))]),
  (9, [(.inl 17)], (0, 0), [(.inr (.inr (.inl (44, 44)))), zIA, zIA, (.inl (0, 1, 0, 0))], [(.inr (.inl (1, 0, 127, 0)))]),
  (12, [(.inl 16)], (0, 0), [(.inr (.inr (.inl (44, 44)))), zIA, zIA, (.inl (0, 1, 0, 0))], []),
  (13, [(.inl 15)], (0, 0), [(.inr (.inr (.inl (44, 44)))), zIA, zIA, (.inl (0, 1, 0, 0))], [(.inr (.inr (.inl (44, 44))))]),
  (14, [(.inl 14)], (0, 0), [(.inr (.inr (.inl (44, 44)))), zIA, zIA, (.inl (0, 1, 0, 0))], [(.inl (1, 1, 0, 0)), (.inr (.inr (.inl (44, 44))))]),
  (17, [(.inl 13)], (0, 0), [(.inr (.inr (.inl (44, 44)))), zIA, zIA, (.inl (0, 1, 0, 0))], [(.inl (0, 0, 0, 0))]),
  (18, [(.inl 12)], (0, 0), [(.inr (.inr (.inl (44, 44)))), (.inl (0, 127, 0, 0)), zIA, (.inl (0, 1, 0, 0))], []),
  (19, [(.inl 11)], (0, 0), [(.inr (.inr (.inl (44, 44)))), (.inl (0, 127, 0, 0)), zIA, (.inl (0, 1, 0, 0))], [(.inl ((-2147483648), 2147483647, 0, 3))]),
  (20, [(.inl 10)], (0, 0), [(.inr (.inr (.inl (44, 44)))), (.inl (0, 127, 0, 0)), zIA, (.inl (0, 1, 0, 0))], [(.inl (0, 0, 0, 0)), (.inl ((-2147483648), 2147483647, 0, 3))]),
  (21, [(.inl 9)], (0, 0), [(.inr (.inr (.inl (44, 44)))), (.inl (0, 127, 0, 0)), zIA, (.inl (0, 1, 0, 0))], [(.inr (.inr (.inl (44, 44)))), (.inl (0, 0, 0, 0)), (.inl ((-2147483648), 2147483647, 0, 3))]),
  (24, [(.inl 8)], (0, 0), [(.inr (.inr (.inl (44, 44)))), (.inl (0, 127, 0, 0)), zIA, (.inl (0, 1, 0, 0))], [(.inl (8, 16, 8, 0)), (.inl (0, 0, 0, 0)), (.inl ((-2147483648), 2147483647, 0, 3))]),
  (25, [(.inl 7)], (0, 0), [(.inr (.inr (.inl (44, 44)))), (.inl (0, 127, 0, 0)), zIA, (.inl (0, 1, 0, 0))], [(.inl (1, 1, 0, 0)), (.inl (8, 16, 8, 0)), (.inl (0, 0, 0, 0)), (.inl ((-2147483648), 2147483647, 0, 3))]),
  (26, [(.inl 6)], (0, 0), [(.inr (.inr (.inl (44, 44)))), (.inl (0, 127, 0, 0)), zIA, (.inl (0, 1, 0, 0))], [(.inl (7, 15, 7, 0)), (.inl (0, 0, 0, 0)), (.inl ((-2147483648), 2147483647, 0, 3))]),
  (29, [(.inl 5)], (0, 0), [(.inr (.inr (.inl (44, 44)))), (.inl (0, 127, 0, 0)), zIA, (.inl (0, 1, 0, 0))], [(.inr (.inl (2, 0, 15, 7)))]),
  (32, [(.inl 4)], (0, 0), [(.inr (.inr (.inl (44, 44)))), (.inl (0, 127, 0, 0)), zIA, (.inl (0, 1, 0, 0))], []),
  (33, [(.inl 3)], (0, 0), [(.inr (.inr (.inl (44, 44)))), (.inl (0, 127, 0, 0)), zIA, (.inl (0, 1, 0, 0))], [(.inr (.inr (.inl (44, 44))))]),
  (34, [(.inl 2)], (0, 0), [(.inr (.inr (.inl (44, 44)))), (.inl (0, 127, 0, 0)), zIA, (.inl (0, 1, 0, 0))], [(.inl (2, 2, 0, 0)), (.inr (.inr (.inl (44, 44))))]),
  (37, [(.inl 1)], (0, 0), [(.inr (.inr (.inl (44, 44)))), (.inl (0, 127, 0, 0)), zIA, (.inl (0, 1, 0, 0))], [(.inl (0, 0, 0, 0))]),
  (38, [(.inl 0)], (0, 0), [(.inr (.inr (.inl (44, 44)))), (.inl (0, 127, 0, 0)), (.inl (0, 15, 7, 0)), (.inl (0, 1, 0, 0))], [])]
def cs_stA : List zCt := [ct_111, ct_117, ct_138]
theorem gs_stA {xs : List Int32} : ∀ ct ∈ cs_stA, zGd xs ct := List.forall_mem_cons.mpr ⟨g_111, List.forall_mem_cons.mpr ⟨g_117, List.forall_mem_cons.mpr ⟨g_138, fun _ h => absurd h List.not_mem_nil⟩⟩⟩
def ce_stB : List zCe := [(102, [(.inl 9)], (0, 0), [(.inr (.inr (.inl (44, 44)))), (.inl (0, 127, 0, 0)), zIA, zIA], []),
  (103, [(.inl 8)], (0, 0), [(.inr (.inr (.inl (44, 44)))), (.inl (0, 127, 0, 0)), zIA, zIA], [(.inr (.inr (.inl (44, 44))))]),
  (104, [(.inl 7)], (0, 0), [(.inr (.inr (.inl (44, 44)))), (.inl (0, 127, 0, 0)), zIA, zIA], [(.inl (0, 127, 0, 2)), (.inr (.inr (.inl (44, 44))))]),
  (105, [(.inl 6)], (0, 0), [(.inr (.inr (.inl (44, 44)))), (.inl (0, 127, 0, 0)), zIA, zIA], [(.inr (.inr (.inl (44, 44)))), (.inl (0, 127, 0, 2)), (.inr (.inr (.inl (44, 44))))]),
  (106, [(.inl 5)], (0, 0), [(.inr (.inr (.inl (44, 44)))), (.inl (0, 127, 0, 0)), zIA, zIA], [(.inl (0, 127, 0, 2)), (.inr (.inr (.inl (44, 44)))), (.inl (0, 127, 0, 2)), (.inr (.inr (.inl (44, 44))))]),
  (109, [(.inl 4)], (0, 0), [(.inr (.inr (.inl (44, 44)))), (.inl (0, 127, 0, 0)), zIA, zIA], [zIA, (.inl (0, 127, 0, 2)), (.inr (.inr (.inl (44, 44))))]),
  (112, [(.inl 3)], (0, 0), [(.inr (.inr (.inl (44, 44)))), (.inl (0, 127, 0, 0)), zIA, zIA], []),
  (113, [(.inl 2)], (0, 0), [(.inr (.inr (.inl (44, 44)))), (.inl (0, 127, 0, 0)), zIA, zIA], [(.inr (.inr (.inl (44, 44))))]),
  (116, [(.inl 1)], (0, 0), [(.inr (.inr (.inl (44, 44)))), (.inl (0, 127, 0, 0)), zIA, zIA], [(.inr (.inr (.inr 8)))]),
  (121, [(.inl 0)], (0, 0), [(.inr (.inr (.inl (44, 44)))), (.inl (0, 127, 0, 0)), zIA, zIA], [(.inl (0, 24, 2, 0))])]
def cs_stB : List zCt := [ct_125, ct_127, ct_243a]
theorem gs_stB {xs : List Int32} : ∀ ct ∈ cs_stB, zGd xs ct := List.forall_mem_cons.mpr ⟨g_125, List.forall_mem_cons.mpr ⟨g_127, List.forall_mem_cons.mpr ⟨g_243a, fun _ h => absurd h List.not_mem_nil⟩⟩⟩
def ce_wkA : List zCe := [(0, [(.inl 27)], (0, 0), [(.inr (.inr (.inl (44, 44)))), zIA, zIA, zIA], []),
  (1, [(.inl 26)], (0, 0), [(.inr (.inr (.inl (44, 44)))), zIA, zIA, zIA], [(.inr (.inr (.inl (44, 44))))]),
  (2, [(.inl 25)], (0, 0), [(.inr (.inr (.inl (44, 44)))), zIA, zIA, zIA], [(.inl (0, 0, 0, 0)), (.inr (.inr (.inl (44, 44))))]),
  (5, [(.inl 24)], (0, 0), [(.inr (.inr (.inl (44, 44)))), zIA, zIA, zIA], []),
  (6, [(.inl 23)], (0, 0), [(.inr (.inr (.inl (44, 44)))), zIA, zIA, zIA], [(.inl ((-2147483648), 2147483647, 0, 2))]),
  (9, [(.inl 22)], (0, 0), [(.inr (.inr (.inl (44, 44)))), zIA, zIA, zIA], [(.inr (.inl (1, 0, 127, 0)))]),
  (12, [(.inl 21)], (0, 0), [(.inr (.inr (.inl (44, 44)))), zIA, zIA, zIA], []),
  (13, [(.inl 20)], (0, 0), [(.inr (.inr (.inl (44, 44)))), zIA, zIA, zIA], [(.inr (.inr (.inl (44, 44))))]),
  (14, [(.inl 19)], (0, 0), [(.inr (.inr (.inl (44, 44)))), zIA, zIA, zIA], [(.inl (1, 1, 0, 0)), (.inr (.inr (.inl (44, 44))))]),
  (17, [(.inl 18)], (0, 0), [(.inr (.inr (.inl (44, 44)))), zIA, zIA, zIA], [(.inl (0, 0, 0, 0))]),
  (18, [(.inl 17)], (0, 0), [(.inr (.inr (.inl (44, 44)))), (.inl (0, 127, 0, 0)), zIA, zIA], []),
  (19, [(.inl 16)], (0, 0), [(.inr (.inr (.inl (44, 44)))), (.inl (0, 127, 0, 0)), zIA, zIA], [(.inl ((-2147483648), 2147483647, 0, 3))]),
  (20, [(.inl 15)], (0, 0), [(.inr (.inr (.inl (44, 44)))), (.inl (0, 127, 0, 0)), zIA, zIA], [(.inl (0, 0, 0, 0)), (.inl ((-2147483648), 2147483647, 0, 3))]),
  (21, [(.inl 14)], (0, 0), [(.inr (.inr (.inl (44, 44)))), (.inl (0, 127, 0, 0)), zIA, zIA], [(.inr (.inr (.inl (44, 44)))), (.inl (0, 0, 0, 0)), (.inl ((-2147483648), 2147483647, 0, 3))]),
  (24, [(.inl 13)], (0, 0), [(.inr (.inr (.inl (44, 44)))), (.inl (0, 127, 0, 0)), zIA, zIA], [(.inl (8, 16, 8, 0)), (.inl (0, 0, 0, 0)), (.inl ((-2147483648), 2147483647, 0, 3))]),
  (25, [(.inl 12)], (0, 0), [(.inr (.inr (.inl (44, 44)))), (.inl (0, 127, 0, 0)), zIA, zIA], [(.inl (1, 1, 0, 0)), (.inl (8, 16, 8, 0)), (.inl (0, 0, 0, 0)), (.inl ((-2147483648), 2147483647, 0, 3))]),
  (26, [(.inl 11)], (0, 0), [(.inr (.inr (.inl (44, 44)))), (.inl (0, 127, 0, 0)), zIA, zIA], [(.inl (7, 15, 7, 0)), (.inl (0, 0, 0, 0)), (.inl ((-2147483648), 2147483647, 0, 3))]),
  (29, [(.inl 10)], (0, 0), [(.inr (.inr (.inl (44, 44)))), (.inl (0, 127, 0, 0)), zIA, zIA], [(.inr (.inl (2, 0, 15, 7)))]),
  (32, [(.inl 9)], (0, 0), [(.inr (.inr (.inl (44, 44)))), (.inl (0, 127, 0, 0)), (.inl (0, 15, 7, 0)), zIA], []),
  (33, [(.inl 8)], (0, 0), [(.inr (.inr (.inl (44, 44)))), (.inl (0, 127, 0, 0)), (.inl (0, 15, 7, 0)), zIA], [(.inl ((-2147483648), 2147483647, 0, 4))]),
  (34, [(.inl 7)], (0, 0), [(.inr (.inr (.inl (44, 44)))), (.inl (0, 127, 0, 0)), (.inl (0, 15, 7, 0)), zIA], [(.inl (1, 1, 0, 0)), (.inl ((-2147483648), 2147483647, 0, 4))]),
  (36, [(.inl 6)], (0, 0), [(.inr (.inr (.inl (44, 44)))), (.inl (0, 127, 0, 0)), (.inl (0, 15, 7, 0)), zIA], [(.inl (60, 60, 0, 0)), (.inl (1, 1, 0, 0)), (.inl ((-2147483648), 2147483647, 0, 4))]),
  (39, [(.inl 5)], (0, 0), [(.inr (.inr (.inl (44, 44)))), (.inl (0, 127, 0, 0)), (.inl (0, 15, 7, 0)), zIA], [(.inr (.inl (3, 1, 60, 0)))]),
  (42, [(.inl 3)], (0, 0), [(.inr (.inr (.inl (44, 44)))), (.inl (0, 127, 0, 0)), zIA, zIA], []),
  (43, [(.inl 2)], (0, 0), [(.inr (.inr (.inl (44, 44)))), (.inl (0, 127, 0, 0)), zIA, zIA], [(.inr (.inr (.inl (44, 44))))]),
  (44, [(.inl 1)], (0, 0), [(.inr (.inr (.inl (44, 44)))), (.inl (0, 127, 0, 0)), zIA, zIA], [(.inl (2, 2, 0, 0)), (.inr (.inr (.inl (44, 44))))]),
  (47, [(.inl 0)], (0, 0), [(.inr (.inr (.inl (44, 44)))), (.inl (0, 127, 0, 0)), zIA, zIA], [(.inl (0, 0, 0, 0))]),
  (48, [(.inl 4)], (0, 0), [(.inr (.inr (.inl (44, 44)))), (.inl (0, 127, 0, 0)), (.inl (0, 15, 7, 0)), (.inl (1, 60, 0, 0))], [])]
def cs_wkA : List zCt := [ct_111, ct_117, ct_138]
theorem gs_wkA {xs : List Int32} : ∀ ct ∈ cs_wkA, zGd xs ct := List.forall_mem_cons.mpr ⟨g_111, List.forall_mem_cons.mpr ⟨g_117, List.forall_mem_cons.mpr ⟨g_138, fun _ h => absurd h List.not_mem_nil⟩⟩⟩
def ce_wkB : List zCe := [(104, [(.inl 3)], (0, 0), [(.inr (.inr (.inl (44, 44)))), (.inl (0, 127, 0, 0)), zIA, zIA], []),
  (105, [(.inl 2)], (0, 0), [(.inr (.inr (.inl (44, 44)))), (.inl (0, 127, 0, 0)), zIA, zIA], [(.inr (.inr (.inl (44, 44))))]),
  (108, [(.inl 1)], (0, 0), [(.inr (.inr (.inl (44, 44)))), (.inl (0, 127, 0, 0)), zIA, zIA], [(.inr (.inr (.inr 9)))]),
  (113, [(.inl 0)], (0, 0), [(.inr (.inr (.inl (44, 44)))), (.inl (0, 127, 0, 0)), zIA, zIA], [(.inl (0, 24, 4, 0))])]
def cs_wkB : List zCt := [ct_243b]
theorem gs_wkB {xs : List Int32} : ∀ ct ∈ cs_wkB, zGd xs ct := List.forall_mem_cons.mpr ⟨g_243b, fun _ h => absurd h List.not_mem_nil⟩
section ZHH
variable {xs : List Int32} {g : zG} {lg : Nat} {h : zH} {D nc ns : Nat}
def zbs (g : zG) : zG := (g.1, g.2.1, g.2.2.1, g.2.2.2.1, g.zs + 1, g.zw, g.zn, g.nl, g.ze)
def zbw (g : zG) : zG := (g.1, g.2.1, g.2.2.1, g.2.2.2.1, g.zs, g.zw + 1, g.zn, g.nl, g.ze)
theorem m_124 {a : Int32} (hI : zHI g lg h) (h0 : 0 ≤ a.toInt) (h1 : a.toInt ≤ 127) : zMs xs (D + 0) 124 [.ref 44, .int a] h nc ns (fun o => ∃ x : Int32, 0 ≤ x.toInt ∧ x.toInt ≤ 19 ∧ o = (.inl (some (.int x)), h, nc, ns)) := by
  obtain ⟨vs, m1, m2, m3, m4⟩ := hI.obj
  refine ⟨_, rfl, zEs_run 1 rfl ?_⟩
  refine zEs_get rfl m1 rfl (zfld m3 (k := 19) (by decide) rfl) ?_
  refine zEs_run 3 rfl ?_
  obtain ⟨l, p1, p2, p3⟩ := hI.rows 69 100 16 0 19 rfl
  have e2 := Int32.toInt_div_of_ne_right a (Int8.ofInt 8).toInt32 (by decide)
  rw [show ((Int8.ofInt 8).toInt32).toInt = 8 from by decide, Int.tdiv_eq_ediv_of_nonneg (by omega)] at e2
  obtain ⟨v, v1, v2⟩ := zald_eq (nx := 9) (L := [some (.ref 44), some (.int a)]) (r := []) (j := a / (Int8.ofInt 8).toInt32) p1 (by omega) (by omega)
  refine zEs_step (dc := 0) (ds := 0) rfl (show zald 100 9 _ (.int (a / (Int8.ofInt 8).toInt32) :: .ref 69 :: []) h = _ from v2) ?_
  have v3 := p3 v (List.mem_of_getElem? v1)
  exact zEs_end rfl rfl ⟨v, v3.1, v3.2, rfl⟩
theorem zPq_ret {rt : Option zTy} {nc0 ns0 : Nat} {g0 : zG} {v : Option Value} (b1 : zgo2 g lg h [] rt v) (b2 : zHI g lg h) {h0 : zH} (b3 : zLE h0 h) (hs : g.s = g0.s) (ha : g.a = g0.a) (b5 : nc ≤ nc0 + 2 * lg) (b6 : ns ≤ ns0 + 100 * lg) : zPq g0 h0 nc0 ns0 rt 80 4000 (zfw g) (.inl v, h, nc, ns) := by
  have hz2 := b2.sizes
  exact ⟨v, g, lg, h, nc, ns, rfl, b1, b2, b3, hs, ha, rfl, by omega, by omega⟩
def ct_143 : zCt := (143, [(.inr (.inr (.inl (44, 44)))), zIA, zIA, (.inl (0, 1, 0, 0))], some zIA, 16, 90, 4200)
def ct_144 : zCt := (144, [(.inr (.inr (.inl (44, 44)))), zIA, zIA, zIA], some zIA, 16, 90, 4200)
theorem zPq_mo {g0 : zG} {rt : Option zTy} {dc ds dc' ds' : Nat} {F : Value × Value × Value × Value} {o : zO} (hc : dc ≤ dc') (hs : ds ≤ ds') (k : zPq g0 h nc ns rt dc ds F o) : zPq g0 h nc ns rt dc' ds' F o := by
  obtain ⟨v, g', lg', h', nc', ns', e, b1, b2, b9, b3, b4, b5, b6, b7⟩ := k
  exact ⟨v, g', lg', h', nc', ns', e, b1, b2, b9, b3, b4, b5, by omega, by omega⟩
theorem q_143 : zGq xs ct_143 := by
  intro g lg h nc ns as hI hS
  obtain ⟨v, w1, w2, w3, rfl, k, k1, k2, k3⟩ := zin4 hS
  obtain rfl := zP_eq k
  obtain ⟨x1, rfl, -⟩ := zI_eq k1
  obtain ⟨x2, rfl, -⟩ := zI_eq k2
  obtain ⟨x3, rfl, -⟩ := zI_eq k3
  refine ⟨_, rfl, zregR (cert := ce_stA) (cs := cs_stA) (rt := some zIA) 0 38 gs_stA rfl rfl (by decide +kernel) hI (zgl_in (n := 0) hS) trivial (fun v h' lg' nc' ns' b1 b2 b3 b4 b5 b6 => ?_) (fun L st lg1 h1 nc1 ns1 b1 b2 b3 b4 b5 b6 b7 => ?_)⟩
  · have b5 : nc' + 2 * lg ≤ nc + 2 * lg' + 0 := b5
    have b6 : ns' + 100 * lg ≤ ns + 100 * lg' + 0 := b6
    exact zPq_mo (by decide) (by decide) (zPq_ret b1 b2 b3 rfl rfl (by omega) (by omega))
  · have hz := b1.sizes
    have b6 : nc1 + 2 * lg + 0 ≤ nc + 2 * lg1 + 0 := b6
    have b7 : ns1 + 100 * lg + 0 ≤ ns + 100 * lg1 + 0 := b7
    obtain rfl := zgs_0 b3
    obtain ⟨L1, rfl, y1⟩ := zgl_P b2
    obtain ⟨a, L2, rfl, a0, a1, y2⟩ := zgl_I y1
    obtain ⟨b, L3, rfl, -, -, y3⟩ := zgl_I y2
    obtain ⟨c, L4, rfl, -, -, y4⟩ := zgl_I y3
    obtain rfl := zgl_0 y4
    obtain ⟨vs, m1, m2, m3, m4⟩ := b1.obj
    have f23 := zfldL (j := 0) m3 (k := 23) (by decide) rfl
    obtain ⟨ws, hw⟩ := zrow10 b1 (j := 0) (by omega)
    have len := zHI_len b1
    refine zEs_run 1 rfl ?_
    refine zEs_get rfl m1 rfl f23 ?_
    refine zEs_callG rfl (show zcallV 0 10 243 47 [.ref (g.p 0)] h1 = _ from zcallV_eq rfl hw (by decide)) (zsize (D := 15) (j := 0) b1 (by omega) (show g.zs ≤ 1000 by omega)) (fun v h9 nc9 ns9 q => ?_) (fun E h9 nc9 ns9 q => by obtain ⟨_, _, q⟩ := q; cases q)
    obtain ⟨x, hx, q⟩ := q
    cases q
    have hx : x.toInt = (g.zs : Nat) := hx
    refine zEs_run 1 rfl ?_
    refine zEs_icmp rfl (fun gg => ?_) (fun _ => ?_)
    · have z := zF_ne_t gg
      rw [hx, show ((Int8.ofInt 24).toInt32).toInt = 24 from by decide] at z
      refine zEs_run 1 rfl ?_
      refine zEs_get rfl m1 rfl f23 ?_
      refine zEs_run 2 (h' := h1 ++ [zar [0, 0, 0, 0]]) rfl ?_
      have hh : ∀ l : List Int32, zHI g lg1 (h1 ++ [zar l]) := fun l => (zHI_mv b1 (zapp_mv _)).1
      refine zEs_run 4 rfl ?_
      refine zEs_callG rfl (show zcallV 1 7 124 72 (.int a :: .ref 44 :: _) (h1 ++ [zar [0, 0, 0, 0]]) = _ from zcallV_eq rfl (zapp_mv _ _ _ m1) (Nat.le_of_ble_eq_true rfl)) (m_124 (D := 15) (hh _) a0 a1) (fun v h9 nc9 ns9 q => ?_) (fun E h9 nc9 ns9 q => by obtain ⟨_, _, _, q⟩ := q; cases q)
      obtain ⟨z0, z1, z2, q⟩ := q
      cases q
      refine zEs_astF (l := [0, 0, 0, 0]) (n := 0) rfl (by decide) (by decide) ?_
      refine zEs_run 4 rfl ?_
      refine zEs_irem rfl (by decide) ?_
      have er := zrem_z (x := a) (z := (Int8.ofInt 8).toInt32) a0 (by decide)
      rw [show ((Int8.ofInt 8).toInt32).toInt = 8 from by decide] at er
      refine zEs_astF (l := [z0, 0, 0, 0]) (n := 1) rfl (by show 1 < 4; decide) (by decide) ?_
      refine zEs_run 3 rfl ?_
      refine zEs_astF (l := [z0, a - a / (Int8.ofInt 8).toInt32 * (Int8.ofInt 8).toInt32, 0, 0]) (n := 2) rfl (by show 2 < 4; decide) (by decide) ?_
      have J : ∀ w : Int32, zEs xs 16 143 95 [some (.ref 44), some (.int a), some (.int b), some (.int c)] [.int w, .int (Int32.ofNat 3), .ref h1.length, .ref h1.length, .ref (g.p 0)] (h1 ++ [zar [z0, a - a / (Int8.ofInt 8).toInt32 * (Int8.ofInt 8).toInt32, b, 0]]) (nc1 + 0 + 1) (ns1 + 0 + 4) (zPq g h nc ns ct_143.rt ct_143.dc ct_143.ds (zfw g)) := by
        intro w
        refine zEs_astF (l := [z0, a - a / (Int8.ofInt 8).toInt32 * (Int8.ofInt 8).toInt32, b, 0]) (n := 3) rfl (by show 3 < 4; decide) (by decide) ?_
        obtain ⟨d1, d2⟩ := zHI_mv b1 (zapp_mv [zar [z0, a - a / (Int8.ofInt 8).toInt32 * (Int8.ofInt 8).toInt32, b, w]])
        obtain ⟨ws2, hw2⟩ := zrow10 d1 (j := 0) (by omega)
        refine zEs_callG rfl (show zcallV 1 10 237 101 [.ref h1.length, .ref (g.p 0)] (h1 ++ [zar [z0, a - a / (Int8.ofInt 8).toInt32 * (Int8.ofInt 8).toInt32, b, w]]) = _ from zcallV_eq rfl hw2 (by decide)) (zadd (D := 10) (g' := zbs g) (lg' := lg1) (j := 0) d1 (by omega) len (show _ = some (zar [z0, a - a / (Int8.ofInt 8).toInt32 * (Int8.ofInt 8).toInt32, b, w]) by rw [List.getElem?_append_right (Nat.le_refl _), Nat.sub_self]; rfl) ⟨_, _, _, _, rfl, ⟨z1, z2⟩, by omega, by omega⟩ rfl rfl rfl rfl rfl rfl (fun i hi ne => by
          unfold zsz
          split <;> first | rfl | exact absurd rfl ne) rfl ⟨show g.zs + 1 ≤ 24 by omega, hz.2.1, hz.2.2.1, hz.2.2.2.2.2.2⟩) (fun v h9 nc9 ns9 q => ?_) (fun E h9 nc9 ns9 q => by obtain ⟨_, _, _, q, _⟩ := q; cases q)
        obtain ⟨h', nc', ns', q, e1, e2, e3, e4, e5⟩ := q
        cases q
        refine zEs_run 1 rfl ?_
        refine zregE (cert := ce_stB) (cs := cs_stB) (rt := some zIA) 102 gs_stB rfl (by decide +kernel) e1 ⟨Or.inr ⟨_, rfl, zP_in⟩, Or.inr ⟨_, rfl, zI_in a0 a1⟩, Or.inr ⟨_, rfl, zIA_ok _⟩, Or.inr ⟨_, rfl, zIA_ok _⟩, trivial⟩ trivial (fun v h' lg' nc' ns' c1 c2 c3 c4 c5 c6 => ?_)
        have c5 : nc' + 2 * lg1 ≤ nc9 + 2 * lg' + 0 := c5
        have c6 : ns' + 100 * lg1 ≤ ns9 + 100 * lg' + 0 := c6
        have hz2 := c2.sizes
        exact ⟨v, zbs g, lg', h', nc', ns', rfl, c1, c2, zLE_tr b4 (zLE_tr d2 (zLE_tr e2 c3)), rfl, rfl, rfl, show nc' ≤ nc + 90 by omega, show ns' ≤ ns + 4200 by omega⟩
      refine zEs_run 3 rfl ?_
      refine zEs_if rfl (fun _ => ?_) (fun _ => ?_)
      · exact zEs_run 1 rfl (J _)
      · exact zEs_run 2 rfl (J _)
    · obtain ⟨ws, hw⟩ := zth b1
      refine zEs_run 2 rfl ?_
      refine zEs_ctr g_111 rfl (show zcallV 1 7 111 57 [.int (Int32.ofInt 3), .ref 44] h1 = _ from zcallV_eq rfl hw (by decide)) (by decide) b1 ⟨zP_in, zIA_ok _, trivial⟩ (fun v h2 lg2 nc2 ns2 q I2 le2 l2 c2 s2 => ?_)
      obtain ⟨u, rfl, q⟩ := q
      obtain ⟨x, rfl, -⟩ := zI_eq q
      have d1 : ct_111.dc = 0 := rfl
      have d2 : ct_111.ds = 0 := rfl
      exact zEs_end rfl rfl (zPq_mo (by decide) (by decide) (zPq_ret (rt := some zIA) (g0 := g) ⟨_, rfl, zIA_ok x⟩ I2 (zLE_tr b4 le2) rfl rfl (by omega) (by omega)))
theorem q_144 : zGq xs ct_144 := by
  intro g lg h nc ns as hI hS
  obtain ⟨v, w1, w2, w3, rfl, k, k1, k2, k3⟩ := zin4 hS
  obtain rfl := zP_eq k
  obtain ⟨x1, rfl, -⟩ := zI_eq k1
  obtain ⟨x2, rfl, -⟩ := zI_eq k2
  obtain ⟨x3, rfl, -⟩ := zI_eq k3
  refine ⟨_, rfl, zregR (cert := ce_wkA) (cs := cs_wkA) (rt := some zIA) 0 48 gs_wkA rfl rfl (by decide +kernel) hI (zgl_in (n := 0) hS) trivial (fun v h' lg' nc' ns' b1 b2 b3 b4 b5 b6 => ?_) (fun L st lg1 h1 nc1 ns1 b1 b2 b3 b4 b5 b6 b7 => ?_)⟩
  · have b5 : nc' + 2 * lg ≤ nc + 2 * lg' + 0 := b5
    have b6 : ns' + 100 * lg ≤ ns + 100 * lg' + 0 := b6
    exact zPq_mo (by decide) (by decide) (zPq_ret b1 b2 b3 rfl rfl (by omega) (by omega))
  · have hz := b1.sizes
    have b6 : nc1 + 2 * lg + 0 ≤ nc + 2 * lg1 + 0 := b6
    have b7 : ns1 + 100 * lg + 0 ≤ ns + 100 * lg1 + 0 := b7
    obtain rfl := zgs_0 b3
    obtain ⟨L1, rfl, y1⟩ := zgl_P b2
    obtain ⟨a, L2, rfl, a0, a1, y2⟩ := zgl_I y1
    obtain ⟨b, L3, rfl, -, -, y3⟩ := zgl_I y2
    obtain ⟨c, L4, rfl, -, -, y4⟩ := zgl_I y3
    obtain rfl := zgl_0 y4
    obtain ⟨vs, m1, m2, m3, m4⟩ := b1.obj
    have f24 := zfldL (j := 1) m3 (k := 24) (by decide) rfl
    obtain ⟨ws, hw⟩ := zrow10 b1 (j := 1) (by omega)
    have len := zHI_len b1
    refine zEs_run 1 rfl ?_
    refine zEs_get rfl m1 rfl f24 ?_
    refine zEs_callG rfl (show zcallV 0 10 243 57 [.ref (g.p 1)] h1 = _ from zcallV_eq rfl hw (by decide)) (zsize (D := 15) (j := 1) b1 (by omega) (show g.zw ≤ 1000 by omega)) (fun v h9 nc9 ns9 q => ?_) (fun E h9 nc9 ns9 q => by obtain ⟨_, _, q⟩ := q; cases q)
    obtain ⟨x, hx, q⟩ := q
    cases q
    have hx : x.toInt = (g.zw : Nat) := hx
    refine zEs_run 1 rfl ?_
    refine zEs_icmp rfl (fun gg => ?_) (fun _ => ?_)
    · have z := zF_ne_t gg
      rw [hx, show ((Int8.ofInt 24).toInt32).toInt = 24 from by decide] at z
      refine zEs_run 1 rfl ?_
      refine zEs_get rfl m1 rfl f24 ?_
      refine zEs_run 2 (h' := h1 ++ [zar [0, 0, 0, 0]]) rfl ?_
      have hh : ∀ l : List Int32, zHI g lg1 (h1 ++ [zar l]) := fun l => (zHI_mv b1 (zapp_mv _)).1
      refine zEs_run 4 rfl ?_
      refine zEs_callG rfl (show zcallV 1 7 124 82 (.int a :: .ref 44 :: _) (h1 ++ [zar [0, 0, 0, 0]]) = _ from zcallV_eq rfl (zapp_mv _ _ _ m1) (Nat.le_of_ble_eq_true rfl)) (m_124 (D := 15) (hh _) a0 a1) (fun v h9 nc9 ns9 q => ?_) (fun E h9 nc9 ns9 q => by obtain ⟨_, _, _, q⟩ := q; cases q)
      obtain ⟨z0, z1, z2, q⟩ := q
      cases q
      refine zEs_astF (l := [0, 0, 0, 0]) (n := 0) rfl (by decide) (by decide) ?_
      refine zEs_run 4 rfl ?_
      refine zEs_irem rfl (by decide) ?_
      have er := zrem_z (x := a) (z := (Int8.ofInt 8).toInt32) a0 (by decide)
      rw [show ((Int8.ofInt 8).toInt32).toInt = 8 from by decide] at er
      refine zEs_astF (l := [z0, 0, 0, 0]) (n := 1) rfl (by show 1 < 4; decide) (by decide) ?_
      refine zEs_run 3 rfl ?_
      refine zEs_astF (l := [z0, a - a / (Int8.ofInt 8).toInt32 * (Int8.ofInt 8).toInt32, 0, 0]) (n := 2) rfl (by show 2 < 4; decide) (by decide) ?_
      refine zEs_run 3 rfl ?_
      refine zEs_astF (l := [z0, a - a / (Int8.ofInt 8).toInt32 * (Int8.ofInt 8).toInt32, b, 0]) (n := 3) rfl (by show 3 < 4; decide) (by decide) ?_
      obtain ⟨d1, d2⟩ := zHI_mv b1 (zapp_mv [zar [z0, a - a / (Int8.ofInt 8).toInt32 * (Int8.ofInt 8).toInt32, b, c]])
      obtain ⟨ws2, hw2⟩ := zrow10 d1 (j := 1) (by omega)
      refine zEs_callG rfl (show zcallV 1 10 237 103 [.ref h1.length, .ref (g.p 1)] (h1 ++ [zar [z0, a - a / (Int8.ofInt 8).toInt32 * (Int8.ofInt 8).toInt32, b, c]]) = _ from zcallV_eq rfl hw2 (by decide)) (zadd (D := 10) (g' := zbw g) (lg' := lg1) (j := 1) d1 (by omega) len (show _ = some (zar [z0, a - a / (Int8.ofInt 8).toInt32 * (Int8.ofInt 8).toInt32, b, c]) by rw [List.getElem?_append_right (Nat.le_refl _), Nat.sub_self]; rfl) ⟨_, _, _, _, rfl, ⟨z1, z2⟩, by omega, by omega⟩ rfl rfl rfl rfl rfl rfl (fun i hi ne => by
          unfold zsz
          split <;> first | rfl | exact absurd rfl ne) rfl ⟨hz.1, show g.zw + 1 ≤ 24 by omega, hz.2.2.1, hz.2.2.2.2.2.2⟩) (fun v h9 nc9 ns9 q => ?_) (fun E h9 nc9 ns9 q => by obtain ⟨_, _, _, q, _⟩ := q; cases q)
      obtain ⟨h', nc', ns', q, e1, e2, e3, e4, e5⟩ := q
      cases q
      refine zEs_run 1 rfl ?_
      refine zregE (cert := ce_wkB) (cs := cs_wkB) (rt := some zIA) 104 gs_wkB rfl (by decide +kernel) e1 ⟨Or.inr ⟨_, rfl, zP_in⟩, Or.inr ⟨_, rfl, zI_in a0 a1⟩, Or.inr ⟨_, rfl, zIA_ok _⟩, Or.inr ⟨_, rfl, zIA_ok _⟩, trivial⟩ trivial (fun v h' lg' nc' ns' c1 c2 c3 c4 c5 c6 => ?_)
      have c5 : nc' + 2 * lg1 ≤ nc9 + 2 * lg' + 0 := c5
      have c6 : ns' + 100 * lg1 ≤ ns9 + 100 * lg' + 0 := c6
      have hz2 := c2.sizes
      have t4 : (Int32.ofInt 4).toNatClampNeg = 4 := by decide
      exact ⟨v, zbw g, lg', h', nc', ns', rfl, c1, c2, zLE_tr b4 (zLE_tr d2 (zLE_tr e2 c3)), rfl, rfl, rfl, show nc' ≤ nc + 90 by omega, show ns' ≤ ns + 4200 by omega⟩
    · obtain ⟨ws, hw⟩ := zth b1
      refine zEs_run 2 rfl ?_
      refine zEs_ctr g_111 rfl (show zcallV 1 7 111 67 [.int (Int32.ofInt 3), .ref 44] h1 = _ from zcallV_eq rfl hw (by decide)) (by decide) b1 ⟨zP_in, zIA_ok _, trivial⟩ (fun v h2 lg2 nc2 ns2 q I2 le2 l2 c2 s2 => ?_)
      obtain ⟨u, rfl, q⟩ := q
      obtain ⟨x, rfl, -⟩ := zI_eq q
      have d1 : ct_111.dc = 0 := rfl
      have d2 : ct_111.ds = 0 := rfl
      exact zEs_end rfl rfl (zPq_mo (by decide) (by decide) (zPq_ret (rt := some zIA) (g0 := g) ⟨_, rfl, zIA_ok x⟩ I2 (zLE_tr b4 le2) rfl rfl (by omega) (by omega)))
end ZHH
