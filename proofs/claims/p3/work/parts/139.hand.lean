/-! The reference's methods, by hand: a line that is used. -/
def ce_opn : List zCe := [(0, [(.inl 25)], (0, 0), [(.inr (.inr (.inl (44, 44)))), (.inl (0, 19, 0, 0)), (.inr (.inr (.inr 0))), (.inr (.inr (.inr 0)))], []),
  (1, [(.inl 24)], (0, 0), [(.inr (.inr (.inl (44, 44)))), (.inl (0, 19, 0, 0)), (.inr (.inr (.inr 0))), (.inr (.inr (.inr 0)))], [(.inr (.inr (.inl (44, 44))))]),
  (4, [(.inl 23)], (0, 0), [(.inr (.inr (.inl (44, 44)))), (.inl (0, 19, 0, 0)), (.inr (.inr (.inr 0))), (.inr (.inr (.inr 0)))], [(.inr (.inr (.inl (67, 67))))]),
  (5, [(.inl 22)], (0, 0), [(.inr (.inr (.inl (44, 44)))), (.inl (0, 19, 0, 0)), (.inr (.inr (.inr 0))), (.inr (.inr (.inr 0)))], [(.inl (0, 19, 0, 2)), (.inr (.inr (.inl (67, 67))))]),
  (6, [(.inl 21)], (0, 0), [(.inr (.inr (.inl (44, 44)))), (.inl (0, 19, 0, 0)), (.inr (.inr (.inr 0))), (.inr (.inr (.inr 0)))], [(.inl (0, 19, 0, 2)), (.inr (.inr (.inl (67, 67)))), (.inl (0, 19, 0, 2)), (.inr (.inr (.inl (67, 67))))]),
  (7, [(.inl 20)], (0, 0), [(.inr (.inr (.inl (44, 44)))), (.inl (0, 19, 0, 0)), (.inr (.inr (.inr 0))), (.inr (.inr (.inr 0)))], [zIA, (.inl (0, 19, 0, 2)), (.inr (.inr (.inl (67, 67))))]),
  (8, [(.inl 19)], (0, 0), [(.inr (.inr (.inl (44, 44)))), (.inl (0, 19, 0, 0)), (.inr (.inr (.inr 0))), (.inr (.inr (.inr 0)))], [(.inl (1, 1, 0, 0)), zIA, (.inl (0, 19, 0, 2)), (.inr (.inr (.inl (67, 67))))]),
  (9, [(.inl 18)], (0, 0), [(.inr (.inr (.inl (44, 44)))), (.inl (0, 19, 0, 0)), (.inr (.inr (.inr 0))), (.inr (.inr (.inr 0)))], [zIA, (.inl (0, 19, 0, 2)), (.inr (.inr (.inl (67, 67))))]),
  (10, [(.inl 17)], (0, 0), [(.inr (.inr (.inl (44, 44)))), (.inl (0, 19, 0, 0)), (.inr (.inr (.inr 0))), (.inr (.inr (.inr 0)))], []),
  (11, [(.inl 16)], (0, 0), [(.inr (.inr (.inl (44, 44)))), (.inl (0, 19, 0, 0)), (.inr (.inr (.inr 0))), (.inr (.inr (.inr 0)))], [(.inr (.inr (.inl (44, 44))))]),
  (14, [(.inl 15)], (0, 0), [(.inr (.inr (.inl (44, 44)))), (.inl (0, 19, 0, 0)), (.inr (.inr (.inr 0))), (.inr (.inr (.inr 0)))], [(.inr (.inr (.inl (68, 68))))]),
  (15, [(.inl 14)], (0, 0), [(.inr (.inr (.inl (44, 44)))), (.inl (0, 19, 0, 0)), (.inr (.inr (.inr 0))), (.inr (.inr (.inr 0)))], [(.inl (0, 19, 0, 2)), (.inr (.inr (.inl (68, 68))))]),
  (16, [(.inl 13)], (0, 0), [(.inr (.inr (.inl (44, 44)))), (.inl (0, 19, 0, 0)), (.inr (.inr (.inr 0))), (.inr (.inr (.inr 0)))], [(.inr (.inr (.inl (44, 44)))), (.inl (0, 19, 0, 2)), (.inr (.inr (.inl (68, 68))))]),
  (19, [(.inl 12)], (0, 0), [(.inr (.inr (.inl (44, 44)))), (.inl (0, 19, 0, 0)), (.inr (.inr (.inr 0))), (.inr (.inr (.inr 0)))], [(.inl (0, 2000, 0, 0)), (.inl (0, 19, 0, 2)), (.inr (.inr (.inl (68, 68))))]),
  (20, [(.inl 11)], (0, 0), [(.inr (.inr (.inl (44, 44)))), (.inl (0, 19, 0, 0)), (.inr (.inr (.inr 0))), (.inr (.inr (.inr 0)))], []),
  (21, [(.inl 10)], (0, 0), [(.inr (.inr (.inl (44, 44)))), (.inl (0, 19, 0, 0)), (.inr (.inr (.inr 0))), (.inr (.inr (.inr 0)))], [(.inr (.inr (.inl (44, 44))))]),
  (24, [(.inl 9)], (0, 0), [(.inr (.inr (.inl (44, 44)))), (.inl (0, 19, 0, 0)), (.inr (.inr (.inr 0))), (.inr (.inr (.inr 0)))], [(.inr (.inr (.inl (67, 67))))]),
  (25, [(.inl 8)], (0, 0), [(.inr (.inr (.inl (44, 44)))), (.inl (0, 19, 0, 0)), (.inr (.inr (.inr 0))), (.inr (.inr (.inr 0)))], [(.inl (0, 19, 0, 2)), (.inr (.inr (.inl (67, 67))))]),
  (26, [(.inl 7)], (0, 0), [(.inr (.inr (.inl (44, 44)))), (.inl (0, 19, 0, 0)), (.inr (.inr (.inr 0))), (.inr (.inr (.inr 0)))], [zIA]),
  (27, [(.inl 6)], (0, 0), [(.inr (.inr (.inl (44, 44)))), (.inl (0, 19, 0, 0)), (.inr (.inr (.inr 0))), (.inr (.inr (.inr 0)))], [(.inr (.inr (.inl (44, 44)))), zIA]),
  (30, [(.inl 5)], (0, 0), [(.inr (.inr (.inl (44, 44)))), (.inl (0, 19, 0, 0)), (.inr (.inr (.inr 0))), (.inr (.inr (.inr 0)))], [(.inl (2, 100, 0, 0)), zIA]),
  (31, [(.inl 4)], (0, 0), [(.inr (.inr (.inl (44, 44)))), (.inl (0, 19, 0, 0)), (.inr (.inr (.inr 0))), (.inr (.inr (.inr 0)))], [zIA]),
  (34, [(.inl 3)], (0, 0), [(.inr (.inr (.inl (44, 44)))), (.inl (0, 19, 0, 0)), (.inr (.inr (.inr 0))), (.inr (.inr (.inr 0)))], []),
  (35, [(.inl 2)], (0, 0), [(.inr (.inr (.inl (44, 44)))), (.inl (0, 19, 0, 0)), (.inr (.inr (.inr 0))), (.inr (.inr (.inr 0)))], []),
  (36, [(.inl 1)], (0, 0), [(.inr (.inr (.inl (44, 44)))), (.inl (0, 19, 0, 0)), (.inr (.inr (.inr 0))), (.inr (.inr (.inr 0)))], [(.inl ((-1), (-1), 0, 0))]),
  (37, [(.inl 0)], (0, 0), [(.inr (.inr (.inl (44, 44)))), (.inl (0, 19, 0, 0)), (.inl ((-1), (-1), 0, 0)), (.inr (.inr (.inr 0)))], [])]
def cs_opn : List zCt := []
theorem gs_opn {xs : List Int32} : ∀ ct ∈ cs_opn, zGd xs ct := fun _ h => absurd h List.not_mem_nil
def ct_129 : zCt := (129, [(.inr (.inr (.inl (44, 44)))), (.inl (0, 19, 0, 0))], none, 12, 0, 0)
section ZHC
variable {xs : List Int32} {g : zG} {lg : Nat} {h : zH} {D nc ns y pc nx k yy m c nx' : Nat} {A S : List zTy} {L : zL} {st as r : List Value} {P : zO → Prop}
/-- like zreg, where the method may return on the way -/
theorem zregR {cs : List zCt} {cert : List zCe} {rkx rk0 : List zRk} {bux bu0 : Nat × Nat} {Ax Sx A0 S0 : List zTy} {rt : Option zTy} (s x : Nat) (hcs : ∀ ct ∈ cs, zGd xs ct) (hs : zlkc cert s = some (rk0, bu0, A0, S0)) (hx : zlkc cert x = some (rkx, bux, Ax, Sx)) (hok : cert.all (fun e => [x].contains e.1 || zce y cs cert (D + 1) rt e) = true) (hI : zHI g lg h) (hA : zgl g lg h A0 L) (hS : zgs g lg h L S0 st)
    (hret : ∀ v h' lg' nc' ns', zgo2 g lg' h' [] rt v → zHI g lg' h' → zLE h h' → lg ≤ lg' → nc' + 2 * lg ≤ nc + 2 * lg' + bu0.1 → ns' + 100 * lg ≤ ns + 100 * lg' + bu0.2 → P (.inl v, h', nc', ns'))
    (hk : ∀ L st lg' h' nc' ns', zHI g lg' h' → zgl g lg' h' Ax L → zgs g lg' h' L Sx st → zLE h h' → lg ≤ lg' → nc' + 2 * lg + bux.1 ≤ nc + 2 * lg' + bu0.1 → ns' + 100 * lg + bux.2 ≤ ns + 100 * lg' + bu0.2 → zEs xs (D + 1) y x L st h' nc' ns' P) : zEs xs (D + 1) y s L st h nc ns P := by
  refine zck_g (ex := [x]) P lg nc ns bu0.1 bu0.2 h hcs hok hret (fun pc rk bu A S z e L st lg' h' nc' ns' b1 b2 b3 b4 b5 b6 b7 => ?_) _ _ rfl s rk0 bu0 A0 S0 hs L st lg h nc ns rfl hI hA hS zLE_rf (Nat.le_refl _) (Nat.le_of_eq (by omega)) (Nat.le_of_eq (by omega))
  have z : pc = x := by simpa using z
  subst z
  rw [hx] at e
  cases e
  exact hk L st lg' h' nc' ns' b1 b2 b3 b4 b5 b6 b7
theorem zrem_z {x z : Int32} (h1 : 0 ≤ x.toInt) (h2 : 0 < z.toInt) : (x - x / z * z).toInt = x.toInt % z.toInt := by
  have e2 := Int32.toInt_div_of_ne_right x z (by rintro rfl; have : (-1 : Int32).toInt = -1 := by decide
                                                 omega)
  rw [Int.tdiv_eq_ediv_of_nonneg (by omega)] at e2
  have hx := Int32.toInt_lt x
  have m1 := Int.emod_add_mul_ediv x.toInt z.toInt
  have m2 := Int.emod_nonneg x.toInt (show z.toInt ≠ 0 by omega)
  have m3 := Int.emod_lt_of_pos x.toInt (show 0 < z.toInt by omega)
  have m4 : 0 ≤ x.toInt / z.toInt := Int.ediv_nonneg (by omega) (by omega)
  have m5 : 0 ≤ z.toInt * (x.toInt / z.toInt) := Int.mul_nonneg (by omega) m4
  have e3 := Int32.toInt_mul (x / z) z
  rw [e2, Int.mul_comm, zbm (by omega) (by omega)] at e3
  have e4 := Int32.toInt_sub x (x / z * z)
  rw [e3, zbm (by omega) (by omega)] at e4
  omega
theorem zth (hI : zHI g lg h) : ∃ ws, h[44]? = some (7, ws) := by
  obtain ⟨vs, m, -⟩ := hI.obj
  exact ⟨vs, m⟩
theorem zI_in {x : Int32} {a b : Int} (h1 : a ≤ x.toInt) (h2 : x.toInt ≤ b) : zga g lg h L ((.inl (a, b, 0, 0))) (.int x) := ⟨x, rfl, h1, h2, trivial, Or.inl rfl⟩
theorem zP_in {q : Nat} : zga g lg h L ((.inr (.inr (.inl (q, q))))) (.ref q) := ⟨q, rfl, Nat.le_refl _, Nat.le_refl _⟩
theorem l_129 {ln b : Int32} {o3 : Option Value} (hI : zHI g lg h) (h1 : 0 ≤ ln.toInt) (h2 : ln.toInt ≤ 19) (hb : b.toInt = -1 ∨ b.toInt = 1)
    (K : ∀ o lg' h' nc' ns', zHI g lg' h' → zLE h h' → lg ≤ lg' → nc' + 2 * lg ≤ nc + 2 * lg' → ns' + 100 * lg ≤ ns + 100 * lg' → zEs xs 12 129 98 [some (.ref 44), some (.int ln), some (.int b), o] [] h' nc' ns' P) : zEs xs 12 129 42 [some (.ref 44), some (.int ln), some (.int b), o3] [] h nc ns P := by
  refine zEs_run 2 rfl ?_
  refine zEs_irem rfl (by decide) ?_
  refine zEs_run 4 rfl ?_
  have t10 : ((Int8.ofInt 10).toInt32).toInt = 10 := by decide
  have t9 : ((Int8.ofInt 9).toInt32).toInt = 9 := by decide
  have t0 : (Int32.ofInt 0).toInt = 0 := by decide
  have er := zrem_z (x := ln) (z := (Int8.ofInt 10).toInt32) h1 (by omega)
  rw [t10] at er
  have es := Int32.toInt_add (ln - ln / (Int8.ofInt 10).toInt32 * (Int8.ofInt 10).toInt32) b
  rw [er, zbm (by omega) (by omega)] at es
  refine zEs_callG rfl rfl (m_112 (D := 11)) (fun v h9 nc9 ns9 q => ?_) (fun E h9 nc9 ns9 q => by obtain ⟨_, _, _, _, q⟩ := q; cases q)
  obtain ⟨w, w1, w2, -, q⟩ := q
  cases q
  refine zEs_if rfl (fun gg => ?_) (fun gg => ?_)
  · have w2 := w2 gg
    have w2 : 0 ≤ ln.toInt % 10 + b.toInt ∧ ln.toInt % 10 + b.toInt ≤ 9 := by
      rw [← es, ← t0, ← t9]
      exact w2
    have e9 := Int32.toInt_add ln b
    rw [zbm (by omega) (by omega)] at e9
    have b1 : 0 ≤ (ln + b).toInt := by omega
    have b2 : (ln + b).toInt ≤ 19 := by omega
    obtain ⟨ws, hw⟩ := zth hI
    refine zEs_run 1 rfl ?_
    refine zEs_ctr g_128 rfl (show zcallV 0 7 128 64 [.ref 44] h = _ from zcallV_eq rfl hw (by decide)) (by decide) hI ⟨zP_in, trivial⟩ (fun v h1 lg1 nc1 ns1 q I1 le1 l1 c1 s1 => ?_)
    obtain ⟨u, rfl, q⟩ := q
    obtain ⟨x, rfl, x1, x2, -⟩ := zI_eq q
    refine zEs_run 1 rfl ?_
    refine zEs_irem rfl (by decide) ?_
    have t8 : ((Int8.ofInt 8).toInt32).toInt = 8 := by decide
    have ep := zrem_z (x := x) (z := (Int8.ofInt 8).toInt32) x1 (by omega)
    rw [t8] at ep
    obtain ⟨vs, m1, m2, m3, m4⟩ := I1.obj
    refine zEs_run 7 rfl ?_
    refine zEs_get rfl m1 rfl (zfld m3 (k := 16) (by decide) rfl) ?_
    refine zEs_run 3 rfl ?_
    have hj : ¬ ln + b < 0 := fun z => by
      have z := zlt_z z
      rw [zero_z] at z
      omega
    refine zEs_aald rfl I1.outer (Or.inr rfl) hj (v := .ref (47 + (ln + b).toInt.toNat)) (by
      rw [show (ln + b).toNatClampNeg = (ln + b).toInt.toNat from rfl, List.getElem?_map, List.getElem?_range (by omega)]
      rfl) ?_
    obtain ⟨l, p1, p2, p3⟩ := I1.rows (47 + (ln + b).toInt.toNat) 100 8 (-2147483648) 2147483647 (if_pos (by omega))
    refine zEs_run 1 rfl ?_
    obtain ⟨v9, hv9⟩ : ∃ v, l[(x - x / (Int8.ofInt 8).toInt32 * (Int8.ofInt 8).toInt32).toInt.toNat]? = some v := ⟨_, List.getElem?_eq_getElem (by omega)⟩
    refine zEs_ald rfl p1 (fun z => by
      have z := zlt_z z
      rw [zero_z] at z
      omega) hv9 ?_
    refine zEs_run 2 rfl ?_
    obtain ⟨ws2, hw2⟩ := zth I1
    refine zEs_ctr g_128 rfl (show zcallV 0 7 128 88 (.ref 44 :: _) h1 = _ from zcallV_eq rfl hw2 (Nat.le_of_ble_eq_true rfl)) (by decide) I1 ⟨zP_in, trivial⟩ (fun v h2 lg2 nc2 ns2 q I2 le2 l2 c2 s2 => ?_)
    obtain ⟨u2, rfl, q⟩ := q
    obtain ⟨x2, rfl, -⟩ := zI_eq q
    refine zEs_run 1 rfl ?_
    obtain ⟨ws3, hw3⟩ := zth I2
    refine zEs_ctr g_117 rfl (show zcallV 0 7 117 92 (.ref 44 :: _) h2 = _ from zcallV_eq rfl hw3 (Nat.le_of_ble_eq_true rfl)) (by decide) I2 ⟨zP_in, trivial⟩ (fun v h3 lg3 nc3 ns3 q I3 le3 l3 c3 s3 => ?_)
    obtain ⟨u3, rfl, q⟩ := q
    obtain ⟨x3, rfl, y1, y2, -⟩ := zI_eq q
    refine zEs_irem rfl (by rintro rfl; rw [zero_z] at y1; omega) ?_
    refine zEs_run 2 rfl ?_
    obtain ⟨ws4, hw4⟩ := zth I3
    refine zEs_ctr g_126 rfl (show zcallV 3 7 126 98 (_ :: _ :: _ :: .ref 44 :: _) h3 = _ from zcallV_eq rfl hw4 (by decide)) (by decide) I3 ⟨zP_in, zI_in b1 b2, zI_in (by omega) (by omega), zIA_ok _, trivial⟩ (fun v h4 lg4 nc4 ns4 q I4 le4 l4 c4 s4 => ?_)
    obtain rfl := (show v = none from q)
    refine K _ lg4 h4 nc4 ns4 I4 (zLE_tr le1 (zLE_tr le2 (zLE_tr le3 le4))) (by omega) ?_ ?_
    · have z1 : ct_128.dc = 0 := rfl
      have z2 : ct_117.dc = 0 := rfl
      have z3 : ct_126.dc = 0 := rfl
      omega
    · have z1 : ct_128.ds = 0 := rfl
      have z2 : ct_117.ds = 0 := rfl
      have z3 : ct_126.ds = 0 := rfl
      omega
  · refine zEs_run 1 rfl ?_
    exact K _ lg _ _ _ hI zLE_rf (Nat.le_refl _) (Nat.le_refl _) (Nat.le_refl _)
theorem g_129 : zGd xs ct_129 := by
  intro g lg h nc ns as hI hS
  obtain ⟨v, w1, rfl, k, k1⟩ := zin2 hS
  obtain rfl := zP_eq k
  obtain ⟨x1, rfl, -⟩ := zI_eq k1
  refine ⟨_, rfl, zregR (cert := ce_opn) (cs := cs_opn) (rt := none) 0 37 gs_opn rfl rfl (by decide +kernel) hI (zgl_in (n := 2) hS) trivial (fun v h' lg' nc' ns' b1 b2 b3 b4 b5 b6 => ⟨_, h', lg', nc', ns', rfl, b1, b2, b3, b4, b5, b6⟩) (fun L st lg1 h1 nc1 ns1 b1 b2 b3 b4 b5 b6 b7 => ?_)⟩
  obtain rfl := zgs_0 b3
  obtain ⟨L1, rfl, y1⟩ := zgl_P b2
  obtain ⟨a, L2, rfl, a1, a2, y2⟩ := zgl_I y1
  obtain ⟨b, L3, rfl, d1, d2, y3⟩ := zgl_I y2
  obtain ⟨o3, L4, rfl, y4⟩ := zgl_N y3
  obtain rfl := zgl_0 y4
  obtain rfl : b = Int32.ofInt (-1) := Int32.toInt_inj.mp (by have : (Int32.ofInt (-1)).toInt = -1 := by decide
                                                              omega)
  refine zEs_run 2 rfl ?_
  refine zEs_icmp rfl (fun gg => absurd (show Int32.ofInt 1 < Int32.ofInt (-1) from gg) (by decide)) (fun _ => ?_)
  refine l_129 b1 a1 a2 (Or.inl (by decide)) (fun o lg2 h2 nc2 ns2 I2 e1 e2 e3 e4 => ?_)
  refine zEs_run 4 rfl ?_
  refine zEs_icmp rfl (fun gg => absurd (show Int32.ofInt 1 < Int32.ofInt (-1) + Int32.ofInt 2 from gg) (by decide)) (fun _ => ?_)
  refine l_129 I2 a1 a2 (Or.inr (by decide)) (fun o lg3 h3 nc3 ns3 I3 f1 f2 f3 f4 => ?_)
  refine zEs_run 4 rfl ?_
  refine zEs_icmp rfl (fun _ => ?_) (fun gg => absurd (show Int32.ofInt 1 < (Int32.ofInt (-1) + Int32.ofInt 2) + Int32.ofInt 2 by decide) gg)
  have b6 : nc1 + 2 * lg + 0 ≤ nc + 2 * lg1 + 0 := b6
  have b7 : ns1 + 100 * lg + 0 ≤ ns + 100 * lg1 + 0 := b7
  exact zEs_end rfl rfl ⟨_, h3, lg3, nc3, ns3, rfl, rfl, I3, zLE_tr b4 (zLE_tr e1 f1), by omega, by omega, by omega⟩
end ZHC
