/-! The reference's methods, by hand: call, tick, pass. -/
def ce_tick : List zCe := [(10, [(.inl 7), (.inl 0), (.inl 0)], (0, 0), [(.inr (.inr (.inl (44, 44)))), (.inr (.inr (.inr 0)))], []),
  (11, [(.inl 6), (.inl 0), (.inl 0)], (0, 0), [(.inr (.inr (.inl (44, 44)))), (.inr (.inr (.inr 0)))], [(.inr (.inr (.inl (44, 44))))]),
  (14, [(.inl 5), (.inl 0), (.inl 0)], (0, 0), [(.inr (.inr (.inl (44, 44)))), (.inr (.inr (.inr 0)))], []),
  (15, [(.inl 4), (.inl 0), (.inl 0)], (0, 0), [(.inr (.inr (.inl (44, 44)))), (.inr (.inr (.inr 0)))], [(.inl (0, 0, 0, 0))]),
  (16, [(.inl 3), (.inr (20, 1)), (.inl 22)], (0, 0), [(.inr (.inr (.inl (44, 44)))), (.inl (0, 20, 0, 0))], []),
  (17, [(.inl 3), (.inr (20, 1)), (.inl 21)], (0, 0), [(.inr (.inr (.inl (44, 44)))), (.inl (0, 20, 0, 0))], [(.inl (0, 20, 0, 2))]),
  (18, [(.inl 3), (.inr (20, 1)), (.inl 20)], (0, 0), [(.inr (.inr (.inl (44, 44)))), (.inl (0, 20, 0, 0))], [(.inr (.inr (.inl (44, 44)))), (.inl (0, 20, 0, 2))]),
  (21, [(.inl 3), (.inr (20, 1)), (.inl 19)], (0, 0), [(.inr (.inr (.inl (44, 44)))), (.inl (0, 20, 0, 0))], [(.inr (.inr (.inl (67, 67)))), (.inl (0, 20, 0, 2))]),
  (22, [(.inl 3), (.inr (20, 1)), (.inl 18)], (0, 0), [(.inr (.inr (.inl (44, 44)))), (.inl (0, 20, 0, 0))], [(.inl (20, 20, 0, 0)), (.inl (0, 20, 0, 2))]),
  (25, [(.inl 3), (.inr (20, 1)), (.inl 17)], (0, 0), [(.inr (.inr (.inl (44, 44)))), (.inl (0, 19, 0, 0))], []),
  (26, [(.inl 3), (.inr (20, 1)), (.inl 16)], (0, 0), [(.inr (.inr (.inl (44, 44)))), (.inl (0, 19, 0, 0))], [(.inr (.inr (.inl (44, 44))))]),
  (29, [(.inl 3), (.inr (20, 1)), (.inl 15)], (0, 0), [(.inr (.inr (.inl (44, 44)))), (.inl (0, 19, 0, 0))], [(.inl (0, 2000, 0, 0))]),
  (30, [(.inl 3), (.inr (20, 1)), (.inl 14)], (0, 0), [(.inr (.inr (.inl (44, 44)))), (.inl (0, 19, 0, 0))], [(.inr (.inr (.inl (44, 44)))), (.inl (0, 2000, 0, 0))]),
  (33, [(.inl 3), (.inr (20, 1)), (.inl 13)], (0, 0), [(.inr (.inr (.inl (44, 44)))), (.inl (0, 19, 0, 0))], [(.inl (1, 100, 0, 0)), (.inl (0, 2000, 0, 0))]),
  (34, [(.inl 3), (.inr (20, 1)), (.inl 12)], (0, 0), [(.inr (.inr (.inl (44, 44)))), (.inl (0, 19, 0, 0))], [(.inl (0, 99, 0, 0))]),
  (37, [(.inl 3), (.inr (20, 1)), (.inl 11)], (0, 0), [(.inr (.inr (.inl (44, 44)))), (.inl (0, 19, 0, 0))], []),
  (38, [(.inl 3), (.inr (20, 1)), (.inl 10)], (0, 0), [(.inr (.inr (.inl (44, 44)))), (.inl (0, 19, 0, 0))], [(.inr (.inr (.inl (44, 44))))]),
  (41, [(.inl 3), (.inr (20, 1)), (.inl 9)], (0, 0), [(.inr (.inr (.inl (44, 44)))), (.inl (0, 19, 0, 0))], [(.inr (.inr (.inl (67, 67))))]),
  (42, [(.inl 3), (.inr (20, 1)), (.inl 8)], (0, 0), [(.inr (.inr (.inl (44, 44)))), (.inl (0, 19, 0, 0))], [(.inl (0, 19, 0, 2)), (.inr (.inr (.inl (67, 67))))]),
  (43, [(.inl 3), (.inr (20, 1)), (.inl 7)], (0, 0), [(.inr (.inr (.inl (44, 44)))), (.inl (0, 19, 0, 0))], [(.inl (0, 0, 0, 0)), (.inl (0, 19, 0, 2)), (.inr (.inr (.inl (67, 67))))]),
  (44, [(.inl 3), (.inr (20, 1)), (.inl 6)], (0, 0), [(.inr (.inr (.inl (44, 44)))), (.inl (0, 19, 0, 0))], []),
  (45, [(.inl 3), (.inr (20, 1)), (.inl 5)], (0, 0), [(.inr (.inr (.inl (44, 44)))), (.inl (0, 19, 0, 0))], [(.inr (.inr (.inl (44, 44))))]),
  (48, [(.inl 3), (.inr (20, 1)), (.inl 4)], (0, 0), [(.inr (.inr (.inl (44, 44)))), (.inl (0, 19, 0, 0))], [(.inr (.inr (.inl (68, 68))))]),
  (49, [(.inl 3), (.inr (20, 1)), (.inl 3)], (0, 0), [(.inr (.inr (.inl (44, 44)))), (.inl (0, 19, 0, 0))], [(.inl (0, 19, 0, 2)), (.inr (.inr (.inl (68, 68))))]),
  (50, [(.inl 3), (.inr (20, 1)), (.inl 2)], (0, 0), [(.inr (.inr (.inl (44, 44)))), (.inl (0, 19, 0, 0))], [(.inr (.inr (.inl (44, 44)))), (.inl (0, 19, 0, 2)), (.inr (.inr (.inl (68, 68))))]),
  (53, [(.inl 3), (.inr (20, 1)), (.inl 1)], (0, 0), [(.inr (.inr (.inl (44, 44)))), (.inl (0, 19, 0, 0))], [(.inl (0, 2000, 0, 0)), (.inl (0, 19, 0, 2)), (.inr (.inr (.inl (68, 68))))]),
  (54, [(.inl 3), (.inr (20, 1)), (.inl 0)], (0, 0), [(.inr (.inr (.inl (44, 44)))), (.inl (0, 19, 0, 0))], []),
  (57, [(.inl 3), (.inr (20, 1)), (.inl 23)], (0, 0), [(.inr (.inr (.inl (44, 44)))), (.inl (1, 20, 0, 0))], []),
  (60, [(.inl 2), (.inl 0), (.inl 0)], (0, 0), [(.inr (.inr (.inl (44, 44)))), (.inl (0, 20, 0, 0))], []),
  (61, [(.inl 1), (.inl 0), (.inl 0)], (0, 0), [(.inr (.inr (.inl (44, 44)))), (.inl (0, 20, 0, 0))], [(.inr (.inr (.inl (44, 44))))]),
  (64, [(.inl 0), (.inl 0), (.inl 0)], (0, 0), [(.inr (.inr (.inl (44, 44)))), (.inl (0, 20, 0, 0))], [])]
def cs_tick : List zCt := [ct_135, ct_136]
theorem gs_tick {xs : List Int32} : ∀ ct ∈ cs_tick, zGd xs ct := List.forall_mem_cons.mpr ⟨g_135, List.forall_mem_cons.mpr ⟨g_136, fun _ h => absurd h List.not_mem_nil⟩⟩
def ce_pas : List zCe := [(0, [(.inl 12)], (0, 0), [(.inr (.inr (.inl (44, 44)))), zIA, (.inr (.inr (.inr 0)))], []),
  (1, [(.inl 11)], (0, 0), [(.inr (.inr (.inl (44, 44)))), zIA, (.inr (.inr (.inr 0)))], [(.inr (.inr (.inl (44, 44))))]),
  (2, [(.inl 10)], (0, 0), [(.inr (.inr (.inl (44, 44)))), zIA, (.inr (.inr (.inr 0)))], [(.inl (0, 0, 0, 0)), (.inr (.inr (.inl (44, 44))))]),
  (5, [(.inl 9)], (0, 0), [(.inr (.inr (.inl (44, 44)))), zIA, (.inr (.inr (.inr 0)))], []),
  (6, [(.inl 8)], (0, 0), [(.inr (.inr (.inl (44, 44)))), zIA, (.inr (.inr (.inr 0)))], [(.inl ((-2147483648), 2147483647, 0, 2))]),
  (7, [(.inl 7)], (0, 0), [(.inr (.inr (.inl (44, 44)))), zIA, (.inr (.inr (.inr 0)))], [(.inl (1, 1, 0, 0)), (.inl ((-2147483648), 2147483647, 0, 2))]),
  (9, [(.inl 6)], (0, 0), [(.inr (.inr (.inl (44, 44)))), zIA, (.inr (.inr (.inr 0)))], [(.inl (100, 100, 0, 0)), (.inl (1, 1, 0, 0)), (.inl ((-2147483648), 2147483647, 0, 2))]),
  (12, [(.inl 5)], (0, 0), [(.inr (.inr (.inl (44, 44)))), zIA, (.inr (.inr (.inr 0)))], [(.inr (.inl (1, 1, 100, 0)))]),
  (15, [(.inl 4)], (0, 0), [(.inr (.inr (.inl (44, 44)))), zIA, (.inr (.inr (.inr 0)))], []),
  (16, [(.inl 3)], (0, 0), [(.inr (.inr (.inl (44, 44)))), zIA, (.inr (.inr (.inr 0)))], [(.inr (.inr (.inl (44, 44))))]),
  (17, [(.inl 2)], (0, 0), [(.inr (.inr (.inl (44, 44)))), zIA, (.inr (.inr (.inr 0)))], [(.inl (1, 1, 0, 0)), (.inr (.inr (.inl (44, 44))))]),
  (20, [(.inl 1)], (0, 0), [(.inr (.inr (.inl (44, 44)))), zIA, (.inr (.inr (.inr 0)))], [(.inl (0, 0, 0, 0))]),
  (21, [(.inl 0)], (0, 0), [(.inr (.inr (.inl (44, 44)))), (.inl (1, 100, 0, 0)), (.inr (.inr (.inr 0)))], [])]
def cs_pas : List zCt := [ct_111]
theorem gs_pas {xs : List Int32} : ∀ ct ∈ cs_pas, zGd xs ct := List.forall_mem_cons.mpr ⟨g_111, fun _ h => absurd h List.not_mem_nil⟩
section ZHG
variable {xs : List Int32} {g : zG} {lg : Nat} {h : zH} {D nc ns : Nat}
/-- a method, as the law sees it -/
abbrev zfw (g : zG) : Value × Value × Value × Value := (g.f 13, g.f 1, g.f 2, g.f 3)
def zPq (g : zG) (h0 : zH) (nc ns : Nat) (rt : Option zTy) (dc ds : Nat) (F : Value × Value × Value × Value) : zO → Prop := fun o => ∃ v g' lg' h' nc' ns', o = (.inl v, h', nc', ns') ∧ zgo2 g' lg' h' [] rt v ∧ zHI g' lg' h' ∧ zLE h0 h' ∧ g'.s = g.s ∧ g'.a = g.a ∧ zfw g' = F ∧ nc' ≤ nc + dc ∧ ns' ≤ ns + ds
def zGq (xs : List Int32) (ct : zCt) : Prop := ∀ g lg h nc ns as, zHI g lg h → zgs g lg h [] ct.as as → zMs xs ct.dep ct.y as h nc ns (zPq g h nc ns ct.rt ct.dc ct.ds (zfw g))
def zsf (g : zG) (k : Nat) (v : Value) : zG := (g.1, g.2.1, zup g.f k v, g.2.2.2)
theorem zHI_fz {vs : List Value} {k : Nat} {v : Value} (hI : zHI g lg h) (h0 : h[44]? = some (7, vs)) (hk : k = 4 ∨ k = 13) (hv : zga g lg h [] (zfs k) v) : zHI (zsf g k v) lg (h.set 44 (7, vs.set k v)) ∧ zLE h (h.set 44 (7, vs.set k v)) := by
  obtain ⟨vs', a, b, c, d⟩ := hI.obj
  rw [h0] at a
  cases a
  have hk26 : k < 26 := by omega
  have hb : ∀ q : Nat, 73 ≤ q → (h.set 44 (7, vs.set k v))[q]? = h[q]? := fun q hq => List.getElem?_set_ne (by omega)
  have hl : zLE h (h.set 44 (7, vs.set k v)) := fun q l a b _ _ => by rw [hb q a]; exact b
  refine ⟨⟨(ztake_set (by omega)).trans hI.cls, ⟨vs.set k v, List.getElem?_set_self (List.getElem?_eq_some_iff.mp h0).1, by simpa using b, fun j hj => ?_, fun j hj => ?_⟩, ?_, ?_, ?_, ?_, hI.sizes⟩, hl⟩
  · by_cases z : j = k
    · subst z
      exact ⟨v, List.getElem?_set_self (by omega), zfs_mo (g' := zsf g j v) rfl rfl hl hv⟩
    · rw [List.getElem?_set_ne (fun w => z w.symm)]
      obtain ⟨w, w1, w2⟩ := c j hj
      exact ⟨w, w1, zfs_mo (g' := zsf g k v) rfl rfl hl w2⟩
  · by_cases z : j = k
    · subst z
      rw [List.getElem?_set_self (by omega)]
      show _ = some (if j = j then v else g.f j)
      rw [if_pos rfl]
    · rw [List.getElem?_set_ne (fun w => z w.symm)]
      show _ = some (if j = k then v else g.f j)
      rw [if_neg z]
      exact d j hj
  · rw [List.getElem?_set_ne (by omega)]
    exact hI.outer
  · intro q t n lo hi e
    have := zsp_b e
    rw [List.getElem?_set_ne (by omega)]
    exact hI.rows q t n lo hi e
  · obtain ⟨E, k⟩ := hI.lists
    refine ⟨E, fun j hj => ?_⟩
    obtain ⟨k1, k2, k3, k4⟩ := k j hj
    exact ⟨k1, zLi_cg hb k2 k1 k3, k3, k4⟩
  · obtain ⟨x, y, e1, e2, e3⟩ := hI.bits
    refine ⟨x, y, ?_, ?_, e3⟩
    · show (if 1 = k then v else g.f 1) = _
      rw [if_neg (by omega)]
      exact e1
    · show (if 2 = k then v else g.f 2) = _
      rw [if_neg (by omega)]
      exact e2
theorem zq_of {ct : zCt} (k : zGd xs ct) (hf : ∀ T, ct.rt = some T → zfree T = true) : zGq xs (ct.y, ct.as, ct.rt, ct.dep, ct.dc + 80, ct.ds + 4000) := by
  intro g lg h nc ns as hI hS
  refine zMs_post (fun o ho => ?_) (k g lg h nc ns as hI hS)
  obtain ⟨v, h', lg', nc', ns', rfl, b1, b2, b3, b4, b5, b6⟩ := ho
  have hz := b2.sizes
  refine ⟨v, g, lg', h', nc', ns', rfl, ?_, b2, b3, rfl, rfl, rfl, ?_, ?_⟩
  · show zgo2 g lg' h' [] ct.rt v
    cases e : ct.rt with
    | none =>
      rw [e] at b1
      exact b1
    | some T =>
      rw [e] at b1
      obtain ⟨w, w1, w2⟩ := b1
      exact ⟨w, w1, (zgs_free (S := [T]) (st := [w]) (L' := []) (by simp [hf T e]) ⟨w2, trivial⟩).1⟩
  · show nc' ≤ nc + (ct.dc + 80)
    omega
  · show ns' ≤ ns + (ct.ds + 4000)
    omega
theorem m_152 {c : Int32} (hI : zHI g lg h) (hc : g.f 13 = .int c) : zMs xs (D + 0) 152 [.ref 44] h nc ns (fun o => ∃ h', o = (.inl (some (.int (c + 1))), h', nc, ns) ∧ zHI (zsf g 13 (.int (c + 1))) lg h' ∧ zLE h h') := by
  obtain ⟨vs, m1, m2, m3, m4⟩ := hI.obj
  refine ⟨_, rfl, zEs_run 2 rfl ?_⟩
  refine zEs_put rfl m1 rfl rfl (by omega) ?_
  obtain ⟨n1, n2⟩ := zHI_fld (k := 0) (v := .int (Int32.ofInt 0)) hI m1 (by decide) (zIA_ok _) (by decide)
  have hl := (List.getElem?_eq_some_iff.mp m1).1
  have c1 : (h.set 44 (7, vs.set 0 (.int (Int32.ofInt 0))))[44]? = some (7, vs.set 0 (.int (Int32.ofInt 0))) := List.getElem?_set_self hl
  have v13 : (vs.set 0 (.int (Int32.ofInt 0)))[13]? = some (.int c) := by
    rw [List.getElem?_set_ne (by decide), ← hc]
    exact m4 13 (by decide)
  refine zEs_run 2 rfl ?_
  refine zEs_get rfl c1 rfl v13 ?_
  refine zEs_run 2 rfl ?_
  refine zEs_put rfl c1 rfl rfl (by rw [List.length_set]; omega) ?_
  obtain ⟨n3, n4⟩ := zHI_fz (k := 13) (v := .int (c + 1)) n1 c1 (Or.inr rfl) (zIA_ok _)
  refine zEs_run 1 rfl ?_
  refine zEs_get rfl (List.getElem?_set_self (by simpa using hl)) rfl (List.getElem?_set_self (by rw [List.length_set]; omega)) ?_
  exact zEs_end rfl rfl ⟨_, rfl, n3, zLE_tr n2 n4⟩
theorem m_137 {t : Int32} (hI : zHI g lg h) (ht : g.f 4 = .int t) (h0 : 0 ≤ t.toInt) (h1 : t.toInt < 2000) : zMs xs 15 137 [.ref 44] h nc ns (fun o => ∃ h' lg' nc' ns', o = (.inl none, h', nc', ns') ∧ zHI (zsf g 4 (.int (t + 1))) lg' h' ∧ zLE h h' ∧ lg ≤ lg' ∧ nc' + 2 * lg ≤ nc + 2 * lg' ∧ ns' + 100 * lg ≤ ns + 100 * lg') := by
  obtain ⟨vs, m1, m2, m3, m4⟩ := hI.obj
  have v4 : vs[4]? = some (.int t) := by
    rw [← ht]
    exact m4 4 (by decide)
  refine ⟨_, rfl, zEs_run 2 rfl ?_⟩
  refine zEs_get rfl m1 rfl v4 ?_
  refine zEs_run 2 rfl ?_
  refine zEs_put rfl m1 rfl rfl (by omega) ?_
  have e := zinc_le (x := t) (n := 1) (by omega) (by decide) (by decide)
  have e : (t + 1).toInt = t.toInt + 1 := e
  obtain ⟨n3, n4⟩ := zHI_fz (k := 4) (v := .int (t + 1)) hI m1 (Or.inl rfl) ⟨t + 1, rfl, by omega, by omega, trivial, Or.inl rfl⟩
  refine zregE (cert := ce_tick) (cs := cs_tick) (rt := none) 10 gs_tick rfl (by decide +kernel) n3 ⟨Or.inr ⟨_, rfl, zP_in⟩, Or.inl rfl, trivial⟩ trivial (fun v h' lg' nc' ns' c1 c2 c3 c4 c5 c6 => ?_)
  obtain rfl := (show v = none from c1)
  exact ⟨h', lg', nc', ns', rfl, c2, zLE_tr n4 c3, c4, c5, c6⟩
def ct_150 : zCt := (150, [(.inr (.inr (.inl (44, 44)))), zIA], some zIA, 16, 80, 4000)
theorem l_150 {T : Int32} (hT : T.toInt ≤ 100) : ∀ (n : Nat) (i t : Int32) (g : zG) (lg : Nat) (h : zH) (nc ns : Nat), zHI g lg h → g.f 4 = .int t → 0 ≤ t.toInt → 0 ≤ i.toInt → i.toInt ≤ T.toInt → t.toInt + (T.toInt - i.toInt) ≤ 2000 → (T.toInt - i.toInt).toNat < n → zEs xs 16 150 41 [some (.ref 44), some (.int T), some (.int i)] [] h nc ns (fun o => ∃ v g' lg' h' nc' ns', o = (.inl (some (.int v)), h', nc', ns') ∧ zHI g' lg' h' ∧ zLE h h' ∧ g'.s = g.s ∧ g'.a = g.a ∧ zfw g' = zfw g ∧ lg ≤ lg' ∧ nc' + 2 * lg ≤ nc + 2 * lg' ∧ ns' + 100 * lg ≤ ns + 100 * lg')
  | 0, _, _, _, _, _, _, _, _, _, _, _, _, _, hn => absurd hn (Nat.not_lt_zero _)
  | n + 1, i, t, g, lg, h, nc, ns, hI, ht, t0, i0, i1, a1, hn => by
    refine zEs_run 2 rfl ?_
    refine zEs_icmp rfl (fun _ => ?_) (fun gg => ?_)
    · obtain ⟨vs, m1, m2, m3, m4⟩ := hI.obj
      obtain ⟨x, v4, -, -⟩ := zf_int m3 (k := 4) (by decide) rfl
      refine zEs_run 1 rfl ?_
      refine zEs_get rfl m1 rfl v4 ?_
      exact zEs_end rfl rfl ⟨x, g, lg, h, nc, ns, rfl, hI, zLE_rf, rfl, rfl, rfl, Nat.le_refl _, Nat.le_refl _, Nat.le_refl _⟩
    · have z := zF_ge_f gg
      obtain ⟨ws, hw⟩ := zth hI
      refine zEs_run 1 rfl ?_
      refine zEs_callG rfl (show zcallV 0 7 137 50 [.ref 44] h = _ from zcallV_eq rfl hw (by decide)) (m_137 hI ht t0 (by omega)) (fun v h9 nc9 ns9 q => ?_) (fun E h9 nc9 ns9 q => by obtain ⟨_, _, _, _, q, _⟩ := q; cases q)
      obtain ⟨h', lg', nc', ns', q, b1, b9, b2, b3, b4⟩ := q
      cases q
      refine zEs_run 2 rfl ?_
      have hi := zinc_le (x := i) (n := 1) (by omega) (by decide) (by decide)
      have e := zinc_le (x := t) (n := 1) (by omega) (by decide) (by decide)
      have e : (t + 1).toInt = t.toInt + 1 := e
      refine zEs_post (l_150 hT n _ (t + 1) (zsf g 4 (.int (t + 1))) lg' h9 _ _ b1 rfl (by omega) (by omega) (by omega) (by omega) (by omega)) (fun o ho => ?_)
      obtain ⟨v, g', lg2, h2, nc2, ns2, rfl, c1, c9, c2, c3, c4, c5, c6, c7⟩ := ho
      exact ⟨v, g', lg2, h2, nc2, ns2, rfl, c1, zLE_tr b9 c9, c2, c3, c4, by omega, by omega, by omega⟩
theorem q_150 : zGq xs ct_150 := by
  intro g lg h nc ns as hI hS
  obtain ⟨v, w1, rfl, k, k1⟩ := zin2 hS
  obtain rfl := zP_eq k
  obtain ⟨x1, rfl, -⟩ := zI_eq k1
  have hz := hI.sizes
  refine ⟨_, rfl, zregR (cert := ce_pas) (cs := cs_pas) (rt := some zIA) 0 21 gs_pas rfl rfl (by decide +kernel) hI (zgl_in (n := 1) hS) trivial (fun v h' lg' nc' ns' b1 b2 b3 b4 b5 b6 => ?_) (fun L st lg1 h1 nc1 ns1 b1 b2 b3 b4 b5 b6 b7 => ?_)⟩
  · have hz2 := b2.sizes
    have b5 : nc' + 2 * lg ≤ nc + 2 * lg' + 0 := b5
    have b6 : ns' + 100 * lg ≤ ns + 100 * lg' + 0 := b6
    exact ⟨v, g, lg', h', nc', ns', rfl, b1, b2, b3, rfl, rfl, rfl, show nc' ≤ nc + 80 by omega, show ns' ≤ ns + 4000 by omega⟩
  · have hz2 := b1.sizes
    have b6 : nc1 + 2 * lg + 0 ≤ nc + 2 * lg1 + 0 := b6
    have b7 : ns1 + 100 * lg + 0 ≤ ns + 100 * lg1 + 0 := b7
    obtain rfl := zgs_0 b3
    obtain ⟨L1, rfl, y1⟩ := zgl_P b2
    obtain ⟨T, L2, rfl, T0, T1, y2⟩ := zgl_I y1
    obtain ⟨o3, L3, rfl, y3⟩ := zgl_N y2
    obtain rfl := zgl_0 y3
    obtain ⟨vs, m1, m2, m3, m4⟩ := b1.obj
    obtain ⟨t, v4, t0, t1⟩ := zf_int m3 (k := 4) (by decide) rfl
    have ht : g.f 4 = .int t := Option.some.inj ((m4 4 (by decide)).symm.trans v4)
    refine zEs_run 1 rfl ?_
    refine zEs_get rfl m1 rfl v4 ?_
    refine zEs_run 3 rfl ?_
    have e := Int32.toInt_add t T
    rw [zbm (by omega) (by omega)] at e
    refine zEs_icmp rfl (fun gg => ?_) (fun _ => ?_)
    · have z := zF_le_t gg
      rw [show ((Int16.ofInt 2000).toInt32).toInt = 2000 from by decide] at z
      have z : t.toInt + T.toInt ≤ 2000 := by
        rw [← e]
        exact z
      refine zEs_run 2 rfl ?_
      have z0 : (Int32.ofInt 0).toInt = 0 := by decide
      refine zEs_post (l_150 T1 _ _ t g lg1 h1 _ _ b1 ht t0 (by omega) (by omega) (by omega) (Nat.lt_succ_self _)) (fun o ho => ?_)
      obtain ⟨v, g', lg2, h2, nc2, ns2, rfl, c1, c9, c2, c3, c4, c5, c6, c7⟩ := ho
      have hz3 := c1.sizes
      exact ⟨_, g', lg2, h2, nc2, ns2, rfl, ⟨_, rfl, zIA_ok v⟩, c1, zLE_tr b4 c9, c2, c3, c4, show nc2 ≤ nc + 80 by omega, show ns2 ≤ ns + 4000 by omega⟩
    · obtain ⟨ws, hw⟩ := zth b1
      refine zEs_run 2 rfl ?_
      refine zEs_ctr g_111 rfl (show zcallV 1 7 111 38 [.int (Int32.ofInt 2), .ref 44] h1 = _ from zcallV_eq rfl hw (by decide)) (by decide) b1 ⟨zP_in, zIA_ok _, trivial⟩ (fun v h2 lg2 nc2 ns2 q I2 le2 l2 c2 s2 => ?_)
      obtain ⟨u, rfl, q⟩ := q
      obtain ⟨x, rfl, -⟩ := zI_eq q
      have hz3 := I2.sizes
      have d1 : ct_111.dc = 0 := rfl
      have d2 : ct_111.ds = 0 := rfl
      exact zEs_end rfl rfl ⟨_, g, lg2, h2, _, _, rfl, ⟨_, rfl, zIA_ok x⟩, I2, zLE_tr b4 le2, rfl, rfl, rfl, show _ ≤ nc + 80 by omega, show _ ≤ ns + 4000 by omega⟩
end ZHG
