/-! The reference's methods, by hand: small ones, the lists. -/
def ct_114 : zCt := (114, [zIA], some zIA, 1, 0, 0)
def ct_117 : zCt := (117, [(.inr (.inr (.inl (44, 44))))], some ((.inl (8, 16, 8, 0))), 1, 0, 0)
def ct_243a : zCt := (243, [(.inr (.inr (.inr 8)))], some ((.inl (0, 24, 2, 0))), 1, 0, 0)
def ct_243b : zCt := (243, [(.inr (.inr (.inr 9)))], some ((.inl (0, 24, 4, 0))), 1, 0, 0)
def ct_243c : zCt := (243, [(.inr (.inr (.inr 10)))], some ((.inl (0, 40, 6, 0))), 1, 0, 0)
def ct_239a : zCt := (239, [(.inr (.inr (.inr 8))), (.inl (0, 2147483647, 1, 0))], some (.inr (.inr (.inr 6))), 3, 0, 0)
def ct_239b : zCt := (239, [(.inr (.inr (.inr 9))), (.inl (0, 2147483647, 3, 0))], some (.inr (.inr (.inr 6))), 3, 0, 0)
def ct_239c : zCt := (239, [(.inr (.inr (.inr 10))), (.inl (0, 2147483647, 5, 0))], some (.inr (.inr (.inr 7))), 3, 0, 0)
def ct_128 : zCt := (128, [(.inr (.inr (.inl (44, 44))))], some ((.inl (0, 250, 0, 0))), 1, 0, 0)
def ct_138 : zCt := (138, [zIA], some ((.inr (.inl (0, 0, 127, 0)))), 1, 0, 0)
def ce_draw : List zCe := [(0, [(.inl 15)], (0, 0), [(.inr (.inr (.inl (44, 44))))], []),
  (1, [(.inl 14)], (0, 0), [(.inr (.inr (.inl (44, 44))))], [(.inr (.inr (.inl (44, 44))))]),
  (2, [(.inl 13)], (0, 0), [(.inr (.inr (.inl (44, 44))))], [(.inr (.inr (.inl (44, 44)))), (.inr (.inr (.inl (44, 44))))]),
  (5, [(.inl 12)], (0, 0), [(.inr (.inr (.inl (44, 44))))], [(.inl ((-1), 250, 0, 0)), (.inr (.inr (.inl (44, 44))))]),
  (6, [(.inl 11)], (0, 0), [(.inr (.inr (.inl (44, 44))))], [(.inl ((-1), (-1), 0, 0)), (.inl ((-1), 250, 0, 0)), (.inr (.inr (.inl (44, 44))))]),
  (9, [(.inl 10)], (0, 0), [(.inr (.inr (.inl (44, 44))))], [(.inr (.inr (.inl (44, 44))))]),
  (10, [(.inl 9)], (0, 0), [(.inr (.inr (.inl (44, 44))))], [(.inl (5, 5, 0, 0)), (.inr (.inr (.inl (44, 44))))]),
  (13, [(.inl 8)], (0, 0), [(.inr (.inr (.inl (44, 44))))], [(.inr (.inr (.inl (44, 44))))]),
  (15, [(.inl 7)], (0, 0), [(.inr (.inr (.inl (44, 44))))], [(.inl (17, 17, 0, 0)), (.inr (.inr (.inl (44, 44))))]),
  (16, [(.inl 6)], (0, 0), [(.inr (.inr (.inl (44, 44))))], [(.inr (.inr (.inl (44, 44)))), (.inl (17, 17, 0, 0)), (.inr (.inr (.inl (44, 44))))]),
  (19, [(.inl 5)], (0, 0), [(.inr (.inr (.inl (44, 44))))], [(.inl ((-1), 250, 0, 0)), (.inl (17, 17, 0, 0)), (.inr (.inr (.inl (44, 44))))]),
  (20, [(.inl 4)], (0, 0), [(.inr (.inr (.inl (44, 44))))], [(.inl ((-17), 4250, 0, 0)), (.inr (.inr (.inl (44, 44))))]),
  (22, [(.inl 3)], (0, 0), [(.inr (.inr (.inl (44, 44))))], [(.inl (43, 43, 0, 0)), (.inl ((-17), 4250, 0, 0)), (.inr (.inr (.inl (44, 44))))]),
  (23, [(.inl 2)], (0, 0), [(.inr (.inr (.inl (44, 44))))], [(.inl (26, 4293, 0, 0)), (.inr (.inr (.inl (44, 44))))]),
  (26, [(.inl 1)], (0, 0), [(.inr (.inr (.inl (44, 44))))], [(.inl (251, 251, 0, 0)), (.inl (26, 4293, 0, 0)), (.inr (.inr (.inl (44, 44))))]),
  (27, [(.inl 0)], (0, 0), [(.inr (.inr (.inl (44, 44))))], [(.inl (0, 250, 0, 0)), (.inr (.inr (.inl (44, 44))))])]
def cs_draw : List zCt := []
theorem gs_draw {xs : List Int32} : ∀ ct ∈ cs_draw, zGd xs ct := fun _ h => absurd h List.not_mem_nil
section ZHA
variable {xs : List Int32} {g : zG} {lg : Nat} {h : zH} {D nc ns : Nat} {as : List Value} {y : Nat}
/-- a method that changes nothing -/
theorem zPm_pure {rt : zTy} {w : Value} (hI : zHI g lg h) (hw : zga g lg h (as.map some) rt w) : zPm g lg h nc ns (some rt) 0 0 as (.inl (some w), h, nc, ns) := ⟨_, h, lg, nc, ns, rfl, ⟨w, rfl, hw⟩, hI, zLE_rf, Nat.le_refl _, Nat.le_refl _, Nat.le_refl _⟩
theorem zin1 {t : zTy} (hS : zgs g lg h [] [t] as) : ∃ v, as = [v] ∧ zga g lg h [] t v := by
  match as, hS with
  | [v], hS => exact ⟨v, rfl, hS.1⟩
  | [], hS => exact hS.elim
  | _ :: _ :: _, hS => exact hS.2.elim
theorem zin2 {t u : zTy} (hS : zgs g lg h [] [t, u] as) : ∃ v w, as = [v, w] ∧ zga g lg h [] t v ∧ zga g lg h [] u w := by
  match as, hS with
  | [v, w], hS => exact ⟨v, w, rfl, hS.1, hS.2.1⟩
  | [], hS => exact hS.elim
  | [_], hS => exact hS.2.elim
  | _ :: _ :: _ :: _, hS => exact hS.2.2.elim
theorem zin3 {t u r : zTy} (hS : zgs g lg h [] [t, u, r] as) : ∃ v w x, as = [v, w, x] ∧ zga g lg h [] t v ∧ zga g lg h [] u w ∧ zga g lg h [] r x := by
  match as, hS with
  | [v, w, x], hS => exact ⟨v, w, x, rfl, hS.1, hS.2.1, hS.2.2.1⟩
  | [], hS => exact hS.elim
  | [_], hS => exact hS.2.elim
  | [_, _], hS => exact hS.2.2.elim
  | _ :: _ :: _ :: _ :: _, hS => exact hS.2.2.2.elim
theorem zin4 {t u r q : zTy} (hS : zgs g lg h [] [t, u, r, q] as) : ∃ v w x z, as = [v, w, x, z] ∧ zga g lg h [] t v ∧ zga g lg h [] u w ∧ zga g lg h [] r x ∧ zga g lg h [] q z := by
  match as, hS with
  | [v, w, x, z], hS => exact ⟨v, w, x, z, rfl, hS.1, hS.2.1, hS.2.2.1, hS.2.2.2.1⟩
  | [], hS => exact hS.elim
  | [_], hS => exact hS.2.elim
  | [_, _], hS => exact hS.2.2.elim
  | [_, _, _], hS => exact hS.2.2.2.elim
  | _ :: _ :: _ :: _ :: _ :: _, hS => exact hS.2.2.2.2.elim
theorem zP_eq {L : zL} {v : Value} {q : Nat} (k : zga g lg h L ((.inr (.inr (.inl (q, q))))) v) : v = .ref q := by
  obtain ⟨a, rfl, k1, k2⟩ := k
  rw [Nat.le_antisymm k2 k1]
theorem zI_eq {L : zL} {v : Value} {a b : Int} {t s : Nat} (k : zga g lg h L ((.inl (a, b, t, s))) v) : ∃ x : Int32, v = .int x ∧ a ≤ x.toInt ∧ x.toInt ≤ b ∧ zta g lg t x.toInt := by
  obtain ⟨x, k1, k2, k3, k4, -⟩ := k
  exact ⟨x, k1, k2, k3, k4⟩
theorem zf_int {vs : List Value} {k : Nat} {a b : Int} (m3 : ∀ k, k < 26 → ∃ v, vs[k]? = some v ∧ zga g lg h [] (zfs k) v) (hk : k < 26) (e : zfs k = (.inl (a, b, 0, 0))) : ∃ x : Int32, vs[k]? = some (.int x) ∧ a ≤ x.toInt ∧ x.toInt ≤ b := by
  obtain ⟨v, k1, k2⟩ := m3 k hk
  rw [e] at k2
  obtain ⟨x, rfl, k3, k4, -⟩ := k2
  exact ⟨x, k1, k3, k4⟩
theorem l_114 : ∀ (n : Nat) (w m x : Int32), x.toInt.toNat < n → zEs xs D 114 4 [some (.int w), some (.int m), some (.int x)] [] h nc ns (fun o => ∃ v : Int32, o = (.inl (some (.int v)), h, nc, ns))
  | 0, _, _, _, hn => absurd hn (Nat.not_lt_zero _)
  | n + 1, w, m, x, hn => by
    refine zEs_run 1 rfl ?_
    refine zEs_if rfl (fun _ => ?_) (fun g => ?_)
    · refine zEs_run 1 rfl ?_
      exact zEs_end rfl rfl ⟨_, rfl⟩
    · have z := zF_le_f g
      rw [zero_z] at z
      refine zEs_run 3 rfl ?_
      refine zEs_irem rfl (by decide) ?_
      refine zEs_run 7 rfl ?_
      refine l_114 n _ _ _ ?_
      have e2 := Int32.toInt_div_of_ne_right x (Int32.ofInt 2) (by decide)
      rw [show (Int32.ofInt 2).toInt = 2 from by decide, Int.tdiv_eq_ediv_of_nonneg (by omega)] at e2
      show (x / Int32.ofInt 2).toInt.toNat < n
      omega
theorem g_114 : zGd xs ct_114 := by
  intro g lg h nc ns as hI hS
  obtain ⟨v, rfl, k⟩ := zin1 hS
  obtain ⟨x, rfl, -⟩ := zI_eq k
  refine ⟨_, rfl, zEs_run 4 rfl ?_⟩
  refine zEs_post (l_114 _ _ _ _ (Nat.lt_succ_self _)) (fun o ho => ?_)
  obtain ⟨v, rfl⟩ := ho
  exact zPm_pure hI (zIA_ok v)
theorem g_117 : zGd xs ct_117 := by
  intro g lg h nc ns as hI hS
  obtain ⟨v, rfl, k⟩ := zin1 hS
  obtain rfl := zP_eq k
  obtain ⟨vs, m1, m2, m3, m4⟩ := hI.obj
  obtain ⟨x, y, b1, b2, b3⟩ := hI.bits
  have v1 := m4 1 (by decide)
  have v2 := m4 2 (by decide)
  rw [b1] at v1
  rw [b2] at v2
  have hz := hI.sizes
  refine ⟨_, rfl, zEs_run 1 rfl ?_⟩
  refine zEs_get rfl m1 rfl v1 ?_
  refine zEs_run 1 rfl ?_
  refine zEs_get rfl m1 rfl v2 ?_
  refine zEs_run 1 rfl ?_
  have e := Int32.toInt_add x y
  rw [zbm (by omega) (by omega)] at e
  exact zEs_end rfl rfl (zPm_pure hI ⟨x + y, rfl, by omega, by omega, show _ ≤ (g.zn : Int) by omega, Or.inl rfl⟩)
theorem zls_of {j : Nat} (hI : zHI g lg h) (hj : j < g.nl) : ∃ dq, zLi h (g.p j) (zsz g lg j) (zQj j) dq := by
  obtain ⟨E, k⟩ := hI.lists
  exact ⟨_, (k j hj).2.1⟩
theorem zsize {j : Nat} (hI : zHI g lg h) (hj : j < g.nl) (hn : zsz g lg j ≤ 1000) : zMs xs (D + 0) 243 [.ref (g.p j)] h nc ns (fun o => ∃ x : Int32, x.toInt = (zsz g lg j : Nat) ∧ o = (.inl (some (.int x)), h, nc, ns)) := by
  obtain ⟨dq, es, k1, k2, -⟩ := zls_of hI hj
  refine zMs_post (fun o ho => ?_) (m_243 k1)
  rw [k2] at ho
  exact ⟨_, zof_z (by omega), ho⟩
theorem zgetl {j : Nat} {x : Int32} (hI : zHI g lg h) (hj : j < g.nl) (h0 : 0 ≤ x.toInt) (h1 : x.toInt < (zsz g lg j : Nat)) : zMs xs (D + 2) 239 [.ref (g.p j), .int x] h nc ns (fun o => ∃ e l, 73 ≤ e ∧ h[e]? = some (zar l) ∧ zQj j l ∧ o = (.inl (some (.ref e)), h, nc, ns)) := by
  obtain ⟨dq, es, k1, k2, k3⟩ := zls_of hI hj
  refine zMs_post (fun o ho => ?_) (m_239 k1 h0 (by rw [k2]; exact h1))
  obtain ⟨e, he, ho⟩ := ho
  obtain ⟨p1, l, p2, p3⟩ := k3 e he
  exact ⟨e, l, p1, p2, p3, ho⟩
theorem g_243a : zGd xs ct_243a := by
  intro g lg h nc ns as hI hS
  obtain ⟨v, rfl, k⟩ := zin1 hS
  obtain rfl := (show v = _ from k)
  have hz := hI.sizes
  refine zMs_mono (Nat.zero_le _) (zMs_post (fun o ho => ?_) (zsize (D := 0) (j := 0) hI (by omega) (show g.zs ≤ 1000 by omega)))
  obtain ⟨x, hx, rfl⟩ := ho
  have hx : x.toInt = (g.zs : Nat) := hx
  exact zPm_pure hI ⟨x, rfl, by omega, by omega, show _ ≤ (g.zs : Int) by omega, Or.inl rfl⟩
theorem g_243b : zGd xs ct_243b := by
  intro g lg h nc ns as hI hS
  obtain ⟨v, rfl, k⟩ := zin1 hS
  obtain rfl := (show v = _ from k)
  have hz := hI.sizes
  refine zMs_mono (Nat.zero_le _) (zMs_post (fun o ho => ?_) (zsize (D := 0) (j := 1) hI (by omega) (show g.zw ≤ 1000 by omega)))
  obtain ⟨x, hx, rfl⟩ := ho
  have hx : x.toInt = (g.zw : Nat) := hx
  exact zPm_pure hI ⟨x, rfl, by omega, by omega, show _ ≤ (g.zw : Int) by omega, Or.inl rfl⟩
theorem g_243c : zGd xs ct_243c := by
  intro g lg h nc ns as hI hS
  obtain ⟨v, rfl, k⟩ := zin1 hS
  obtain rfl := (show v = _ from k)
  have hz := hI.sizes
  refine zMs_mono (Nat.zero_le _) (zMs_post (fun o ho => ?_) (zsize (D := 0) (j := 2) hI (by omega) (show lg ≤ 1000 by omega)))
  obtain ⟨x, hx, rfl⟩ := ho
  have hx : x.toInt = (lg : Nat) := hx
  exact zPm_pure hI ⟨x, rfl, by omega, by omega, show _ ≤ (lg : Int) by omega, Or.inl rfl⟩
theorem g_239a : zGd xs ct_239a := by
  intro g lg h nc ns as hI hS
  obtain ⟨v, w, rfl, k, k2⟩ := zin2 hS
  obtain rfl := (show v = _ from k)
  obtain ⟨x, rfl, x1, x2, x3⟩ := zI_eq k2
  refine zMs_mono (Nat.le_succ _) (zMs_post (fun o ho => ?_) (zgetl (D := 0) (j := 0) hI (by have := hI.sizes; omega) x1 x3))
  obtain ⟨e, l, p1, p2, p3, rfl⟩ := ho
  exact zPm_pure hI ⟨e, l, rfl, p1, p2, p3⟩
theorem g_239b : zGd xs ct_239b := by
  intro g lg h nc ns as hI hS
  obtain ⟨v, w, rfl, k, k2⟩ := zin2 hS
  obtain rfl := (show v = _ from k)
  obtain ⟨x, rfl, x1, x2, x3⟩ := zI_eq k2
  refine zMs_mono (Nat.le_succ _) (zMs_post (fun o ho => ?_) (zgetl (D := 0) (j := 1) hI (by have := hI.sizes; omega) x1 x3))
  obtain ⟨e, l, p1, p2, p3, rfl⟩ := ho
  exact zPm_pure hI ⟨e, l, rfl, p1, p2, p3⟩
theorem g_239c : zGd xs ct_239c := by
  intro g lg h nc ns as hI hS
  obtain ⟨v, w, rfl, k, k2⟩ := zin2 hS
  obtain rfl := (show v = _ from k)
  obtain ⟨x, rfl, x1, x2, x3⟩ := zI_eq k2
  refine zMs_mono (Nat.le_succ _) (zMs_post (fun o ho => ?_) (zgetl (D := 0) (j := 2) hI (by have := hI.sizes; omega) x1 x3))
  obtain ⟨e, l, p1, p2, p3, rfl⟩ := ho
  exact zPm_pure hI ⟨e, l, rfl, p1, p2, p3⟩
theorem g_138 : zGd xs ct_138 := by
  intro g lg h nc ns as hI hS
  obtain ⟨v, rfl, k⟩ := zin1 hS
  obtain ⟨x, rfl, -⟩ := zI_eq k
  refine ⟨_, rfl, zEs_run 3 rfl ?_⟩
  refine zEs_callG rfl rfl (m_112 (D := 0)) (fun v h9 nc1 ns1 q => ?_) (fun E h9 nc1 ns1 q => by obtain ⟨_, _, _, _, q⟩ := q; cases q)
  obtain ⟨w, w1, w2, -, q⟩ := q
  cases q
  refine zEs_bret rfl w1 (zPm_pure hI ⟨w, rfl, w1, fun z => ⟨x, rfl, ?_, ?_, trivial⟩⟩)
  · exact (w2 z).1
  · exact (w2 z).2
theorem g_128 : zGd xs ct_128 := by
  intro g lg h nc ns as hI hS
  obtain ⟨v, rfl, k⟩ := zin1 hS
  obtain rfl := zP_eq k
  have J : ∀ {lg' : Nat} {h' : zH} {nc' ns' : Nat} (z : Int32), 0 ≤ z.toInt → z.toInt ≤ 250 → zHI g lg' h' → zLE h h' → lg ≤ lg' → nc' + 2 * lg + 0 ≤ nc + 2 * lg' + 0 → ns' + 100 * lg + 0 ≤ ns + 100 * lg' + 0 → zEs xs 1 128 27 [some (.ref 44)] [.int z, .ref 44] h' nc' ns' (zPm g lg h nc ns (some ((.inl (0, 250, 0, 0)))) 0 0 [.ref 44]) := by
    intro lg' h' nc' ns' z z1 z2 hI' b4 b5 b6 b7
    obtain ⟨vs, m1, m2, m3, m4⟩ := hI'.obj
    refine zEs_put rfl m1 rfl rfl (by omega) ?_
    obtain ⟨n1, n2⟩ := zHI_fld (k := 11) (v := .int z) hI' m1 (by decide) ⟨z, rfl, by omega, by omega, trivial, Or.inl rfl⟩ (by decide)
    have hl := (List.getElem?_eq_some_iff.mp m1).1
    have c1 : (h'.set 44 (7, vs.set 11 (.int z)))[44]? = some (7, vs.set 11 (.int z)) := List.getElem?_set_self hl
    obtain ⟨vs1, m1', m2', m3', -⟩ := n1.obj
    rw [c1] at m1'
    cases m1'
    obtain ⟨u, u1, -⟩ := zf_int m3' (k := 12) (by decide) rfl
    refine zEs_run 2 rfl ?_
    refine zEs_get rfl c1 rfl u1 ?_
    refine zEs_run 2 rfl ?_
    refine zEs_put rfl c1 rfl rfl (by omega) ?_
    obtain ⟨n3, n4⟩ := zHI_fld (k := 12) (v := .int (u + Int32.ofInt 1)) n1 c1 (by decide) (zIA_ok _) (by decide)
    have c2 : ((h'.set 44 (7, vs.set 11 (.int z))).set 44 (7, (vs.set 11 (.int z)).set 12 (.int (u + Int32.ofInt 1))))[44]? = some (7, (vs.set 11 (.int z)).set 12 (.int (u + Int32.ofInt 1))) := List.getElem?_set_self (by simpa using hl)
    refine zEs_run 1 rfl ?_
    refine zEs_get rfl c2 rfl (show ((vs.set 11 (.int z)).set 12 (.int (u + Int32.ofInt 1)))[11]? = some (.int z) from by rw [List.getElem?_set_ne (by decide), List.getElem?_set_self (by omega)]) ?_
    exact zEs_end rfl rfl ⟨_, _, lg', nc', ns', rfl, ⟨_, rfl, z, rfl, z1, z2, trivial, Or.inl rfl⟩, n3, zLE_tr b4 (zLE_tr n2 n4), b5, b6, b7⟩
  refine ⟨_, rfl, zreg (cert := ce_draw) (cs := cs_draw) 0 27 gs_draw rfl rfl (by decide +kernel) hI (⟨Or.inr ⟨_, rfl, k⟩, trivial⟩) trivial (fun L st lg' h' nc' ns' b1 b2 b3 b4 b5 b6 b7 => ?_)⟩
  match L, st, b2, b3 with
  | [o], [v1, v2], b2, b3 =>
    obtain ⟨z, rfl, z1, z2, -⟩ := b3.1
    obtain rfl := zP_eq b3.2.1
    rcases b2.1 with c2 | ⟨w, rfl, c2⟩
    · cases c2
    · obtain rfl := zP_eq c2
      exact J z z1 z2 b1 b4 b5 b6 b7
  | [], _, b2, _ => exact b2.elim
  | _ :: _ :: _, _, b2, _ => exact b2.2.elim
  | [_], [], _, b3 => exact b3.elim
  | [_], [_], _, b3 => exact b3.2.elim
  | [_], _ :: _ :: _ :: _, _, b3 => exact b3.2.2.elim
end ZHA
