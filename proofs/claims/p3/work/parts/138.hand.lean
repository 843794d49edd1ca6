/-! The reference's methods, by hand: rules; note, open-up of a line. -/
def ce_note : List zCe := [(0, [(.inl 22)], (0, 0), [(.inr (.inr (.inl (44, 44)))), zIA, zIA], []),
  (1, [(.inl 21)], (0, 0), [(.inr (.inr (.inl (44, 44)))), zIA, zIA], [(.inr (.inr (.inl (44, 44))))]),
  (2, [(.inl 20)], (0, 0), [(.inr (.inr (.inl (44, 44)))), zIA, zIA], [(.inr (.inr (.inl (44, 44)))), (.inr (.inr (.inl (44, 44))))]),
  (5, [(.inl 19)], (0, 0), [(.inr (.inr (.inl (44, 44)))), zIA, zIA], [zIA, (.inr (.inr (.inl (44, 44))))]),
  (6, [(.inl 18)], (0, 0), [(.inr (.inr (.inl (44, 44)))), zIA, zIA], [(.inl ((-2147483648), 2147483647, 0, 3)), zIA, (.inr (.inr (.inl (44, 44))))]),
  (7, [(.inl 17)], (0, 0), [(.inr (.inr (.inl (44, 44)))), zIA, zIA], [(.inl ((-1), (-1), 0, 0)), (.inl ((-2147483648), 2147483647, 0, 3)), zIA, (.inr (.inr (.inl (44, 44))))]),
  (10, [(.inl 16)], (0, 0), [(.inr (.inr (.inl (44, 44)))), zIA, (.inl ((-1), (-1), 0, 0))], [zIA, (.inr (.inr (.inl (44, 44))))]),
  (11, [(.inl 15)], (0, 0), [(.inr (.inr (.inl (44, 44)))), zIA, (.inl ((-1), (-1), 0, 0))], [(.inl (0, 0, 0, 0)), zIA, (.inr (.inr (.inl (44, 44))))]),
  (14, [(.inl 14)], (0, 0), [(.inr (.inr (.inl (44, 44)))), zIA, zIA], [zIA, (.inr (.inr (.inl (44, 44))))]),
  (15, [(.inl 13)], (0, 0), [(.inr (.inr (.inl (44, 44)))), zIA, zIA], [(.inl (0, 1, 0, 0)), zIA, (.inr (.inr (.inl (44, 44))))]),
  (16, [(.inl 12)], (0, 0), [(.inr (.inr (.inl (44, 44)))), zIA, zIA], [zIA, (.inr (.inr (.inl (44, 44))))]),
  (19, [(.inl 11)], (0, 0), [(.inr (.inr (.inl (44, 44)))), zIA, zIA], []),
  (20, [(.inl 10)], (0, 0), [(.inr (.inr (.inl (44, 44)))), zIA, zIA], [(.inr (.inr (.inl (44, 44))))]),
  (21, [(.inl 9)], (0, 0), [(.inr (.inr (.inl (44, 44)))), zIA, zIA], [(.inr (.inr (.inl (44, 44)))), (.inr (.inr (.inl (44, 44))))]),
  (24, [(.inl 8)], (0, 0), [(.inr (.inr (.inl (44, 44)))), zIA, zIA], [zIA, (.inr (.inr (.inl (44, 44))))]),
  (25, [(.inl 7)], (0, 0), [(.inr (.inr (.inl (44, 44)))), zIA, zIA], [(.inl ((-2147483648), 2147483647, 0, 3)), zIA, (.inr (.inr (.inl (44, 44))))]),
  (26, [(.inl 6)], (0, 0), [(.inr (.inr (.inl (44, 44)))), zIA, zIA], [(.inl ((-1), (-1), 0, 0)), (.inl ((-2147483648), 2147483647, 0, 3)), zIA, (.inr (.inr (.inl (44, 44))))]),
  (29, [(.inl 5)], (0, 0), [(.inr (.inr (.inl (44, 44)))), zIA, (.inl ((-1), (-1), 0, 0))], [zIA, (.inr (.inr (.inl (44, 44))))]),
  (30, [(.inl 4)], (0, 0), [(.inr (.inr (.inl (44, 44)))), zIA, (.inl ((-1), (-1), 0, 0))], [(.inl (1, 1, 0, 0)), zIA, (.inr (.inr (.inl (44, 44))))]),
  (33, [(.inl 3)], (0, 0), [(.inr (.inr (.inl (44, 44)))), zIA, zIA], [zIA, (.inr (.inr (.inl (44, 44))))]),
  (34, [(.inl 2)], (0, 0), [(.inr (.inr (.inl (44, 44)))), zIA, zIA], [(.inl (0, 1, 0, 0)), zIA, (.inr (.inr (.inl (44, 44))))]),
  (35, [(.inl 1)], (0, 0), [(.inr (.inr (.inl (44, 44)))), zIA, zIA], [zIA, (.inr (.inr (.inl (44, 44))))]),
  (38, [(.inl 0)], (0, 0), [(.inr (.inr (.inl (44, 44)))), zIA, zIA], [])]
def cs_note : List zCt := []
theorem gs_note {xs : List Int32} : ∀ ct ∈ cs_note, zGd xs ct := fun _ h => absurd h List.not_mem_nil
def ct_130 : zCt := (130, [(.inr (.inr (.inl (44, 44)))), zIA, zIA], none, 10, 0, 0)
section ZHB
variable {xs : List Int32} {g : zG} {lg : Nat} {h : zH} {D nc ns y pc nx k yy m c nx' : Nat} {A S : List zTy} {L : zL} {st as r : List Value} {P : zO → Prop} {i : Instr} {t : zTy} {a b : Int} {tt s q j : Nat}
theorem zgl_P (k : zgl g lg h ((.inr (.inr (.inl (q, q)))) :: A) L) : ∃ L', L = some (.ref q) :: L' ∧ zgl g lg h A L' := by
  match L, k with
  | o :: L', k =>
    rcases k.1 with e | ⟨v, rfl, e⟩
    · cases e
    · obtain rfl := zP_eq e
      exact ⟨L', rfl, k.2⟩
  | [], k => exact k.elim
theorem zgl_I (k : zgl g lg h ((.inl (a, b, tt, s)) :: A) L) : ∃ (x : Int32) (L' : zL), L = some (.int x) :: L' ∧ a ≤ x.toInt ∧ x.toInt ≤ b ∧ zgl g lg h A L' := by
  match L, k with
  | o :: L', k =>
    rcases k.1 with e | ⟨v, rfl, e⟩
    · cases e
    · obtain ⟨x, rfl, e1, e2, -⟩ := e
      exact ⟨x, L', rfl, e1, e2, k.2⟩
  | [], k => exact k.elim
theorem zgl_N (k : zgl g lg h ((.inr (.inr (.inr 0))) :: A) L) : ∃ (o : Option Value) (L' : zL), L = o :: L' ∧ zgl g lg h A L' := by
  match L, k with
  | o :: L', k => exact ⟨o, L', rfl, k.2⟩
  | [], k => exact k.elim
theorem zgl_0 (k : zgl g lg h [] L) : L = [] := by
  match L, k with
  | o :: L', k => exact k.elim
  | [], k => rfl
theorem zgs_P (k : zgs g lg h L ((.inr (.inr (.inl (q, q)))) :: S) st) : ∃ st', st = .ref q :: st' ∧ zgs g lg h L S st' := by
  match st, k with
  | v :: s, k =>
    obtain rfl := zP_eq k.1
    exact ⟨s, rfl, k.2⟩
  | [], k => exact k.elim
theorem zgs_I (k : zgs g lg h L ((.inl (a, b, tt, s)) :: S) st) : ∃ (x : Int32) (st' : List Value), st = .int x :: st' ∧ a ≤ x.toInt ∧ x.toInt ≤ b ∧ zgs g lg h L S st' := by
  match st, k with
  | v :: s, k =>
    obtain ⟨x, rfl, e1, e2, -⟩ := k.1
    exact ⟨x, s, rfl, e1, e2, k.2⟩
  | [], k => exact k.elim
theorem zgs_0 (k : zgs g lg h L [] st) : st = [] := by
  match st, k with
  | o :: L', k => exact k.elim
  | [], k => rfl
/-- a call of a method with a contract -/
theorem zEs_ctr {ct : zCt} (hct : zGd xs ct) (e1 : zat (zmc y) pc = some (i, nx, k, yy, m, c)) (e2 : zstep zcf xs pc i nx k yy m c L st h = some (.inr (.inl (ct.y, as, r, nx')))) (hd : ct.dep ≤ D) (hI : zHI g lg h) (hS : zgs g lg h [] ct.as as)
    (kv : ∀ v h' lg' nc' ns', zgo2 g lg' h' (as.map some) ct.rt v → zHI g lg' h' → zLE h h' → lg ≤ lg' → nc' + 2 * lg ≤ nc + 2 * lg' + ct.dc → ns' + 100 * lg ≤ ns + 100 * lg' + ct.ds → zEs xs (D + 1) y nx' L (v.toList ++ r) h' nc' ns' P) : zEs xs (D + 1) y pc L st h nc ns P := by
  refine zEs_callG e1 e2 (zMs_mono hd (hct g lg h nc ns as hI hS)) (fun v h1 nc1 ns1 w => ?_) (fun E h1 nc1 ns1 w => ?_)
  · obtain ⟨v', h', lg', nc', ns', e, b1, b2, b3, b4, b5, b6⟩ := w
    cases e
    exact kv _ _ _ _ _ b1 b2 b3 b4 b5 b6
  · obtain ⟨v', h', lg', nc', ns', e, -⟩ := w
    cases e
/-- a row that was made just now -/
theorem zEs_astF {l : List Int32} {v : Int32} {n : Nat} (h1 : zat (zmc y) pc = some (.iastore, nx, k, yy, m, c)) (hn : n < l.length) (hn2 : n < 1000) (g : zEs xs D y nx L r (h ++ [zar (l.set n v)]) nc ns P) : zEs xs D y pc L (.int v :: .int (Int32.ofNat n) :: .ref h.length :: r) (h ++ [zar l]) nc ns P := by
  obtain ⟨p1, p2⟩ := zof_n (n := n) (by omega)
  refine zEs_ast h1 (l := l) (by rw [List.getElem?_append_right (Nat.le_refl _), Nat.sub_self]; rfl) p1 (by rw [p2]; exact hn) ?_
  rw [p2, zset_app1]
  exact g
theorem zrow10 (hI : zHI g lg h) (hj : j < g.nl) : ∃ ws, h[g.p j]? = some (10, ws) := by
  obtain ⟨dq, es, k1, -⟩ := zls_of hI hj
  obtain ⟨a, b, z⟩ := zLs_size k1
  exact ⟨_, z⟩
theorem zfld {vs : List Value} {k : Nat} (m3 : ∀ k, k < 26 → ∃ v, vs[k]? = some v ∧ zga g lg h [] (zfs k) v) (hk : k < 26) (e : zfs k = (.inr (.inr (.inl (q, q))))) : vs[k]? = some (.ref q) := by
  obtain ⟨v, k1, k2⟩ := m3 k hk
  rw [e] at k2
  obtain rfl := zP_eq k2
  exact k1
theorem zfldL {vs : List Value} {k : Nat} (m3 : ∀ k, k < 26 → ∃ v, vs[k]? = some v ∧ zga g lg h [] (zfs k) v) (hk : k < 26) (e : zfs k = (.inr (.inr (.inr (j + 8))))) : vs[k]? = some (.ref (g.p j)) := by
  obtain ⟨v, k1, k2⟩ := m3 k hk
  rw [e] at k2
  obtain rfl := (show v = _ from k2)
  exact k1
theorem g_130 : zGd xs ct_130 := by
  intro g lg h nc ns as hI hS
  obtain ⟨v, w1, w2, rfl, k, k1, k2⟩ := zin3 hS
  obtain rfl := zP_eq k
  obtain ⟨x1, rfl, -⟩ := zI_eq k1
  obtain ⟨x2, rfl, -⟩ := zI_eq k2
  refine ⟨_, rfl, zreg (cert := ce_note) (cs := cs_note) 0 38 gs_note rfl rfl (by decide +kernel) hI (zgl_in (n := 0) hS) trivial (fun L st lg1 h1 nc1 ns1 b1 b2 b3 b4 b5 b6 b7 => ?_)⟩
  obtain rfl := zgs_0 b3
  obtain ⟨L1, rfl, y1⟩ := zgl_P b2
  obtain ⟨a, L2, rfl, -, -, y2⟩ := zgl_I y1
  obtain ⟨b, L3, rfl, -, -, y3⟩ := zgl_I y2
  obtain rfl := zgl_0 y3
  obtain ⟨vs, m1, m2, m3, m4⟩ := b1.obj
  have hz := b1.sizes
  have f25 := zfldL (j := 2) m3 (k := 25) (by decide) rfl
  obtain ⟨ws, hw⟩ := zrow10 b1 (j := 2) (by omega)
  have len := zHI_len b1
  have b6 : nc1 + 2 * lg ≤ nc + 2 * lg1 := by simpa using b6
  have b7 : ns1 + 100 * lg ≤ ns + 100 * lg1 := by simpa using b7
  refine zEs_run 1 rfl ?_
  refine zEs_get rfl m1 rfl f25 ?_
  refine zEs_callG rfl (show zcallV 0 10 243 47 [.ref (g.p 2)] h1 = _ from zcallV_eq rfl hw (by decide)) (zsize (D := 9) (j := 2) b1 (by omega) (show lg1 ≤ 1000 by omega)) (fun v h9 nc9 ns9 q => ?_) (fun E h9 nc9 ns9 q => by obtain ⟨_, _, q⟩ := q; cases q)
  obtain ⟨x, hx, q⟩ := q
  cases q
  have hx : x.toInt = (lg1 : Nat) := hx
  refine zEs_run 1 rfl ?_
  refine zEs_icmp rfl (fun _ => ?_) (fun gg => ?_)
  · exact zEs_end rfl rfl ⟨_, _, lg1, _, _, rfl, rfl, b1, b4, b5, by omega, by omega⟩
  · have z := zF_ge_f gg
    rw [hx, show ((Int8.ofInt 40).toInt32).toInt = 40 from by decide] at z
    refine zEs_run 1 rfl ?_
    refine zEs_get rfl m1 rfl f25 ?_
    refine zEs_run 5 (h' := h1 ++ [zar [0, 0, 0]]) rfl ?_
    refine zEs_astF (l := [0, 0, 0]) (n := 0) rfl (by decide) (by decide) ?_
    refine zEs_run 3 rfl ?_
    refine zEs_astF (l := [a, 0, 0]) (n := 1) rfl (by show 1 < 3; decide) (by decide) ?_
    refine zEs_run 3 rfl ?_
    obtain ⟨c1, c2⟩ := zHI_mv b1 (zapp_mv [zar [a, b, 0]])
    obtain ⟨vs2, n1, n2, n3, n4⟩ := c1.obj
    obtain ⟨u, u1, -⟩ := zf_int n3 (k := 4) (by decide) rfl
    refine zEs_get rfl n1 rfl u1 ?_
    refine zEs_astF (l := [a, b, 0]) (n := 2) rfl (by show 2 < 3; decide) (by decide) ?_
    obtain ⟨d1, d2⟩ := zHI_mv b1 (zapp_mv [zar [a, b, u]])
    obtain ⟨ws2, hw2⟩ := zrow10 d1 (j := 2) (by omega)
    refine zEs_callG rfl (show zcallV 1 10 237 79 [.ref h1.length, .ref (g.p 2)] (h1 ++ [zar [a, b, u]]) = _ from zcallV_eq rfl hw2 (by decide)) (zadd (D := 4) (g' := g) (lg' := lg1 + 1) (j := 2) d1 (by omega) len (show _ = some (zar [a, b, u]) by rw [List.getElem?_append_right (Nat.le_refl _), Nat.sub_self]; rfl) rfl rfl rfl rfl rfl rfl rfl (fun i hi ne => by
      unfold zsz
      split <;> first | rfl | exact absurd rfl ne) rfl ⟨hz.1, hz.2.1, by omega, hz.2.2.2.2.2.2⟩) (fun v h9 nc9 ns9 q => ?_) (fun E h9 nc9 ns9 q => by obtain ⟨_, _, _, q, _⟩ := q; cases q)
    obtain ⟨h', nc', ns', q, e1, e2, e3, e4, e5⟩ := q
    cases q
    refine zEs_run 1 rfl ?_
    have t3 : (Int32.ofInt 3).toNatClampNeg = 3 := by decide
    exact zEs_end rfl rfl ⟨_, _, lg1 + 1, _, _, rfl, rfl, e1, zLE_tr b4 (zLE_tr d2 e2), by omega, by omega, by omega⟩
end ZHB
