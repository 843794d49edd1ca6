/-! The reference's methods, by hand: the board, health. -/
def ct_171 : zCt := (171, [(.inr (.inr (.inl (44, 44)))), (.inl (0, 17, 0, 0))], some zIA, 8, 1, 18)
section ZHD
variable {xs : List Int32} {g : zG} {lg : Nat} {h : zH} {D nc ns y pc nx k yy m c nx' : Nat} {A S : List zTy} {L : zL} {st as r : List Value} {P : zO → Prop}
/-- a row that was made just now: its length alone -/
theorem zEs_astL {l : List Int32} {v j : Int32} {N : Nat} (h1 : zat (zmc y) pc = some (.iastore, nx, k, yy, m, c)) (hl : l.length = N) (hj : ¬ j < 0) (hn : j.toNatClampNeg < N) (g : ∀ l' : List Int32, l'.length = N → zEs xs D y nx L r (h ++ [zar l']) nc ns P) : zEs xs D y pc L (.int v :: .int j :: .ref h.length :: r) (h ++ [zar l]) nc ns P := by
  refine zEs_ast h1 (l := l) (by rw [List.getElem?_append_right (Nat.le_refl _), Nat.sub_self]; rfl) hj (by rw [hl]; exact hn) ?_
  rw [zset_app1]
  exact g _ (by rw [List.length_set]; exact hl)
theorem m_149 {q : Nat} {l : List Int32} (hq : h[q]? = some (101, l.map Value.int)) (hl : l.length = 128) : zMs xs (D + 0) 149 [.ref q] h nc ns (fun o => ∃ v : Int32, o = (.inl (some (.int v)), h, nc, ns)) := by
  have lp : ∀ (n : Nat) (i s : Int32) (o : Option Value), 0 ≤ i.toInt → (128 - i.toInt).toNat < n → zEs xs (D + 0) 149 10 [some (.ref q), some (.int s), some (.ref q), some (.int (Int32.ofNat (l.map Value.int).length)), some (.int i), o] [] h nc ns (fun o => ∃ v : Int32, o = (.inl (some (.int v)), h, nc, ns)) := by
    intro n
    induction n with
    | zero =>
      intro i s o i0 hn
      exact absurd hn (Nat.not_lt_zero _)
    | succ n ih =>
      intro i s o i0 hn
      have e : (Int32.ofNat (l.map Value.int).length).toInt = 128 := by
        rw [List.length_map, hl]
        decide
      refine zEs_run 2 rfl ?_
      refine zEs_icmp rfl (fun _ => ?_) (fun gg => ?_)
      · refine zEs_run 1 rfl ?_
        exact zEs_end rfl rfl ⟨_, rfl⟩
      · have z := zF_ge_f gg
        rw [e] at z
        refine zEs_run 2 rfl ?_
        obtain ⟨v, v1, v2⟩ := zald_eq (nx := 20) (L := [some (.ref q), some (.int s), some (.ref q), some (.int (Int32.ofNat (l.map Value.int).length)), some (.int i), o]) (r := []) (j := i) hq i0 (by omega)
        refine zEs_step (dc := 0) (ds := 0) rfl (show zald 101 20 _ (.int i :: .ref q :: []) h = _ from v2) ?_
        refine zEs_run 3 rfl ?_
        have hi := zinc_le (x := i) (n := 1) (by omega) (by decide) (by decide)
        have J : ∀ w : Int32, zEs xs (D + 0) 149 33 [some (.ref q), some (.int s), some (.ref q), some (.int (Int32.ofNat (l.map Value.int).length)), some (.int i), some (.int v)] [.int w, .int s] h nc ns (fun o => ∃ v : Int32, o = (.inl (some (.int v)), h, nc, ns)) := by
          intro w
          refine zEs_run 4 rfl ?_
          exact ih _ _ _ (by omega) (by omega)
        refine zEs_if rfl (fun _ => ?_) (fun _ => ?_)
        · exact zEs_run 1 rfl (J _)
        · exact zEs_run 2 rfl (J _)
  refine ⟨_, rfl, zEs_run 5 rfl ?_⟩
  refine zEs_alen rfl hq (by decide) ?_
  refine zEs_run 3 rfl ?_
  exact lp _ _ _ _ (by decide) (Nat.lt_succ_self _)
theorem g_171 : zGd xs ct_171 := by
  intro g lg h nc ns as hI hS
  obtain ⟨v, w1, rfl, k, k1⟩ := zin2 hS
  obtain rfl := zP_eq k
  obtain ⟨x1, rfl, x1l, x1u, -⟩ := zI_eq k1
  obtain ⟨vs, m1, m2, m3, m4⟩ := hI.obj
  have hz := hI.sizes
  have mm : ∀ l : List Int32, (h ++ [zar l])[44]? = some (7, vs) := fun l => zapp_mv _ _ _ m1
  have hh : ∀ l : List Int32, zHI g lg (h ++ [zar l]) := fun l => (zHI_mv hI (zapp_mv _)).1
  have SZ : ∀ (j : Nat) (n : Nat) (nc ns : Nat) (l : List Int32), j < g.nl → zsz g lg j ≤ 1000 → zMs xs 7 243 [.ref (g.p j)] (h ++ [zar l]) nc ns (fun o => ∃ x : Int32, o = (.inl (some (.int x)), h ++ [zar l], nc, ns)) := fun j n nc ns l hj hn => zMs_mono (Nat.zero_le _) (zMs_post (fun o ⟨x, _, z⟩ => ⟨x, z⟩) (zsize (D := 0) (hh l) hj hn))
  have s0 : zsz g lg 0 ≤ 1000 := show g.zs ≤ 1000 by omega
  have s1 : zsz g lg 1 ≤ 1000 := show g.zw ≤ 1000 by omega
  have s2 : zsz g lg 2 ≤ 1000 := show lg ≤ 1000 by omega
  have MY : ∀ (q : Nat) (nc ns : Nat) (l : List Int32), zsp q = some (101, 128, 0, 1) → zMs xs 7 149 [.ref q] (h ++ [zar l]) nc ns (fun o => ∃ x : Int32, o = (.inl (some (.int x)), h ++ [zar l], nc, ns)) := fun q nc ns l e => by
    obtain ⟨l2, p1, p2, p3⟩ := (hh l).rows q _ _ _ _ e
    exact zMs_mono (Nat.zero_le _) (m_149 (D := 0) p1 p2)
  refine ⟨_, rfl, zEs_run 2 (h' := h ++ [zar (List.replicate 18 0)]) rfl ?_⟩
  -- 0
  obtain ⟨u0, hu0, -, -⟩ := zf_int m3 (k := 4) (by decide) rfl
  refine zEs_run 3 rfl ?_
  refine zEs_get rfl (mm _) rfl hu0 ?_
  refine zEs_astL (N := 18) rfl rfl (by decide) (by decide) (fun l1 hl1 => ?_)
  -- 1
  obtain ⟨u1, hu1, -, -⟩ := zf_int m3 (k := 1) (by decide) rfl
  refine zEs_run 3 rfl ?_
  refine zEs_get rfl (mm _) rfl hu1 ?_
  refine zEs_astL (N := 18) rfl hl1 (by decide) (by decide) (fun l2 hl2 => ?_)
  -- 2
  obtain ⟨u2, hu2, -, -⟩ := zf_int m3 (k := 2) (by decide) rfl
  refine zEs_run 3 rfl ?_
  refine zEs_get rfl (mm _) rfl hu2 ?_
  refine zEs_astL (N := 18) rfl hl2 (by decide) (by decide) (fun l3 hl3 => ?_)
  -- 3
  obtain ⟨u3, hu3, -, -⟩ := zf_int m3 (k := 5) (by decide) rfl
  refine zEs_run 3 rfl ?_
  refine zEs_get rfl (mm _) rfl hu3 ?_
  refine zEs_astL (N := 18) rfl hl3 (by decide) (by decide) (fun l4 hl4 => ?_)
  -- 4
  obtain ⟨u4, hu4, -, -⟩ := zf_int m3 (k := 6) (by decide) rfl
  refine zEs_run 3 rfl ?_
  refine zEs_get rfl (mm _) rfl hu4 ?_
  refine zEs_astL (N := 18) rfl hl4 (by decide) (by decide) (fun l5 hl5 => ?_)
  -- 5
  obtain ⟨u5, hu5, -, -⟩ := zf_int m3 (k := 7) (by decide) rfl
  refine zEs_run 3 rfl ?_
  refine zEs_get rfl (mm _) rfl hu5 ?_
  refine zEs_astL (N := 18) rfl hl5 (by decide) (by decide) (fun l6 hl6 => ?_)
  -- 6
  obtain ⟨u6, hu6, -, -⟩ := zf_int m3 (k := 8) (by decide) rfl
  refine zEs_run 3 rfl ?_
  refine zEs_get rfl (mm _) rfl hu6 ?_
  suffices J6 : ∀ z : Int32, zEs xs 8 171 61 [some (.ref 44), some (.int x1), none] [.int z, .int (Int8.ofInt 6).toInt32, .ref h.length, .ref h.length] (h ++ [zar l6]) _ _ (zPm g lg h nc ns ct_171.rt ct_171.dc ct_171.ds [.ref 44, .int x1]) by
    refine zEs_if rfl (fun _ => ?_) (fun _ => ?_)
    · exact zEs_run 1 rfl (J6 _)
    · exact zEs_run 2 rfl (J6 _)
  intro z6
  refine zEs_astL (N := 18) rfl hl6 (by decide) (by decide) (fun l7 hl7 => ?_)
  -- 7
  obtain ⟨u7, hu7, -, -⟩ := zf_int m3 (k := 9) (by decide) rfl
  refine zEs_run 3 rfl ?_
  refine zEs_get rfl (mm _) rfl hu7 ?_
  suffices J7 : ∀ z : Int32, zEs xs 8 171 77 [some (.ref 44), some (.int x1), none] [.int z, .int (Int8.ofInt 7).toInt32, .ref h.length, .ref h.length] (h ++ [zar l7]) _ _ (zPm g lg h nc ns ct_171.rt ct_171.dc ct_171.ds [.ref 44, .int x1]) by
    refine zEs_if rfl (fun _ => ?_) (fun _ => ?_)
    · exact zEs_run 1 rfl (J7 _)
    · exact zEs_run 2 rfl (J7 _)
  intro z7
  refine zEs_astL (N := 18) rfl hl7 (by decide) (by decide) (fun l8 hl8 => ?_)
  -- 8
  obtain ⟨u8, hu8, -, -⟩ := zf_int m3 (k := 10) (by decide) rfl
  refine zEs_run 3 rfl ?_
  refine zEs_get rfl (mm _) rfl hu8 ?_
  refine zEs_astL (N := 18) rfl hl8 (by decide) (by decide) (fun l9 hl9 => ?_)
  -- 9
  refine zEs_run 3 rfl ?_
  refine zEs_get rfl (mm _) rfl (zfldL (j := 2) m3 (k := 25) (by decide) rfl) ?_
  obtain ⟨w9, hw9⟩ := zrow10 (hh l9) (j := 2) (by omega)
  refine zEs_callG rfl (show zcallV 0 10 243 98 (.ref (g.p 2) :: _) (h ++ [zar l9]) = _ from zcallV_eq rfl hw9 (Nat.le_of_ble_eq_true rfl)) (SZ 2 0 _ _ l9 (by omega) s2) (fun v h9 nc9 ns9 q => ?_) (fun E h9 nc9 ns9 q => by obtain ⟨_, q⟩ := q; cases q)
  obtain ⟨u9, q9⟩ := q
  cases q9
  refine zEs_astL (N := 18) rfl hl9 (by decide) (by decide) (fun l10 hl10 => ?_)
  -- 10
  obtain ⟨u10, hu10, -, -⟩ := zf_int m3 (k := 14) (by decide) rfl
  refine zEs_run 3 rfl ?_
  refine zEs_get rfl (mm _) rfl hu10 ?_
  refine zEs_astL (N := 18) rfl hl10 (by decide) (by decide) (fun l11 hl11 => ?_)
  -- 11
  obtain ⟨u11, hu11, -, -⟩ := zf_int m3 (k := 15) (by decide) rfl
  refine zEs_run 3 rfl ?_
  refine zEs_get rfl (mm _) rfl hu11 ?_
  refine zEs_astL (N := 18) rfl hl11 (by decide) (by decide) (fun l12 hl12 => ?_)
  -- 12
  refine zEs_run 3 rfl ?_
  refine zEs_get rfl (mm _) rfl (zfld m3 (k := 21) (by decide) rfl) ?_
  refine zEs_callG rfl rfl (MY 71 _ _ l12 rfl) (fun v h9 nc9 ns9 q => ?_) (fun E h9 nc9 ns9 q => by obtain ⟨_, q⟩ := q; cases q)
  obtain ⟨u12, q12⟩ := q
  cases q12
  refine zEs_astL (N := 18) rfl hl12 (by decide) (by decide) (fun l13 hl13 => ?_)
  -- 13
  refine zEs_run 3 rfl ?_
  refine zEs_get rfl (mm _) rfl (zfld m3 (k := 22) (by decide) rfl) ?_
  refine zEs_callG rfl rfl (MY 72 _ _ l13 rfl) (fun v h9 nc9 ns9 q => ?_) (fun E h9 nc9 ns9 q => by obtain ⟨_, q⟩ := q; cases q)
  obtain ⟨u13, q13⟩ := q
  cases q13
  refine zEs_astL (N := 18) rfl hl13 (by decide) (by decide) (fun l14 hl14 => ?_)
  -- 14
  refine zEs_run 3 rfl ?_
  refine zEs_get rfl (mm _) rfl (zfldL (j := 0) m3 (k := 23) (by decide) rfl) ?_
  obtain ⟨w14, hw14⟩ := zrow10 (hh l14) (j := 0) (by omega)
  refine zEs_callG rfl (show zcallV 0 10 243 149 (.ref (g.p 0) :: _) (h ++ [zar l14]) = _ from zcallV_eq rfl hw14 (Nat.le_of_ble_eq_true rfl)) (SZ 0 0 _ _ l14 (by omega) s0) (fun v h9 nc9 ns9 q => ?_) (fun E h9 nc9 ns9 q => by obtain ⟨_, q⟩ := q; cases q)
  obtain ⟨u14, q14⟩ := q
  cases q14
  refine zEs_astL (N := 18) rfl hl14 (by decide) (by decide) (fun l15 hl15 => ?_)
  -- 15
  refine zEs_run 3 rfl ?_
  refine zEs_get rfl (mm _) rfl (zfldL (j := 1) m3 (k := 24) (by decide) rfl) ?_
  obtain ⟨w15, hw15⟩ := zrow10 (hh l15) (j := 1) (by omega)
  refine zEs_callG rfl (show zcallV 0 10 243 162 (.ref (g.p 1) :: _) (h ++ [zar l15]) = _ from zcallV_eq rfl hw15 (Nat.le_of_ble_eq_true rfl)) (SZ 1 0 _ _ l15 (by omega) s1) (fun v h9 nc9 ns9 q => ?_) (fun E h9 nc9 ns9 q => by obtain ⟨_, q⟩ := q; cases q)
  obtain ⟨u15, q15⟩ := q
  cases q15
  refine zEs_astL (N := 18) rfl hl15 (by decide) (by decide) (fun l16 hl16 => ?_)
  -- 16
  obtain ⟨u16, hu16, -, -⟩ := zf_int m3 (k := 12) (by decide) rfl
  refine zEs_run 3 rfl ?_
  refine zEs_get rfl (mm _) rfl hu16 ?_
  refine zEs_astL (N := 18) rfl hl16 (by decide) (by decide) (fun l17 hl17 => ?_)
  -- 17
  obtain ⟨u17, hu17, -, -⟩ := zf_int m3 (k := 13) (by decide) rfl
  refine zEs_run 3 rfl ?_
  refine zEs_get rfl (mm _) rfl hu17 ?_
  refine zEs_astL (N := 18) rfl hl17 (by decide) (by decide) (fun l18 hl18 => ?_)
  -- the answer
  refine zEs_run 3 rfl ?_
  have hx : ¬ x1 < 0 := fun z => by
    have z := zlt_z z
    rw [zero_z] at z
    omega
  obtain ⟨v9, hv9⟩ : ∃ v, l18[x1.toNatClampNeg]? = some v := ⟨_, List.getElem?_eq_getElem (by show x1.toInt.toNat < _; omega)⟩
  refine zEs_ald rfl (l := l18) (by rw [List.getElem?_append_right (Nat.le_refl _), Nat.sub_self]; rfl) hx hv9 ?_
  have d1 : ct_171.dc = 1 := rfl
  have d2 : ct_171.ds = 18 := rfl
  have t18 : ((Int8.ofInt 18).toInt32).toNatClampNeg = 18 := by decide
  exact zEs_end rfl rfl ⟨_, _, lg, _, _, rfl, ⟨_, rfl, zIA_ok _⟩, hh l18, (zHI_mv hI (zapp_mv _)).2, Nat.le_refl _, by omega, by omega⟩
end ZHD
