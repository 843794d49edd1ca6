/-! The law, whole: safe and exact, over all that is alike. Written by wip/v3/f157z.py. -/
section ZLA
variable {xs : List Int32} {N nc ns : Nat} {s : Nat → Int32} {a : Nat → List Int32}
set_option maxRecDepth 20000
def zX0 (U : zH) : zXt := (fun j => if j = 9 then 76 else 73 + j, fun _ => [], zli0 :: zli0 :: zli0 :: zar (zcol 8 5) :: U)
def zL0 : (Nat → List (List Int32)) × List Int32 := (fun _ => [], zcol 8 5)
def zMini : zRt := (fun k => [0, (Int8.ofInt 8).toInt32, Int32.ofInt 5, 0, 0, (Int8.ofInt 16).toInt32, (Int8.ofInt 20).toInt32, 0, 0, 0, 0, Int32.ofInt (-1), 0, 0, 0, 0].getD k 0, fun k => if k < 20 then List.replicate 8 0 else [List.replicate 20 0, List.replicate 20 0, List.replicate 16 0, List.replicate 2 0, List.replicate 128 0, List.replicate 128 0].getD (k - 20) [], zL0)
theorem zBr_0 {s : Nat → Int32} {a : Nat → List Int32} {M : zRt} (r16 : a 16 = za00 16) (r18 : a 18 = za00 18) (f1 : M.2.1 23 = zMini.2.1 23) (f2 : M.2.1 25 = zMini.2.1 25) : zBr (s, a) M := by
  have e16 : za00 16 = List.replicate 2 0 := rfl
  have e18 : za00 18 = List.replicate 128 0 := rfl
  have m1 : zMini.2.1 23 = List.replicate 2 0 := rfl
  have m2 : zMini.2.1 25 = List.replicate 128 0 := rfl
  unfold zBr
  rw [f1, f2, m1, m2]
  show (a 16 = _ ∧ (a 16).length = 2 ∧ ∀ x ∈ a 16, _) ∧ a 18 = _ ∧ (a 18).length = 128 ∧ ∀ x ∈ a 18, _
  rw [r16, r18, e16, e18]
  refine ⟨⟨rfl, by simp, fun x hx => ?_⟩, rfl, by simp, fun x hx => Or.inl (List.eq_of_mem_replicate hx)⟩
  rw [List.eq_of_mem_replicate hx]
  decide
end ZLA
section ZLR
variable {xs : List Int32} {N nc ns : Nat} {s : Nat → Int32} {a : Nat → List Int32}
set_option maxRecDepth 20000
def zR22 (M : zRt) (n : Nat) : Prop := ∀ j, j < n → zgt (M.2.1 22) (Int32.ofNat j) = Int32.ofNat (j / 8 * 10 + j % 8)
end ZLR

section ZLB
variable {S1 D : zSt} {M : zRt} {x : Int32}
set_option maxRecDepth 20000
/-- the class's state as its words are to be wiped for the first time -/
def zNw (S1 : zSt) : Prop := S1.1 = zsc zs00 8 5 ∧ ((∃ t, S1.2 0 = zcol 8 5 ++ t) ∧ (S1.2 0).length = 16 ∧ S1.2 1 = zts (zcol 8 5) (8 + 5)) ∧ (∀ j, j ≠ 0 → j ≠ 1 → j ≠ 15 → S1.2 j = za00 j) ∧ (S1.2 15).length = 16 ∧ ∀ j, j < 16 → zgt (S1.2 15) (Int32.ofNat j) = Int32.ofNat (j % 8)
theorem zw00 (h9 : (D.1 9).toInt.toNat = 0) (h2 : D.2 2 = List.replicate 160 0) : ∀ k, k ≤ 160 → (W40 x D D k).2 2 = List.replicate 160 0
  | 0, _ => h2
  | k + 1, hk => by
    have ih := zw00 h9 h2 k (by omega)
    have e9 : ((W40 x D D k).1 9).toInt.toNat = 0 := by
      rw [(fr_W40 k).1 9 List.not_mem_nil]
      exact h9
    have v : V42 (Int32.ofNat k) (Int32.ofInt 0) (W40 x D D k) = Int32.ofInt 0 := by
      unfold V42 Y42
      rw [e9]
      rfl
    show zst ((W40 x D D k).2 2) (Int32.ofNat k) (V42 (Int32.ofNat k) (Int32.ofInt 0) (W40 x D D k)) = _
    rw [v, ih]
    have z : zgt (List.replicate 160 (0 : Int32)) (Int32.ofNat k) = Int32.ofInt 0 := by
      rw [zgt_in9 (by omega), List.getD_eq_getElem?_getD, List.getElem?_replicate, if_pos (by omega)]
      rfl
    have y := zst_sf (l := List.replicate 160 (0 : Int32)) (i := k) (by omega)
    rw [z] at y
    exact y
theorem zrp_g {n i : Nat} (hi : i < 1000) (hn : i < n) : zgt (List.replicate n (0 : Int32)) (Int32.ofNat i) = 0 := by
  rw [zgt_in9 hi, List.getD_eq_getElem?_getD, List.getElem?_replicate, if_pos hn]
  rfl
theorem zZ_ini (hN : zNw S1) (f1 : M.1 = zMini.1) (f2 : ∀ j, j ≠ 22 → M.2.1 j = zMini.2.1 j) (f3 : M.2.2 = zL0) (f4 : (M.2.1 22).length = 16) (f5 : zR22 M 16) : zZ (F40 (Int32.ofNat 13) S1) M := by
  obtain ⟨n1, ⟨n2, n3, n4⟩, n5, n6, n7⟩ := hN
  have l0 : M.2.2.1 0 = [] := by rw [f3]; rfl
  have l1 : M.2.2.1 1 = [] := by rw [f3]; rfl
  have l2 : M.2.2.1 2 = [] := by rw [f3]; rfl
  have fq0 : zFq (S1.1 9) (S1.2 6) (S1.2 7) (S1.2 8) [] := by
    rw [n1, n5 6 (by decide) (by decide) (by decide), n5 7 (by decide) (by decide) (by decide), n5 8 (by decide) (by decide) (by decide)]
    exact ⟨rfl, Nat.zero_le _, ⟨rfl, rfl, rfl⟩, fun k e hk => by cases hk⟩
  have fq1 : zFq (S1.1 10) (S1.2 9) (S1.2 10) (S1.2 11) [] := by
    rw [n1, n5 9 (by decide) (by decide) (by decide), n5 10 (by decide) (by decide) (by decide), n5 11 (by decide) (by decide) (by decide)]
    exact ⟨rfl, Nat.zero_le _, ⟨rfl, rfl, rfl⟩, fun k e hk => by cases hk⟩
  have Q := zFq_F40 (S := S1) (w := 13) (by omega) fq0 fq1
  obtain ⟨C, fC, c3, qC, eF⟩ := zF40_e (S := S1) (n := 13) (by omega) fq0 fq1
  obtain ⟨D, hD⟩ : ∃ D, D = zsF C 3 (Int32.ofInt 0) := ⟨_, rfl⟩
  have fD : zfrm [] [3] D C := by
    rw [hD]
    exact fm_F
  have d3 : D.2 3 = List.replicate (C.2 3).length (Int32.ofInt 0) := by
    rw [hD]
    rfl
  have e160 : (Int32.ofInt 160).toInt.toNat = 160 := by decide
  rw [← hD, e160] at eF
  have f := fr_F40 (x1 := Int32.ofNat 13) (S := S1)
  have w0 : (F40 (Int32.ofNat 13) S1).2 2 = List.replicate 160 0 := by
    rw [eF]
    refine zw00 ?_ ?_ 160 (Nat.le_refl _)
    · rw [fD.1 9 List.not_mem_nil, qC.1]
      rfl
    · rw [fD.2.1 2 (by decide), fC.2.1 2 (by decide), n5 2 (by decide) (by decide) (by decide)]
      rfl
  have fW : zfrm [] [2] (F40 (Int32.ofNat 13) S1) D := by
    rw [eF]
    exact fr_W40 160
  have g3 : (F40 (Int32.ofNat 13) S1).2 3 = List.replicate 20 0 := by
    rw [fW.2.1 3 (by decide), d3, fC.2.2 3, n5 3 (by decide) (by decide) (by decide)]
    rfl
  have g13 : (F40 (Int32.ofNat 13) S1).1 3 = Int32.ofNat 13 := by
    rw [fW.1 3 List.not_mem_nil, fD.1 3 List.not_mem_nil]
    exact c3
  obtain ⟨G, hG⟩ : ∃ G, G = F40 (Int32.ofNat 13) S1 := ⟨_, rfl⟩
  rw [← hG] at Q f w0 g3 g13 ⊢
  have s1 : ∀ j, j ∉ [3, 9, 10] → G.1 j = zsc zs00 8 5 j := fun j hj => (f.1 j hj).trans (by rw [n1])
  have s2 : ∀ j, j ∉ [0, 1, 2, 3, 6, 7, 8, 9, 10, 11, 15] → G.2 j = za00 j := fun j hj => (f.2.1 j (fun z => hj (by
    have y : ∀ i ∈ [2, 3, 6, 7, 8, 9, 10, 11], i ∈ [0, 1, 2, 3, 6, 7, 8, 9, 10, 11, 15] := by decide
    exact y j z))).trans (n5 j (fun z => hj (by rw [z]; decide)) (fun z => hj (by rw [z]; decide)) (fun z => hj (by rw [z]; decide)))
  have e0 : G.2 0 = S1.2 0 := f.2.1 0 (by decide)
  have e1 : G.2 1 = S1.2 1 := f.2.1 1 (by decide)
  have e15 : G.2 15 = S1.2 15 := f.2.1 15 (by decide)
  refine ⟨⟨⟨?_, ?_, ?_⟩, ?_⟩, ?_, ⟨?_, ⟨?_, ?_, ?_⟩, ?_⟩, ?_, ?_, ?_, ?_, ?_, ?_, ?_⟩
  · rw [e0]
    exact n3
  · rw [e1, n4, zts_len]
  · rw [f2 20 (by decide)]
    rfl
  · rw [s1 4 (by decide), f1]
    decide
  · unfold zSp
    rw [s1 17 (by decide), f1]
    decide
  · exact zBr_0 (s := G.1) (a := G.2) (s2 16 (by decide)) (s2 18 (by decide)) (f2 23 (by decide)) (f2 25 (by decide))
  · refine ⟨8, 5, by decide, ?_, ?_, ?_⟩
    · rw [f1]
      decide
    · rw [f1]
      decide
    · exact s1 2 (by decide)
  · rw [l0]
    exact Q.1
  · rw [l1]
    exact Q.2
  · refine ⟨by rw [e15]; exact n6, f4, fun j hj => ⟨j % 8, by omega, by rw [e15]; exact n7 j hj, f5 j hj⟩⟩
  · unfold zTk
    rw [s1 4 (by decide), f1]
    decide
  · refine ⟨?_, fun l p hl hp => ?_, (f.2.2 5).trans (by rw [n5 5 (by decide) (by decide) (by decide)]; rfl)⟩
    · refine ⟨by rw [w0]; exact List.length_replicate, fun l hl => ?_, fun l p hl hp => ?_⟩
      · rw [f2 l (by omega)]
        show (if l < 20 then List.replicate 8 (0 : Int32) else _).length = 8
        rw [if_pos hl]
        rfl
      · rw [w0, zrp_g (by omega) (by omega), f2 l (by omega)]
        show _ = zgt (if l < 20 then List.replicate 8 (0 : Int32) else _) _
        rw [if_pos hl, zrp_g (by omega) hp]
    · have g9 : (G.1 9).toInt.toNat = 0 := by
        rw [Q.1.1]
        decide
      unfold V42 Y42
      rw [g9]
      rfl
  · have m20 : M.2.1 20 = List.replicate 20 0 := f2 20 (by decide)
    have m21 : M.2.1 21 = List.replicate 20 0 := f2 21 (by decide)
    have m24 : M.2.1 24 = List.replicate 128 0 := f2 24 (by decide)
    have a4 : za00 4 = List.replicate 20 0 := rfl
    have a17 : za00 17 = List.replicate 128 0 := rfl
    unfold zCn
    rw [g3, s2 4 (by decide), s2 17 (by decide), m20, m21, m24, a4, a17]
    exact ⟨⟨rfl, List.length_replicate⟩, ⟨rfl, List.length_replicate⟩, rfl, List.length_replicate, fun x hx => Or.inl (List.eq_of_mem_replicate hx)⟩
  · unfold zSc
    rw [s1 5 (by decide), s1 6 (by decide), s1 14 (by decide), s1 15 (by decide), s1 16 (by decide), s1 18 (by decide), s1 12 (by decide), s1 13 (by decide), f1]
    decide
  · refine ⟨?_, 5, by decide, ?_, Or.inl ⟨?_, rfl⟩⟩
    · rw [s1 8 (by decide), f1]
      decide
    · rw [s1 7 (by decide)]
      decide
    · rw [f1]
      decide
  · refine ⟨8, 5, ⟨by decide, s1 0 (by decide), s1 1 (by decide), s1 2 (by decide), ?_, ?_⟩, ?_, ?_, ?_, ?_⟩
    · rw [e0]
      exact n2
    · rw [e1]
      exact n4
    · rw [f1]
      decide
    · rw [f1]
      decide
    · rw [f3]
      rfl
    · rw [g13]
      exact (s1 2 (by decide)).symm
  · refine ⟨?_, ?_, ?_, fun j e hj => ?_⟩
    · rw [s1 11 (by decide), l2]
      decide
    · rw [l2]
      decide
    · rw [s2 12 (by decide), s2 13 (by decide), s2 14 (by decide)]
      exact ⟨rfl, rfl, rfl⟩
    · rw [l2] at hj
      cases hj
theorem zAA_ini {s : Nat → Int32} {a : Nat → List Int32} (hS : ∃ S1 : zSt, zNw S1 ∧ s = (F40 (Int32.ofNat 13) S1).1 ∧ a = (F40 (Int32.ofNat 13) S1).2) (f1 : M.1 = zMini.1) (f2 : ∀ j, j ≠ 22 → M.2.1 j = zMini.2.1 j) (f3 : M.2.2 = zL0) (f4 : (M.2.1 22).length = 16) (f5 : zR22 M 16) : zZ (s, a) M ∧ s 4 = 0 := by
  obtain ⟨S1, p1, p2, p3⟩ := hS
  have z := zZ_ini p1 f1 f2 f3 f4 f5
  have t : (F40 (Int32.ofNat 13) S1).1 4 = 0 := by
    rw [fr_F40.1 4 (by decide), p1.1]
    rfl
  obtain ⟨Z, hZ⟩ : ∃ Z, Z = F40 (Int32.ofNat 13) S1 := ⟨_, rfl⟩
  rw [← hZ] at z t p2 p3
  obtain ⟨Z1, Z2⟩ := Z
  have p2 : s = Z1 := p2
  have p3 : a = Z2 := p3
  rw [p2, p3]
  exact ⟨z, t⟩
end ZLB
set_option maxRecDepth 10000 in
theorem m_52f {xs : List Int32} {D nc ns : Nat} : zMs xs (D + 6) 52 [.ref 0] [(5, (zcf 5).map (fun q => zdf q.2))] nc ns (fun o => ∃ s a nc' ns', zaL a ∧ (zRC s a 8 5 ∧ (a 0).length = 16) ∧ (∃ S1 : zSt, zNw S1 ∧ s = (F40 (Int32.ofNat 13) S1).1 ∧ a = (F40 (Int32.ofNat 13) S1).2) ∧ nc' ≤ nc + 60 ∧ ns' ≤ ns + 2000 ∧ o = (.inl none, zx s a [], nc', ns')) := by
  refine ⟨_, rfl, m_52a (fun nc' ns' h1 h2 => ?_)⟩
  have lp : ∀ (n : Nat) (i : Int32) (a : Nat → List Int32), zfr [] [15] zs00 za00 zs00 a → (∃ I : Nat, i = Int32.ofNat I ∧ I ≤ 16 ∧ (a 15).length = 16 ∧ ∀ j, j < I → zgt (a 15) (Int32.ofNat j) = Int32.ofNat (j % 8)) → (((Int8.ofInt 16).toInt32).toInt - i.toInt).toNat < n → zEs xs (D + 6) 52 92 [some (.ref 0), some (.int i)] [] (zx zs00 a []) nc' ns' (fun o => ∃ s a nc' ns', zaL a ∧ (zRC s a 8 5 ∧ (a 0).length = 16) ∧ (∃ S1 : zSt, zNw S1 ∧ s = (F40 (Int32.ofNat 13) S1).1 ∧ a = (F40 (Int32.ofNat 13) S1).2) ∧ nc' ≤ nc + 60 ∧ ns' ≤ ns + 2000 ∧ o = (.inl none, zx s a [], nc', ns')) := by
    intro n
    induction n with
    | zero =>
      intro i a f hI hn
      exact absurd hn (Nat.not_lt_zero _)
    | succ n ih =>
      intro i a f hI hn
      obtain ⟨I, rfl, hI, l15, h15⟩ := hI
      refine zEs_run 2 rfl ?_
      have e16 : ((Int8.ofInt 16).toInt32).toInt = 16 := by decide
      refine zEs_icmp rfl (fun gt => ?_) (fun g => ?_)
      · have gt := zF_ge_t gt
        rw [e16, zof_0 (by omega)] at gt
        obtain rfl : I = 16 := by omega
        have l0 : (a 0).length = 16 := by
          rw [f.2.1 0 (by decide)]
          decide
        have l1 : (a 1).length = 64 := by
          rw [f.2.1 1 (by decide)]
          decide
        refine zEs_run 4 rfl ?_
        refine zEs_callG rfl rfl (zMs_and (zMs_mono (show 2 ≤ D + 5 by omega) (k_3 (D := 0) (x1 := Int32.ofNat 8) (x2 := Int32.ofNat 5) f.2.2 (by decide))) (fun N => p_3 (k := 8) (r := 5) (by decide) (Or.inr (Or.inl rfl)) (zcds_dl (8, 5) (by decide)) l0 l1)) (fun v h9 nc1 ns1 q => ?_) (fun E h9 nc1 ns1 q => by obtain ⟨-, _, q, _⟩ := q; cases q)
        obtain ⟨-, a1, q, g1, g2, g3, g4⟩ := q
        cases q
        have hL1 : zaL a1 := by
          intro j
          by_cases j0 : j = 0
          · rw [j0, g2]
            decide
          · by_cases j1 : j = 1
            · rw [j1, g3, zts_len]
              decide
            · rw [g4 j j0 j1]
              exact f.2.2 j
        refine zEs_run 5 rfl ?_
        refine zEs_callG rfl rfl (zMs_and (k_40 hL1) (fun N => e_40 (S := (zsc zs00 8 5, a1)) (x1 := Int32.ofNat 13) hL1)) (fun v h9 nc1 ns1 q => ?_) (fun E h9 nc1 ns1 q => by obtain ⟨⟨_, _, _, _, _, q⟩ | ⟨_, q, _⟩, -⟩ := q <;> cases q)
        obtain ⟨q, q4, q5⟩ := q
        rcases q with ⟨v', s2, a2, hv, -, q⟩ | ⟨E, hE, q⟩
        · have y1 : nc1 = nc' := congrArg (fun o : zO => o.2.2.1) q
          have y2 : ns1 = ns' := congrArg (fun o : zO => o.2.2.2) q
          have h5 : h9 = zx (F40 (Int32.ofNat 13) (zsc zs00 8 5, a1)).1 (F40 (Int32.ofNat 13) (zsc zs00 8 5, a1)).2 [] := q5
          have q4 : (Sum.inl v : Option Value ⊕ Nat) = .inl none := q4
          cases q4
          rw [y1, y2, h5]
          have f9 := fr_F40 (x1 := Int32.ofNat 13) (S := (zsc zs00 8 5, a1))
          obtain ⟨Z, hZ⟩ : ∃ Z, Z = F40 (Int32.ofNat 13) (zsc zs00 8 5, a1) := ⟨_, rfl⟩
          rw [← hZ] at f9 ⊢
          refine zEs_end rfl rfl ⟨Z.1, Z.2, nc', ns', fm_L f9 hL1, ⟨⟨by decide, (f9.1 0 (by decide)).trans rfl, (f9.1 1 (by decide)).trans rfl, (f9.1 2 (by decide)).trans rfl, ?_, ?_⟩, ?_⟩, ⟨(zsc zs00 8 5, a1), ⟨rfl, ⟨g1, g2, g3⟩, fun j j0 j1 j15 => (g4 j j0 j1).trans (f.2.1 j (fun z => j15 (List.mem_singleton.mp z))), ?_, ?_⟩, by rw [hZ], by rw [hZ]⟩, h1, h2, rfl⟩
          · rw [f9.2.1 0 (by decide)]
            exact g1
          · rw [f9.2.1 1 (by decide)]
            exact g3
          · rw [f9.2.1 0 (by decide)]
            exact g2
          · show (a1 15).length = 16
            rw [g4 15 (by decide) (by decide)]
            exact l15
          · show ∀ j, j < 16 → zgt (a1 15) (Int32.ofNat j) = Int32.ofNat (j % 8)
            rw [g4 15 (by decide) (by decide)]
            exact h15
        · cases hE
      · have g9 := zF_ge_f g
        rw [e16, zof_0 (by omega)] at g9
        have g : ¬ (Int8.ofInt 16).toInt32 ≤ Int32.ofNat I := g
        refine zEs_run 6 rfl ?_
        refine zEs_callG rfl rfl (zMs_and (x_26 15 37 36 rfl rfl (fun _ => rfl) f.2.2) (fun N => p_26 15 37 36 rfl rfl (fun _ => rfl) (f.2.2 15))) (fun v h9 nc1 ns1 q => ?_) (fun E h9 nc1 ns1 q => ?_)
        · obtain ⟨q, q26⟩ := q
          cases q26
          refine zEs_run 2 rfl ?_
          refine ih _ _ (zfr_tr f ⟨fun _ _ => rfl, fun k hk => if_neg (by simpa using hk), fun k => ?_⟩) ⟨I + 1, zof1 (a := I), by omega, ?_, fun j hj => ?_⟩ (Nat.lt_of_lt_of_le (zdec g) (Nat.le_of_lt_succ hn))
          · by_cases k15 : k = 15
            · subst k15
              show (zst (a 15) _ _).length < _
              rw [zst_ln9]
              exact f.2.2 15
            · show (zup a 15 _ k).length < _
              rw [show zup a 15 _ k = a k from if_neg k15]
              exact f.2.2 k
          · show (zst (a 15) _ _).length = 16
            rw [zst_ln9]
            exact l15
          · show zgt (zst (a 15) (Int32.ofNat I) (zrmd (Int32.ofNat I) (Int32.ofInt 8))) (Int32.ofNat j) = _
            rw [(zqr (n := I) (by omega)).2.2]
            by_cases je : j = I
            · subst je
              exact zgt_eq9 (by omega) (by omega)
            · rw [zgt_ne9 (by omega) (by omega) je]
              exact h15 j (by omega)
        · cases q.2
  refine zEs_run 2 rfl ?_
  exact lp _ _ _ (zfr_rf za00_L) ⟨0, rfl, by decide, rfl, fun j hj => absurd hj (Nat.not_lt_zero _)⟩ (Nat.lt_succ_self _)


