/-! The law, whole: safe and exact. Written by wip/v3/f157j.py. -/
section ZLA
variable {xs : List Int32} {N nc ns : Nat} {s : Nat → Int32} {a : Nat → List Int32}
set_option maxRecDepth 20000
def zX0 (U : zH) : zXt := (fun j => if j = 9 then 76 else 73 + j, fun _ => [], zli0 :: zli0 :: zli0 :: zar (zcol 8 5) :: U)
def zL0 : (Nat → List (List Int32)) × List Int32 := (fun _ => [], zcol 8 5)
def zMini : zRt := (fun k => [0, (Int8.ofInt 8).toInt32, Int32.ofInt 5, 0, 0, (Int8.ofInt 16).toInt32, (Int8.ofInt 20).toInt32, 0, 0, 0, 0, Int32.ofInt (-1), 0, 0, 0, 0].getD k 0, fun k => if k < 20 then List.replicate 8 0 else [List.replicate 20 0, List.replicate 20 0, List.replicate 16 0, List.replicate 2 0, List.replicate 128 0, List.replicate 128 0].getD (k - 20) [], zL0)
def zP0 (s : Nat → Int32) (a : Nat → List Int32) (h : zH) : Prop := ∃ M : zRt, h = zy (s, a) M (zX0 []) ∧ M.1 = zMini.1 ∧ (∀ j, j ≠ 22 → M.2.1 j = zMini.2.1 j) ∧ M.2.2 = zL0
theorem r_ini : ∀ N : Nat, (∀ (M : zRt) (b : Int32) (o2 : Option Value) (nc ns : Nat), M.1 = zMini.1 → (∀ j, j ≠ 22 → M.2.1 j = zMini.2.1 j) → M.2.2 = zL0 → zpE xs N 110 150 [some (.ref 44), some (.int b), o2] [] (zy (s, a) M (zX0 [])) nc ns (fun o => zP0 s a o.2.1)) ∧ ∀ (M : zRt) (b i : Int32) (nc ns : Nat), M.1 = zMini.1 → (∀ j, j ≠ 22 → M.2.1 j = zMini.2.1 j) → M.2.2 = zL0 → zpE xs N 110 157 [some (.ref 44), some (.int b), some (.int i)] [] (zy (s, a) M (zX0 [])) nc ns (fun o => zP0 s a o.2.1)
  | 0 => ⟨fun _ _ _ _ _ _ _ _ => zpE_0, fun _ _ _ _ _ _ _ _ => zpE_0⟩
  | N + 1 => by
    obtain ⟨i1, i2⟩ := r_ini N
    refine ⟨fun M b o2 nc ns e1 e2 e3 => ?_, fun M b i nc ns e1 e2 e3 => ?_⟩
    · refine zpE_run1 1 (L' := [some (.ref 44), some (.int b), o2]) (st' := [.int (Int32.ofInt 2), .int b]) rfl ?_
      refine zpE_icmp rfl (fun _ => ?_) (fun _ => ?_)
      · exact zpE_end rfl rfl ⟨M, rfl, e1, e2, e3⟩
      · exact zpE_run 2 rfl (i2 _ _ _ _ _ e1 e2 e3)
    · refine zpE_run1 1 (L' := [some (.ref 44), some (.int b), some (.int i)]) (st' := [.int (Int8.ofInt 8).toInt32, .int i]) rfl ?_
      refine zpE_icmp rfl (fun _ => ?_) (fun _ => ?_)
      · exact zpE_run 2 rfl (i1 _ _ _ _ _ e1 e2 e3)
      · refine zpE_run 12 (L' := [some (.ref 44), some (.int b), some (.int i)]) (st' := [.int (b * (Int8.ofInt 10).toInt32 + i), .int (b * (Int8.ofInt 8).toInt32 + i), .ref 69]) rfl ?_
        refine zpE_asy rfl (zy_g69 (M := M)) (zy_s69 (M := M)) (fun _ _ => ?_)
        refine zpE_gen (fun nc ns => ?_)
        exact zpE_run 2 rfl (i2 _ _ _ _ _ e1 (fun j hj => (if_neg hj).trans (e2 j hj)) e3)
theorem r_110 : zpM xs N 110 [.ref 44] (zx s a [(7, (zcf 7).map (fun q => zdf q.2))]) nc ns (fun o => zP0 s a o.2.1) := by
  intro L0 e
  cases e
  refine zpE_run 2 (h' := zx s a ((7, [.int 0, .int 0, .int 0, .null, .int 0, .int 0, .int 0, .int 0, .int 0, .int 0, .int 0, .int 0, .int 0, .int 0, .int 0, .int 0, .null, .null, .null, .null, .null, .null, .null, .null, .null, .null]) :: [])) rfl ?_
  refine zpE_run 3 (h' := zx s a ((7, [.int 0, .int (Int8.ofInt 8).toInt32, .int 0, .null, .int 0, .int 0, .int 0, .int 0, .int 0, .int 0, .int 0, .int 0, .int 0, .int 0, .int 0, .int 0, .null, .null, .null, .null, .null, .null, .null, .null, .null, .null]) :: [])) rfl ?_
  refine zpE_run 3 (h' := zx s a ((7, [.int 0, .int (Int8.ofInt 8).toInt32, .int (Int32.ofInt 5), .null, .int 0, .int 0, .int 0, .int 0, .int 0, .int 0, .int 0, .int 0, .int 0, .int 0, .int 0, .int 0, .null, .null, .null, .null, .null, .null, .null, .null, .null, .null]) :: [])) rfl ?_
  refine zpE_run 4 (h' := zx s a ((7, [.int 0, .int (Int8.ofInt 8).toInt32, .int (Int32.ofInt 5), .ref 45, .int 0, .int 0, .int 0, .int 0, .int 0, .int 0, .int 0, .int 0, .int 0, .int 0, .int 0, .int 0, .null, .null, .null, .null, .null, .null, .null, .null, .null, .null]) :: [(100, [])])) rfl ?_
  refine zpE_run 3 (h' := zx s a ((7, [.int 0, .int (Int8.ofInt 8).toInt32, .int (Int32.ofInt 5), .ref 45, .int 0, .int (Int8.ofInt 16).toInt32, .int 0, .int 0, .int 0, .int 0, .int 0, .int 0, .int 0, .int 0, .int 0, .int 0, .null, .null, .null, .null, .null, .null, .null, .null, .null, .null]) :: [(100, [])])) rfl ?_
  refine zpE_run 3 (h' := zx s a ((7, [.int 0, .int (Int8.ofInt 8).toInt32, .int (Int32.ofInt 5), .ref 45, .int 0, .int (Int8.ofInt 16).toInt32, .int (Int8.ofInt 20).toInt32, .int 0, .int 0, .int 0, .int 0, .int 0, .int 0, .int 0, .int 0, .int 0, .null, .null, .null, .null, .null, .null, .null, .null, .null, .null]) :: [(100, [])])) rfl ?_
  refine zpE_run 3 (h' := zx s a ((7, [.int 0, .int (Int8.ofInt 8).toInt32, .int (Int32.ofInt 5), .ref 45, .int 0, .int (Int8.ofInt 16).toInt32, .int (Int8.ofInt 20).toInt32, .int 0, .int 0, .int 0, .int 0, .int (Int32.ofInt (-1)), .int 0, .int 0, .int 0, .int 0, .null, .null, .null, .null, .null, .null, .null, .null, .null, .null]) :: [(100, [])])) rfl ?_
  refine zpE_run 5 (h' := zx s a ((7, [.int 0, .int (Int8.ofInt 8).toInt32, .int (Int32.ofInt 5), .ref 45, .int 0, .int (Int8.ofInt 16).toInt32, .int (Int8.ofInt 20).toInt32, .int 0, .int 0, .int 0, .int 0, .int (Int32.ofInt (-1)), .int 0, .int 0, .int 0, .int 0, .ref 46, .null, .null, .null, .null, .null, .null, .null, .null, .null]) :: [(100, []), (104, (List.range 20).map (fun j => .ref (47 + j))), (100, List.replicate 8 (.int 0)), (100, List.replicate 8 (.int 0)), (100, List.replicate 8 (.int 0)), (100, List.replicate 8 (.int 0)), (100, List.replicate 8 (.int 0)), (100, List.replicate 8 (.int 0)), (100, List.replicate 8 (.int 0)), (100, List.replicate 8 (.int 0)), (100, List.replicate 8 (.int 0)), (100, List.replicate 8 (.int 0)), (100, List.replicate 8 (.int 0)), (100, List.replicate 8 (.int 0)), (100, List.replicate 8 (.int 0)), (100, List.replicate 8 (.int 0)), (100, List.replicate 8 (.int 0)), (100, List.replicate 8 (.int 0)), (100, List.replicate 8 (.int 0)), (100, List.replicate 8 (.int 0)), (100, List.replicate 8 (.int 0)), (100, List.replicate 8 (.int 0))])) rfl ?_
  refine zpE_run 4 (h' := zx s a ((7, [.int 0, .int (Int8.ofInt 8).toInt32, .int (Int32.ofInt 5), .ref 45, .int 0, .int (Int8.ofInt 16).toInt32, .int (Int8.ofInt 20).toInt32, .int 0, .int 0, .int 0, .int 0, .int (Int32.ofInt (-1)), .int 0, .int 0, .int 0, .int 0, .ref 46, .ref 67, .null, .null, .null, .null, .null, .null, .null, .null]) :: [(100, []), (104, (List.range 20).map (fun j => .ref (47 + j))), (100, List.replicate 8 (.int 0)), (100, List.replicate 8 (.int 0)), (100, List.replicate 8 (.int 0)), (100, List.replicate 8 (.int 0)), (100, List.replicate 8 (.int 0)), (100, List.replicate 8 (.int 0)), (100, List.replicate 8 (.int 0)), (100, List.replicate 8 (.int 0)), (100, List.replicate 8 (.int 0)), (100, List.replicate 8 (.int 0)), (100, List.replicate 8 (.int 0)), (100, List.replicate 8 (.int 0)), (100, List.replicate 8 (.int 0)), (100, List.replicate 8 (.int 0)), (100, List.replicate 8 (.int 0)), (100, List.replicate 8 (.int 0)), (100, List.replicate 8 (.int 0)), (100, List.replicate 8 (.int 0)), (100, List.replicate 8 (.int 0)), (100, List.replicate 8 (.int 0)), (100, List.replicate 20 (.int 0))])) rfl ?_
  refine zpE_run 4 (h' := zx s a ((7, [.int 0, .int (Int8.ofInt 8).toInt32, .int (Int32.ofInt 5), .ref 45, .int 0, .int (Int8.ofInt 16).toInt32, .int (Int8.ofInt 20).toInt32, .int 0, .int 0, .int 0, .int 0, .int (Int32.ofInt (-1)), .int 0, .int 0, .int 0, .int 0, .ref 46, .ref 67, .ref 68, .null, .null, .null, .null, .null, .null, .null]) :: [(100, []), (104, (List.range 20).map (fun j => .ref (47 + j))), (100, List.replicate 8 (.int 0)), (100, List.replicate 8 (.int 0)), (100, List.replicate 8 (.int 0)), (100, List.replicate 8 (.int 0)), (100, List.replicate 8 (.int 0)), (100, List.replicate 8 (.int 0)), (100, List.replicate 8 (.int 0)), (100, List.replicate 8 (.int 0)), (100, List.replicate 8 (.int 0)), (100, List.replicate 8 (.int 0)), (100, List.replicate 8 (.int 0)), (100, List.replicate 8 (.int 0)), (100, List.replicate 8 (.int 0)), (100, List.replicate 8 (.int 0)), (100, List.replicate 8 (.int 0)), (100, List.replicate 8 (.int 0)), (100, List.replicate 8 (.int 0)), (100, List.replicate 8 (.int 0)), (100, List.replicate 8 (.int 0)), (100, List.replicate 8 (.int 0)), (100, List.replicate 20 (.int 0)), (100, List.replicate 20 (.int 0))])) rfl ?_
  refine zpE_run 4 (h' := zx s a ((7, [.int 0, .int (Int8.ofInt 8).toInt32, .int (Int32.ofInt 5), .ref 45, .int 0, .int (Int8.ofInt 16).toInt32, .int (Int8.ofInt 20).toInt32, .int 0, .int 0, .int 0, .int 0, .int (Int32.ofInt (-1)), .int 0, .int 0, .int 0, .int 0, .ref 46, .ref 67, .ref 68, .ref 69, .null, .null, .null, .null, .null, .null]) :: [(100, []), (104, (List.range 20).map (fun j => .ref (47 + j))), (100, List.replicate 8 (.int 0)), (100, List.replicate 8 (.int 0)), (100, List.replicate 8 (.int 0)), (100, List.replicate 8 (.int 0)), (100, List.replicate 8 (.int 0)), (100, List.replicate 8 (.int 0)), (100, List.replicate 8 (.int 0)), (100, List.replicate 8 (.int 0)), (100, List.replicate 8 (.int 0)), (100, List.replicate 8 (.int 0)), (100, List.replicate 8 (.int 0)), (100, List.replicate 8 (.int 0)), (100, List.replicate 8 (.int 0)), (100, List.replicate 8 (.int 0)), (100, List.replicate 8 (.int 0)), (100, List.replicate 8 (.int 0)), (100, List.replicate 8 (.int 0)), (100, List.replicate 8 (.int 0)), (100, List.replicate 8 (.int 0)), (100, List.replicate 8 (.int 0)), (100, List.replicate 20 (.int 0)), (100, List.replicate 20 (.int 0)), (100, List.replicate 16 (.int 0))])) rfl ?_
  refine zpE_run 4 (h' := zx s a ((7, [.int 0, .int (Int8.ofInt 8).toInt32, .int (Int32.ofInt 5), .ref 45, .int 0, .int (Int8.ofInt 16).toInt32, .int (Int8.ofInt 20).toInt32, .int 0, .int 0, .int 0, .int 0, .int (Int32.ofInt (-1)), .int 0, .int 0, .int 0, .int 0, .ref 46, .ref 67, .ref 68, .ref 69, .ref 70, .null, .null, .null, .null, .null]) :: [(100, []), (104, (List.range 20).map (fun j => .ref (47 + j))), (100, List.replicate 8 (.int 0)), (100, List.replicate 8 (.int 0)), (100, List.replicate 8 (.int 0)), (100, List.replicate 8 (.int 0)), (100, List.replicate 8 (.int 0)), (100, List.replicate 8 (.int 0)), (100, List.replicate 8 (.int 0)), (100, List.replicate 8 (.int 0)), (100, List.replicate 8 (.int 0)), (100, List.replicate 8 (.int 0)), (100, List.replicate 8 (.int 0)), (100, List.replicate 8 (.int 0)), (100, List.replicate 8 (.int 0)), (100, List.replicate 8 (.int 0)), (100, List.replicate 8 (.int 0)), (100, List.replicate 8 (.int 0)), (100, List.replicate 8 (.int 0)), (100, List.replicate 8 (.int 0)), (100, List.replicate 8 (.int 0)), (100, List.replicate 8 (.int 0)), (100, List.replicate 20 (.int 0)), (100, List.replicate 20 (.int 0)), (100, List.replicate 16 (.int 0)), (100, List.replicate 2 (.int 0))])) rfl ?_
  refine zpE_run 4 (h' := zx s a ((7, [.int 0, .int (Int8.ofInt 8).toInt32, .int (Int32.ofInt 5), .ref 45, .int 0, .int (Int8.ofInt 16).toInt32, .int (Int8.ofInt 20).toInt32, .int 0, .int 0, .int 0, .int 0, .int (Int32.ofInt (-1)), .int 0, .int 0, .int 0, .int 0, .ref 46, .ref 67, .ref 68, .ref 69, .ref 70, .ref 71, .null, .null, .null, .null]) :: [(100, []), (104, (List.range 20).map (fun j => .ref (47 + j))), (100, List.replicate 8 (.int 0)), (100, List.replicate 8 (.int 0)), (100, List.replicate 8 (.int 0)), (100, List.replicate 8 (.int 0)), (100, List.replicate 8 (.int 0)), (100, List.replicate 8 (.int 0)), (100, List.replicate 8 (.int 0)), (100, List.replicate 8 (.int 0)), (100, List.replicate 8 (.int 0)), (100, List.replicate 8 (.int 0)), (100, List.replicate 8 (.int 0)), (100, List.replicate 8 (.int 0)), (100, List.replicate 8 (.int 0)), (100, List.replicate 8 (.int 0)), (100, List.replicate 8 (.int 0)), (100, List.replicate 8 (.int 0)), (100, List.replicate 8 (.int 0)), (100, List.replicate 8 (.int 0)), (100, List.replicate 8 (.int 0)), (100, List.replicate 8 (.int 0)), (100, List.replicate 20 (.int 0)), (100, List.replicate 20 (.int 0)), (100, List.replicate 16 (.int 0)), (100, List.replicate 2 (.int 0)), (101, List.replicate 128 (.int 0))])) rfl ?_
  refine zpE_run 4 (h' := zx s a ((7, [.int 0, .int (Int8.ofInt 8).toInt32, .int (Int32.ofInt 5), .ref 45, .int 0, .int (Int8.ofInt 16).toInt32, .int (Int8.ofInt 20).toInt32, .int 0, .int 0, .int 0, .int 0, .int (Int32.ofInt (-1)), .int 0, .int 0, .int 0, .int 0, .ref 46, .ref 67, .ref 68, .ref 69, .ref 70, .ref 71, .ref 72, .null, .null, .null]) :: [(100, []), (104, (List.range 20).map (fun j => .ref (47 + j))), (100, List.replicate 8 (.int 0)), (100, List.replicate 8 (.int 0)), (100, List.replicate 8 (.int 0)), (100, List.replicate 8 (.int 0)), (100, List.replicate 8 (.int 0)), (100, List.replicate 8 (.int 0)), (100, List.replicate 8 (.int 0)), (100, List.replicate 8 (.int 0)), (100, List.replicate 8 (.int 0)), (100, List.replicate 8 (.int 0)), (100, List.replicate 8 (.int 0)), (100, List.replicate 8 (.int 0)), (100, List.replicate 8 (.int 0)), (100, List.replicate 8 (.int 0)), (100, List.replicate 8 (.int 0)), (100, List.replicate 8 (.int 0)), (100, List.replicate 8 (.int 0)), (100, List.replicate 8 (.int 0)), (100, List.replicate 8 (.int 0)), (100, List.replicate 8 (.int 0)), (100, List.replicate 20 (.int 0)), (100, List.replicate 20 (.int 0)), (100, List.replicate 16 (.int 0)), (100, List.replicate 2 (.int 0)), (101, List.replicate 128 (.int 0)), (101, List.replicate 128 (.int 0))])) rfl ?_
  refine zpE_run 3 (h' := zx s a (zmT (.ref 45) .null .null .null [(10, [.int 0, .null, .int 0])])) rfl ?_
  refine zpE_call rfl rfl (zpM_of (m_242 (D := 17) (h := zx s a (zmT (.ref 45) .null .null .null [])))) (fun v h9 nc9 ns9 q => ?_) (fun E h9 nc9 ns9 q => by cases q)
  cases q
  refine zpE_run 4 (h' := zx s a (zmT (.ref 45) (.ref 73) .null .null [zli, (10, [.int 0, .null, .int 0])])) rfl ?_
  refine zpE_call rfl rfl (zpM_of (m_242 (D := 17) (h := zx s a (zmT (.ref 45) (.ref 73) .null .null [zli])))) (fun v h9 nc9 ns9 q => ?_) (fun E h9 nc9 ns9 q => by cases q)
  cases q
  refine zpE_run 4 (h' := zx s a (zmT (.ref 45) (.ref 73) (.ref 74) .null [zli, zli, (10, [.int 0, .null, .int 0])])) rfl ?_
  refine zpE_call rfl rfl (zpM_of (m_242 (D := 17) (h := zx s a (zmT (.ref 45) (.ref 73) (.ref 74) .null [zli, zli])))) (fun v h9 nc9 ns9 q => ?_) (fun E h9 nc9 ns9 q => by cases q)
  cases q
  refine zpE_run 6 (h' := zx s a (zmT (.ref 45) (.ref 73) (.ref 74) (.ref 75) [zli, zli, zli])) rfl ?_
  refine zpE_call rfl rfl (r_116 (k := 8) (r := 5) (by decide) (Or.inr (Or.inl rfl)) (zcds_dl (8, 5) (by decide))) (fun v h9 nc9 ns9 q => ?_) (fun E h9 nc9 ns9 q => by cases q)
  cases q
  refine zpE_run 1 (h' := zx s a (zmT (.ref 76) (.ref 73) (.ref 74) (.ref 75) [zli, zli, zli, zar (zcol 8 5)])) rfl ?_
  refine zpE_run 2 (L' := [some (.ref 44), some (.int (Int32.ofInt 0)), none]) (st' := []) (h' := zy (s, a) zMini (zX0 [])) rfl ?_
  exact (r_ini N).1 _ _ _ _ _ rfl (fun _ _ => rfl) rfl
theorem zst0 {h : zH} {M : zRt} {vs : List Value} (e : h = zy (s, a) M (zX0 [])) (e2 : M.2.2 = zL0) (ho : zOu vs) : zJq (s, a) M h.length (h ++ [(6, vs)]) := by
  have hl : h.length = 77 := by
    rw [e]
    rfl
  rw [hl]
  refine ⟨zX0 [(6, vs)], vs, by rw [e]; rfl, ?_, ho⟩
  rw [e2]
  have ei : ∀ i, i < 3 → (zX0 [(6, vs)]).1 i = 73 + i := by
    intro i hi
    show (if i = 9 then 76 else 73 + i) = _
    rw [if_neg (by omega)]
  refine ⟨⟨fun _ => none, fun i hi => ⟨?_, ?_, fun q z => (by cases z), fun j hj ne => ⟨?_, fun q z => (by cases z)⟩⟩⟩, fun i hi => ⟨rfl, Nat.zero_le _, fun k l z => (by cases z)⟩, ⟨show 73 ≤ 76 by decide, rfl, show (zcol 8 5).length ≤ 16 by decide +kernel⟩, show 73 ≤ 77 by decide, rfl, rfl⟩
  · rw [ei i hi]
    omega
  · rcases (show i = 0 ∨ i = 1 ∨ i = 2 by omega) with rfl | rfl | rfl <;> exact ⟨0, rfl, rfl⟩
  · rw [ei i hi, ei j hj]
    omega
theorem zBr_0 {s : Nat → Int32} {a : Nat → List Int32} {M : zRt} (r16 : a 16 = za00 16) (r18 : a 18 = za00 18) (f1 : M.2.1 23 = zMini.2.1 23) (f2 : M.2.1 25 = zMini.2.1 25) : zBr (s, a) M := by
  have e16 : za00 16 = List.replicate 2 0 := rfl
  have e18 : za00 18 = List.replicate 128 0 := rfl
  have m1 : zMini.2.1 23 = List.replicate 2 0 := rfl
  have m2 : zMini.2.1 25 = List.replicate 128 0 := rfl
  unfold zBr
  rw [f1, f2, m1, m2]
  show (a 16 = _ ∧ (a 16).length = 2 ∧ ∀ x ∈ a 16, _) ∧ a 18 = _ ∧ (a 18).length = 128 ∧ ∀ x ∈ a 18, _
  rw [r16, r18, e16, e18]
  refine ⟨⟨rfl, by simp, fun x hx => ?_⟩, rfl, by simp, fun x hx => Or.inl (List.eq_of_mem_replicate hx)⟩
  rw [List.eq_of_mem_replicate hx]
  decide
end ZLA
set_option maxRecDepth 10000 in
theorem m_52d {xs : List Int32} {D nc ns : Nat} : zMs xs (D + 6) 52 [.ref 0] [(5, (zcf 5).map (fun q => zdf q.2))] nc ns (fun o => ∃ s a nc' ns', zaL a ∧ (zRC s a 8 5 ∧ (a 0).length = 16) ∧ (s 4 = 0 ∧ a 16 = za00 16 ∧ a 18 = za00 18) ∧ nc' ≤ nc + 60 ∧ ns' ≤ ns + 2000 ∧ o = (.inl none, zx s a [], nc', ns')) := by
  refine ⟨_, rfl, m_52a (fun nc' ns' h1 h2 => ?_)⟩
  have lp : ∀ (n : Nat) (i : Int32) (a : Nat → List Int32), zfr [] [15] zs00 za00 zs00 a → (((Int8.ofInt 16).toInt32).toInt - i.toInt).toNat < n → zEs xs (D + 6) 52 92 [some (.ref 0), some (.int i)] [] (zx zs00 a []) nc' ns' (fun o => ∃ s a nc' ns', zaL a ∧ (zRC s a 8 5 ∧ (a 0).length = 16) ∧ (s 4 = 0 ∧ a 16 = za00 16 ∧ a 18 = za00 18) ∧ nc' ≤ nc + 60 ∧ ns' ≤ ns + 2000 ∧ o = (.inl none, zx s a [], nc', ns')) := by
    intro n
    induction n with
    | zero =>
      intro i a f hn
      exact absurd hn (Nat.not_lt_zero _)
    | succ n ih =>
      intro i a f hn
      refine zEs_run 2 rfl ?_
      refine zEs_icmp rfl (fun _ => ?_) (fun g => ?_)
      · have l0 : (a 0).length = 16 := by
          rw [f.2.1 0 (by decide)]
          decide
        have l1 : (a 1).length = 64 := by
          rw [f.2.1 1 (by decide)]
          decide
        refine zEs_run 4 rfl ?_
        refine zEs_callG rfl rfl (zMs_and (zMs_mono (show 2 ≤ D + 5 by omega) (k_3 (D := 0) (x1 := Int32.ofNat 8) (x2 := Int32.ofNat 5) f.2.2 (by decide))) (fun N => p_3 (k := 8) (r := 5) (by decide) (Or.inr (Or.inl rfl)) (zcds_dl (8, 5) (by decide)) l0 l1)) (fun v h9 nc1 ns1 q => ?_) (fun E h9 nc1 ns1 q => by obtain ⟨-, _, q, _⟩ := q; cases q)
        obtain ⟨-, a1, q, g1, g2, g3, g4⟩ := q
        cases q
        have hL1 : zaL a1 := by
          intro j
          by_cases j0 : j = 0
          · rw [j0, g2]
            decide
          · by_cases j1 : j = 1
            · rw [j1, g3, zts_len]
              decide
            · rw [g4 j j0 j1]
              exact f.2.2 j
        refine zEs_run 5 rfl ?_
        refine zEs_wv rfl rfl (k_40 hL1) (fun E hE => by cases hE) (fun s2 a2 e2 => ?_)
        refine zEs_end rfl rfl ⟨s2, a2, nc', ns', e2.2.2, ⟨⟨by decide, (e2.1 0 (by decide)).trans rfl, (e2.1 1 (by decide)).trans rfl, (e2.1 2 (by decide)).trans rfl, ?_, ?_⟩, ?_⟩, ?_, h1, h2, rfl⟩
        · rw [e2.2.1 0 (by decide)]
          exact g1
        · rw [e2.2.1 1 (by decide)]
          exact g3
        · rw [e2.2.1 0 (by decide)]
          exact g2
        · exact ⟨(e2.1 4 (by decide)).trans rfl, (e2.2.1 16 (by decide)).trans ((g4 16 (by decide) (by decide)).trans (f.2.1 16 (by decide))), (e2.2.1 18 (by decide)).trans ((g4 18 (by decide) (by decide)).trans (f.2.1 18 (by decide)))⟩
      · have g : ¬ (Int8.ofInt 16).toInt32 ≤ i := g
        refine zEs_run 6 rfl ?_
        refine zEs_callG rfl rfl (x_26 15 37 36 rfl rfl (fun _ => rfl) f.2.2) (fun v h9 nc1 ns1 q => ?_) (fun E h9 nc1 ns1 q => ?_)
        · rcases q with ⟨v', s2, a2, hv, f2, q⟩ | ⟨E, hE, q⟩
          · cases q
            cases (show v = none from hv)
            have e : s2 = zs00 := funext (fun k => f2.1 k (by simp))
            subst e
            refine zEs_run 2 rfl ?_
            exact ih _ _ (zfr_tr f f2) (Nat.lt_of_lt_of_le (zdec g) (Nat.le_of_lt_succ hn))
          · cases hE
        · rcases q with ⟨_, _, _, _, _, q⟩ | ⟨_, hE, _⟩
          · cases q
          · cases hE
  refine zEs_run 2 rfl ?_
  exact lp _ _ _ (zfr_rf za00_L) (Nat.lt_succ_self _)

section ZX3
variable {xs : List Int32} {q : Nat}
set_option maxRecDepth 20000
theorem l_214 {NC NS : Nat} (hN : xs.length ≤ 3072) : ∀ (n : Nat) (c : Nat × Nat) (S : zSt) (M : zRt) (i : Int32) (o5 o6 o7 : Option Value) (h : zH) (nc ns : Nat), zWI c c q h → zJq S M q h → zAA S M → 0 ≤ i.toInt → i.toInt ≤ xs.length → 6 * (nc : Int) + 410 * (xs.length - i.toInt) ≤ 6 * NC → 6 * (ns : Int) + 14100 * (xs.length - i.toInt) ≤ 6 * NS → (xs.length - i.toInt).toNat < n → zEs xs 41 214 27 [some (.retAddr 0), some (.ref 0), some (.ref 44), some (.ref q), some (.int i), o5, o6, o7] [] h nc ns (zPb NC NS)
  | 0, _, _, _, _, _, _, _, _, _, _, _, _, _, _, _, _, _, hn => absurd hn (Nat.not_lt_zero _)
  | n + 1, c, S, M, i, o5, o6, o7, h, nc, ns, hW, hJ, hA, i0, i1, b1, b2, hn => by
    have e1 : (Int32.ofNat xs.length).toInt = (xs.length : Int) := Int32.toInt_ofNat_of_lt (by omega)
    have e2 := Int32.toInt_sub (Int32.ofNat xs.length) (Int8.ofInt 6).toInt32
    rw [e1, show ((Int8.ofInt 6).toInt32).toInt = 6 from by decide, zbm (by omega) (by omega)] at e2
    refine zEs_run 5 rfl ?_
    refine zEs_icmp rfl (fun _ => ?_) (fun g9 => ?_)
    · refine zEs_run 1 rfl ?_
      exact zEs_end rfl rfl ⟨_, _, _, rfl, by omega, by omega⟩
    · have z := zF_gt_f g9
      have z : i.toInt ≤ (Int32.ofNat xs.length - (Int8.ofInt 6).toInt32).toInt := z
      have hlt : i.toInt.toNat < xs.length := by omega
      have e3 := zinc_le (x := i) (n := 6) (by omega) (by decide) (by decide)
      have K : ∀ (c' : Nat × Nat) (S' : zSt) (M' : zRt) (p5 p6 p7 : Option Value) (h' : zH) (nc' ns' : Nat), zWI c' c' q h' → zJq S' M' q h' → zAA S' M' → nc' ≤ nc + 410 → ns' ≤ ns + 14100 → zEs xs 41 214 1301 [some (.retAddr 0), some (.ref 0), some (.ref 44), some (.ref q), some (.int i), p5, p6, p7] [] h' nc' ns' (zPb NC NS) := by
        intro c' S' M' p5 p6 p7 h' nc' ns' W J A d1 d2
        refine zEs_run 2 rfl ?_
        exact l_214 hN n c' S' M' _ p5 p6 p7 h' _ _ W J A (by omega) (by omega) (by omega) (by omega) (by omega)
      refine zEs_run 2 rfl ?_
      refine zEs_scr (v := xs[i.toInt.toNat]) rfl (fun z => by
        have z := zlt_z z
        rw [zero_z] at z
        omega) (show xs[i.toInt.toNat]? = some _ from List.getElem?_eq_getElem hlt) ?_
      refine zEs_run 2 rfl ?_
      refine zEs_tab [176, 245, 285, 313, 353, 421, 473, 525, 633, 673, 729, 757, 770, 783, 811, 839, 879, 907, 947, 999, 1039, 1095, 1123, 1151, 1191, 1219, 1247, 1275, 1288, 1301] rfl (by decide) (by decide) (List.forall_mem_cons.mpr ⟨?_, List.forall_mem_cons.mpr ⟨?_, List.forall_mem_cons.mpr ⟨?_, List.forall_mem_cons.mpr ⟨?_, List.forall_mem_cons.mpr ⟨?_, List.forall_mem_cons.mpr ⟨?_, List.forall_mem_cons.mpr ⟨?_, List.forall_mem_cons.mpr ⟨?_, List.forall_mem_cons.mpr ⟨?_, List.forall_mem_cons.mpr ⟨?_, List.forall_mem_cons.mpr ⟨?_, List.forall_mem_cons.mpr ⟨?_, List.forall_mem_cons.mpr ⟨?_, List.forall_mem_cons.mpr ⟨?_, List.forall_mem_cons.mpr ⟨?_, List.forall_mem_cons.mpr ⟨?_, List.forall_mem_cons.mpr ⟨?_, List.forall_mem_cons.mpr ⟨?_, List.forall_mem_cons.mpr ⟨?_, List.forall_mem_cons.mpr ⟨?_, List.forall_mem_cons.mpr ⟨?_, List.forall_mem_cons.mpr ⟨?_, List.forall_mem_cons.mpr ⟨?_, List.forall_mem_cons.mpr ⟨?_, List.forall_mem_cons.mpr ⟨?_, List.forall_mem_cons.mpr ⟨?_, List.forall_mem_cons.mpr ⟨?_, List.forall_mem_cons.mpr ⟨?_, List.forall_mem_cons.mpr ⟨?_, List.forall_mem_cons.mpr ⟨?_, fun _ h => absurd h List.not_mem_nil⟩⟩⟩⟩⟩⟩⟩⟩⟩⟩⟩⟩⟩⟩⟩⟩⟩⟩⟩⟩⟩⟩⟩⟩⟩⟩⟩⟩⟩⟩)
      · exact lj_c176 hW hJ hA i0 (by omega) (by omega) K
      · exact lj_c245 hW hJ hA i0 (by omega) (by omega) K
      · exact lj_c285 hW hJ hA i0 (by omega) (by omega) K
      · exact lj_c313 hW hJ hA i0 (by omega) (by omega) K
      · exact lj_c353 hW hJ hA i0 (by omega) (by omega) K
      · exact lj_c421 hW hJ hA i0 (by omega) (by omega) K
      · exact lj_c473 hW hJ hA i0 (by omega) (by omega) K
      · exact lj_c525 hW hJ hA i0 (by omega) (by omega) K
      · exact lj_c633 hW hJ hA i0 (by omega) (by omega) K
      · exact lj_c673 hW hJ hA i0 (by omega) (by omega) K
      · exact lj_c729 hW hJ hA i0 (by omega) (by omega) K
      · exact lj_c757 hW hJ hA i0 (by omega) (by omega) K
      · exact lj_c770 hW hJ hA i0 (by omega) (by omega) K
      · exact lj_c783 hW hJ hA i0 (by omega) (by omega) K
      · exact lj_c811 hW hJ hA i0 (by omega) (by omega) K
      · exact lj_c839 hW hJ hA i0 (by omega) (by omega) K
      · exact lj_c879 hW hJ hA i0 (by omega) (by omega) K
      · exact lj_c907 hW hJ hA i0 (by omega) (by omega) K
      · exact lj_c947 hW hJ hA i0 (by omega) (by omega) K
      · exact lj_c999 hW hJ hA i0 (by omega) (by omega) K
      · exact lj_c1039 hW hJ hA i0 (by omega) (by omega) K
      · exact lj_c1095 hW hJ hA i0 (by omega) (by omega) K
      · exact lj_c1123 hW hJ hA i0 (by omega) (by omega) K
      · exact lj_c1151 hW hJ hA i0 (by omega) (by omega) K
      · exact lj_c1191 hW hJ hA i0 (by omega) (by omega) K
      · exact lj_c1219 hW hJ hA i0 (by omega) (by omega) K
      · exact lj_c1247 hW hJ hA i0 (by omega) (by omega) K
      · exact lj_c1275 hW hJ hA i0 (by omega) (by omega) K
      · exact lj_c1288 hW hJ hA i0 (by omega) (by omega) K
      · exact K c S M o5 o6 o7 h _ _ hW hJ hA (by omega) (by omega)
theorem m_109 {H : zH} {vs : List Value} {D nc ns : Nat} : zMs xs (D + 0) 109 [.ref H.length] (H ++ [(6, vs)]) nc ns (fun o => o = (.inl none, H ++ [(6, vs)], nc, ns)) := ⟨_, rfl, zEs_run 2 rfl (zEs_end rfl rfl rfl)⟩
theorem m_214 (hN : xs.length ≤ 3072) : zMs xs 41 214 [.retAddr 0] [] 0 0 (zPb 601024 7293034) := by
  refine ⟨_, rfl, zEs_run 2 (h' := [(5, (zcf 5).map (fun q => zdf q.2))]) rfl ?_⟩
  refine zEs_callG rfl rfl (m_52d (D := 34)) (fun v h9 nc9 ns9 w => ?_) (fun E h9 nc9 ns9 w => by obtain ⟨_, _, _, _, _, _, _, _, _, w⟩ := w; cases w)
  obtain ⟨s, a, nc1, ns1, hL, hC, ⟨s4, r16, r18⟩, a1, a2, w⟩ := w
  cases w
  refine zEs_run 3 (h' := zx s a [(7, (zcf 7).map (fun q => zdf q.2))]) rfl ?_
  refine zEs_callG rfl (show zcallI 0 110 15 [.ref 44, .ref 44] = some (.inr (.inl (110, [.ref 44], [.ref 44], 15))) from rfl) (zMs_mono (show 20 ≤ 40 by decide) (zMs_and m_110 (fun N => r_110))) (fun v h9 nc9 ns9 w => ?_) (fun E h9 nc9 ns9 w => by obtain ⟨⟨_, _, _, _, _, w, _⟩, _⟩ := w; cases w)
  obtain ⟨⟨n, lg, h1, nc2, ns2, w, hI, row, b1, b2⟩, M, f1, f2, f3, f4⟩ := w
  cases w
  refine zEs_run 3 rfl ?_
  refine zEs_callG rfl rfl (m_109 (D := 40)) (fun v h9 nc9 ns9 w => ?_) (fun E h9 nc9 ns9 w => by cases w)
  cases w
  refine zEs_run 3 rfl ?_
  have t5 : (zcf 5).length = 12 := rfl
  have t7 : (zcf 7).length = 26 := rfl
  have t6 : (zcf 6).length = 3 := rfl
  have z0 : (Int32.ofInt 0).toInt = 0 := by decide
  have hlen := zHI_len hI
  have l1 : (a 1).length = 64 := by
    rw [hC.1.2.2.2.2.2]
    exact zts_ln
  refine l_214 hN _ (8, 5) (s, a) M (Int32.ofInt 0) _ _ _ _ _ _ ?_ (zst0 f1 f4 ⟨_, _, _, rfl⟩) ⟨hL, ⟨⟨hC.2, l1, by rw [f3 20 (by decide)]; rfl⟩, by show s 4 = M.1 4; rw [s4, f2]; rfl, by show 0 ≤ (s 4).toInt ∧ (s 4).toInt ≤ 2000; rw [s4]; decide⟩, zBr_0 r16 r18 (f3 23 (by decide)) (f3 25 (by decide))⟩ (by omega) (by omega) (by omega) (by omega) (Nat.lt_succ_self _)
  exact ⟨zgI s a n, lg, _, (zHI_mv hI (zapp_mv _)).1, hL, hC, ⟨by decide, congrArg Value.int (by decide), congrArg Value.int (by decide), 76, rfl, by decide, zapp_mv _ _ _ row⟩, by rw [show (zgI s a n).s 4 = 0 from s4]; decide, hlen, by rw [List.getElem?_append_right (Nat.le_refl _), Nat.sub_self]; rfl, rfl⟩
end ZX3
