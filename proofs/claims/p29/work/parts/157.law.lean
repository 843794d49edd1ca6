/-! The law, whole: safe and exact, over all that is alike. Written by wip/v3/f157z.py. -/
section ZLA
variable {xs : List Int32} {N nc ns : Nat} {s : Nat → Int32} {a : Nat → List Int32}
set_option maxRecDepth 20000
def zX0 (U : zH) : zXt := (fun j => if j = 9 then 76 else 73 + j, fun _ => [], zli0 :: zli0 :: zli0 :: zar (zcol 8 5) :: U)
def zL0 : (Nat → List (List Int32)) × List Int32 := (fun _ => [], zcol 8 5)
def zMini : zRt := (fun k => [0, (Int8.ofInt 8).toInt32, Int32.ofInt 5, 0, 0, (Int8.ofInt 16).toInt32, (Int8.ofInt 20).toInt32, 0, 0, 0, 0, Int32.ofInt (-1), 0, 0, 0, 0].getD k 0, fun k => if k < 20 then List.replicate 8 0 else [List.replicate 20 0, List.replicate 20 0, List.replicate 16 0, List.replicate 2 0, List.replicate 128 0, List.replicate 128 0].getD (k - 20) [], zL0)
theorem zst0 {h : zH} {M : zRt} {vs : List Value} (e : h = zy (s, a) M (zX0 [])) (e2 : M.2.2 = zL0) (ho : zOu vs) : zJq (s, a) M h.length (h ++ [(6, vs)]) := by
  have hl : h.length = 77 := by
    rw [e]
    rfl
  rw [hl]
  refine ⟨zX0 [(6, vs)], vs, by rw [e]; rfl, ?_, ho⟩
  rw [e2]
  have ei : ∀ i, i < 3 → (zX0 [(6, vs)]).1 i = 73 + i := by
    intro i hi
    show (if i = 9 then 76 else 73 + i) = _
    rw [if_neg (by omega)]
  refine ⟨⟨fun _ => none, fun i hi => ⟨?_, ?_, fun q z => (by cases z), fun j hj ne => ⟨?_, fun q z => (by cases z)⟩⟩⟩, fun i hi => ⟨rfl, Nat.zero_le _, fun k l z => (by cases z)⟩, ⟨show 73 ≤ 76 by decide, rfl, show (zcol 8 5).length ≤ 16 by decide +kernel⟩, show 73 ≤ 77 by decide, rfl, rfl⟩
  · rw [ei i hi]
    omega
  · rcases (show i = 0 ∨ i = 1 ∨ i = 2 by omega) with rfl | rfl | rfl <;> exact ⟨0, rfl, rfl⟩
  · rw [ei i hi, ei j hj]
    omega
theorem zBr_0 {s : Nat → Int32} {a : Nat → List Int32} {M : zRt} (r16 : a 16 = za00 16) (r18 : a 18 = za00 18) (f1 : M.2.1 23 = zMini.2.1 23) (f2 : M.2.1 25 = zMini.2.1 25) : zBr (s, a) M := by
  have e16 : za00 16 = List.replicate 2 0 := rfl
  have e18 : za00 18 = List.replicate 128 0 := rfl
  have m1 : zMini.2.1 23 = List.replicate 2 0 := rfl
  have m2 : zMini.2.1 25 = List.replicate 128 0 := rfl
  unfold zBr
  rw [f1, f2, m1, m2]
  show (a 16 = _ ∧ (a 16).length = 2 ∧ ∀ x ∈ a 16, _) ∧ a 18 = _ ∧ (a 18).length = 128 ∧ ∀ x ∈ a 18, _
  rw [r16, r18, e16, e18]
  refine ⟨⟨rfl, by simp, fun x hx => ?_⟩, rfl, by simp, fun x hx => Or.inl (List.eq_of_mem_replicate hx)⟩
  rw [List.eq_of_mem_replicate hx]
  decide
end ZLA
section ZLR
variable {xs : List Int32} {N nc ns : Nat} {s : Nat → Int32} {a : Nat → List Int32}
set_option maxRecDepth 20000
def zR22 (M : zRt) (n : Nat) : Prop := ∀ j, j < n → zgt (M.2.1 22) (Int32.ofNat j) = Int32.ofNat (j / 8 * 10 + j % 8)
def zP0r (s : Nat → Int32) (a : Nat → List Int32) (h : zH) : Prop := ∃ M : zRt, h = zy (s, a) M (zX0 []) ∧ M.1 = zMini.1 ∧ (∀ j, j ≠ 22 → M.2.1 j = zMini.2.1 j) ∧ M.2.2 = zL0 ∧ (M.2.1 22).length = 16 ∧ zR22 M 16
theorem r_inir : ∀ N : Nat, (∀ (M : zRt) (b : Int32) (B : Nat) (o2 : Option Value) (nc ns : Nat), b = Int32.ofNat B → M.1 = zMini.1 → B ≤ 2 → (∀ j, j ≠ 22 → M.2.1 j = zMini.2.1 j) → M.2.2 = zL0 → (M.2.1 22).length = 16 → zR22 M (B * 8) → zpE xs N 110 150 [some (.ref 44), some (.int b), o2] [] (zy (s, a) M (zX0 [])) nc ns (fun o => zP0r s a o.2.1)) ∧ ∀ (M : zRt) (B I nc ns : Nat), M.1 = zMini.1 → B < 2 → I ≤ 8 → (∀ j, j ≠ 22 → M.2.1 j = zMini.2.1 j) → M.2.2 = zL0 → (M.2.1 22).length = 16 → zR22 M (B * 8 + I) → zpE xs N 110 157 [some (.ref 44), some (.int (Int32.ofNat B)), some (.int (Int32.ofNat I))] [] (zy (s, a) M (zX0 [])) nc ns (fun o => zP0r s a o.2.1)
  | 0 => ⟨fun _ _ _ _ _ _ _ _ _ _ _ _ _ => zpE_0, fun _ _ _ _ _ _ _ _ _ _ _ _ => zpE_0⟩
  | N + 1 => by
    obtain ⟨i1, i2⟩ := r_inir N
    have e2 : (Int32.ofInt 2).toInt = 2 := by decide
    have e8 : ((Int8.ofInt 8).toInt32).toInt = 8 := by decide
    refine ⟨fun M b B o2 nc ns hb e1 hB e3 e4 e5 e6 => ?_, fun M B I nc ns e1 hB hI e3 e4 e5 e6 => ?_⟩
    · subst hb
      refine zpE_run1 1 (L' := [some (.ref 44), some (.int (Int32.ofNat B)), o2]) (st' := [.int (Int32.ofInt 2), .int (Int32.ofNat B)]) rfl ?_
      refine zpE_icmp rfl (fun g => ?_) (fun g => ?_)
      · have g := zF_ge_t g
        rw [e2, zof_0 (by omega)] at g
        obtain rfl : B = 2 := by omega
        exact zpE_end rfl rfl ⟨M, rfl, e1, e3, e4, e5, e6⟩
      · have g := zF_ge_f g
        rw [e2, zof_0 (by omega)] at g
        exact zpE_run 2 rfl (i2 M B 0 _ _ e1 (by omega) (by omega) e3 e4 e5 e6)
    · refine zpE_run1 1 (L' := [some (.ref 44), some (.int (Int32.ofNat B)), some (.int (Int32.ofNat I))]) (st' := [.int (Int8.ofInt 8).toInt32, .int (Int32.ofNat I)]) rfl ?_
      refine zpE_icmp rfl (fun g => ?_) (fun g => ?_)
      · have g := zF_ge_t g
        rw [e8, zof_0 (by omega)] at g
        obtain rfl : I = 8 := by omega
        exact zpE_run 2 rfl (i1 M _ (B + 1) _ _ _ (zof1 (a := B)) e1 (by omega) e3 e4 e5 (fun j hj => e6 j (by omega)))
      · have g := zF_ge_f g
        rw [e8, zof_0 (by omega)] at g
        refine zpE_run 12 (L' := [some (.ref 44), some (.int (Int32.ofNat B)), some (.int (Int32.ofNat I))]) (st' := [.int (Int32.ofNat B * (Int8.ofInt 10).toInt32 + Int32.ofNat I), .int (Int32.ofNat B * (Int8.ofInt 8).toInt32 + Int32.ofNat I), .ref 69]) rfl ?_
        rw [show (Int8.ofInt 10).toInt32 = Int32.ofNat 10 from rfl, show (Int8.ofInt 8).toInt32 = Int32.ofNat 8 from rfl, ← Int32.ofNat_mul, ← Int32.ofNat_mul, ← Int32.ofNat_add, ← Int32.ofNat_add]
        refine zpE_asy rfl (zy_g69 (M := M)) (zy_s69 (M := M)) (fun _ _ => ?_)
        refine zpE_gen (fun nc ns => ?_)
        have G := fun nc ns => i2 (zmW M 22 (Int32.ofNat (B * 8 + I)) (Int32.ofNat (B * 10 + I))) B (I + 1) nc ns e1 hB (by omega) (fun j hj => (if_neg hj).trans (e3 j hj)) e4 (zst_ln9.trans e5) (fun j hj => by
          show zgt (zst (M.2.1 22) (Int32.ofNat (B * 8 + I)) (Int32.ofNat (B * 10 + I))) (Int32.ofNat j) = _
          by_cases je : j = B * 8 + I
          · subst je
            rw [zgt_eq9 (by omega) (by omega)]
            congr 1
            omega
          · rw [zgt_ne9 (by omega) (by omega) je]
            exact e6 j (by omega))
        rw [← zof1] at G
        exact zpE_run 2 rfl (G _ _)
theorem r_110r : zpM xs N 110 [.ref 44] (zx s a [(7, (zcf 7).map (fun q => zdf q.2))]) nc ns (fun o => zP0r s a o.2.1) := by
  intro L0 e
  cases e
  refine zpE_run 2 (h' := zx s a ((7, [.int 0, .int 0, .int 0, .null, .int 0, .int 0, .int 0, .int 0, .int 0, .int 0, .int 0, .int 0, .int 0, .int 0, .int 0, .int 0, .null, .null, .null, .null, .null, .null, .null, .null, .null, .null]) :: [])) rfl ?_
  refine zpE_run 3 (h' := zx s a ((7, [.int 0, .int (Int8.ofInt 8).toInt32, .int 0, .null, .int 0, .int 0, .int 0, .int 0, .int 0, .int 0, .int 0, .int 0, .int 0, .int 0, .int 0, .int 0, .null, .null, .null, .null, .null, .null, .null, .null, .null, .null]) :: [])) rfl ?_
  refine zpE_run 3 (h' := zx s a ((7, [.int 0, .int (Int8.ofInt 8).toInt32, .int (Int32.ofInt 5), .null, .int 0, .int 0, .int 0, .int 0, .int 0, .int 0, .int 0, .int 0, .int 0, .int 0, .int 0, .int 0, .null, .null, .null, .null, .null, .null, .null, .null, .null, .null]) :: [])) rfl ?_
  refine zpE_run 4 (h' := zx s a ((7, [.int 0, .int (Int8.ofInt 8).toInt32, .int (Int32.ofInt 5), .ref 45, .int 0, .int 0, .int 0, .int 0, .int 0, .int 0, .int 0, .int 0, .int 0, .int 0, .int 0, .int 0, .null, .null, .null, .null, .null, .null, .null, .null, .null, .null]) :: [(100, [])])) rfl ?_
  refine zpE_run 3 (h' := zx s a ((7, [.int 0, .int (Int8.ofInt 8).toInt32, .int (Int32.ofInt 5), .ref 45, .int 0, .int (Int8.ofInt 16).toInt32, .int 0, .int 0, .int 0, .int 0, .int 0, .int 0, .int 0, .int 0, .int 0, .int 0, .null, .null, .null, .null, .null, .null, .null, .null, .null, .null]) :: [(100, [])])) rfl ?_
  refine zpE_run 3 (h' := zx s a ((7, [.int 0, .int (Int8.ofInt 8).toInt32, .int (Int32.ofInt 5), .ref 45, .int 0, .int (Int8.ofInt 16).toInt32, .int (Int8.ofInt 20).toInt32, .int 0, .int 0, .int 0, .int 0, .int 0, .int 0, .int 0, .int 0, .int 0, .null, .null, .null, .null, .null, .null, .null, .null, .null, .null]) :: [(100, [])])) rfl ?_
  refine zpE_run 3 (h' := zx s a ((7, [.int 0, .int (Int8.ofInt 8).toInt32, .int (Int32.ofInt 5), .ref 45, .int 0, .int (Int8.ofInt 16).toInt32, .int (Int8.ofInt 20).toInt32, .int 0, .int 0, .int 0, .int 0, .int (Int32.ofInt (-1)), .int 0, .int 0, .int 0, .int 0, .null, .null, .null, .null, .null, .null, .null, .null, .null, .null]) :: [(100, [])])) rfl ?_
  refine zpE_run 5 (h' := zx s a ((7, [.int 0, .int (Int8.ofInt 8).toInt32, .int (Int32.ofInt 5), .ref 45, .int 0, .int (Int8.ofInt 16).toInt32, .int (Int8.ofInt 20).toInt32, .int 0, .int 0, .int 0, .int 0, .int (Int32.ofInt (-1)), .int 0, .int 0, .int 0, .int 0, .ref 46, .null, .null, .null, .null, .null, .null, .null, .null, .null]) :: [(100, []), (104, (List.range 20).map (fun j => .ref (47 + j))), (100, List.replicate 8 (.int 0)), (100, List.replicate 8 (.int 0)), (100, List.replicate 8 (.int 0)), (100, List.replicate 8 (.int 0)), (100, List.replicate 8 (.int 0)), (100, List.replicate 8 (.int 0)), (100, List.replicate 8 (.int 0)), (100, List.replicate 8 (.int 0)), (100, List.replicate 8 (.int 0)), (100, List.replicate 8 (.int 0)), (100, List.replicate 8 (.int 0)), (100, List.replicate 8 (.int 0)), (100, List.replicate 8 (.int 0)), (100, List.replicate 8 (.int 0)), (100, List.replicate 8 (.int 0)), (100, List.replicate 8 (.int 0)), (100, List.replicate 8 (.int 0)), (100, List.replicate 8 (.int 0)), (100, List.replicate 8 (.int 0)), (100, List.replicate 8 (.int 0))])) rfl ?_
  refine zpE_run 4 (h' := zx s a ((7, [.int 0, .int (Int8.ofInt 8).toInt32, .int (Int32.ofInt 5), .ref 45, .int 0, .int (Int8.ofInt 16).toInt32, .int (Int8.ofInt 20).toInt32, .int 0, .int 0, .int 0, .int 0, .int (Int32.ofInt (-1)), .int 0, .int 0, .int 0, .int 0, .ref 46, .ref 67, .null, .null, .null, .null, .null, .null, .null, .null]) :: [(100, []), (104, (List.range 20).map (fun j => .ref (47 + j))), (100, List.replicate 8 (.int 0)), (100, List.replicate 8 (.int 0)), (100, List.replicate 8 (.int 0)), (100, List.replicate 8 (.int 0)), (100, List.replicate 8 (.int 0)), (100, List.replicate 8 (.int 0)), (100, List.replicate 8 (.int 0)), (100, List.replicate 8 (.int 0)), (100, List.replicate 8 (.int 0)), (100, List.replicate 8 (.int 0)), (100, List.replicate 8 (.int 0)), (100, List.replicate 8 (.int 0)), (100, List.replicate 8 (.int 0)), (100, List.replicate 8 (.int 0)), (100, List.replicate 8 (.int 0)), (100, List.replicate 8 (.int 0)), (100, List.replicate 8 (.int 0)), (100, List.replicate 8 (.int 0)), (100, List.replicate 8 (.int 0)), (100, List.replicate 8 (.int 0)), (100, List.replicate 20 (.int 0))])) rfl ?_
  refine zpE_run 4 (h' := zx s a ((7, [.int 0, .int (Int8.ofInt 8).toInt32, .int (Int32.ofInt 5), .ref 45, .int 0, .int (Int8.ofInt 16).toInt32, .int (Int8.ofInt 20).toInt32, .int 0, .int 0, .int 0, .int 0, .int (Int32.ofInt (-1)), .int 0, .int 0, .int 0, .int 0, .ref 46, .ref 67, .ref 68, .null, .null, .null, .null, .null, .null, .null]) :: [(100, []), (104, (List.range 20).map (fun j => .ref (47 + j))), (100, List.replicate 8 (.int 0)), (100, List.replicate 8 (.int 0)), (100, List.replicate 8 (.int 0)), (100, List.replicate 8 (.int 0)), (100, List.replicate 8 (.int 0)), (100, List.replicate 8 (.int 0)), (100, List.replicate 8 (.int 0)), (100, List.replicate 8 (.int 0)), (100, List.replicate 8 (.int 0)), (100, List.replicate 8 (.int 0)), (100, List.replicate 8 (.int 0)), (100, List.replicate 8 (.int 0)), (100, List.replicate 8 (.int 0)), (100, List.replicate 8 (.int 0)), (100, List.replicate 8 (.int 0)), (100, List.replicate 8 (.int 0)), (100, List.replicate 8 (.int 0)), (100, List.replicate 8 (.int 0)), (100, List.replicate 8 (.int 0)), (100, List.replicate 8 (.int 0)), (100, List.replicate 20 (.int 0)), (100, List.replicate 20 (.int 0))])) rfl ?_
  refine zpE_run 4 (h' := zx s a ((7, [.int 0, .int (Int8.ofInt 8).toInt32, .int (Int32.ofInt 5), .ref 45, .int 0, .int (Int8.ofInt 16).toInt32, .int (Int8.ofInt 20).toInt32, .int 0, .int 0, .int 0, .int 0, .int (Int32.ofInt (-1)), .int 0, .int 0, .int 0, .int 0, .ref 46, .ref 67, .ref 68, .ref 69, .null, .null, .null, .null, .null, .null]) :: [(100, []), (104, (List.range 20).map (fun j => .ref (47 + j))), (100, List.replicate 8 (.int 0)), (100, List.replicate 8 (.int 0)), (100, List.replicate 8 (.int 0)), (100, List.replicate 8 (.int 0)), (100, List.replicate 8 (.int 0)), (100, List.replicate 8 (.int 0)), (100, List.replicate 8 (.int 0)), (100, List.replicate 8 (.int 0)), (100, List.replicate 8 (.int 0)), (100, List.replicate 8 (.int 0)), (100, List.replicate 8 (.int 0)), (100, List.replicate 8 (.int 0)), (100, List.replicate 8 (.int 0)), (100, List.replicate 8 (.int 0)), (100, List.replicate 8 (.int 0)), (100, List.replicate 8 (.int 0)), (100, List.replicate 8 (.int 0)), (100, List.replicate 8 (.int 0)), (100, List.replicate 8 (.int 0)), (100, List.replicate 8 (.int 0)), (100, List.replicate 20 (.int 0)), (100, List.replicate 20 (.int 0)), (100, List.replicate 16 (.int 0))])) rfl ?_
  refine zpE_run 4 (h' := zx s a ((7, [.int 0, .int (Int8.ofInt 8).toInt32, .int (Int32.ofInt 5), .ref 45, .int 0, .int (Int8.ofInt 16).toInt32, .int (Int8.ofInt 20).toInt32, .int 0, .int 0, .int 0, .int 0, .int (Int32.ofInt (-1)), .int 0, .int 0, .int 0, .int 0, .ref 46, .ref 67, .ref 68, .ref 69, .ref 70, .null, .null, .null, .null, .null]) :: [(100, []), (104, (List.range 20).map (fun j => .ref (47 + j))), (100, List.replicate 8 (.int 0)), (100, List.replicate 8 (.int 0)), (100, List.replicate 8 (.int 0)), (100, List.replicate 8 (.int 0)), (100, List.replicate 8 (.int 0)), (100, List.replicate 8 (.int 0)), (100, List.replicate 8 (.int 0)), (100, List.replicate 8 (.int 0)), (100, List.replicate 8 (.int 0)), (100, List.replicate 8 (.int 0)), (100, List.replicate 8 (.int 0)), (100, List.replicate 8 (.int 0)), (100, List.replicate 8 (.int 0)), (100, List.replicate 8 (.int 0)), (100, List.replicate 8 (.int 0)), (100, List.replicate 8 (.int 0)), (100, List.replicate 8 (.int 0)), (100, List.replicate 8 (.int 0)), (100, List.replicate 8 (.int 0)), (100, List.replicate 8 (.int 0)), (100, List.replicate 20 (.int 0)), (100, List.replicate 20 (.int 0)), (100, List.replicate 16 (.int 0)), (100, List.replicate 2 (.int 0))])) rfl ?_
  refine zpE_run 4 (h' := zx s a ((7, [.int 0, .int (Int8.ofInt 8).toInt32, .int (Int32.ofInt 5), .ref 45, .int 0, .int (Int8.ofInt 16).toInt32, .int (Int8.ofInt 20).toInt32, .int 0, .int 0, .int 0, .int 0, .int (Int32.ofInt (-1)), .int 0, .int 0, .int 0, .int 0, .ref 46, .ref 67, .ref 68, .ref 69, .ref 70, .ref 71, .null, .null, .null, .null]) :: [(100, []), (104, (List.range 20).map (fun j => .ref (47 + j))), (100, List.replicate 8 (.int 0)), (100, List.replicate 8 (.int 0)), (100, List.replicate 8 (.int 0)), (100, List.replicate 8 (.int 0)), (100, List.replicate 8 (.int 0)), (100, List.replicate 8 (.int 0)), (100, List.replicate 8 (.int 0)), (100, List.replicate 8 (.int 0)), (100, List.replicate 8 (.int 0)), (100, List.replicate 8 (.int 0)), (100, List.replicate 8 (.int 0)), (100, List.replicate 8 (.int 0)), (100, List.replicate 8 (.int 0)), (100, List.replicate 8 (.int 0)), (100, List.replicate 8 (.int 0)), (100, List.replicate 8 (.int 0)), (100, List.replicate 8 (.int 0)), (100, List.replicate 8 (.int 0)), (100, List.replicate 8 (.int 0)), (100, List.replicate 8 (.int 0)), (100, List.replicate 20 (.int 0)), (100, List.replicate 20 (.int 0)), (100, List.replicate 16 (.int 0)), (100, List.replicate 2 (.int 0)), (101, List.replicate 128 (.int 0))])) rfl ?_
  refine zpE_run 4 (h' := zx s a ((7, [.int 0, .int (Int8.ofInt 8).toInt32, .int (Int32.ofInt 5), .ref 45, .int 0, .int (Int8.ofInt 16).toInt32, .int (Int8.ofInt 20).toInt32, .int 0, .int 0, .int 0, .int 0, .int (Int32.ofInt (-1)), .int 0, .int 0, .int 0, .int 0, .ref 46, .ref 67, .ref 68, .ref 69, .ref 70, .ref 71, .ref 72, .null, .null, .null]) :: [(100, []), (104, (List.range 20).map (fun j => .ref (47 + j))), (100, List.replicate 8 (.int 0)), (100, List.replicate 8 (.int 0)), (100, List.replicate 8 (.int 0)), (100, List.replicate 8 (.int 0)), (100, List.replicate 8 (.int 0)), (100, List.replicate 8 (.int 0)), (100, List.replicate 8 (.int 0)), (100, List.replicate 8 (.int 0)), (100, List.replicate 8 (.int 0)), (100, List.replicate 8 (.int 0)), (100, List.replicate 8 (.int 0)), (100, List.replicate 8 (.int 0)), (100, List.replicate 8 (.int 0)), (100, List.replicate 8 (.int 0)), (100, List.replicate 8 (.int 0)), (100, List.replicate 8 (.int 0)), (100, List.replicate 8 (.int 0)), (100, List.replicate 8 (.int 0)), (100, List.replicate 8 (.int 0)), (100, List.replicate 8 (.int 0)), (100, List.replicate 20 (.int 0)), (100, List.replicate 20 (.int 0)), (100, List.replicate 16 (.int 0)), (100, List.replicate 2 (.int 0)), (101, List.replicate 128 (.int 0)), (101, List.replicate 128 (.int 0))])) rfl ?_
  refine zpE_run 3 (h' := zx s a (zmT (.ref 45) .null .null .null [(10, [.int 0, .null, .int 0])])) rfl ?_
  refine zpE_call rfl rfl (zpM_of (m_242 (D := 17) (h := zx s a (zmT (.ref 45) .null .null .null [])))) (fun v h9 nc9 ns9 q => ?_) (fun E h9 nc9 ns9 q => by cases q)
  cases q
  refine zpE_run 4 (h' := zx s a (zmT (.ref 45) (.ref 73) .null .null [zli, (10, [.int 0, .null, .int 0])])) rfl ?_
  refine zpE_call rfl rfl (zpM_of (m_242 (D := 17) (h := zx s a (zmT (.ref 45) (.ref 73) .null .null [zli])))) (fun v h9 nc9 ns9 q => ?_) (fun E h9 nc9 ns9 q => by cases q)
  cases q
  refine zpE_run 4 (h' := zx s a (zmT (.ref 45) (.ref 73) (.ref 74) .null [zli, zli, (10, [.int 0, .null, .int 0])])) rfl ?_
  refine zpE_call rfl rfl (zpM_of (m_242 (D := 17) (h := zx s a (zmT (.ref 45) (.ref 73) (.ref 74) .null [zli, zli])))) (fun v h9 nc9 ns9 q => ?_) (fun E h9 nc9 ns9 q => by cases q)
  cases q
  refine zpE_run 6 (h' := zx s a (zmT (.ref 45) (.ref 73) (.ref 74) (.ref 75) [zli, zli, zli])) rfl ?_
  refine zpE_call rfl rfl (r_116 (k := 8) (r := 5) (by decide) (Or.inr (Or.inl rfl)) (zcds_dl (8, 5) (by decide))) (fun v h9 nc9 ns9 q => ?_) (fun E h9 nc9 ns9 q => by cases q)
  cases q
  refine zpE_run 1 (h' := zx s a (zmT (.ref 76) (.ref 73) (.ref 74) (.ref 75) [zli, zli, zli, zar (zcol 8 5)])) rfl ?_
  refine zpE_run 2 (L' := [some (.ref 44), some (.int (Int32.ofInt 0)), none]) (st' := []) (h' := zy (s, a) zMini (zX0 [])) rfl ?_
  exact (r_inir N).1 _ _ 0 _ _ _ rfl rfl (by decide) (fun _ _ => rfl) rfl rfl (fun j hj => absurd hj (by omega))
end ZLR

section ZLB
variable {S1 D : zSt} {M : zRt} {x : Int32}
set_option maxRecDepth 20000
/-- the class's state as its words are to be wiped for the first time -/
def zNw (S1 : zSt) : Prop := S1.1 = zsc zs00 8 5 ∧ ((∃ t, S1.2 0 = zcol 8 5 ++ t) ∧ (S1.2 0).length = 16 ∧ S1.2 1 = zts (zcol 8 5) (8 + 5)) ∧ (∀ j, j ≠ 0 → j ≠ 1 → j ≠ 15 → S1.2 j = za00 j) ∧ (S1.2 15).length = 16 ∧ ∀ j, j < 16 → zgt (S1.2 15) (Int32.ofNat j) = Int32.ofNat (j % 8)
theorem zw00 (h9 : (D.1 9).toInt.toNat = 0) (h2 : D.2 2 = List.replicate 160 0) : ∀ k, k ≤ 160 → (W40 x D D k).2 2 = List.replicate 160 0
  | 0, _ => h2
  | k + 1, hk => by
    have ih := zw00 h9 h2 k (by omega)
    have e9 : ((W40 x D D k).1 9).toInt.toNat = 0 := by
      rw [(fr_W40 k).1 9 List.not_mem_nil]
      exact h9
    have v : V42 (Int32.ofNat k) (Int32.ofInt 0) (W40 x D D k) = Int32.ofInt 0 := by
      unfold V42 Y42
      rw [e9]
      rfl
    show zst ((W40 x D D k).2 2) (Int32.ofNat k) (V42 (Int32.ofNat k) (Int32.ofInt 0) (W40 x D D k)) = _
    rw [v, ih]
    have z : zgt (List.replicate 160 (0 : Int32)) (Int32.ofNat k) = Int32.ofInt 0 := by
      rw [zgt_in9 (by omega), List.getD_eq_getElem?_getD, List.getElem?_replicate, if_pos (by omega)]
      rfl
    have y := zst_sf (l := List.replicate 160 (0 : Int32)) (i := k) (by omega)
    rw [z] at y
    exact y
theorem zrp_g {n i : Nat} (hi : i < 1000) (hn : i < n) : zgt (List.replicate n (0 : Int32)) (Int32.ofNat i) = 0 := by
  rw [zgt_in9 hi, List.getD_eq_getElem?_getD, List.getElem?_replicate, if_pos hn]
  rfl
theorem zZ_ini (hN : zNw S1) (f1 : M.1 = zMini.1) (f2 : ∀ j, j ≠ 22 → M.2.1 j = zMini.2.1 j) (f3 : M.2.2 = zL0) (f4 : (M.2.1 22).length = 16) (f5 : zR22 M 16) : zZ (F40 (Int32.ofNat 13) S1) M := by
  obtain ⟨n1, ⟨n2, n3, n4⟩, n5, n6, n7⟩ := hN
  have l0 : M.2.2.1 0 = [] := by rw [f3]; rfl
  have l1 : M.2.2.1 1 = [] := by rw [f3]; rfl
  have l2 : M.2.2.1 2 = [] := by rw [f3]; rfl
  have fq0 : zFq (S1.1 9) (S1.2 6) (S1.2 7) (S1.2 8) [] := by
    rw [n1, n5 6 (by decide) (by decide) (by decide), n5 7 (by decide) (by decide) (by decide), n5 8 (by decide) (by decide) (by decide)]
    exact ⟨rfl, Nat.zero_le _, ⟨rfl, rfl, rfl⟩, fun k e hk => by cases hk⟩
  have fq1 : zFq (S1.1 10) (S1.2 9) (S1.2 10) (S1.2 11) [] := by
    rw [n1, n5 9 (by decide) (by decide) (by decide), n5 10 (by decide) (by decide) (by decide), n5 11 (by decide) (by decide) (by decide)]
    exact ⟨rfl, Nat.zero_le _, ⟨rfl, rfl, rfl⟩, fun k e hk => by cases hk⟩
  have Q := zFq_F40 (S := S1) (w := 13) (by omega) fq0 fq1
  obtain ⟨C, fC, c3, qC, eF⟩ := zF40_e (S := S1) (n := 13) (by omega) fq0 fq1
  obtain ⟨D, hD⟩ : ∃ D, D = zsF C 3 (Int32.ofInt 0) := ⟨_, rfl⟩
  have fD : zfrm [] [3] D C := by
    rw [hD]
    exact fm_F
  have d3 : D.2 3 = List.replicate (C.2 3).length (Int32.ofInt 0) := by
    rw [hD]
    rfl
  have e160 : (Int32.ofInt 160).toInt.toNat = 160 := by decide
  rw [← hD, e160] at eF
  have f := fr_F40 (x1 := Int32.ofNat 13) (S := S1)
  have w0 : (F40 (Int32.ofNat 13) S1).2 2 = List.replicate 160 0 := by
    rw [eF]
    refine zw00 ?_ ?_ 160 (Nat.le_refl _)
    · rw [fD.1 9 List.not_mem_nil, qC.1]
      rfl
    · rw [fD.2.1 2 (by decide), fC.2.1 2 (by decide), n5 2 (by decide) (by decide) (by decide)]
      rfl
  have fW : zfrm [] [2] (F40 (Int32.ofNat 13) S1) D := by
    rw [eF]
    exact fr_W40 160
  have g3 : (F40 (Int32.ofNat 13) S1).2 3 = List.replicate 20 0 := by
    rw [fW.2.1 3 (by decide), d3, fC.2.2 3, n5 3 (by decide) (by decide) (by decide)]
    rfl
  have g13 : (F40 (Int32.ofNat 13) S1).1 3 = Int32.ofNat 13 := by
    rw [fW.1 3 List.not_mem_nil, fD.1 3 List.not_mem_nil]
    exact c3
  obtain ⟨G, hG⟩ : ∃ G, G = F40 (Int32.ofNat 13) S1 := ⟨_, rfl⟩
  rw [← hG] at Q f w0 g3 g13 ⊢
  have s1 : ∀ j, j ∉ [3, 9, 10] → G.1 j = zsc zs00 8 5 j := fun j hj => (f.1 j hj).trans (by rw [n1])
  have s2 : ∀ j, j ∉ [0, 1, 2, 3, 6, 7, 8, 9, 10, 11, 15] → G.2 j = za00 j := fun j hj => (f.2.1 j (fun z => hj (by
    have y : ∀ i ∈ [2, 3, 6, 7, 8, 9, 10, 11], i ∈ [0, 1, 2, 3, 6, 7, 8, 9, 10, 11, 15] := by decide
    exact y j z))).trans (n5 j (fun z => hj (by rw [z]; decide)) (fun z => hj (by rw [z]; decide)) (fun z => hj (by rw [z]; decide)))
  have e0 : G.2 0 = S1.2 0 := f.2.1 0 (by decide)
  have e1 : G.2 1 = S1.2 1 := f.2.1 1 (by decide)
  have e15 : G.2 15 = S1.2 15 := f.2.1 15 (by decide)
  refine ⟨⟨⟨?_, ?_, ?_⟩, ?_⟩, ?_, ⟨?_, ⟨?_, ?_, ?_⟩, ?_⟩, ?_, ?_, ?_, ?_, ?_, ?_, ?_⟩
  · rw [e0]
    exact n3
  · rw [e1, n4, zts_len]
  · rw [f2 20 (by decide)]
    rfl
  · rw [s1 4 (by decide), f1]
    decide
  · unfold zSp
    rw [s1 17 (by decide), f1]
    decide
  · exact zBr_0 (s := G.1) (a := G.2) (s2 16 (by decide)) (s2 18 (by decide)) (f2 23 (by decide)) (f2 25 (by decide))
  · refine ⟨8, 5, by decide, ?_, ?_, ?_⟩
    · rw [f1]
      decide
    · rw [f1]
      decide
    · exact s1 2 (by decide)
  · rw [l0]
    exact Q.1
  · rw [l1]
    exact Q.2
  · refine ⟨by rw [e15]; exact n6, f4, fun j hj => ⟨j % 8, by omega, by rw [e15]; exact n7 j hj, f5 j hj⟩⟩
  · unfold zTk
    rw [s1 4 (by decide), f1]
    decide
  · refine ⟨by rw [w0]; exact List.length_replicate, fun l hl => ?_, fun l p hl hp => ?_⟩
    · rw [f2 l (by omega)]
      show (if l < 20 then List.replicate 8 (0 : Int32) else _).length = 8
      rw [if_pos hl]
      rfl
    · rw [w0, zrp_g (by omega) (by omega), f2 l (by omega)]
      show _ = zgt (if l < 20 then List.replicate 8 (0 : Int32) else _) _
      rw [if_pos hl, zrp_g (by omega) hp]
  · have m20 : M.2.1 20 = List.replicate 20 0 := f2 20 (by decide)
    have m21 : M.2.1 21 = List.replicate 20 0 := f2 21 (by decide)
    have m24 : M.2.1 24 = List.replicate 128 0 := f2 24 (by decide)
    have a4 : za00 4 = List.replicate 20 0 := rfl
    have a17 : za00 17 = List.replicate 128 0 := rfl
    unfold zCn
    rw [g3, s2 4 (by decide), s2 17 (by decide), m20, m21, m24, a4, a17]
    exact ⟨⟨rfl, List.length_replicate⟩, ⟨rfl, List.length_replicate⟩, rfl, List.length_replicate, fun x hx => Or.inl (List.eq_of_mem_replicate hx)⟩
  · unfold zSc
    rw [s1 5 (by decide), s1 6 (by decide), s1 14 (by decide), s1 15 (by decide), s1 16 (by decide), s1 18 (by decide), s1 12 (by decide), s1 13 (by decide), f1]
    decide
  · refine ⟨?_, 5, by decide, ?_, Or.inl ⟨?_, rfl⟩⟩
    · rw [s1 8 (by decide), f1]
      decide
    · rw [s1 7 (by decide)]
      decide
    · rw [f1]
      decide
  · refine ⟨8, 5, ⟨by decide, s1 0 (by decide), s1 1 (by decide), s1 2 (by decide), ?_, ?_⟩, ?_, ?_, ?_, ?_⟩
    · rw [e0]
      exact n2
    · rw [e1]
      exact n4
    · rw [f1]
      decide
    · rw [f1]
      decide
    · rw [f3]
      rfl
    · rw [g13]
      exact (s1 2 (by decide)).symm
  · refine ⟨?_, ?_, ?_, fun j e hj => ?_⟩
    · rw [s1 11 (by decide), l2]
      decide
    · rw [l2]
      decide
    · rw [s2 12 (by decide), s2 13 (by decide), s2 14 (by decide)]
      exact ⟨rfl, rfl, rfl⟩
    · rw [l2] at hj
      cases hj
theorem zAA_ini {s : Nat → Int32} {a : Nat → List Int32} (hS : ∃ S1 : zSt, zNw S1 ∧ s = (F40 (Int32.ofNat 13) S1).1 ∧ a = (F40 (Int32.ofNat 13) S1).2) (f1 : M.1 = zMini.1) (f2 : ∀ j, j ≠ 22 → M.2.1 j = zMini.2.1 j) (f3 : M.2.2 = zL0) (f4 : (M.2.1 22).length = 16) (f5 : zR22 M 16) : zZ (s, a) M ∧ s 4 = 0 := by
  obtain ⟨S1, p1, p2, p3⟩ := hS
  have z := zZ_ini p1 f1 f2 f3 f4 f5
  have t : (F40 (Int32.ofNat 13) S1).1 4 = 0 := by
    rw [fr_F40.1 4 (by decide), p1.1]
    rfl
  obtain ⟨Z, hZ⟩ : ∃ Z, Z = F40 (Int32.ofNat 13) S1 := ⟨_, rfl⟩
  rw [← hZ] at z t p2 p3
  obtain ⟨Z1, Z2⟩ := Z
  have p2 : s = Z1 := p2
  have p3 : a = Z2 := p3
  rw [p2, p3]
  exact ⟨z, t⟩
end ZLB
set_option maxRecDepth 10000 in
theorem m_52f {xs : List Int32} {D nc ns : Nat} : zMs xs (D + 6) 52 [.ref 0] [(5, (zcf 5).map (fun q => zdf q.2))] nc ns (fun o => ∃ s a nc' ns', zaL a ∧ (zRC s a 8 5 ∧ (a 0).length = 16) ∧ (∃ S1 : zSt, zNw S1 ∧ s = (F40 (Int32.ofNat 13) S1).1 ∧ a = (F40 (Int32.ofNat 13) S1).2) ∧ nc' ≤ nc + 60 ∧ ns' ≤ ns + 2000 ∧ o = (.inl none, zx s a [], nc', ns')) := by
  refine ⟨_, rfl, m_52a (fun nc' ns' h1 h2 => ?_)⟩
  have lp : ∀ (n : Nat) (i : Int32) (a : Nat → List Int32), zfr [] [15] zs00 za00 zs00 a → (∃ I : Nat, i = Int32.ofNat I ∧ I ≤ 16 ∧ (a 15).length = 16 ∧ ∀ j, j < I → zgt (a 15) (Int32.ofNat j) = Int32.ofNat (j % 8)) → (((Int8.ofInt 16).toInt32).toInt - i.toInt).toNat < n → zEs xs (D + 6) 52 92 [some (.ref 0), some (.int i)] [] (zx zs00 a []) nc' ns' (fun o => ∃ s a nc' ns', zaL a ∧ (zRC s a 8 5 ∧ (a 0).length = 16) ∧ (∃ S1 : zSt, zNw S1 ∧ s = (F40 (Int32.ofNat 13) S1).1 ∧ a = (F40 (Int32.ofNat 13) S1).2) ∧ nc' ≤ nc + 60 ∧ ns' ≤ ns + 2000 ∧ o = (.inl none, zx s a [], nc', ns')) := by
    intro n
    induction n with
    | zero =>
      intro i a f hI hn
      exact absurd hn (Nat.not_lt_zero _)
    | succ n ih =>
      intro i a f hI hn
      obtain ⟨I, rfl, hI, l15, h15⟩ := hI
      refine zEs_run 2 rfl ?_
      have e16 : ((Int8.ofInt 16).toInt32).toInt = 16 := by decide
      refine zEs_icmp rfl (fun gt => ?_) (fun g => ?_)
      · have gt := zF_ge_t gt
        rw [e16, zof_0 (by omega)] at gt
        obtain rfl : I = 16 := by omega
        have l0 : (a 0).length = 16 := by
          rw [f.2.1 0 (by decide)]
          decide
        have l1 : (a 1).length = 64 := by
          rw [f.2.1 1 (by decide)]
          decide
        refine zEs_run 4 rfl ?_
        refine zEs_callG rfl rfl (zMs_and (zMs_mono (show 2 ≤ D + 5 by omega) (k_3 (D := 0) (x1 := Int32.ofNat 8) (x2 := Int32.ofNat 5) f.2.2 (by decide))) (fun N => p_3 (k := 8) (r := 5) (by decide) (Or.inr (Or.inl rfl)) (zcds_dl (8, 5) (by decide)) l0 l1)) (fun v h9 nc1 ns1 q => ?_) (fun E h9 nc1 ns1 q => by obtain ⟨-, _, q, _⟩ := q; cases q)
        obtain ⟨-, a1, q, g1, g2, g3, g4⟩ := q
        cases q
        have hL1 : zaL a1 := by
          intro j
          by_cases j0 : j = 0
          · rw [j0, g2]
            decide
          · by_cases j1 : j = 1
            · rw [j1, g3, zts_len]
              decide
            · rw [g4 j j0 j1]
              exact f.2.2 j
        refine zEs_run 5 rfl ?_
        refine zEs_callG rfl rfl (zMs_and (k_40 hL1) (fun N => e_40 (S := (zsc zs00 8 5, a1)) (x1 := Int32.ofNat 13) hL1)) (fun v h9 nc1 ns1 q => ?_) (fun E h9 nc1 ns1 q => by obtain ⟨⟨_, _, _, _, _, q⟩ | ⟨_, q, _⟩, -⟩ := q <;> cases q)
        obtain ⟨q, q4, q5⟩ := q
        rcases q with ⟨v', s2, a2, hv, -, q⟩ | ⟨E, hE, q⟩
        · have y1 : nc1 = nc' := congrArg (fun o : zO => o.2.2.1) q
          have y2 : ns1 = ns' := congrArg (fun o : zO => o.2.2.2) q
          have h5 : h9 = zx (F40 (Int32.ofNat 13) (zsc zs00 8 5, a1)).1 (F40 (Int32.ofNat 13) (zsc zs00 8 5, a1)).2 [] := q5
          have q4 : (Sum.inl v : Option Value ⊕ Nat) = .inl none := q4
          cases q4
          rw [y1, y2, h5]
          have f9 := fr_F40 (x1 := Int32.ofNat 13) (S := (zsc zs00 8 5, a1))
          obtain ⟨Z, hZ⟩ : ∃ Z, Z = F40 (Int32.ofNat 13) (zsc zs00 8 5, a1) := ⟨_, rfl⟩
          rw [← hZ] at f9 ⊢
          refine zEs_end rfl rfl ⟨Z.1, Z.2, nc', ns', fm_L f9 hL1, ⟨⟨by decide, (f9.1 0 (by decide)).trans rfl, (f9.1 1 (by decide)).trans rfl, (f9.1 2 (by decide)).trans rfl, ?_, ?_⟩, ?_⟩, ⟨(zsc zs00 8 5, a1), ⟨rfl, ⟨g1, g2, g3⟩, fun j j0 j1 j15 => (g4 j j0 j1).trans (f.2.1 j (fun z => j15 (List.mem_singleton.mp z))), ?_, ?_⟩, by rw [hZ], by rw [hZ]⟩, h1, h2, rfl⟩
          · rw [f9.2.1 0 (by decide)]
            exact g1
          · rw [f9.2.1 1 (by decide)]
            exact g3
          · rw [f9.2.1 0 (by decide)]
            exact g2
          · show (a1 15).length = 16
            rw [g4 15 (by decide) (by decide)]
            exact l15
          · show ∀ j, j < 16 → zgt (a1 15) (Int32.ofNat j) = Int32.ofNat (j % 8)
            rw [g4 15 (by decide) (by decide)]
            exact h15
        · cases hE
      · have g9 := zF_ge_f g
        rw [e16, zof_0 (by omega)] at g9
        have g : ¬ (Int8.ofInt 16).toInt32 ≤ Int32.ofNat I := g
        refine zEs_run 6 rfl ?_
        refine zEs_callG rfl rfl (zMs_and (x_26 15 37 36 rfl rfl (fun _ => rfl) f.2.2) (fun N => p_26 15 37 36 rfl rfl (fun _ => rfl) (f.2.2 15))) (fun v h9 nc1 ns1 q => ?_) (fun E h9 nc1 ns1 q => ?_)
        · obtain ⟨q, q26⟩ := q
          cases q26
          refine zEs_run 2 rfl ?_
          refine ih _ _ (zfr_tr f ⟨fun _ _ => rfl, fun k hk => if_neg (by simpa using hk), fun k => ?_⟩) ⟨I + 1, zof1 (a := I), by omega, ?_, fun j hj => ?_⟩ (Nat.lt_of_lt_of_le (zdec g) (Nat.le_of_lt_succ hn))
          · by_cases k15 : k = 15
            · subst k15
              show (zst (a 15) _ _).length < _
              rw [zst_ln9]
              exact f.2.2 15
            · show (zup a 15 _ k).length < _
              rw [show zup a 15 _ k = a k from if_neg k15]
              exact f.2.2 k
          · show (zst (a 15) _ _).length = 16
            rw [zst_ln9]
            exact l15
          · show zgt (zst (a 15) (Int32.ofNat I) (zrmd (Int32.ofNat I) (Int32.ofInt 8))) (Int32.ofNat j) = _
            rw [(zqr (n := I) (by omega)).2.2]
            by_cases je : j = I
            · subst je
              exact zgt_eq9 (by omega) (by omega)
            · rw [zgt_ne9 (by omega) (by omega) je]
              exact h15 j (by omega)
        · cases q.2
  refine zEs_run 2 rfl ?_
  exact lp _ _ _ (zfr_rf za00_L) ⟨0, rfl, by decide, rfl, fun j hj => absurd hj (Nat.not_lt_zero _)⟩ (Nat.lt_succ_self _)


section ZX3
variable {xs : List Int32} {q : Nat}
set_option maxRecDepth 20000
theorem l_214 {NC NS : Nat} (hN : xs.length ≤ 3072) : ∀ (n : Nat) (c : Nat × Nat) (S : zSt) (M : zRt) (i : Int32) (o5 o6 o7 : Option Value) (h : zH) (nc ns : Nat), zWI c c q h → zJq S M q h → zAA S M → 0 ≤ i.toInt → i.toInt ≤ xs.length → 6 * (nc : Int) + 410 * (xs.length - i.toInt) ≤ 6 * NC → 6 * (ns : Int) + 14100 * (xs.length - i.toInt) ≤ 6 * NS → (xs.length - i.toInt).toNat < n → zEs xs 41 214 27 [some (.retAddr 0), some (.ref 0), some (.ref 44), some (.ref q), some (.int i), o5, o6, o7] [] h nc ns (zPb NC NS)
  | 0, _, _, _, _, _, _, _, _, _, _, _, _, _, _, _, _, _, hn => absurd hn (Nat.not_lt_zero _)
  | n + 1, c, S, M, i, o5, o6, o7, h, nc, ns, hW, hJ, hA, i0, i1, b1, b2, hn => by
    have e1 : (Int32.ofNat xs.length).toInt = (xs.length : Int) := Int32.toInt_ofNat_of_lt (by omega)
    have e2 := Int32.toInt_sub (Int32.ofNat xs.length) (Int8.ofInt 6).toInt32
    rw [e1, show ((Int8.ofInt 6).toInt32).toInt = 6 from by decide, zbm (by omega) (by omega)] at e2
    refine zEs_run 5 rfl ?_
    refine zEs_icmp rfl (fun _ => ?_) (fun g9 => ?_)
    · refine zEs_run 1 rfl ?_
      exact zEs_end rfl rfl ⟨_, _, _, rfl, by omega, by omega⟩
    · have z := zF_gt_f g9
      have z : i.toInt ≤ (Int32.ofNat xs.length - (Int8.ofInt 6).toInt32).toInt := z
      have hlt : i.toInt.toNat < xs.length := by omega
      have e3 := zinc_le (x := i) (n := 6) (by omega) (by decide) (by decide)
      have K : ∀ (c' : Nat × Nat) (S' : zSt) (M' : zRt) (p5 p6 p7 : Option Value) (h' : zH) (nc' ns' : Nat), zWI c' c' q h' → zJq S' M' q h' → zAA S' M' → nc' ≤ nc + 410 → ns' ≤ ns + 14100 → zEs xs 41 214 1272 [some (.retAddr 0), some (.ref 0), some (.ref 44), some (.ref q), some (.int i), p5, p6, p7] [] h' nc' ns' (zPb NC NS) := by
        intro c' S' M' p5 p6 p7 h' nc' ns' W J A d1 d2
        refine zEs_run 2 rfl ?_
        exact l_214 hN n c' S' M' _ p5 p6 p7 h' _ _ W J A (by omega) (by omega) (by omega) (by omega) (by omega)
      refine zEs_run 2 rfl ?_
      refine zEs_scr (v := xs[i.toInt.toNat]) rfl (fun z => by
        have z := zlt_z z
        rw [zero_z] at z
        omega) (show xs[i.toInt.toNat]? = some _ from List.getElem?_eq_getElem hlt) ?_
      refine zEs_run 2 rfl ?_
      refine zEs_tab [176, 216, 256, 284, 324, 392, 444, 496, 604, 644, 700, 728, 741, 754, 782, 810, 850, 878, 918, 970, 1010, 1066, 1094, 1122, 1162, 1190, 1218, 1246, 1259, 1272] rfl (by decide) (by decide) (List.forall_mem_cons.mpr ⟨?_, List.forall_mem_cons.mpr ⟨?_, List.forall_mem_cons.mpr ⟨?_, List.forall_mem_cons.mpr ⟨?_, List.forall_mem_cons.mpr ⟨?_, List.forall_mem_cons.mpr ⟨?_, List.forall_mem_cons.mpr ⟨?_, List.forall_mem_cons.mpr ⟨?_, List.forall_mem_cons.mpr ⟨?_, List.forall_mem_cons.mpr ⟨?_, List.forall_mem_cons.mpr ⟨?_, List.forall_mem_cons.mpr ⟨?_, List.forall_mem_cons.mpr ⟨?_, List.forall_mem_cons.mpr ⟨?_, List.forall_mem_cons.mpr ⟨?_, List.forall_mem_cons.mpr ⟨?_, List.forall_mem_cons.mpr ⟨?_, List.forall_mem_cons.mpr ⟨?_, List.forall_mem_cons.mpr ⟨?_, List.forall_mem_cons.mpr ⟨?_, List.forall_mem_cons.mpr ⟨?_, List.forall_mem_cons.mpr ⟨?_, List.forall_mem_cons.mpr ⟨?_, List.forall_mem_cons.mpr ⟨?_, List.forall_mem_cons.mpr ⟨?_, List.forall_mem_cons.mpr ⟨?_, List.forall_mem_cons.mpr ⟨?_, List.forall_mem_cons.mpr ⟨?_, List.forall_mem_cons.mpr ⟨?_, List.forall_mem_cons.mpr ⟨?_, fun _ h => absurd h List.not_mem_nil⟩⟩⟩⟩⟩⟩⟩⟩⟩⟩⟩⟩⟩⟩⟩⟩⟩⟩⟩⟩⟩⟩⟩⟩⟩⟩⟩⟩⟩⟩)
      · exact lj_c176 hW hJ hA i0 (by omega) (by omega) K
      · exact lj_c216 hW hJ hA i0 (by omega) (by omega) K
      · exact lj_c256 hW hJ hA i0 (by omega) (by omega) K
      · exact lj_c284 hW hJ hA i0 (by omega) (by omega) K
      · exact lj_c324 hW hJ hA i0 (by omega) (by omega) K
      · exact lj_c392 hW hJ hA i0 (by omega) (by omega) K
      · exact lj_c444 hW hJ hA i0 (by omega) (by omega) K
      · exact lj_c496 hW hJ hA i0 (by omega) (by omega) K
      · exact lj_c604 hW hJ hA i0 (by omega) (by omega) K
      · exact lj_c644 hW hJ hA i0 (by omega) (by omega) K
      · exact lj_c700 hW hJ hA i0 (by omega) (by omega) K
      · exact lj_c728 hW hJ hA i0 (by omega) (by omega) K
      · exact lj_c741 hW hJ hA i0 (by omega) (by omega) K
      · exact lj_c754 hW hJ hA i0 (by omega) (by omega) K
      · exact lj_c782 hW hJ hA i0 (by omega) (by omega) K
      · exact lj_c810 hW hJ hA i0 (by omega) (by omega) K
      · exact lj_c850 hW hJ hA i0 (by omega) (by omega) K
      · exact lj_c878 hW hJ hA i0 (by omega) (by omega) K
      · exact lj_c918 hW hJ hA i0 (by omega) (by omega) K
      · exact lj_c970 hW hJ hA i0 (by omega) (by omega) K
      · exact lj_c1010 hW hJ hA i0 (by omega) (by omega) K
      · exact lj_c1066 hW hJ hA i0 (by omega) (by omega) K
      · exact lj_c1094 hW hJ hA i0 (by omega) (by omega) K
      · exact lj_c1122 hW hJ hA i0 (by omega) (by omega) K
      · exact lj_c1162 hW hJ hA i0 (by omega) (by omega) K
      · exact lj_c1190 hW hJ hA i0 (by omega) (by omega) K
      · exact lj_c1218 hW hJ hA i0 (by omega) (by omega) K
      · exact lj_c1246 hW hJ hA i0 (by omega) (by omega) K
      · exact lj_c1259 hW hJ hA i0 (by omega) (by omega) K
      · exact K c S M o5 o6 o7 h _ _ hW hJ hA (by omega) (by omega)
theorem m_109 {H : zH} {vs : List Value} {D nc ns : Nat} : zMs xs (D + 0) 109 [.ref H.length] (H ++ [(6, vs)]) nc ns (fun o => o = (.inl none, H ++ [(6, vs)], nc, ns)) := ⟨_, rfl, zEs_run 2 rfl (zEs_end rfl rfl rfl)⟩
theorem m_214 (hN : xs.length ≤ 3072) : zMs xs 41 214 [.retAddr 0] [] 0 0 (zPb 601024 7293034) := by
  refine ⟨_, rfl, zEs_run 2 (h' := [(5, (zcf 5).map (fun q => zdf q.2))]) rfl ?_⟩
  refine zEs_callG rfl rfl (m_52f (D := 34)) (fun v h9 nc9 ns9 w => ?_) (fun E h9 nc9 ns9 w => by obtain ⟨_, _, _, _, _, _, _, _, _, w⟩ := w; cases w)
  obtain ⟨s, a, nc1, ns1, hL, hC, hS1, a1, a2, w⟩ := w
  cases w
  refine zEs_run 3 (h' := zx s a [(7, (zcf 7).map (fun q => zdf q.2))]) rfl ?_
  refine zEs_callG rfl (show zcallI 0 110 15 [.ref 44, .ref 44] = some (.inr (.inl (110, [.ref 44], [.ref 44], 15))) from rfl) (zMs_mono (show 20 ≤ 40 by decide) (zMs_and m_110 (fun N => r_110r))) (fun v h9 nc9 ns9 w => ?_) (fun E h9 nc9 ns9 w => by obtain ⟨⟨_, _, _, _, _, w, _⟩, _⟩ := w; cases w)
  obtain ⟨⟨n, lg, h1, nc2, ns2, w, hI, row, b1, b2⟩, M, f1, f2, f3, f4, f5, f6⟩ := w
  cases w
  refine zEs_run 3 rfl ?_
  refine zEs_callG rfl rfl (m_109 (D := 40)) (fun v h9 nc9 ns9 w => ?_) (fun E h9 nc9 ns9 w => by cases w)
  cases w
  refine zEs_run 3 rfl ?_
  have t5 : (zcf 5).length = 12 := rfl
  have t7 : (zcf 7).length = 26 := rfl
  have t6 : (zcf 6).length = 3 := rfl
  have z0 : (Int32.ofInt 0).toInt = 0 := by decide
  have hlen := zHI_len hI
  obtain ⟨hz, s4⟩ := zAA_ini hS1 f2 f3 f4 f5 f6
  have hA : zAA (s, a) M := ⟨hL, hz⟩
  refine l_214 hN _ (8, 5) (s, a) M (Int32.ofInt 0) _ _ _ _ _ _ ?_ (zst0 f1 f4 ⟨_, _, _, rfl⟩) hA (by omega) (by omega) (by omega) (by omega) (Nat.lt_succ_self _)
  exact ⟨zgI s a n, lg, _, (zHI_mv hI (zapp_mv _)).1, hL, hC, ⟨by decide, congrArg Value.int (by decide), congrArg Value.int (by decide), 76, rfl, by decide, zapp_mv _ _ _ row⟩, by rw [show (zgI s a n).s 4 = 0 from s4]; decide, hlen, by rw [List.getElem?_append_right (Nat.le_refl _), Nat.sub_self]; rfl, rfl⟩
end ZX3
