section ZRW
variable {S0 : zSt} {M : zRt} {X : zXt} {kq : Nat × Nat × List Value} {xs : List Int32} {N n : Nat} {nc ns : Nat} {L : (Nat → List (List Int32)) × List Int32}
/-- one list more -/
theorem zUN_more (hn : n < 9) (hX : zUN n kq X L) : zUN (n + 1) kq (zup X.1 n (zy S0 M X).length, zup X.2.1 n [], X.2.2 ++ [zli0]) (zup L.1 n [], L.2) := by
  have hlen : (zfX X).length = (zy S0 M X).length := zfX_ln
  have l73 : 73 ≤ (zy S0 M X).length := zy_73
  have ap : ∀ {k : Nat} {c : Nat × List Value}, (zfX X)[k]? = some c → (zfX (zup X.1 n (zy S0 M X).length, zup X.2.1 n [], X.2.2 ++ [zli0]))[k]? = some c := fun z => zfX_ap z
  have nw : (zfX (zup X.1 n (zy S0 M X).length, zup X.2.1 n [], X.2.2 ++ [zli0]))[(zy S0 M X).length]? = some zli0 := by
    rw [← hlen]
    show (List.replicate 73 _ ++ (X.2.2 ++ [zli0]))[(List.replicate 73 ((0 : Nat), ([] : List Value)) ++ X.2.2).length]? = _
    rw [← List.append_assoc, List.getElem?_append_right (Nat.le_refl _), Nat.sub_self]
    rfl
  obtain ⟨⟨dq, k1⟩, k2, ⟨k3, k4, k5⟩, k6, k7, k8⟩ := hX
  have low : ∀ {j : Nat}, j < n → X.1 j < (zy S0 M X).length := by
    intro j hj
    obtain ⟨a, b, c⟩ := zLs_size (k1 j hj).2.1
    rw [← hlen]
    exact (List.getElem?_eq_some_iff.mp c).1
  refine ⟨⟨zup dq n none, fun j hj => ?_⟩, fun j hj => ?_, ⟨?_, ?_, k5⟩, k6, ap k7, k8⟩
  · show 73 ≤ zup X.1 n _ j ∧ zLs _ (zup X.1 n _ j) (zup dq n none j) (zup X.2.1 n [] j) ∧ (∀ q, zup dq n none j = some q → 73 ≤ q) ∧ ∀ m, m < n + 1 → m ≠ j → zup X.1 n _ m ≠ zup X.1 n _ j ∧ ∀ q, zup dq n none j = some q → zup dq n none m ≠ some q
    by_cases ji : j = n
    · subst ji
      rw [zup_s, zup_s, zup_s]
      refine ⟨l73, ⟨0, rfl, nw⟩, fun q z => (by cases z), fun m hm ne => ⟨?_, fun q z => (by cases z)⟩⟩
      rw [zup_n ne]
      have := low (j := m) (by omega)
      omega
    · obtain ⟨c1, c2, c3, c4⟩ := k1 j (by omega)
      rw [zup_n ji, zup_n ji, zup_n ji]
      refine ⟨c1, ?_, c3, fun m hm ne => ?_⟩
      · obtain ⟨mj, gj⟩ := c2
        refine ⟨mj, ?_⟩
        revert gj
        cases dq j with
        | none => exact fun gj => ⟨gj.1, ap gj.2⟩
        | some q =>
          intro gj
          obtain ⟨vs, g1, g2, g3⟩ := gj
          exact ⟨vs, ap g1, ap g2, g3⟩
      · by_cases mi : m = n
        · rw [mi, zup_s, zup_s]
          have := low (j := j) (by omega)
          exact ⟨by omega, fun q hq z => by cases z⟩
        · rw [zup_n mi, zup_n mi]
          exact c4 m (by omega) ne
  · show (zup X.2.1 n [] j).length = (zup L.1 n [] j).length ∧ (zup L.1 n [] j).length ≤ zlm j ∧ ∀ (k : Nat) (l : List Int32), (zup L.1 n [] j)[k]? = some l → ∃ e, (zup X.2.1 n [] j)[k]? = some e ∧ _
    by_cases ji : j = n
    · subst ji
      rw [zup_s, zup_s]
      exact ⟨rfl, Nat.zero_le _, fun k l z => (by cases z)⟩
    · obtain ⟨c1, c2, c3⟩ := k2 j (by omega)
      rw [zup_n ji, zup_n ji]
      refine ⟨c1, c2, fun k l z => ?_⟩
      obtain ⟨e, e1, e2, e3⟩ := c3 k l z
      exact ⟨e, e1, e2, ap e3⟩
  · show 73 ≤ zup X.1 n _ 9
    rw [zup_n (by omega)]
    exact k3
  · show (zfX _)[zup X.1 n _ 9]? = _
    rw [zup_n (by omega)]
    exact ap k4
/-- new columns -/
theorem zUN_col {c : List Int32} (hn : n ≤ 9) (hc : c.length ≤ 16) (hX : zUN n kq X L) : zUN n kq (zup X.1 9 (zy S0 M X).length, X.2.1, X.2.2 ++ [zar c]) (L.1, c) := by
  have nw : (zfX (zup X.1 9 (zy S0 M X).length, X.2.1, X.2.2 ++ [zar c]))[(zy S0 M X).length]? = some (zar c) := zfX_new
  have ap : ∀ {k : Nat} {d : Nat × List Value}, (zfX X)[k]? = some d → (zfX (zup X.1 9 (zy S0 M X).length, X.2.1, X.2.2 ++ [zar c]))[k]? = some d := fun z => zfX_ap z
  obtain ⟨⟨dq, k1⟩, k2, ⟨k3, k4, k5⟩, k6, k7, k8⟩ := hX
  refine ⟨⟨dq, fun j hj => ?_⟩, fun j hj => ?_, ⟨?_, ?_, hc⟩, k6, ap k7, k8⟩
  · obtain ⟨c1, c2, c3, c4⟩ := k1 j hj
    show 73 ≤ zup X.1 9 _ j ∧ zLs _ (zup X.1 9 _ j) (dq j) (X.2.1 j) ∧ (∀ q, dq j = some q → 73 ≤ q) ∧ ∀ m, m < n → m ≠ j → zup X.1 9 _ m ≠ zup X.1 9 _ j ∧ ∀ q, dq j = some q → dq m ≠ some q
    rw [zup_n (show j ≠ 9 by omega)]
    refine ⟨c1, ?_, c3, fun m hm ne => ?_⟩
    · obtain ⟨mj, gj⟩ := c2
      refine ⟨mj, ?_⟩
      revert gj
      cases dq j with
      | none => exact fun gj => ⟨gj.1, ap gj.2⟩
      | some q =>
        intro gj
        obtain ⟨vs, g1, g2, g3⟩ := gj
        exact ⟨vs, ap g1, ap g2, g3⟩
    · rw [zup_n (show m ≠ 9 by omega)]
      exact c4 m hm ne
  · obtain ⟨c1, c2, c3⟩ := k2 j hj
    refine ⟨c1, c2, fun k l z => ?_⟩
    obtain ⟨e, e1, e2, e3⟩ := c3 k l z
    exact ⟨e, e1, e2, ap e3⟩
  · show 73 ≤ zup X.1 9 _ 9
    rw [zup_s]
    exact zy_73
  · show (zfX _)[zup X.1 9 _ 9]? = _
    rw [zup_s]
    exact nw
abbrev zX53 (X : zXt) : zXt := (zup (zup X.1 0 (X.1 3)) 1 (X.1 4), zup (zup X.2.1 0 (X.2.1 3)) 1 (X.2.1 4), X.2.2)
/-- two lists take the place of two others -/
theorem zUN_53 (hX : zUN 5 kq X L) : zUN 3 kq (zX53 X) (zup (zup L.1 0 (L.1 3)) 1 (L.1 4), L.2) := by
  obtain ⟨⟨dq, k1⟩, k2, ⟨k3, k4, k5⟩, k6, k7, k8⟩ := hX
  have σ : ∀ {α : Type} (f : Nat → α) (j : Nat), j < 3 → ∃ i, i < 5 ∧ (zlm i = zlm j) ∧ (zup (zup f 0 (f 3)) 1 (f 4)) j = f i ∧ i = (if j = 0 then 3 else if j = 1 then 4 else j) := by
    intro α f j hj
    rcases (show j = 0 ∨ j = 1 ∨ j = 2 by omega) with rfl | rfl | rfl
    · exact ⟨3, by decide, by decide, rfl, rfl⟩
    · exact ⟨4, by decide, by decide, rfl, rfl⟩
    · exact ⟨2, by decide, by decide, rfl, rfl⟩
  refine ⟨⟨zup (zup dq 0 (dq 3)) 1 (dq 4), fun j hj => ?_⟩, fun j hj => ?_, ⟨k3, k4, k5⟩, k6, k7, k8⟩
  · obtain ⟨i, i1, -, i2, i3⟩ := σ X.1 j hj
    obtain ⟨i', -, -, i4, i5⟩ := σ dq j hj
    obtain ⟨i9, -, -, i6, i7⟩ := σ X.2.1 j hj
    obtain rfl : i' = i := i5.trans i3.symm
    obtain rfl : i9 = i' := i7.trans i3.symm
    obtain ⟨c1, c2, c3, c4⟩ := k1 _ i1
    show 73 ≤ (zup (zup X.1 0 (X.1 3)) 1 (X.1 4)) j ∧ zLs (zfX X) ((zup (zup X.1 0 (X.1 3)) 1 (X.1 4)) j) ((zup (zup dq 0 (dq 3)) 1 (dq 4)) j) ((zup (zup X.2.1 0 (X.2.1 3)) 1 (X.2.1 4)) j) ∧ (∀ q, (zup (zup dq 0 (dq 3)) 1 (dq 4)) j = some q → 73 ≤ q) ∧ ∀ m, m < 3 → m ≠ j → (zup (zup X.1 0 (X.1 3)) 1 (X.1 4)) m ≠ (zup (zup X.1 0 (X.1 3)) 1 (X.1 4)) j ∧ ∀ q, (zup (zup dq 0 (dq 3)) 1 (dq 4)) j = some q → (zup (zup dq 0 (dq 3)) 1 (dq 4)) m ≠ some q
    rw [i2, i4, i6]
    refine ⟨c1, c2, c3, fun m hm ne => ?_⟩
    obtain ⟨p, p1, -, p2, p3⟩ := σ X.1 m hm
    obtain ⟨p', -, -, p4, p5⟩ := σ dq m hm
    obtain rfl : p' = p := p5.trans p3.symm
    rw [p2, p4]
    refine c4 _ p1 ?_
    rw [p5, i3]
    rcases (show j = 0 ∨ j = 1 ∨ j = 2 by omega) with rfl | rfl | rfl <;> rcases (show m = 0 ∨ m = 1 ∨ m = 2 by omega) with rfl | rfl | rfl <;> simp at ne ⊢
  · obtain ⟨i, i1, e1, i2, i3⟩ := σ L.1 j hj
    obtain ⟨i', -, -, i4, i5⟩ := σ X.2.1 j hj
    obtain rfl : i' = i := i5.trans i3.symm
    obtain ⟨c1, c2, c3⟩ := k2 _ i1
    show ((zup (zup X.2.1 0 (X.2.1 3)) 1 (X.2.1 4)) j).length = ((zup (zup L.1 0 (L.1 3)) 1 (L.1 4)) j).length ∧ ((zup (zup L.1 0 (L.1 3)) 1 (L.1 4)) j).length ≤ zlm j ∧ ∀ (k : Nat) (l : List Int32), ((zup (zup L.1 0 (L.1 3)) 1 (L.1 4)) j)[k]? = some l → ∃ e, ((zup (zup X.2.1 0 (X.2.1 3)) 1 (X.2.1 4)) j)[k]? = some e ∧ 73 ≤ e ∧ (zfX X)[e]? = some (zar l)
    rw [i2, i4, ← e1]
    exact ⟨c1, c2, c3⟩
/-- the elements of the first n whose bit is below w -/
def zflt (w : Int32) (src : List (List Int32)) : Nat → List (List Int32)
  | 0 => []
  | n + 1 => if (zgt (src.getD n []) (Int32.ofInt 2)).toInt < w.toInt then zflt w src n ++ [src.getD n []] else zflt w src n
theorem zflt_len {w : Int32} {src : List (List Int32)} : ∀ n, (zflt w src n).length ≤ n
  | 0 => Nat.le_refl _
  | n + 1 => by
    have := zflt_len (w := w) (src := src) n
    show (if _ then _ else _ : List (List Int32)).length ≤ _
    split
    · rw [List.length_append]
      show _ + 1 ≤ _
      omega
    · omega
end ZRW
section ZRX9
variable {S0 : zSt} {M : zRt} {X : zXt} {kq : Nat × Nat × List Value} {xs : List Int32} {N : Nat} {nc ns : Nat} {P : zO → Prop}
theorem zUX_el {n i : Nat} {j : Int32} {L : (Nat → List (List Int32)) × List Int32} (hX : zUN n kq X L) (hi : i < n) (h : j.toNatClampNeg < (L.1 i).length) : 73 ≤ zel X i j ∧ (zfX X)[zel X i j]? = some (zar ((L.1 i).getD j.toNatClampNeg [])) := by
  obtain ⟨-, k, -⟩ := hX
  obtain ⟨a, b, c⟩ := k i hi
  obtain ⟨e, e1, e2, e3⟩ := c j.toNatClampNeg _ (List.getElem?_eq_getElem h)
  have z : zel X i j = e := by
    unfold zel
    rw [List.getD_eq_getElem?_getD, e1]
    rfl
  rw [z, List.getD_eq_getElem?_getD, List.getElem?_eq_getElem h]
  exact ⟨e2, e3⟩
theorem c_139a {K R : Int32} {r3 r4 : Nat} (hM : (M.2.2.1 0).length ≤ 24) {N0 : Nat} (C : ∀ (X : zXt) (i5 : Int32) (o6 : Option Value) (nc ns : Nat), X.1 3 = r3 → X.1 4 = r4 → zUN 5 kq X (zmLs M 3 (zflt (K + R) (M.2.2.1 0) (M.2.2.1 0).length)).2.2 → zpE xs N0 139 141 [some (.ref 44), some (.int K), some (.int R), some (.ref r3), some (.ref r4), some (.int i5), o6] [] (zy S0 M X) nc ns P) : ∀ (N k : Nat) (X : zXt) (o6 : Option Value) (nc ns : Nat), N ≤ N0 → k ≤ (M.2.2.1 0).length → X.1 3 = r3 → X.1 4 = r4 → zUN 5 kq X (zmLs M 3 (zflt (K + R) (M.2.2.1 0) k)).2.2 → zpE xs N 139 78 [some (.ref 44), some (.int K), some (.int R), some (.ref r3), some (.ref r4), some (.int (Int32.ofNat k)), o6] [] (zy S0 M X) nc ns P
  | 0, _, _, _, _, _, _, _, _, _, _ => zpE_0
  | N + 1, k, X, o6, nc, ns, hN, hk, h3, h4, hX => by
    have J : ∀ (X' : zXt) (nc ns : Nat), X'.1 = X.1 → zUN 5 kq X' (zmLs M 3 (zflt (K + R) (M.2.2.1 0) (k + 1))).2.2 → k + 1 ≤ (M.2.2.1 0).length → zpE xs N 139 135 [some (.ref 44), some (.int K), some (.int R), some (.ref r3), some (.ref r4), some (.int (Int32.ofNat k)), o6] [] (zy S0 M X') nc ns P := by
      intro X' nc ns e hX' hk'
      have G := c_139a hM C N (k + 1) X' o6 nc ns (by omega) hk' (by rw [e]; exact h3) (by rw [e]; exact h4) hX'
      rw [← zof1] at G
      exact zpE_run 2 rfl G
    refine zpE_run1 2 (L' := [some (.ref 44), some (.int K), some (.int R), some (.ref r3), some (.ref r4), some (.int (Int32.ofNat k)), o6]) (st' := [.ref (X.1 0), .int (Int32.ofNat k)]) rfl ?_
    show zpE xs N 139 84 _ _ (zy S0 (zmLs M 3 (zflt (K + R) (M.2.2.1 0) k)) X) _ _ _
    obtain ⟨vs1, lc1⟩ := zUX_lc (S0 := S0) (M := zmLs M 3 (zflt (K + R) (M.2.2.1 0) k)) (i := 0) (by decide) hX
    refine zpE_call rfl (show zcallV 0 10 243 89 (.ref (X.1 0) :: _) _ = _ from zcallV_eq rfl lc1 (Nat.le_of_ble_eq_true rfl)) (zul_243 (M := zmLs M 3 (zflt (K + R) (M.2.2.1 0) k)) (i := 0) (by decide) hX) (fun v h1 nc1 ns1 q8 => ?_) (fun E h1 nc1 ns1 q8 => by cases q8)
    cases q8
    show zpE xs N 139 89 _ [.int (Int32.ofNat (M.2.2.1 0).length), .int (Int32.ofNat k)] _ _ _ _
    have el : (Int32.ofNat (M.2.2.1 0).length).toInt = ((M.2.2.1 0).length : Int) := zofI (by omega)
    have ek : (Int32.ofNat k).toInt = (k : Int) := zofI (by omega)
    refine zpE_icmp rfl (fun q => ?_) (fun q => ?_)
    · have z := zF_ge_t q
      rw [el, ek] at z
      obtain rfl : k = (M.2.2.1 0).length := by omega
      exact zpE_le (by omega) (C X _ _ _ _ h3 h4 hX)
    · have z := zF_ge_f q
      rw [el, ek] at z
      have hkl : k < (M.2.2.1 0).length := by omega
      have ecl : (Int32.ofNat k).toNatClampNeg = k := zcl_of (by omega)
      have rg : ¬ Int32.ofNat k < 0 ∧ (Int32.ofNat k).toNatClampNeg < ((zmLs M 3 (zflt (K + R) (M.2.2.1 0) k)).2.2.1 0).length := by
        refine ⟨fun w => ?_, by rw [ecl]; exact hkl⟩
        rw [Int32.lt_iff_toInt_lt, ek, show (0 : Int32).toInt = 0 from by decide] at w
        omega
      refine zpE_run 3 (L' := [some (.ref 44), some (.int K), some (.int R), some (.ref r3), some (.ref r4), some (.int (Int32.ofNat k)), o6]) (st' := [.int (Int32.ofNat k), .ref (X.1 0)]) rfl ?_
      refine zpE_call rfl (show zcallV 1 10 239 103 (.int (Int32.ofNat k) :: .ref (X.1 0) :: _) _ = _ from zcallV_eq rfl lc1 (Nat.le_of_ble_eq_true rfl)) (zul_239 (M := zmLs M 3 (zflt (K + R) (M.2.2.1 0) k)) (i := 0) (by decide) hX rg) (fun v h1 nc1 ns1 q8 => ?_) (fun E h1 nc1 ns1 q8 => by cases q8)
      cases q8
      refine zpE_chk rfl (zUX_e hX rg) ?_
      refine zpE_run 1 (L' := [some (.ref 44), some (.int K), some (.int R), some (.ref r3), some (.ref r4), some (.int (Int32.ofNat k)), o6]) (st' := [.int (Int32.ofInt 2), .ref (zel X 0 (Int32.ofNat k))]) rfl ?_
      refine zpE_aly rfl (zUX_e hX rg) (fun _ _ => ?_)
      refine zpE_gen (fun nc ns => ?_)
      refine zpE_run 3 (L' := [some (.ref 44), some (.int K), some (.int R), some (.ref r3), some (.ref r4), some (.int (Int32.ofNat k)), o6]) (st' := [.int (K + R), .int (zgt ((M.2.2.1 0).getD (Int32.ofNat k).toNatClampNeg []) (Int32.ofInt 2))]) rfl ?_
      rw [ecl]
      have ef : zflt (K + R) (M.2.2.1 0) (k + 1) = if (zgt ((M.2.2.1 0).getD k []) (Int32.ofInt 2)).toInt < (K + R).toInt then zflt (K + R) (M.2.2.1 0) k ++ [(M.2.2.1 0).getD k []] else zflt (K + R) (M.2.2.1 0) k := rfl
      refine zpE_icmp rfl (fun q2 => ?_) (fun q2 => ?_)
      · rw [if_neg (Int.not_lt.mpr (zF_ge_t q2))] at ef
        exact J X _ _ rfl (by rw [ef]; exact hX) hkl
      · rw [if_pos (zF_ge_f q2)] at ef
        refine zpE_run 4 (L' := [some (.ref 44), some (.int K), some (.int R), some (.ref r3), some (.ref r4), some (.int (Int32.ofNat k)), o6]) (st' := [.int (Int32.ofNat k), .ref (X.1 0), .ref r3]) rfl ?_
        refine zpE_call rfl (show zcallV 1 10 239 126 (.int (Int32.ofNat k) :: .ref (X.1 0) :: _) _ = _ from zcallV_eq rfl lc1 (Nat.le_of_ble_eq_true rfl)) (zul_239 (M := zmLs M 3 (zflt (K + R) (M.2.2.1 0) k)) (i := 0) (by decide) hX rg) (fun v h1 nc1 ns1 q8 => ?_) (fun E h1 nc1 ns1 q8 => by cases q8)
        cases q8
        refine zpE_chk rfl (zUX_e hX rg) ?_
        obtain ⟨he1, he2⟩ := zUX_el hX (i := 0) (by decide) rg.2
        obtain ⟨vs2, lc2⟩ := zUX_lc (S0 := S0) (M := zmLs M 3 (zflt (K + R) (M.2.2.1 0) k)) (i := 3) (by decide) hX
        rw [show X.1 3 = r3 from h3] at lc2
        have hlen := zflt_len (w := K + R) (src := M.2.2.1 0) k
        have AD := fun nc ns => zul_237 (xs := xs) (S0 := S0) (M := zmLs M 3 (zflt (K + R) (M.2.2.1 0) k)) (N := N) (nc := nc) (ns := ns) (i := 3) (by decide) hX he1 he2 (show (zflt (K + R) (M.2.2.1 0) k).length < zlm 3 from (show _ < 24 by omega))
        rw [show X.1 3 = r3 from h3] at AD
        refine zpE_call rfl (show zcallV 1 10 237 134 (.ref (zel X 0 (Int32.ofNat k)) :: .ref r3 :: _) _ = _ from zcallV_eq rfl lc2 (Nat.le_of_ble_eq_true rfl)) (AD _ _) (fun v h1 nc1 ns1 q8 => ?_) (fun E h1 nc1 ns1 q8 => by obtain ⟨_, _, _, q8, _⟩ := q8; cases q8)
        obtain ⟨X2, hX2, e2, q8, q9⟩ := q8
        cases q8
        cases q9
        refine zpE_run 1 (L' := [some (.ref 44), some (.int K), some (.int R), some (.ref r3), some (.ref r4), some (.int (Int32.ofNat k)), o6]) (st' := []) rfl ?_
        refine J X2 _ _ e2 ?_ hkl
        have hz : (zmLs (zmLs M 3 (zflt (K + R) (M.2.2.1 0) k)) 3 (((zmLs M 3 (zflt (K + R) (M.2.2.1 0) k)).2.2.1 3) ++ [((zmLs M 3 (zflt (K + R) (M.2.2.1 0) k)).2.2.1 0).getD (Int32.ofNat k).toNatClampNeg []])).2.2 = (zmLs M 3 (zflt (K + R) (M.2.2.1 0) (k + 1))).2.2 := by
          rw [ef, ecl]
          show (zup (zup M.2.2.1 3 _) 3 (_ ++ _), M.2.2.2) = (zup M.2.2.1 3 _, M.2.2.2)
          rw [zup2]
          rfl
        rw [← hz]
        exact hX2
theorem c_139b {K R : Int32} {r3 r4 : Nat} (hM : (M.2.2.1 1).length ≤ 24) {N0 : Nat} (C : ∀ (X : zXt) (i5 : Int32) (o6 : Option Value) (nc ns : Nat), X.1 3 = r3 → X.1 4 = r4 → zUN 5 kq X (zmLs M 4 (zflt (K + R) (M.2.2.1 1) (M.2.2.1 1).length)).2.2 → zpE xs N0 139 208 [some (.ref 44), some (.int K), some (.int R), some (.ref r3), some (.ref r4), some (.int i5), o6] [] (zy S0 M X) nc ns P) : ∀ (N k : Nat) (X : zXt) (o6 : Option Value) (nc ns : Nat), N ≤ N0 → k ≤ (M.2.2.1 1).length → X.1 3 = r3 → X.1 4 = r4 → zUN 5 kq X (zmLs M 4 (zflt (K + R) (M.2.2.1 1) k)).2.2 → zpE xs N 139 144 [some (.ref 44), some (.int K), some (.int R), some (.ref r3), some (.ref r4), some (.int (Int32.ofNat k)), o6] [] (zy S0 M X) nc ns P
  | 0, _, _, _, _, _, _, _, _, _, _ => zpE_0
  | N + 1, k, X, o6, nc, ns, hN, hk, h3, h4, hX => by
    have J : ∀ (X' : zXt) (nc ns : Nat), X'.1 = X.1 → zUN 5 kq X' (zmLs M 4 (zflt (K + R) (M.2.2.1 1) (k + 1))).2.2 → k + 1 ≤ (M.2.2.1 1).length → zpE xs N 139 202 [some (.ref 44), some (.int K), some (.int R), some (.ref r3), some (.ref r4), some (.int (Int32.ofNat k)), o6] [] (zy S0 M X') nc ns P := by
      intro X' nc ns e hX' hk'
      have G := c_139b hM C N (k + 1) X' o6 nc ns (by omega) hk' (by rw [e]; exact h3) (by rw [e]; exact h4) hX'
      rw [← zof1] at G
      exact zpE_run 2 rfl G
    refine zpE_run1 2 (L' := [some (.ref 44), some (.int K), some (.int R), some (.ref r3), some (.ref r4), some (.int (Int32.ofNat k)), o6]) (st' := [.ref (X.1 1), .int (Int32.ofNat k)]) rfl ?_
    show zpE xs N 139 150 _ _ (zy S0 (zmLs M 4 (zflt (K + R) (M.2.2.1 1) k)) X) _ _ _
    obtain ⟨vs1, lc1⟩ := zUX_lc (S0 := S0) (M := zmLs M 4 (zflt (K + R) (M.2.2.1 1) k)) (i := 1) (by decide) hX
    refine zpE_call rfl (show zcallV 0 10 243 155 (.ref (X.1 1) :: _) _ = _ from zcallV_eq rfl lc1 (Nat.le_of_ble_eq_true rfl)) (zul_243 (M := zmLs M 4 (zflt (K + R) (M.2.2.1 1) k)) (i := 1) (by decide) hX) (fun v h1 nc1 ns1 q8 => ?_) (fun E h1 nc1 ns1 q8 => by cases q8)
    cases q8
    show zpE xs N 139 155 _ [.int (Int32.ofNat (M.2.2.1 1).length), .int (Int32.ofNat k)] _ _ _ _
    have el : (Int32.ofNat (M.2.2.1 1).length).toInt = ((M.2.2.1 1).length : Int) := zofI (by omega)
    have ek : (Int32.ofNat k).toInt = (k : Int) := zofI (by omega)
    refine zpE_icmp rfl (fun q => ?_) (fun q => ?_)
    · have z := zF_ge_t q
      rw [el, ek] at z
      obtain rfl : k = (M.2.2.1 1).length := by omega
      exact zpE_le (by omega) (C X _ _ _ _ h3 h4 hX)
    · have z := zF_ge_f q
      rw [el, ek] at z
      have hkl : k < (M.2.2.1 1).length := by omega
      have ecl : (Int32.ofNat k).toNatClampNeg = k := zcl_of (by omega)
      have rg : ¬ Int32.ofNat k < 0 ∧ (Int32.ofNat k).toNatClampNeg < ((zmLs M 4 (zflt (K + R) (M.2.2.1 1) k)).2.2.1 1).length := by
        refine ⟨fun w => ?_, by rw [ecl]; exact hkl⟩
        rw [Int32.lt_iff_toInt_lt, ek, show (0 : Int32).toInt = 0 from by decide] at w
        omega
      refine zpE_run 3 (L' := [some (.ref 44), some (.int K), some (.int R), some (.ref r3), some (.ref r4), some (.int (Int32.ofNat k)), o6]) (st' := [.int (Int32.ofNat k), .ref (X.1 1)]) rfl ?_
      refine zpE_call rfl (show zcallV 1 10 239 169 (.int (Int32.ofNat k) :: .ref (X.1 1) :: _) _ = _ from zcallV_eq rfl lc1 (Nat.le_of_ble_eq_true rfl)) (zul_239 (M := zmLs M 4 (zflt (K + R) (M.2.2.1 1) k)) (i := 1) (by decide) hX rg) (fun v h1 nc1 ns1 q8 => ?_) (fun E h1 nc1 ns1 q8 => by cases q8)
      cases q8
      refine zpE_chk rfl (zUX_e hX rg) ?_
      refine zpE_run 1 (L' := [some (.ref 44), some (.int K), some (.int R), some (.ref r3), some (.ref r4), some (.int (Int32.ofNat k)), o6]) (st' := [.int (Int32.ofInt 2), .ref (zel X 1 (Int32.ofNat k))]) rfl ?_
      refine zpE_aly rfl (zUX_e hX rg) (fun _ _ => ?_)
      refine zpE_gen (fun nc ns => ?_)
      refine zpE_run 3 (L' := [some (.ref 44), some (.int K), some (.int R), some (.ref r3), some (.ref r4), some (.int (Int32.ofNat k)), o6]) (st' := [.int (K + R), .int (zgt ((M.2.2.1 1).getD (Int32.ofNat k).toNatClampNeg []) (Int32.ofInt 2))]) rfl ?_
      rw [ecl]
      have ef : zflt (K + R) (M.2.2.1 1) (k + 1) = if (zgt ((M.2.2.1 1).getD k []) (Int32.ofInt 2)).toInt < (K + R).toInt then zflt (K + R) (M.2.2.1 1) k ++ [(M.2.2.1 1).getD k []] else zflt (K + R) (M.2.2.1 1) k := rfl
      refine zpE_icmp rfl (fun q2 => ?_) (fun q2 => ?_)
      · rw [if_neg (Int.not_lt.mpr (zF_ge_t q2))] at ef
        exact J X _ _ rfl (by rw [ef]; exact hX) hkl
      · rw [if_pos (zF_ge_f q2)] at ef
        refine zpE_run 4 (L' := [some (.ref 44), some (.int K), some (.int R), some (.ref r3), some (.ref r4), some (.int (Int32.ofNat k)), o6]) (st' := [.int (Int32.ofNat k), .ref (X.1 1), .ref r4]) rfl ?_
        refine zpE_call rfl (show zcallV 1 10 239 193 (.int (Int32.ofNat k) :: .ref (X.1 1) :: _) _ = _ from zcallV_eq rfl lc1 (Nat.le_of_ble_eq_true rfl)) (zul_239 (M := zmLs M 4 (zflt (K + R) (M.2.2.1 1) k)) (i := 1) (by decide) hX rg) (fun v h1 nc1 ns1 q8 => ?_) (fun E h1 nc1 ns1 q8 => by cases q8)
        cases q8
        refine zpE_chk rfl (zUX_e hX rg) ?_
        obtain ⟨he1, he2⟩ := zUX_el hX (i := 1) (by decide) rg.2
        obtain ⟨vs2, lc2⟩ := zUX_lc (S0 := S0) (M := zmLs M 4 (zflt (K + R) (M.2.2.1 1) k)) (i := 4) (by decide) hX
        rw [show X.1 4 = r4 from h4] at lc2
        have hlen := zflt_len (w := K + R) (src := M.2.2.1 1) k
        have AD := fun nc ns => zul_237 (xs := xs) (S0 := S0) (M := zmLs M 4 (zflt (K + R) (M.2.2.1 1) k)) (N := N) (nc := nc) (ns := ns) (i := 4) (by decide) hX he1 he2 (show (zflt (K + R) (M.2.2.1 1) k).length < zlm 4 from (show _ < 24 by omega))
        rw [show X.1 4 = r4 from h4] at AD
        refine zpE_call rfl (show zcallV 1 10 237 201 (.ref (zel X 1 (Int32.ofNat k)) :: .ref r4 :: _) _ = _ from zcallV_eq rfl lc2 (Nat.le_of_ble_eq_true rfl)) (AD _ _) (fun v h1 nc1 ns1 q8 => ?_) (fun E h1 nc1 ns1 q8 => by obtain ⟨_, _, _, q8, _⟩ := q8; cases q8)
        obtain ⟨X2, hX2, e2, q8, q9⟩ := q8
        cases q8
        cases q9
        refine zpE_run 1 (L' := [some (.ref 44), some (.int K), some (.int R), some (.ref r3), some (.ref r4), some (.int (Int32.ofNat k)), o6]) (st' := []) rfl ?_
        refine J X2 _ _ e2 ?_ hkl
        have hz : (zmLs (zmLs M 4 (zflt (K + R) (M.2.2.1 1) k)) 4 (((zmLs M 4 (zflt (K + R) (M.2.2.1 1) k)).2.2.1 4) ++ [((zmLs M 4 (zflt (K + R) (M.2.2.1 1) k)).2.2.1 1).getD (Int32.ofNat k).toNatClampNeg []])).2.2 = (zmLs M 4 (zflt (K + R) (M.2.2.1 1) (k + 1))).2.2 := by
          rw [ef, ecl]
          show (zup (zup M.2.2.1 4 _) 4 (_ ++ _), M.2.2.2) = (zup M.2.2.1 4 _, M.2.2.2)
          rw [zup2]
          rfl
        rw [← hz]
        exact hX2
end ZRX9
section ZRY
variable {S0 : zSt} {M : zRt} {X : zXt} {kq : Nat × Nat × List Value} {xs : List Int32} {N : Nat} {nc ns : Nat} {P : zO → Prop}
theorem zy_cM {M' : zRt} (h1 : M.1 = M'.1) (h2 : M.2.1 = M'.2.1) : zy S0 M X = zy S0 M' X := by
  show zx S0.1 S0.2 (zM M X) = zx S0.1 S0.2 (zM M' X)
  unfold zM
  rw [h1, h2]
theorem zy_cX {X' : zXt} (h0 : X.1 0 = X'.1 0) (h1 : X.1 1 = X'.1 1) (h2 : X.1 2 = X'.1 2) (h9 : X.1 9 = X'.1 9) (hU : X.2.2 = X'.2.2) : zy S0 M X = zy S0 M X' := by
  show zx S0.1 S0.2 (zM M X) = zx S0.1 S0.2 (zM M X')
  unfold zM
  rw [h0, h1, h2, h9, hU]
theorem zy_ap {c : Nat × List Value} : zy S0 M X ++ [c] = zy S0 M (X.1, X.2.1, X.2.2 ++ [c]) := rfl
def w139p (M : zRt) : Nat → zRt
  | 0 => M
  | k + 1 => zmW (w139p M k) 24 (Int32.ofNat k) (Int32.ofInt 0)
def w139i (l : Int32) (M : zRt) : Nat → zRt
  | 0 => M
  | k + 1 => r126 l (Int32.ofNat k) (Int32.ofInt 0) (w139i l M k)
def w139o (M : zRt) : Nat → zRt
  | 0 => M
  | k + 1 => w139i (Int32.ofNat k) (zmW (w139o M k) 20 (Int32.ofNat k) (Int32.ofInt 0)) 8
theorem gr_w139p : ∀ k, zfrM [] [24] [] (w139p M k) M
  | 0 => gm_rf
  | k + 1 => gm_tr gm_W (gr_w139p k)
theorem gr_w139i {l : Int32} : ∀ k, zfrM [] [0, 1, 2, 3, 4, 5, 6, 7, 8, 9, 10, 11, 12, 13, 14, 15, 16, 17, 18, 19, 20] [] (w139i l M k) M
  | 0 => gm_rf
  | k + 1 => gm_tr (gm_mo gr_126 (by decide) (by decide) (by decide)) (gr_w139i k)
theorem gr_w139o : ∀ k, zfrM [] [0, 1, 2, 3, 4, 5, 6, 7, 8, 9, 10, 11, 12, 13, 14, 15, 16, 17, 18, 19, 20] [] (w139o M k) M
  | 0 => gm_rf
  | k + 1 => gm_tr (gr_w139i 8) (gm_tr (gm_mo gm_W (by decide) (by decide) (by decide)) (gr_w139o k))
theorem l_139p {K R : Int32} {r3 r4 : Nat} {o6 : Option Value} {N0 : Nat} (C : ∀ (i5 : Int32) (nc ns : Nat), zpE xs N0 139 255 [some (.ref 44), some (.int K), some (.int R), some (.ref r3), some (.ref r4), some (.int i5), o6] [] (zy S0 (w139p M 128) X) nc ns P) : ∀ (N k nc ns : Nat), N ≤ N0 → k ≤ 128 → zpE xs N 139 233 [some (.ref 44), some (.int K), some (.int R), some (.ref r3), some (.ref r4), some (.int (Int32.ofNat k)), o6] [] (zy S0 (w139p M k) X) nc ns P
  | 0, _, _, _, _, _ => zpE_0
  | N + 1, k, nc, ns, hN, hk => by
    refine zpE_run1 1 (L' := [some (.ref 44), some (.int K), some (.int R), some (.ref r3), some (.ref r4), some (.int (Int32.ofNat k)), o6]) (st' := [.int (Int32.ofInt 128), .int (Int32.ofNat k)]) rfl ?_
    have e8 : (Int32.ofInt 128).toInt = 128 := by decide
    refine zpE_icmp rfl (fun q => ?_) (fun q => ?_)
    · have z := zF_ge_t q
      rw [zofI (by omega), e8] at z
      obtain rfl : k = 128 := by omega
      exact zpE_le (by omega) (C _ _ _)
    · have z := zF_ge_f q
      rw [zofI (by omega), e8] at z
      refine zpE_run 4 (L' := [some (.ref 44), some (.int K), some (.int R), some (.ref r3), some (.ref r4), some (.int (Int32.ofNat k)), o6]) (st' := [.int (Int32.ofInt 0), .int (Int32.ofNat k), .ref 71]) rfl ?_
      refine zpE_bsy (h' := zy S0 (w139p M (k + 1)) X) rfl (zy_g71 (M := w139p M k)) (zy_s71 (M := w139p M k)) (fun _ _ _ => ?_)
      have G := fun nc ns => l_139p C N (k + 1) nc ns (by omega) (by omega)
      rw [← zof1] at G
      exact zpE_run 2 rfl (G _ _)
theorem l_139i {K R : Int32} {r3 r4 : Nat} {l : Int32} {N0 : Nat} (hX : zUX kq X M.2.2) (C : ∀ (o6 : Option Value) (nc ns : Nat), zpE xs N0 139 301 [some (.ref 44), some (.int K), some (.int R), some (.ref r3), some (.ref r4), some (.int l), o6] [] (zy S0 (w139i l M 8) X) nc ns P) : ∀ (N k nc ns : Nat), N ≤ N0 → k ≤ 8 → zpE xs N 139 279 [some (.ref 44), some (.int K), some (.int R), some (.ref r3), some (.ref r4), some (.int l), some (.int (Int32.ofNat k))] [] (zy S0 (w139i l M k) X) nc ns P
  | 0, _, _, _, _, _ => zpE_0
  | N + 1, k, nc, ns, hN, hk => by
    refine zpE_run1 1 (L' := [some (.ref 44), some (.int K), some (.int R), some (.ref r3), some (.ref r4), some (.int l), some (.int (Int32.ofNat k))]) (st' := [.int (Int32.ofInt 8), .int (Int32.ofNat k)]) rfl ?_
    have e8 : (Int32.ofInt 8).toInt = 8 := by decide
    refine zpE_icmp rfl (fun q => ?_) (fun q => ?_)
    · have z := zF_ge_t q
      rw [zofI (by omega), e8] at z
      obtain rfl : k = 8 := by omega
      exact zpE_le (by omega) (C _ _ _)
    · have z := zF_ge_f q
      rw [zofI (by omega), e8] at z
      have hY : zUX kq X (w139i l M k).2.2 := by
        rw [gm_l (gr_w139i k)]
        exact hX
      refine zpE_run 4 (L' := [some (.ref 44), some (.int K), some (.int R), some (.ref r3), some (.ref r4), some (.int l), some (.int (Int32.ofNat k))]) (st' := [.int (Int32.ofInt 0), .int (Int32.ofNat k), .int l, .ref 44]) rfl ?_
      refine zpE_call rfl rfl (f_126 (M := w139i l M k) (x1 := l) (x2 := Int32.ofNat k) (x3 := Int32.ofInt 0) hY) (fun v h1 nc1 ns1 q8 => ?_) (fun E h1 nc1 ns1 q8 => by cases q8.1)
      obtain ⟨q8, q9⟩ := q8
      cases q8
      cases q9
      have G := fun nc ns => l_139i hX C N (k + 1) nc ns (by omega) (by omega)
      rw [← zof1] at G
      exact zpE_run 2 rfl (G _ _)
theorem l_139o {K R : Int32} {r3 r4 : Nat} {N0 : Nat} (hX : zUX kq X M.2.2) (C : ∀ (i5 : Int32) (o6 : Option Value) (nc ns : Nat), zpE xs N0 139 307 [some (.ref 44), some (.int K), some (.int R), some (.ref r3), some (.ref r4), some (.int i5), o6] [] (zy S0 (w139o M 20) X) nc ns P) : ∀ (N k : Nat) (o6 : Option Value) (nc ns : Nat), N ≤ N0 → k ≤ 20 → zpE xs N 139 258 [some (.ref 44), some (.int K), some (.int R), some (.ref r3), some (.ref r4), some (.int (Int32.ofNat k)), o6] [] (zy S0 (w139o M k) X) nc ns P
  | 0, _, _, _, _, _, _ => zpE_0
  | N + 1, k, o6, nc, ns, hN, hk => by
    refine zpE_run1 2 (L' := [some (.ref 44), some (.int K), some (.int R), some (.ref r3), some (.ref r4), some (.int (Int32.ofNat k)), o6]) (st' := [.ref 46, .int (Int32.ofNat k)]) rfl ?_
    refine zpE_alen rfl (show (zy S0 (w139o M k) X)[46]? = some (104, (List.range 20).map (fun j => .ref (47 + j))) from rfl) (by decide) ?_
    rw [List.length_map, List.length_range]
    refine zpE_icmp rfl (fun q => ?_) (fun q => ?_)
    · have z := zF_ge_t q
      rw [zofI (by omega), zofI (by omega)] at z
      obtain rfl : k = 20 := by omega
      exact zpE_le (by omega) (C _ _ _ _)
    · have z := zF_ge_f q
      rw [zofI (by omega), zofI (by omega)] at z
      refine zpE_run 4 (L' := [some (.ref 44), some (.int K), some (.int R), some (.ref r3), some (.ref r4), some (.int (Int32.ofNat k)), o6]) (st' := [.int (Int32.ofInt 0), .int (Int32.ofNat k), .ref 67]) rfl ?_
      refine zpE_asy (h' := zy S0 (zmW (w139o M k) 20 (Int32.ofNat k) (Int32.ofInt 0)) X) rfl (zy_g67 (M := w139o M k)) (zy_s67 (M := w139o M k)) (fun _ _ => ?_)
      have hY : zUX kq X (zmW (w139o M k) 20 (Int32.ofNat k) (Int32.ofInt 0)).2.2 := by
        show zUX kq X (w139o M k).2.2
        rw [gm_l (gr_w139o k)]
        exact hX
      refine zpE_run 2 (L' := [some (.ref 44), some (.int K), some (.int R), some (.ref r3), some (.ref r4), some (.int (Int32.ofNat k)), some (.int (Int32.ofNat 0))]) (st' := []) rfl ?_
      refine l_139i (M := zmW (w139o M k) 20 (Int32.ofNat k) (Int32.ofInt 0)) hY (fun o6 nc ns => ?_) N 0 _ _ (Nat.le_refl _) (by decide)
      have G := l_139o hX C N (k + 1) o6 nc ns (by omega) (by omega)
      rw [← zof1] at G
      exact zpE_run 2 rfl G
def q139 (k r : Nat) (M : zRt) : zRt := (zup (zup (zup M.1 0 (Int32.ofInt 0)) 1 (Int32.ofNat k)) 2 (Int32.ofNat r), M.2.1, zup (zup (zup M.2.2.1 0 (zflt (Int32.ofNat k + Int32.ofNat r) (M.2.2.1 0) (M.2.2.1 0).length)) 1 (zflt (Int32.ofNat k + Int32.ofNat r) (M.2.2.1 1) (M.2.2.1 1).length)) 2 [], zcol k r)
def r139 (k r : Nat) (M : zRt) : zRt := w139o (w139p (q139 k r M) 128) 20
def zP139r (S0 : zSt) (kq : Nat × Nat × List Value) (M : zRt) (x1 x2 : Int32) : zO → Prop := fun o => ∃ X' : zXt, (¬ zCd x1 x2 ∧ zUX kq X' M.2.2 ∧ zOq (.inl (some (.int (Int32.ofInt 0)))) (zy S0 (zmS (zmS M 0 (Int32.ofInt 0)) 0 (Int32.ofInt 1)) X') o) ∨ (zCd x1 x2 ∧ ∃ k r : Nat, x1 = Int32.ofNat k ∧ x2 = Int32.ofNat r ∧ (k, r) ∈ zcds ∧ zUX kq X' (r139 k r M).2.2 ∧ zOq (.inl (some (.int (Int32.ofNat k + Int32.ofNat r)))) (zy S0 (r139 k r M) X') o)
theorem f_139 {x1 x2 : Int32} (hX : zUX kq X M.2.2) : zpM xs N 139 [.ref 44, .int x1, .int x2] (zy S0 M X) nc ns (zP139r S0 kq M x1 x2) := by
  intro L0 e
  cases e
  refine zpE_run 6 (L' := [some (.ref 44), some (.int x1), some (.int x2), none, none, none, none]) (st' := [.int (Int32.ofInt 10), .int (Int32.ofInt 4), .int x1]) (h' := zy S0 (zmS M 0 (Int32.ofInt 0)) X) rfl ?_
  have e4 : (Int32.ofInt 4).toInt = 4 := by decide
  have e10 : (Int32.ofInt 10).toInt = 10 := by decide
  have e6 : (Int32.ofInt 6).toInt = 6 := by decide
  have no : ¬ zCd x1 x2 → ∀ nc ns, zpE xs N 139 33 [some (.ref 44), some (.int x1), some (.int x2), none, none, none, none] [] (zy S0 (zmS M 0 (Int32.ofInt 0)) X) nc ns (zP139r S0 kq M x1 x2) := by
    intro nr nc ns
    refine zpE_run 2 (L' := [some (.ref 44), some (.int x1), some (.int x2), none, none, none, none]) (st' := [.int (Int32.ofInt 1), .ref 44]) rfl ?_
    refine zpE_call rfl rfl (f_111 (M := zmS M 0 (Int32.ofInt 0)) (x1 := Int32.ofInt 1) hX) (fun v h1 nc1 ns1 q8 => ?_) (fun E h1 nc1 ns1 q8 => by cases q8.1)
    obtain ⟨q8, q9⟩ := q8
    cases q8
    cases q9
    exact zpE_end rfl rfl ⟨X, Or.inl ⟨nr, hX, rfl, rfl⟩⟩
  refine zpE_call rfl rfl (zpM_of (m_112x (D := 0))) (fun v h9 nc1 ns1 q => ?_) (fun E h9 nc1 ns1 q => by obtain ⟨_, q, _⟩ := q; cases q)
  obtain ⟨w, q, hw⟩ := q
  cases q
  rw [e4, e10] at hw
  refine zpE_if rfl (fun q1 => ?_) (fun q1 => ?_)
  · rcases hw with ⟨rfl, -⟩ | ⟨rfl, z⟩
    · exact absurd (zF_e1 q1) (by decide)
    · exact no (fun k => z k.1) _ _
  replace hw := hw.resolve_right (fun z => by
    obtain ⟨rfl, -⟩ := z
    exact zF_e0 q1 rfl)
  obtain ⟨-, A1⟩ := hw
  clear q1
  refine zpE_run 3 (L' := [some (.ref 44), some (.int x1), some (.int x2), none, none, none, none]) (st' := [.int (Int32.ofInt 6), .int (Int32.ofInt 4), .int x2]) rfl ?_
  refine zpE_call rfl rfl (zpM_of (m_112x (D := 0))) (fun v h9 nc1 ns1 q => ?_) (fun E h9 nc1 ns1 q => by obtain ⟨_, q, _⟩ := q; cases q)
  obtain ⟨w, q, hw⟩ := q
  cases q
  rw [e4, e6] at hw
  refine zpE_if rfl (fun q1 => ?_) (fun q1 => ?_)
  · rcases hw with ⟨rfl, -⟩ | ⟨rfl, z⟩
    · exact absurd (zF_e1 q1) (by decide)
    · exact no (fun k => z k.2.1) _ _
  replace hw := hw.resolve_right (fun z => by
    obtain ⟨rfl, -⟩ := z
    exact zF_e0 q1 rfl)
  obtain ⟨-, A2⟩ := hw
  clear q1
  refine zpE_run 1 (L' := [some (.ref 44), some (.int x1), some (.int x2), none, none, none, none]) (st' := [.int x2]) rfl ?_
  refine zpE_call rfl rfl (zpM_of (x_115 (D := 0) (r := x2) A2.1 A2.2)) (fun v h9 nc1 ns1 q => ?_) (fun E h9 nc1 ns1 q => by cases q)
  cases q
  refine zpE_run 1 (L' := [some (.ref 44), some (.int x1), some (.int x2), none, none, none, none]) (st' := [.int x1, .int (zdm x2)]) rfl ?_
  refine zpE_icmp rfl ?_ (fun q1 => no (fun k => absurd k.2.2 (Int.not_le.mpr (zF_ge_f q1))) _ _)
  intro q1
  have hC : zCd x1 x2 := ⟨A1, A2, zF_ge_t q1⟩
  clear q1 no A1 A2
  obtain ⟨k, r, hm, rfl, rfl, hk, hr⟩ := zCd_ok hC
  obtain ⟨M1, eM1⟩ : ∃ M1, M1 = zmS (zmS (zmS M 0 (Int32.ofInt 0)) 1 (Int32.ofNat k)) 2 (Int32.ofNat r) := ⟨_, rfl⟩
  have hc16 : (zcol k r).length ≤ 16 := by
    obtain ⟨b1, b2, b3, b4, b5⟩ := zcds_kr _ hm
    have b5 : (zcol k r).length = k + r := b5
    have b2 : k ≤ 10 := b2
    have b4 : r ≤ 6 := b4
    omega
  have h1 : zUX kq X M1.2.2 := by
    rw [eM1]
    exact hX
  refine zpE_gen (fun nc ns => ?_)
  refine zpE_run 9 (L' := [some (.ref 44), some (.int (Int32.ofNat k)), some (.int (Int32.ofNat r)), none, none, none, none]) (st' := [.int (Int32.ofNat r), .int (Int32.ofNat k), .ref 44]) (h' := zy S0 (zmS (zmS (zmS M 0 (Int32.ofInt 0)) 1 (Int32.ofNat k)) 2 (Int32.ofNat r)) X) rfl ?_
  rw [← eM1]
  refine zpE_call rfl rfl (r_116 (k := k) (r := r) hk hr (zcds_dl _ hm)) (fun v h9 nc9 ns9 q => ?_) (fun E h9 nc9 ns9 q => by cases q)
  cases q
  -- the columns' place
  have h2 := zUN_col (S0 := S0) (M := M1) (c := zcol k r) (by decide) hc16 h1
  obtain ⟨X2, eX2⟩ : ∃ X2 : zXt, X2 = (zup X.1 9 (zy S0 M1 X).length, X.2.1, X.2.2 ++ [zar (zcol k r)]) := ⟨_, rfl⟩
  rw [← eX2] at h2
  obtain ⟨M2, eM2⟩ : ∃ M2 : zRt, M2 = (M1.1, M1.2.1, M1.2.2.1, zcol k r) := ⟨_, rfl⟩
  have h2 : zUN 3 kq X2 M2.2.2 := by
    rw [eM2]
    exact h2
  refine zpE_gen (fun nc ns => ?_)
  refine zpE_run 1 (L' := [some (.ref 44), some (.int (Int32.ofNat k)), some (.int (Int32.ofNat r)), none, none, none, none]) (st' := []) (h' := zy S0 M1 (zup X.1 9 (zy S0 M1 X).length, X.2.1, X.2.2 ++ [zar (zcol k r)])) rfl ?_
  rw [← eX2, zy_cM (M := M1) (M' := M2) (X := X2) (by rw [eM2]) (by rw [eM2])]
  -- two new lists
  refine zpE_run 2 (L' := [some (.ref 44), some (.int (Int32.ofNat k)), some (.int (Int32.ofNat r)), none, none, none, none]) (st' := [.ref (zy S0 M2 X2).length, .ref (zy S0 M2 X2).length]) (h' := zy S0 M2 X2 ++ [(10, [.int 0, .null, .int 0])]) rfl ?_
  refine zpE_call rfl rfl (zpM_of (m_242 (D := 0) (h := zy S0 M2 X2))) (fun v h9 nc9 ns9 q => ?_) (fun E h9 nc9 ns9 q => by cases q)
  cases q
  have h3 := zUN_more (S0 := S0) (M := M2) (by decide) h2
  obtain ⟨X3, eX3⟩ : ∃ X3 : zXt, X3 = (zup X2.1 3 (zy S0 M2 X2).length, zup X2.2.1 3 [], X2.2.2 ++ [zli0]) := ⟨_, rfl⟩
  rw [← eX3] at h3
  have a3 : X3.1 3 = (zy S0 M2 X2).length := by
    rw [eX3]
    rfl
  rw [← a3]
  refine zpE_gen (fun nc ns => ?_)
  rw [zy_ap, zy_cX (M := M2) (X := (X2.1, X2.2.1, X2.2.2 ++ [(10, [Value.int 0, Value.retAddr 1, Value.int 0])])) (X' := X3) (by rw [eX3]; rfl) (by rw [eX3]; rfl) (by rw [eX3]; rfl) (by rw [eX3]; rfl) (by rw [eX3])]
  refine zpE_run 3 (L' := [some (.ref 44), some (.int (Int32.ofNat k)), some (.int (Int32.ofNat r)), some (.ref (X3.1 3)), none, none, none]) (st' := [.ref (zy S0 M2 X3).length, .ref (zy S0 M2 X3).length]) (h' := zy S0 M2 X3 ++ [(10, [.int 0, .null, .int 0])]) rfl ?_
  refine zpE_call rfl rfl (zpM_of (m_242 (D := 0) (h := zy S0 M2 X3))) (fun v h9 nc9 ns9 q => ?_) (fun E h9 nc9 ns9 q => by cases q)
  cases q
  have h4 := zUN_more (S0 := S0) (M := M2) (by decide) h3
  obtain ⟨X4, eX4⟩ : ∃ X4 : zXt, X4 = (zup X3.1 4 (zy S0 M2 X3).length, zup X3.2.1 4 [], X3.2.2 ++ [zli0]) := ⟨_, rfl⟩
  rw [← eX4] at h4
  have a4 : X4.1 4 = (zy S0 M2 X3).length := by
    rw [eX4]
    rfl
  have a43 : X4.1 3 = X3.1 3 := by
    rw [eX4]
    rfl
  rw [← a4, ← a43]
  refine zpE_gen (fun nc ns => ?_)
  rw [zy_ap, zy_cX (M := M2) (X := (X3.1, X3.2.1, X3.2.2 ++ [(10, [Value.int 0, Value.retAddr 1, Value.int 0])])) (X' := X4) (by rw [eX4]; rfl) (by rw [eX4]; rfl) (by rw [eX4]; rfl) (by rw [eX4]; rfl) (by rw [eX4])]
  obtain ⟨M3, eM3⟩ : ∃ M3 : zRt, M3 = zmLs (zmLs M2 3 []) 4 [] := ⟨_, rfl⟩
  have h5 : zUN 5 kq X4 M3.2.2 := by
    rw [eM3]
    exact h4
  have b0 : M3.2.2.1 0 = M.2.2.1 0 := by
    rw [eM3, eM2, eM1]
    rfl
  have b1 : M3.2.2.1 1 = M.2.2.1 1 := by
    rw [eM3, eM2, eM1]
    rfl
  have b3 : M3.2.2.1 3 = [] := by
    rw [eM3]
    rfl
  have b4 : M3.2.2.1 4 = [] := by
    rw [eM3]
    rfl
  have l0 : (M3.2.2.1 0).length ≤ 24 := (h5.2.1 0 (by decide)).2.1
  have l1 : (M3.2.2.1 1).length ≤ 24 := (h5.2.1 1 (by decide)).2.1
  rw [zy_cM (M := M2) (M' := M3) (X := X4) (by rw [eM3]) (by rw [eM3])]
  refine zpE_run 3 (L' := [some (.ref 44), some (.int (Int32.ofNat k)), some (.int (Int32.ofNat r)), some (.ref (X4.1 3)), some (.ref (X4.1 4)), some (.int (Int32.ofNat 0)), none]) (st' := []) rfl ?_
  refine c_139a (kq := kq) (M := M3) (r3 := X4.1 3) (r4 := X4.1 4) l0 (fun X5 i5 o6 nc ns c3 c4 h6 => ?_) N 0 X4 _ _ _ (Nat.le_refl _) (Nat.zero_le _) rfl rfl ?_
  rotate_left
  · have ez : (zmLs M3 3 (zflt (Int32.ofNat k + Int32.ofNat r) (M3.2.2.1 0) 0)).2.2 = M3.2.2 := by
      refine Prod.ext (funext (fun j => ?_)) rfl
      show zup M3.2.2.1 3 _ j = _
      by_cases j3 : j = 3
      · rw [j3, zup_s, b3]
        rfl
      · exact zup_n j3
    rw [ez]
    exact h5
  obtain ⟨M4, eM4⟩ : ∃ M4 : zRt, M4 = zmLs M3 3 (zflt (Int32.ofNat k + Int32.ofNat r) (M3.2.2.1 0) (M3.2.2.1 0).length) := ⟨_, rfl⟩
  rw [← eM4] at h6
  have d1 : M4.2.2.1 1 = M.2.2.1 1 := by
    rw [eM4, ← b1]
    rfl
  have d4 : M4.2.2.1 4 = [] := by
    rw [eM4, ← b4]
    rfl
  rw [zy_cM (M := M3) (M' := M4) (X := X5) (by rw [eM4]) (by rw [eM4])]
  refine zpE_run 2 (L' := [some (.ref 44), some (.int (Int32.ofNat k)), some (.int (Int32.ofNat r)), some (.ref (X4.1 3)), some (.ref (X4.1 4)), some (.int (Int32.ofNat 0)), o6]) (st' := []) rfl ?_
  refine c_139b (kq := kq) (M := M4) (r3 := X4.1 3) (r4 := X4.1 4) (by rw [d1, ← b1]; exact l1) (fun X6 i5 o6 nc ns c5 c6 h7 => ?_) N 0 X5 _ _ _ (Nat.le_refl _) (Nat.zero_le _) c3 c4 ?_
  rotate_left
  · have ez : (zmLs M4 4 (zflt (Int32.ofNat k + Int32.ofNat r) (M4.2.2.1 1) 0)).2.2 = M4.2.2 := by
      refine Prod.ext (funext (fun j => ?_)) rfl
      show zup M4.2.2.1 4 _ j = _
      by_cases j3 : j = 4
      · rw [j3, zup_s, d4]
        rfl
      · exact zup_n j3
    rw [ez]
    exact h6
  obtain ⟨M5, eM5⟩ : ∃ M5 : zRt, M5 = zmLs M4 4 (zflt (Int32.ofNat k + Int32.ofNat r) (M4.2.2.1 1) (M4.2.2.1 1).length) := ⟨_, rfl⟩
  rw [← eM5] at h7
  rw [zy_cM (M := M4) (M' := M5) (X := X6) (by rw [eM5]) (by rw [eM5]), ← c5, ← c6]
  refine zpE_gen (fun nc ns => ?_)
  refine zpE_run 6 (L' := [some (.ref 44), some (.int (Int32.ofNat k)), some (.int (Int32.ofNat r)), some (.ref (X6.1 3)), some (.ref (X6.1 4)), some (.int i5), o6]) (st' := []) (h' := zy S0 M5 (zX53 X6)) rfl ?_
  have h8 := zUN_53 h7
  obtain ⟨X7, eX7⟩ : ∃ X7, X7 = zX53 X6 := ⟨_, rfl⟩
  rw [← eX7] at h8 ⊢
  obtain ⟨M6, eM6⟩ : ∃ M6 : zRt, M6 = (M5.1, M5.2.1, zup (zup M5.2.2.1 0 (M5.2.2.1 3)) 1 (M5.2.2.1 4), M5.2.2.2) := ⟨_, rfl⟩
  have h9 : zUX kq X7 M6.2.2 := by
    rw [eM6]
    exact h8
  rw [zy_cM (M := M5) (M' := M6) (X := X7) (by rw [eM6]) (by rw [eM6])]
  refine zpE_run 3 (L' := [some (.ref 44), some (.int (Int32.ofNat k)), some (.int (Int32.ofNat r)), some (.ref (X6.1 3)), some (.ref (X6.1 4)), some (.int i5), o6]) (st' := [.ref (zy S0 M6 X7).length, .ref (zy S0 M6 X7).length, .ref 44]) (h' := zy S0 M6 X7 ++ [(10, [.int 0, .null, .int 0])]) rfl ?_
  refine zpE_call rfl rfl (zpM_of (m_242 (D := 0) (h := zy S0 M6 X7))) (fun v h9 nc9 ns9 q => ?_) (fun E h9 nc9 ns9 q => by cases q)
  cases q
  have g1 := zUN_new (S0 := S0) (M := M6) (i := 2) (by decide) (by decide) h9
  obtain ⟨X8, eX8⟩ : ∃ X8 : zXt, X8 = (zup X7.1 2 (zy S0 M6 X7).length, zup X7.2.1 2 [], X7.2.2 ++ [zli0]) := ⟨_, rfl⟩
  rw [← eX8] at g1
  have p1 : M6.1 = M1.1 := by
    rw [eM6]
    show M5.1 = _
    rw [eM5]
    show M4.1 = _
    rw [eM4]
    show M3.1 = _
    rw [eM3]
    show M2.1 = _
    rw [eM2]
  have p2 : M6.2.1 = M1.2.1 := by
    rw [eM6]
    show M5.2.1 = _
    rw [eM5]
    show M4.2.1 = _
    rw [eM4]
    show M3.2.1 = _
    rw [eM3]
    show M2.2.1 = _
    rw [eM2]
  have eq : zy S0 (q139 k r M) X8 = zy S0 M6 X8 := zy_cM (by
    rw [p1, eM1]
    rfl) (by
    rw [p2, eM1]
    rfl)
  have g2 : zUX kq X8 (q139 k r M).2.2 := by
    have ez : (q139 k r M).2.2.2 = (zup M6.2.2.1 2 [], M6.2.2.2).2 := by
      show zcol k r = M6.2.2.2
      rw [eM6]
      show zcol k r = M5.2.2.2
      rw [eM5]
      show zcol k r = M4.2.2.2
      rw [eM4]
      show zcol k r = M3.2.2.2
      rw [eM3]
      show zcol k r = M2.2.2.2
      rw [eM2]
    have ey : ∀ j, j < 3 → (q139 k r M).2.2.1 j = (zup M6.2.2.1 2 [], M6.2.2.2).1 j := by
      intro j hj
      have f3 : M5.2.2.1 3 = zflt (Int32.ofNat k + Int32.ofNat r) (M.2.2.1 0) (M.2.2.1 0).length := by
        rw [eM5, ← b0]
        show zup M4.2.2.1 4 (zflt (Int32.ofNat k + Int32.ofNat r) (M4.2.2.1 1) (M4.2.2.1 1).length) 3 = _
        rw [zup_n (by decide), eM4]
        show zup M3.2.2.1 3 (zflt (Int32.ofNat k + Int32.ofNat r) (M3.2.2.1 0) (M3.2.2.1 0).length) 3 = _
        rw [zup_s]
      have f4 : M5.2.2.1 4 = zflt (Int32.ofNat k + Int32.ofNat r) (M.2.2.1 1) (M.2.2.1 1).length := by
        rw [eM5, ← d1]
        show zup M4.2.2.1 4 (zflt (Int32.ofNat k + Int32.ofNat r) (M4.2.2.1 1) (M4.2.2.1 1).length) 4 = _
        rw [zup_s]
      have e6 : M6.2.2.1 = zup (zup M5.2.2.1 0 (M5.2.2.1 3)) 1 (M5.2.2.1 4) := by rw [eM6]
      show zup (zup (zup M.2.2.1 0 (zflt (Int32.ofNat k + Int32.ofNat r) (M.2.2.1 0) (M.2.2.1 0).length)) 1 (zflt (Int32.ofNat k + Int32.ofNat r) (M.2.2.1 1) (M.2.2.1 1).length)) 2 [] j = zup M6.2.2.1 2 [] j
      rw [e6]
      rcases (show j = 0 ∨ j = 1 ∨ j = 2 by omega) with rfl | rfl | rfl
      · rw [zup_n (by decide), zup_n (by decide), zup_s, zup_n (by decide), zup_n (by decide), zup_s, f3]
      · rw [zup_n (by decide), zup_s, zup_n (by decide), zup_s, f4]
      · rw [zup_s, zup_s]
    obtain ⟨k1, k2, k3, k4⟩ := g1
    refine ⟨k1, fun i hi => ?_, by rw [ez]; exact k3, k4⟩
    rw [ey i hi]
    exact k2 i hi
  refine zpE_gen (fun nc ns => ?_)
  refine zpE_run 3 (L' := [some (.ref 44), some (.int (Int32.ofNat k)), some (.int (Int32.ofNat r)), some (.ref (X6.1 3)), some (.ref (X6.1 4)), some (.int (Int32.ofNat 0)), o6]) (st' := []) (h' := zy S0 M6 (zup X7.1 2 (zy S0 M6 X7).length, zup X7.2.1 2 [], X7.2.2 ++ [zli0])) rfl ?_
  rw [← eX8, ← eq]
  refine l_139p (M := q139 k r M) (fun i5 nc ns => ?_) N 0 _ _ (Nat.le_refl _) (Nat.zero_le _)
  have g3 : zUX kq X8 (w139p (q139 k r M) 128).2.2 := by
    rw [gm_l (gr_w139p 128)]
    exact g2
  obtain ⟨M7, eM7⟩ : ∃ M7, M7 = w139p (q139 k r M) 128 := ⟨_, rfl⟩
  rw [← eM7] at g3 ⊢
  refine zpE_run 2 (L' := [some (.ref 44), some (.int (Int32.ofNat k)), some (.int (Int32.ofNat r)), some (.ref (X6.1 3)), some (.ref (X6.1 4)), some (.int (Int32.ofNat 0)), o6]) (st' := []) rfl ?_
  refine l_139o (M := M7) g3 (fun i5 o6 nc ns => ?_) N 0 _ _ _ (Nat.le_refl _) (Nat.zero_le _)
  have g4 : zUX kq X8 (w139o M7 20).2.2 := by
    rw [gm_l (gr_w139o 20)]
    exact g3
  have f1 : (w139o M7 20).1 1 = Int32.ofNat k := by
    rw [(gr_w139o 20).1 1 (by decide), eM7, (gr_w139p 128).1 1 (by decide)]
    rfl
  have f2 : (w139o M7 20).1 2 = Int32.ofNat r := by
    rw [(gr_w139o 20).1 2 (by decide), eM7, (gr_w139p 128).1 2 (by decide)]
    rfl
  obtain ⟨M8, eM8⟩ : ∃ M8, M8 = w139o M7 20 := ⟨_, rfl⟩
  rw [← eM8] at g4 f1 f2 ⊢
  refine zpE_run 1 (L' := [some (.ref 44), some (.int (Int32.ofNat k)), some (.int (Int32.ofNat r)), some (.ref (X6.1 3)), some (.ref (X6.1 4)), some (.int i5), o6]) (st' := [.ref 44]) rfl ?_
  refine zpE_call rfl rfl (r_117 (zy_mc (M := M8) g4)) (fun v h1 nc1 ns1 q8 => ?_) (fun E h1 nc1 ns1 q8 => by cases q8)
  cases q8
  rw [f1, f2]
  have er : r139 k r M = M8 := by
    rw [eM8, eM7]
    rfl
  exact zpE_end rfl rfl ⟨X8, Or.inr ⟨hC, k, r, rfl, rfl, hm, by rw [er]; exact g4, rfl, by rw [er]⟩⟩
end ZRY
/-! code, of the class. -/
section ZP53
variable {xs : List Int32} {N : Nat} {S : zSt} {T : zH} {nc ns : Nat}
def zMk (S S1 : zSt) (k r : Nat) : Prop := S1.1 = zsc S.1 k r ∧ (∃ t, S1.2 0 = zcol k r ++ t) ∧ (S1.2 0).length = 16 ∧ S1.2 1 = zts (zcol k r) (k + r) ∧ ∀ j, j ≠ 0 → j ≠ 1 → S1.2 j = S.2 j
def F53t (S1 : zSt) : zSt := F30 (zsF (F40 (S1.1 2) S1) 17 (Int32.ofInt 0))
def zP53e (S : zSt) (T : zH) (x1 x2 : Int32) : zO → Prop := fun o => (¬ zCd x1 x2 ∧ zOq (.inr 0) (zx S.1 S.2 T) o) ∨ (zCd x1 x2 ∧ ∃ (k r : Nat) (S1 : zSt), x1 = Int32.ofNat k ∧ x2 = Int32.ofNat r ∧ (k, r) ∈ zcds ∧ zMk S S1 k r ∧ zOq (.inl (some (.int (Int32.ofNat (k + r))))) (zx (F53t S1).1 (F53t S1).2 T) o)
theorem e_53 (HL : zaL S.2) (h0 : (S.2 0).length = 16) (h1 : (S.2 1).length = 64) {x1 x2 : Int32} : zpM xs N 53 [.ref 0, .int x1, .int x2] (zx S.1 S.2 T) nc ns (zP53e S T x1 x2) := by
  have e4 : (Int32.ofInt 4).toInt = 4 := by decide
  have e10 : ((Int8.ofInt 10).toInt32).toInt = 10 := by decide
  have e6 : ((Int8.ofInt 6).toInt32).toInt = 6 := by decide
  intro L0 e
  cases e
  have c11 : ¬ zCd x1 x2 → zpE xs N 53 11 [some (.ref 0), some (.int x1), some (.int x2)] [] (zx S.1 S.2 T) nc ns (zP53e S T x1 x2) := fun nr => zpE_end rfl rfl (Or.inl ⟨nr, rfl, rfl⟩)
  have c32 : ¬ zCd x1 x2 → zpE xs N 53 32 [some (.ref 0), some (.int x1), some (.int x2)] [] (zx S.1 S.2 T) nc ns (zP53e S T x1 x2) := fun nr => zpE_end rfl rfl (Or.inl ⟨nr, rfl, rfl⟩)
  refine zpE_run 2 rfl ?_
  refine zpE_icmp rfl (fun q1 => ?_) (fun q1 => ?_)
  · have z := zF_lt_t q1
    exact c11 (fun k => by
      have := k.1.1
      omega)
  · have z1 := zF_lt_f q1
    refine zpE_run 2 rfl ?_
    refine zpE_icmp rfl (fun q2 => ?_) (fun q2 => ?_)
    · have z2 := zF_le_t q2
      refine zpE_run 2 rfl ?_
      refine zpE_icmp rfl (fun q3 => ?_) (fun q3 => ?_)
      · have z := zF_lt_t q3
        exact c32 (fun k => by
          have := k.2.1.1
          omega)
      · have z3 := zF_lt_f q3
        refine zpE_run 2 rfl ?_
        refine zpE_icmp rfl (fun q4 => ?_) (fun q4 => ?_)
        · have z4 := zF_le_t q4
          refine zpE_run 1 rfl ?_
          refine zpE_call rfl rfl (zpM_of (x_2 (D := 0) (r := x2) (by omega) (by omega))) (fun v h9 nc1 ns1 q8 => ?_) (fun E h9 nc1 ns1 q8 => by cases q8)
          cases q8
          refine zpE_run 1 rfl ?_
          refine zpE_icmp rfl (fun q5 => ?_) (fun q5 => ?_)
          · have z5 := zF_ge_t q5
            have hC : zCd x1 x2 := ⟨⟨by omega, by omega⟩, ⟨by omega, by omega⟩, z5⟩
            obtain ⟨k, r, hm, rfl, rfl, hk, hr⟩ := zCd_ok hC
            clear c11 c32
            refine zpE_run 4 rfl ?_
            refine zpE_call rfl rfl (p_3 hk hr (zcds_dl _ hm) h0 h1) (fun v h9 nc1 ns1 q8 => ?_) (fun E h9 nc1 ns1 q8 => by obtain ⟨_, q8, _⟩ := q8; cases q8)
            obtain ⟨a1, q8, g1, g2, g3, g4⟩ := q8
            cases q8
            obtain ⟨S1, hS1⟩ : ∃ S1 : zSt, S1 = (zsc S.1 k r, a1) := ⟨_, rfl⟩
            have hL1 : zaL S1.2 := by
              rw [hS1]
              intro j
              show (a1 j).length < _
              by_cases j0 : j = 0
              · rw [j0, g2]
                decide
              · by_cases j1 : j = 1
                · rw [j1, g3, zts_len]
                  decide
                · rw [g4 j j0 j1]
                  exact HL j
            have mk : zMk S S1 k r := by
              rw [hS1]
              exact ⟨rfl, g1, g2, g3, g4⟩
            have e2 : S1.1 2 = Int32.ofNat (k + r) := by
              rw [hS1]
              rfl
            rw [show zx (zsc S.1 k r) a1 T = zx S1.1 S1.2 T by rw [hS1]]
            refine zpE_gen (fun nc ns => ?_)
            refine zpE_run 5 (L' := [some (.ref 0), some (.int (Int32.ofNat k)), some (.int (Int32.ofNat r))]) (st' := [.int (S1.1 2), .ref 6]) rfl ?_
            refine zpE_call rfl rfl (e_40 (S := S1) (x1 := S1.1 2) hL1) (fun v h9 nc1 ns1 q8 => ?_) (fun E h9 nc1 ns1 q8 => by cases q8.1)
            obtain ⟨q8, q9⟩ := q8
            cases q8
            cases q9
            have hL2 : zaL (F40 (S1.1 2) S1).2 := ln_F40 hL1
            have w2 : (F40 (S1.1 2) S1).1 2 = S1.1 2 := fr_F40.1 2 (by decide)
            obtain ⟨S2, hS2⟩ : ∃ S2, S2 = F40 (S1.1 2) S1 := ⟨_, rfl⟩
            rw [← hS2] at hL2 w2 ⊢
            refine zpE_run 3 (L' := [some (.ref 0), some (.int (Int32.ofNat k)), some (.int (Int32.ofNat r))]) (st' := [.int (Int32.ofInt 0), .ref 40]) rfl ?_
            refine zpE_call rfl rfl (p_27 17 41 40 (fun _ => rfl) (fun _ => rfl) (fun _ _ => rfl) (hL2 17)) (fun v h9 nc1 ns1 q8 => ?_) (fun E h9 nc1 ns1 q8 => by cases q8)
            cases q8
            refine zpE_run 2 (L' := [some (.ref 0), some (.int (Int32.ofNat k)), some (.int (Int32.ofNat r))]) (st' := [.ref 29]) rfl ?_
            refine zpE_call rfl rfl (e_30 (S := zsF S2 17 (Int32.ofInt 0)) (ln_F hL2)) (fun v h9 nc1 ns1 q8 => ?_) (fun E h9 nc1 ns1 q8 => by cases q8.1)
            obtain ⟨q8, q9⟩ := q8
            cases q8
            cases q9
            have e9 : F30 (zsF S2 17 (Int32.ofInt 0)) = F53t S1 := by
              unfold F53t
              rw [hS2]
            have w3 : (F53t S1).1 2 = Int32.ofNat (k + r) := by
              rw [← e9, fr_F30.1 2 (by decide)]
              show S2.1 2 = _
              rw [w2, e2]
            rw [e9]
            refine zpE_run 3 (L' := [some (.ref 0), some (.int (Int32.ofNat k)), some (.int (Int32.ofNat r))]) (st' := [.int ((F53t S1).1 2)]) rfl ?_
            exact zpE_end rfl rfl (Or.inr ⟨hC, k, r, S1, rfl, rfl, hm, mk, (by
              show Sum.inl (some (Value.int ((F53t S1).1 2))) = _
              rw [w3]), rfl⟩)
          · have z5 := zF_ge_f q5
            exact zpE_end rfl rfl (Or.inl ⟨fun k => absurd k.2.2 (Int.not_le.mpr z5), rfl, rfl⟩)
        · have z := zF_le_f q4
          exact c32 (fun k => by
            have := k.2.1.2
            omega)
    · have z := zF_le_f q2
      exact c11 (fun k => by
        have := k.1.2
        omega)
end ZP53
