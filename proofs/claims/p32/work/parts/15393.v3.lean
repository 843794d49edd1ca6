section ZRW
variable {S0 : zSt} {M : zRt} {X : zXt} {kq : Nat × Nat × List Value} {xs : List Int32} {N n : Nat} {nc ns : Nat} {L : (Nat → List (List Int32)) × List Int32}
/-- one list more -/
theorem zUN_more (hn : n < 9) (hX : zUN n kq X L) : zUN (n + 1) kq (zup X.1 n (zy S0 M X).length, zup X.2.1 n [], X.2.2 ++ [zli0]) (zup L.1 n [], L.2) := by
  have hlen : (zfX X).length = (zy S0 M X).length := zfX_ln
  have l73 : 73 ≤ (zy S0 M X).length := zy_73
  have ap : ∀ {k : Nat} {c : Nat × List Value}, (zfX X)[k]? = some c → (zfX (zup X.1 n (zy S0 M X).length, zup X.2.1 n [], X.2.2 ++ [zli0]))[k]? = some c := fun z => zfX_ap z
  have nw : (zfX (zup X.1 n (zy S0 M X).length, zup X.2.1 n [], X.2.2 ++ [zli0]))[(zy S0 M X).length]? = some zli0 := by
    rw [← hlen]
    show (List.replicate 73 _ ++ (X.2.2 ++ [zli0]))[(List.replicate 73 ((0 : Nat), ([] : List Value)) ++ X.2.2).length]? = _
    rw [← List.append_assoc, List.getElem?_append_right (Nat.le_refl _), Nat.sub_self]
    rfl
  obtain ⟨⟨dq, k1⟩, k2, ⟨k3, k4, k5⟩, k6, k7, k8⟩ := hX
  have low : ∀ {j : Nat}, j < n → X.1 j < (zy S0 M X).length := by
    intro j hj
    obtain ⟨a, b, c⟩ := zLs_size (k1 j hj).2.1
    rw [← hlen]
    exact (List.getElem?_eq_some_iff.mp c).1
  refine ⟨⟨zup dq n none, fun j hj => ?_⟩, fun j hj => ?_, ⟨?_, ?_, k5⟩, k6, ap k7, k8⟩
  · show 73 ≤ zup X.1 n _ j ∧ zLs _ (zup X.1 n _ j) (zup dq n none j) (zup X.2.1 n [] j) ∧ (∀ q, zup dq n none j = some q → 73 ≤ q) ∧ ∀ m, m < n + 1 → m ≠ j → zup X.1 n _ m ≠ zup X.1 n _ j ∧ ∀ q, zup dq n none j = some q → zup dq n none m ≠ some q
    by_cases ji : j = n
    · subst ji
      rw [zup_s, zup_s, zup_s]
      refine ⟨l73, ⟨0, rfl, nw⟩, fun q z => (by cases z), fun m hm ne => ⟨?_, fun q z => (by cases z)⟩⟩
      rw [zup_n ne]
      have := low (j := m) (by omega)
      omega
    · obtain ⟨c1, c2, c3, c4⟩ := k1 j (by omega)
      rw [zup_n ji, zup_n ji, zup_n ji]
      refine ⟨c1, ?_, c3, fun m hm ne => ?_⟩
      · obtain ⟨mj, gj⟩ := c2
        refine ⟨mj, ?_⟩
        revert gj
        cases dq j with
        | none => exact fun gj => ⟨gj.1, ap gj.2⟩
        | some q =>
          intro gj
          obtain ⟨vs, g1, g2, g3⟩ := gj
          exact ⟨vs, ap g1, ap g2, g3⟩
      · by_cases mi : m = n
        · rw [mi, zup_s, zup_s]
          have := low (j := j) (by omega)
          exact ⟨by omega, fun q hq z => by cases z⟩
        · rw [zup_n mi, zup_n mi]
          exact c4 m (by omega) ne
  · show (zup X.2.1 n [] j).length = (zup L.1 n [] j).length ∧ (zup L.1 n [] j).length ≤ zlm j ∧ ∀ (k : Nat) (l : List Int32), (zup L.1 n [] j)[k]? = some l → ∃ e, (zup X.2.1 n [] j)[k]? = some e ∧ _
    by_cases ji : j = n
    · subst ji
      rw [zup_s, zup_s]
      exact ⟨rfl, Nat.zero_le _, fun k l z => (by cases z)⟩
    · obtain ⟨c1, c2, c3⟩ := k2 j (by omega)
      rw [zup_n ji, zup_n ji]
      refine ⟨c1, c2, fun k l z => ?_⟩
      obtain ⟨e, e1, e2, e3⟩ := c3 k l z
      exact ⟨e, e1, e2, ap e3⟩
  · show 73 ≤ zup X.1 n _ 9
    rw [zup_n (by omega)]
    exact k3
  · show (zfX _)[zup X.1 n _ 9]? = _
    rw [zup_n (by omega)]
    exact ap k4
/-- new columns -/
theorem zUN_col {c : List Int32} (hn : n ≤ 9) (hc : c.length ≤ 16) (hX : zUN n kq X L) : zUN n kq (zup X.1 9 (zy S0 M X).length, X.2.1, X.2.2 ++ [zar c]) (L.1, c) := by
  have nw : (zfX (zup X.1 9 (zy S0 M X).length, X.2.1, X.2.2 ++ [zar c]))[(zy S0 M X).length]? = some (zar c) := zfX_new
  have ap : ∀ {k : Nat} {d : Nat × List Value}, (zfX X)[k]? = some d → (zfX (zup X.1 9 (zy S0 M X).length, X.2.1, X.2.2 ++ [zar c]))[k]? = some d := fun z => zfX_ap z
  obtain ⟨⟨dq, k1⟩, k2, ⟨k3, k4, k5⟩, k6, k7, k8⟩ := hX
  refine ⟨⟨dq, fun j hj => ?_⟩, fun j hj => ?_, ⟨?_, ?_, hc⟩, k6, ap k7, k8⟩
  · obtain ⟨c1, c2, c3, c4⟩ := k1 j hj
    show 73 ≤ zup X.1 9 _ j ∧ zLs _ (zup X.1 9 _ j) (dq j) (X.2.1 j) ∧ (∀ q, dq j = some q → 73 ≤ q) ∧ ∀ m, m < n → m ≠ j → zup X.1 9 _ m ≠ zup X.1 9 _ j ∧ ∀ q, dq j = some q → dq m ≠ some q
    rw [zup_n (show j ≠ 9 by omega)]
    refine ⟨c1, ?_, c3, fun m hm ne => ?_⟩
    · obtain ⟨mj, gj⟩ := c2
      refine ⟨mj, ?_⟩
      revert gj
      cases dq j with
      | none => exact fun gj => ⟨gj.1, ap gj.2⟩
      | some q =>
        intro gj
        obtain ⟨vs, g1, g2, g3⟩ := gj
        exact ⟨vs, ap g1, ap g2, g3⟩
    · rw [zup_n (show m ≠ 9 by omega)]
      exact c4 m hm ne
  · obtain ⟨c1, c2, c3⟩ := k2 j hj
    refine ⟨c1, c2, fun k l z => ?_⟩
    obtain ⟨e, e1, e2, e3⟩ := c3 k l z
    exact ⟨e, e1, e2, ap e3⟩
  · show 73 ≤ zup X.1 9 _ 9
    rw [zup_s]
    exact zy_73
  · show (zfX _)[zup X.1 9 _ 9]? = _
    rw [zup_s]
    exact nw
abbrev zX53 (X : zXt) : zXt := (zup (zup X.1 0 (X.1 3)) 1 (X.1 4), zup (zup X.2.1 0 (X.2.1 3)) 1 (X.2.1 4), X.2.2)
/-- two lists take the place of two others -/
theorem zUN_53 (hX : zUN 5 kq X L) : zUN 3 kq (zX53 X) (zup (zup L.1 0 (L.1 3)) 1 (L.1 4), L.2) := by
  obtain ⟨⟨dq, k1⟩, k2, ⟨k3, k4, k5⟩, k6, k7, k8⟩ := hX
  have σ : ∀ {α : Type} (f : Nat → α) (j : Nat), j < 3 → ∃ i, i < 5 ∧ (zlm i = zlm j) ∧ (zup (zup f 0 (f 3)) 1 (f 4)) j = f i ∧ i = (if j = 0 then 3 else if j = 1 then 4 else j) := by
    intro α f j hj
    rcases (show j = 0 ∨ j = 1 ∨ j = 2 by omega) with rfl | rfl | rfl
    · exact ⟨3, by decide, by decide, rfl, rfl⟩
    · exact ⟨4, by decide, by decide, rfl, rfl⟩
    · exact ⟨2, by decide, by decide, rfl, rfl⟩
  refine ⟨⟨zup (zup dq 0 (dq 3)) 1 (dq 4), fun j hj => ?_⟩, fun j hj => ?_, ⟨k3, k4, k5⟩, k6, k7, k8⟩
  · obtain ⟨i, i1, -, i2, i3⟩ := σ X.1 j hj
    obtain ⟨i', -, -, i4, i5⟩ := σ dq j hj
    obtain ⟨i9, -, -, i6, i7⟩ := σ X.2.1 j hj
    obtain rfl : i' = i := i5.trans i3.symm
    obtain rfl : i9 = i' := i7.trans i3.symm
    obtain ⟨c1, c2, c3, c4⟩ := k1 _ i1
    show 73 ≤ (zup (zup X.1 0 (X.1 3)) 1 (X.1 4)) j ∧ zLs (zfX X) ((zup (zup X.1 0 (X.1 3)) 1 (X.1 4)) j) ((zup (zup dq 0 (dq 3)) 1 (dq 4)) j) ((zup (zup X.2.1 0 (X.2.1 3)) 1 (X.2.1 4)) j) ∧ (∀ q, (zup (zup dq 0 (dq 3)) 1 (dq 4)) j = some q → 73 ≤ q) ∧ ∀ m, m < 3 → m ≠ j → (zup (zup X.1 0 (X.1 3)) 1 (X.1 4)) m ≠ (zup (zup X.1 0 (X.1 3)) 1 (X.1 4)) j ∧ ∀ q, (zup (zup dq 0 (dq 3)) 1 (dq 4)) j = some q → (zup (zup dq 0 (dq 3)) 1 (dq 4)) m ≠ some q
    rw [i2, i4, i6]
    refine ⟨c1, c2, c3, fun m hm ne => ?_⟩
    obtain ⟨p, p1, -, p2, p3⟩ := σ X.1 m hm
    obtain ⟨p', -, -, p4, p5⟩ := σ dq m hm
    obtain rfl : p' = p := p5.trans p3.symm
    rw [p2, p4]
    refine c4 _ p1 ?_
    rw [p5, i3]
    rcases (show j = 0 ∨ j = 1 ∨ j = 2 by omega) with rfl | rfl | rfl <;> rcases (show m = 0 ∨ m = 1 ∨ m = 2 by omega) with rfl | rfl | rfl <;> simp at ne ⊢
  · obtain ⟨i, i1, e1, i2, i3⟩ := σ L.1 j hj
    obtain ⟨i', -, -, i4, i5⟩ := σ X.2.1 j hj
    obtain rfl : i' = i := i5.trans i3.symm
    obtain ⟨c1, c2, c3⟩ := k2 _ i1
    show ((zup (zup X.2.1 0 (X.2.1 3)) 1 (X.2.1 4)) j).length = ((zup (zup L.1 0 (L.1 3)) 1 (L.1 4)) j).length ∧ ((zup (zup L.1 0 (L.1 3)) 1 (L.1 4)) j).length ≤ zlm j ∧ ∀ (k : Nat) (l : List Int32), ((zup (zup L.1 0 (L.1 3)) 1 (L.1 4)) j)[k]? = some l → ∃ e, ((zup (zup X.2.1 0 (X.2.1 3)) 1 (X.2.1 4)) j)[k]? = some e ∧ 73 ≤ e ∧ (zfX X)[e]? = some (zar l)
    rw [i2, i4, ← e1]
    exact ⟨c1, c2, c3⟩
/-- the elements of the first n whose bit is below w -/
def zflt (w : Int32) (src : List (List Int32)) : Nat → List (List Int32)
  | 0 => []
  | n + 1 => if (zgt (src.getD n []) (Int32.ofInt 2)).toInt < w.toInt then zflt w src n ++ [src.getD n []] else zflt w src n
theorem zflt_len {w : Int32} {src : List (List Int32)} : ∀ n, (zflt w src n).length ≤ n
  | 0 => Nat.le_refl _
  | n + 1 => by
    have := zflt_len (w := w) (src := src) n
    show (if _ then _ else _ : List (List Int32)).length ≤ _
    split
    · rw [List.length_append]
      show _ + 1 ≤ _
      omega
    · omega
end ZRW
section ZRX9
variable {S0 : zSt} {M : zRt} {X : zXt} {kq : Nat × Nat × List Value} {xs : List Int32} {N : Nat} {nc ns : Nat} {P : zO → Prop}
theorem zUX_el {n i : Nat} {j : Int32} {L : (Nat → List (List Int32)) × List Int32} (hX : zUN n kq X L) (hi : i < n) (h : j.toNatClampNeg < (L.1 i).length) : 73 ≤ zel X i j ∧ (zfX X)[zel X i j]? = some (zar ((L.1 i).getD j.toNatClampNeg [])) := by
  obtain ⟨-, k, -⟩ := hX
  obtain ⟨a, b, c⟩ := k i hi
  obtain ⟨e, e1, e2, e3⟩ := c j.toNatClampNeg _ (List.getElem?_eq_getElem h)
  have z : zel X i j = e := by
    unfold zel
    rw [List.getD_eq_getElem?_getD, e1]
    rfl
  rw [z, List.getD_eq_getElem?_getD, List.getElem?_eq_getElem h]
  exact ⟨e2, e3⟩
end ZRX9
section ZRY
variable {S0 : zSt} {M : zRt} {X : zXt} {kq : Nat × Nat × List Value} {xs : List Int32} {N : Nat} {nc ns : Nat} {P : zO → Prop}
theorem zy_cM {M' : zRt} (h1 : M.1 = M'.1) (h2 : M.2.1 = M'.2.1) : zy S0 M X = zy S0 M' X := by
  show zx S0.1 S0.2 (zM M X) = zx S0.1 S0.2 (zM M' X)
  unfold zM
  rw [h1, h2]
theorem zy_cX {X' : zXt} (h0 : X.1 0 = X'.1 0) (h1 : X.1 1 = X'.1 1) (h2 : X.1 2 = X'.1 2) (h9 : X.1 9 = X'.1 9) (hU : X.2.2 = X'.2.2) : zy S0 M X = zy S0 M X' := by
  show zx S0.1 S0.2 (zM M X) = zx S0.1 S0.2 (zM M X')
  unfold zM
  rw [h0, h1, h2, h9, hU]
theorem zy_ap {c : Nat × List Value} : zy S0 M X ++ [c] = zy S0 M (X.1, X.2.1, X.2.2 ++ [c]) := rfl
def w139p (M : zRt) : Nat → zRt
  | 0 => M
  | k + 1 => zmW (w139p M k) 24 (Int32.ofNat k) (Int32.ofInt 0)
def w139i (l : Int32) (M : zRt) : Nat → zRt
  | 0 => M
  | k + 1 => r126 l (Int32.ofNat k) (Int32.ofInt 0) (w139i l M k)
def w139o (M : zRt) : Nat → zRt
  | 0 => M
  | k + 1 => w139i (Int32.ofNat k) (zmW (w139o M k) 20 (Int32.ofNat k) (Int32.ofInt 0)) 8
theorem gr_w139p : ∀ k, zfrM [] [24] [] (w139p M k) M
  | 0 => gm_rf
  | k + 1 => gm_tr gm_W (gr_w139p k)
theorem gr_w139i {l : Int32} : ∀ k, zfrM [] [0, 1, 2, 3, 4, 5, 6, 7, 8, 9, 10, 11, 12, 13, 14, 15, 16, 17, 18, 19, 20] [] (w139i l M k) M
  | 0 => gm_rf
  | k + 1 => gm_tr (gm_mo gr_126 (by decide) (by decide) (by decide)) (gr_w139i k)
theorem gr_w139o : ∀ k, zfrM [] [0, 1, 2, 3, 4, 5, 6, 7, 8, 9, 10, 11, 12, 13, 14, 15, 16, 17, 18, 19, 20] [] (w139o M k) M
  | 0 => gm_rf
  | k + 1 => gm_tr (gr_w139i 8) (gm_tr (gm_mo gm_W (by decide) (by decide) (by decide)) (gr_w139o k))
def q139 (k r : Nat) (M : zRt) : zRt := (zup (zup (zup M.1 0 (Int32.ofInt 0)) 1 (Int32.ofNat k)) 2 (Int32.ofNat r), M.2.1, zup (zup (zup M.2.2.1 0 (zflt (Int32.ofNat k + Int32.ofNat r) (M.2.2.1 0) (M.2.2.1 0).length)) 1 (zflt (Int32.ofNat k + Int32.ofNat r) (M.2.2.1 1) (M.2.2.1 1).length)) 2 [], zcol k r)
def r139 (k r : Nat) (M : zRt) : zRt := w139o (w139p (q139 k r M) 128) 20
def zP139r (S0 : zSt) (kq : Nat × Nat × List Value) (M : zRt) (x1 x2 : Int32) : zO → Prop := fun o => ∃ X' : zXt, (¬ zCd x1 x2 ∧ zUX kq X' M.2.2 ∧ zOq (.inl (some (.int (Int32.ofInt 0)))) (zy S0 (zmS (zmS M 0 (Int32.ofInt 0)) 0 (Int32.ofInt 1)) X') o) ∨ (zCd x1 x2 ∧ ∃ k r : Nat, x1 = Int32.ofNat k ∧ x2 = Int32.ofNat r ∧ (k, r) ∈ zcds ∧ zUX kq X' (r139 k r M).2.2 ∧ zOq (.inl (some (.int (Int32.ofNat k + Int32.ofNat r)))) (zy S0 (r139 k r M) X') o)
end ZRY
/-! code, of the class. -/
section ZP53
variable {xs : List Int32} {N : Nat} {S : zSt} {T : zH} {nc ns : Nat}
def zMk (S S1 : zSt) (k r : Nat) : Prop := S1.1 = zsc S.1 k r ∧ (∃ t, S1.2 0 = zcol k r ++ t) ∧ (S1.2 0).length = 16 ∧ S1.2 1 = zts (zcol k r) (k + r) ∧ ∀ j, j ≠ 0 → j ≠ 1 → S1.2 j = S.2 j
def F53t (S1 : zSt) : zSt := F30 (zsF (F40 (S1.1 2) S1) 17 (Int32.ofInt 0))
def zP53e (S : zSt) (T : zH) (x1 x2 : Int32) : zO → Prop := fun o => (¬ zCd x1 x2 ∧ zOq (.inr 0) (zx S.1 S.2 T) o) ∨ (zCd x1 x2 ∧ ∃ (k r : Nat) (S1 : zSt), x1 = Int32.ofNat k ∧ x2 = Int32.ofNat r ∧ (k, r) ∈ zcds ∧ zMk S S1 k r ∧ zOq (.inl (some (.int (Int32.ofNat (k + r))))) (zx (F53t S1).1 (F53t S1).2 T) o)
end ZP53
