/-! The reference's methods, word for word. Written by wip/v3/genref.py. -/
/-- ints, rows, lists and columns of the reference -/
abbrev zRt : Type := (Nat → Int32) × (Nat → List Int32) × (Nat → List (List Int32)) × List Int32
/-- where the lists and the columns lie, the lists' elements, the cells from 73 on -/
abbrev zXt : Type := (Nat → Nat) × (Nat → List Nat) × zH
abbrev zmS (M : zRt) (k : Nat) (v : Int32) : zRt := (zup M.1 k v, M.2)
abbrev zmW (M : zRt) (k : Nat) (j v : Int32) : zRt := (M.1, zup M.2.1 k (zst (M.2.1 k) j v), M.2.2)
def zmR (M : zRt) (i j v : Int32) : zRt := if i.toNatClampNeg < 20 then (M.1, zup M.2.1 i.toNatClampNeg (zst (M.2.1 i.toNatClampNeg) j v), M.2.2) else M
def zM (M : zRt) (X : zXt) : zH :=
  (7, [.int (M.1 0), .int (M.1 1), .int (M.1 2), .ref (X.1 9), .int (M.1 4), .int (M.1 5), .int (M.1 6), .int (M.1 7), .int (M.1 8), .int (M.1 9), .int (M.1 10), .int (M.1 11), .int (M.1 12), .int (M.1 13), .int (M.1 14), .int (M.1 15), .ref 46, .ref 67, .ref 68, .ref 69, .ref 70, .ref 71, .ref 72, .ref (X.1 0), .ref (X.1 1), .ref (X.1 2)]) ::
  (100, []) :: (104, (List.range 20).map (fun j => .ref (47 + j))) ::
  zar (M.2.1 0) :: zar (M.2.1 1) :: zar (M.2.1 2) :: zar (M.2.1 3) :: zar (M.2.1 4) :: zar (M.2.1 5) :: zar (M.2.1 6) :: zar (M.2.1 7) :: zar (M.2.1 8) :: zar (M.2.1 9) ::
  zar (M.2.1 10) :: zar (M.2.1 11) :: zar (M.2.1 12) :: zar (M.2.1 13) :: zar (M.2.1 14) :: zar (M.2.1 15) :: zar (M.2.1 16) :: zar (M.2.1 17) :: zar (M.2.1 18) :: zar (M.2.1 19) ::
  zar (M.2.1 20) :: zar (M.2.1 21) :: zar (M.2.1 22) :: zar (M.2.1 23) :: (101, (M.2.1 24).map Value.int) :: (101, (M.2.1 25).map Value.int) :: X.2.2
abbrev zy (S : zSt) (M : zRt) (X : zXt) : zH := zx S.1 S.2 (zM M X)
def zfX (X : zXt) : zH := List.replicate 73 (0, []) ++ X.2.2
def zel (X : zXt) (i : Nat) (j : Int32) : Nat := (X.2.1 i).getD j.toNatClampNeg 0
def zge (l : List (List Int32)) (j k : Int32) : Int32 := zgt (l.getD j.toNatClampNeg []) k
/-- how long a list may be -/
def zlm (i : Nat) : Nat := if i = 2 then 40 else 24
theorem zlm_le (i : Nat) : zlm i ≤ 40 := by
  unfold zlm
  split <;> omega
def zUN (n : Nat) (kq : Nat × Nat × List Value) (X : zXt) (L : (Nat → List (List Int32)) × List Int32) : Prop :=
  (∃ dq : Nat → Option Nat, ∀ i, i < n → 73 ≤ X.1 i ∧ zLs (zfX X) (X.1 i) (dq i) (X.2.1 i) ∧ (∀ q, dq i = some q → 73 ≤ q) ∧ ∀ j, j < n → j ≠ i → X.1 j ≠ X.1 i ∧ ∀ q, dq i = some q → dq j ≠ some q) ∧
  (∀ i, i < n → (X.2.1 i).length = (L.1 i).length ∧ (L.1 i).length ≤ zlm i ∧ ∀ (k : Nat) (l : List Int32), (L.1 i)[k]? = some l → ∃ e, (X.2.1 i)[k]? = some e ∧ 73 ≤ e ∧ (zfX X)[e]? = some (zar l)) ∧
  (73 ≤ X.1 9 ∧ (zfX X)[X.1 9]? = some (zar L.2) ∧ L.2.length ≤ 16) ∧ 73 ≤ kq.1 ∧ (zfX X)[kq.1]? = some kq.2 ∧ kq.2.1 = 6
abbrev zUX (kq : Nat × Nat × List Value) (X : zXt) (L : (Nat → List (List Int32)) × List Int32) : Prop := zUN 3 kq X L
section ZRA
variable {S0 : zSt} {M : zRt} {X : zXt} {kq : Nat × Nat × List Value} {xs : List Int32} {N : Nat} {nc ns : Nat}
theorem zy_ge {k : Nat} (hk : 73 ≤ k) : (zy S0 M X)[k]? = (zfX X)[k]? := by
  have e : zy S0 M X = (zx S0.1 S0.2 ((zM M (X.1, X.2.1, [])))) ++ X.2.2 := rfl
  have l : (zx S0.1 S0.2 ((zM M (X.1, X.2.1, [])))).length = 73 := rfl
  have l2 : (List.replicate 73 ((0 : Nat), ([] : List Value))).length = 73 := rfl
  rw [e, List.getElem?_append_right (by rw [l]; exact hk), l]
  show _ = (List.replicate 73 _ ++ X.2.2)[k]?
  rw [List.getElem?_append_right (by rw [l2]; exact hk), l2]
theorem zy_row {i : Nat} (hi : i < 20) : (zy S0 M X)[47 + i]? = some (100, (M.2.1 i).map Value.int) := by
  match i, hi with
  | 0, _ => rfl
  | 1, _ => rfl
  | 2, _ => rfl
  | 3, _ => rfl
  | 4, _ => rfl
  | 5, _ => rfl
  | 6, _ => rfl
  | 7, _ => rfl
  | 8, _ => rfl
  | 9, _ => rfl
  | 10, _ => rfl
  | 11, _ => rfl
  | 12, _ => rfl
  | 13, _ => rfl
  | 14, _ => rfl
  | 15, _ => rfl
  | 16, _ => rfl
  | 17, _ => rfl
  | 18, _ => rfl
  | 19, _ => rfl
  | i + 20, h => omega
theorem zy_set {i : Nat} {l : List Int32} (hi : i < 20) : (zy S0 M X).set (47 + i) (100, l.map Value.int) = zy S0 (M.1, zup M.2.1 i l, M.2.2) X := by
  match i, hi with
  | 0, _ => rfl
  | 1, _ => rfl
  | 2, _ => rfl
  | 3, _ => rfl
  | 4, _ => rfl
  | 5, _ => rfl
  | 6, _ => rfl
  | 7, _ => rfl
  | 8, _ => rfl
  | 9, _ => rfl
  | 10, _ => rfl
  | 11, _ => rfl
  | 12, _ => rfl
  | 13, _ => rfl
  | 14, _ => rfl
  | 15, _ => rfl
  | 16, _ => rfl
  | 17, _ => rfl
  | 18, _ => rfl
  | 19, _ => rfl
  | i + 20, h => omega
theorem zy_g67 : (zy S0 M X)[67]? = some (100, (M.2.1 20).map Value.int) := rfl
theorem zy_s67 {j v : Int32} : (zy S0 M X).set 67 (100, (zst (M.2.1 20) j v).map Value.int) = zy S0 (zmW M 20 j v) X := rfl
theorem zy_g68 : (zy S0 M X)[68]? = some (100, (M.2.1 21).map Value.int) := rfl
theorem zy_s68 {j v : Int32} : (zy S0 M X).set 68 (100, (zst (M.2.1 21) j v).map Value.int) = zy S0 (zmW M 21 j v) X := rfl
theorem zy_g69 : (zy S0 M X)[69]? = some (100, (M.2.1 22).map Value.int) := rfl
theorem zy_s69 {j v : Int32} : (zy S0 M X).set 69 (100, (zst (M.2.1 22) j v).map Value.int) = zy S0 (zmW M 22 j v) X := rfl
theorem zy_g70 : (zy S0 M X)[70]? = some (100, (M.2.1 23).map Value.int) := rfl
theorem zy_s70 {j v : Int32} : (zy S0 M X).set 70 (100, (zst (M.2.1 23) j v).map Value.int) = zy S0 (zmW M 23 j v) X := rfl
theorem zy_g71 : (zy S0 M X)[71]? = some (101, (M.2.1 24).map Value.int) := rfl
theorem zy_s71 {j v : Int32} : (zy S0 M X).set 71 (101, (zst (M.2.1 24) j v).map Value.int) = zy S0 (zmW M 24 j v) X := rfl
theorem zy_g72 : (zy S0 M X)[72]? = some (101, (M.2.1 25).map Value.int) := rfl
theorem zy_s72 {j v : Int32} : (zy S0 M X).set 72 (101, (zst (M.2.1 25) j v).map Value.int) = zy S0 (zmW M 25 j v) X := rfl
theorem zy_setrow {i j v : Int32} (hi : i.toNatClampNeg < 20) : (zy S0 M X).set (47 + i.toNatClampNeg) (100, (zst (M.2.1 i.toNatClampNeg) j v).map Value.int) = zy S0 (zmR M i j v) X := by
  rw [zy_set hi]
  unfold zmR
  rw [if_pos hi]
theorem zUX_e {n i : Nat} {j : Int32} (hX : zUN n kq X M.2.2) (h : ¬ j < 0 ∧ j.toNatClampNeg < (M.2.2.1 i).length) (hi : i < n := by decide) : (zy S0 M X)[zel X i j]? = some (100, ((M.2.2.1 i).getD j.toNatClampNeg []).map Value.int) := by
  obtain ⟨-, k, -⟩ := hX
  obtain ⟨a, b, c⟩ := k i hi
  obtain ⟨e, e1, e2, e3⟩ := c j.toNatClampNeg _ (List.getElem?_eq_getElem h.2)
  have z : zel X i j = e := by
    unfold zel
    rw [List.getD_eq_getElem?_getD, e1]
    rfl
  rw [z, zy_ge e2, e3, List.getD_eq_getElem?_getD, List.getElem?_eq_getElem h.2]
  rfl
theorem zUX_c {n : Nat} (hX : zUN n kq X M.2.2) : (zy S0 M X)[X.1 9]? = some (100, M.2.2.2.map Value.int) := by
  rw [zy_ge hX.2.2.1.1]
  exact hX.2.2.1.2.1
/-- a list's cells, in the whole heap -/
theorem zLs_k {h h' : zH} {r : Nat} {dq : Option Nat} {es : List Nat} (hh : ∀ k, 73 ≤ k → h'[k]? = h[k]?) (hr : 73 ≤ r) (hd : ∀ q, dq = some q → 73 ≤ q) (g : zLs h r dq es) : zLs h' r dq es := by
  obtain ⟨m, g⟩ := g
  refine ⟨m, ?_⟩
  cases dq with
  | none => exact ⟨g.1, (hh r hr).trans g.2⟩
  | some q =>
    obtain ⟨vs, a, b, c⟩ := g
    exact ⟨vs, (hh r hr).trans a, (hh q (hd q rfl)).trans b, c⟩
theorem zul_ls {n i : Nat} (hi : i < n) (hX : zUN n kq X M.2.2) : ∃ dq, zLs (zy S0 M X) (X.1 i) dq (X.2.1 i) := by
  obtain ⟨⟨dq, k⟩, -⟩ := hX
  obtain ⟨a, b, c, -⟩ := k i hi
  exact ⟨dq i, zLs_k (fun k hk => zy_ge hk) a c b⟩
theorem zUX_lc {n i : Nat} (hi : i < n) (hX : zUN n kq X M.2.2) : ∃ vs, (zy S0 M X)[X.1 i]? = some (10, vs) := by
  obtain ⟨dq, g⟩ := zul_ls (S0 := S0) hi hX
  obtain ⟨a, b, z⟩ := zLs_size g
  exact ⟨_, z⟩
/-- an index of a loop over a list -/
theorem zlp_rg {n i k : Nat} (hi : i < n) (hX : zUN n kq X M.2.2) (h : (Int32.ofNat k).toInt < (Int32.ofNat (M.2.2.1 i).length).toInt) (hk : k ≤ (Int32.ofNat (M.2.2.1 i).length).toInt.toNat) : ¬ Int32.ofNat k < 0 ∧ (Int32.ofNat k).toNatClampNeg < (M.2.2.1 i).length := by
  have hl := Nat.le_trans (hX.2.1 i hi).2.1 (zlm_le i)
  have e1 := zofI (a := (M.2.2.1 i).length) (by omega)
  rw [e1] at hk h
  have hk9 : k < 2147483648 := by omega
  rw [zofI hk9] at h
  refine ⟨fun z => ?_, ?_⟩
  · rw [Int32.lt_iff_toInt_lt, zofI hk9, show (0 : Int32).toInt = 0 from by decide] at z
    omega
  · rw [zcl_of hk9]
    omega
end ZRA
section ZRB
variable {xs : List Int32} {N D y pc nx k yy m c : Nat} {L : zL} {st : List Value} {h : zH} {nc ns : Nat} {P : zO → Prop}
theorem zpE_aly {j : Int32} {a : Nat} {l : List Int32} {r : List Value} (h1 : zat (zmc y) pc = some (.iaload, nx, k, yy, m, c)) (ha : h[a]? = some (100, l.map Value.int)) (g : ¬ j < 0 → j.toNatClampNeg < l.length → zpE xs N y nx L (.int (zgt l j) :: r) h nc ns P) : zpE xs N y pc L (.int j :: .ref a :: r) h nc ns P :=
  zpE_ald h1 ha (fun v hj hv => by
    have e : zgt l j = v := by
      unfold zgt
      rw [if_neg hj, List.getD_eq_getElem?_getD, hv]
      rfl
    rw [← e]
    exact g hj (List.getElem?_eq_some_iff.mp hv).1)
theorem zpE_bly {j : Int32} {a : Nat} {l : List Int32} {r : List Value} (h1 : zat (zmc y) pc = some (.baload, nx, 101, yy, m, c)) (ha : h[a]? = some (101, l.map Value.int)) (g : ¬ j < 0 → j.toNatClampNeg < l.length → zpE xs N y nx L (.int (zgt l j) :: r) h nc ns P) : zpE xs N y pc L (.int j :: .ref a :: r) h nc ns P := by
  have en : zstep zcf xs pc .baload nx 101 yy m c L (.int j :: .ref a :: r) h = match l[j.toNatClampNeg]? with
      | some v => if j < 0 then none else zgo nx L (.int v :: r) h
      | none => none := by
    show zald 101 nx L (.int j :: .ref a :: r) h = _
    unfold zald
    dsimp only
    rw [ha]
    dsimp only
    rw [if_pos rfl, List.getElem?_map]
    cases l[j.toNatClampNeg]? <;> rfl
  cases hv : l[j.toNatClampNeg]? with
  | none =>
    rw [hv] at en
    refine zpE_le (Nat.le_succ _) (zpE_st1 h1 (fun pc' L' st' h' dc ds e => ?_) (fun r9 e => ?_)) <;> (rw [en] at e; cases e)
  | some v =>
    rw [hv] at en
    dsimp only at en
    by_cases hj : j < 0
    · refine zpE_le (Nat.le_succ _) (zpE_st1 h1 (fun pc' L' st' h' dc ds e => ?_) (fun r9 e => ?_)) <;> (rw [en, if_pos hj] at e; cases e)
    · have e : zgt l j = v := by
        unfold zgt
        rw [if_neg hj, List.getD_eq_getElem?_getD, hv]
        rfl
      rw [if_neg hj] at en
      refine zpE_step (dc := 0) (ds := 0) h1 en ?_
      rw [← e]
      exact g hj (List.getElem?_eq_some_iff.mp hv).1
theorem zst_in {l : List Int32} {j v : Int32} (hj : ¬ j < 0) : zst l j v = l.set j.toNatClampNeg v := by
  unfold zst
  rw [if_neg hj]
theorem zpE_asy {j v : Int32} {a : Nat} {l : List Int32} {r : List Value} {h' : zH} (h1 : zat (zmc y) pc = some (.iastore, nx, k, yy, m, c)) (ha : h[a]? = some (100, l.map Value.int)) (he : h.set a (100, (zst l j v).map Value.int) = h') (g : ¬ j < 0 → j.toNatClampNeg < l.length → zpE xs N y nx L r h' nc ns P) : zpE xs N y pc L (.int v :: .int j :: .ref a :: r) h nc ns P := by
  have en : zstep zcf xs pc .iastore nx k yy m c L (.int v :: .int j :: .ref a :: r) h = if j < 0 then none else if j.toNatClampNeg < (l.map Value.int).length then zgo nx L r (h.set a (100, (l.map Value.int).set j.toNatClampNeg (.int v))) else none := by
    show zast 100 some nx L (.int v :: .int j :: .ref a :: r) h = _
    unfold zast
    dsimp only
    rw [ha]
    dsimp only
    rw [if_pos rfl]
  by_cases hj : j < 0
  · refine zpE_le (Nat.le_succ _) (zpE_st1 h1 (fun pc' L' st' h' dc ds e => ?_) (fun r9 e => ?_)) <;> (rw [en, if_pos hj] at e; cases e)
  · by_cases hl : j.toNatClampNeg < l.length
    · refine zpE_step (dc := 0) (ds := 0) h1 (by rw [en, if_neg hj, if_pos (by rw [List.length_map]; exact hl)]; rfl) ?_
      rw [← List.map_set, ← zst_in hj, he]
      exact g hj hl
    · refine zpE_le (Nat.le_succ _) (zpE_st1 h1 (fun pc' L' st' h' dc ds e => ?_) (fun r9 e => ?_)) <;> (rw [en, if_neg hj, if_neg (by rw [List.length_map]; exact hl)] at e; cases e)
theorem zpE_bsy {j v : Int32} {a : Nat} {l : List Int32} {r : List Value} {h' : zH} (h1 : zat (zmc y) pc = some (.bastore, nx, 101, yy, m, c)) (ha : h[a]? = some (101, l.map Value.int)) (he : h.set a (101, (zst l j v).map Value.int) = h') (g : ¬ j < 0 → j.toNatClampNeg < l.length → (v = 0 ∨ v = 1) → zpE xs N y nx L r h' nc ns P) : zpE xs N y pc L (.int v :: .int j :: .ref a :: r) h nc ns P := by
  have en : zstep zcf xs pc .bastore nx 101 yy m c L (.int v :: .int j :: .ref a :: r) h = if j < 0 then none else if j.toNatClampNeg < (l.map Value.int).length then match (if v = 0 ∨ v = 1 then some v else none) with
      | some w => zgo nx L r (h.set a (101, (l.map Value.int).set j.toNatClampNeg (.int w)))
      | none => none else none := by
    show zast 101 (fun x => if x = 0 ∨ x = 1 then some x else none) nx L (.int v :: .int j :: .ref a :: r) h = _
    unfold zast
    dsimp only
    rw [ha]
    dsimp only
    rw [if_pos rfl]
    rfl
  by_cases hj : j < 0
  · refine zpE_le (Nat.le_succ _) (zpE_st1 h1 (fun pc' L' st' h' dc ds e => ?_) (fun r9 e => ?_)) <;> (rw [en, if_pos hj] at e; cases e)
  · by_cases hl : j.toNatClampNeg < l.length
    · by_cases hv : v = 0 ∨ v = 1
      · refine zpE_step (dc := 0) (ds := 0) h1 (by rw [en, if_neg hj, if_pos (by rw [List.length_map]; exact hl), if_pos hv]; rfl) ?_
        rw [← List.map_set, ← zst_in hj, he]
        exact g hj hl hv
      · refine zpE_le (Nat.le_succ _) (zpE_st1 h1 (fun pc' L' st' h' dc ds e => ?_) (fun r9 e => ?_)) <;> (rw [en, if_neg hj, if_pos (by rw [List.length_map]; exact hl), if_neg hv] at e; cases e)
    · refine zpE_le (Nat.le_succ _) (zpE_st1 h1 (fun pc' L' st' h' dc ds e => ?_) (fun r9 e => ?_)) <;> (rw [en, if_neg hj, if_neg (by rw [List.length_map]; exact hl)] at e; cases e)
theorem zpE_aaw {j : Int32} {a : Nat} {r : List Value} (h1 : zat (zmc y) pc = some (.aaload, nx, k, yy, m, c)) (ha : h[a]? = some (104, (List.range 20).map (fun j => .ref (47 + j)))) (g : ¬ j < 0 → j.toNatClampNeg < 20 → zpE xs N y nx L (.ref (47 + j.toNatClampNeg) :: r) h nc ns P) : zpE xs N y pc L (.int j :: .ref a :: r) h nc ns P := by
  have en : zstep zcf xs pc .aaload nx k yy m c L (.int j :: .ref a :: r) h = match ((List.range 20).map (fun j => Value.ref (47 + j)))[j.toNatClampNeg]? with
      | some v => if j < 0 then none else zgo nx L (v :: r) h
      | none => none := by
    show zaald nx L (.int j :: .ref a :: r) h = _
    unfold zaald
    dsimp only
    rw [ha]
    dsimp only
    rw [if_pos (Or.inr rfl)]
    rfl
  by_cases hl : j.toNatClampNeg < 20
  · have hv : ((List.range 20).map (fun j => Value.ref (47 + j)))[j.toNatClampNeg]? = some (.ref (47 + j.toNatClampNeg)) := by
      rw [List.getElem?_map, List.getElem?_range hl]
      rfl
    rw [hv] at en
    dsimp only at en
    by_cases hj : j < 0
    · refine zpE_le (Nat.le_succ _) (zpE_st1 h1 (fun pc' L' st' h' dc ds e => ?_) (fun r9 e => ?_)) <;> (rw [en, if_pos hj] at e; cases e)
    · rw [if_neg hj] at en
      exact zpE_step (dc := 0) (ds := 0) h1 en (g hj hl)
  · have hv : ((List.range 20).map (fun j => Value.ref (47 + j)))[j.toNatClampNeg]? = none := List.getElem?_eq_none (by simp; omega)
    rw [hv] at en
    refine zpE_le (Nat.le_succ _) (zpE_st1 h1 (fun pc' L' st' h' dc ds e => ?_) (fun r9 e => ?_)) <;> (rw [en] at e; cases e)
theorem zpE_chk {a : Nat} {r : List Value} {vs : List Value} (h1 : zat (zmc y) pc = some (.checkcast m, nx, 100, yy, k, c)) (ha : h[a]? = some (100, vs)) (g9 : zpE xs N y nx L (.ref a :: r) h nc ns P) : zpE xs N y pc L (.ref a :: r) h nc ns P := by
  refine zpE_step (dc := 0) (ds := 0) h1 ?_ g9
  show zchk 100 nx L (.ref a :: r) h = _
  unfold zchk
  dsimp only
  rw [ha]
  exact if_pos rfl
theorem zpE_gen (g : ∀ nc ns : Nat, zpE xs N y pc L st h nc ns P) : zpE xs N y pc L st h nc ns P := g nc ns
theorem zpE_retb {v : Int32} (h1 : zat (zmc y) pc = some (.ireturn, nx, 1, yy, m, c)) (g : v = 0 ∨ v = 1 → P (.inl (some (.int v)), h, nc, ns)) : zpE xs N y pc L [.int v] h nc ns P := by
  have en : zstep zcf xs pc .ireturn nx 1 yy m c L [.int v] h = if (1 : Nat) = 0 ∨ ((1 : Nat) = 1 ∧ (v = 0 ∨ v = 1)) ∨ ((1 : Nat) = 2 ∧ 0 ≤ v ∧ v ≤ 255) then zret (some (.int v)) else none := rfl
  by_cases hv : v = 0 ∨ v = 1
  · rw [if_pos (Or.inr (Or.inl ⟨rfl, hv⟩))] at en
    exact zpE_end (dc := 0) (ds := 0) h1 en (g hv)
  · rw [if_neg (fun z => by
      rcases z with z | ⟨-, z⟩ | ⟨z, -⟩
      · exact absurd z (by decide)
      · exact hv z
      · exact absurd z (by decide))] at en
    refine zpE_le (Nat.le_succ _) (zpE_st1 h1 (fun pc' L' st' h' dc ds e => ?_) (fun r9 e => ?_)) <;> (rw [en] at e; cases e)
end ZRB
section ZRC1
variable {S0 : zSt} {M M' R : zRt} {X : zXt} {kq : Nat × Nat × List Value} {xs : List Int32} {N : Nat} {nc ns : Nat} {r : Option Value ⊕ Nat} {V v : Int32}
theorem zOr_f (e : R = M') : zOq r (zy S0 R X) (r, zy S0 M' X, nc, ns) := by
  subst e
  exact ⟨rfl, rfl⟩
theorem zOr_w (e1 : V = v) (e : R = M') : zOq (.inl (some (.int V))) (zy S0 R X) (.inl (some (.int v)), zy S0 M' X, nc, ns) := by
  subst e
  subst e1
  exact ⟨rfl, rfl⟩
theorem zOx_f (hX : zUX kq X M'.2.2) (e : R = M') : ∃ X', zUX kq X' R.2.2 ∧ zOq r (zy S0 R X') (r, zy S0 M' X, nc, ns) := by
  subst e
  exact ⟨X, hX, rfl, rfl⟩
theorem zOx_w (hX : zUX kq X M'.2.2) (e1 : V = v) (e : R = M') : ∃ X', zUX kq X' R.2.2 ∧ zOq (.inl (some (.int V))) (zy S0 R X') (.inl (some (.int v)), zy S0 M' X, nc, ns) := by
  subst e
  subst e1
  exact ⟨X, hX, rfl, rfl⟩
end ZRC1
section ZRL
variable {S0 : zSt} {M : zRt} {X : zXt} {kq : Nat × Nat × List Value} {xs : List Int32} {N n : Nat} {nc ns : Nat}
theorem zup_s {α : Type} {f : Nat → α} {k : Nat} {v : α} : zup f k v k = v := if_pos rfl
theorem zup_n {α : Type} {f : Nat → α} {k j : Nat} {v : α} (h : j ≠ k) : zup f k v j = f j := if_neg h
abbrev zmLs (M : zRt) (i : Nat) (l : List (List Int32)) : zRt := (M.1, M.2.1, zup M.2.2.1 i l, M.2.2.2)
theorem zy_bs : zy S0 M X = zy S0 M (X.1, X.2.1, []) ++ X.2.2 := rfl
theorem zy_bl : (zy S0 M (X.1, X.2.1, [])).length = 73 := rfl
/-- a heap whose cells below 73 stay -/
theorem zy_of {h' : zH} {es : Nat → List Nat} (hk : ∀ k, k < 73 → h'[k]? = (zy S0 M X)[k]?) : h' = zy S0 M (X.1, es, h'.drop 73) := by
  have e : zy S0 M (X.1, es, h'.drop 73) = zy S0 M (X.1, X.2.1, []) ++ h'.drop 73 := rfl
  rw [e]
  have t : h'.take 73 = zy S0 M (X.1, X.2.1, []) := by
    refine List.ext_getElem? (fun k => ?_)
    by_cases hk9 : k < 73
    · rw [List.getElem?_take, if_pos hk9, hk k hk9, zy_bs, List.getElem?_append_left (by rw [zy_bl]; exact hk9)]
    · rw [List.getElem?_take, if_neg hk9, List.getElem?_eq_none (by rw [zy_bl]; omega)]
  rw [← t, List.take_append_drop]
theorem zfX_of {h' : zH} {rf : Nat → Nat} {es : Nat → List Nat} {k : Nat} (hk : 73 ≤ k) : (zfX (rf, es, h'.drop 73))[k]? = h'[k]? := by
  have l2 : (List.replicate 73 ((0 : Nat), ([] : List Value))).length = 73 := rfl
  show (List.replicate 73 _ ++ h'.drop 73)[k]? = _
  rw [List.getElem?_append_right (by rw [l2]; exact hk), l2, List.getElem?_drop]
  congr 1
  omega
theorem zfX_ln : (zfX X).length = (zy S0 M X).length := by
  have l2 : (List.replicate 73 ((0 : Nat), ([] : List Value))).length = 73 := rfl
  rw [zy_bs, List.length_append, zy_bl]
  show (List.replicate 73 _ ++ X.2.2).length = _
  rw [List.length_append, l2]
/-- new cells behind -/
theorem zfX_ap {U : zH} {k : Nat} {c : Nat × List Value} (h : (zfX X)[k]? = some c) : (zfX (X.1, X.2.1, X.2.2 ++ U))[k]? = some c := by
  show (List.replicate 73 _ ++ (X.2.2 ++ U))[k]? = _
  rw [← List.append_assoc]
  exact zapp_mv U _ _ h
theorem zLs_ap {U : zH} {r : Nat} {dq : Option Nat} {es : List Nat} (g : zLs (zfX X) r dq es) : zLs (zfX (X.1, X.2.1, X.2.2 ++ U)) r dq es := by
  obtain ⟨m, g⟩ := g
  refine ⟨m, ?_⟩
  cases dq with
  | none => exact ⟨g.1, zfX_ap g.2⟩
  | some q =>
    obtain ⟨vs, a, b, c⟩ := g
    exact ⟨vs, zfX_ap a, zfX_ap b, c⟩
theorem zUN_ap {U : zH} {L : (Nat → List (List Int32)) × List Int32} (hX : zUN n kq X L) : zUN n kq (X.1, X.2.1, X.2.2 ++ U) L := by
  obtain ⟨⟨dq, k1⟩, k2, ⟨k3, k4, k5⟩, k6, k7, k8⟩ := hX
  refine ⟨⟨dq, fun i hi => ?_⟩, fun i hi => ?_, ⟨k3, zfX_ap k4, k5⟩, k6, zfX_ap k7, k8⟩
  · obtain ⟨a, b, c, d⟩ := k1 i hi
    exact ⟨a, zLs_ap b, c, d⟩
  · obtain ⟨a, b, c⟩ := k2 i hi
    refine ⟨a, b, fun k l e => ?_⟩
    obtain ⟨e0, e1, e2, e3⟩ := c k l e
    exact ⟨e0, e1, e2, zfX_ap e3⟩
theorem zfX_new {l : List Int32} : (zfX (X.1, X.2.1, X.2.2 ++ [zar l]))[(zy S0 M X).length]? = some (zar l) := by
  rw [← zfX_ln (S0 := S0) (M := M) (X := X)]
  show (List.replicate 73 _ ++ (X.2.2 ++ [zar l]))[(List.replicate 73 ((0 : Nat), ([] : List Value)) ++ X.2.2).length]? = _
  rw [← List.append_assoc, List.getElem?_append_right (Nat.le_refl _), Nat.sub_self]
  rfl
theorem zy_73 : 73 ≤ (zy S0 M X).length := by
  rw [zy_bs, List.length_append, zy_bl]
  omega
theorem zal_2 {i : Nat} (hX : zUN n kq X M.2.2) (h : (Int32.ofNat (M.2.2.1 i).length).toInt < (Int32.ofInt 40).toInt) (hi : i < n := by decide) (h2 : i = 2 := by decide) : (M.2.2.1 i).length < zlm i := by
  have hl := Nat.le_trans (hX.2.1 i hi).2.1 (zlm_le i)
  rw [zofI (by omega), show (Int32.ofInt 40).toInt = 40 from by decide] at h
  unfold zlm
  rw [if_pos h2]
  omega
theorem zal_n {i : Nat} (hX : zUN n kq X M.2.2) (h : ¬ Int32.ofNat (M.2.2.1 i).length = Int32.ofInt 24) (hi : i < n := by decide) (h2 : ¬ i = 2 := by decide) : (M.2.2.1 i).length < zlm i := by
  have hl := (hX.2.1 i hi).2.1
  unfold zlm at hl ⊢
  rw [if_neg h2] at hl ⊢
  refine Nat.lt_of_le_of_ne hl (fun z => h ?_)
  rw [z]
  decide
abbrev zli0 : Nat × List Value := (10, [.int 0, .retAddr 1, .int 0])
/-- a new list behind, which takes the place of the list i -/
theorem zUN_new {i : Nat} (hi : i < n) (hn : n ≤ 9) (hX : zUN n kq X M.2.2) : zUN n kq (zup X.1 i (zy S0 M X).length, zup X.2.1 i [], X.2.2 ++ [zli0]) (zup M.2.2.1 i [], M.2.2.2) := by
  have hlen : (zfX X).length = (zy S0 M X).length := zfX_ln
  have l73 : 73 ≤ (zy S0 M X).length := zy_73
  have ap : ∀ {k : Nat} {c : Nat × List Value}, (zfX X)[k]? = some c → (zfX (zup X.1 i (zy S0 M X).length, zup X.2.1 i [], X.2.2 ++ [zli0]))[k]? = some c := fun z => zfX_ap z
  have nw : (zfX (zup X.1 i (zy S0 M X).length, zup X.2.1 i [], X.2.2 ++ [zli0]))[(zy S0 M X).length]? = some zli0 := by
    rw [← hlen]
    show (List.replicate 73 _ ++ (X.2.2 ++ [zli0]))[(List.replicate 73 ((0 : Nat), ([] : List Value)) ++ X.2.2).length]? = _
    rw [← List.append_assoc, List.getElem?_append_right (Nat.le_refl _), Nat.sub_self]
    rfl
  obtain ⟨⟨dq, k1⟩, k2, ⟨k3, k4, k5⟩, k6, k7, k8⟩ := hX
  have low : ∀ {j : Nat}, j < n → X.1 j < (zy S0 M X).length := by
    intro j hj
    obtain ⟨a, b, c⟩ := zLs_size (k1 j hj).2.1
    rw [← hlen]
    exact (List.getElem?_eq_some_iff.mp c).1
  refine ⟨⟨zup dq i none, fun j hj => ?_⟩, fun j hj => ?_, ⟨?_, ?_, k5⟩, k6, ap k7, k8⟩
  · by_cases ji : j = i
    · subst ji
      show 73 ≤ zup X.1 j _ j ∧ zLs _ (zup X.1 j _ j) (zup dq j none j) (zup X.2.1 j [] j) ∧ (∀ q, zup dq j none j = some q → 73 ≤ q) ∧ ∀ m, m < n → m ≠ j → zup X.1 j _ m ≠ zup X.1 j _ j ∧ ∀ q, zup dq j none j = some q → zup dq j none m ≠ some q
      rw [zup_s, zup_s, zup_s]
      refine ⟨l73, ⟨0, rfl, nw⟩, fun q z => (by cases z), fun m hm ne => ⟨?_, fun q z => (by cases z)⟩⟩
      rw [zup_n ne]
      have := low hm
      omega
    · obtain ⟨c1, c2, c3, c4⟩ := k1 j hj
      show 73 ≤ zup X.1 i _ j ∧ zLs _ (zup X.1 i _ j) (zup dq i none j) (zup X.2.1 i [] j) ∧ (∀ q, zup dq i none j = some q → 73 ≤ q) ∧ ∀ m, m < n → m ≠ j → zup X.1 i _ m ≠ zup X.1 i _ j ∧ ∀ q, zup dq i none j = some q → zup dq i none m ≠ some q
      rw [zup_n ji, zup_n ji, zup_n ji]
      refine ⟨c1, ?_, c3, fun m hm ne => ?_⟩
      · obtain ⟨mj, gj⟩ := c2
        refine ⟨mj, ?_⟩
        revert gj
        cases dq j with
        | none => exact fun gj => ⟨gj.1, ap gj.2⟩
        | some q =>
          intro gj
          obtain ⟨vs, g1, g2, g3⟩ := gj
          exact ⟨vs, ap g1, ap g2, g3⟩
      · by_cases mi : m = i
        · rw [mi, zup_s, zup_s]
          have := low hj
          exact ⟨by omega, fun q hq z => by cases z⟩
        · rw [zup_n mi, zup_n mi]
          exact c4 m hm ne
  · by_cases ji : j = i
    · subst ji
      show (zup X.2.1 j [] j).length = (zup M.2.2.1 j [] j).length ∧ (zup M.2.2.1 j [] j).length ≤ zlm j ∧ ∀ (k : Nat) (l : List Int32), (zup M.2.2.1 j [] j)[k]? = some l → _
      rw [zup_s, zup_s]
      exact ⟨rfl, Nat.zero_le _, fun k l z => (by cases z)⟩
    · obtain ⟨c1, c2, c3⟩ := k2 j hj
      show (zup X.2.1 i [] j).length = (zup M.2.2.1 i [] j).length ∧ (zup M.2.2.1 i [] j).length ≤ zlm j ∧ ∀ (k : Nat) (l : List Int32), (zup M.2.2.1 i [] j)[k]? = some l → ∃ e, (zup X.2.1 i [] j)[k]? = some e ∧ _
      rw [zup_n ji, zup_n ji]
      refine ⟨c1, c2, fun k l z => ?_⟩
      obtain ⟨e, e1, e2, e3⟩ := c3 k l z
      exact ⟨e, e1, e2, ap e3⟩
  · show 73 ≤ zup X.1 i _ 9
    rw [zup_n (by omega)]
    exact k3
  · show (zfX _)[zup X.1 i _ 9]? = _
    rw [zup_n (by omega)]
    exact ap k4
theorem zUX_lc2 {i : Nat} {l : List Int32} (hi : i < n) (hX : zUN n kq X M.2.2) : ∃ vs, (zy S0 M X ++ [zar l])[X.1 i]? = some (10, vs) := by
  obtain ⟨vs, z⟩ := zUX_lc (S0 := S0) hi hX
  exact ⟨vs, zapp_mv _ _ _ z⟩
end ZRL
/-- what stays: ints but W, rows but V, lists but Y (9: the columns) -/
def zfrM (W V Y : List Nat) (A B : zRt) : Prop := (∀ j, j ∉ W → A.1 j = B.1 j) ∧ (∀ j, j ∉ V → A.2.1 j = B.2.1 j) ∧ (∀ j, (A.2.1 j).length = (B.2.1 j).length) ∧ (∀ j, j ∉ Y → A.2.2.1 j = B.2.2.1 j) ∧ (9 ∉ Y → A.2.2.2 = B.2.2.2)
section ZOV
variable {S0 : zSt} {M : zRt} {X : zXt} {kq : Nat × Nat × List Value} {nc ns : Nat} {V v : Int32}
theorem zOx_v {l : List Int32} (hX : zUX kq X M.2.2) (e : V = v) : ∃ X', zUX kq X' M.2.2 ∧ zOq (.inl (some (.int V))) (zy S0 M X') (.inl (some (.int v)), zy S0 M X ++ [zar l], nc, ns) := ⟨_, zUN_ap (U := [zar l]) hX, by rw [e], rfl⟩
end ZOV
section ZGM
variable {A A' B C : zRt} {W V Y W1 V1 Y1 : List Nat} {k : Nat} {i j v : Int32}
theorem gm_rf : zfrM W V Y A A := ⟨fun _ _ => rfl, fun _ _ => rfl, fun _ => rfl, fun _ _ => rfl, fun _ => rfl⟩
theorem gm_tr (h1 : zfrM W V Y A B) (h2 : zfrM W V Y B C) : zfrM W V Y A C := ⟨fun j hj => (h1.1 j hj).trans (h2.1 j hj), fun j hj => (h1.2.1 j hj).trans (h2.2.1 j hj), fun j => (h1.2.2.1 j).trans (h2.2.2.1 j), fun j hj => (h1.2.2.2.1 j hj).trans (h2.2.2.2.1 j hj), fun hj => (h1.2.2.2.2 hj).trans (h2.2.2.2.2 hj)⟩
theorem gm_mo (h : zfrM W1 V1 Y1 A B) (hw : ∀ j ∈ W1, j ∈ W) (hv : ∀ j ∈ V1, j ∈ V) (hy : ∀ j ∈ Y1, j ∈ Y) : zfrM W V Y A B := ⟨fun j hj => h.1 j (fun z => hj (hw j z)), fun j hj => h.2.1 j (fun z => hj (hv j z)), h.2.2.1, fun j hj => h.2.2.2.1 j (fun z => hj (hy j z)), fun hj => h.2.2.2.2 (fun z => hj (hy 9 z))⟩
theorem gm_c (h1 : zfrM W1 V1 Y1 A B) (h2 : zfrM W V Y B C) (hw : ∀ j ∈ W1, j ∈ W) (hv : ∀ j ∈ V1, j ∈ V) (hy : ∀ j ∈ Y1, j ∈ Y) : zfrM W V Y A C := gm_tr (gm_mo h1 hw hv hy) h2
theorem gm_S : zfrM [k] [] [] (zmS A k v) A := ⟨fun j hj => if_neg (fun z => hj (List.mem_singleton.mpr z)), fun _ _ => rfl, fun _ => rfl, fun _ _ => rfl, fun _ => rfl⟩
theorem gm_W : zfrM [] [k] [] (zmW A k j v) A := by
  refine ⟨fun _ _ => rfl, fun i hi => if_neg (fun z => hi (List.mem_singleton.mpr z)), fun i => ?_, fun _ _ => rfl, fun _ => rfl⟩
  show (if i = k then _ else A.2.1 i).length = _
  split
  · next z =>
    rw [zst_len, z]
  · rfl
theorem gm_R : zfrM [] [0, 1, 2, 3, 4, 5, 6, 7, 8, 9, 10, 11, 12, 13, 14, 15, 16, 17, 18, 19] [] (zmR A i j v) A := by
  unfold zmR
  split
  · next hi =>
    refine ⟨fun _ _ => rfl, fun k hk => if_neg (fun z => hk (by
      rw [z]
      have e : [0, 1, 2, 3, 4, 5, 6, 7, 8, 9, 10, 11, 12, 13, 14, 15, 16, 17, 18, 19] = List.range 20 := by decide
      rw [e]
      exact List.mem_range.mpr hi)), fun k => ?_, fun _ _ => rfl, fun _ => rfl⟩
    show (if k = i.toNatClampNeg then _ else A.2.1 k).length = _
    split
    · next z =>
      rw [zst_len, z]
    · rfl
  · exact gm_rf
theorem gm_L {l : List (List Int32)} : zfrM [] [] [k] (zmLs A k l) A := ⟨fun _ _ => rfl, fun _ _ => rfl, fun _ => rfl, fun j hj => if_neg (fun z => hj (List.mem_singleton.mpr z)), fun _ => rfl⟩
theorem gm_ite {c : Prop} [Decidable c] (h1 : zfrM W V Y A C) (h2 : zfrM W V Y B C) : zfrM W V Y (if c then A else B) C := by
  split
  · exact h1
  · exact h2
theorem gm_l (h : zfrM W V [] A B) : A.2.2 = B.2.2 := Prod.ext (funext (fun j => h.2.2.2.1 j List.not_mem_nil)) (h.2.2.2.2 List.not_mem_nil)
end ZGM
section ZRD
variable {S0 : zSt} {M : zRt} {X : zXt} {kq : Nat × Nat × List Value}
theorem zy_mc {n : Nat} (hX : zUN n kq X M.2.2) : zMc (zy S0 M X) (M.1 1) (M.1 2) M.2.2.2 := ⟨_, X.1 9, rfl, rfl, rfl, rfl, zUX_c hX, Nat.lt_of_le_of_lt hX.2.2.1.2.2 (by decide)⟩
end ZRD
set_option maxRecDepth 20000
section ZRE
variable {S0 : zSt} {M : zRt} {X : zXt} {kq : Nat × Nat × List Value} {xs : List Int32} {N : Nat} {nc ns : Nat}
def v111 (x1 : Int32) (M : zRt) : Int32 := (Int32.ofInt 0)
def r111 (x1 : Int32) (M : zRt) : zRt := zmS M 0 x1
theorem gr_111 {x1 : Int32} : zfrM [0] [] [] (r111 x1 M) M := by
  unfold r111
  exact (gm_c gm_S gm_rf (by decide) (by decide) (by decide))
theorem rl_111 {x1 : Int32} : (r111 x1 M).2.2 = M.2.2 := gm_l gr_111
def v112 (x1 : Int32) (x2 : Int32) (x3 : Int32) (M : zRt) : Int32 := if x1.toInt < x2.toInt then ((Int32.ofInt 0)) else (if x3.toInt < x1.toInt then ((Int32.ofInt 0)) else ((Int32.ofInt 1)))
def v138 (x1 : Int32) (M : zRt) : Int32 := (v112 x1 (Int32.ofInt 0) (Int32.ofInt 127) M)
def v131 (x1 : Int32) (M : zRt) : Int32 := (zrmd (x1 + (Int32.ofInt 64)) (Int32.ofInt 128))
def v124 (x1 : Int32) (M : zRt) : Int32 := (zgt (M.2.1 22) (zqtd x1 (Int32.ofInt 8)))
def v125 (x1 : Int32) (M : zRt) : Int32 := (zgt (M.2.1 (Int32.toNatClampNeg (v124 x1 M))) (zrmd x1 (Int32.ofInt 8)))
def d126 (x1 : Int32) (x2 : Int32) (x3 : Int32) (M : zRt) (k : Nat) (u : Int32) : Int32 := if (zgt ((M.2.2.1 0).getD (Int32.toNatClampNeg ((Int32.ofNat k))) []) (Int32.ofInt 0)) = x1 then (if (zgt ((M.2.2.1 0).getD (Int32.toNatClampNeg ((Int32.ofNat k))) []) (Int32.ofInt 1)) = x2 then (if (zgt ((M.2.2.1 0).getD (Int32.toNatClampNeg ((Int32.ofNat k))) []) (Int32.ofInt 3)) = (Int32.ofInt 1) then (u ||| ((Int32.ofInt 1) <<< ((zgt ((M.2.2.1 0).getD (Int32.toNatClampNeg ((Int32.ofNat k))) []) (Int32.ofInt 2)) &&& 31))) else (u &&& (((Int32.ofInt 1) <<< ((zgt ((M.2.2.1 0).getD (Int32.toNatClampNeg ((Int32.ofNat k))) []) (Int32.ofInt 2)) &&& 31)) ^^^ (Int32.ofInt (-1))))) else u) else u
def w126 (x1 : Int32) (x2 : Int32) (x3 : Int32) (M : zRt) (u0 : Int32) : Nat → Int32
  | 0 => u0
  | k + 1 => d126 x1 x2 x3 M k (w126 x1 x2 x3 M u0 k)
def x126 (x1 : Int32) (x2 : Int32) (x3 : Int32) (M : zRt) (u : Int32) : zRt := zmR M x1 x2 u
def r126 (x1 : Int32) (x2 : Int32) (x3 : Int32) (M : zRt) : zRt := x126 x1 x2 x3 M (w126 x1 x2 x3 M x3 (Int32.ofNat (M.2.2.1 0).length).toInt.toNat)
theorem gr_x126 {x1 x2 x3 : Int32} {u : Int32} : zfrM [] [0, 1, 2, 3, 4, 5, 6, 7, 8, 9, 10, 11, 12, 13, 14, 15, 16, 17, 18, 19] [] (x126 x1 x2 x3 M u) M := by
  unfold x126
  exact (gm_c gm_R gm_rf (by decide) (by decide) (by decide))
theorem gr_126 {x1 x2 x3 : Int32} : zfrM [] [0, 1, 2, 3, 4, 5, 6, 7, 8, 9, 10, 11, 12, 13, 14, 15, 16, 17, 18, 19] [] (r126 x1 x2 x3 M) M := by
  unfold r126
  exact (gm_c gr_x126 gm_rf (by decide) (by decide) (by decide))
theorem rl_126 {x1 x2 x3 : Int32} : (r126 x1 x2 x3 M).2.2 = M.2.2 := gm_l gr_126
def r127 (x1 : Int32) (x2 : Int32) (M : zRt) : zRt := (r126 (v124 x1 M) (zrmd x1 (Int32.ofInt 8)) x2 M)
theorem gr_127 {x1 x2 : Int32} : zfrM [] [0, 1, 2, 3, 4, 5, 6, 7, 8, 9, 10, 11, 12, 13, 14, 15, 16, 17, 18, 19] [] (r127 x1 x2 M) M := by
  unfold r127
  exact (gm_c gr_126 gm_rf (by decide) (by decide) (by decide))
theorem rl_127 {x1 x2 : Int32} : (r127 x1 x2 M).2.2 = M.2.2 := gm_l gr_127
def v128  (M : zRt) : Int32 := if (M.1 11) = (Int32.ofInt (-1)) then (((zmS (zmS M 11 (Int32.ofInt 5)) 12 (((zmS M 11 (Int32.ofInt 5)).1 12) + (Int32.ofInt 1))).1 11)) else (((zmS (zmS M 11 (zrmd (((Int32.ofInt 17) * (M.1 11)) + (Int32.ofInt 43)) (Int32.ofInt 251))) 12 (((zmS M 11 (zrmd (((Int32.ofInt 17) * (M.1 11)) + (Int32.ofInt 43)) (Int32.ofInt 251))).1 12) + (Int32.ofInt 1))).1 11))
def r128  (M : zRt) : zRt := if (M.1 11) = (Int32.ofInt (-1)) then (zmS (zmS M 11 (Int32.ofInt 5)) 12 (((zmS M 11 (Int32.ofInt 5)).1 12) + (Int32.ofInt 1))) else (zmS (zmS M 11 (zrmd (((Int32.ofInt 17) * (M.1 11)) + (Int32.ofInt 43)) (Int32.ofInt 251))) 12 (((zmS M 11 (zrmd (((Int32.ofInt 17) * (M.1 11)) + (Int32.ofInt 43)) (Int32.ofInt 251))).1 12) + (Int32.ofInt 1)))
theorem gr_128 : zfrM [11, 12] [] [] (r128 M) M := by
  unfold r128
  exact (gm_ite (gm_c gm_S (gm_c gm_S gm_rf (by decide) (by decide) (by decide)) (by decide) (by decide) (by decide)) (gm_c gm_S (gm_c gm_S gm_rf (by decide) (by decide) (by decide)) (by decide) (by decide) (by decide)))
theorem rl_128 : (r128 M).2.2 = M.2.2 := gm_l gr_128
def t129 (x1 b : Int32) (M : zRt) : zRt := if (v112 ((zrmd x1 (Int32.ofInt 10)) + b) (Int32.ofInt 0) (Int32.ofInt 9) M) = ((0 : Int32)) then M else ((r126 (x1 + b) (zrmd (v128 M) (Int32.ofInt 8)) ((zgt ((r128 M).2.1 (Int32.toNatClampNeg (x1 + b))) (zrmd (v128 M) (Int32.ofInt 8))) ^^^ ((Int32.ofInt 1) <<< ((zrmd (v128 (r128 M)) ((r128 (r128 M)).1 1 + (r128 (r128 M)).1 2)) &&& 31))) (r128 (r128 M))))
theorem gr_t129 {x1 b : Int32} : zfrM [11, 12] [0, 1, 2, 3, 4, 5, 6, 7, 8, 9, 10, 11, 12, 13, 14, 15, 16, 17, 18, 19] [] (t129 x1 b M) M := by
  unfold t129
  exact (gm_ite gm_rf (gm_c gr_126 (gm_c gr_128 (gm_c gr_128 gm_rf (by decide) (by decide) (by decide)) (by decide) (by decide) (by decide)) (by decide) (by decide) (by decide)))
theorem rl_t129 {x1 b : Int32} : (t129 x1 b M).2.2 = M.2.2 := gm_l gr_t129
def q129 (x1 : Int32) (M : zRt) : zRt := zmW (zmW M 20 x1 (zgt (M.2.1 20) x1 + Int32.ofInt 1)) 21 x1 (M.1 4)
def r129 (x1 : Int32) (M : zRt) : zRt := if zrmd (zgt ((q129 x1 M).2.1 20) x1) (M.1 6) = 0 then t129 x1 (Int32.ofInt (-1) + Int32.ofInt 2) (t129 x1 (Int32.ofInt (-1)) (q129 x1 M)) else q129 x1 M
theorem gr_q129 {x1 : Int32} : zfrM [] [20, 21] [] (q129 x1 M) M := by
  unfold q129
  exact (gm_c gm_W (gm_c gm_W gm_rf (by decide) (by decide) (by decide)) (by decide) (by decide) (by decide))
theorem gr_129 {x1 : Int32} : zfrM [11, 12] [0, 1, 2, 3, 4, 5, 6, 7, 8, 9, 10, 11, 12, 13, 14, 15, 16, 17, 18, 19, 20, 21] [] (r129 x1 M) M := by
  unfold r129
  exact gm_ite (gm_c gr_t129 (gm_c gr_t129 (gm_c gr_q129 gm_rf (by decide) (by decide) (by decide)) (by decide) (by decide) (by decide)) (by decide) (by decide) (by decide)) (gm_mo gr_q129 (by decide) (by decide) (by decide))
theorem rl_129 {x1 : Int32} : (r129 x1 M).2.2 = M.2.2 := gm_l gr_129
def r132 (x1 : Int32) (x2 : Int32) (M : zRt) : zRt := zmW (r127 x1 (x2 ||| (zsm (r129 (v124 x1 M) M).2.2.2 x2 <<< ((r129 (v124 x1 M) M).1 1 &&& 31))) (r129 (v124 x1 M) M)) 24 x1 (Int32.ofInt 0)
theorem gr_132 {x1 x2 : Int32} : zfrM [11, 12] [0, 1, 2, 3, 4, 5, 6, 7, 8, 9, 10, 11, 12, 13, 14, 15, 16, 17, 18, 19, 20, 21, 24] [] (r132 x1 x2 M) M := by
  unfold r132
  exact (gm_c gm_W (gm_c gr_127 (gm_c gr_129 gm_rf (by decide) (by decide) (by decide)) (by decide) (by decide) (by decide)) (by decide) (by decide) (by decide))
theorem rl_132 {x1 x2 : Int32} : (r132 x1 x2 M).2.2 = M.2.2 := gm_l gr_132
def d135 (M : zRt) (k : Nat) (u : zRt) : zRt := if ((u.1 4) - (zgt (u.2.1 21) (zgt ((u.2.2.1 1).getD (Int32.toNatClampNeg ((Int32.ofNat k))) []) (Int32.ofInt 0)))).toInt < (zgt ((u.2.2.1 1).getD (Int32.toNatClampNeg ((Int32.ofNat k))) []) (Int32.ofInt 3)).toInt then u else ((r126 (zgt ((u.2.2.1 1).getD (Int32.toNatClampNeg ((Int32.ofNat k))) []) (Int32.ofInt 0)) (zgt ((u.2.2.1 1).getD (Int32.toNatClampNeg ((Int32.ofNat k))) []) (Int32.ofInt 1)) ((zgt (u.2.1 (Int32.toNatClampNeg (zgt ((u.2.2.1 1).getD (Int32.toNatClampNeg ((Int32.ofNat k))) []) (Int32.ofInt 0)))) (zgt ((u.2.2.1 1).getD (Int32.toNatClampNeg ((Int32.ofNat k))) []) (Int32.ofInt 1))) &&& (((Int32.ofInt 1) <<< ((zgt ((u.2.2.1 1).getD (Int32.toNatClampNeg ((Int32.ofNat k))) []) (Int32.ofInt 2)) &&& 31)) ^^^ (Int32.ofInt (-1)))) u))
def w135 (M : zRt) (u0 : zRt) : Nat → zRt
  | 0 => u0
  | k + 1 => d135 M k (w135 M u0 k)
def x135 (M : zRt) (u : zRt) : zRt := u
theorem gr_d135 {k : Nat} {u : zRt} : zfrM [] [0, 1, 2, 3, 4, 5, 6, 7, 8, 9, 10, 11, 12, 13, 14, 15, 16, 17, 18, 19] [] (d135 M k u) u := by
  unfold d135
  exact (gm_ite gm_rf (gm_c gr_126 gm_rf (by decide) (by decide) (by decide)))
theorem gr_w135 {u0 : zRt} : ∀ k, zfrM [] [0, 1, 2, 3, 4, 5, 6, 7, 8, 9, 10, 11, 12, 13, 14, 15, 16, 17, 18, 19] [] (w135 M u0 k) u0
  | 0 => gm_rf
  | k + 1 => gm_tr gr_d135 (gr_w135 k)
theorem kl_135 {u0 : zRt} (k : Nat) : (w135 M u0 k).2.2 = u0.2.2 := gm_l (gr_w135 k)
def r135  (M : zRt) : zRt := x135 M (w135 M M (Int32.ofNat (M.2.2.1 1).length).toInt.toNat)
theorem gr_x135 {u : zRt} : zfrM [] [] [] (x135 M u) u := by
  unfold x135
  exact gm_rf
theorem gr_135 : zfrM [] [0, 1, 2, 3, 4, 5, 6, 7, 8, 9, 10, 11, 12, 13, 14, 15, 16, 17, 18, 19] [] (r135 M) M := by
  unfold r135
  exact (gm_c gr_x135 (gm_c (gr_w135 _) gm_rf (by decide) (by decide) (by decide)) (by decide) (by decide) (by decide))
theorem rl_135 : (r135 M).2.2 = M.2.2 := gm_l gr_135
def v140 (x1 : Int32) (x2 : Int32) (M : zRt) : Int32 := if (v138 x1 (zmS M 0 (Int32.ofInt 0))) = ((0 : Int32)) then ((v111 (Int32.ofInt 1) (zmS M 0 (Int32.ofInt 0)))) else (if (v112 x2 (Int32.ofInt 0) (((Int32.ofInt 1) <<< (((zmS M 0 (Int32.ofInt 0)).1 1) &&& 31)) - (Int32.ofInt 1)) (zmS M 0 (Int32.ofInt 0))) = ((0 : Int32)) then ((v111 (Int32.ofInt 2) (zmS M 0 (Int32.ofInt 0)))) else (if (zgt ((zmS M 0 (Int32.ofInt 0)).2.1 25) x1) = ((0 : Int32)) then (if ((r132 x1 x2 (zmS M 0 (Int32.ofInt 0))).1 9) = ((0 : Int32)) then ((v125 x1 (r132 x1 x2 (zmS M 0 (Int32.ofInt 0))))) else (if (zgt ((r132 x1 x2 (zmS M 0 (Int32.ofInt 0))).2.1 25) (v131 x1 (r132 x1 x2 (zmS M 0 (Int32.ofInt 0))))) = ((0 : Int32)) then ((v125 x1 (r132 (v131 x1 (r132 x1 x2 (zmS M 0 (Int32.ofInt 0)))) x2 (r132 x1 x2 (zmS M 0 (Int32.ofInt 0)))))) else ((v125 x1 (r132 x1 x2 (zmS M 0 (Int32.ofInt 0))))))) else ((v111 (Int32.ofInt 3) (zmS M 0 (Int32.ofInt 0))))))
def r140 (x1 : Int32) (x2 : Int32) (M : zRt) : zRt := if (v138 x1 (zmS M 0 (Int32.ofInt 0))) = ((0 : Int32)) then ((r111 (Int32.ofInt 1) (zmS M 0 (Int32.ofInt 0)))) else (if (v112 x2 (Int32.ofInt 0) (((Int32.ofInt 1) <<< (((zmS M 0 (Int32.ofInt 0)).1 1) &&& 31)) - (Int32.ofInt 1)) (zmS M 0 (Int32.ofInt 0))) = ((0 : Int32)) then ((r111 (Int32.ofInt 2) (zmS M 0 (Int32.ofInt 0)))) else (if (zgt ((zmS M 0 (Int32.ofInt 0)).2.1 25) x1) = ((0 : Int32)) then (if ((r132 x1 x2 (zmS M 0 (Int32.ofInt 0))).1 9) = ((0 : Int32)) then ((r132 x1 x2 (zmS M 0 (Int32.ofInt 0)))) else (if (zgt ((r132 x1 x2 (zmS M 0 (Int32.ofInt 0))).2.1 25) (v131 x1 (r132 x1 x2 (zmS M 0 (Int32.ofInt 0))))) = ((0 : Int32)) then ((r132 (v131 x1 (r132 x1 x2 (zmS M 0 (Int32.ofInt 0)))) x2 (r132 x1 x2 (zmS M 0 (Int32.ofInt 0))))) else ((r132 x1 x2 (zmS M 0 (Int32.ofInt 0)))))) else ((r111 (Int32.ofInt 3) (zmS M 0 (Int32.ofInt 0))))))
theorem gr_140 {x1 x2 : Int32} : zfrM [0, 11, 12] [0, 1, 2, 3, 4, 5, 6, 7, 8, 9, 10, 11, 12, 13, 14, 15, 16, 17, 18, 19, 20, 21, 24] [] (r140 x1 x2 M) M := by
  unfold r140
  exact (gm_ite (gm_c gr_111 (gm_c gm_S gm_rf (by decide) (by decide) (by decide)) (by decide) (by decide) (by decide)) (gm_ite (gm_c gr_111 (gm_c gm_S gm_rf (by decide) (by decide) (by decide)) (by decide) (by decide) (by decide)) (gm_ite (gm_ite (gm_c gr_132 (gm_c gm_S gm_rf (by decide) (by decide) (by decide)) (by decide) (by decide) (by decide)) (gm_ite (gm_c gr_132 (gm_c gr_132 (gm_c gm_S gm_rf (by decide) (by decide) (by decide)) (by decide) (by decide) (by decide)) (by decide) (by decide) (by decide)) (gm_c gr_132 (gm_c gm_S gm_rf (by decide) (by decide) (by decide)) (by decide) (by decide) (by decide)))) (gm_c gr_111 (gm_c gm_S gm_rf (by decide) (by decide) (by decide)) (by decide) (by decide) (by decide)))))
theorem rl_140 {x1 x2 : Int32} : (r140 x1 x2 M).2.2 = M.2.2 := gm_l gr_140
def v142 (x1 : Int32) (x2 : Int32) (M : zRt) : Int32 := if (v138 x1 (zmS M 0 (Int32.ofInt 0))) = ((0 : Int32)) then ((v111 (Int32.ofInt 1) (zmS M 0 (Int32.ofInt 0)))) else (if (v112 x2 (Int32.ofInt 1) (((Int32.ofInt 1) <<< (((zmS M 0 (Int32.ofInt 0)).1 1 + (zmS M 0 (Int32.ofInt 0)).1 2) &&& 31)) - (Int32.ofInt 1)) (zmS M 0 (Int32.ofInt 0))) = ((0 : Int32)) then ((v111 (Int32.ofInt 2) (zmS M 0 (Int32.ofInt 0)))) else ((v125 x1 (r127 x1 ((v125 x1 (zmS M 0 (Int32.ofInt 0))) ^^^ x2) (zmS M 0 (Int32.ofInt 0))))))
def r142 (x1 : Int32) (x2 : Int32) (M : zRt) : zRt := if (v138 x1 (zmS M 0 (Int32.ofInt 0))) = ((0 : Int32)) then ((r111 (Int32.ofInt 1) (zmS M 0 (Int32.ofInt 0)))) else (if (v112 x2 (Int32.ofInt 1) (((Int32.ofInt 1) <<< (((zmS M 0 (Int32.ofInt 0)).1 1 + (zmS M 0 (Int32.ofInt 0)).1 2) &&& 31)) - (Int32.ofInt 1)) (zmS M 0 (Int32.ofInt 0))) = ((0 : Int32)) then ((r111 (Int32.ofInt 2) (zmS M 0 (Int32.ofInt 0)))) else ((r127 x1 ((v125 x1 (zmS M 0 (Int32.ofInt 0))) ^^^ x2) (zmS M 0 (Int32.ofInt 0)))))
theorem gr_142 {x1 x2 : Int32} : zfrM [0] [0, 1, 2, 3, 4, 5, 6, 7, 8, 9, 10, 11, 12, 13, 14, 15, 16, 17, 18, 19] [] (r142 x1 x2 M) M := by
  unfold r142
  exact (gm_ite (gm_c gr_111 (gm_c gm_S gm_rf (by decide) (by decide) (by decide)) (by decide) (by decide) (by decide)) (gm_ite (gm_c gr_111 (gm_c gm_S gm_rf (by decide) (by decide) (by decide)) (by decide) (by decide) (by decide)) (gm_c gr_127 (gm_c gm_S gm_rf (by decide) (by decide) (by decide)) (by decide) (by decide) (by decide))))
theorem rl_142 {x1 x2 : Int32} : (r142 x1 x2 M).2.2 = M.2.2 := gm_l gr_142
def d145 (x1 : Int32) (x2 : Int32) (x3 : Int32) (l4 : Int32) (M : zRt) (k : Nat) (u : zRt) : zRt := (r129 l4 u)
def w145 (x1 : Int32) (x2 : Int32) (x3 : Int32) (l4 : Int32) (M : zRt) (u0 : zRt) : Nat → zRt
  | 0 => u0
  | k + 1 => d145 x1 x2 x3 l4 M k (w145 x1 x2 x3 l4 M u0 k)
def y145 (x1 : Int32) (x2 : Int32) (x3 : Int32) (l4 : Int32) (M : zRt) (u : zRt) : Int32 := (zgt (u.2.1 20) l4)
def x145 (x1 : Int32) (x2 : Int32) (x3 : Int32) (l4 : Int32) (M : zRt) (u : zRt) : zRt := u
theorem gr_d145 {x1 x2 x3 l4 : Int32} {k : Nat} {u : zRt} : zfrM [11, 12] [0, 1, 2, 3, 4, 5, 6, 7, 8, 9, 10, 11, 12, 13, 14, 15, 16, 17, 18, 19, 20, 21] [] (d145 x1 x2 x3 l4 M k u) u := by
  unfold d145
  exact (gm_c gr_129 gm_rf (by decide) (by decide) (by decide))
theorem gr_w145 {x1 x2 x3 l4 : Int32} {u0 : zRt} : ∀ k, zfrM [11, 12] [0, 1, 2, 3, 4, 5, 6, 7, 8, 9, 10, 11, 12, 13, 14, 15, 16, 17, 18, 19, 20, 21] [] (w145 x1 x2 x3 l4 M u0 k) u0
  | 0 => gm_rf
  | k + 1 => gm_tr gr_d145 (gr_w145 k)
theorem kl_145 {x1 x2 x3 l4 : Int32} {u0 : zRt} (k : Nat) : (w145 x1 x2 x3 l4 M u0 k).2.2 = u0.2.2 := gm_l (gr_w145 k)
def v145 (x1 : Int32) (x2 : Int32) (x3 : Int32) (M : zRt) : Int32 := if (v112 x1 (Int32.ofInt 0) (Int32.ofInt 1) (zmS M 0 (Int32.ofInt 0))) = ((0 : Int32)) then ((v111 (Int32.ofInt 1) (zmS M 0 (Int32.ofInt 0)))) else (if (v112 x2 (Int32.ofInt 0) (Int32.ofInt 7) (zmS M 0 (Int32.ofInt 0))) = ((0 : Int32)) then ((v111 (Int32.ofInt 1) (zmS M 0 (Int32.ofInt 0)))) else (if (v112 x3 (Int32.ofInt 1) (Int32.ofInt 100) (zmS M 0 (Int32.ofInt 0))) = ((0 : Int32)) then ((v111 (Int32.ofInt 2) (zmS M 0 (Int32.ofInt 0)))) else (y145 x1 x2 x3 (zgt ((zmS M 0 (Int32.ofInt 0)).2.1 22) ((x1 * (Int32.ofInt 8)) + x2)) M (w145 x1 x2 x3 (zgt ((zmS M 0 (Int32.ofInt 0)).2.1 22) ((x1 * (Int32.ofInt 8)) + x2)) M (zmS M 0 (Int32.ofInt 0)) (x3).toInt.toNat))))
def r145 (x1 : Int32) (x2 : Int32) (x3 : Int32) (M : zRt) : zRt := if (v112 x1 (Int32.ofInt 0) (Int32.ofInt 1) (zmS M 0 (Int32.ofInt 0))) = ((0 : Int32)) then ((r111 (Int32.ofInt 1) (zmS M 0 (Int32.ofInt 0)))) else (if (v112 x2 (Int32.ofInt 0) (Int32.ofInt 7) (zmS M 0 (Int32.ofInt 0))) = ((0 : Int32)) then ((r111 (Int32.ofInt 1) (zmS M 0 (Int32.ofInt 0)))) else (if (v112 x3 (Int32.ofInt 1) (Int32.ofInt 100) (zmS M 0 (Int32.ofInt 0))) = ((0 : Int32)) then ((r111 (Int32.ofInt 2) (zmS M 0 (Int32.ofInt 0)))) else (x145 x1 x2 x3 (zgt ((zmS M 0 (Int32.ofInt 0)).2.1 22) ((x1 * (Int32.ofInt 8)) + x2)) M (w145 x1 x2 x3 (zgt ((zmS M 0 (Int32.ofInt 0)).2.1 22) ((x1 * (Int32.ofInt 8)) + x2)) M (zmS M 0 (Int32.ofInt 0)) (x3).toInt.toNat))))
theorem gr_x145 {x1 x2 x3 l4 : Int32} {u : zRt} : zfrM [] [] [] (x145 x1 x2 x3 l4 M u) u := by
  unfold x145
  exact gm_rf
theorem gr_145 {x1 x2 x3 : Int32} : zfrM [0, 11, 12] [0, 1, 2, 3, 4, 5, 6, 7, 8, 9, 10, 11, 12, 13, 14, 15, 16, 17, 18, 19, 20, 21] [] (r145 x1 x2 x3 M) M := by
  unfold r145
  exact (gm_ite (gm_c gr_111 (gm_c gm_S gm_rf (by decide) (by decide) (by decide)) (by decide) (by decide) (by decide)) (gm_ite (gm_c gr_111 (gm_c gm_S gm_rf (by decide) (by decide) (by decide)) (by decide) (by decide) (by decide)) (gm_ite (gm_c gr_111 (gm_c gm_S gm_rf (by decide) (by decide) (by decide)) (by decide) (by decide) (by decide)) (gm_c gr_x145 (gm_c (gr_w145 _) (gm_c gm_S gm_rf (by decide) (by decide) (by decide)) (by decide) (by decide) (by decide)) (by decide) (by decide) (by decide)))))
theorem rl_145 {x1 x2 x3 : Int32} : (r145 x1 x2 x3 M).2.2 = M.2.2 := gm_l gr_145
def v146 (x1 : Int32) (x2 : Int32) (x3 : Int32) (x4 : Int32) (x5 : Int32) (M : zRt) : Int32 := if (v112 x1 (Int32.ofInt 1) (Int32.ofInt 100) (zmS M 0 (Int32.ofInt 0))) = ((0 : Int32)) then ((v111 (Int32.ofInt 1) (zmS M 0 (Int32.ofInt 0)))) else (if (v112 x2 (Int32.ofInt 2) (Int32.ofInt 100) (zmS M 0 (Int32.ofInt 0))) = ((0 : Int32)) then ((v111 (Int32.ofInt 1) (zmS M 0 (Int32.ofInt 0)))) else (if (v112 x3 (Int32.ofInt 0) (Int32.ofInt 8) (zmS M 0 (Int32.ofInt 0))) = ((0 : Int32)) then ((v111 (Int32.ofInt 1) (zmS M 0 (Int32.ofInt 0)))) else (((zmS M 0 (Int32.ofInt 0)).1 7))))
def r146 (x1 : Int32) (x2 : Int32) (x3 : Int32) (x4 : Int32) (x5 : Int32) (M : zRt) : zRt := if (v112 x1 (Int32.ofInt 1) (Int32.ofInt 100) (zmS M 0 (Int32.ofInt 0))) = ((0 : Int32)) then ((r111 (Int32.ofInt 1) (zmS M 0 (Int32.ofInt 0)))) else (if (v112 x2 (Int32.ofInt 2) (Int32.ofInt 100) (zmS M 0 (Int32.ofInt 0))) = ((0 : Int32)) then ((r111 (Int32.ofInt 1) (zmS M 0 (Int32.ofInt 0)))) else (if (v112 x3 (Int32.ofInt 0) (Int32.ofInt 8) (zmS M 0 (Int32.ofInt 0))) = ((0 : Int32)) then ((r111 (Int32.ofInt 1) (zmS M 0 (Int32.ofInt 0)))) else (zmS (zmS (zmS (zmS (zmS (zmS M 0 (Int32.ofInt 0)) 5 x1) 6 x2) 7 x3) 8 x4) 9 x5)))
theorem gr_146 {x1 x2 x3 x4 x5 : Int32} : zfrM [0, 5, 6, 7, 8, 9] [] [] (r146 x1 x2 x3 x4 x5 M) M := by
  unfold r146
  exact (gm_ite (gm_c gr_111 (gm_c gm_S gm_rf (by decide) (by decide) (by decide)) (by decide) (by decide) (by decide)) (gm_ite (gm_c gr_111 (gm_c gm_S gm_rf (by decide) (by decide) (by decide)) (by decide) (by decide) (by decide)) (gm_ite (gm_c gr_111 (gm_c gm_S gm_rf (by decide) (by decide) (by decide)) (by decide) (by decide) (by decide)) (gm_c gm_S (gm_c gm_S (gm_c gm_S (gm_c gm_S (gm_c gm_S (gm_c gm_S gm_rf (by decide) (by decide) (by decide)) (by decide) (by decide) (by decide)) (by decide) (by decide) (by decide)) (by decide) (by decide) (by decide)) (by decide) (by decide) (by decide)) (by decide) (by decide) (by decide)))))
theorem rl_146 {x1 x2 x3 x4 x5 : Int32} : (r146 x1 x2 x3 x4 x5 M).2.2 = M.2.2 := gm_l gr_146
def d147 (x1 : Int32) (x2 : Int32) (l3 : Int32) (l4 : Int32) (l5 : Int32) (M : zRt) (k : Nat) (u : zRt) : zRt := if (zkd (r126 l5 ((Int32.ofNat k)) (zme u.2.2.2 (zgt (u.2.1 (Int32.toNatClampNeg l4)) ((Int32.ofNat k)))) u).2.2.2 (zgt (u.2.1 (Int32.toNatClampNeg l4)) ((Int32.ofNat k)))) = (Int32.ofInt 2) then (zmW (r126 l5 ((Int32.ofNat k)) (zme u.2.2.2 (zgt (u.2.1 (Int32.toNatClampNeg l4)) ((Int32.ofNat k)))) u) 24 ((l3 * (Int32.ofInt 8)) + ((Int32.ofNat k))) ((zgt ((r126 l5 ((Int32.ofNat k)) (zme u.2.2.2 (zgt (u.2.1 (Int32.toNatClampNeg l4)) ((Int32.ofNat k)))) u).2.1 24) ((l3 * (Int32.ofInt 8)) + ((Int32.ofNat k)))) ||| (Int32.ofInt 1))) else (zmW (r126 l5 ((Int32.ofNat k)) (zme u.2.2.2 (zgt (u.2.1 (Int32.toNatClampNeg l4)) ((Int32.ofNat k)))) u) 24 ((l3 * (Int32.ofInt 8)) + ((Int32.ofNat k))) ((zgt ((r126 l5 ((Int32.ofNat k)) (zme u.2.2.2 (zgt (u.2.1 (Int32.toNatClampNeg l4)) ((Int32.ofNat k)))) u).2.1 24) ((l3 * (Int32.ofInt 8)) + ((Int32.ofNat k)))) ||| (Int32.ofInt 0)))
def w147 (x1 : Int32) (x2 : Int32) (l3 : Int32) (l4 : Int32) (l5 : Int32) (M : zRt) (u0 : zRt) : Nat → zRt
  | 0 => u0
  | k + 1 => d147 x1 x2 l3 l4 l5 M k (w147 x1 x2 l3 l4 l5 M u0 k)
def y147 (x1 : Int32) (x2 : Int32) (l3 : Int32) (l4 : Int32) (l5 : Int32) (M : zRt) (u : zRt) : Int32 := (zgt (u.2.1 23) x1)
def x147 (x1 : Int32) (x2 : Int32) (l3 : Int32) (l4 : Int32) (l5 : Int32) (M : zRt) (u : zRt) : zRt := u
theorem gr_d147 {x1 x2 l3 l4 l5 : Int32} {k : Nat} {u : zRt} : zfrM [] [0, 1, 2, 3, 4, 5, 6, 7, 8, 9, 10, 11, 12, 13, 14, 15, 16, 17, 18, 19, 24] [] (d147 x1 x2 l3 l4 l5 M k u) u := by
  unfold d147
  exact (gm_ite (gm_c gm_W (gm_c gr_126 gm_rf (by decide) (by decide) (by decide)) (by decide) (by decide) (by decide)) (gm_c gm_W (gm_c gr_126 gm_rf (by decide) (by decide) (by decide)) (by decide) (by decide) (by decide)))
theorem gr_w147 {x1 x2 l3 l4 l5 : Int32} {u0 : zRt} : ∀ k, zfrM [] [0, 1, 2, 3, 4, 5, 6, 7, 8, 9, 10, 11, 12, 13, 14, 15, 16, 17, 18, 19, 24] [] (w147 x1 x2 l3 l4 l5 M u0 k) u0
  | 0 => gm_rf
  | k + 1 => gm_tr gr_d147 (gr_w147 k)
theorem kl_147 {x1 x2 l3 l4 l5 : Int32} {u0 : zRt} (k : Nat) : (w147 x1 x2 l3 l4 l5 M u0 k).2.2 = u0.2.2 := gm_l (gr_w147 k)
def v147 (x1 : Int32) (x2 : Int32) (M : zRt) : Int32 := if (v112 x1 (Int32.ofInt 0) (Int32.ofInt 1) (zmS M 0 (Int32.ofInt 0))) = ((0 : Int32)) then ((v111 (Int32.ofInt 1) (zmS M 0 (Int32.ofInt 0)))) else (if (v112 x2 (Int32.ofInt 0) (Int32.ofInt 7) (zmS M 0 (Int32.ofInt 0))) = ((0 : Int32)) then ((v111 (Int32.ofInt 1) (zmS M 0 (Int32.ofInt 0)))) else (if (zgt ((zmS M 0 (Int32.ofInt 0)).2.1 23) x1) = (Int32.ofInt 2) then ((v111 (Int32.ofInt 2) (zmS M 0 (Int32.ofInt 0)))) else (y147 x1 x2 ((x1 * (Int32.ofInt 8)) + x2) (zgt ((zmS M 0 (Int32.ofInt 0)).2.1 22) ((x1 * (Int32.ofInt 8)) + x2)) (((x1 * (Int32.ofInt 10)) + (Int32.ofInt 8)) + (zgt ((zmS M 0 (Int32.ofInt 0)).2.1 23) x1)) M (w147 x1 x2 ((x1 * (Int32.ofInt 8)) + x2) (zgt ((zmS M 0 (Int32.ofInt 0)).2.1 22) ((x1 * (Int32.ofInt 8)) + x2)) (((x1 * (Int32.ofInt 10)) + (Int32.ofInt 8)) + (zgt ((zmS M 0 (Int32.ofInt 0)).2.1 23) x1)) M (zmW (zmW (zmS M 0 (Int32.ofInt 0)) 23 x1 ((zgt ((zmS M 0 (Int32.ofInt 0)).2.1 23) x1) + (Int32.ofInt 1))) 22 ((x1 * (Int32.ofInt 8)) + x2) (((x1 * (Int32.ofInt 10)) + (Int32.ofInt 8)) + (zgt ((zmS M 0 (Int32.ofInt 0)).2.1 23) x1))) (Int32.ofInt 8).toInt.toNat))))
def r147 (x1 : Int32) (x2 : Int32) (M : zRt) : zRt := if (v112 x1 (Int32.ofInt 0) (Int32.ofInt 1) (zmS M 0 (Int32.ofInt 0))) = ((0 : Int32)) then ((r111 (Int32.ofInt 1) (zmS M 0 (Int32.ofInt 0)))) else (if (v112 x2 (Int32.ofInt 0) (Int32.ofInt 7) (zmS M 0 (Int32.ofInt 0))) = ((0 : Int32)) then ((r111 (Int32.ofInt 1) (zmS M 0 (Int32.ofInt 0)))) else (if (zgt ((zmS M 0 (Int32.ofInt 0)).2.1 23) x1) = (Int32.ofInt 2) then ((r111 (Int32.ofInt 2) (zmS M 0 (Int32.ofInt 0)))) else (x147 x1 x2 ((x1 * (Int32.ofInt 8)) + x2) (zgt ((zmS M 0 (Int32.ofInt 0)).2.1 22) ((x1 * (Int32.ofInt 8)) + x2)) (((x1 * (Int32.ofInt 10)) + (Int32.ofInt 8)) + (zgt ((zmS M 0 (Int32.ofInt 0)).2.1 23) x1)) M (w147 x1 x2 ((x1 * (Int32.ofInt 8)) + x2) (zgt ((zmS M 0 (Int32.ofInt 0)).2.1 22) ((x1 * (Int32.ofInt 8)) + x2)) (((x1 * (Int32.ofInt 10)) + (Int32.ofInt 8)) + (zgt ((zmS M 0 (Int32.ofInt 0)).2.1 23) x1)) M (zmW (zmW (zmS M 0 (Int32.ofInt 0)) 23 x1 ((zgt ((zmS M 0 (Int32.ofInt 0)).2.1 23) x1) + (Int32.ofInt 1))) 22 ((x1 * (Int32.ofInt 8)) + x2) (((x1 * (Int32.ofInt 10)) + (Int32.ofInt 8)) + (zgt ((zmS M 0 (Int32.ofInt 0)).2.1 23) x1))) (Int32.ofInt 8).toInt.toNat))))
theorem gr_x147 {x1 x2 l3 l4 l5 : Int32} {u : zRt} : zfrM [] [] [] (x147 x1 x2 l3 l4 l5 M u) u := by
  unfold x147
  exact gm_rf
theorem gr_147 {x1 x2 : Int32} : zfrM [0] [0, 1, 2, 3, 4, 5, 6, 7, 8, 9, 10, 11, 12, 13, 14, 15, 16, 17, 18, 19, 22, 23, 24] [] (r147 x1 x2 M) M := by
  unfold r147
  exact (gm_ite (gm_c gr_111 (gm_c gm_S gm_rf (by decide) (by decide) (by decide)) (by decide) (by decide) (by decide)) (gm_ite (gm_c gr_111 (gm_c gm_S gm_rf (by decide) (by decide) (by decide)) (by decide) (by decide) (by decide)) (gm_ite (gm_c gr_111 (gm_c gm_S gm_rf (by decide) (by decide) (by decide)) (by decide) (by decide) (by decide)) (gm_c gr_x147 (gm_c (gr_w147 _) (gm_c gm_W (gm_c gm_W (gm_c gm_S gm_rf (by decide) (by decide) (by decide)) (by decide) (by decide) (by decide)) (by decide) (by decide) (by decide)) (by decide) (by decide) (by decide)) (by decide) (by decide) (by decide)))))
theorem rl_147 {x1 x2 : Int32} : (r147 x1 x2 M).2.2 = M.2.2 := gm_l gr_147
def d149_71 (l3 : Int32) (M : zRt) (k : Nat) (u : Int32) : Int32 := if (zgt (M.2.1 24) ((Int32.ofNat k))) = ((0 : Int32)) then (u + (Int32.ofInt 0)) else (u + (Int32.ofInt 1))
def w149_71 (l3 : Int32) (M : zRt) (u0 : Int32) : Nat → Int32
  | 0 => u0
  | k + 1 => d149_71 l3 M k (w149_71 l3 M u0 k)
def y149_71 (l3 : Int32) (M : zRt) (u : Int32) : Int32 := u
def v149_71  (M : zRt) : Int32 := y149_71 (Int32.ofNat (M.2.1 24).length) M (w149_71 (Int32.ofNat (M.2.1 24).length) M (Int32.ofInt 0) ((Int32.ofNat (M.2.1 24).length)).toInt.toNat)
def d149_72 (l3 : Int32) (M : zRt) (k : Nat) (u : Int32) : Int32 := if (zgt (M.2.1 25) ((Int32.ofNat k))) = ((0 : Int32)) then (u + (Int32.ofInt 0)) else (u + (Int32.ofInt 1))
def w149_72 (l3 : Int32) (M : zRt) (u0 : Int32) : Nat → Int32
  | 0 => u0
  | k + 1 => d149_72 l3 M k (w149_72 l3 M u0 k)
def y149_72 (l3 : Int32) (M : zRt) (u : Int32) : Int32 := u
def v149_72  (M : zRt) : Int32 := y149_72 (Int32.ofNat (M.2.1 25).length) M (w149_72 (Int32.ofNat (M.2.1 25).length) M (Int32.ofInt 0) ((Int32.ofNat (M.2.1 25).length)).toInt.toNat)
def v148 (x1 : Int32) (x2 : Int32) (M : zRt) : Int32 := if (v138 x1 (zmS M 0 (Int32.ofInt 0))) = ((0 : Int32)) then ((v111 (Int32.ofInt 1) (zmS M 0 (Int32.ofInt 0)))) else ((v149_72 (zmW (zmS M 0 (Int32.ofInt 0)) 25 x1 x2)))
def r148 (x1 : Int32) (x2 : Int32) (M : zRt) : zRt := if (v138 x1 (zmS M 0 (Int32.ofInt 0))) = ((0 : Int32)) then ((r111 (Int32.ofInt 1) (zmS M 0 (Int32.ofInt 0)))) else (zmW (zmS M 0 (Int32.ofInt 0)) 25 x1 x2)
theorem gr_148 {x1 x2 : Int32} : zfrM [0] [25] [] (r148 x1 x2 M) M := by
  unfold r148
  exact (gm_ite (gm_c gr_111 (gm_c gm_S gm_rf (by decide) (by decide) (by decide)) (by decide) (by decide) (by decide)) (gm_c gm_W (gm_c gm_S gm_rf (by decide) (by decide) (by decide)) (by decide) (by decide) (by decide)))
theorem rl_148 {x1 x2 : Int32} : (r148 x1 x2 M).2.2 = M.2.2 := gm_l gr_148
def v152  (M : zRt) : Int32 := ((zmS (zmS M 0 (Int32.ofInt 0)) 13 (((zmS M 0 (Int32.ofInt 0)).1 13) + (Int32.ofInt 1))).1 13)
def r152  (M : zRt) : zRt := zmS (zmS M 0 (Int32.ofInt 0)) 13 (((zmS M 0 (Int32.ofInt 0)).1 13) + (Int32.ofInt 1))
theorem gr_152 : zfrM [0, 13] [] [] (r152 M) M := by
  unfold r152
  exact (gm_c gm_S (gm_c gm_S gm_rf (by decide) (by decide) (by decide)) (by decide) (by decide) (by decide))
theorem rl_152 : (r152 M).2.2 = M.2.2 := gm_l gr_152
def r130 (x1 : Int32) (x2 : Int32) (M : zRt) : zRt := if x2 = (Int32.ofInt (-1)) then (if x2 = (Int32.ofInt (-1)) then (if (Int32.ofNat ((zmS (zmS M 14 ((M.1 14) + (Int32.ofInt 0))) 15 (((zmS M 14 ((M.1 14) + (Int32.ofInt 0))).1 15) + (Int32.ofInt 1))).2.2.1 2).length).toInt < (Int32.ofInt 40).toInt then (zmLs (zmS (zmS M 14 ((M.1 14) + (Int32.ofInt 0))) 15 (((zmS M 14 ((M.1 14) + (Int32.ofInt 0))).1 15) + (Int32.ofInt 1))) 2 ((zmS (zmS M 14 ((M.1 14) + (Int32.ofInt 0))) 15 (((zmS M 14 ((M.1 14) + (Int32.ofInt 0))).1 15) + (Int32.ofInt 1))).2.2.1 2 ++ [[x1, x2, (zmS (zmS M 14 ((M.1 14) + (Int32.ofInt 0))) 15 (((zmS M 14 ((M.1 14) + (Int32.ofInt 0))).1 15) + (Int32.ofInt 1))).1 4]])) else (zmS (zmS M 14 ((M.1 14) + (Int32.ofInt 0))) 15 (((zmS M 14 ((M.1 14) + (Int32.ofInt 0))).1 15) + (Int32.ofInt 1)))) else (if (Int32.ofNat ((zmS (zmS M 14 ((M.1 14) + (Int32.ofInt 0))) 15 (((zmS M 14 ((M.1 14) + (Int32.ofInt 0))).1 15) + (Int32.ofInt 0))).2.2.1 2).length).toInt < (Int32.ofInt 40).toInt then (zmLs (zmS (zmS M 14 ((M.1 14) + (Int32.ofInt 0))) 15 (((zmS M 14 ((M.1 14) + (Int32.ofInt 0))).1 15) + (Int32.ofInt 0))) 2 ((zmS (zmS M 14 ((M.1 14) + (Int32.ofInt 0))) 15 (((zmS M 14 ((M.1 14) + (Int32.ofInt 0))).1 15) + (Int32.ofInt 0))).2.2.1 2 ++ [[x1, x2, (zmS (zmS M 14 ((M.1 14) + (Int32.ofInt 0))) 15 (((zmS M 14 ((M.1 14) + (Int32.ofInt 0))).1 15) + (Int32.ofInt 0))).1 4]])) else (zmS (zmS M 14 ((M.1 14) + (Int32.ofInt 0))) 15 (((zmS M 14 ((M.1 14) + (Int32.ofInt 0))).1 15) + (Int32.ofInt 0))))) else (if x2 = (Int32.ofInt (-1)) then (if (Int32.ofNat ((zmS (zmS M 14 ((M.1 14) + (Int32.ofInt 1))) 15 (((zmS M 14 ((M.1 14) + (Int32.ofInt 1))).1 15) + (Int32.ofInt 1))).2.2.1 2).length).toInt < (Int32.ofInt 40).toInt then (zmLs (zmS (zmS M 14 ((M.1 14) + (Int32.ofInt 1))) 15 (((zmS M 14 ((M.1 14) + (Int32.ofInt 1))).1 15) + (Int32.ofInt 1))) 2 ((zmS (zmS M 14 ((M.1 14) + (Int32.ofInt 1))) 15 (((zmS M 14 ((M.1 14) + (Int32.ofInt 1))).1 15) + (Int32.ofInt 1))).2.2.1 2 ++ [[x1, x2, (zmS (zmS M 14 ((M.1 14) + (Int32.ofInt 1))) 15 (((zmS M 14 ((M.1 14) + (Int32.ofInt 1))).1 15) + (Int32.ofInt 1))).1 4]])) else (zmS (zmS M 14 ((M.1 14) + (Int32.ofInt 1))) 15 (((zmS M 14 ((M.1 14) + (Int32.ofInt 1))).1 15) + (Int32.ofInt 1)))) else (if (Int32.ofNat ((zmS (zmS M 14 ((M.1 14) + (Int32.ofInt 1))) 15 (((zmS M 14 ((M.1 14) + (Int32.ofInt 1))).1 15) + (Int32.ofInt 0))).2.2.1 2).length).toInt < (Int32.ofInt 40).toInt then (zmLs (zmS (zmS M 14 ((M.1 14) + (Int32.ofInt 1))) 15 (((zmS M 14 ((M.1 14) + (Int32.ofInt 1))).1 15) + (Int32.ofInt 0))) 2 ((zmS (zmS M 14 ((M.1 14) + (Int32.ofInt 1))) 15 (((zmS M 14 ((M.1 14) + (Int32.ofInt 1))).1 15) + (Int32.ofInt 0))).2.2.1 2 ++ [[x1, x2, (zmS (zmS M 14 ((M.1 14) + (Int32.ofInt 1))) 15 (((zmS M 14 ((M.1 14) + (Int32.ofInt 1))).1 15) + (Int32.ofInt 0))).1 4]])) else (zmS (zmS M 14 ((M.1 14) + (Int32.ofInt 1))) 15 (((zmS M 14 ((M.1 14) + (Int32.ofInt 1))).1 15) + (Int32.ofInt 0)))))
theorem gr_130 {x1 x2 : Int32} : zfrM [14, 15] [] [2] (r130 x1 x2 M) M := by
  unfold r130
  exact (gm_ite (gm_ite (gm_ite (gm_c gm_L (gm_c gm_S (gm_c gm_S gm_rf (by decide) (by decide) (by decide)) (by decide) (by decide) (by decide)) (by decide) (by decide) (by decide)) (gm_c gm_S (gm_c gm_S gm_rf (by decide) (by decide) (by decide)) (by decide) (by decide) (by decide))) (gm_ite (gm_c gm_L (gm_c gm_S (gm_c gm_S gm_rf (by decide) (by decide) (by decide)) (by decide) (by decide) (by decide)) (by decide) (by decide) (by decide)) (gm_c gm_S (gm_c gm_S gm_rf (by decide) (by decide) (by decide)) (by decide) (by decide) (by decide)))) (gm_ite (gm_ite (gm_c gm_L (gm_c gm_S (gm_c gm_S gm_rf (by decide) (by decide) (by decide)) (by decide) (by decide) (by decide)) (by decide) (by decide) (by decide)) (gm_c gm_S (gm_c gm_S gm_rf (by decide) (by decide) (by decide)) (by decide) (by decide) (by decide))) (gm_ite (gm_c gm_L (gm_c gm_S (gm_c gm_S gm_rf (by decide) (by decide) (by decide)) (by decide) (by decide) (by decide)) (by decide) (by decide) (by decide)) (gm_c gm_S (gm_c gm_S gm_rf (by decide) (by decide) (by decide)) (by decide) (by decide) (by decide)))))
def v133 (x1 : Int32) (M : zRt) : Int32 := if (zkd M.2.2.2 (v125 x1 M)) = (Int32.ofInt 2) then ((Int32.ofInt (-1))) else (if (zkd M.2.2.2 (v125 x1 M)) = (Int32.ofInt 1) then (if ((r130 x1 (zbm9 M.2.2.2 (v125 x1 M)) M).1 8) = ((0 : Int32)) then ((zdo (r130 x1 (zbm9 M.2.2.2 (v125 x1 M)) M).2.2.2 ((r130 x1 (zbm9 M.2.2.2 (v125 x1 M)) M).1 1) (v125 x1 M))) else ((zdo (r127 x1 (zme (r130 x1 (zbm9 M.2.2.2 (v125 x1 M)) M).2.2.2 (v125 x1 M)) (r130 x1 (zbm9 M.2.2.2 (v125 x1 M)) M)).2.2.2 ((r127 x1 (zme (r130 x1 (zbm9 M.2.2.2 (v125 x1 M)) M).2.2.2 (v125 x1 M)) (r130 x1 (zbm9 M.2.2.2 (v125 x1 M)) M)).1 1) (v125 x1 M)))) else ((zdo M.2.2.2 (M.1 1) (v125 x1 M))))
def r133 (x1 : Int32) (M : zRt) : zRt := if (zkd M.2.2.2 (v125 x1 M)) = (Int32.ofInt 2) then M else (if (zkd M.2.2.2 (v125 x1 M)) = (Int32.ofInt 1) then (if ((r130 x1 (zbm9 M.2.2.2 (v125 x1 M)) M).1 8) = ((0 : Int32)) then ((r130 x1 (zbm9 M.2.2.2 (v125 x1 M)) M)) else ((r127 x1 (zme (r130 x1 (zbm9 M.2.2.2 (v125 x1 M)) M).2.2.2 (v125 x1 M)) (r130 x1 (zbm9 M.2.2.2 (v125 x1 M)) M)))) else M)
theorem gr_133 {x1 : Int32} : zfrM [14, 15] [0, 1, 2, 3, 4, 5, 6, 7, 8, 9, 10, 11, 12, 13, 14, 15, 16, 17, 18, 19] [2] (r133 x1 M) M := by
  unfold r133
  exact (gm_ite gm_rf (gm_ite (gm_ite (gm_c gr_130 gm_rf (by decide) (by decide) (by decide)) (gm_c gr_127 (gm_c gr_130 gm_rf (by decide) (by decide) (by decide)) (by decide) (by decide) (by decide))) gm_rf))
def v134 (x1 : Int32) (M : zRt) : Int32 := if (zgt ((r129 (v124 x1 M) M).2.1 24) x1) = ((0 : Int32)) then (if (v133 x1 (r129 (v124 x1 M) M)) = (Int32.ofInt (-1)) then (if ((r130 x1 (Int32.ofInt (-1)) (r133 x1 (r129 (v124 x1 M) M))).1 9) = ((0 : Int32)) then ((Int32.ofInt (-1))) else (if (zgt ((r130 x1 (Int32.ofInt (-1)) (r133 x1 (r129 (v124 x1 M) M))).2.1 25) (v131 x1 (r130 x1 (Int32.ofInt (-1)) (r133 x1 (r129 (v124 x1 M) M))))) = ((0 : Int32)) then (if (zgt ((r129 (v124 (v131 x1 (r130 x1 (Int32.ofInt (-1)) (r133 x1 (r129 (v124 x1 M) M)))) (r130 x1 (Int32.ofInt (-1)) (r133 x1 (r129 (v124 x1 M) M)))) (r130 x1 (Int32.ofInt (-1)) (r133 x1 (r129 (v124 x1 M) M)))).2.1 24) (v131 x1 (r130 x1 (Int32.ofInt (-1)) (r133 x1 (r129 (v124 x1 M) M))))) = ((0 : Int32)) then (if (v133 (v131 x1 (r130 x1 (Int32.ofInt (-1)) (r133 x1 (r129 (v124 x1 M) M)))) (r129 (v124 (v131 x1 (r130 x1 (Int32.ofInt (-1)) (r133 x1 (r129 (v124 x1 M) M)))) (r130 x1 (Int32.ofInt (-1)) (r133 x1 (r129 (v124 x1 M) M)))) (r130 x1 (Int32.ofInt (-1)) (r133 x1 (r129 (v124 x1 M) M))))) = (Int32.ofInt (-1)) then ((Int32.ofInt (-1))) else ((v133 (v131 x1 (r130 x1 (Int32.ofInt (-1)) (r133 x1 (r129 (v124 x1 M) M)))) (r129 (v124 (v131 x1 (r130 x1 (Int32.ofInt (-1)) (r133 x1 (r129 (v124 x1 M) M)))) (r130 x1 (Int32.ofInt (-1)) (r133 x1 (r129 (v124 x1 M) M)))) (r130 x1 (Int32.ofInt (-1)) (r133 x1 (r129 (v124 x1 M) M))))))) else ((Int32.ofInt (-1)))) else ((Int32.ofInt (-1))))) else ((v133 x1 (r129 (v124 x1 M) M)))) else (if ((r129 (v124 x1 M) M).1 9) = ((0 : Int32)) then ((Int32.ofInt (-1))) else (if (zgt ((r129 (v124 x1 M) M).2.1 25) (v131 x1 (r129 (v124 x1 M) M))) = ((0 : Int32)) then (if (zgt ((r129 (v124 (v131 x1 (r129 (v124 x1 M) M)) (r129 (v124 x1 M) M)) (r129 (v124 x1 M) M)).2.1 24) (v131 x1 (r129 (v124 x1 M) M))) = ((0 : Int32)) then (if (v133 (v131 x1 (r129 (v124 x1 M) M)) (r129 (v124 (v131 x1 (r129 (v124 x1 M) M)) (r129 (v124 x1 M) M)) (r129 (v124 x1 M) M))) = (Int32.ofInt (-1)) then ((Int32.ofInt (-1))) else ((v133 (v131 x1 (r129 (v124 x1 M) M)) (r129 (v124 (v131 x1 (r129 (v124 x1 M) M)) (r129 (v124 x1 M) M)) (r129 (v124 x1 M) M))))) else ((Int32.ofInt (-1)))) else ((Int32.ofInt (-1)))))
def r134 (x1 : Int32) (M : zRt) : zRt := if (zgt ((r129 (v124 x1 M) M).2.1 24) x1) = ((0 : Int32)) then (if (v133 x1 (r129 (v124 x1 M) M)) = (Int32.ofInt (-1)) then (if ((r130 x1 (Int32.ofInt (-1)) (r133 x1 (r129 (v124 x1 M) M))).1 9) = ((0 : Int32)) then (zmW (r130 x1 (Int32.ofInt (-1)) (r133 x1 (r129 (v124 x1 M) M))) 24 x1 (Int32.ofInt 1)) else (if (zgt ((r130 x1 (Int32.ofInt (-1)) (r133 x1 (r129 (v124 x1 M) M))).2.1 25) (v131 x1 (r130 x1 (Int32.ofInt (-1)) (r133 x1 (r129 (v124 x1 M) M))))) = ((0 : Int32)) then (if (zgt ((r129 (v124 (v131 x1 (r130 x1 (Int32.ofInt (-1)) (r133 x1 (r129 (v124 x1 M) M)))) (r130 x1 (Int32.ofInt (-1)) (r133 x1 (r129 (v124 x1 M) M)))) (r130 x1 (Int32.ofInt (-1)) (r133 x1 (r129 (v124 x1 M) M)))).2.1 24) (v131 x1 (r130 x1 (Int32.ofInt (-1)) (r133 x1 (r129 (v124 x1 M) M))))) = ((0 : Int32)) then (if (v133 (v131 x1 (r130 x1 (Int32.ofInt (-1)) (r133 x1 (r129 (v124 x1 M) M)))) (r129 (v124 (v131 x1 (r130 x1 (Int32.ofInt (-1)) (r133 x1 (r129 (v124 x1 M) M)))) (r130 x1 (Int32.ofInt (-1)) (r133 x1 (r129 (v124 x1 M) M)))) (r130 x1 (Int32.ofInt (-1)) (r133 x1 (r129 (v124 x1 M) M))))) = (Int32.ofInt (-1)) then (zmW (r133 (v131 x1 (r130 x1 (Int32.ofInt (-1)) (r133 x1 (r129 (v124 x1 M) M)))) (r129 (v124 (v131 x1 (r130 x1 (Int32.ofInt (-1)) (r133 x1 (r129 (v124 x1 M) M)))) (r130 x1 (Int32.ofInt (-1)) (r133 x1 (r129 (v124 x1 M) M)))) (r130 x1 (Int32.ofInt (-1)) (r133 x1 (r129 (v124 x1 M) M))))) 24 x1 (Int32.ofInt 1)) else (zmW (r127 x1 ((v133 (v131 x1 (r130 x1 (Int32.ofInt (-1)) (r133 x1 (r129 (v124 x1 M) M)))) (r129 (v124 (v131 x1 (r130 x1 (Int32.ofInt (-1)) (r133 x1 (r129 (v124 x1 M) M)))) (r130 x1 (Int32.ofInt (-1)) (r133 x1 (r129 (v124 x1 M) M)))) (r130 x1 (Int32.ofInt (-1)) (r133 x1 (r129 (v124 x1 M) M))))) ||| (zsm (r133 (v131 x1 (r130 x1 (Int32.ofInt (-1)) (r133 x1 (r129 (v124 x1 M) M)))) (r129 (v124 (v131 x1 (r130 x1 (Int32.ofInt (-1)) (r133 x1 (r129 (v124 x1 M) M)))) (r130 x1 (Int32.ofInt (-1)) (r133 x1 (r129 (v124 x1 M) M)))) (r130 x1 (Int32.ofInt (-1)) (r133 x1 (r129 (v124 x1 M) M))))).2.2.2 (v133 (v131 x1 (r130 x1 (Int32.ofInt (-1)) (r133 x1 (r129 (v124 x1 M) M)))) (r129 (v124 (v131 x1 (r130 x1 (Int32.ofInt (-1)) (r133 x1 (r129 (v124 x1 M) M)))) (r130 x1 (Int32.ofInt (-1)) (r133 x1 (r129 (v124 x1 M) M)))) (r130 x1 (Int32.ofInt (-1)) (r133 x1 (r129 (v124 x1 M) M))))) <<< ((r133 (v131 x1 (r130 x1 (Int32.ofInt (-1)) (r133 x1 (r129 (v124 x1 M) M)))) (r129 (v124 (v131 x1 (r130 x1 (Int32.ofInt (-1)) (r133 x1 (r129 (v124 x1 M) M)))) (r130 x1 (Int32.ofInt (-1)) (r133 x1 (r129 (v124 x1 M) M)))) (r130 x1 (Int32.ofInt (-1)) (r133 x1 (r129 (v124 x1 M) M))))).1 1 &&& 31))) (r133 (v131 x1 (r130 x1 (Int32.ofInt (-1)) (r133 x1 (r129 (v124 x1 M) M)))) (r129 (v124 (v131 x1 (r130 x1 (Int32.ofInt (-1)) (r133 x1 (r129 (v124 x1 M) M)))) (r130 x1 (Int32.ofInt (-1)) (r133 x1 (r129 (v124 x1 M) M)))) (r130 x1 (Int32.ofInt (-1)) (r133 x1 (r129 (v124 x1 M) M)))))) 24 x1 (Int32.ofInt 0))) else (zmW (r129 (v124 (v131 x1 (r130 x1 (Int32.ofInt (-1)) (r133 x1 (r129 (v124 x1 M) M)))) (r130 x1 (Int32.ofInt (-1)) (r133 x1 (r129 (v124 x1 M) M)))) (r130 x1 (Int32.ofInt (-1)) (r133 x1 (r129 (v124 x1 M) M)))) 24 x1 (Int32.ofInt 1))) else (zmW (r130 x1 (Int32.ofInt (-1)) (r133 x1 (r129 (v124 x1 M) M))) 24 x1 (Int32.ofInt 1)))) else ((r133 x1 (r129 (v124 x1 M) M)))) else (if ((r129 (v124 x1 M) M).1 9) = ((0 : Int32)) then (zmW (r129 (v124 x1 M) M) 24 x1 (Int32.ofInt 1)) else (if (zgt ((r129 (v124 x1 M) M).2.1 25) (v131 x1 (r129 (v124 x1 M) M))) = ((0 : Int32)) then (if (zgt ((r129 (v124 (v131 x1 (r129 (v124 x1 M) M)) (r129 (v124 x1 M) M)) (r129 (v124 x1 M) M)).2.1 24) (v131 x1 (r129 (v124 x1 M) M))) = ((0 : Int32)) then (if (v133 (v131 x1 (r129 (v124 x1 M) M)) (r129 (v124 (v131 x1 (r129 (v124 x1 M) M)) (r129 (v124 x1 M) M)) (r129 (v124 x1 M) M))) = (Int32.ofInt (-1)) then (zmW (r133 (v131 x1 (r129 (v124 x1 M) M)) (r129 (v124 (v131 x1 (r129 (v124 x1 M) M)) (r129 (v124 x1 M) M)) (r129 (v124 x1 M) M))) 24 x1 (Int32.ofInt 1)) else (zmW (r127 x1 ((v133 (v131 x1 (r129 (v124 x1 M) M)) (r129 (v124 (v131 x1 (r129 (v124 x1 M) M)) (r129 (v124 x1 M) M)) (r129 (v124 x1 M) M))) ||| (zsm (r133 (v131 x1 (r129 (v124 x1 M) M)) (r129 (v124 (v131 x1 (r129 (v124 x1 M) M)) (r129 (v124 x1 M) M)) (r129 (v124 x1 M) M))).2.2.2 (v133 (v131 x1 (r129 (v124 x1 M) M)) (r129 (v124 (v131 x1 (r129 (v124 x1 M) M)) (r129 (v124 x1 M) M)) (r129 (v124 x1 M) M))) <<< ((r133 (v131 x1 (r129 (v124 x1 M) M)) (r129 (v124 (v131 x1 (r129 (v124 x1 M) M)) (r129 (v124 x1 M) M)) (r129 (v124 x1 M) M))).1 1 &&& 31))) (r133 (v131 x1 (r129 (v124 x1 M) M)) (r129 (v124 (v131 x1 (r129 (v124 x1 M) M)) (r129 (v124 x1 M) M)) (r129 (v124 x1 M) M)))) 24 x1 (Int32.ofInt 0))) else (zmW (r129 (v124 (v131 x1 (r129 (v124 x1 M) M)) (r129 (v124 x1 M) M)) (r129 (v124 x1 M) M)) 24 x1 (Int32.ofInt 1))) else (zmW (r129 (v124 x1 M) M) 24 x1 (Int32.ofInt 1))))
theorem gr_134 {x1 : Int32} : zfrM [11, 12, 14, 15] [0, 1, 2, 3, 4, 5, 6, 7, 8, 9, 10, 11, 12, 13, 14, 15, 16, 17, 18, 19, 20, 21, 24] [2] (r134 x1 M) M := by
  unfold r134
  exact (gm_ite (gm_ite (gm_ite (gm_c gm_W (gm_c gr_130 (gm_c gr_133 (gm_c gr_129 gm_rf (by decide) (by decide) (by decide)) (by decide) (by decide) (by decide)) (by decide) (by decide) (by decide)) (by decide) (by decide) (by decide)) (gm_ite (gm_ite (gm_ite (gm_c gm_W (gm_c gr_133 (gm_c gr_129 (gm_c gr_130 (gm_c gr_133 (gm_c gr_129 gm_rf (by decide) (by decide) (by decide)) (by decide) (by decide) (by decide)) (by decide) (by decide) (by decide)) (by decide) (by decide) (by decide)) (by decide) (by decide) (by decide)) (by decide) (by decide) (by decide)) (gm_c gm_W (gm_c gr_127 (gm_c gr_133 (gm_c gr_129 (gm_c gr_130 (gm_c gr_133 (gm_c gr_129 gm_rf (by decide) (by decide) (by decide)) (by decide) (by decide) (by decide)) (by decide) (by decide) (by decide)) (by decide) (by decide) (by decide)) (by decide) (by decide) (by decide)) (by decide) (by decide) (by decide)) (by decide) (by decide) (by decide))) (gm_c gm_W (gm_c gr_129 (gm_c gr_130 (gm_c gr_133 (gm_c gr_129 gm_rf (by decide) (by decide) (by decide)) (by decide) (by decide) (by decide)) (by decide) (by decide) (by decide)) (by decide) (by decide) (by decide)) (by decide) (by decide) (by decide))) (gm_c gm_W (gm_c gr_130 (gm_c gr_133 (gm_c gr_129 gm_rf (by decide) (by decide) (by decide)) (by decide) (by decide) (by decide)) (by decide) (by decide) (by decide)) (by decide) (by decide) (by decide)))) (gm_c gr_133 (gm_c gr_129 gm_rf (by decide) (by decide) (by decide)) (by decide) (by decide) (by decide))) (gm_ite (gm_c gm_W (gm_c gr_129 gm_rf (by decide) (by decide) (by decide)) (by decide) (by decide) (by decide)) (gm_ite (gm_ite (gm_ite (gm_c gm_W (gm_c gr_133 (gm_c gr_129 (gm_c gr_129 gm_rf (by decide) (by decide) (by decide)) (by decide) (by decide) (by decide)) (by decide) (by decide) (by decide)) (by decide) (by decide) (by decide)) (gm_c gm_W (gm_c gr_127 (gm_c gr_133 (gm_c gr_129 (gm_c gr_129 gm_rf (by decide) (by decide) (by decide)) (by decide) (by decide) (by decide)) (by decide) (by decide) (by decide)) (by decide) (by decide) (by decide)) (by decide) (by decide) (by decide))) (gm_c gm_W (gm_c gr_129 (gm_c gr_129 gm_rf (by decide) (by decide) (by decide)) (by decide) (by decide) (by decide)) (by decide) (by decide) (by decide))) (gm_c gm_W (gm_c gr_129 gm_rf (by decide) (by decide) (by decide)) (by decide) (by decide) (by decide)))))
def v141 (x1 : Int32) (M : zRt) : Int32 := if (v138 x1 (zmS M 0 (Int32.ofInt 0))) = ((0 : Int32)) then ((v111 (Int32.ofInt 1) (zmS M 0 (Int32.ofInt 0)))) else (if (zgt ((zmS M 0 (Int32.ofInt 0)).2.1 25) x1) = ((0 : Int32)) then ((v134 x1 (zmS M 0 (Int32.ofInt 0)))) else ((v111 (Int32.ofInt 2) (zmS M 0 (Int32.ofInt 0)))))
def r141 (x1 : Int32) (M : zRt) : zRt := if (v138 x1 (zmS M 0 (Int32.ofInt 0))) = ((0 : Int32)) then ((r111 (Int32.ofInt 1) (zmS M 0 (Int32.ofInt 0)))) else (if (zgt ((zmS M 0 (Int32.ofInt 0)).2.1 25) x1) = ((0 : Int32)) then ((r134 x1 (zmS M 0 (Int32.ofInt 0)))) else ((r111 (Int32.ofInt 2) (zmS M 0 (Int32.ofInt 0)))))
theorem gr_141 {x1 : Int32} : zfrM [0, 11, 12, 14, 15] [0, 1, 2, 3, 4, 5, 6, 7, 8, 9, 10, 11, 12, 13, 14, 15, 16, 17, 18, 19, 20, 21, 24] [2] (r141 x1 M) M := by
  unfold r141
  exact (gm_ite (gm_c gr_111 (gm_c gm_S gm_rf (by decide) (by decide) (by decide)) (by decide) (by decide) (by decide)) (gm_ite (gm_c gr_134 (gm_c gm_S gm_rf (by decide) (by decide) (by decide)) (by decide) (by decide) (by decide)) (gm_c gr_111 (gm_c gm_S gm_rf (by decide) (by decide) (by decide)) (by decide) (by decide) (by decide))))
def v143 (x1 : Int32) (x2 : Int32) (x3 : Int32) (M : zRt) : Int32 := if (v138 x1 (zmS M 0 (Int32.ofInt 0))) = ((0 : Int32)) then ((v111 (Int32.ofInt 1) (zmS M 0 (Int32.ofInt 0)))) else (if (v112 x2 (Int32.ofInt 0) (((zmS M 0 (Int32.ofInt 0)).1 1 + (zmS M 0 (Int32.ofInt 0)).1 2) - (Int32.ofInt 1)) (zmS M 0 (Int32.ofInt 0))) = ((0 : Int32)) then ((v111 (Int32.ofInt 2) (zmS M 0 (Int32.ofInt 0)))) else (if (Int32.ofNat ((zmS M 0 (Int32.ofInt 0)).2.2.1 0).length) = (Int32.ofInt 24) then ((v111 (Int32.ofInt 3) (zmS M 0 (Int32.ofInt 0)))) else (if x3 = ((0 : Int32)) then ((Int32.ofNat ((r127 x1 (v125 x1 (zmLs (zmS M 0 (Int32.ofInt 0)) 0 ((zmS M 0 (Int32.ofInt 0)).2.2.1 0 ++ [[v124 x1 (zmS M 0 (Int32.ofInt 0)), zrmd x1 (Int32.ofInt 8), x2, Int32.ofInt 0]]))) (zmLs (zmS M 0 (Int32.ofInt 0)) 0 ((zmS M 0 (Int32.ofInt 0)).2.2.1 0 ++ [[v124 x1 (zmS M 0 (Int32.ofInt 0)), zrmd x1 (Int32.ofInt 8), x2, Int32.ofInt 0]]))).2.2.1 0).length)) else ((Int32.ofNat ((r127 x1 (v125 x1 (zmLs (zmS M 0 (Int32.ofInt 0)) 0 ((zmS M 0 (Int32.ofInt 0)).2.2.1 0 ++ [[v124 x1 (zmS M 0 (Int32.ofInt 0)), zrmd x1 (Int32.ofInt 8), x2, Int32.ofInt 1]]))) (zmLs (zmS M 0 (Int32.ofInt 0)) 0 ((zmS M 0 (Int32.ofInt 0)).2.2.1 0 ++ [[v124 x1 (zmS M 0 (Int32.ofInt 0)), zrmd x1 (Int32.ofInt 8), x2, Int32.ofInt 1]]))).2.2.1 0).length)))))
def r143 (x1 : Int32) (x2 : Int32) (x3 : Int32) (M : zRt) : zRt := if (v138 x1 (zmS M 0 (Int32.ofInt 0))) = ((0 : Int32)) then ((r111 (Int32.ofInt 1) (zmS M 0 (Int32.ofInt 0)))) else (if (v112 x2 (Int32.ofInt 0) (((zmS M 0 (Int32.ofInt 0)).1 1 + (zmS M 0 (Int32.ofInt 0)).1 2) - (Int32.ofInt 1)) (zmS M 0 (Int32.ofInt 0))) = ((0 : Int32)) then ((r111 (Int32.ofInt 2) (zmS M 0 (Int32.ofInt 0)))) else (if (Int32.ofNat ((zmS M 0 (Int32.ofInt 0)).2.2.1 0).length) = (Int32.ofInt 24) then ((r111 (Int32.ofInt 3) (zmS M 0 (Int32.ofInt 0)))) else (if x3 = ((0 : Int32)) then ((r127 x1 (v125 x1 (zmLs (zmS M 0 (Int32.ofInt 0)) 0 ((zmS M 0 (Int32.ofInt 0)).2.2.1 0 ++ [[v124 x1 (zmS M 0 (Int32.ofInt 0)), zrmd x1 (Int32.ofInt 8), x2, Int32.ofInt 0]]))) (zmLs (zmS M 0 (Int32.ofInt 0)) 0 ((zmS M 0 (Int32.ofInt 0)).2.2.1 0 ++ [[v124 x1 (zmS M 0 (Int32.ofInt 0)), zrmd x1 (Int32.ofInt 8), x2, Int32.ofInt 0]])))) else ((r127 x1 (v125 x1 (zmLs (zmS M 0 (Int32.ofInt 0)) 0 ((zmS M 0 (Int32.ofInt 0)).2.2.1 0 ++ [[v124 x1 (zmS M 0 (Int32.ofInt 0)), zrmd x1 (Int32.ofInt 8), x2, Int32.ofInt 1]]))) (zmLs (zmS M 0 (Int32.ofInt 0)) 0 ((zmS M 0 (Int32.ofInt 0)).2.2.1 0 ++ [[v124 x1 (zmS M 0 (Int32.ofInt 0)), zrmd x1 (Int32.ofInt 8), x2, Int32.ofInt 1]])))))))
theorem gr_143 {x1 x2 x3 : Int32} : zfrM [0] [0, 1, 2, 3, 4, 5, 6, 7, 8, 9, 10, 11, 12, 13, 14, 15, 16, 17, 18, 19] [0] (r143 x1 x2 x3 M) M := by
  unfold r143
  exact (gm_ite (gm_c gr_111 (gm_c gm_S gm_rf (by decide) (by decide) (by decide)) (by decide) (by decide) (by decide)) (gm_ite (gm_c gr_111 (gm_c gm_S gm_rf (by decide) (by decide) (by decide)) (by decide) (by decide) (by decide)) (gm_ite (gm_c gr_111 (gm_c gm_S gm_rf (by decide) (by decide) (by decide)) (by decide) (by decide) (by decide)) (gm_ite (gm_c gr_127 (gm_c gm_L (gm_c gm_S gm_rf (by decide) (by decide) (by decide)) (by decide) (by decide) (by decide)) (by decide) (by decide) (by decide)) (gm_c gr_127 (gm_c gm_L (gm_c gm_S gm_rf (by decide) (by decide) (by decide)) (by decide) (by decide) (by decide)) (by decide) (by decide) (by decide))))))
def v144 (x1 : Int32) (x2 : Int32) (x3 : Int32) (M : zRt) : Int32 := if (v138 x1 (zmS M 0 (Int32.ofInt 0))) = ((0 : Int32)) then ((v111 (Int32.ofInt 1) (zmS M 0 (Int32.ofInt 0)))) else (if (v112 x2 (Int32.ofInt 0) (((zmS M 0 (Int32.ofInt 0)).1 1 + (zmS M 0 (Int32.ofInt 0)).1 2) - (Int32.ofInt 1)) (zmS M 0 (Int32.ofInt 0))) = ((0 : Int32)) then ((v111 (Int32.ofInt 2) (zmS M 0 (Int32.ofInt 0)))) else (if (v112 x3 (Int32.ofInt 1) (Int32.ofInt 60) (zmS M 0 (Int32.ofInt 0))) = ((0 : Int32)) then ((v111 (Int32.ofInt 2) (zmS M 0 (Int32.ofInt 0)))) else (if (Int32.ofNat ((zmS M 0 (Int32.ofInt 0)).2.2.1 1).length) = (Int32.ofInt 24) then ((v111 (Int32.ofInt 3) (zmS M 0 (Int32.ofInt 0)))) else ((Int32.ofNat ((zmLs (zmS M 0 (Int32.ofInt 0)) 1 ((zmS M 0 (Int32.ofInt 0)).2.2.1 1 ++ [[v124 x1 (zmS M 0 (Int32.ofInt 0)), zrmd x1 (Int32.ofInt 8), x2, x3]])).2.2.1 1).length)))))
def r144 (x1 : Int32) (x2 : Int32) (x3 : Int32) (M : zRt) : zRt := if (v138 x1 (zmS M 0 (Int32.ofInt 0))) = ((0 : Int32)) then ((r111 (Int32.ofInt 1) (zmS M 0 (Int32.ofInt 0)))) else (if (v112 x2 (Int32.ofInt 0) (((zmS M 0 (Int32.ofInt 0)).1 1 + (zmS M 0 (Int32.ofInt 0)).1 2) - (Int32.ofInt 1)) (zmS M 0 (Int32.ofInt 0))) = ((0 : Int32)) then ((r111 (Int32.ofInt 2) (zmS M 0 (Int32.ofInt 0)))) else (if (v112 x3 (Int32.ofInt 1) (Int32.ofInt 60) (zmS M 0 (Int32.ofInt 0))) = ((0 : Int32)) then ((r111 (Int32.ofInt 2) (zmS M 0 (Int32.ofInt 0)))) else (if (Int32.ofNat ((zmS M 0 (Int32.ofInt 0)).2.2.1 1).length) = (Int32.ofInt 24) then ((r111 (Int32.ofInt 3) (zmS M 0 (Int32.ofInt 0)))) else (zmLs (zmS M 0 (Int32.ofInt 0)) 1 ((zmS M 0 (Int32.ofInt 0)).2.2.1 1 ++ [[v124 x1 (zmS M 0 (Int32.ofInt 0)), zrmd x1 (Int32.ofInt 8), x2, x3]])))))
theorem gr_144 {x1 x2 x3 : Int32} : zfrM [0] [] [1] (r144 x1 x2 x3 M) M := by
  unfold r144
  exact (gm_ite (gm_c gr_111 (gm_c gm_S gm_rf (by decide) (by decide) (by decide)) (by decide) (by decide) (by decide)) (gm_ite (gm_c gr_111 (gm_c gm_S gm_rf (by decide) (by decide) (by decide)) (by decide) (by decide) (by decide)) (gm_ite (gm_c gr_111 (gm_c gm_S gm_rf (by decide) (by decide) (by decide)) (by decide) (by decide) (by decide)) (gm_ite (gm_c gr_111 (gm_c gm_S gm_rf (by decide) (by decide) (by decide)) (by decide) (by decide) (by decide)) (gm_c gm_L (gm_c gm_S gm_rf (by decide) (by decide) (by decide)) (by decide) (by decide) (by decide))))))
def d136 (M : zRt) (k : Nat) (u : zRt) : zRt := if (zgt ((zmS u 10 (zrmd ((u.1 10) + (Int32.ofInt 1)) (Int32.ofInt 128))).2.1 24) (u.1 10)) = ((0 : Int32)) then (if (zgt ((zmS u 10 (zrmd ((u.1 10) + (Int32.ofInt 1)) (Int32.ofInt 128))).2.1 25) (u.1 10)) = ((0 : Int32)) then (if (zkd (zmS u 10 (zrmd ((u.1 10) + (Int32.ofInt 1)) (Int32.ofInt 128))).2.2.2 (v125 (u.1 10) (zmS u 10 (zrmd ((u.1 10) + (Int32.ofInt 1)) (Int32.ofInt 128))))) = ((0 : Int32)) then (zmS u 10 (zrmd ((u.1 10) + (Int32.ofInt 1)) (Int32.ofInt 128))) else (if (zkd (zmS u 10 (zrmd ((u.1 10) + (Int32.ofInt 1)) (Int32.ofInt 128))).2.2.2 (v125 (u.1 10) (zmS u 10 (zrmd ((u.1 10) + (Int32.ofInt 1)) (Int32.ofInt 128))))) = (Int32.ofInt 1) then ((r127 (u.1 10) (zme (r130 (u.1 10) (zbm9 (zmS u 10 (zrmd ((u.1 10) + (Int32.ofInt 1)) (Int32.ofInt 128))).2.2.2 (v125 (u.1 10) (zmS u 10 (zrmd ((u.1 10) + (Int32.ofInt 1)) (Int32.ofInt 128))))) (zmS u 10 (zrmd ((u.1 10) + (Int32.ofInt 1)) (Int32.ofInt 128)))).2.2.2 (v125 (u.1 10) (zmS u 10 (zrmd ((u.1 10) + (Int32.ofInt 1)) (Int32.ofInt 128))))) (r130 (u.1 10) (zbm9 (zmS u 10 (zrmd ((u.1 10) + (Int32.ofInt 1)) (Int32.ofInt 128))).2.2.2 (v125 (u.1 10) (zmS u 10 (zrmd ((u.1 10) + (Int32.ofInt 1)) (Int32.ofInt 128))))) (zmS u 10 (zrmd ((u.1 10) + (Int32.ofInt 1)) (Int32.ofInt 128)))))) else (zmW (r130 (u.1 10) (zbm9 (zmS u 10 (zrmd ((u.1 10) + (Int32.ofInt 1)) (Int32.ofInt 128))).2.2.2 (v125 (u.1 10) (zmS u 10 (zrmd ((u.1 10) + (Int32.ofInt 1)) (Int32.ofInt 128))))) (zmS u 10 (zrmd ((u.1 10) + (Int32.ofInt 1)) (Int32.ofInt 128)))) 24 (u.1 10) (Int32.ofInt 1)))) else (zmS u 10 (zrmd ((u.1 10) + (Int32.ofInt 1)) (Int32.ofInt 128)))) else (zmS u 10 (zrmd ((u.1 10) + (Int32.ofInt 1)) (Int32.ofInt 128)))
def w136 (M : zRt) (u0 : zRt) : Nat → zRt
  | 0 => u0
  | k + 1 => d136 M k (w136 M u0 k)
def x136 (M : zRt) (u : zRt) : zRt := u
theorem gr_d136 {k : Nat} {u : zRt} : zfrM [10, 14, 15] [0, 1, 2, 3, 4, 5, 6, 7, 8, 9, 10, 11, 12, 13, 14, 15, 16, 17, 18, 19, 24] [2] (d136 M k u) u := by
  unfold d136
  exact (gm_ite (gm_ite (gm_ite (gm_c gm_S gm_rf (by decide) (by decide) (by decide)) (gm_ite (gm_c gr_127 (gm_c gr_130 (gm_c gm_S gm_rf (by decide) (by decide) (by decide)) (by decide) (by decide) (by decide)) (by decide) (by decide) (by decide)) (gm_c gm_W (gm_c gr_130 (gm_c gm_S gm_rf (by decide) (by decide) (by decide)) (by decide) (by decide) (by decide)) (by decide) (by decide) (by decide)))) (gm_c gm_S gm_rf (by decide) (by decide) (by decide))) (gm_c gm_S gm_rf (by decide) (by decide) (by decide)))
theorem gr_w136 {u0 : zRt} : ∀ k, zfrM [10, 14, 15] [0, 1, 2, 3, 4, 5, 6, 7, 8, 9, 10, 11, 12, 13, 14, 15, 16, 17, 18, 19, 24] [2] (w136 M u0 k) u0
  | 0 => gm_rf
  | k + 1 => gm_tr gr_d136 (gr_w136 k)
theorem kw_r136 {u0 : zRt} (k : Nat) : (w136 M u0 k).1 7 = u0.1 7 := (gr_w136 k).1 7 (by decide)
def r136  (M : zRt) : zRt := x136 M (w136 M M (M.1 7).toInt.toNat)
theorem gr_x136 {u : zRt} : zfrM [] [] [] (x136 M u) u := by
  unfold x136
  exact gm_rf
theorem gr_136 : zfrM [10, 14, 15] [0, 1, 2, 3, 4, 5, 6, 7, 8, 9, 10, 11, 12, 13, 14, 15, 16, 17, 18, 19, 24] [2] (r136 M) M := by
  unfold r136
  exact (gm_c gr_x136 (gm_c (gr_w136 _) gm_rf (by decide) (by decide) (by decide)) (by decide) (by decide) (by decide))
def t137 (k : Nat) (M : zRt) : zRt := zmW (zmW M 20 (Int32.ofNat k) (Int32.ofInt 0)) 21 (Int32.ofNat k) (M.1 4)
def w137 (M : zRt) : Nat → zRt
  | 0 => M
  | k + 1 => t137 k (w137 M k)
theorem gr_w137 : ∀ k, zfrM [] [20, 21] [] (w137 M k) M
  | 0 => gm_rf
  | k + 1 => gm_tr (show zfrM [] [20, 21] [] (t137 k (w137 M k)) (w137 M k) from (gm_c gm_W (gm_c gm_W gm_rf (by decide) (by decide) (by decide)) (by decide) (by decide) (by decide))) (gr_w137 k)
def q137 (M : zRt) : zRt := if zrmd (M.1 4) (M.1 5) = 0 then w137 M 20 else M
def r137 (M : zRt) : zRt := r136 (q137 (r135 (zmS M 4 (M.1 4 + Int32.ofInt 1))))
theorem gr_q137 : zfrM [] [20, 21] [] (q137 M) M := by
  unfold q137
  exact gm_ite (gr_w137 _) gm_rf
theorem gr_137 : zfrM [4, 10, 14, 15] [0, 1, 2, 3, 4, 5, 6, 7, 8, 9, 10, 11, 12, 13, 14, 15, 16, 17, 18, 19, 20, 21, 24] [2] (r137 M) M := (gm_c gr_136 (gm_c gr_q137 (gm_c gr_135 (gm_c gm_S gm_rf (by decide) (by decide) (by decide)) (by decide) (by decide) (by decide)) (by decide) (by decide) (by decide)) (by decide) (by decide) (by decide))
def d150 (x1 : Int32) (M : zRt) (k : Nat) (u : zRt) : zRt := (r137 u)
def w150 (x1 : Int32) (M : zRt) (u0 : zRt) : Nat → zRt
  | 0 => u0
  | k + 1 => d150 x1 M k (w150 x1 M u0 k)
def y150 (x1 : Int32) (M : zRt) (u : zRt) : Int32 := (u.1 4)
def x150 (x1 : Int32) (M : zRt) (u : zRt) : zRt := u
theorem gr_d150 {x1 : Int32} {k : Nat} {u : zRt} : zfrM [4, 10, 14, 15] [0, 1, 2, 3, 4, 5, 6, 7, 8, 9, 10, 11, 12, 13, 14, 15, 16, 17, 18, 19, 20, 21, 24] [2] (d150 x1 M k u) u := by
  unfold d150
  exact (gm_c gr_137 gm_rf (by decide) (by decide) (by decide))
theorem gr_w150 {x1 : Int32} {u0 : zRt} : ∀ k, zfrM [4, 10, 14, 15] [0, 1, 2, 3, 4, 5, 6, 7, 8, 9, 10, 11, 12, 13, 14, 15, 16, 17, 18, 19, 20, 21, 24] [2] (w150 x1 M u0 k) u0
  | 0 => gm_rf
  | k + 1 => gm_tr gr_d150 (gr_w150 k)
def v150 (x1 : Int32) (M : zRt) : Int32 := if (v112 x1 (Int32.ofInt 1) (Int32.ofInt 100) (zmS M 0 (Int32.ofInt 0))) = ((0 : Int32)) then ((v111 (Int32.ofInt 1) (zmS M 0 (Int32.ofInt 0)))) else (if (Int32.ofInt 2000).toInt < (((zmS M 0 (Int32.ofInt 0)).1 4) + x1).toInt then ((v111 (Int32.ofInt 2) (zmS M 0 (Int32.ofInt 0)))) else (y150 x1 M (w150 x1 M (zmS M 0 (Int32.ofInt 0)) (x1).toInt.toNat)))
def r150 (x1 : Int32) (M : zRt) : zRt := if (v112 x1 (Int32.ofInt 1) (Int32.ofInt 100) (zmS M 0 (Int32.ofInt 0))) = ((0 : Int32)) then ((r111 (Int32.ofInt 1) (zmS M 0 (Int32.ofInt 0)))) else (if (Int32.ofInt 2000).toInt < (((zmS M 0 (Int32.ofInt 0)).1 4) + x1).toInt then ((r111 (Int32.ofInt 2) (zmS M 0 (Int32.ofInt 0)))) else (x150 x1 M (w150 x1 M (zmS M 0 (Int32.ofInt 0)) (x1).toInt.toNat)))
theorem gr_x150 {x1 : Int32} {u : zRt} : zfrM [] [] [] (x150 x1 M u) u := by
  unfold x150
  exact gm_rf
theorem gr_150 {x1 : Int32} : zfrM [0, 4, 10, 14, 15] [0, 1, 2, 3, 4, 5, 6, 7, 8, 9, 10, 11, 12, 13, 14, 15, 16, 17, 18, 19, 20, 21, 24] [2] (r150 x1 M) M := by
  unfold r150
  exact (gm_ite (gm_c gr_111 (gm_c gm_S gm_rf (by decide) (by decide) (by decide)) (by decide) (by decide) (by decide)) (gm_ite (gm_c gr_111 (gm_c gm_S gm_rf (by decide) (by decide) (by decide)) (by decide) (by decide) (by decide)) (gm_c gr_x150 (gm_c (gr_w150 _) (gm_c gm_S gm_rf (by decide) (by decide) (by decide)) (by decide) (by decide) (by decide)) (by decide) (by decide) (by decide))))
def v151 (M : zRt) : Int32 := Int32.ofNat (M.2.2.1 2).length
def r151 (M : zRt) : zRt := zmLs (zmS M 0 (Int32.ofInt 0)) 2 []
theorem gr_151 : zfrM [0] [] [2] (r151 M) M := (gm_c gm_L (gm_c gm_S gm_rf (by decide) (by decide) (by decide)) (by decide) (by decide) (by decide))
def v171 (x1 : Int32) (M : zRt) : Int32 := if (M.1 8) = ((0 : Int32)) then (if (M.1 9) = ((0 : Int32)) then ((zgt [M.1 4, M.1 1, M.1 2, M.1 5, M.1 6, M.1 7, Int32.ofInt 0, Int32.ofInt 0, M.1 10, Int32.ofNat (M.2.2.1 2).length, M.1 14, M.1 15, v149_71 M, v149_72 M, Int32.ofNat (M.2.2.1 0).length, Int32.ofNat (M.2.2.1 1).length, M.1 12, M.1 13] x1)) else ((zgt [M.1 4, M.1 1, M.1 2, M.1 5, M.1 6, M.1 7, Int32.ofInt 0, Int32.ofInt 1, M.1 10, Int32.ofNat (M.2.2.1 2).length, M.1 14, M.1 15, v149_71 M, v149_72 M, Int32.ofNat (M.2.2.1 0).length, Int32.ofNat (M.2.2.1 1).length, M.1 12, M.1 13] x1))) else (if (M.1 9) = ((0 : Int32)) then ((zgt [M.1 4, M.1 1, M.1 2, M.1 5, M.1 6, M.1 7, Int32.ofInt 1, Int32.ofInt 0, M.1 10, Int32.ofNat (M.2.2.1 2).length, M.1 14, M.1 15, v149_71 M, v149_72 M, Int32.ofNat (M.2.2.1 0).length, Int32.ofNat (M.2.2.1 1).length, M.1 12, M.1 13] x1)) else ((zgt [M.1 4, M.1 1, M.1 2, M.1 5, M.1 6, M.1 7, Int32.ofInt 1, Int32.ofInt 1, M.1 10, Int32.ofNat (M.2.2.1 2).length, M.1 14, M.1 15, v149_71 M, v149_72 M, Int32.ofNat (M.2.2.1 0).length, Int32.ofNat (M.2.2.1 1).length, M.1 12, M.1 13] x1)))
def v172 (x1 : Int32) (M : zRt) : Int32 := if (v112 x1 (Int32.ofInt 0) (Int32.ofInt 17) (zmS M 0 (Int32.ofInt 0))) = ((0 : Int32)) then ((v111 (Int32.ofInt 1) (zmS M 0 (Int32.ofInt 0)))) else ((v171 x1 (zmS M 0 (Int32.ofInt 0))))
def r172 (x1 : Int32) (M : zRt) : zRt := if (v112 x1 (Int32.ofInt 0) (Int32.ofInt 17) (zmS M 0 (Int32.ofInt 0))) = ((0 : Int32)) then ((r111 (Int32.ofInt 1) (zmS M 0 (Int32.ofInt 0)))) else (zmS M 0 (Int32.ofInt 0))
theorem gr_172 {x1 : Int32} : zfrM [0] [] [] (r172 x1 M) M := by
  unfold r172
  exact (gm_ite (gm_c gr_111 (gm_c gm_S gm_rf (by decide) (by decide) (by decide)) (by decide) (by decide) (by decide)) (gm_c gm_S gm_rf (by decide) (by decide) (by decide)))
theorem rl_172 {x1 : Int32} : (r172 x1 M).2.2 = M.2.2 := gm_l gr_172
end ZRE
