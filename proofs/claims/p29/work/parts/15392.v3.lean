/-! The reference's methods, word for word. Written by wip/v3/genref.py. -/
/-- ints, rows, lists and columns of the reference -/
abbrev zRt : Type := (Nat → Int32) × (Nat → List Int32) × (Nat → List (List Int32)) × List Int32
/-- where the lists and the columns lie, the lists' elements, the cells from 73 on -/
abbrev zXt : Type := (Nat → Nat) × (Nat → List Nat) × zH
abbrev zmS (M : zRt) (k : Nat) (v : Int32) : zRt := (zup M.1 k v, M.2)
abbrev zmW (M : zRt) (k : Nat) (j v : Int32) : zRt := (M.1, zup M.2.1 k (zst (M.2.1 k) j v), M.2.2)
def zmR (M : zRt) (i j v : Int32) : zRt := if i.toNatClampNeg < 20 then (M.1, zup M.2.1 i.toNatClampNeg (zst (M.2.1 i.toNatClampNeg) j v), M.2.2) else M
def zM (M : zRt) (X : zXt) : zH :=
  (7, [.int (M.1 0), .int (M.1 1), .int (M.1 2), .ref (X.1 9), .int (M.1 4), .int (M.1 5), .int (M.1 6), .int (M.1 7), .int (M.1 8), .int (M.1 9), .int (M.1 10), .int (M.1 11), .int (M.1 12), .int (M.1 13), .int (M.1 14), .int (M.1 15), .ref 46, .ref 67, .ref 68, .ref 69, .ref 70, .ref 71, .ref 72, .ref (X.1 0), .ref (X.1 1), .ref (X.1 2)]) ::
  (100, []) :: (104, (List.range 20).map (fun j => .ref (47 + j))) ::
  zar (M.2.1 0) :: zar (M.2.1 1) :: zar (M.2.1 2) :: zar (M.2.1 3) :: zar (M.2.1 4) :: zar (M.2.1 5) :: zar (M.2.1 6) :: zar (M.2.1 7) :: zar (M.2.1 8) :: zar (M.2.1 9) ::
  zar (M.2.1 10) :: zar (M.2.1 11) :: zar (M.2.1 12) :: zar (M.2.1 13) :: zar (M.2.1 14) :: zar (M.2.1 15) :: zar (M.2.1 16) :: zar (M.2.1 17) :: zar (M.2.1 18) :: zar (M.2.1 19) ::
  zar (M.2.1 20) :: zar (M.2.1 21) :: zar (M.2.1 22) :: zar (M.2.1 23) :: (101, (M.2.1 24).map Value.int) :: (101, (M.2.1 25).map Value.int) :: X.2.2
abbrev zy (S : zSt) (M : zRt) (X : zXt) : zH := zx S.1 S.2 (zM M X)
def zfX (X : zXt) : zH := List.replicate 73 (0, []) ++ X.2.2
def zel (X : zXt) (i : Nat) (j : Int32) : Nat := (X.2.1 i).getD j.toNatClampNeg 0
def zge (l : List (List Int32)) (j k : Int32) : Int32 := zgt (l.getD j.toNatClampNeg []) k
/-- how long a list may be -/
def zlm (i : Nat) : Nat := if i = 2 then 40 else 24
theorem zlm_le (i : Nat) : zlm i ≤ 40 := by
  unfold zlm
  split <;> omega
def zUN (n : Nat) (kq : Nat × Nat × List Value) (X : zXt) (L : (Nat → List (List Int32)) × List Int32) : Prop :=
  (∃ dq : Nat → Option Nat, ∀ i, i < n → 73 ≤ X.1 i ∧ zLs (zfX X) (X.1 i) (dq i) (X.2.1 i) ∧ (∀ q, dq i = some q → 73 ≤ q) ∧ ∀ j, j < n → j ≠ i → X.1 j ≠ X.1 i ∧ ∀ q, dq i = some q → dq j ≠ some q) ∧
  (∀ i, i < n → (X.2.1 i).length = (L.1 i).length ∧ (L.1 i).length ≤ zlm i ∧ ∀ (k : Nat) (l : List Int32), (L.1 i)[k]? = some l → ∃ e, (X.2.1 i)[k]? = some e ∧ 73 ≤ e ∧ (zfX X)[e]? = some (zar l)) ∧
  (73 ≤ X.1 9 ∧ (zfX X)[X.1 9]? = some (zar L.2) ∧ L.2.length ≤ 16) ∧ 73 ≤ kq.1 ∧ (zfX X)[kq.1]? = some kq.2 ∧ kq.2.1 = 6
abbrev zUX (kq : Nat × Nat × List Value) (X : zXt) (L : (Nat → List (List Int32)) × List Int32) : Prop := zUN 3 kq X L
section ZRA
variable {S0 : zSt} {M : zRt} {X : zXt} {kq : Nat × Nat × List Value} {xs : List Int32} {N : Nat} {nc ns : Nat}
theorem zy_ge {k : Nat} (hk : 73 ≤ k) : (zy S0 M X)[k]? = (zfX X)[k]? := by
  have e : zy S0 M X = (zx S0.1 S0.2 ((zM M (X.1, X.2.1, [])))) ++ X.2.2 := rfl
  have l : (zx S0.1 S0.2 ((zM M (X.1, X.2.1, [])))).length = 73 := rfl
  have l2 : (List.replicate 73 ((0 : Nat), ([] : List Value))).length = 73 := rfl
  rw [e, List.getElem?_append_right (by rw [l]; exact hk), l]
  show _ = (List.replicate 73 _ ++ X.2.2)[k]?
  rw [List.getElem?_append_right (by rw [l2]; exact hk), l2]
theorem zy_row {i : Nat} (hi : i < 20) : (zy S0 M X)[47 + i]? = some (100, (M.2.1 i).map Value.int) := by
  match i, hi with
  | 0, _ => rfl
  | 1, _ => rfl
  | 2, _ => rfl
  | 3, _ => rfl
  | 4, _ => rfl
  | 5, _ => rfl
  | 6, _ => rfl
  | 7, _ => rfl
  | 8, _ => rfl
  | 9, _ => rfl
  | 10, _ => rfl
  | 11, _ => rfl
  | 12, _ => rfl
  | 13, _ => rfl
  | 14, _ => rfl
  | 15, _ => rfl
  | 16, _ => rfl
  | 17, _ => rfl
  | 18, _ => rfl
  | 19, _ => rfl
  | i + 20, h => omega
theorem zy_set {i : Nat} {l : List Int32} (hi : i < 20) : (zy S0 M X).set (47 + i) (100, l.map Value.int) = zy S0 (M.1, zup M.2.1 i l, M.2.2) X := by
  match i, hi with
  | 0, _ => rfl
  | 1, _ => rfl
  | 2, _ => rfl
  | 3, _ => rfl
  | 4, _ => rfl
  | 5, _ => rfl
  | 6, _ => rfl
  | 7, _ => rfl
  | 8, _ => rfl
  | 9, _ => rfl
  | 10, _ => rfl
  | 11, _ => rfl
  | 12, _ => rfl
  | 13, _ => rfl
  | 14, _ => rfl
  | 15, _ => rfl
  | 16, _ => rfl
  | 17, _ => rfl
  | 18, _ => rfl
  | 19, _ => rfl
  | i + 20, h => omega
theorem zy_g67 : (zy S0 M X)[67]? = some (100, (M.2.1 20).map Value.int) := rfl
theorem zy_s67 {j v : Int32} : (zy S0 M X).set 67 (100, (zst (M.2.1 20) j v).map Value.int) = zy S0 (zmW M 20 j v) X := rfl
theorem zy_g68 : (zy S0 M X)[68]? = some (100, (M.2.1 21).map Value.int) := rfl
theorem zy_s68 {j v : Int32} : (zy S0 M X).set 68 (100, (zst (M.2.1 21) j v).map Value.int) = zy S0 (zmW M 21 j v) X := rfl
theorem zy_g69 : (zy S0 M X)[69]? = some (100, (M.2.1 22).map Value.int) := rfl
theorem zy_s69 {j v : Int32} : (zy S0 M X).set 69 (100, (zst (M.2.1 22) j v).map Value.int) = zy S0 (zmW M 22 j v) X := rfl
theorem zy_g70 : (zy S0 M X)[70]? = some (100, (M.2.1 23).map Value.int) := rfl
theorem zy_s70 {j v : Int32} : (zy S0 M X).set 70 (100, (zst (M.2.1 23) j v).map Value.int) = zy S0 (zmW M 23 j v) X := rfl
theorem zy_g71 : (zy S0 M X)[71]? = some (101, (M.2.1 24).map Value.int) := rfl
theorem zy_s71 {j v : Int32} : (zy S0 M X).set 71 (101, (zst (M.2.1 24) j v).map Value.int) = zy S0 (zmW M 24 j v) X := rfl
theorem zy_g72 : (zy S0 M X)[72]? = some (101, (M.2.1 25).map Value.int) := rfl
theorem zy_s72 {j v : Int32} : (zy S0 M X).set 72 (101, (zst (M.2.1 25) j v).map Value.int) = zy S0 (zmW M 25 j v) X := rfl
theorem zy_setrow {i j v : Int32} (hi : i.toNatClampNeg < 20) : (zy S0 M X).set (47 + i.toNatClampNeg) (100, (zst (M.2.1 i.toNatClampNeg) j v).map Value.int) = zy S0 (zmR M i j v) X := by
  rw [zy_set hi]
  unfold zmR
  rw [if_pos hi]
theorem zUX_e {n i : Nat} {j : Int32} (hX : zUN n kq X M.2.2) (h : ¬ j < 0 ∧ j.toNatClampNeg < (M.2.2.1 i).length) (hi : i < n := by decide) : (zy S0 M X)[zel X i j]? = some (100, ((M.2.2.1 i).getD j.toNatClampNeg []).map Value.int) := by
  obtain ⟨-, k, -⟩ := hX
  obtain ⟨a, b, c⟩ := k i hi
  obtain ⟨e, e1, e2, e3⟩ := c j.toNatClampNeg _ (List.getElem?_eq_getElem h.2)
  have z : zel X i j = e := by
    unfold zel
    rw [List.getD_eq_getElem?_getD, e1]
    rfl
  rw [z, zy_ge e2, e3, List.getD_eq_getElem?_getD, List.getElem?_eq_getElem h.2]
  rfl
theorem zUX_c {n : Nat} (hX : zUN n kq X M.2.2) : (zy S0 M X)[X.1 9]? = some (100, M.2.2.2.map Value.int) := by
  rw [zy_ge hX.2.2.1.1]
  exact hX.2.2.1.2.1
/-- a list's cells, in the whole heap -/
theorem zLs_k {h h' : zH} {r : Nat} {dq : Option Nat} {es : List Nat} (hh : ∀ k, 73 ≤ k → h'[k]? = h[k]?) (hr : 73 ≤ r) (hd : ∀ q, dq = some q → 73 ≤ q) (g : zLs h r dq es) : zLs h' r dq es := by
  obtain ⟨m, g⟩ := g
  refine ⟨m, ?_⟩
  cases dq with
  | none => exact ⟨g.1, (hh r hr).trans g.2⟩
  | some q =>
    obtain ⟨vs, a, b, c⟩ := g
    exact ⟨vs, (hh r hr).trans a, (hh q (hd q rfl)).trans b, c⟩
theorem zul_ls {n i : Nat} (hi : i < n) (hX : zUN n kq X M.2.2) : ∃ dq, zLs (zy S0 M X) (X.1 i) dq (X.2.1 i) := by
  obtain ⟨⟨dq, k⟩, -⟩ := hX
  obtain ⟨a, b, c, -⟩ := k i hi
  exact ⟨dq i, zLs_k (fun k hk => zy_ge hk) a c b⟩
theorem zUX_lc {n i : Nat} (hi : i < n) (hX : zUN n kq X M.2.2) : ∃ vs, (zy S0 M X)[X.1 i]? = some (10, vs) := by
  obtain ⟨dq, g⟩ := zul_ls (S0 := S0) hi hX
  obtain ⟨a, b, z⟩ := zLs_size g
  exact ⟨_, z⟩
theorem zul_243 {n i : Nat} (hi : i < n) (hX : zUN n kq X M.2.2) : zpM xs N 243 [.ref (X.1 i)] (zy S0 M X) nc ns (fun o => o = (.inl (some (.int (Int32.ofNat (M.2.2.1 i).length))), zy S0 M X, nc, ns)) := by
  obtain ⟨dq, g⟩ := zul_ls (S0 := S0) hi hX
  rw [← (hX.2.1 i hi).1]
  exact zpM_of (m_243 (D := 0) g)
theorem zul_239 {n i : Nat} {j : Int32} (hi : i < n) (hX : zUN n kq X M.2.2) (h : ¬ j < 0 ∧ j.toNatClampNeg < (M.2.2.1 i).length) : zpM xs N 239 [.ref (X.1 i), .int j] (zy S0 M X) nc ns (fun o => o = (.inl (some (.ref (zel X i j))), zy S0 M X, nc, ns)) := by
  obtain ⟨dq, g⟩ := zul_ls (S0 := S0) hi hX
  obtain ⟨k1, k2, -⟩ := hX.2.1 i hi
  have hj0 : 0 ≤ j.toInt := by
    have := h.1
    rw [Int32.lt_iff_toInt_lt, show (0 : Int32).toInt = 0 from by decide] at this
    omega
  have hjn : j.toNatClampNeg < (X.2.1 i).length := by rw [k1]; exact h.2
  have e0 : j.toNatClampNeg = j.toInt.toNat := rfl
  have h1 : j.toInt < (X.2.1 i).length := by omega
  obtain ⟨m, g⟩ := g
  cases dq with
  | none =>
    obtain ⟨z, -⟩ := g
    rw [z] at hjn
    exact absurd hjn (Nat.not_lt_zero _)
  | some q =>
    obtain ⟨vs, a1, a2, a3, a4, a5⟩ := g
    have he : (X.2.1 i)[j.toNatClampNeg]? = some (zel X i j) := by
      unfold zel
      rw [List.getD_eq_getElem?_getD, List.getElem?_eq_getElem hjn]
      rfl
    have hv : vs[j.toNatClampNeg]? = some (.ref (zel X i j)) := by
      have z : (vs.take (X.2.1 i).length)[j.toNatClampNeg]? = ((X.2.1 i).map Value.ref)[j.toNatClampNeg]? := by rw [a5]
      rw [List.getElem?_take, if_pos hjn, List.getElem?_map, he] at z
      exact z
    refine zpM_of (D := 2) ⟨_, rfl, ?_⟩
    refine zEs_run 2 rfl ?_
    refine zEs_get rfl a1 rfl rfl ?_
    refine zEs_callG rfl rfl (m_217 (D := 0) (by omega) hj0 h1) (fun v h9 nc1 ns1 q => ?_) (fun E h9 nc1 ns1 q => by cases q)
    cases q
    refine zEs_run 3 rfl ?_
    have key : zMs xs 1 238 [.ref (X.1 i), .int j] (zy S0 M X) nc ns (fun o => o = (.inl (some (.ref (zel X i j))), zy S0 M X, nc, ns)) := by
      refine ⟨_, rfl, ?_⟩
      refine zEs_run 1 rfl ?_
      refine zEs_get rfl a1 rfl rfl ?_
      refine zEs_run 1 rfl ?_
      refine zEs_aald rfl a2 (Or.inl rfl) h.1 hv ?_
      exact zEs_end rfl rfl rfl
    refine zEs_callG rfl (show zcallV 1 10 238 14 [.int j, .ref (X.1 i)] (zy S0 M X) = _ from zcallV_eq rfl a1 (by decide)) key (fun v h9 nc1 ns1 q => ?_) (fun E h9 nc1 ns1 q => by cases q)
    cases q
    exact zEs_end rfl rfl rfl
/-- an index of a loop over a list -/
theorem zlp_rg {n i k : Nat} (hi : i < n) (hX : zUN n kq X M.2.2) (h : (Int32.ofNat k).toInt < (Int32.ofNat (M.2.2.1 i).length).toInt) (hk : k ≤ (Int32.ofNat (M.2.2.1 i).length).toInt.toNat) : ¬ Int32.ofNat k < 0 ∧ (Int32.ofNat k).toNatClampNeg < (M.2.2.1 i).length := by
  have hl := Nat.le_trans (hX.2.1 i hi).2.1 (zlm_le i)
  have e1 := zofI (a := (M.2.2.1 i).length) (by omega)
  rw [e1] at hk h
  have hk9 : k < 2147483648 := by omega
  rw [zofI hk9] at h
  refine ⟨fun z => ?_, ?_⟩
  · rw [Int32.lt_iff_toInt_lt, zofI hk9, show (0 : Int32).toInt = 0 from by decide] at z
    omega
  · rw [zcl_of hk9]
    omega
end ZRA
section ZRB
variable {xs : List Int32} {N D y pc nx k yy m c : Nat} {L : zL} {st : List Value} {h : zH} {nc ns : Nat} {P : zO → Prop}
theorem zpE_aly {j : Int32} {a : Nat} {l : List Int32} {r : List Value} (h1 : zat (zmc y) pc = some (.iaload, nx, k, yy, m, c)) (ha : h[a]? = some (100, l.map Value.int)) (g : ¬ j < 0 → j.toNatClampNeg < l.length → zpE xs N y nx L (.int (zgt l j) :: r) h nc ns P) : zpE xs N y pc L (.int j :: .ref a :: r) h nc ns P :=
  zpE_ald h1 ha (fun v hj hv => by
    have e : zgt l j = v := by
      unfold zgt
      rw [if_neg hj, List.getD_eq_getElem?_getD, hv]
      rfl
    rw [← e]
    exact g hj (List.getElem?_eq_some_iff.mp hv).1)
theorem zpE_bly {j : Int32} {a : Nat} {l : List Int32} {r : List Value} (h1 : zat (zmc y) pc = some (.baload, nx, 101, yy, m, c)) (ha : h[a]? = some (101, l.map Value.int)) (g : ¬ j < 0 → j.toNatClampNeg < l.length → zpE xs N y nx L (.int (zgt l j) :: r) h nc ns P) : zpE xs N y pc L (.int j :: .ref a :: r) h nc ns P := by
  have en : zstep zcf xs pc .baload nx 101 yy m c L (.int j :: .ref a :: r) h = match l[j.toNatClampNeg]? with
      | some v => if j < 0 then none else zgo nx L (.int v :: r) h
      | none => none := by
    show zald 101 nx L (.int j :: .ref a :: r) h = _
    unfold zald
    dsimp only
    rw [ha]
    dsimp only
    rw [if_pos rfl, List.getElem?_map]
    cases l[j.toNatClampNeg]? <;> rfl
  cases hv : l[j.toNatClampNeg]? with
  | none =>
    rw [hv] at en
    refine zpE_le (Nat.le_succ _) (zpE_st1 h1 (fun pc' L' st' h' dc ds e => ?_) (fun r9 e => ?_)) <;> (rw [en] at e; cases e)
  | some v =>
    rw [hv] at en
    dsimp only at en
    by_cases hj : j < 0
    · refine zpE_le (Nat.le_succ _) (zpE_st1 h1 (fun pc' L' st' h' dc ds e => ?_) (fun r9 e => ?_)) <;> (rw [en, if_pos hj] at e; cases e)
    · have e : zgt l j = v := by
        unfold zgt
        rw [if_neg hj, List.getD_eq_getElem?_getD, hv]
        rfl
      rw [if_neg hj] at en
      refine zpE_step (dc := 0) (ds := 0) h1 en ?_
      rw [← e]
      exact g hj (List.getElem?_eq_some_iff.mp hv).1
theorem zst_in {l : List Int32} {j v : Int32} (hj : ¬ j < 0) : zst l j v = l.set j.toNatClampNeg v := by
  unfold zst
  rw [if_neg hj]
theorem zpE_asy {j v : Int32} {a : Nat} {l : List Int32} {r : List Value} {h' : zH} (h1 : zat (zmc y) pc = some (.iastore, nx, k, yy, m, c)) (ha : h[a]? = some (100, l.map Value.int)) (he : h.set a (100, (zst l j v).map Value.int) = h') (g : ¬ j < 0 → j.toNatClampNeg < l.length → zpE xs N y nx L r h' nc ns P) : zpE xs N y pc L (.int v :: .int j :: .ref a :: r) h nc ns P := by
  have en : zstep zcf xs pc .iastore nx k yy m c L (.int v :: .int j :: .ref a :: r) h = if j < 0 then none else if j.toNatClampNeg < (l.map Value.int).length then zgo nx L r (h.set a (100, (l.map Value.int).set j.toNatClampNeg (.int v))) else none := by
    show zast 100 some nx L (.int v :: .int j :: .ref a :: r) h = _
    unfold zast
    dsimp only
    rw [ha]
    dsimp only
    rw [if_pos rfl]
  by_cases hj : j < 0
  · refine zpE_le (Nat.le_succ _) (zpE_st1 h1 (fun pc' L' st' h' dc ds e => ?_) (fun r9 e => ?_)) <;> (rw [en, if_pos hj] at e; cases e)
  · by_cases hl : j.toNatClampNeg < l.length
    · refine zpE_step (dc := 0) (ds := 0) h1 (by rw [en, if_neg hj, if_pos (by rw [List.length_map]; exact hl)]; rfl) ?_
      rw [← List.map_set, ← zst_in hj, he]
      exact g hj hl
    · refine zpE_le (Nat.le_succ _) (zpE_st1 h1 (fun pc' L' st' h' dc ds e => ?_) (fun r9 e => ?_)) <;> (rw [en, if_neg hj, if_neg (by rw [List.length_map]; exact hl)] at e; cases e)
theorem zpE_bsy {j v : Int32} {a : Nat} {l : List Int32} {r : List Value} {h' : zH} (h1 : zat (zmc y) pc = some (.bastore, nx, 101, yy, m, c)) (ha : h[a]? = some (101, l.map Value.int)) (he : h.set a (101, (zst l j v).map Value.int) = h') (g : ¬ j < 0 → j.toNatClampNeg < l.length → (v = 0 ∨ v = 1) → zpE xs N y nx L r h' nc ns P) : zpE xs N y pc L (.int v :: .int j :: .ref a :: r) h nc ns P := by
  have en : zstep zcf xs pc .bastore nx 101 yy m c L (.int v :: .int j :: .ref a :: r) h = if j < 0 then none else if j.toNatClampNeg < (l.map Value.int).length then match (if v = 0 ∨ v = 1 then some v else none) with
      | some w => zgo nx L r (h.set a (101, (l.map Value.int).set j.toNatClampNeg (.int w)))
      | none => none else none := by
    show zast 101 (fun x => if x = 0 ∨ x = 1 then some x else none) nx L (.int v :: .int j :: .ref a :: r) h = _
    unfold zast
    dsimp only
    rw [ha]
    dsimp only
    rw [if_pos rfl]
    rfl
  by_cases hj : j < 0
  · refine zpE_le (Nat.le_succ _) (zpE_st1 h1 (fun pc' L' st' h' dc ds e => ?_) (fun r9 e => ?_)) <;> (rw [en, if_pos hj] at e; cases e)
  · by_cases hl : j.toNatClampNeg < l.length
    · by_cases hv : v = 0 ∨ v = 1
      · refine zpE_step (dc := 0) (ds := 0) h1 (by rw [en, if_neg hj, if_pos (by rw [List.length_map]; exact hl), if_pos hv]; rfl) ?_
        rw [← List.map_set, ← zst_in hj, he]
        exact g hj hl hv
      · refine zpE_le (Nat.le_succ _) (zpE_st1 h1 (fun pc' L' st' h' dc ds e => ?_) (fun r9 e => ?_)) <;> (rw [en, if_neg hj, if_pos (by rw [List.length_map]; exact hl), if_neg hv] at e; cases e)
    · refine zpE_le (Nat.le_succ _) (zpE_st1 h1 (fun pc' L' st' h' dc ds e => ?_) (fun r9 e => ?_)) <;> (rw [en, if_neg hj, if_neg (by rw [List.length_map]; exact hl)] at e; cases e)
theorem zpE_aaw {j : Int32} {a : Nat} {r : List Value} (h1 : zat (zmc y) pc = some (.aaload, nx, k, yy, m, c)) (ha : h[a]? = some (104, (List.range 20).map (fun j => .ref (47 + j)))) (g : ¬ j < 0 → j.toNatClampNeg < 20 → zpE xs N y nx L (.ref (47 + j.toNatClampNeg) :: r) h nc ns P) : zpE xs N y pc L (.int j :: .ref a :: r) h nc ns P := by
  have en : zstep zcf xs pc .aaload nx k yy m c L (.int j :: .ref a :: r) h = match ((List.range 20).map (fun j => Value.ref (47 + j)))[j.toNatClampNeg]? with
      | some v => if j < 0 then none else zgo nx L (v :: r) h
      | none => none := by
    show zaald nx L (.int j :: .ref a :: r) h = _
    unfold zaald
    dsimp only
    rw [ha]
    dsimp only
    rw [if_pos (Or.inr rfl)]
    rfl
  by_cases hl : j.toNatClampNeg < 20
  · have hv : ((List.range 20).map (fun j => Value.ref (47 + j)))[j.toNatClampNeg]? = some (.ref (47 + j.toNatClampNeg)) := by
      rw [List.getElem?_map, List.getElem?_range hl]
      rfl
    rw [hv] at en
    dsimp only at en
    by_cases hj : j < 0
    · refine zpE_le (Nat.le_succ _) (zpE_st1 h1 (fun pc' L' st' h' dc ds e => ?_) (fun r9 e => ?_)) <;> (rw [en, if_pos hj] at e; cases e)
    · rw [if_neg hj] at en
      exact zpE_step (dc := 0) (ds := 0) h1 en (g hj hl)
  · have hv : ((List.range 20).map (fun j => Value.ref (47 + j)))[j.toNatClampNeg]? = none := List.getElem?_eq_none (by simp; omega)
    rw [hv] at en
    refine zpE_le (Nat.le_succ _) (zpE_st1 h1 (fun pc' L' st' h' dc ds e => ?_) (fun r9 e => ?_)) <;> (rw [en] at e; cases e)
theorem zpE_chk {a : Nat} {r : List Value} {vs : List Value} (h1 : zat (zmc y) pc = some (.checkcast m, nx, 100, yy, k, c)) (ha : h[a]? = some (100, vs)) (g9 : zpE xs N y nx L (.ref a :: r) h nc ns P) : zpE xs N y pc L (.ref a :: r) h nc ns P := by
  refine zpE_step (dc := 0) (ds := 0) h1 ?_ g9
  show zchk 100 nx L (.ref a :: r) h = _
  unfold zchk
  dsimp only
  rw [ha]
  exact if_pos rfl
theorem zpE_gen (g : ∀ nc ns : Nat, zpE xs N y pc L st h nc ns P) : zpE xs N y pc L st h nc ns P := g nc ns
theorem zpE_retb {v : Int32} (h1 : zat (zmc y) pc = some (.ireturn, nx, 1, yy, m, c)) (g : v = 0 ∨ v = 1 → P (.inl (some (.int v)), h, nc, ns)) : zpE xs N y pc L [.int v] h nc ns P := by
  have en : zstep zcf xs pc .ireturn nx 1 yy m c L [.int v] h = if (1 : Nat) = 0 ∨ ((1 : Nat) = 1 ∧ (v = 0 ∨ v = 1)) ∨ ((1 : Nat) = 2 ∧ 0 ≤ v ∧ v ≤ 255) then zret (some (.int v)) else none := rfl
  by_cases hv : v = 0 ∨ v = 1
  · rw [if_pos (Or.inr (Or.inl ⟨rfl, hv⟩))] at en
    exact zpE_end (dc := 0) (ds := 0) h1 en (g hv)
  · rw [if_neg (fun z => by
      rcases z with z | ⟨-, z⟩ | ⟨z, -⟩
      · exact absurd z (by decide)
      · exact hv z
      · exact absurd z (by decide))] at en
    refine zpE_le (Nat.le_succ _) (zpE_st1 h1 (fun pc' L' st' h' dc ds e => ?_) (fun r9 e => ?_)) <;> (rw [en] at e; cases e)
end ZRB
section ZRC1
variable {S0 : zSt} {M M' R : zRt} {X : zXt} {kq : Nat × Nat × List Value} {xs : List Int32} {N : Nat} {nc ns : Nat} {r : Option Value ⊕ Nat} {V v : Int32}
theorem zOr_f (e : R = M') : zOq r (zy S0 R X) (r, zy S0 M' X, nc, ns) := by
  subst e
  exact ⟨rfl, rfl⟩
theorem zOr_w (e1 : V = v) (e : R = M') : zOq (.inl (some (.int V))) (zy S0 R X) (.inl (some (.int v)), zy S0 M' X, nc, ns) := by
  subst e
  subst e1
  exact ⟨rfl, rfl⟩
theorem zOx_f (hX : zUX kq X M'.2.2) (e : R = M') : ∃ X', zUX kq X' R.2.2 ∧ zOq r (zy S0 R X') (r, zy S0 M' X, nc, ns) := by
  subst e
  exact ⟨X, hX, rfl, rfl⟩
theorem zOx_w (hX : zUX kq X M'.2.2) (e1 : V = v) (e : R = M') : ∃ X', zUX kq X' R.2.2 ∧ zOq (.inl (some (.int V))) (zy S0 R X') (.inl (some (.int v)), zy S0 M' X, nc, ns) := by
  subst e
  subst e1
  exact ⟨X, hX, rfl, rfl⟩
end ZRC1
section ZRL
variable {S0 : zSt} {M : zRt} {X : zXt} {kq : Nat × Nat × List Value} {xs : List Int32} {N n : Nat} {nc ns : Nat}
theorem zup_s {α : Type} {f : Nat → α} {k : Nat} {v : α} : zup f k v k = v := if_pos rfl
theorem zup_n {α : Type} {f : Nat → α} {k j : Nat} {v : α} (h : j ≠ k) : zup f k v j = f j := if_neg h
abbrev zmLs (M : zRt) (i : Nat) (l : List (List Int32)) : zRt := (M.1, M.2.1, zup M.2.2.1 i l, M.2.2.2)
theorem zy_bs : zy S0 M X = zy S0 M (X.1, X.2.1, []) ++ X.2.2 := rfl
theorem zy_bl : (zy S0 M (X.1, X.2.1, [])).length = 73 := rfl
/-- a heap whose cells below 73 stay -/
theorem zy_of {h' : zH} {es : Nat → List Nat} (hk : ∀ k, k < 73 → h'[k]? = (zy S0 M X)[k]?) : h' = zy S0 M (X.1, es, h'.drop 73) := by
  have e : zy S0 M (X.1, es, h'.drop 73) = zy S0 M (X.1, X.2.1, []) ++ h'.drop 73 := rfl
  rw [e]
  have t : h'.take 73 = zy S0 M (X.1, X.2.1, []) := by
    refine List.ext_getElem? (fun k => ?_)
    by_cases hk9 : k < 73
    · rw [List.getElem?_take, if_pos hk9, hk k hk9, zy_bs, List.getElem?_append_left (by rw [zy_bl]; exact hk9)]
    · rw [List.getElem?_take, if_neg hk9, List.getElem?_eq_none (by rw [zy_bl]; omega)]
  rw [← t, List.take_append_drop]
theorem zfX_of {h' : zH} {rf : Nat → Nat} {es : Nat → List Nat} {k : Nat} (hk : 73 ≤ k) : (zfX (rf, es, h'.drop 73))[k]? = h'[k]? := by
  have l2 : (List.replicate 73 ((0 : Nat), ([] : List Value))).length = 73 := rfl
  show (List.replicate 73 _ ++ h'.drop 73)[k]? = _
  rw [List.getElem?_append_right (by rw [l2]; exact hk), l2, List.getElem?_drop]
  congr 1
  omega
theorem zfX_ln : (zfX X).length = (zy S0 M X).length := by
  have l2 : (List.replicate 73 ((0 : Nat), ([] : List Value))).length = 73 := rfl
  rw [zy_bs, List.length_append, zy_bl]
  show (List.replicate 73 _ ++ X.2.2).length = _
  rw [List.length_append, l2]
/-- new cells behind -/
theorem zfX_ap {U : zH} {k : Nat} {c : Nat × List Value} (h : (zfX X)[k]? = some c) : (zfX (X.1, X.2.1, X.2.2 ++ U))[k]? = some c := by
  show (List.replicate 73 _ ++ (X.2.2 ++ U))[k]? = _
  rw [← List.append_assoc]
  exact zapp_mv U _ _ h
theorem zLs_ap {U : zH} {r : Nat} {dq : Option Nat} {es : List Nat} (g : zLs (zfX X) r dq es) : zLs (zfX (X.1, X.2.1, X.2.2 ++ U)) r dq es := by
  obtain ⟨m, g⟩ := g
  refine ⟨m, ?_⟩
  cases dq with
  | none => exact ⟨g.1, zfX_ap g.2⟩
  | some q =>
    obtain ⟨vs, a, b, c⟩ := g
    exact ⟨vs, zfX_ap a, zfX_ap b, c⟩
theorem zUN_ap {U : zH} {L : (Nat → List (List Int32)) × List Int32} (hX : zUN n kq X L) : zUN n kq (X.1, X.2.1, X.2.2 ++ U) L := by
  obtain ⟨⟨dq, k1⟩, k2, ⟨k3, k4, k5⟩, k6, k7, k8⟩ := hX
  refine ⟨⟨dq, fun i hi => ?_⟩, fun i hi => ?_, ⟨k3, zfX_ap k4, k5⟩, k6, zfX_ap k7, k8⟩
  · obtain ⟨a, b, c, d⟩ := k1 i hi
    exact ⟨a, zLs_ap b, c, d⟩
  · obtain ⟨a, b, c⟩ := k2 i hi
    refine ⟨a, b, fun k l e => ?_⟩
    obtain ⟨e0, e1, e2, e3⟩ := c k l e
    exact ⟨e0, e1, e2, zfX_ap e3⟩
/-- a list takes one element more -/
theorem zul_237 {i e : Nat} {l : List Int32} (hi : i < n) (hX : zUN n kq X M.2.2) (he : 73 ≤ e) (hel : (zfX X)[e]? = some (zar l)) (hn : (M.2.2.1 i).length < zlm i) : zpM xs N 237 [.ref (X.1 i), .ref e] (zy S0 M X) nc ns (fun o => ∃ X', zUN n kq X' (zmLs M i (M.2.2.1 i ++ [l])).2.2 ∧ X'.1 = X.1 ∧ zOq (.inl (some (.int 1))) (zy S0 M X') o) := by
  obtain ⟨⟨dq, k1⟩, k2, ⟨k3, k4, k5⟩, k6, k7, k8⟩ := hX
  obtain ⟨a1, a2, a3, a4⟩ := k1 i hi
  obtain ⟨b1, b2, b3⟩ := k2 i hi
  have b4 := zlm_le i
  have hg : ∀ k, 73 ≤ k → (zy S0 M X)[k]? = (zfX X)[k]? := fun k hk => zy_ge hk
  have G := zLs_k (h := zfX X) (h' := zy S0 M X) (fun k hk => hg k hk) a1 a3 a2
  have hel2 : ∀ x ∈ X.2.1 i, ∃ w, (zy S0 M X)[x]? = some (100, w) := by
    intro x hx
    obtain ⟨k, hk, rfl⟩ := List.mem_iff_getElem.mp hx
    obtain ⟨e0, e1, e2, e3⟩ := b3 k _ (List.getElem?_eq_getElem (by omega))
    rw [List.getElem?_eq_getElem hk] at e1
    cases e1
    exact ⟨_, (hg _ e2).trans e3⟩
  refine zpM_post (fun o ho => ?_) (zpM_of (m_237 (D := 0) G ((hg e he).trans hel) hel2 (by omega)))
  obtain ⟨h', dq', nc', ns', rfl, z1, z2, z3, z4, z5, z6⟩ := ho
  have hlen : (zy S0 M X).length = (zfX X).length := zfX_ln.symm
  have lt : ∀ {k : Nat} {c : Nat × List Value}, (zfX X)[k]? = some c → k < (zy S0 M X).length := fun z => by
    rw [hlen]
    exact (List.getElem?_eq_some_iff.mp z).1
  -- tags
  obtain ⟨ra, rb, hr⟩ := zLs_size a2
  have hdt : ∀ q, dq i = some q → ∃ vs, (zfX X)[q]? = some (103, vs) := by
    intro q hq
    rw [hq] at a2
    obtain ⟨m, vs, -, w, -⟩ := a2
    exact ⟨vs, w⟩
  have stay : ∀ {k : Nat} {c : Nat × List Value}, 73 ≤ k → (zfX X)[k]? = some c → c.1 ≠ 10 → c.1 ≠ 103 → h'[k]? = some c := by
    intro k c hk hc n1 n2
    rw [z6 k (lt hc) (fun z => by
      rw [z, hr] at hc
      cases hc
      exact n1 rfl) (fun z => by
      obtain ⟨vs, w⟩ := hdt k z
      rw [w] at hc
      cases hc
      exact n2 rfl), hg k hk]
    exact hc
  have low : ∀ k, k < 73 → h'[k]? = (zy S0 M X)[k]? := by
    intro k hk
    have l73 : 73 ≤ (zy S0 M X).length := by
      rw [zy_bs, List.length_append, zy_bl]
      omega
    exact z6 k (by omega) (by omega) (fun z => by
      have := a3 k z
      omega)
  have eh := zy_of (es := zup X.2.1 i (X.2.1 i ++ [e])) low
  have gX : ∀ k, 73 ≤ k → (zfX (X.1, zup X.2.1 i (X.2.1 i ++ [e]), h'.drop 73))[k]? = h'[k]? := fun k hk => zfX_of hk
  refine ⟨(X.1, zup X.2.1 i (X.2.1 i ++ [e]), h'.drop 73), ⟨⟨zup dq i dq', fun j hj => ?_⟩, fun j hj => ?_, ⟨k3, ?_, k5⟩, k6, ?_, k8⟩, rfl, rfl, eh⟩
  · have hd' : ∀ q, dq' = some q → 73 ≤ q := by
      intro q hq
      rcases z2 with z2 | z2
      · exact a3 q (z2 ▸ hq)
      · rw [z2] at hq
        cases hq
        rw [zy_bs, List.length_append, zy_bl]
        omega
    by_cases ji : j = i
    · rw [ji]
      show 73 ≤ X.1 i ∧ zLs _ (X.1 i) (if i = i then dq' else dq i) (if i = i then X.2.1 i ++ [e] else X.2.1 i) ∧ (∀ q, (if i = i then dq' else dq i) = some q → 73 ≤ q) ∧ _
      rw [if_pos rfl, if_pos rfl]
      refine ⟨a1, zLs_k gX a1 hd' z1, hd', fun m hm ne => ?_⟩
      obtain ⟨d1, d2⟩ := a4 m hm ne
      refine ⟨d1, fun q hq => ?_⟩
      rw [zup_s] at hq
      show (if m = i then dq' else dq m) ≠ some q
      rw [if_neg ne]
      rcases z2 with z2 | z2
      · exact d2 q (z2 ▸ hq)
      · intro w
        rw [z2] at hq
        cases hq
        obtain ⟨-, m2, -⟩ := k1 m hm
        rw [w] at m2
        obtain ⟨m9, vs, -, w9, -⟩ := m2
        have := lt w9
        omega
    · obtain ⟨c1, c2, c3, c4⟩ := k1 j hj
      show 73 ≤ X.1 j ∧ zLs _ (X.1 j) (if j = i then dq' else dq j) (if j = i then X.2.1 i ++ [e] else X.2.1 j) ∧ (∀ q, (if j = i then dq' else dq j) = some q → 73 ≤ q) ∧ _
      rw [if_neg ji, if_neg ji]
      obtain ⟨d1, d2⟩ := a4 j hj ji
      have st2 : ∀ k, 73 ≤ k → k ≠ X.1 i → dq i ≠ some k → ∀ c, (zfX X)[k]? = some c → (zfX (X.1, zup X.2.1 i (X.2.1 i ++ [e]), h'.drop 73))[k]? = some c := by
        intro k hk n1 n2 c hc
        rw [gX k hk, z6 k (lt hc) n1 n2, hg k hk]
        exact hc
      refine ⟨c1, ?_, c3, fun m hm ne => ?_⟩
      · obtain ⟨mj, gj⟩ := c2
        obtain ⟨ra2, rb2, hr2⟩ := zLs_size (show zLs (zfX X) (X.1 j) (dq j) (X.2.1 j) from ⟨mj, gj⟩)
        have nj : dq i ≠ some (X.1 j) := fun z => by
          obtain ⟨vs, w⟩ := hdt _ z
          rw [w] at hr2
          cases hr2
        refine ⟨mj, ?_⟩
        revert gj c3
        cases hdj : dq j with
        | none => exact fun _ gj => ⟨gj.1, st2 _ c1 d1 nj _ gj.2⟩
        | some q =>
          intro c3 gj
          obtain ⟨vs, g1, g2, g3⟩ := gj
          refine ⟨vs, st2 _ c1 d1 nj _ g1, st2 _ (c3 q rfl) (fun z => ?_) (fun z => d2 q z hdj) _ g2, g3⟩
          rw [z, hr] at g2
          cases g2
      · by_cases mi : m = i
        · rw [mi]
          obtain ⟨e1, e2⟩ := c4 i hi (fun z => ji z.symm)
          refine ⟨e1, fun q hq => ?_⟩
          rw [zup_n ji] at hq
          show (if i = i then dq' else dq i) ≠ some q
          rw [if_pos rfl]
          rcases z2 with z2 | z2
          · rw [z2]
            exact e2 q hq
          · rw [z2]
            intro w
            cases w
            rw [hq] at c2
            obtain ⟨m9, vs, -, w9, -⟩ := c2
            have := lt w9
            omega
        · obtain ⟨e1, e2⟩ := c4 m hm ne
          refine ⟨e1, fun q hq => ?_⟩
          rw [zup_n ji] at hq
          show (if m = i then dq' else dq m) ≠ some q
          rw [if_neg mi]
          exact e2 q hq
  · show (if j = i then X.2.1 i ++ [e] else X.2.1 j).length = (if j = i then M.2.2.1 i ++ [l] else M.2.2.1 j).length ∧ (if j = i then M.2.2.1 i ++ [l] else M.2.2.1 j).length ≤ zlm j ∧ ∀ (k : Nat) (l' : List Int32), (if j = i then M.2.2.1 i ++ [l] else M.2.2.1 j)[k]? = some l' → ∃ e0, (if j = i then X.2.1 i ++ [e] else X.2.1 j)[k]? = some e0 ∧ 73 ≤ e0 ∧ _
    by_cases ji : j = i
    · rw [if_pos ji, if_pos ji, ji]
      refine ⟨by rw [List.length_append, List.length_append, b1]; rfl, by rw [List.length_append]; show _ + 1 ≤ zlm i; omega, fun k l' hk => ?_⟩
      by_cases hkl : k < (M.2.2.1 i).length
      · rw [List.getElem?_append_left hkl] at hk
        obtain ⟨e0, e1, e2, e3⟩ := b3 k l' hk
        refine ⟨e0, by rw [List.getElem?_append_left (by omega)]; exact e1, e2, ?_⟩
        rw [gX _ e2]
        exact stay e2 e3 (show (100 : Nat) ≠ 10 by decide) (show (100 : Nat) ≠ 103 by decide)
      · have hk2 := (List.getElem?_eq_some_iff.mp hk).1
        rw [List.length_append] at hk2
        have hk3 : k = (M.2.2.1 i).length := by
          have : k < (M.2.2.1 i).length + 1 := hk2
          omega
        rw [hk3, List.getElem?_append_right (Nat.le_refl _), Nat.sub_self] at hk
        cases hk
        refine ⟨e, ?_, he, ?_⟩
        · rw [hk3, ← b1, List.getElem?_append_right (Nat.le_refl _), Nat.sub_self]
          rfl
        · rw [gX _ he]
          exact stay he hel (show (100 : Nat) ≠ 10 by decide) (show (100 : Nat) ≠ 103 by decide)
    · rw [if_neg ji, if_neg ji]
      obtain ⟨c1, c2, c3⟩ := k2 j hj
      refine ⟨c1, c2, fun k l' hk => ?_⟩
      obtain ⟨e0, e1, e2, e3⟩ := c3 k l' hk
      refine ⟨e0, e1, e2, ?_⟩
      rw [gX _ e2]
      exact stay e2 e3 (show (100 : Nat) ≠ 10 by decide) (show (100 : Nat) ≠ 103 by decide)
  · rw [gX _ k3]
    exact stay k3 k4 (show (100 : Nat) ≠ 10 by decide) (show (100 : Nat) ≠ 103 by decide)
  · rw [gX _ k6]
    exact stay k6 k7 (by rw [k8]; decide) (by rw [k8]; decide)
theorem zfX_new {l : List Int32} : (zfX (X.1, X.2.1, X.2.2 ++ [zar l]))[(zy S0 M X).length]? = some (zar l) := by
  rw [← zfX_ln (S0 := S0) (M := M) (X := X)]
  show (List.replicate 73 _ ++ (X.2.2 ++ [zar l]))[(List.replicate 73 ((0 : Nat), ([] : List Value)) ++ X.2.2).length]? = _
  rw [← List.append_assoc, List.getElem?_append_right (Nat.le_refl _), Nat.sub_self]
  rfl
theorem zy_73 : 73 ≤ (zy S0 M X).length := by
  rw [zy_bs, List.length_append, zy_bl]
  omega
theorem zul_237n {i : Nat} {l : List Int32} (hi : i < n) (hX : zUN n kq X M.2.2) (hn : (M.2.2.1 i).length < zlm i) : zpM xs N 237 [.ref (X.1 i), .ref (zy S0 M X).length] (zy S0 M X ++ [zar l]) nc ns (fun o => ∃ X', zUN n kq X' (zmLs M i (M.2.2.1 i ++ [l])).2.2 ∧ X'.1 = X.1 ∧ zOq (.inl (some (.int 1))) (zy S0 M X') o) :=
  zul_237 (S0 := S0) (M := M) (X := (X.1, X.2.1, X.2.2 ++ [zar l])) hi (zUN_ap hX) zy_73 zfX_new hn
theorem zal_2 {i : Nat} (hX : zUN n kq X M.2.2) (h : (Int32.ofNat (M.2.2.1 i).length).toInt < (Int32.ofInt 40).toInt) (hi : i < n := by decide) (h2 : i = 2 := by decide) : (M.2.2.1 i).length < zlm i := by
  have hl := Nat.le_trans (hX.2.1 i hi).2.1 (zlm_le i)
  rw [zofI (by omega), show (Int32.ofInt 40).toInt = 40 from by decide] at h
  unfold zlm
  rw [if_pos h2]
  omega
theorem zal_n {i : Nat} (hX : zUN n kq X M.2.2) (h : ¬ Int32.ofNat (M.2.2.1 i).length = Int32.ofInt 24) (hi : i < n := by decide) (h2 : ¬ i = 2 := by decide) : (M.2.2.1 i).length < zlm i := by
  have hl := (hX.2.1 i hi).2.1
  unfold zlm at hl ⊢
  rw [if_neg h2] at hl ⊢
  refine Nat.lt_of_le_of_ne hl (fun z => h ?_)
  rw [z]
  decide
abbrev zli0 : Nat × List Value := (10, [.int 0, .retAddr 1, .int 0])
/-- a new list behind, which takes the place of the list i -/
theorem zUN_new {i : Nat} (hi : i < n) (hn : n ≤ 9) (hX : zUN n kq X M.2.2) : zUN n kq (zup X.1 i (zy S0 M X).length, zup X.2.1 i [], X.2.2 ++ [zli0]) (zup M.2.2.1 i [], M.2.2.2) := by
  have hlen : (zfX X).length = (zy S0 M X).length := zfX_ln
  have l73 : 73 ≤ (zy S0 M X).length := zy_73
  have ap : ∀ {k : Nat} {c : Nat × List Value}, (zfX X)[k]? = some c → (zfX (zup X.1 i (zy S0 M X).length, zup X.2.1 i [], X.2.2 ++ [zli0]))[k]? = some c := fun z => zfX_ap z
  have nw : (zfX (zup X.1 i (zy S0 M X).length, zup X.2.1 i [], X.2.2 ++ [zli0]))[(zy S0 M X).length]? = some zli0 := by
    rw [← hlen]
    show (List.replicate 73 _ ++ (X.2.2 ++ [zli0]))[(List.replicate 73 ((0 : Nat), ([] : List Value)) ++ X.2.2).length]? = _
    rw [← List.append_assoc, List.getElem?_append_right (Nat.le_refl _), Nat.sub_self]
    rfl
  obtain ⟨⟨dq, k1⟩, k2, ⟨k3, k4, k5⟩, k6, k7, k8⟩ := hX
  have low : ∀ {j : Nat}, j < n → X.1 j < (zy S0 M X).length := by
    intro j hj
    obtain ⟨a, b, c⟩ := zLs_size (k1 j hj).2.1
    rw [← hlen]
    exact (List.getElem?_eq_some_iff.mp c).1
  refine ⟨⟨zup dq i none, fun j hj => ?_⟩, fun j hj => ?_, ⟨?_, ?_, k5⟩, k6, ap k7, k8⟩
  · by_cases ji : j = i
    · subst ji
      show 73 ≤ zup X.1 j _ j ∧ zLs _ (zup X.1 j _ j) (zup dq j none j) (zup X.2.1 j [] j) ∧ (∀ q, zup dq j none j = some q → 73 ≤ q) ∧ ∀ m, m < n → m ≠ j → zup X.1 j _ m ≠ zup X.1 j _ j ∧ ∀ q, zup dq j none j = some q → zup dq j none m ≠ some q
      rw [zup_s, zup_s, zup_s]
      refine ⟨l73, ⟨0, rfl, nw⟩, fun q z => (by cases z), fun m hm ne => ⟨?_, fun q z => (by cases z)⟩⟩
      rw [zup_n ne]
      have := low hm
      omega
    · obtain ⟨c1, c2, c3, c4⟩ := k1 j hj
      show 73 ≤ zup X.1 i _ j ∧ zLs _ (zup X.1 i _ j) (zup dq i none j) (zup X.2.1 i [] j) ∧ (∀ q, zup dq i none j = some q → 73 ≤ q) ∧ ∀ m, m < n → m ≠ j → zup X.1 i _ m ≠ zup X.1 i _ j ∧ ∀ q, zup dq i none j = some q → zup dq i none m ≠ some q
      rw [zup_n ji, zup_n ji, zup_n ji]
      refine ⟨c1, ?_, c3, fun m hm ne => ?_⟩
      · obtain ⟨mj, gj⟩ := c2
        refine ⟨mj, ?_⟩
        revert gj
        cases dq j with
        | none => exact fun gj => ⟨gj.1, ap gj.2⟩
        | some q =>
          intro gj
          obtain ⟨vs, g1, g2, g3⟩ := gj
          exact ⟨vs, ap g1, ap g2, g3⟩
      · by_cases mi : m = i
        · rw [mi, zup_s, zup_s]
          have := low hj
          exact ⟨by omega, fun q hq z => by cases z⟩
        · rw [zup_n mi, zup_n mi]
          exact c4 m hm ne
  · by_cases ji : j = i
    · subst ji
      show (zup X.2.1 j [] j).length = (zup M.2.2.1 j [] j).length ∧ (zup M.2.2.1 j [] j).length ≤ zlm j ∧ ∀ (k : Nat) (l : List Int32), (zup M.2.2.1 j [] j)[k]? = some l → _
      rw [zup_s, zup_s]
      exact ⟨rfl, Nat.zero_le _, fun k l z => (by cases z)⟩
    · obtain ⟨c1, c2, c3⟩ := k2 j hj
      show (zup X.2.1 i [] j).length = (zup M.2.2.1 i [] j).length ∧ (zup M.2.2.1 i [] j).length ≤ zlm j ∧ ∀ (k : Nat) (l : List Int32), (zup M.2.2.1 i [] j)[k]? = some l → ∃ e, (zup X.2.1 i [] j)[k]? = some e ∧ _
      rw [zup_n ji, zup_n ji]
      refine ⟨c1, c2, fun k l z => ?_⟩
      obtain ⟨e, e1, e2, e3⟩ := c3 k l z
      exact ⟨e, e1, e2, ap e3⟩
  · show 73 ≤ zup X.1 i _ 9
    rw [zup_n (by omega)]
    exact k3
  · show (zfX _)[zup X.1 i _ 9]? = _
    rw [zup_n (by omega)]
    exact ap k4
theorem zUX_lc2 {i : Nat} {l : List Int32} (hi : i < n) (hX : zUN n kq X M.2.2) : ∃ vs, (zy S0 M X ++ [zar l])[X.1 i]? = some (10, vs) := by
  obtain ⟨vs, z⟩ := zUX_lc (S0 := S0) hi hX
  exact ⟨vs, zapp_mv _ _ _ z⟩
end ZRL
/-- what stays: ints but W, rows but V, lists but Y (9: the columns) -/
def zfrM (W V Y : List Nat) (A B : zRt) : Prop := (∀ j, j ∉ W → A.1 j = B.1 j) ∧ (∀ j, j ∉ V → A.2.1 j = B.2.1 j) ∧ (∀ j, (A.2.1 j).length = (B.2.1 j).length) ∧ (∀ j, j ∉ Y → A.2.2.1 j = B.2.2.1 j) ∧ (9 ∉ Y → A.2.2.2 = B.2.2.2)
section ZOV
variable {S0 : zSt} {M : zRt} {X : zXt} {kq : Nat × Nat × List Value} {nc ns : Nat} {V v : Int32}
theorem zOx_v {l : List Int32} (hX : zUX kq X M.2.2) (e : V = v) : ∃ X', zUX kq X' M.2.2 ∧ zOq (.inl (some (.int V))) (zy S0 M X') (.inl (some (.int v)), zy S0 M X ++ [zar l], nc, ns) := ⟨_, zUN_ap (U := [zar l]) hX, by rw [e], rfl⟩
end ZOV
section ZGM
variable {A A' B C : zRt} {W V Y W1 V1 Y1 : List Nat} {k : Nat} {i j v : Int32}
theorem gm_rf : zfrM W V Y A A := ⟨fun _ _ => rfl, fun _ _ => rfl, fun _ => rfl, fun _ _ => rfl, fun _ => rfl⟩
theorem gm_tr (h1 : zfrM W V Y A B) (h2 : zfrM W V Y B C) : zfrM W V Y A C := ⟨fun j hj => (h1.1 j hj).trans (h2.1 j hj), fun j hj => (h1.2.1 j hj).trans (h2.2.1 j hj), fun j => (h1.2.2.1 j).trans (h2.2.2.1 j), fun j hj => (h1.2.2.2.1 j hj).trans (h2.2.2.2.1 j hj), fun hj => (h1.2.2.2.2 hj).trans (h2.2.2.2.2 hj)⟩
theorem gm_mo (h : zfrM W1 V1 Y1 A B) (hw : ∀ j ∈ W1, j ∈ W) (hv : ∀ j ∈ V1, j ∈ V) (hy : ∀ j ∈ Y1, j ∈ Y) : zfrM W V Y A B := ⟨fun j hj => h.1 j (fun z => hj (hw j z)), fun j hj => h.2.1 j (fun z => hj (hv j z)), h.2.2.1, fun j hj => h.2.2.2.1 j (fun z => hj (hy j z)), fun hj => h.2.2.2.2 (fun z => hj (hy 9 z))⟩
theorem gm_c (h1 : zfrM W1 V1 Y1 A B) (h2 : zfrM W V Y B C) (hw : ∀ j ∈ W1, j ∈ W) (hv : ∀ j ∈ V1, j ∈ V) (hy : ∀ j ∈ Y1, j ∈ Y) : zfrM W V Y A C := gm_tr (gm_mo h1 hw hv hy) h2
theorem gm_S : zfrM [k] [] [] (zmS A k v) A := ⟨fun j hj => if_neg (fun z => hj (List.mem_singleton.mpr z)), fun _ _ => rfl, fun _ => rfl, fun _ _ => rfl, fun _ => rfl⟩
theorem gm_W : zfrM [] [k] [] (zmW A k j v) A := by
  refine ⟨fun _ _ => rfl, fun i hi => if_neg (fun z => hi (List.mem_singleton.mpr z)), fun i => ?_, fun _ _ => rfl, fun _ => rfl⟩
  show (if i = k then _ else A.2.1 i).length = _
  split
  · next z =>
    rw [zst_len, z]
  · rfl
theorem gm_R : zfrM [] [0, 1, 2, 3, 4, 5, 6, 7, 8, 9, 10, 11, 12, 13, 14, 15, 16, 17, 18, 19] [] (zmR A i j v) A := by
  unfold zmR
  split
  · next hi =>
    refine ⟨fun _ _ => rfl, fun k hk => if_neg (fun z => hk (by
      rw [z]
      have e : [0, 1, 2, 3, 4, 5, 6, 7, 8, 9, 10, 11, 12, 13, 14, 15, 16, 17, 18, 19] = List.range 20 := by decide
      rw [e]
      exact List.mem_range.mpr hi)), fun k => ?_, fun _ _ => rfl, fun _ => rfl⟩
    show (if k = i.toNatClampNeg then _ else A.2.1 k).length = _
    split
    · next z =>
      rw [zst_len, z]
    · rfl
  · exact gm_rf
theorem gm_L {l : List (List Int32)} : zfrM [] [] [k] (zmLs A k l) A := ⟨fun _ _ => rfl, fun _ _ => rfl, fun _ => rfl, fun j hj => if_neg (fun z => hj (List.mem_singleton.mpr z)), fun _ => rfl⟩
theorem gm_ite {c : Prop} [Decidable c] (h1 : zfrM W V Y A C) (h2 : zfrM W V Y B C) : zfrM W V Y (if c then A else B) C := by
  split
  · exact h1
  · exact h2
theorem gm_l (h : zfrM W V [] A B) : A.2.2 = B.2.2 := Prod.ext (funext (fun j => h.2.2.2.1 j List.not_mem_nil)) (h.2.2.2.2 List.not_mem_nil)
end ZGM
section ZRD
variable {S0 : zSt} {M : zRt} {X : zXt} {kq : Nat × Nat × List Value}
theorem zy_mc {n : Nat} (hX : zUN n kq X M.2.2) : zMc (zy S0 M X) (M.1 1) (M.1 2) M.2.2.2 := ⟨_, X.1 9, rfl, rfl, rfl, rfl, zUX_c hX, Nat.lt_of_le_of_lt hX.2.2.1.2.2 (by decide)⟩
end ZRD
set_option maxRecDepth 20000
section ZRE
variable {S0 : zSt} {M : zRt} {X : zXt} {kq : Nat × Nat × List Value} {xs : List Int32} {N : Nat} {nc ns : Nat}
def v111 (x1 : Int32) (M : zRt) : Int32 := (Int32.ofInt 0)
def r111 (x1 : Int32) (M : zRt) : zRt := zmS M 0 x1
theorem f_111 {x1 : Int32} (hX : zUX kq X M.2.2) : zpM xs N 111 [.ref 44, .int x1] (zy S0 M X) nc ns (zOq (.inl (some (.int (v111 x1 M)))) (zy S0 (r111 x1 M) X)) := by
  intro L0 e
  cases e
  refine zpE_run 4 (L' := [some (.ref 44), some (.int x1)]) (st' := [.int (Int32.ofInt 0)]) (h' := zy S0 (zmS M 0 x1) X) rfl ?_
  exact zpE_end rfl rfl (zOr_w (M' := zmS M 0 x1) (by unfold v111; (first | done | rfl)) (by unfold r111; (first | done | rfl)))
theorem gr_111 {x1 : Int32} : zfrM [0] [] [] (r111 x1 M) M := by
  unfold r111
  exact (gm_c gm_S gm_rf (by decide) (by decide) (by decide))
theorem rl_111 {x1 : Int32} : (r111 x1 M).2.2 = M.2.2 := gm_l gr_111
def v112 (x1 : Int32) (x2 : Int32) (x3 : Int32) (M : zRt) : Int32 := if x1.toInt < x2.toInt then ((Int32.ofInt 0)) else (if x3.toInt < x1.toInt then ((Int32.ofInt 0)) else ((Int32.ofInt 1)))
theorem f_112 {x1 x2 x3 : Int32} (hX : zUX kq X M.2.2) : zpM xs N 112 [.int x1, .int x2, .int x3] (zy S0 M X) nc ns (zOq (.inl (some (.int (v112 x1 x2 x3 M)))) (zy S0 M X)) := by
  intro L0 e
  cases e
  refine zpE_run 2 (L' := [some (.int x1), some (.int x2), some (.int x3)]) (st' := [.int x2, .int x1]) rfl ?_
  refine zpE_icmp rfl (fun q2 => ?_) (fun q2 => ?_)
  · have z2_0 := zF_lt_t q2
    refine zpE_run 1 (L' := [some (.int x1), some (.int x2), some (.int x3)]) (st' := [.int (Int32.ofInt 0)]) rfl ?_
    exact zpE_end rfl rfl (zOq_v (by unfold v112; rw [if_pos z2_0]))
  · have z2_0 := Int.not_lt.mpr (zF_lt_f q2)
    refine zpE_run 2 (L' := [some (.int x1), some (.int x2), some (.int x3)]) (st' := [.int x3, .int x1]) rfl ?_
    refine zpE_icmp rfl (fun q7 => ?_) (fun q7 => ?_)
    · have z7_1 := zF_gt_t q7
      refine zpE_run 1 (L' := [some (.int x1), some (.int x2), some (.int x3)]) (st' := [.int (Int32.ofInt 0)]) rfl ?_
      exact zpE_end rfl rfl (zOq_v (by unfold v112; rw [if_neg z2_0, if_pos z7_1]))
    · have z7_1 := Int.not_lt.mpr (zF_gt_f q7)
      refine zpE_run 2 (L' := [some (.int x1), some (.int x2), some (.int x3)]) (st' := [.int (Int32.ofInt 1)]) rfl ?_
      exact zpE_end rfl rfl (zOq_v (by unfold v112; rw [if_neg z2_0, if_neg z7_1]))
def v138 (x1 : Int32) (M : zRt) : Int32 := (v112 x1 (Int32.ofInt 0) (Int32.ofInt 127) M)
theorem f_138 {x1 : Int32} (hX : zUX kq X M.2.2) : zpM xs N 138 [.int x1] (zy S0 M X) nc ns (zOq (.inl (some (.int (v138 x1 M)))) (zy S0 M X)) := by
  intro L0 e
  cases e
  refine zpE_run 3 (L' := [some (.int x1)]) (st' := [.int (Int32.ofInt 127), .int (Int32.ofInt 0), .int x1]) rfl ?_
  refine zpE_call rfl rfl (f_112 (M := M) (x1 := x1) (x2 := Int32.ofInt 0) (x3 := Int32.ofInt 127) hX) (fun v h1 nc1 ns1 q8 => ?_) (fun E h1 nc1 ns1 q8 => by cases q8.1)
  obtain ⟨q8, q9⟩ := q8
  cases q8
  cases q9
  exact zpE_retb rfl (fun _ => (zOq_v (by unfold v138; (first | done | rfl))))
def v131 (x1 : Int32) (M : zRt) : Int32 := (zrmd (x1 + (Int32.ofInt 64)) (Int32.ofInt 128))
theorem f_131 {x1 : Int32} (hX : zUX kq X M.2.2) : zpM xs N 131 [.int x1] (zy S0 M X) nc ns (zOq (.inl (some (.int (v131 x1 M)))) (zy S0 M X)) := by
  intro L0 e
  cases e
  refine zpE_run 4 (L' := [some (.int x1)]) (st' := [.int (Int32.ofInt 128), .int (x1 + (Int32.ofInt 64))]) rfl ?_
  refine zpE_irem rfl (fun _ => ?_)
  exact zpE_end rfl rfl (zOq_v (by unfold v131; (first | done | rfl)))
def v124 (x1 : Int32) (M : zRt) : Int32 := (zgt (M.2.1 22) (zqtd x1 (Int32.ofInt 8)))
theorem f_124 {x1 : Int32} (hX : zUX kq X M.2.2) : zpM xs N 124 [.ref 44, .int x1] (zy S0 M X) nc ns (zOq (.inl (some (.int (v124 x1 M)))) (zy S0 M X)) := by
  intro L0 e
  cases e
  refine zpE_run 4 (L' := [some (.ref 44), some (.int x1)]) (st' := [.int (Int32.ofInt 8), .int x1, .ref 69]) rfl ?_
  refine zpE_idiv rfl (fun _ => ?_)
  refine zpE_aly rfl (zy_g69 (M := M)) (fun _ _ => ?_)
  refine zpE_gen (fun nc ns => ?_)
  exact zpE_end rfl rfl (zOq_v (by unfold v124; (first | done | rfl)))
def v125 (x1 : Int32) (M : zRt) : Int32 := (zgt (M.2.1 (Int32.toNatClampNeg (v124 x1 M))) (zrmd x1 (Int32.ofInt 8)))
theorem f_125 {x1 : Int32} (hX : zUX kq X M.2.2) : zpM xs N 125 [.ref 44, .int x1] (zy S0 M X) nc ns (zOq (.inl (some (.int (v125 x1 M)))) (zy S0 M X)) := by
  intro L0 e
  cases e
  refine zpE_run 4 (L' := [some (.ref 44), some (.int x1)]) (st' := [.int x1, .ref 44, .ref 46]) rfl ?_
  refine zpE_call rfl rfl (f_124 (M := M) (x1 := x1) hX) (fun v h1 nc1 ns1 q8 => ?_) (fun E h1 nc1 ns1 q8 => by cases q8.1)
  obtain ⟨q8, q9⟩ := q8
  cases q8
  cases q9
  refine zpE_aaw rfl rfl (fun n1a n1 => ?_)
  replace n1 := And.intro n1a n1
  refine zpE_run 2 (L' := [some (.ref 44), some (.int x1)]) (st' := [.int (Int32.ofInt 8), .int x1, .ref (47 + Int32.toNatClampNeg (v124 x1 M))]) rfl ?_
  refine zpE_irem rfl (fun _ => ?_)
  refine zpE_aly rfl (zy_row n1.2) (fun _ _ => ?_)
  refine zpE_gen (fun nc ns => ?_)
  exact zpE_end rfl rfl (zOq_v (by unfold v125; (first | done | rfl)))
def d126 (x1 : Int32) (x2 : Int32) (x3 : Int32) (M : zRt) (k : Nat) (u : Int32) : Int32 := if (zgt ((M.2.2.1 0).getD (Int32.toNatClampNeg ((Int32.ofNat k))) []) (Int32.ofInt 0)) = x1 then (if (zgt ((M.2.2.1 0).getD (Int32.toNatClampNeg ((Int32.ofNat k))) []) (Int32.ofInt 1)) = x2 then (if (zgt ((M.2.2.1 0).getD (Int32.toNatClampNeg ((Int32.ofNat k))) []) (Int32.ofInt 3)) = (Int32.ofInt 1) then (u ||| ((Int32.ofInt 1) <<< ((zgt ((M.2.2.1 0).getD (Int32.toNatClampNeg ((Int32.ofNat k))) []) (Int32.ofInt 2)) &&& 31))) else (u &&& (((Int32.ofInt 1) <<< ((zgt ((M.2.2.1 0).getD (Int32.toNatClampNeg ((Int32.ofNat k))) []) (Int32.ofInt 2)) &&& 31)) ^^^ (Int32.ofInt (-1))))) else u) else u
def w126 (x1 : Int32) (x2 : Int32) (x3 : Int32) (M : zRt) (u0 : Int32) : Nat → Int32
  | 0 => u0
  | k + 1 => d126 x1 x2 x3 M k (w126 x1 x2 x3 M u0 k)
def x126 (x1 : Int32) (x2 : Int32) (x3 : Int32) (M : zRt) (u : Int32) : zRt := zmR M x1 x2 u
theorem l_r126 {x1 x2 x3 : Int32} {u0 : Int32} (hX : zUX kq X M.2.2) : ∀ (N k : Nat) (o6 : Option Value) (nc ns : Nat), k ≤ (Int32.ofNat (M.2.2.1 0).length).toInt.toNat → zpE xs N 126 6 [some (.ref 44), some (.int x1), some (.int x2), some (.int x3), some (.int ((w126 x1 x2 x3 M u0 k))), some (.int (Int32.ofNat k)), o6] [] (zy S0 M X) nc ns (zOq (.inl none) (zy S0 (x126 x1 x2 x3 M (w126 x1 x2 x3 M u0 (Int32.ofNat (M.2.2.1 0).length).toInt.toNat)) X))
  | 0, _, _, _, _, _ => zpE_0
  | N + 1, k, o6, nc, ns, hk => by
    refine zpE_run1 2 (L' := [some (.ref 44), some (.int x1), some (.int x2), some (.int x3), some (.int ((w126 x1 x2 x3 M u0 k))), some (.int (Int32.ofNat k)), o6]) (st' := [.ref (X.1 0), .int (Int32.ofNat k)]) rfl ?_
    obtain ⟨vs1, lc1⟩ := zUX_lc (S0 := S0) (M := M) (i := 0) (by decide) hX
    refine zpE_call rfl (show zcallV 0 10 243 17 (.ref (X.1 0) :: _) (zy S0 M X) = _ from zcallV_eq rfl lc1 (Nat.le_of_ble_eq_true rfl)) (zul_243 (i := 0) (by decide) hX) (fun v h1 nc1 ns1 q8 => ?_) (fun E h1 nc1 ns1 q8 => by cases q8)
    cases q8
    refine zpE_icmp rfl (fun q17 => ?_) (fun q17 => ?_)
    · have z17_0 := Int.not_lt.mpr (zF_ge_t q17)
      refine zpE_run 3 (L' := [some (.ref 44), some (.int x1), some (.int x2), some (.int x3), some (.int ((w126 x1 x2 x3 M u0 k))), some (.int (Int32.ofNat k)), o6]) (st' := [.int x1, .ref 46]) rfl ?_
      refine zpE_aaw rfl rfl (fun n2a n2 => ?_)
      replace n2 := And.intro n2a n2
      refine zpE_run 2 (L' := [some (.ref 44), some (.int x1), some (.int x2), some (.int x3), some (.int ((w126 x1 x2 x3 M u0 k))), some (.int (Int32.ofNat k)), o6]) (st' := [.int ((w126 x1 x2 x3 M u0 k)), .int x2, .ref (47 + Int32.toNatClampNeg x1)]) rfl ?_
      refine zpE_asy (h' := zy S0 (zmR M x1 x2 ((w126 x1 x2 x3 M u0 k))) X) rfl (zy_row n2.2) (zy_setrow n2.2) (fun _ _ => ?_)
      refine zpE_gen (fun nc ns => ?_)
      exact zpE_end rfl rfl (by rw [← zlp_out z17_0 hk]; exact zOr_f (M' := zmR M x1 x2 ((w126 x1 x2 x3 M u0 k))) (by unfold x126; (first | done | rfl)))
    · have z17_0 := zF_ge_f q17
      refine zpE_run 3 (L' := [some (.ref 44), some (.int x1), some (.int x2), some (.int x3), some (.int ((w126 x1 x2 x3 M u0 k))), some (.int (Int32.ofNat k)), o6]) (st' := [.int (Int32.ofNat k), .ref (X.1 0)]) rfl ?_
      have n3 : ¬ (Int32.ofNat k) < 0 ∧ (Int32.toNatClampNeg (Int32.ofNat k)) < (M.2.2.1 0).length := zlp_rg (i := 0) (by decide) hX z17_0 hk
      obtain ⟨vs4, lc4⟩ := zUX_lc (S0 := S0) (M := M) (i := 0) (by decide) hX
      refine zpE_call rfl (show zcallV 1 10 239 31 (.int (Int32.ofNat k) :: .ref (X.1 0) :: _) (zy S0 M X) = _ from zcallV_eq rfl lc4 (Nat.le_of_ble_eq_true rfl)) (zul_239 (i := 0) (j := Int32.ofNat k) (by decide) hX n3) (fun v h1 nc1 ns1 q8 => ?_) (fun E h1 nc1 ns1 q8 => by cases q8)
      cases q8
      refine zpE_chk rfl (zUX_e hX n3) ?_
      refine zpE_run 3 (L' := [some (.ref 44), some (.int x1), some (.int x2), some (.int x3), some (.int ((w126 x1 x2 x3 M u0 k))), some (.int (Int32.ofNat k)), some (.ref (zel X 0 (Int32.ofNat k)))]) (st' := [.int (Int32.ofInt 0), .ref (zel X 0 (Int32.ofNat k))]) rfl ?_
      refine zpE_aly rfl (zUX_e hX n3) (fun _ _ => ?_)
      refine zpE_gen (fun nc ns => ?_)
      refine zpE_run 1 (L' := [some (.ref 44), some (.int x1), some (.int x2), some (.int x3), some (.int ((w126 x1 x2 x3 M u0 k))), some (.int (Int32.ofNat k)), some (.ref (zel X 0 (Int32.ofNat k)))]) (st' := [.int x1, .int (zgt ((M.2.2.1 0).getD (Int32.toNatClampNeg (Int32.ofNat k)) []) (Int32.ofInt 0))]) rfl ?_
      refine zpE_icmp rfl (fun q41 => ?_) (fun q41 => ?_)
      · have z41_1 := zF_n1 q41
        refine zpE_run 2 (L' := [some (.ref 44), some (.int x1), some (.int x2), some (.int x3), some (.int ((w126 x1 x2 x3 M u0 k))), some (.int ((Int32.ofNat k) + Int32.ofInt 1)), some (.ref (zel X 0 (Int32.ofNat k)))]) (st' := []) rfl ?_
        have eW : w126 x1 x2 x3 M u0 (k + 1) = (w126 x1 x2 x3 M u0 k) := by
          show d126 x1 x2 x3 M k _ = _
          unfold d126
          rw [if_neg z41_1]
        have K := fun o6 nc ns => l_r126 (x1 := x1) (x2 := x2) (x3 := x3) (u0 := u0) hX N (k + 1) o6 nc ns (zlp_in z17_0 hk)
        rw [← zof1, eW] at K
        exact K _ _ _
      · have z41_1 := zF_n0 q41
        refine zpE_run 2 (L' := [some (.ref 44), some (.int x1), some (.int x2), some (.int x3), some (.int ((w126 x1 x2 x3 M u0 k))), some (.int (Int32.ofNat k)), some (.ref (zel X 0 (Int32.ofNat k)))]) (st' := [.int (Int32.ofInt 1), .ref (zel X 0 (Int32.ofNat k))]) rfl ?_
        refine zpE_aly rfl (zUX_e hX n3) (fun _ _ => ?_)
        refine zpE_gen (fun nc ns => ?_)
        refine zpE_run 1 (L' := [some (.ref 44), some (.int x1), some (.int x2), some (.int x3), some (.int ((w126 x1 x2 x3 M u0 k))), some (.int (Int32.ofNat k)), some (.ref (zel X 0 (Int32.ofNat k)))]) (st' := [.int x2, .int (zgt ((M.2.2.1 0).getD (Int32.toNatClampNeg (Int32.ofNat k)) []) (Int32.ofInt 1))]) rfl ?_
        refine zpE_icmp rfl (fun q49 => ?_) (fun q49 => ?_)
        · have z49_2 := zF_n1 q49
          refine zpE_run 2 (L' := [some (.ref 44), some (.int x1), some (.int x2), some (.int x3), some (.int ((w126 x1 x2 x3 M u0 k))), some (.int ((Int32.ofNat k) + Int32.ofInt 1)), some (.ref (zel X 0 (Int32.ofNat k)))]) (st' := []) rfl ?_
          have eW : w126 x1 x2 x3 M u0 (k + 1) = (w126 x1 x2 x3 M u0 k) := by
            show d126 x1 x2 x3 M k _ = _
            unfold d126
            rw [if_pos z41_1, if_neg z49_2]
          have K := fun o6 nc ns => l_r126 (x1 := x1) (x2 := x2) (x3 := x3) (u0 := u0) hX N (k + 1) o6 nc ns (zlp_in z17_0 hk)
          rw [← zof1, eW] at K
          exact K _ _ _
        · have z49_2 := zF_n0 q49
          refine zpE_run 2 (L' := [some (.ref 44), some (.int x1), some (.int x2), some (.int x3), some (.int ((w126 x1 x2 x3 M u0 k))), some (.int (Int32.ofNat k)), some (.ref (zel X 0 (Int32.ofNat k)))]) (st' := [.int (Int32.ofInt 3), .ref (zel X 0 (Int32.ofNat k))]) rfl ?_
          refine zpE_aly rfl (zUX_e hX n3) (fun _ _ => ?_)
          refine zpE_gen (fun nc ns => ?_)
          refine zpE_run 1 (L' := [some (.ref 44), some (.int x1), some (.int x2), some (.int x3), some (.int ((w126 x1 x2 x3 M u0 k))), some (.int (Int32.ofNat k)), some (.ref (zel X 0 (Int32.ofNat k)))]) (st' := [.int (Int32.ofInt 1), .int (zgt ((M.2.2.1 0).getD (Int32.toNatClampNeg (Int32.ofNat k)) []) (Int32.ofInt 3))]) rfl ?_
          refine zpE_icmp rfl (fun q57 => ?_) (fun q57 => ?_)
          · have z57_3 := zF_n1 q57
            refine zpE_run 4 (L' := [some (.ref 44), some (.int x1), some (.int x2), some (.int x3), some (.int ((w126 x1 x2 x3 M u0 k))), some (.int (Int32.ofNat k)), some (.ref (zel X 0 (Int32.ofNat k)))]) (st' := [.int (Int32.ofInt 2), .ref (zel X 0 (Int32.ofNat k)), .int (Int32.ofInt 1), .int ((w126 x1 x2 x3 M u0 k))]) rfl ?_
            refine zpE_aly rfl (zUX_e hX n3) (fun _ _ => ?_)
            refine zpE_gen (fun nc ns => ?_)
            refine zpE_run 7 (L' := [some (.ref 44), some (.int x1), some (.int x2), some (.int x3), some (.int (((w126 x1 x2 x3 M u0 k)) &&& (((Int32.ofInt 1) <<< ((zgt ((M.2.2.1 0).getD (Int32.toNatClampNeg (Int32.ofNat k)) []) (Int32.ofInt 2)) &&& 31)) ^^^ (Int32.ofInt (-1))))), some (.int ((Int32.ofNat k) + Int32.ofInt 1)), some (.ref (zel X 0 (Int32.ofNat k)))]) (st' := []) rfl ?_
            have eW : w126 x1 x2 x3 M u0 (k + 1) = ((w126 x1 x2 x3 M u0 k)) &&& (((Int32.ofInt 1) <<< ((zgt ((M.2.2.1 0).getD (Int32.toNatClampNeg (Int32.ofNat k)) []) (Int32.ofInt 2)) &&& 31)) ^^^ (Int32.ofInt (-1))) := by
              show d126 x1 x2 x3 M k _ = _
              unfold d126
              rw [if_pos z41_1, if_pos z49_2, if_neg z57_3]
            have K := fun o6 nc ns => l_r126 (x1 := x1) (x2 := x2) (x3 := x3) (u0 := u0) hX N (k + 1) o6 nc ns (zlp_in z17_0 hk)
            rw [← zof1, eW] at K
            exact K _ _ _
          · have z57_3 := zF_n0 q57
            refine zpE_run 4 (L' := [some (.ref 44), some (.int x1), some (.int x2), some (.int x3), some (.int ((w126 x1 x2 x3 M u0 k))), some (.int (Int32.ofNat k)), some (.ref (zel X 0 (Int32.ofNat k)))]) (st' := [.int (Int32.ofInt 2), .ref (zel X 0 (Int32.ofNat k)), .int (Int32.ofInt 1), .int ((w126 x1 x2 x3 M u0 k))]) rfl ?_
            refine zpE_aly rfl (zUX_e hX n3) (fun _ _ => ?_)
            refine zpE_gen (fun nc ns => ?_)
            refine zpE_run 6 (L' := [some (.ref 44), some (.int x1), some (.int x2), some (.int x3), some (.int (((w126 x1 x2 x3 M u0 k)) ||| ((Int32.ofInt 1) <<< ((zgt ((M.2.2.1 0).getD (Int32.toNatClampNeg (Int32.ofNat k)) []) (Int32.ofInt 2)) &&& 31)))), some (.int ((Int32.ofNat k) + Int32.ofInt 1)), some (.ref (zel X 0 (Int32.ofNat k)))]) (st' := []) rfl ?_
            have eW : w126 x1 x2 x3 M u0 (k + 1) = ((w126 x1 x2 x3 M u0 k)) ||| ((Int32.ofInt 1) <<< ((zgt ((M.2.2.1 0).getD (Int32.toNatClampNeg (Int32.ofNat k)) []) (Int32.ofInt 2)) &&& 31)) := by
              show d126 x1 x2 x3 M k _ = _
              unfold d126
              rw [if_pos z41_1, if_pos z49_2, if_pos z57_3]
            have K := fun o6 nc ns => l_r126 (x1 := x1) (x2 := x2) (x3 := x3) (u0 := u0) hX N (k + 1) o6 nc ns (zlp_in z17_0 hk)
            rw [← zof1, eW] at K
            exact K _ _ _
def r126 (x1 : Int32) (x2 : Int32) (x3 : Int32) (M : zRt) : zRt := x126 x1 x2 x3 M (w126 x1 x2 x3 M x3 (Int32.ofNat (M.2.2.1 0).length).toInt.toNat)
theorem f_126 {x1 x2 x3 : Int32} (hX : zUX kq X M.2.2) : zpM xs N 126 [.ref 44, .int x1, .int x2, .int x3] (zy S0 M X) nc ns (zOq (.inl none) (zy S0 (r126 x1 x2 x3 M) X)) := by
  intro L0 e
  cases e
  refine zpE_run 4 rfl ?_
  exact l_r126 (x1 := x1) (x2 := x2) (x3 := x3) (M := M) (u0 := x3) hX N 0 _ _ _ (Nat.zero_le _)
theorem gr_x126 {x1 x2 x3 : Int32} {u : Int32} : zfrM [] [0, 1, 2, 3, 4, 5, 6, 7, 8, 9, 10, 11, 12, 13, 14, 15, 16, 17, 18, 19] [] (x126 x1 x2 x3 M u) M := by
  unfold x126
  exact (gm_c gm_R gm_rf (by decide) (by decide) (by decide))
theorem gr_126 {x1 x2 x3 : Int32} : zfrM [] [0, 1, 2, 3, 4, 5, 6, 7, 8, 9, 10, 11, 12, 13, 14, 15, 16, 17, 18, 19] [] (r126 x1 x2 x3 M) M := by
  unfold r126
  exact (gm_c gr_x126 gm_rf (by decide) (by decide) (by decide))
theorem rl_126 {x1 x2 x3 : Int32} : (r126 x1 x2 x3 M).2.2 = M.2.2 := gm_l gr_126
def r127 (x1 : Int32) (x2 : Int32) (M : zRt) : zRt := (r126 (v124 x1 M) (zrmd x1 (Int32.ofInt 8)) x2 M)
theorem f_127 {x1 x2 : Int32} (hX : zUX kq X M.2.2) : zpM xs N 127 [.ref 44, .int x1, .int x2] (zy S0 M X) nc ns (zOq (.inl none) (zy S0 (r127 x1 x2 M) X)) := by
  intro L0 e
  cases e
  refine zpE_run 3 (L' := [some (.ref 44), some (.int x1), some (.int x2)]) (st' := [.int x1, .ref 44, .ref 44]) rfl ?_
  refine zpE_call rfl rfl (f_124 (M := M) (x1 := x1) hX) (fun v h1 nc1 ns1 q8 => ?_) (fun E h1 nc1 ns1 q8 => by cases q8.1)
  obtain ⟨q8, q9⟩ := q8
  cases q8
  cases q9
  refine zpE_run 2 (L' := [some (.ref 44), some (.int x1), some (.int x2)]) (st' := [.int (Int32.ofInt 8), .int x1, .int (v124 x1 M), .ref 44]) rfl ?_
  refine zpE_irem rfl (fun _ => ?_)
  refine zpE_run 1 (L' := [some (.ref 44), some (.int x1), some (.int x2)]) (st' := [.int x2, .int (zrmd x1 (Int32.ofInt 8)), .int (v124 x1 M), .ref 44]) rfl ?_
  refine zpE_call rfl rfl (f_126 (M := M) (x1 := v124 x1 M) (x2 := zrmd x1 (Int32.ofInt 8)) (x3 := x2) hX) (fun v h1 nc1 ns1 q8 => ?_) (fun E h1 nc1 ns1 q8 => by cases q8.1)
  obtain ⟨q8, q9⟩ := q8
  cases q8
  cases q9
  obtain ⟨Z1, hZ1⟩ : ∃ Z, Z = r126 (v124 x1 M) (zrmd x1 (Int32.ofInt 8)) x2 M := ⟨_, rfl⟩
  rw [← hZ1]
  have hY1 : zUX kq X Z1.2.2 := by
    rw [hZ1, rl_126]
    exact hX
  exact zpE_end rfl rfl (zOr_f (M' := Z1) (by unfold r127; (try rw [← hZ1]); (first | done | rfl)))
theorem gr_127 {x1 x2 : Int32} : zfrM [] [0, 1, 2, 3, 4, 5, 6, 7, 8, 9, 10, 11, 12, 13, 14, 15, 16, 17, 18, 19] [] (r127 x1 x2 M) M := by
  unfold r127
  exact (gm_c gr_126 gm_rf (by decide) (by decide) (by decide))
theorem rl_127 {x1 x2 : Int32} : (r127 x1 x2 M).2.2 = M.2.2 := gm_l gr_127
def v128  (M : zRt) : Int32 := if (M.1 11) = (Int32.ofInt (-1)) then (((zmS (zmS M 11 (Int32.ofInt 5)) 12 (((zmS M 11 (Int32.ofInt 5)).1 12) + (Int32.ofInt 1))).1 11)) else (((zmS (zmS M 11 (zrmd (((Int32.ofInt 17) * (M.1 11)) + (Int32.ofInt 43)) (Int32.ofInt 251))) 12 (((zmS M 11 (zrmd (((Int32.ofInt 17) * (M.1 11)) + (Int32.ofInt 43)) (Int32.ofInt 251))).1 12) + (Int32.ofInt 1))).1 11))
def r128  (M : zRt) : zRt := if (M.1 11) = (Int32.ofInt (-1)) then (zmS (zmS M 11 (Int32.ofInt 5)) 12 (((zmS M 11 (Int32.ofInt 5)).1 12) + (Int32.ofInt 1))) else (zmS (zmS M 11 (zrmd (((Int32.ofInt 17) * (M.1 11)) + (Int32.ofInt 43)) (Int32.ofInt 251))) 12 (((zmS M 11 (zrmd (((Int32.ofInt 17) * (M.1 11)) + (Int32.ofInt 43)) (Int32.ofInt 251))).1 12) + (Int32.ofInt 1)))
theorem f_128 (hX : zUX kq X M.2.2) : zpM xs N 128 [.ref 44] (zy S0 M X) nc ns (zOq (.inl (some (.int (v128 M)))) (zy S0 (r128 M) X)) := by
  intro L0 e
  cases e
  refine zpE_run 4 (L' := [some (.ref 44)]) (st' := [.int (Int32.ofInt (-1)), .int (M.1 11), .ref 44]) rfl ?_
  refine zpE_icmp rfl (fun q6 => ?_) (fun q6 => ?_)
  · have z6_0 := zF_n1 q6
    refine zpE_run 7 (L' := [some (.ref 44)]) (st' := [.int (Int32.ofInt 251), .int (((Int32.ofInt 17) * (M.1 11)) + (Int32.ofInt 43)), .ref 44]) rfl ?_
    refine zpE_irem rfl (fun _ => ?_)
    refine zpE_run 9 (L' := [some (.ref 44)]) (st' := [.int ((zmS (zmS M 11 (zrmd (((Int32.ofInt 17) * (M.1 11)) + (Int32.ofInt 43)) (Int32.ofInt 251))) 12 (((zmS M 11 (zrmd (((Int32.ofInt 17) * (M.1 11)) + (Int32.ofInt 43)) (Int32.ofInt 251))).1 12) + (Int32.ofInt 1))).1 11)]) (h' := zy S0 (zmS (zmS M 11 (zrmd (((Int32.ofInt 17) * (M.1 11)) + (Int32.ofInt 43)) (Int32.ofInt 251))) 12 (((zmS M 11 (zrmd (((Int32.ofInt 17) * (M.1 11)) + (Int32.ofInt 43)) (Int32.ofInt 251))).1 12) + (Int32.ofInt 1))) X) rfl ?_
    exact zpE_end rfl rfl (zOr_w (M' := zmS (zmS M 11 (zrmd (((Int32.ofInt 17) * (M.1 11)) + (Int32.ofInt 43)) (Int32.ofInt 251))) 12 (((zmS M 11 (zrmd (((Int32.ofInt 17) * (M.1 11)) + (Int32.ofInt 43)) (Int32.ofInt 251))).1 12) + (Int32.ofInt 1))) (by unfold v128; rw [if_neg z6_0]) (by unfold r128; rw [if_neg z6_0]))
  · have z6_0 := zF_n0 q6
    refine zpE_run 11 (L' := [some (.ref 44)]) (st' := [.int ((zmS (zmS M 11 (Int32.ofInt 5)) 12 (((zmS M 11 (Int32.ofInt 5)).1 12) + (Int32.ofInt 1))).1 11)]) (h' := zy S0 (zmS (zmS M 11 (Int32.ofInt 5)) 12 (((zmS M 11 (Int32.ofInt 5)).1 12) + (Int32.ofInt 1))) X) rfl ?_
    exact zpE_end rfl rfl (zOr_w (M' := zmS (zmS M 11 (Int32.ofInt 5)) 12 (((zmS M 11 (Int32.ofInt 5)).1 12) + (Int32.ofInt 1))) (by unfold v128; rw [if_pos z6_0]) (by unfold r128; rw [if_pos z6_0]))
theorem gr_128 : zfrM [11, 12] [] [] (r128 M) M := by
  unfold r128
  exact (gm_ite (gm_c gm_S (gm_c gm_S gm_rf (by decide) (by decide) (by decide)) (by decide) (by decide) (by decide)) (gm_c gm_S (gm_c gm_S gm_rf (by decide) (by decide) (by decide)) (by decide) (by decide) (by decide)))
theorem rl_128 : (r128 M).2.2 = M.2.2 := gm_l gr_128
def t129 (x1 b : Int32) (M : zRt) : zRt := if (v112 ((zrmd x1 (Int32.ofInt 10)) + b) (Int32.ofInt 0) (Int32.ofInt 9) M) = ((0 : Int32)) then M else ((r126 (x1 + b) (zrmd (v128 M) (Int32.ofInt 8)) ((zgt ((r128 M).2.1 (Int32.toNatClampNeg (x1 + b))) (zrmd (v128 M) (Int32.ofInt 8))) ^^^ ((Int32.ofInt 1) <<< ((zrmd (v128 (r128 M)) ((r128 (r128 M)).1 1 + (r128 (r128 M)).1 2)) &&& 31))) (r128 (r128 M))))
theorem b_129 {x1 b : Int32} {o3 : Option Value} {P : zO → Prop} (hX : zUX kq X M.2.2) (K : ∀ (o3 : Option Value) (nc ns : Nat), zpE xs N 129 37 [some (.ref 44), some (.int x1), some (.int (b + Int32.ofInt 2)), o3] [] (zy S0 (t129 x1 b M) X) nc ns P) : zpE xs N 129 42 [some (.ref 44), some (.int x1), some (.int b), o3] [] (zy S0 M X) nc ns P := by
  refine zpE_run 2 (L' := [some (.ref 44), some (.int x1), some (.int b), o3]) (st' := [.int (Int32.ofInt 10), .int x1]) rfl ?_
  refine zpE_irem rfl (fun _ => ?_)
  refine zpE_run 4 (L' := [some (.ref 44), some (.int x1), some (.int b), o3]) (st' := [.int (Int32.ofInt 9), .int (Int32.ofInt 0), .int ((zrmd x1 (Int32.ofInt 10)) + b)]) rfl ?_
  refine zpE_call rfl rfl (f_112 (M := M) (x1 := (zrmd x1 (Int32.ofInt 10)) + b) (x2 := Int32.ofInt 0) (x3 := Int32.ofInt 9) hX) (fun v h1 nc1 ns1 q8 => ?_) (fun E h1 nc1 ns1 q8 => by cases q8.1)
  obtain ⟨q8, q9⟩ := q8
  cases q8
  cases q9
  refine zpE_if rfl (fun q54 => ?_) (fun q54 => ?_)
  · have z54_0 := zF_n1 q54
    refine zpE_run 1 (L' := [some (.ref 44), some (.int x1), some (.int b), o3]) (st' := [.ref 44]) rfl ?_
    refine zpE_call rfl rfl (f_128 (M := M) hX) (fun v h1 nc1 ns1 q8 => ?_) (fun E h1 nc1 ns1 q8 => by cases q8.1)
    obtain ⟨q8, q9⟩ := q8
    cases q8
    cases q9
    obtain ⟨Z1, hZ1⟩ : ∃ Z, Z = r128 M := ⟨_, rfl⟩
    rw [← hZ1]
    have hY1 : zUX kq X Z1.2.2 := by
      rw [hZ1, rl_128]
      exact hX
    refine zpE_run 1 (L' := [some (.ref 44), some (.int x1), some (.int b), o3]) (st' := [.int (Int32.ofInt 8), .int (v128 M)]) rfl ?_
    refine zpE_irem rfl (fun _ => ?_)
    refine zpE_run 11 (L' := [some (.ref 44), some (.int x1), some (.int b), some (.int (zrmd (v128 M) (Int32.ofInt 8)))]) (st' := [.int (x1 + b), .ref 46, .int (zrmd (v128 M) (Int32.ofInt 8)), .int (x1 + b), .ref 44]) rfl ?_
    refine zpE_aaw rfl rfl (fun n2a n2 => ?_)
    replace n2 := And.intro n2a n2
    refine zpE_run 1 (L' := [some (.ref 44), some (.int x1), some (.int b), some (.int (zrmd (v128 M) (Int32.ofInt 8)))]) (st' := [.int (zrmd (v128 M) (Int32.ofInt 8)), .ref (47 + Int32.toNatClampNeg (x1 + b)), .int (zrmd (v128 M) (Int32.ofInt 8)), .int (x1 + b), .ref 44]) rfl ?_
    refine zpE_aly rfl (zy_row n2.2) (fun _ _ => ?_)
    refine zpE_gen (fun nc ns => ?_)
    refine zpE_run 2 (L' := [some (.ref 44), some (.int x1), some (.int b), some (.int (zrmd (v128 M) (Int32.ofInt 8)))]) (st' := [.ref 44, .int (Int32.ofInt 1), .int (zgt (Z1.2.1 (Int32.toNatClampNeg (x1 + b))) (zrmd (v128 M) (Int32.ofInt 8))), .int (zrmd (v128 M) (Int32.ofInt 8)), .int (x1 + b), .ref 44]) rfl ?_
    refine zpE_call rfl rfl (f_128 (M := Z1) hY1) (fun v h1 nc1 ns1 q8 => ?_) (fun E h1 nc1 ns1 q8 => by cases q8.1)
    obtain ⟨q8, q9⟩ := q8
    cases q8
    cases q9
    obtain ⟨Z2, hZ2⟩ : ∃ Z, Z = r128 Z1 := ⟨_, rfl⟩
    rw [← hZ2]
    have hY3 : zUX kq X Z2.2.2 := by
      rw [hZ2, rl_128]
      exact hY1
    refine zpE_run 1 (L' := [some (.ref 44), some (.int x1), some (.int b), some (.int (zrmd (v128 M) (Int32.ofInt 8)))]) (st' := [.ref 44, .int (v128 Z1), .int (Int32.ofInt 1), .int (zgt (Z1.2.1 (Int32.toNatClampNeg (x1 + b))) (zrmd (v128 M) (Int32.ofInt 8))), .int (zrmd (v128 M) (Int32.ofInt 8)), .int (x1 + b), .ref 44]) rfl ?_
    refine zpE_call rfl rfl (r_117 (zy_mc (M := Z2) hY3)) (fun v h1 nc1 ns1 q8 => ?_) (fun E h1 nc1 ns1 q8 => by cases q8)
    cases q8
    refine zpE_irem rfl (fun _ => ?_)
    refine zpE_run 2 (L' := [some (.ref 44), some (.int x1), some (.int b), some (.int (zrmd (v128 M) (Int32.ofInt 8)))]) (st' := [.int ((zgt (Z1.2.1 (Int32.toNatClampNeg (x1 + b))) (zrmd (v128 M) (Int32.ofInt 8))) ^^^ ((Int32.ofInt 1) <<< ((zrmd (v128 Z1) (Z2.1 1 + Z2.1 2)) &&& 31))), .int (zrmd (v128 M) (Int32.ofInt 8)), .int (x1 + b), .ref 44]) rfl ?_
    refine zpE_call rfl rfl (f_126 (M := Z2) (x1 := x1 + b) (x2 := zrmd (v128 M) (Int32.ofInt 8)) (x3 := (zgt (Z1.2.1 (Int32.toNatClampNeg (x1 + b))) (zrmd (v128 M) (Int32.ofInt 8))) ^^^ ((Int32.ofInt 1) <<< ((zrmd (v128 Z1) (Z2.1 1 + Z2.1 2)) &&& 31))) hY3) (fun v h1 nc1 ns1 q8 => ?_) (fun E h1 nc1 ns1 q8 => by cases q8.1)
    obtain ⟨q8, q9⟩ := q8
    cases q8
    cases q9
    obtain ⟨Z3, hZ3⟩ : ∃ Z, Z = r126 (x1 + b) (zrmd (v128 M) (Int32.ofInt 8)) ((zgt (Z1.2.1 (Int32.toNatClampNeg (x1 + b))) (zrmd (v128 M) (Int32.ofInt 8))) ^^^ ((Int32.ofInt 1) <<< ((zrmd (v128 Z1) (Z2.1 1 + Z2.1 2)) &&& 31))) Z2 := ⟨_, rfl⟩
    rw [← hZ3]
    have hY4 : zUX kq X Z3.2.2 := by
      rw [hZ3, rl_126]
      exact hY3
    refine zpE_run 2 (L' := [some (.ref 44), some (.int x1), some (.int (b + Int32.ofInt 2)), some (.int (zrmd (v128 M) (Int32.ofInt 8)))]) (st' := []) rfl ?_
    rw [show t129 x1 b M = Z3 from by
      unfold t129
      (try rw [← hZ1])
      (try rw [← hZ2])
      (try rw [← hZ3])
      rw [if_neg z54_0]] at K
    exact K _ _ _
  · have z54_0 := zF_n0 q54
    refine zpE_run 3 (L' := [some (.ref 44), some (.int x1), some (.int (b + Int32.ofInt 2)), o3]) (st' := []) rfl ?_
    rw [show t129 x1 b M = M from by
      unfold t129
      rw [if_pos z54_0]] at K
    exact K _ _ _
theorem gr_t129 {x1 b : Int32} : zfrM [11, 12] [0, 1, 2, 3, 4, 5, 6, 7, 8, 9, 10, 11, 12, 13, 14, 15, 16, 17, 18, 19] [] (t129 x1 b M) M := by
  unfold t129
  exact (gm_ite gm_rf (gm_c gr_126 (gm_c gr_128 (gm_c gr_128 gm_rf (by decide) (by decide) (by decide)) (by decide) (by decide) (by decide)) (by decide) (by decide) (by decide)))
theorem rl_t129 {x1 b : Int32} : (t129 x1 b M).2.2 = M.2.2 := gm_l gr_t129
def q129 (x1 : Int32) (M : zRt) : zRt := zmW (zmW M 20 x1 (zgt (M.2.1 20) x1 + Int32.ofInt 1)) 21 x1 (M.1 4)
def r129 (x1 : Int32) (M : zRt) : zRt := if zrmd (zgt ((q129 x1 M).2.1 20) x1) (M.1 6) = 0 then t129 x1 (Int32.ofInt (-1) + Int32.ofInt 2) (t129 x1 (Int32.ofInt (-1)) (q129 x1 M)) else q129 x1 M
theorem gr_q129 {x1 : Int32} : zfrM [] [20, 21] [] (q129 x1 M) M := by
  unfold q129
  exact (gm_c gm_W (gm_c gm_W gm_rf (by decide) (by decide) (by decide)) (by decide) (by decide) (by decide))
theorem f_129 {x1 : Int32} (hX : zUX kq X M.2.2) : zpM xs N 129 [.ref 44, .int x1] (zy S0 M X) nc ns (zOq (.inl none) (zy S0 (r129 x1 M) X)) := by
  intro L0 e
  cases e
  refine zpE_run 4 (L' := [some (.ref 44), some (.int x1), none, none]) (st' := [.int x1, .ref 67, .int x1, .ref 67]) rfl ?_
  refine zpE_aly rfl rfl (fun _ _ => ?_)
  refine zpE_run 2 (L' := [some (.ref 44), some (.int x1), none, none]) (st' := [.int (zgt (M.2.1 20) x1 + Int32.ofInt 1), .int x1, .ref 67]) rfl ?_
  refine zpE_asy (h' := zy S0 (zmW M 20 x1 (zgt (M.2.1 20) x1 + Int32.ofInt 1)) X) rfl rfl rfl (fun _ _ => ?_)
  refine zpE_run 5 (L' := [some (.ref 44), some (.int x1), none, none]) (st' := [.int (M.1 4), .int x1, .ref 68]) rfl ?_
  refine zpE_asy (h' := zy S0 (q129 x1 M) X) rfl rfl rfl (fun _ _ => ?_)
  refine zpE_run 3 (L' := [some (.ref 44), some (.int x1), none, none]) (st' := [.int x1, .ref 67]) rfl ?_
  refine zpE_aly (l := (q129 x1 M).2.1 20) rfl rfl (fun _ _ => ?_)
  refine zpE_run 2 (L' := [some (.ref 44), some (.int x1), none, none]) (st' := [.int (M.1 6), .int (zgt ((q129 x1 M).2.1 20) x1)]) rfl ?_
  refine zpE_irem rfl (fun _ => ?_)
  have h1 : zUX kq X (q129 x1 M).2.2 := hX
  refine zpE_if rfl (fun q => ?_) (fun q => ?_)
  · refine zpE_run 2 (L' := [some (.ref 44), some (.int x1), some (.int (Int32.ofInt (-1))), none]) (st' := []) rfl ?_
    refine zpE_run 2 (L' := [some (.ref 44), some (.int x1), some (.int (Int32.ofInt (-1))), none]) (st' := [.int (Int32.ofInt 1), .int (Int32.ofInt (-1))]) rfl ?_
    refine zpE_icmp rfl (fun q9 => absurd (zF_gt_t q9) (by decide)) (fun _ => ?_)
    refine b_129 h1 (fun o3 nc ns => ?_)
    obtain ⟨Z, hZ⟩ : ∃ Z, Z = t129 x1 (Int32.ofInt (-1)) (q129 x1 M) := ⟨_, rfl⟩
    rw [← hZ]
    have h2 : zUX kq X Z.2.2 := by
      rw [hZ, rl_t129]
      exact h1
    refine zpE_run 2 (L' := [some (.ref 44), some (.int x1), some (.int (Int32.ofInt (-1) + Int32.ofInt 2)), o3]) (st' := [.int (Int32.ofInt 1), .int (Int32.ofInt (-1) + Int32.ofInt 2)]) rfl ?_
    refine zpE_icmp rfl (fun q9 => absurd (zF_gt_t q9) (by decide)) (fun _ => ?_)
    refine b_129 h2 (fun o3 nc ns => ?_)
    refine zpE_run 2 (L' := [some (.ref 44), some (.int x1), some (.int (Int32.ofInt (-1) + Int32.ofInt 2 + Int32.ofInt 2)), o3]) (st' := [.int (Int32.ofInt 1), .int (Int32.ofInt (-1) + Int32.ofInt 2 + Int32.ofInt 2)]) rfl ?_
    refine zpE_icmp rfl (fun _ => ?_) (fun q9 => absurd (Int.not_lt.mpr (zF_gt_f q9)) (by decide))
    exact zpE_end rfl rfl (zOr_f (by
      unfold r129
      rw [← hZ, if_pos (zF_n0 q)]))
  · exact zpE_end rfl rfl (zOr_f (by
      unfold r129
      rw [if_neg (zF_n1 q)]))
theorem gr_129 {x1 : Int32} : zfrM [11, 12] [0, 1, 2, 3, 4, 5, 6, 7, 8, 9, 10, 11, 12, 13, 14, 15, 16, 17, 18, 19, 20, 21] [] (r129 x1 M) M := by
  unfold r129
  exact gm_ite (gm_c gr_t129 (gm_c gr_t129 (gm_c gr_q129 gm_rf (by decide) (by decide) (by decide)) (by decide) (by decide) (by decide)) (by decide) (by decide) (by decide)) (gm_mo gr_q129 (by decide) (by decide) (by decide))
theorem rl_129 {x1 : Int32} : (r129 x1 M).2.2 = M.2.2 := gm_l gr_129
def r132 (x1 : Int32) (x2 : Int32) (M : zRt) : zRt := zmW (r127 x1 (x2 ||| (zsm (r129 (v124 x1 M) M).2.2.2 x2 <<< ((r129 (v124 x1 M) M).1 1 &&& 31))) (r129 (v124 x1 M) M)) 24 x1 (Int32.ofInt 0)
theorem f_132 {x1 x2 : Int32} (hX : zUX kq X M.2.2) : zpM xs N 132 [.ref 44, .int x1, .int x2] (zy S0 M X) nc ns (zOq (.inl none) (zy S0 (r132 x1 x2 M) X)) := by
  intro L0 e
  cases e
  refine zpE_run 3 (L' := [some (.ref 44), some (.int x1), some (.int x2)]) (st' := [.int x1, .ref 44, .ref 44]) rfl ?_
  refine zpE_call rfl rfl (f_124 (M := M) (x1 := x1) hX) (fun v h1 nc1 ns1 q8 => ?_) (fun E h1 nc1 ns1 q8 => by cases q8.1)
  obtain ⟨q8, q9⟩ := q8
  cases q8
  cases q9
  refine zpE_call rfl rfl (f_129 (M := M) (x1 := v124 x1 M) hX) (fun v h1 nc1 ns1 q8 => ?_) (fun E h1 nc1 ns1 q8 => by cases q8.1)
  obtain ⟨q8, q9⟩ := q8
  cases q8
  cases q9
  obtain ⟨Z1, hZ1⟩ : ∃ Z, Z = r129 (v124 x1 M) M := ⟨_, rfl⟩
  rw [← hZ1]
  have hY1 : zUX kq X Z1.2.2 := by
    rw [hZ1, rl_129]
    exact hX
  refine zpE_run 4 (L' := [some (.ref 44), some (.int x1), some (.int x2)]) (st' := [.int x2, .ref 44, .int x1, .ref 44]) rfl ?_
  refine zpE_call rfl rfl (r_119 (zy_mc (M := Z1) hY1)) (fun v h1 nc1 ns1 q8 => ?_) (fun E h1 nc1 ns1 q8 => by cases q8)
  cases q8
  refine zpE_call rfl rfl (f_127 (M := Z1) (x1 := x1) (x2 := x2 ||| (zsm Z1.2.2.2 x2 <<< (Z1.1 1 &&& 31))) hY1) (fun v h1 nc1 ns1 q8 => ?_) (fun E h1 nc1 ns1 q8 => by cases q8.1)
  obtain ⟨q8, q9⟩ := q8
  cases q8
  cases q9
  obtain ⟨Z2, hZ2⟩ : ∃ Z, Z = r127 x1 (x2 ||| (zsm Z1.2.2.2 x2 <<< (Z1.1 1 &&& 31))) Z1 := ⟨_, rfl⟩
  rw [← hZ2]
  have hY2 : zUX kq X Z2.2.2 := by
    rw [hZ2, rl_127]
    exact hY1
  refine zpE_run 4 (L' := [some (.ref 44), some (.int x1), some (.int x2)]) (st' := [.int (Int32.ofInt 0), .int x1, .ref 71]) rfl ?_
  refine zpE_bsy (h' := zy S0 (zmW Z2 24 x1 (Int32.ofInt 0)) X) rfl (zy_g71 (M := Z2)) (zy_s71 (M := Z2)) (fun _ _ _ => ?_)
  refine zpE_gen (fun nc ns => ?_)
  exact zpE_end rfl rfl (zOr_f (M' := zmW Z2 24 x1 (Int32.ofInt 0)) (by unfold r132; (try rw [← hZ1]); (try rw [← hZ2]); (first | done | rfl)))
theorem gr_132 {x1 x2 : Int32} : zfrM [11, 12] [0, 1, 2, 3, 4, 5, 6, 7, 8, 9, 10, 11, 12, 13, 14, 15, 16, 17, 18, 19, 20, 21, 24] [] (r132 x1 x2 M) M := by
  unfold r132
  exact (gm_c gm_W (gm_c gr_127 (gm_c gr_129 gm_rf (by decide) (by decide) (by decide)) (by decide) (by decide) (by decide)) (by decide) (by decide) (by decide))
theorem rl_132 {x1 x2 : Int32} : (r132 x1 x2 M).2.2 = M.2.2 := gm_l gr_132
def d135 (M : zRt) (k : Nat) (u : zRt) : zRt := if ((u.1 4) - (zgt (u.2.1 21) (zgt ((u.2.2.1 1).getD (Int32.toNatClampNeg ((Int32.ofNat k))) []) (Int32.ofInt 0)))).toInt < (zgt ((u.2.2.1 1).getD (Int32.toNatClampNeg ((Int32.ofNat k))) []) (Int32.ofInt 3)).toInt then u else ((r126 (zgt ((u.2.2.1 1).getD (Int32.toNatClampNeg ((Int32.ofNat k))) []) (Int32.ofInt 0)) (zgt ((u.2.2.1 1).getD (Int32.toNatClampNeg ((Int32.ofNat k))) []) (Int32.ofInt 1)) ((zgt (u.2.1 (Int32.toNatClampNeg (zgt ((u.2.2.1 1).getD (Int32.toNatClampNeg ((Int32.ofNat k))) []) (Int32.ofInt 0)))) (zgt ((u.2.2.1 1).getD (Int32.toNatClampNeg ((Int32.ofNat k))) []) (Int32.ofInt 1))) &&& (((Int32.ofInt 1) <<< ((zgt ((u.2.2.1 1).getD (Int32.toNatClampNeg ((Int32.ofNat k))) []) (Int32.ofInt 2)) &&& 31)) ^^^ (Int32.ofInt (-1)))) u))
def w135 (M : zRt) (u0 : zRt) : Nat → zRt
  | 0 => u0
  | k + 1 => d135 M k (w135 M u0 k)
def x135 (M : zRt) (u : zRt) : zRt := u
theorem gr_d135 {k : Nat} {u : zRt} : zfrM [] [0, 1, 2, 3, 4, 5, 6, 7, 8, 9, 10, 11, 12, 13, 14, 15, 16, 17, 18, 19] [] (d135 M k u) u := by
  unfold d135
  exact (gm_ite gm_rf (gm_c gr_126 gm_rf (by decide) (by decide) (by decide)))
theorem gr_w135 {u0 : zRt} : ∀ k, zfrM [] [0, 1, 2, 3, 4, 5, 6, 7, 8, 9, 10, 11, 12, 13, 14, 15, 16, 17, 18, 19] [] (w135 M u0 k) u0
  | 0 => gm_rf
  | k + 1 => gm_tr gr_d135 (gr_w135 k)
theorem kl_135 {u0 : zRt} (k : Nat) : (w135 M u0 k).2.2 = u0.2.2 := gm_l (gr_w135 k)
theorem l_r135 {u0 : zRt} : ∀ (N k : Nat) (o2 : Option Value) (X : zXt) (hX : zUX kq X (w135 M u0 k).2.2) (nc ns : Nat), k ≤ (Int32.ofNat (u0.2.2.1 1).length).toInt.toNat → zpE xs N 135 2 [some (.ref 44), some (.int (Int32.ofNat k)), o2] [] (zy S0 (w135 M u0 k) X) nc ns (zOq (.inl none) (zy S0 (x135 M (w135 M u0 (Int32.ofNat (u0.2.2.1 1).length).toInt.toNat)) X))
  | 0, _, _, _, _, _, _, _ => zpE_0
  | N + 1, k, o2, X, hX, nc, ns, hk => by
    refine zpE_run1 2 (L' := [some (.ref 44), some (.int (Int32.ofNat k)), o2]) (st' := [.ref (X.1 1), .int (Int32.ofNat k)]) rfl ?_
    obtain ⟨vs1, lc1⟩ := zUX_lc (S0 := S0) (M := (w135 M u0 k)) (i := 1) (by decide) hX
    refine zpE_call rfl (show zcallV 0 10 243 12 (.ref (X.1 1) :: _) (zy S0 ((w135 M u0 k)) X) = _ from zcallV_eq rfl lc1 (Nat.le_of_ble_eq_true rfl)) (zul_243 (i := 1) (by decide) hX) (fun v h1 nc1 ns1 q8 => ?_) (fun E h1 nc1 ns1 q8 => by cases q8)
    cases q8
    rw [kl_135]
    refine zpE_icmp rfl (fun q12 => ?_) (fun q12 => ?_)
    · have z12_0 := Int.not_lt.mpr (zF_ge_t q12)
      exact zpE_end rfl rfl (by rw [← zlp_out z12_0 hk]; exact zOr_f (M' := (w135 M u0 k)) (by unfold x135; (first | done | rfl)))
    · have z12_0 := zF_ge_f q12
      refine zpE_run 3 (L' := [some (.ref 44), some (.int (Int32.ofNat k)), o2]) (st' := [.int (Int32.ofNat k), .ref (X.1 1)]) rfl ?_
      have n2 : ¬ (Int32.ofNat k) < 0 ∧ (Int32.toNatClampNeg (Int32.ofNat k)) < (((w135 M u0 k)).2.2.1 1).length := (by rw [kl_135]; exact zlp_rg (n := 3) (M := u0) (i := 1) (by decide) (by rw [← kl_135 k]; exact hX) z12_0 hk)
      obtain ⟨vs3, lc3⟩ := zUX_lc (S0 := S0) (M := (w135 M u0 k)) (i := 1) (by decide) hX
      refine zpE_call rfl (show zcallV 1 10 239 25 (.int (Int32.ofNat k) :: .ref (X.1 1) :: _) (zy S0 ((w135 M u0 k)) X) = _ from zcallV_eq rfl lc3 (Nat.le_of_ble_eq_true rfl)) (zul_239 (i := 1) (j := Int32.ofNat k) (by decide) hX n2) (fun v h1 nc1 ns1 q8 => ?_) (fun E h1 nc1 ns1 q8 => by cases q8)
      cases q8
      refine zpE_chk rfl (zUX_e hX n2) ?_
      refine zpE_run 7 (L' := [some (.ref 44), some (.int (Int32.ofNat k)), some (.ref (zel X 1 (Int32.ofNat k)))]) (st' := [.int (Int32.ofInt 0), .ref (zel X 1 (Int32.ofNat k)), .ref 68, .int (((w135 M u0 k)).1 4)]) rfl ?_
      refine zpE_aly rfl (zUX_e hX n2) (fun _ _ => ?_)
      refine zpE_gen (fun nc ns => ?_)
      refine zpE_aly rfl (zy_g68 (M := (w135 M u0 k))) (fun _ _ => ?_)
      refine zpE_gen (fun nc ns => ?_)
      refine zpE_run 3 (L' := [some (.ref 44), some (.int (Int32.ofNat k)), some (.ref (zel X 1 (Int32.ofNat k)))]) (st' := [.int (Int32.ofInt 3), .ref (zel X 1 (Int32.ofNat k)), .int ((((w135 M u0 k)).1 4) - (zgt (((w135 M u0 k)).2.1 21) (zgt ((((w135 M u0 k)).2.2.1 1).getD (Int32.toNatClampNeg (Int32.ofNat k)) []) (Int32.ofInt 0))))]) rfl ?_
      refine zpE_aly rfl (zUX_e hX n2) (fun _ _ => ?_)
      refine zpE_gen (fun nc ns => ?_)
      refine zpE_icmp rfl (fun q45 => ?_) (fun q45 => ?_)
      · have z45_1 := zF_lt_t q45
        refine zpE_run 2 (L' := [some (.ref 44), some (.int ((Int32.ofNat k) + Int32.ofInt 1)), some (.ref (zel X 1 (Int32.ofNat k)))]) (st' := []) rfl ?_
        have eW : w135 M u0 (k + 1) = (w135 M u0 k) := by
          show d135 M k _ = _
          unfold d135
          rw [if_pos z45_1]
        have hXn : zUX kq X (w135 M u0 (k + 1)).2.2 := by
          rw [eW]
          exact hX
        have K := fun o2 nc ns => l_r135 (u0 := u0) N (k + 1) o2 X hXn nc ns (zlp_in z12_0 hk)
        rw [← zof1, eW] at K
        exact K _ _ _
      · have z45_1 := Int.not_lt.mpr (zF_lt_f q45)
        refine zpE_run 3 (L' := [some (.ref 44), some (.int (Int32.ofNat k)), some (.ref (zel X 1 (Int32.ofNat k)))]) (st' := [.int (Int32.ofInt 0), .ref (zel X 1 (Int32.ofNat k)), .ref 44]) rfl ?_
        refine zpE_aly rfl (zUX_e hX n2) (fun _ _ => ?_)
        refine zpE_gen (fun nc ns => ?_)
        refine zpE_run 2 (L' := [some (.ref 44), some (.int (Int32.ofNat k)), some (.ref (zel X 1 (Int32.ofNat k)))]) (st' := [.int (Int32.ofInt 1), .ref (zel X 1 (Int32.ofNat k)), .int (zgt ((((w135 M u0 k)).2.2.1 1).getD (Int32.toNatClampNeg (Int32.ofNat k)) []) (Int32.ofInt 0)), .ref 44]) rfl ?_
        refine zpE_aly rfl (zUX_e hX n2) (fun _ _ => ?_)
        refine zpE_gen (fun nc ns => ?_)
        refine zpE_run 4 (L' := [some (.ref 44), some (.int (Int32.ofNat k)), some (.ref (zel X 1 (Int32.ofNat k)))]) (st' := [.int (Int32.ofInt 0), .ref (zel X 1 (Int32.ofNat k)), .ref 46, .int (zgt ((((w135 M u0 k)).2.2.1 1).getD (Int32.toNatClampNeg (Int32.ofNat k)) []) (Int32.ofInt 1)), .int (zgt ((((w135 M u0 k)).2.2.1 1).getD (Int32.toNatClampNeg (Int32.ofNat k)) []) (Int32.ofInt 0)), .ref 44]) rfl ?_
        refine zpE_aly rfl (zUX_e hX n2) (fun _ _ => ?_)
        refine zpE_gen (fun nc ns => ?_)
        refine zpE_aaw rfl rfl (fun n4a n4 => ?_)
        replace n4 := And.intro n4a n4
        refine zpE_run 2 (L' := [some (.ref 44), some (.int (Int32.ofNat k)), some (.ref (zel X 1 (Int32.ofNat k)))]) (st' := [.int (Int32.ofInt 1), .ref (zel X 1 (Int32.ofNat k)), .ref (47 + Int32.toNatClampNeg (zgt ((((w135 M u0 k)).2.2.1 1).getD (Int32.toNatClampNeg (Int32.ofNat k)) []) (Int32.ofInt 0))), .int (zgt ((((w135 M u0 k)).2.2.1 1).getD (Int32.toNatClampNeg (Int32.ofNat k)) []) (Int32.ofInt 1)), .int (zgt ((((w135 M u0 k)).2.2.1 1).getD (Int32.toNatClampNeg (Int32.ofNat k)) []) (Int32.ofInt 0)), .ref 44]) rfl ?_
        refine zpE_aly rfl (zUX_e hX n2) (fun _ _ => ?_)
        refine zpE_gen (fun nc ns => ?_)
        refine zpE_aly rfl (zy_row n4.2) (fun _ _ => ?_)
        refine zpE_gen (fun nc ns => ?_)
        refine zpE_run 3 (L' := [some (.ref 44), some (.int (Int32.ofNat k)), some (.ref (zel X 1 (Int32.ofNat k)))]) (st' := [.int (Int32.ofInt 2), .ref (zel X 1 (Int32.ofNat k)), .int (Int32.ofInt 1), .int (zgt (((w135 M u0 k)).2.1 (Int32.toNatClampNeg (zgt ((((w135 M u0 k)).2.2.1 1).getD (Int32.toNatClampNeg (Int32.ofNat k)) []) (Int32.ofInt 0)))) (zgt ((((w135 M u0 k)).2.2.1 1).getD (Int32.toNatClampNeg (Int32.ofNat k)) []) (Int32.ofInt 1))), .int (zgt ((((w135 M u0 k)).2.2.1 1).getD (Int32.toNatClampNeg (Int32.ofNat k)) []) (Int32.ofInt 1)), .int (zgt ((((w135 M u0 k)).2.2.1 1).getD (Int32.toNatClampNeg (Int32.ofNat k)) []) (Int32.ofInt 0)), .ref 44]) rfl ?_
        refine zpE_aly rfl (zUX_e hX n2) (fun _ _ => ?_)
        refine zpE_gen (fun nc ns => ?_)
        refine zpE_run 4 (L' := [some (.ref 44), some (.int (Int32.ofNat k)), some (.ref (zel X 1 (Int32.ofNat k)))]) (st' := [.int ((zgt (((w135 M u0 k)).2.1 (Int32.toNatClampNeg (zgt ((((w135 M u0 k)).2.2.1 1).getD (Int32.toNatClampNeg (Int32.ofNat k)) []) (Int32.ofInt 0)))) (zgt ((((w135 M u0 k)).2.2.1 1).getD (Int32.toNatClampNeg (Int32.ofNat k)) []) (Int32.ofInt 1))) &&& (((Int32.ofInt 1) <<< ((zgt ((((w135 M u0 k)).2.2.1 1).getD (Int32.toNatClampNeg (Int32.ofNat k)) []) (Int32.ofInt 2)) &&& 31)) ^^^ (Int32.ofInt (-1)))), .int (zgt ((((w135 M u0 k)).2.2.1 1).getD (Int32.toNatClampNeg (Int32.ofNat k)) []) (Int32.ofInt 1)), .int (zgt ((((w135 M u0 k)).2.2.1 1).getD (Int32.toNatClampNeg (Int32.ofNat k)) []) (Int32.ofInt 0)), .ref 44]) rfl ?_
        refine zpE_call rfl rfl (f_126 (M := (w135 M u0 k)) (x1 := zgt ((((w135 M u0 k)).2.2.1 1).getD (Int32.toNatClampNeg (Int32.ofNat k)) []) (Int32.ofInt 0)) (x2 := zgt ((((w135 M u0 k)).2.2.1 1).getD (Int32.toNatClampNeg (Int32.ofNat k)) []) (Int32.ofInt 1)) (x3 := (zgt (((w135 M u0 k)).2.1 (Int32.toNatClampNeg (zgt ((((w135 M u0 k)).2.2.1 1).getD (Int32.toNatClampNeg (Int32.ofNat k)) []) (Int32.ofInt 0)))) (zgt ((((w135 M u0 k)).2.2.1 1).getD (Int32.toNatClampNeg (Int32.ofNat k)) []) (Int32.ofInt 1))) &&& (((Int32.ofInt 1) <<< ((zgt ((((w135 M u0 k)).2.2.1 1).getD (Int32.toNatClampNeg (Int32.ofNat k)) []) (Int32.ofInt 2)) &&& 31)) ^^^ (Int32.ofInt (-1)))) hX) (fun v h1 nc1 ns1 q8 => ?_) (fun E h1 nc1 ns1 q8 => by cases q8.1)
        obtain ⟨q8, q9⟩ := q8
        cases q8
        cases q9
        obtain ⟨Z1, hZ1⟩ : ∃ Z, Z = r126 (zgt ((((w135 M u0 k)).2.2.1 1).getD (Int32.toNatClampNeg (Int32.ofNat k)) []) (Int32.ofInt 0)) (zgt ((((w135 M u0 k)).2.2.1 1).getD (Int32.toNatClampNeg (Int32.ofNat k)) []) (Int32.ofInt 1)) ((zgt (((w135 M u0 k)).2.1 (Int32.toNatClampNeg (zgt ((((w135 M u0 k)).2.2.1 1).getD (Int32.toNatClampNeg (Int32.ofNat k)) []) (Int32.ofInt 0)))) (zgt ((((w135 M u0 k)).2.2.1 1).getD (Int32.toNatClampNeg (Int32.ofNat k)) []) (Int32.ofInt 1))) &&& (((Int32.ofInt 1) <<< ((zgt ((((w135 M u0 k)).2.2.1 1).getD (Int32.toNatClampNeg (Int32.ofNat k)) []) (Int32.ofInt 2)) &&& 31)) ^^^ (Int32.ofInt (-1)))) ((w135 M u0 k)) := ⟨_, rfl⟩
        rw [← hZ1]
        have hY5 : zUX kq X Z1.2.2 := by
          rw [hZ1, rl_126]
          exact hX
        refine zpE_run 2 (L' := [some (.ref 44), some (.int ((Int32.ofNat k) + Int32.ofInt 1)), some (.ref (zel X 1 (Int32.ofNat k)))]) (st' := []) rfl ?_
        have eW : w135 M u0 (k + 1) = Z1 := by
          show d135 M k _ = _
          unfold d135
          (try rw [← hZ1])
          rw [if_neg z45_1]
        have hXn : zUX kq X (w135 M u0 (k + 1)).2.2 := by
          rw [eW]
          exact hY5
        have K := fun o2 nc ns => l_r135 (u0 := u0) N (k + 1) o2 X hXn nc ns (zlp_in z12_0 hk)
        rw [← zof1, eW] at K
        exact K _ _ _
def r135  (M : zRt) : zRt := x135 M (w135 M M (Int32.ofNat (M.2.2.1 1).length).toInt.toNat)
theorem f_135 (hX : zUX kq X M.2.2) : zpM xs N 135 [.ref 44] (zy S0 M X) nc ns (zOq (.inl none) (zy S0 (r135 M) X)) := by
  intro L0 e
  cases e
  refine zpE_run 2 rfl ?_
  exact l_r135 (M := M) (u0 := M) N 0 _ X hX _ _ (Nat.zero_le _)
theorem gr_x135 {u : zRt} : zfrM [] [] [] (x135 M u) u := by
  unfold x135
  exact gm_rf
theorem gr_135 : zfrM [] [0, 1, 2, 3, 4, 5, 6, 7, 8, 9, 10, 11, 12, 13, 14, 15, 16, 17, 18, 19] [] (r135 M) M := by
  unfold r135
  exact (gm_c gr_x135 (gm_c (gr_w135 _) gm_rf (by decide) (by decide) (by decide)) (by decide) (by decide) (by decide))
theorem rl_135 : (r135 M).2.2 = M.2.2 := gm_l gr_135
def v140 (x1 : Int32) (x2 : Int32) (M : zRt) : Int32 := if (v138 x1 (zmS M 0 (Int32.ofInt 0))) = ((0 : Int32)) then ((v111 (Int32.ofInt 1) (zmS M 0 (Int32.ofInt 0)))) else (if (v112 x2 (Int32.ofInt 0) (((Int32.ofInt 1) <<< (((zmS M 0 (Int32.ofInt 0)).1 1) &&& 31)) - (Int32.ofInt 1)) (zmS M 0 (Int32.ofInt 0))) = ((0 : Int32)) then ((v111 (Int32.ofInt 2) (zmS M 0 (Int32.ofInt 0)))) else (if (zgt ((zmS M 0 (Int32.ofInt 0)).2.1 25) x1) = ((0 : Int32)) then (if ((r132 x1 x2 (zmS M 0 (Int32.ofInt 0))).1 9) = ((0 : Int32)) then ((v125 x1 (r132 x1 x2 (zmS M 0 (Int32.ofInt 0))))) else (if (zgt ((r132 x1 x2 (zmS M 0 (Int32.ofInt 0))).2.1 25) (v131 x1 (r132 x1 x2 (zmS M 0 (Int32.ofInt 0))))) = ((0 : Int32)) then ((v125 x1 (r132 (v131 x1 (r132 x1 x2 (zmS M 0 (Int32.ofInt 0)))) x2 (r132 x1 x2 (zmS M 0 (Int32.ofInt 0)))))) else ((v125 x1 (r132 x1 x2 (zmS M 0 (Int32.ofInt 0))))))) else ((v111 (Int32.ofInt 3) (zmS M 0 (Int32.ofInt 0))))))
def r140 (x1 : Int32) (x2 : Int32) (M : zRt) : zRt := if (v138 x1 (zmS M 0 (Int32.ofInt 0))) = ((0 : Int32)) then ((r111 (Int32.ofInt 1) (zmS M 0 (Int32.ofInt 0)))) else (if (v112 x2 (Int32.ofInt 0) (((Int32.ofInt 1) <<< (((zmS M 0 (Int32.ofInt 0)).1 1) &&& 31)) - (Int32.ofInt 1)) (zmS M 0 (Int32.ofInt 0))) = ((0 : Int32)) then ((r111 (Int32.ofInt 2) (zmS M 0 (Int32.ofInt 0)))) else (if (zgt ((zmS M 0 (Int32.ofInt 0)).2.1 25) x1) = ((0 : Int32)) then (if ((r132 x1 x2 (zmS M 0 (Int32.ofInt 0))).1 9) = ((0 : Int32)) then ((r132 x1 x2 (zmS M 0 (Int32.ofInt 0)))) else (if (zgt ((r132 x1 x2 (zmS M 0 (Int32.ofInt 0))).2.1 25) (v131 x1 (r132 x1 x2 (zmS M 0 (Int32.ofInt 0))))) = ((0 : Int32)) then ((r132 (v131 x1 (r132 x1 x2 (zmS M 0 (Int32.ofInt 0)))) x2 (r132 x1 x2 (zmS M 0 (Int32.ofInt 0))))) else ((r132 x1 x2 (zmS M 0 (Int32.ofInt 0)))))) else ((r111 (Int32.ofInt 3) (zmS M 0 (Int32.ofInt 0))))))
theorem f_140 {x1 x2 : Int32} (hX : zUX kq X M.2.2) : zpM xs N 140 [.ref 44, .int x1, .int x2] (zy S0 M X) nc ns (zOq (.inl (some (.int (v140 x1 x2 M)))) (zy S0 (r140 x1 x2 M) X)) := by
  intro L0 e
  cases e
  refine zpE_run 4 (L' := [some (.ref 44), some (.int x1), some (.int x2)]) (st' := [.int x1]) (h' := zy S0 (zmS M 0 (Int32.ofInt 0)) X) rfl ?_
  refine zpE_call rfl rfl (f_138 (M := zmS M 0 (Int32.ofInt 0)) (x1 := x1) hX) (fun v h1 nc1 ns1 q8 => ?_) (fun E h1 nc1 ns1 q8 => by cases q8.1)
  obtain ⟨q8, q9⟩ := q8
  cases q8
  cases q9
  refine zpE_if rfl (fun q9 => ?_) (fun q9 => ?_)
  · have z9_0 := zF_n1 q9
    refine zpE_run 8 (L' := [some (.ref 44), some (.int x1), some (.int x2)]) (st' := [.int (((Int32.ofInt 1) <<< (((zmS M 0 (Int32.ofInt 0)).1 1) &&& 31)) - (Int32.ofInt 1)), .int (Int32.ofInt 0), .int x2]) rfl ?_
    refine zpE_call rfl rfl (f_112 (M := zmS M 0 (Int32.ofInt 0)) (x1 := x2) (x2 := Int32.ofInt 0) (x3 := ((Int32.ofInt 1) <<< (((zmS M 0 (Int32.ofInt 0)).1 1) &&& 31)) - (Int32.ofInt 1)) hX) (fun v h1 nc1 ns1 q8 => ?_) (fun E h1 nc1 ns1 q8 => by cases q8.1)
    obtain ⟨q8, q9⟩ := q8
    cases q8
    cases q9
    refine zpE_if rfl (fun q31 => ?_) (fun q31 => ?_)
    · have z31_1 := zF_n1 q31
      refine zpE_run 3 (L' := [some (.ref 44), some (.int x1), some (.int x2)]) (st' := [.int x1, .ref 72]) rfl ?_
      refine zpE_bly rfl (zy_g72 (M := zmS M 0 (Int32.ofInt 0))) (fun _ _ => ?_)
      refine zpE_gen (fun nc ns => ?_)
      refine zpE_if rfl (fun q46 => ?_) (fun q46 => ?_)
      · have z46_2 := zF_e1 q46
        refine zpE_run 3 (L' := [some (.ref 44), some (.int x1), some (.int x2)]) (st' := [.int x2, .int x1, .ref 44]) rfl ?_
        refine zpE_call rfl rfl (f_132 (M := zmS M 0 (Int32.ofInt 0)) (x1 := x1) (x2 := x2) hX) (fun v h1 nc1 ns1 q8 => ?_) (fun E h1 nc1 ns1 q8 => by cases q8.1)
        obtain ⟨q8, q9⟩ := q8
        cases q8
        cases q9
        obtain ⟨Z1, hZ1⟩ : ∃ Z, Z = r132 x1 x2 (zmS M 0 (Int32.ofInt 0)) := ⟨_, rfl⟩
        rw [← hZ1]
        have hY1 : zUX kq X Z1.2.2 := by
          rw [hZ1, rl_132]
          exact hX
        refine zpE_run 2 (L' := [some (.ref 44), some (.int x1), some (.int x2)]) (st' := [.int (Z1.1 9)]) rfl ?_
        refine zpE_if rfl (fun q65 => ?_) (fun q65 => ?_)
        · have z65_3 := zF_e1 q65
          refine zpE_run 2 (L' := [some (.ref 44), some (.int x1), some (.int x2)]) (st' := [.int x1, .ref 44]) rfl ?_
          refine zpE_call rfl rfl (f_125 (M := Z1) (x1 := x1) hY1) (fun v h1 nc1 ns1 q8 => ?_) (fun E h1 nc1 ns1 q8 => by cases q8.1)
          obtain ⟨q8, q9⟩ := q8
          cases q8
          cases q9
          exact zpE_end rfl rfl (zOr_w (M' := Z1) (by unfold v140; (try rw [← hZ1]); rw [if_neg z9_0, if_neg z31_1, if_pos z46_2, if_pos z65_3]) (by unfold r140; (try rw [← hZ1]); rw [if_neg z9_0, if_neg z31_1, if_pos z46_2, if_pos z65_3]))
        · have z65_3 := zF_e0 q65
          refine zpE_run 3 (L' := [some (.ref 44), some (.int x1), some (.int x2)]) (st' := [.int x1, .ref 72]) rfl ?_
          refine zpE_call rfl rfl (f_131 (M := Z1) (x1 := x1) hY1) (fun v h1 nc1 ns1 q8 => ?_) (fun E h1 nc1 ns1 q8 => by cases q8.1)
          obtain ⟨q8, q9⟩ := q8
          cases q8
          cases q9
          refine zpE_bly rfl (zy_g72 (M := Z1)) (fun _ _ => ?_)
          refine zpE_gen (fun nc ns => ?_)
          refine zpE_if rfl (fun q77 => ?_) (fun q77 => ?_)
          · have z77_4 := zF_n1 q77
            refine zpE_run 2 (L' := [some (.ref 44), some (.int x1), some (.int x2)]) (st' := [.int x1, .ref 44]) rfl ?_
            refine zpE_call rfl rfl (f_125 (M := Z1) (x1 := x1) hY1) (fun v h1 nc1 ns1 q8 => ?_) (fun E h1 nc1 ns1 q8 => by cases q8.1)
            obtain ⟨q8, q9⟩ := q8
            cases q8
            cases q9
            exact zpE_end rfl rfl (zOr_w (M' := Z1) (by unfold v140; (try rw [← hZ1]); rw [if_neg z9_0, if_neg z31_1, if_pos z46_2, if_neg z65_3, if_neg z77_4]) (by unfold r140; (try rw [← hZ1]); rw [if_neg z9_0, if_neg z31_1, if_pos z46_2, if_neg z65_3, if_neg z77_4]))
          · have z77_4 := zF_n0 q77
            refine zpE_run 2 (L' := [some (.ref 44), some (.int x1), some (.int x2)]) (st' := [.int x1, .ref 44]) rfl ?_
            refine zpE_call rfl rfl (f_131 (M := Z1) (x1 := x1) hY1) (fun v h1 nc1 ns1 q8 => ?_) (fun E h1 nc1 ns1 q8 => by cases q8.1)
            obtain ⟨q8, q9⟩ := q8
            cases q8
            cases q9
            refine zpE_run 1 (L' := [some (.ref 44), some (.int x1), some (.int x2)]) (st' := [.int x2, .int (v131 x1 Z1), .ref 44]) rfl ?_
            refine zpE_call rfl rfl (f_132 (M := Z1) (x1 := v131 x1 Z1) (x2 := x2) hY1) (fun v h1 nc1 ns1 q8 => ?_) (fun E h1 nc1 ns1 q8 => by cases q8.1)
            obtain ⟨q8, q9⟩ := q8
            cases q8
            cases q9
            obtain ⟨Z2, hZ2⟩ : ∃ Z, Z = r132 (v131 x1 Z1) x2 Z1 := ⟨_, rfl⟩
            rw [← hZ2]
            have hY2 : zUX kq X Z2.2.2 := by
              rw [hZ2, rl_132]
              exact hY1
            refine zpE_run 2 (L' := [some (.ref 44), some (.int x1), some (.int x2)]) (st' := [.int x1, .ref 44]) rfl ?_
            refine zpE_call rfl rfl (f_125 (M := Z2) (x1 := x1) hY2) (fun v h1 nc1 ns1 q8 => ?_) (fun E h1 nc1 ns1 q8 => by cases q8.1)
            obtain ⟨q8, q9⟩ := q8
            cases q8
            cases q9
            exact zpE_end rfl rfl (zOr_w (M' := Z2) (by unfold v140; (try rw [← hZ1]); (try rw [← hZ2]); rw [if_neg z9_0, if_neg z31_1, if_pos z46_2, if_neg z65_3, if_pos z77_4]) (by unfold r140; (try rw [← hZ1]); (try rw [← hZ2]); rw [if_neg z9_0, if_neg z31_1, if_pos z46_2, if_neg z65_3, if_pos z77_4]))
      · have z46_2 := zF_e0 q46
        refine zpE_run 2 (L' := [some (.ref 44), some (.int x1), some (.int x2)]) (st' := [.int (Int32.ofInt 3), .ref 44]) rfl ?_
        refine zpE_call rfl rfl (f_111 (M := zmS M 0 (Int32.ofInt 0)) (x1 := Int32.ofInt 3) hX) (fun v h1 nc1 ns1 q8 => ?_) (fun E h1 nc1 ns1 q8 => by cases q8.1)
        obtain ⟨q8, q9⟩ := q8
        cases q8
        cases q9
        obtain ⟨Z3, hZ3⟩ : ∃ Z, Z = r111 (Int32.ofInt 3) (zmS M 0 (Int32.ofInt 0)) := ⟨_, rfl⟩
        rw [← hZ3]
        have hY3 : zUX kq X Z3.2.2 := by
          rw [hZ3, rl_111]
          exact hX
        exact zpE_end rfl rfl (zOr_w (M' := Z3) (by unfold v140; (try rw [← hZ3]); rw [if_neg z9_0, if_neg z31_1, if_neg z46_2]) (by unfold r140; (try rw [← hZ3]); rw [if_neg z9_0, if_neg z31_1, if_neg z46_2]))
    · have z31_1 := zF_n0 q31
      refine zpE_run 2 (L' := [some (.ref 44), some (.int x1), some (.int x2)]) (st' := [.int (Int32.ofInt 2), .ref 44]) rfl ?_
      refine zpE_call rfl rfl (f_111 (M := zmS M 0 (Int32.ofInt 0)) (x1 := Int32.ofInt 2) hX) (fun v h1 nc1 ns1 q8 => ?_) (fun E h1 nc1 ns1 q8 => by cases q8.1)
      obtain ⟨q8, q9⟩ := q8
      cases q8
      cases q9
      obtain ⟨Z4, hZ4⟩ : ∃ Z, Z = r111 (Int32.ofInt 2) (zmS M 0 (Int32.ofInt 0)) := ⟨_, rfl⟩
      rw [← hZ4]
      have hY4 : zUX kq X Z4.2.2 := by
        rw [hZ4, rl_111]
        exact hX
      exact zpE_end rfl rfl (zOr_w (M' := Z4) (by unfold v140; (try rw [← hZ4]); rw [if_neg z9_0, if_pos z31_1]) (by unfold r140; (try rw [← hZ4]); rw [if_neg z9_0, if_pos z31_1]))
  · have z9_0 := zF_n0 q9
    refine zpE_run 2 (L' := [some (.ref 44), some (.int x1), some (.int x2)]) (st' := [.int (Int32.ofInt 1), .ref 44]) rfl ?_
    refine zpE_call rfl rfl (f_111 (M := zmS M 0 (Int32.ofInt 0)) (x1 := Int32.ofInt 1) hX) (fun v h1 nc1 ns1 q8 => ?_) (fun E h1 nc1 ns1 q8 => by cases q8.1)
    obtain ⟨q8, q9⟩ := q8
    cases q8
    cases q9
    obtain ⟨Z5, hZ5⟩ : ∃ Z, Z = r111 (Int32.ofInt 1) (zmS M 0 (Int32.ofInt 0)) := ⟨_, rfl⟩
    rw [← hZ5]
    have hY5 : zUX kq X Z5.2.2 := by
      rw [hZ5, rl_111]
      exact hX
    exact zpE_end rfl rfl (zOr_w (M' := Z5) (by unfold v140; (try rw [← hZ5]); rw [if_pos z9_0]) (by unfold r140; (try rw [← hZ5]); rw [if_pos z9_0]))
theorem gr_140 {x1 x2 : Int32} : zfrM [0, 11, 12] [0, 1, 2, 3, 4, 5, 6, 7, 8, 9, 10, 11, 12, 13, 14, 15, 16, 17, 18, 19, 20, 21, 24] [] (r140 x1 x2 M) M := by
  unfold r140
  exact (gm_ite (gm_c gr_111 (gm_c gm_S gm_rf (by decide) (by decide) (by decide)) (by decide) (by decide) (by decide)) (gm_ite (gm_c gr_111 (gm_c gm_S gm_rf (by decide) (by decide) (by decide)) (by decide) (by decide) (by decide)) (gm_ite (gm_ite (gm_c gr_132 (gm_c gm_S gm_rf (by decide) (by decide) (by decide)) (by decide) (by decide) (by decide)) (gm_ite (gm_c gr_132 (gm_c gr_132 (gm_c gm_S gm_rf (by decide) (by decide) (by decide)) (by decide) (by decide) (by decide)) (by decide) (by decide) (by decide)) (gm_c gr_132 (gm_c gm_S gm_rf (by decide) (by decide) (by decide)) (by decide) (by decide) (by decide)))) (gm_c gr_111 (gm_c gm_S gm_rf (by decide) (by decide) (by decide)) (by decide) (by decide) (by decide)))))
theorem rl_140 {x1 x2 : Int32} : (r140 x1 x2 M).2.2 = M.2.2 := gm_l gr_140
def v142 (x1 : Int32) (x2 : Int32) (M : zRt) : Int32 := if (v138 x1 (zmS M 0 (Int32.ofInt 0))) = ((0 : Int32)) then ((v111 (Int32.ofInt 1) (zmS M 0 (Int32.ofInt 0)))) else (if (v112 x2 (Int32.ofInt 1) (((Int32.ofInt 1) <<< (((zmS M 0 (Int32.ofInt 0)).1 1 + (zmS M 0 (Int32.ofInt 0)).1 2) &&& 31)) - (Int32.ofInt 1)) (zmS M 0 (Int32.ofInt 0))) = ((0 : Int32)) then ((v111 (Int32.ofInt 2) (zmS M 0 (Int32.ofInt 0)))) else ((v125 x1 (r127 x1 ((v125 x1 (zmS M 0 (Int32.ofInt 0))) ^^^ x2) (zmS M 0 (Int32.ofInt 0))))))
def r142 (x1 : Int32) (x2 : Int32) (M : zRt) : zRt := if (v138 x1 (zmS M 0 (Int32.ofInt 0))) = ((0 : Int32)) then ((r111 (Int32.ofInt 1) (zmS M 0 (Int32.ofInt 0)))) else (if (v112 x2 (Int32.ofInt 1) (((Int32.ofInt 1) <<< (((zmS M 0 (Int32.ofInt 0)).1 1 + (zmS M 0 (Int32.ofInt 0)).1 2) &&& 31)) - (Int32.ofInt 1)) (zmS M 0 (Int32.ofInt 0))) = ((0 : Int32)) then ((r111 (Int32.ofInt 2) (zmS M 0 (Int32.ofInt 0)))) else ((r127 x1 ((v125 x1 (zmS M 0 (Int32.ofInt 0))) ^^^ x2) (zmS M 0 (Int32.ofInt 0)))))
theorem f_142 {x1 x2 : Int32} (hX : zUX kq X M.2.2) : zpM xs N 142 [.ref 44, .int x1, .int x2] (zy S0 M X) nc ns (zOq (.inl (some (.int (v142 x1 x2 M)))) (zy S0 (r142 x1 x2 M) X)) := by
  intro L0 e
  cases e
  refine zpE_run 4 (L' := [some (.ref 44), some (.int x1), some (.int x2)]) (st' := [.int x1]) (h' := zy S0 (zmS M 0 (Int32.ofInt 0)) X) rfl ?_
  refine zpE_call rfl rfl (f_138 (M := zmS M 0 (Int32.ofInt 0)) (x1 := x1) hX) (fun v h1 nc1 ns1 q8 => ?_) (fun E h1 nc1 ns1 q8 => by cases q8.1)
  obtain ⟨q8, q9⟩ := q8
  cases q8
  cases q9
  refine zpE_if rfl (fun q9 => ?_) (fun q9 => ?_)
  · have z9_0 := zF_n1 q9
    refine zpE_run 4 (L' := [some (.ref 44), some (.int x1), some (.int x2)]) (st' := [.ref 44, .int (Int32.ofInt 1), .int (Int32.ofInt 1), .int x2]) rfl ?_
    refine zpE_call rfl rfl (r_117 (zy_mc (M := (zmS M 0 (Int32.ofInt 0))) hX)) (fun v h1 nc1 ns1 q8 => ?_) (fun E h1 nc1 ns1 q8 => by cases q8)
    cases q8
    refine zpE_run 3 (L' := [some (.ref 44), some (.int x1), some (.int x2)]) (st' := [.int (((Int32.ofInt 1) <<< (((zmS M 0 (Int32.ofInt 0)).1 1 + (zmS M 0 (Int32.ofInt 0)).1 2) &&& 31)) - (Int32.ofInt 1)), .int (Int32.ofInt 1), .int x2]) rfl ?_
    refine zpE_call rfl rfl (f_112 (M := zmS M 0 (Int32.ofInt 0)) (x1 := x2) (x2 := Int32.ofInt 1) (x3 := ((Int32.ofInt 1) <<< (((zmS M 0 (Int32.ofInt 0)).1 1 + (zmS M 0 (Int32.ofInt 0)).1 2) &&& 31)) - (Int32.ofInt 1)) hX) (fun v h1 nc1 ns1 q8 => ?_) (fun E h1 nc1 ns1 q8 => by cases q8.1)
    obtain ⟨q8, q9⟩ := q8
    cases q8
    cases q9
    refine zpE_if rfl (fun q31 => ?_) (fun q31 => ?_)
    · have z31_1 := zF_n1 q31
      refine zpE_run 4 (L' := [some (.ref 44), some (.int x1), some (.int x2)]) (st' := [.int x1, .ref 44, .int x1, .ref 44]) rfl ?_
      refine zpE_call rfl rfl (f_125 (M := zmS M 0 (Int32.ofInt 0)) (x1 := x1) hX) (fun v h1 nc1 ns1 q8 => ?_) (fun E h1 nc1 ns1 q8 => by cases q8.1)
      obtain ⟨q8, q9⟩ := q8
      cases q8
      cases q9
      refine zpE_run 2 (L' := [some (.ref 44), some (.int x1), some (.int x2)]) (st' := [.int ((v125 x1 (zmS M 0 (Int32.ofInt 0))) ^^^ x2), .int x1, .ref 44]) rfl ?_
      refine zpE_call rfl rfl (f_127 (M := zmS M 0 (Int32.ofInt 0)) (x1 := x1) (x2 := (v125 x1 (zmS M 0 (Int32.ofInt 0))) ^^^ x2) hX) (fun v h1 nc1 ns1 q8 => ?_) (fun E h1 nc1 ns1 q8 => by cases q8.1)
      obtain ⟨q8, q9⟩ := q8
      cases q8
      cases q9
      obtain ⟨Z1, hZ1⟩ : ∃ Z, Z = r127 x1 ((v125 x1 (zmS M 0 (Int32.ofInt 0))) ^^^ x2) (zmS M 0 (Int32.ofInt 0)) := ⟨_, rfl⟩
      rw [← hZ1]
      have hY1 : zUX kq X Z1.2.2 := by
        rw [hZ1, rl_127]
        exact hX
      refine zpE_run 2 (L' := [some (.ref 44), some (.int x1), some (.int x2)]) (st' := [.int x1, .ref 44]) rfl ?_
      refine zpE_call rfl rfl (f_125 (M := Z1) (x1 := x1) hY1) (fun v h1 nc1 ns1 q8 => ?_) (fun E h1 nc1 ns1 q8 => by cases q8.1)
      obtain ⟨q8, q9⟩ := q8
      cases q8
      cases q9
      exact zpE_end rfl rfl (zOr_w (M' := Z1) (by unfold v142; (try rw [← hZ1]); rw [if_neg z9_0, if_neg z31_1]) (by unfold r142; (try rw [← hZ1]); rw [if_neg z9_0, if_neg z31_1]))
    · have z31_1 := zF_n0 q31
      refine zpE_run 2 (L' := [some (.ref 44), some (.int x1), some (.int x2)]) (st' := [.int (Int32.ofInt 2), .ref 44]) rfl ?_
      refine zpE_call rfl rfl (f_111 (M := zmS M 0 (Int32.ofInt 0)) (x1 := Int32.ofInt 2) hX) (fun v h1 nc1 ns1 q8 => ?_) (fun E h1 nc1 ns1 q8 => by cases q8.1)
      obtain ⟨q8, q9⟩ := q8
      cases q8
      cases q9
      obtain ⟨Z2, hZ2⟩ : ∃ Z, Z = r111 (Int32.ofInt 2) (zmS M 0 (Int32.ofInt 0)) := ⟨_, rfl⟩
      rw [← hZ2]
      have hY2 : zUX kq X Z2.2.2 := by
        rw [hZ2, rl_111]
        exact hX
      exact zpE_end rfl rfl (zOr_w (M' := Z2) (by unfold v142; (try rw [← hZ2]); rw [if_neg z9_0, if_pos z31_1]) (by unfold r142; (try rw [← hZ2]); rw [if_neg z9_0, if_pos z31_1]))
  · have z9_0 := zF_n0 q9
    refine zpE_run 2 (L' := [some (.ref 44), some (.int x1), some (.int x2)]) (st' := [.int (Int32.ofInt 1), .ref 44]) rfl ?_
    refine zpE_call rfl rfl (f_111 (M := zmS M 0 (Int32.ofInt 0)) (x1 := Int32.ofInt 1) hX) (fun v h1 nc1 ns1 q8 => ?_) (fun E h1 nc1 ns1 q8 => by cases q8.1)
    obtain ⟨q8, q9⟩ := q8
    cases q8
    cases q9
    obtain ⟨Z3, hZ3⟩ : ∃ Z, Z = r111 (Int32.ofInt 1) (zmS M 0 (Int32.ofInt 0)) := ⟨_, rfl⟩
    rw [← hZ3]
    have hY3 : zUX kq X Z3.2.2 := by
      rw [hZ3, rl_111]
      exact hX
    exact zpE_end rfl rfl (zOr_w (M' := Z3) (by unfold v142; (try rw [← hZ3]); rw [if_pos z9_0]) (by unfold r142; (try rw [← hZ3]); rw [if_pos z9_0]))
theorem gr_142 {x1 x2 : Int32} : zfrM [0] [0, 1, 2, 3, 4, 5, 6, 7, 8, 9, 10, 11, 12, 13, 14, 15, 16, 17, 18, 19] [] (r142 x1 x2 M) M := by
  unfold r142
  exact (gm_ite (gm_c gr_111 (gm_c gm_S gm_rf (by decide) (by decide) (by decide)) (by decide) (by decide) (by decide)) (gm_ite (gm_c gr_111 (gm_c gm_S gm_rf (by decide) (by decide) (by decide)) (by decide) (by decide) (by decide)) (gm_c gr_127 (gm_c gm_S gm_rf (by decide) (by decide) (by decide)) (by decide) (by decide) (by decide))))
theorem rl_142 {x1 x2 : Int32} : (r142 x1 x2 M).2.2 = M.2.2 := gm_l gr_142
def d145 (x1 : Int32) (x2 : Int32) (x3 : Int32) (l4 : Int32) (M : zRt) (k : Nat) (u : zRt) : zRt := (r129 l4 u)
def w145 (x1 : Int32) (x2 : Int32) (x3 : Int32) (l4 : Int32) (M : zRt) (u0 : zRt) : Nat → zRt
  | 0 => u0
  | k + 1 => d145 x1 x2 x3 l4 M k (w145 x1 x2 x3 l4 M u0 k)
def y145 (x1 : Int32) (x2 : Int32) (x3 : Int32) (l4 : Int32) (M : zRt) (u : zRt) : Int32 := (zgt (u.2.1 20) l4)
def x145 (x1 : Int32) (x2 : Int32) (x3 : Int32) (l4 : Int32) (M : zRt) (u : zRt) : zRt := u
theorem gr_d145 {x1 x2 x3 l4 : Int32} {k : Nat} {u : zRt} : zfrM [11, 12] [0, 1, 2, 3, 4, 5, 6, 7, 8, 9, 10, 11, 12, 13, 14, 15, 16, 17, 18, 19, 20, 21] [] (d145 x1 x2 x3 l4 M k u) u := by
  unfold d145
  exact (gm_c gr_129 gm_rf (by decide) (by decide) (by decide))
theorem gr_w145 {x1 x2 x3 l4 : Int32} {u0 : zRt} : ∀ k, zfrM [11, 12] [0, 1, 2, 3, 4, 5, 6, 7, 8, 9, 10, 11, 12, 13, 14, 15, 16, 17, 18, 19, 20, 21] [] (w145 x1 x2 x3 l4 M u0 k) u0
  | 0 => gm_rf
  | k + 1 => gm_tr gr_d145 (gr_w145 k)
theorem kl_145 {x1 x2 x3 l4 : Int32} {u0 : zRt} (k : Nat) : (w145 x1 x2 x3 l4 M u0 k).2.2 = u0.2.2 := gm_l (gr_w145 k)
theorem l_r145 {x1 x2 x3 l4 : Int32} {u0 : zRt} : ∀ (N k : Nat) (X : zXt) (hX : zUX kq X (w145 x1 x2 x3 l4 M u0 k).2.2) (nc ns : Nat), k ≤ (x3).toInt.toNat → zpE xs N 145 62 [some (.ref 44), some (.int x1), some (.int x2), some (.int x3), some (.int l4), some (.int (Int32.ofNat k))] [] (zy S0 (w145 x1 x2 x3 l4 M u0 k) X) nc ns (zOq (.inl (some (.int (y145 x1 x2 x3 l4 M (w145 x1 x2 x3 l4 M u0 (x3).toInt.toNat))))) (zy S0 (x145 x1 x2 x3 l4 M (w145 x1 x2 x3 l4 M u0 (x3).toInt.toNat)) X))
  | 0, _, _, _, _, _, _ => zpE_0
  | N + 1, k, X, hX, nc, ns, hk => by
    refine zpE_run1 1 (L' := [some (.ref 44), some (.int x1), some (.int x2), some (.int x3), some (.int l4), some (.int (Int32.ofNat k))]) (st' := [.int x3, .int (Int32.ofNat k)]) rfl ?_
    refine zpE_icmp rfl (fun q65 => ?_) (fun q65 => ?_)
    · have z65_0 := Int.not_lt.mpr (zF_ge_t q65)
      refine zpE_run 3 (L' := [some (.ref 44), some (.int x1), some (.int x2), some (.int x3), some (.int l4), some (.int (Int32.ofNat k))]) (st' := [.int l4, .ref 67]) rfl ?_
      refine zpE_aly rfl (zy_g67 (M := (w145 x1 x2 x3 l4 M u0 k))) (fun _ _ => ?_)
      refine zpE_gen (fun nc ns => ?_)
      exact zpE_end rfl rfl (by rw [← zlp_out z65_0 hk]; exact zOr_w (M' := (w145 x1 x2 x3 l4 M u0 k)) (by unfold y145; (first | done | rfl)) (by unfold x145; (first | done | rfl)))
    · have z65_0 := zF_ge_f q65
      refine zpE_run 2 (L' := [some (.ref 44), some (.int x1), some (.int x2), some (.int x3), some (.int l4), some (.int (Int32.ofNat k))]) (st' := [.int l4, .ref 44]) rfl ?_
      refine zpE_call rfl rfl (f_129 (M := (w145 x1 x2 x3 l4 M u0 k)) (x1 := l4) hX) (fun v h1 nc1 ns1 q8 => ?_) (fun E h1 nc1 ns1 q8 => by cases q8.1)
      obtain ⟨q8, q9⟩ := q8
      cases q8
      cases q9
      obtain ⟨Z1, hZ1⟩ : ∃ Z, Z = r129 l4 ((w145 x1 x2 x3 l4 M u0 k)) := ⟨_, rfl⟩
      rw [← hZ1]
      have hY1 : zUX kq X Z1.2.2 := by
        rw [hZ1, rl_129]
        exact hX
      refine zpE_run 2 (L' := [some (.ref 44), some (.int x1), some (.int x2), some (.int x3), some (.int l4), some (.int ((Int32.ofNat k) + Int32.ofInt 1))]) (st' := []) rfl ?_
      have eW : w145 x1 x2 x3 l4 M u0 (k + 1) = Z1 := by
        show d145 x1 x2 x3 l4 M k _ = _
        unfold d145
        (try rw [← hZ1])
        (first | done | rfl)
      have hXn : zUX kq X (w145 x1 x2 x3 l4 M u0 (k + 1)).2.2 := by
        rw [eW]
        exact hY1
      have K := fun nc ns => l_r145 (x1 := x1) (x2 := x2) (x3 := x3) (l4 := l4) (u0 := u0) N (k + 1) X hXn nc ns (zlp_in z65_0 hk)
      rw [← zof1, eW] at K
      exact K _ _
def v145 (x1 : Int32) (x2 : Int32) (x3 : Int32) (M : zRt) : Int32 := if (v112 x1 (Int32.ofInt 0) (Int32.ofInt 1) (zmS M 0 (Int32.ofInt 0))) = ((0 : Int32)) then ((v111 (Int32.ofInt 1) (zmS M 0 (Int32.ofInt 0)))) else (if (v112 x2 (Int32.ofInt 0) (Int32.ofInt 7) (zmS M 0 (Int32.ofInt 0))) = ((0 : Int32)) then ((v111 (Int32.ofInt 1) (zmS M 0 (Int32.ofInt 0)))) else (if (v112 x3 (Int32.ofInt 1) (Int32.ofInt 100) (zmS M 0 (Int32.ofInt 0))) = ((0 : Int32)) then ((v111 (Int32.ofInt 2) (zmS M 0 (Int32.ofInt 0)))) else (y145 x1 x2 x3 (zgt ((zmS M 0 (Int32.ofInt 0)).2.1 22) ((x1 * (Int32.ofInt 8)) + x2)) M (w145 x1 x2 x3 (zgt ((zmS M 0 (Int32.ofInt 0)).2.1 22) ((x1 * (Int32.ofInt 8)) + x2)) M (zmS M 0 (Int32.ofInt 0)) (x3).toInt.toNat))))
def r145 (x1 : Int32) (x2 : Int32) (x3 : Int32) (M : zRt) : zRt := if (v112 x1 (Int32.ofInt 0) (Int32.ofInt 1) (zmS M 0 (Int32.ofInt 0))) = ((0 : Int32)) then ((r111 (Int32.ofInt 1) (zmS M 0 (Int32.ofInt 0)))) else (if (v112 x2 (Int32.ofInt 0) (Int32.ofInt 7) (zmS M 0 (Int32.ofInt 0))) = ((0 : Int32)) then ((r111 (Int32.ofInt 1) (zmS M 0 (Int32.ofInt 0)))) else (if (v112 x3 (Int32.ofInt 1) (Int32.ofInt 100) (zmS M 0 (Int32.ofInt 0))) = ((0 : Int32)) then ((r111 (Int32.ofInt 2) (zmS M 0 (Int32.ofInt 0)))) else (x145 x1 x2 x3 (zgt ((zmS M 0 (Int32.ofInt 0)).2.1 22) ((x1 * (Int32.ofInt 8)) + x2)) M (w145 x1 x2 x3 (zgt ((zmS M 0 (Int32.ofInt 0)).2.1 22) ((x1 * (Int32.ofInt 8)) + x2)) M (zmS M 0 (Int32.ofInt 0)) (x3).toInt.toNat))))
theorem f_145 {x1 x2 x3 : Int32} (hX : zUX kq X M.2.2) : zpM xs N 145 [.ref 44, .int x1, .int x2, .int x3] (zy S0 M X) nc ns (zOq (.inl (some (.int (v145 x1 x2 x3 M)))) (zy S0 (r145 x1 x2 x3 M) X)) := by
  intro L0 e
  cases e
  refine zpE_run 6 (L' := [some (.ref 44), some (.int x1), some (.int x2), some (.int x3), none, none]) (st' := [.int (Int32.ofInt 1), .int (Int32.ofInt 0), .int x1]) (h' := zy S0 (zmS M 0 (Int32.ofInt 0)) X) rfl ?_
  refine zpE_call rfl rfl (f_112 (M := zmS M 0 (Int32.ofInt 0)) (x1 := x1) (x2 := Int32.ofInt 0) (x3 := Int32.ofInt 1) hX) (fun v h1 nc1 ns1 q8 => ?_) (fun E h1 nc1 ns1 q8 => by cases q8.1)
  obtain ⟨q8, q9⟩ := q8
  cases q8
  cases q9
  refine zpE_if rfl (fun q11 => ?_) (fun q11 => ?_)
  · have z11_0 := zF_e1 q11
    refine zpE_run 2 (L' := [some (.ref 44), some (.int x1), some (.int x2), some (.int x3), none, none]) (st' := [.int (Int32.ofInt 1), .ref 44]) rfl ?_
    refine zpE_call rfl rfl (f_111 (M := zmS M 0 (Int32.ofInt 0)) (x1 := Int32.ofInt 1) hX) (fun v h1 nc1 ns1 q8 => ?_) (fun E h1 nc1 ns1 q8 => by cases q8.1)
    obtain ⟨q8, q9⟩ := q8
    cases q8
    cases q9
    obtain ⟨Z1, hZ1⟩ : ∃ Z, Z = r111 (Int32.ofInt 1) (zmS M 0 (Int32.ofInt 0)) := ⟨_, rfl⟩
    rw [← hZ1]
    have hY1 : zUX kq X Z1.2.2 := by
      rw [hZ1, rl_111]
      exact hX
    exact zpE_end rfl rfl (zOr_w (M' := Z1) (by unfold v145; (try rw [← hZ1]); rw [if_pos z11_0]) (by unfold r145; (try rw [← hZ1]); rw [if_pos z11_0]))
  · have z11_0 := zF_e0 q11
    refine zpE_run 3 (L' := [some (.ref 44), some (.int x1), some (.int x2), some (.int x3), none, none]) (st' := [.int (Int32.ofInt 7), .int (Int32.ofInt 0), .int x2]) rfl ?_
    refine zpE_call rfl rfl (f_112 (M := zmS M 0 (Int32.ofInt 0)) (x1 := x2) (x2 := Int32.ofInt 0) (x3 := Int32.ofInt 7) hX) (fun v h1 nc1 ns1 q8 => ?_) (fun E h1 nc1 ns1 q8 => by cases q8.1)
    obtain ⟨q8, q9⟩ := q8
    cases q8
    cases q9
    refine zpE_if rfl (fun q21 => ?_) (fun q21 => ?_)
    · have z21_1 := zF_n1 q21
      refine zpE_run 3 (L' := [some (.ref 44), some (.int x1), some (.int x2), some (.int x3), none, none]) (st' := [.int (Int32.ofInt 100), .int (Int32.ofInt 1), .int x3]) rfl ?_
      refine zpE_call rfl rfl (f_112 (M := zmS M 0 (Int32.ofInt 0)) (x1 := x3) (x2 := Int32.ofInt 1) (x3 := Int32.ofInt 100) hX) (fun v h1 nc1 ns1 q8 => ?_) (fun E h1 nc1 ns1 q8 => by cases q8.1)
      obtain ⟨q8, q9⟩ := q8
      cases q8
      cases q9
      refine zpE_if rfl (fun q37 => ?_) (fun q37 => ?_)
      · have z37_2 := zF_n1 q37
        refine zpE_run 7 (L' := [some (.ref 44), some (.int x1), some (.int x2), some (.int x3), none, none]) (st' := [.int ((x1 * (Int32.ofInt 8)) + x2), .ref 69]) rfl ?_
        refine zpE_aly rfl (zy_g69 (M := zmS M 0 (Int32.ofInt 0))) (fun _ _ => ?_)
        refine zpE_gen (fun nc ns => ?_)
        refine zpE_run 3 rfl ?_
        rw [show v145 x1 x2 x3 M = y145 x1 x2 x3 (zgt ((zmS M 0 (Int32.ofInt 0)).2.1 22) ((x1 * (Int32.ofInt 8)) + x2)) M (w145 x1 x2 x3 (zgt ((zmS M 0 (Int32.ofInt 0)).2.1 22) ((x1 * (Int32.ofInt 8)) + x2)) M (zmS M 0 (Int32.ofInt 0)) (x3).toInt.toNat) from by
          unfold v145
          rw [if_neg z11_0, if_neg z21_1, if_neg z37_2]]
        rw [show r145 x1 x2 x3 M = x145 x1 x2 x3 (zgt ((zmS M 0 (Int32.ofInt 0)).2.1 22) ((x1 * (Int32.ofInt 8)) + x2)) M (w145 x1 x2 x3 (zgt ((zmS M 0 (Int32.ofInt 0)).2.1 22) ((x1 * (Int32.ofInt 8)) + x2)) M (zmS M 0 (Int32.ofInt 0)) (x3).toInt.toNat) from by
          unfold r145
          rw [if_neg z11_0, if_neg z21_1, if_neg z37_2]]
        exact l_r145 (x1 := x1) (x2 := x2) (x3 := x3) (l4 := zgt ((zmS M 0 (Int32.ofInt 0)).2.1 22) ((x1 * (Int32.ofInt 8)) + x2)) (M := M) (u0 := zmS M 0 (Int32.ofInt 0)) N 0 X hX _ _ (Nat.zero_le _)
      · have z37_2 := zF_n0 q37
        refine zpE_run 2 (L' := [some (.ref 44), some (.int x1), some (.int x2), some (.int x3), none, none]) (st' := [.int (Int32.ofInt 2), .ref 44]) rfl ?_
        refine zpE_call rfl rfl (f_111 (M := zmS M 0 (Int32.ofInt 0)) (x1 := Int32.ofInt 2) hX) (fun v h1 nc1 ns1 q8 => ?_) (fun E h1 nc1 ns1 q8 => by cases q8.1)
        obtain ⟨q8, q9⟩ := q8
        cases q8
        cases q9
        obtain ⟨Z2, hZ2⟩ : ∃ Z, Z = r111 (Int32.ofInt 2) (zmS M 0 (Int32.ofInt 0)) := ⟨_, rfl⟩
        rw [← hZ2]
        have hY2 : zUX kq X Z2.2.2 := by
          rw [hZ2, rl_111]
          exact hX
        exact zpE_end rfl rfl (zOr_w (M' := Z2) (by unfold v145; (try rw [← hZ2]); rw [if_neg z11_0, if_neg z21_1, if_pos z37_2]) (by unfold r145; (try rw [← hZ2]); rw [if_neg z11_0, if_neg z21_1, if_pos z37_2]))
    · have z21_1 := zF_n0 q21
      refine zpE_run 2 (L' := [some (.ref 44), some (.int x1), some (.int x2), some (.int x3), none, none]) (st' := [.int (Int32.ofInt 1), .ref 44]) rfl ?_
      refine zpE_call rfl rfl (f_111 (M := zmS M 0 (Int32.ofInt 0)) (x1 := Int32.ofInt 1) hX) (fun v h1 nc1 ns1 q8 => ?_) (fun E h1 nc1 ns1 q8 => by cases q8.1)
      obtain ⟨q8, q9⟩ := q8
      cases q8
      cases q9
      obtain ⟨Z3, hZ3⟩ : ∃ Z, Z = r111 (Int32.ofInt 1) (zmS M 0 (Int32.ofInt 0)) := ⟨_, rfl⟩
      rw [← hZ3]
      have hY3 : zUX kq X Z3.2.2 := by
        rw [hZ3, rl_111]
        exact hX
      exact zpE_end rfl rfl (zOr_w (M' := Z3) (by unfold v145; (try rw [← hZ3]); rw [if_neg z11_0, if_pos z21_1]) (by unfold r145; (try rw [← hZ3]); rw [if_neg z11_0, if_pos z21_1]))
theorem gr_x145 {x1 x2 x3 l4 : Int32} {u : zRt} : zfrM [] [] [] (x145 x1 x2 x3 l4 M u) u := by
  unfold x145
  exact gm_rf
theorem gr_145 {x1 x2 x3 : Int32} : zfrM [0, 11, 12] [0, 1, 2, 3, 4, 5, 6, 7, 8, 9, 10, 11, 12, 13, 14, 15, 16, 17, 18, 19, 20, 21] [] (r145 x1 x2 x3 M) M := by
  unfold r145
  exact (gm_ite (gm_c gr_111 (gm_c gm_S gm_rf (by decide) (by decide) (by decide)) (by decide) (by decide) (by decide)) (gm_ite (gm_c gr_111 (gm_c gm_S gm_rf (by decide) (by decide) (by decide)) (by decide) (by decide) (by decide)) (gm_ite (gm_c gr_111 (gm_c gm_S gm_rf (by decide) (by decide) (by decide)) (by decide) (by decide) (by decide)) (gm_c gr_x145 (gm_c (gr_w145 _) (gm_c gm_S gm_rf (by decide) (by decide) (by decide)) (by decide) (by decide) (by decide)) (by decide) (by decide) (by decide)))))
theorem rl_145 {x1 x2 x3 : Int32} : (r145 x1 x2 x3 M).2.2 = M.2.2 := gm_l gr_145
def v146 (x1 : Int32) (x2 : Int32) (x3 : Int32) (x4 : Int32) (x5 : Int32) (M : zRt) : Int32 := if (v112 x1 (Int32.ofInt 1) (Int32.ofInt 100) (zmS M 0 (Int32.ofInt 0))) = ((0 : Int32)) then ((v111 (Int32.ofInt 1) (zmS M 0 (Int32.ofInt 0)))) else (if (v112 x2 (Int32.ofInt 2) (Int32.ofInt 100) (zmS M 0 (Int32.ofInt 0))) = ((0 : Int32)) then ((v111 (Int32.ofInt 1) (zmS M 0 (Int32.ofInt 0)))) else (if (v112 x3 (Int32.ofInt 0) (Int32.ofInt 8) (zmS M 0 (Int32.ofInt 0))) = ((0 : Int32)) then ((v111 (Int32.ofInt 1) (zmS M 0 (Int32.ofInt 0)))) else (((zmS M 0 (Int32.ofInt 0)).1 7))))
def r146 (x1 : Int32) (x2 : Int32) (x3 : Int32) (x4 : Int32) (x5 : Int32) (M : zRt) : zRt := if (v112 x1 (Int32.ofInt 1) (Int32.ofInt 100) (zmS M 0 (Int32.ofInt 0))) = ((0 : Int32)) then ((r111 (Int32.ofInt 1) (zmS M 0 (Int32.ofInt 0)))) else (if (v112 x2 (Int32.ofInt 2) (Int32.ofInt 100) (zmS M 0 (Int32.ofInt 0))) = ((0 : Int32)) then ((r111 (Int32.ofInt 1) (zmS M 0 (Int32.ofInt 0)))) else (if (v112 x3 (Int32.ofInt 0) (Int32.ofInt 8) (zmS M 0 (Int32.ofInt 0))) = ((0 : Int32)) then ((r111 (Int32.ofInt 1) (zmS M 0 (Int32.ofInt 0)))) else (zmS (zmS (zmS (zmS (zmS (zmS M 0 (Int32.ofInt 0)) 5 x1) 6 x2) 7 x3) 8 x4) 9 x5)))
theorem f_146 {x1 x2 x3 x4 x5 : Int32} (hX : zUX kq X M.2.2) : zpM xs N 146 [.ref 44, .int x1, .int x2, .int x3, .int x4, .int x5] (zy S0 M X) nc ns (zOq (.inl (some (.int (v146 x1 x2 x3 x4 x5 M)))) (zy S0 (r146 x1 x2 x3 x4 x5 M) X)) := by
  intro L0 e
  cases e
  refine zpE_run 6 (L' := [some (.ref 44), some (.int x1), some (.int x2), some (.int x3), some (.int x4), some (.int x5), none]) (st' := [.int (Int32.ofInt 100), .int (Int32.ofInt 1), .int x1]) (h' := zy S0 (zmS M 0 (Int32.ofInt 0)) X) rfl ?_
  refine zpE_call rfl rfl (f_112 (M := zmS M 0 (Int32.ofInt 0)) (x1 := x1) (x2 := Int32.ofInt 1) (x3 := Int32.ofInt 100) hX) (fun v h1 nc1 ns1 q8 => ?_) (fun E h1 nc1 ns1 q8 => by cases q8.1)
  obtain ⟨q8, q9⟩ := q8
  cases q8
  cases q9
  refine zpE_if rfl (fun q12 => ?_) (fun q12 => ?_)
  · have z12_0 := zF_e1 q12
    refine zpE_run 2 (L' := [some (.ref 44), some (.int x1), some (.int x2), some (.int x3), some (.int x4), some (.int x5), none]) (st' := [.int (Int32.ofInt 1), .ref 44]) rfl ?_
    refine zpE_call rfl rfl (f_111 (M := zmS M 0 (Int32.ofInt 0)) (x1 := Int32.ofInt 1) hX) (fun v h1 nc1 ns1 q8 => ?_) (fun E h1 nc1 ns1 q8 => by cases q8.1)
    obtain ⟨q8, q9⟩ := q8
    cases q8
    cases q9
    obtain ⟨Z1, hZ1⟩ : ∃ Z, Z = r111 (Int32.ofInt 1) (zmS M 0 (Int32.ofInt 0)) := ⟨_, rfl⟩
    rw [← hZ1]
    have hY1 : zUX kq X Z1.2.2 := by
      rw [hZ1, rl_111]
      exact hX
    exact zpE_end rfl rfl (zOr_w (M' := Z1) (by unfold v146; (try rw [← hZ1]); rw [if_pos z12_0]) (by unfold r146; (try rw [← hZ1]); rw [if_pos z12_0]))
  · have z12_0 := zF_e0 q12
    refine zpE_run 3 (L' := [some (.ref 44), some (.int x1), some (.int x2), some (.int x3), some (.int x4), some (.int x5), none]) (st' := [.int (Int32.ofInt 100), .int (Int32.ofInt 2), .int x2]) rfl ?_
    refine zpE_call rfl rfl (f_112 (M := zmS M 0 (Int32.ofInt 0)) (x1 := x2) (x2 := Int32.ofInt 2) (x3 := Int32.ofInt 100) hX) (fun v h1 nc1 ns1 q8 => ?_) (fun E h1 nc1 ns1 q8 => by cases q8.1)
    obtain ⟨q8, q9⟩ := q8
    cases q8
    cases q9
    refine zpE_if rfl (fun q22 => ?_) (fun q22 => ?_)
    · have z22_1 := zF_e1 q22
      refine zpE_run 2 (L' := [some (.ref 44), some (.int x1), some (.int x2), some (.int x3), some (.int x4), some (.int x5), none]) (st' := [.int (Int32.ofInt 1), .ref 44]) rfl ?_
      refine zpE_call rfl rfl (f_111 (M := zmS M 0 (Int32.ofInt 0)) (x1 := Int32.ofInt 1) hX) (fun v h1 nc1 ns1 q8 => ?_) (fun E h1 nc1 ns1 q8 => by cases q8.1)
      obtain ⟨q8, q9⟩ := q8
      cases q8
      cases q9
      obtain ⟨Z2, hZ2⟩ : ∃ Z, Z = r111 (Int32.ofInt 1) (zmS M 0 (Int32.ofInt 0)) := ⟨_, rfl⟩
      rw [← hZ2]
      have hY2 : zUX kq X Z2.2.2 := by
        rw [hZ2, rl_111]
        exact hX
      exact zpE_end rfl rfl (zOr_w (M' := Z2) (by unfold v146; (try rw [← hZ2]); rw [if_neg z12_0, if_pos z22_1]) (by unfold r146; (try rw [← hZ2]); rw [if_neg z12_0, if_pos z22_1]))
    · have z22_1 := zF_e0 q22
      refine zpE_run 3 (L' := [some (.ref 44), some (.int x1), some (.int x2), some (.int x3), some (.int x4), some (.int x5), none]) (st' := [.int (Int32.ofInt 8), .int (Int32.ofInt 0), .int x3]) rfl ?_
      refine zpE_call rfl rfl (f_112 (M := zmS M 0 (Int32.ofInt 0)) (x1 := x3) (x2 := Int32.ofInt 0) (x3 := Int32.ofInt 8) hX) (fun v h1 nc1 ns1 q8 => ?_) (fun E h1 nc1 ns1 q8 => by cases q8.1)
      obtain ⟨q8, q9⟩ := q8
      cases q8
      cases q9
      refine zpE_if rfl (fun q32 => ?_) (fun q32 => ?_)
      · have z32_2 := zF_n1 q32
        refine zpE_run 14 (L' := [some (.ref 44), some (.int x1), some (.int x2), some (.int x3), some (.int x4), some (.int x5), some (.int ((zmS M 0 (Int32.ofInt 0)).1 7))]) (st' := [.int x4, .ref 44]) (h' := zy S0 (zmS (zmS (zmS (zmS M 0 (Int32.ofInt 0)) 5 x1) 6 x2) 7 x3) X) rfl ?_
        refine zpE_putb (h' := zy S0 (zmS (zmS (zmS (zmS (zmS M 0 (Int32.ofInt 0)) 5 x1) 6 x2) 7 x3) 8 x4) X) rfl rfl rfl rfl (fun _ => ?_)
        refine zpE_run 2 (L' := [some (.ref 44), some (.int x1), some (.int x2), some (.int x3), some (.int x4), some (.int x5), some (.int ((zmS M 0 (Int32.ofInt 0)).1 7))]) (st' := [.int x5, .ref 44]) rfl ?_
        refine zpE_putb (h' := zy S0 (zmS (zmS (zmS (zmS (zmS (zmS M 0 (Int32.ofInt 0)) 5 x1) 6 x2) 7 x3) 8 x4) 9 x5) X) rfl rfl rfl rfl (fun _ => ?_)
        refine zpE_run 1 (L' := [some (.ref 44), some (.int x1), some (.int x2), some (.int x3), some (.int x4), some (.int x5), some (.int ((zmS M 0 (Int32.ofInt 0)).1 7))]) (st' := [.int ((zmS M 0 (Int32.ofInt 0)).1 7)]) rfl ?_
        exact zpE_end rfl rfl (zOr_w (M' := zmS (zmS (zmS (zmS (zmS (zmS M 0 (Int32.ofInt 0)) 5 x1) 6 x2) 7 x3) 8 x4) 9 x5) (by unfold v146; rw [if_neg z12_0, if_neg z22_1, if_neg z32_2]) (by unfold r146; rw [if_neg z12_0, if_neg z22_1, if_neg z32_2]))
      · have z32_2 := zF_n0 q32
        refine zpE_run 2 (L' := [some (.ref 44), some (.int x1), some (.int x2), some (.int x3), some (.int x4), some (.int x5), none]) (st' := [.int (Int32.ofInt 1), .ref 44]) rfl ?_
        refine zpE_call rfl rfl (f_111 (M := zmS M 0 (Int32.ofInt 0)) (x1 := Int32.ofInt 1) hX) (fun v h1 nc1 ns1 q8 => ?_) (fun E h1 nc1 ns1 q8 => by cases q8.1)
        obtain ⟨q8, q9⟩ := q8
        cases q8
        cases q9
        obtain ⟨Z3, hZ3⟩ : ∃ Z, Z = r111 (Int32.ofInt 1) (zmS M 0 (Int32.ofInt 0)) := ⟨_, rfl⟩
        rw [← hZ3]
        have hY3 : zUX kq X Z3.2.2 := by
          rw [hZ3, rl_111]
          exact hX
        exact zpE_end rfl rfl (zOr_w (M' := Z3) (by unfold v146; (try rw [← hZ3]); rw [if_neg z12_0, if_neg z22_1, if_pos z32_2]) (by unfold r146; (try rw [← hZ3]); rw [if_neg z12_0, if_neg z22_1, if_pos z32_2]))
theorem gr_146 {x1 x2 x3 x4 x5 : Int32} : zfrM [0, 5, 6, 7, 8, 9] [] [] (r146 x1 x2 x3 x4 x5 M) M := by
  unfold r146
  exact (gm_ite (gm_c gr_111 (gm_c gm_S gm_rf (by decide) (by decide) (by decide)) (by decide) (by decide) (by decide)) (gm_ite (gm_c gr_111 (gm_c gm_S gm_rf (by decide) (by decide) (by decide)) (by decide) (by decide) (by decide)) (gm_ite (gm_c gr_111 (gm_c gm_S gm_rf (by decide) (by decide) (by decide)) (by decide) (by decide) (by decide)) (gm_c gm_S (gm_c gm_S (gm_c gm_S (gm_c gm_S (gm_c gm_S (gm_c gm_S gm_rf (by decide) (by decide) (by decide)) (by decide) (by decide) (by decide)) (by decide) (by decide) (by decide)) (by decide) (by decide) (by decide)) (by decide) (by decide) (by decide)) (by decide) (by decide) (by decide)))))
theorem rl_146 {x1 x2 x3 x4 x5 : Int32} : (r146 x1 x2 x3 x4 x5 M).2.2 = M.2.2 := gm_l gr_146
def d147 (x1 : Int32) (x2 : Int32) (l3 : Int32) (l4 : Int32) (l5 : Int32) (M : zRt) (k : Nat) (u : zRt) : zRt := if (zkd (r126 l5 ((Int32.ofNat k)) (zme u.2.2.2 (zgt (u.2.1 (Int32.toNatClampNeg l4)) ((Int32.ofNat k)))) u).2.2.2 (zgt (u.2.1 (Int32.toNatClampNeg l4)) ((Int32.ofNat k)))) = (Int32.ofInt 2) then (zmW (r126 l5 ((Int32.ofNat k)) (zme u.2.2.2 (zgt (u.2.1 (Int32.toNatClampNeg l4)) ((Int32.ofNat k)))) u) 24 ((l3 * (Int32.ofInt 8)) + ((Int32.ofNat k))) ((zgt ((r126 l5 ((Int32.ofNat k)) (zme u.2.2.2 (zgt (u.2.1 (Int32.toNatClampNeg l4)) ((Int32.ofNat k)))) u).2.1 24) ((l3 * (Int32.ofInt 8)) + ((Int32.ofNat k)))) ||| (Int32.ofInt 1))) else (zmW (r126 l5 ((Int32.ofNat k)) (zme u.2.2.2 (zgt (u.2.1 (Int32.toNatClampNeg l4)) ((Int32.ofNat k)))) u) 24 ((l3 * (Int32.ofInt 8)) + ((Int32.ofNat k))) ((zgt ((r126 l5 ((Int32.ofNat k)) (zme u.2.2.2 (zgt (u.2.1 (Int32.toNatClampNeg l4)) ((Int32.ofNat k)))) u).2.1 24) ((l3 * (Int32.ofInt 8)) + ((Int32.ofNat k)))) ||| (Int32.ofInt 0)))
def w147 (x1 : Int32) (x2 : Int32) (l3 : Int32) (l4 : Int32) (l5 : Int32) (M : zRt) (u0 : zRt) : Nat → zRt
  | 0 => u0
  | k + 1 => d147 x1 x2 l3 l4 l5 M k (w147 x1 x2 l3 l4 l5 M u0 k)
def y147 (x1 : Int32) (x2 : Int32) (l3 : Int32) (l4 : Int32) (l5 : Int32) (M : zRt) (u : zRt) : Int32 := (zgt (u.2.1 23) x1)
def x147 (x1 : Int32) (x2 : Int32) (l3 : Int32) (l4 : Int32) (l5 : Int32) (M : zRt) (u : zRt) : zRt := u
theorem gr_d147 {x1 x2 l3 l4 l5 : Int32} {k : Nat} {u : zRt} : zfrM [] [0, 1, 2, 3, 4, 5, 6, 7, 8, 9, 10, 11, 12, 13, 14, 15, 16, 17, 18, 19, 24] [] (d147 x1 x2 l3 l4 l5 M k u) u := by
  unfold d147
  exact (gm_ite (gm_c gm_W (gm_c gr_126 gm_rf (by decide) (by decide) (by decide)) (by decide) (by decide) (by decide)) (gm_c gm_W (gm_c gr_126 gm_rf (by decide) (by decide) (by decide)) (by decide) (by decide) (by decide)))
theorem gr_w147 {x1 x2 l3 l4 l5 : Int32} {u0 : zRt} : ∀ k, zfrM [] [0, 1, 2, 3, 4, 5, 6, 7, 8, 9, 10, 11, 12, 13, 14, 15, 16, 17, 18, 19, 24] [] (w147 x1 x2 l3 l4 l5 M u0 k) u0
  | 0 => gm_rf
  | k + 1 => gm_tr gr_d147 (gr_w147 k)
theorem kl_147 {x1 x2 l3 l4 l5 : Int32} {u0 : zRt} (k : Nat) : (w147 x1 x2 l3 l4 l5 M u0 k).2.2 = u0.2.2 := gm_l (gr_w147 k)
theorem l_r147 {x1 x2 l3 l4 l5 : Int32} {u0 : zRt} : ∀ (N k : Nat) (o7 : Option Value) (X : zXt) (hX : zUX kq X (w147 x1 x2 l3 l4 l5 M u0 k).2.2) (nc ns : Nat), k ≤ (Int32.ofInt 8).toInt.toNat → zpE xs N 147 98 [some (.ref 44), some (.int x1), some (.int x2), some (.int l3), some (.int l4), some (.int l5), some (.int (Int32.ofNat k)), o7] [] (zy S0 (w147 x1 x2 l3 l4 l5 M u0 k) X) nc ns (zOq (.inl (some (.int (y147 x1 x2 l3 l4 l5 M (w147 x1 x2 l3 l4 l5 M u0 (Int32.ofInt 8).toInt.toNat))))) (zy S0 (x147 x1 x2 l3 l4 l5 M (w147 x1 x2 l3 l4 l5 M u0 (Int32.ofInt 8).toInt.toNat)) X))
  | 0, _, _, _, _, _, _, _ => zpE_0
  | N + 1, k, o7, X, hX, nc, ns, hk => by
    refine zpE_run1 1 (L' := [some (.ref 44), some (.int x1), some (.int x2), some (.int l3), some (.int l4), some (.int l5), some (.int (Int32.ofNat k)), o7]) (st' := [.int (Int32.ofInt 8), .int (Int32.ofNat k)]) rfl ?_
    refine zpE_icmp rfl (fun q102 => ?_) (fun q102 => ?_)
    · have z102_0 := Int.not_lt.mpr (zF_ge_t q102)
      refine zpE_run 3 (L' := [some (.ref 44), some (.int x1), some (.int x2), some (.int l3), some (.int l4), some (.int l5), some (.int (Int32.ofNat k)), o7]) (st' := [.int x1, .ref 70]) rfl ?_
      refine zpE_aly rfl (zy_g70 (M := (w147 x1 x2 l3 l4 l5 M u0 k))) (fun _ _ => ?_)
      refine zpE_gen (fun nc ns => ?_)
      exact zpE_end rfl rfl (by rw [← zlp_out z102_0 hk]; exact zOr_w (M' := (w147 x1 x2 l3 l4 l5 M u0 k)) (by unfold y147; (first | done | rfl)) (by unfold x147; (first | done | rfl)))
    · have z102_0 := zF_ge_f q102
      refine zpE_run 3 (L' := [some (.ref 44), some (.int x1), some (.int x2), some (.int l3), some (.int l4), some (.int l5), some (.int (Int32.ofNat k)), o7]) (st' := [.int l4, .ref 46]) rfl ?_
      refine zpE_aaw rfl rfl (fun n1a n1 => ?_)
      replace n1 := And.intro n1a n1
      refine zpE_run 1 (L' := [some (.ref 44), some (.int x1), some (.int x2), some (.int l3), some (.int l4), some (.int l5), some (.int (Int32.ofNat k)), o7]) (st' := [.int (Int32.ofNat k), .ref (47 + Int32.toNatClampNeg l4)]) rfl ?_
      refine zpE_aly rfl (zy_row n1.2) (fun _ _ => ?_)
      refine zpE_gen (fun nc ns => ?_)
      refine zpE_run 6 (L' := [some (.ref 44), some (.int x1), some (.int x2), some (.int l3), some (.int l4), some (.int l5), some (.int (Int32.ofNat k)), some (.int (zgt (((w147 x1 x2 l3 l4 l5 M u0 k)).2.1 (Int32.toNatClampNeg l4)) (Int32.ofNat k)))]) (st' := [.int (zgt (((w147 x1 x2 l3 l4 l5 M u0 k)).2.1 (Int32.toNatClampNeg l4)) (Int32.ofNat k)), .ref 44, .int (Int32.ofNat k), .int l5, .ref 44]) rfl ?_
      refine zpE_call rfl rfl (r_122 (zy_mc (M := ((w147 x1 x2 l3 l4 l5 M u0 k))) hX)) (fun v h1 nc1 ns1 q8 => ?_) (fun E h1 nc1 ns1 q8 => by cases q8)
      cases q8
      refine zpE_call rfl rfl (f_126 (M := (w147 x1 x2 l3 l4 l5 M u0 k)) (x1 := l5) (x2 := Int32.ofNat k) (x3 := zme ((w147 x1 x2 l3 l4 l5 M u0 k)).2.2.2 (zgt (((w147 x1 x2 l3 l4 l5 M u0 k)).2.1 (Int32.toNatClampNeg l4)) (Int32.ofNat k))) hX) (fun v h1 nc1 ns1 q8 => ?_) (fun E h1 nc1 ns1 q8 => by cases q8.1)
      obtain ⟨q8, q9⟩ := q8
      cases q8
      cases q9
      obtain ⟨Z1, hZ1⟩ : ∃ Z, Z = r126 l5 (Int32.ofNat k) (zme ((w147 x1 x2 l3 l4 l5 M u0 k)).2.2.2 (zgt (((w147 x1 x2 l3 l4 l5 M u0 k)).2.1 (Int32.toNatClampNeg l4)) (Int32.ofNat k))) ((w147 x1 x2 l3 l4 l5 M u0 k)) := ⟨_, rfl⟩
      rw [← hZ1]
      have hY2 : zUX kq X Z1.2.2 := by
        rw [hZ1, rl_126]
        exact hX
      refine zpE_run 8 (L' := [some (.ref 44), some (.int x1), some (.int x2), some (.int l3), some (.int l4), some (.int l5), some (.int (Int32.ofNat k)), some (.int (zgt (((w147 x1 x2 l3 l4 l5 M u0 k)).2.1 (Int32.toNatClampNeg l4)) (Int32.ofNat k)))]) (st' := [.int ((l3 * (Int32.ofInt 8)) + (Int32.ofNat k)), .ref 71, .int ((l3 * (Int32.ofInt 8)) + (Int32.ofNat k)), .ref 71]) rfl ?_
      refine zpE_bly rfl (zy_g71 (M := Z1)) (fun _ _ => ?_)
      refine zpE_gen (fun nc ns => ?_)
      refine zpE_run 2 (L' := [some (.ref 44), some (.int x1), some (.int x2), some (.int l3), some (.int l4), some (.int l5), some (.int (Int32.ofNat k)), some (.int (zgt (((w147 x1 x2 l3 l4 l5 M u0 k)).2.1 (Int32.toNatClampNeg l4)) (Int32.ofNat k)))]) (st' := [.int (zgt (((w147 x1 x2 l3 l4 l5 M u0 k)).2.1 (Int32.toNatClampNeg l4)) (Int32.ofNat k)), .ref 44, .int (zgt (Z1.2.1 24) ((l3 * (Int32.ofInt 8)) + (Int32.ofNat k))), .int ((l3 * (Int32.ofInt 8)) + (Int32.ofNat k)), .ref 71]) rfl ?_
      refine zpE_call rfl rfl (r_121 (zy_mc (M := Z1) hY2)) (fun v h1 nc1 ns1 q8 => ?_) (fun E h1 nc1 ns1 q8 => by cases q8)
      cases q8
      refine zpE_run 1 (L' := [some (.ref 44), some (.int x1), some (.int x2), some (.int l3), some (.int l4), some (.int l5), some (.int (Int32.ofNat k)), some (.int (zgt (((w147 x1 x2 l3 l4 l5 M u0 k)).2.1 (Int32.toNatClampNeg l4)) (Int32.ofNat k)))]) (st' := [.int (Int32.ofInt 2), .int (zkd Z1.2.2.2 (zgt (((w147 x1 x2 l3 l4 l5 M u0 k)).2.1 (Int32.toNatClampNeg l4)) (Int32.ofNat k))), .int (zgt (Z1.2.1 24) ((l3 * (Int32.ofInt 8)) + (Int32.ofNat k))), .int ((l3 * (Int32.ofInt 8)) + (Int32.ofNat k)), .ref 71]) rfl ?_
      refine zpE_icmp rfl (fun q151 => ?_) (fun q151 => ?_)
      · have z151_1 := zF_n1 q151
        refine zpE_run 2 (L' := [some (.ref 44), some (.int x1), some (.int x2), some (.int l3), some (.int l4), some (.int l5), some (.int (Int32.ofNat k)), some (.int (zgt (((w147 x1 x2 l3 l4 l5 M u0 k)).2.1 (Int32.toNatClampNeg l4)) (Int32.ofNat k)))]) (st' := [.int ((zgt (Z1.2.1 24) ((l3 * (Int32.ofInt 8)) + (Int32.ofNat k))) ||| (Int32.ofInt 0)), .int ((l3 * (Int32.ofInt 8)) + (Int32.ofNat k)), .ref 71]) rfl ?_
        refine zpE_bsy (h' := zy S0 (zmW Z1 24 ((l3 * (Int32.ofInt 8)) + (Int32.ofNat k)) ((zgt (Z1.2.1 24) ((l3 * (Int32.ofInt 8)) + (Int32.ofNat k))) ||| (Int32.ofInt 0))) X) rfl (zy_g71 (M := Z1)) (zy_s71 (M := Z1)) (fun _ _ _ => ?_)
        refine zpE_gen (fun nc ns => ?_)
        refine zpE_run 2 (L' := [some (.ref 44), some (.int x1), some (.int x2), some (.int l3), some (.int l4), some (.int l5), some (.int ((Int32.ofNat k) + Int32.ofInt 1)), some (.int (zgt (((w147 x1 x2 l3 l4 l5 M u0 k)).2.1 (Int32.toNatClampNeg l4)) (Int32.ofNat k)))]) (st' := []) rfl ?_
        have eW : w147 x1 x2 l3 l4 l5 M u0 (k + 1) = zmW Z1 24 ((l3 * (Int32.ofInt 8)) + (Int32.ofNat k)) ((zgt (Z1.2.1 24) ((l3 * (Int32.ofInt 8)) + (Int32.ofNat k))) ||| (Int32.ofInt 0)) := by
          show d147 x1 x2 l3 l4 l5 M k _ = _
          unfold d147
          (try rw [← hZ1])
          rw [if_neg z151_1]
        have hXn : zUX kq X (w147 x1 x2 l3 l4 l5 M u0 (k + 1)).2.2 := by
          rw [eW]
          exact hY2
        have K := fun o7 nc ns => l_r147 (x1 := x1) (x2 := x2) (l3 := l3) (l4 := l4) (l5 := l5) (u0 := u0) N (k + 1) o7 X hXn nc ns (zlp_in z102_0 hk)
        rw [← zof1, eW] at K
        exact K _ _ _
      · have z151_1 := zF_n0 q151
        refine zpE_run 3 (L' := [some (.ref 44), some (.int x1), some (.int x2), some (.int l3), some (.int l4), some (.int l5), some (.int (Int32.ofNat k)), some (.int (zgt (((w147 x1 x2 l3 l4 l5 M u0 k)).2.1 (Int32.toNatClampNeg l4)) (Int32.ofNat k)))]) (st' := [.int ((zgt (Z1.2.1 24) ((l3 * (Int32.ofInt 8)) + (Int32.ofNat k))) ||| (Int32.ofInt 1)), .int ((l3 * (Int32.ofInt 8)) + (Int32.ofNat k)), .ref 71]) rfl ?_
        refine zpE_bsy (h' := zy S0 (zmW Z1 24 ((l3 * (Int32.ofInt 8)) + (Int32.ofNat k)) ((zgt (Z1.2.1 24) ((l3 * (Int32.ofInt 8)) + (Int32.ofNat k))) ||| (Int32.ofInt 1))) X) rfl (zy_g71 (M := Z1)) (zy_s71 (M := Z1)) (fun _ _ _ => ?_)
        refine zpE_gen (fun nc ns => ?_)
        refine zpE_run 2 (L' := [some (.ref 44), some (.int x1), some (.int x2), some (.int l3), some (.int l4), some (.int l5), some (.int ((Int32.ofNat k) + Int32.ofInt 1)), some (.int (zgt (((w147 x1 x2 l3 l4 l5 M u0 k)).2.1 (Int32.toNatClampNeg l4)) (Int32.ofNat k)))]) (st' := []) rfl ?_
        have eW : w147 x1 x2 l3 l4 l5 M u0 (k + 1) = zmW Z1 24 ((l3 * (Int32.ofInt 8)) + (Int32.ofNat k)) ((zgt (Z1.2.1 24) ((l3 * (Int32.ofInt 8)) + (Int32.ofNat k))) ||| (Int32.ofInt 1)) := by
          show d147 x1 x2 l3 l4 l5 M k _ = _
          unfold d147
          (try rw [← hZ1])
          rw [if_pos z151_1]
        have hXn : zUX kq X (w147 x1 x2 l3 l4 l5 M u0 (k + 1)).2.2 := by
          rw [eW]
          exact hY2
        have K := fun o7 nc ns => l_r147 (x1 := x1) (x2 := x2) (l3 := l3) (l4 := l4) (l5 := l5) (u0 := u0) N (k + 1) o7 X hXn nc ns (zlp_in z102_0 hk)
        rw [← zof1, eW] at K
        exact K _ _ _
def v147 (x1 : Int32) (x2 : Int32) (M : zRt) : Int32 := if (v112 x1 (Int32.ofInt 0) (Int32.ofInt 1) (zmS M 0 (Int32.ofInt 0))) = ((0 : Int32)) then ((v111 (Int32.ofInt 1) (zmS M 0 (Int32.ofInt 0)))) else (if (v112 x2 (Int32.ofInt 0) (Int32.ofInt 7) (zmS M 0 (Int32.ofInt 0))) = ((0 : Int32)) then ((v111 (Int32.ofInt 1) (zmS M 0 (Int32.ofInt 0)))) else (if (zgt ((zmS M 0 (Int32.ofInt 0)).2.1 23) x1) = (Int32.ofInt 2) then ((v111 (Int32.ofInt 2) (zmS M 0 (Int32.ofInt 0)))) else (y147 x1 x2 ((x1 * (Int32.ofInt 8)) + x2) (zgt ((zmS M 0 (Int32.ofInt 0)).2.1 22) ((x1 * (Int32.ofInt 8)) + x2)) (((x1 * (Int32.ofInt 10)) + (Int32.ofInt 8)) + (zgt ((zmS M 0 (Int32.ofInt 0)).2.1 23) x1)) M (w147 x1 x2 ((x1 * (Int32.ofInt 8)) + x2) (zgt ((zmS M 0 (Int32.ofInt 0)).2.1 22) ((x1 * (Int32.ofInt 8)) + x2)) (((x1 * (Int32.ofInt 10)) + (Int32.ofInt 8)) + (zgt ((zmS M 0 (Int32.ofInt 0)).2.1 23) x1)) M (zmW (zmW (zmS M 0 (Int32.ofInt 0)) 23 x1 ((zgt ((zmS M 0 (Int32.ofInt 0)).2.1 23) x1) + (Int32.ofInt 1))) 22 ((x1 * (Int32.ofInt 8)) + x2) (((x1 * (Int32.ofInt 10)) + (Int32.ofInt 8)) + (zgt ((zmS M 0 (Int32.ofInt 0)).2.1 23) x1))) (Int32.ofInt 8).toInt.toNat))))
def r147 (x1 : Int32) (x2 : Int32) (M : zRt) : zRt := if (v112 x1 (Int32.ofInt 0) (Int32.ofInt 1) (zmS M 0 (Int32.ofInt 0))) = ((0 : Int32)) then ((r111 (Int32.ofInt 1) (zmS M 0 (Int32.ofInt 0)))) else (if (v112 x2 (Int32.ofInt 0) (Int32.ofInt 7) (zmS M 0 (Int32.ofInt 0))) = ((0 : Int32)) then ((r111 (Int32.ofInt 1) (zmS M 0 (Int32.ofInt 0)))) else (if (zgt ((zmS M 0 (Int32.ofInt 0)).2.1 23) x1) = (Int32.ofInt 2) then ((r111 (Int32.ofInt 2) (zmS M 0 (Int32.ofInt 0)))) else (x147 x1 x2 ((x1 * (Int32.ofInt 8)) + x2) (zgt ((zmS M 0 (Int32.ofInt 0)).2.1 22) ((x1 * (Int32.ofInt 8)) + x2)) (((x1 * (Int32.ofInt 10)) + (Int32.ofInt 8)) + (zgt ((zmS M 0 (Int32.ofInt 0)).2.1 23) x1)) M (w147 x1 x2 ((x1 * (Int32.ofInt 8)) + x2) (zgt ((zmS M 0 (Int32.ofInt 0)).2.1 22) ((x1 * (Int32.ofInt 8)) + x2)) (((x1 * (Int32.ofInt 10)) + (Int32.ofInt 8)) + (zgt ((zmS M 0 (Int32.ofInt 0)).2.1 23) x1)) M (zmW (zmW (zmS M 0 (Int32.ofInt 0)) 23 x1 ((zgt ((zmS M 0 (Int32.ofInt 0)).2.1 23) x1) + (Int32.ofInt 1))) 22 ((x1 * (Int32.ofInt 8)) + x2) (((x1 * (Int32.ofInt 10)) + (Int32.ofInt 8)) + (zgt ((zmS M 0 (Int32.ofInt 0)).2.1 23) x1))) (Int32.ofInt 8).toInt.toNat))))
theorem f_147 {x1 x2 : Int32} (hX : zUX kq X M.2.2) : zpM xs N 147 [.ref 44, .int x1, .int x2] (zy S0 M X) nc ns (zOq (.inl (some (.int (v147 x1 x2 M)))) (zy S0 (r147 x1 x2 M) X)) := by
  intro L0 e
  cases e
  refine zpE_run 6 (L' := [some (.ref 44), some (.int x1), some (.int x2), none, none, none, none, none]) (st' := [.int (Int32.ofInt 1), .int (Int32.ofInt 0), .int x1]) (h' := zy S0 (zmS M 0 (Int32.ofInt 0)) X) rfl ?_
  refine zpE_call rfl rfl (f_112 (M := zmS M 0 (Int32.ofInt 0)) (x1 := x1) (x2 := Int32.ofInt 0) (x3 := Int32.ofInt 1) hX) (fun v h1 nc1 ns1 q8 => ?_) (fun E h1 nc1 ns1 q8 => by cases q8.1)
  obtain ⟨q8, q9⟩ := q8
  cases q8
  cases q9
  refine zpE_if rfl (fun q11 => ?_) (fun q11 => ?_)
  · have z11_0 := zF_e1 q11
    refine zpE_run 2 (L' := [some (.ref 44), some (.int x1), some (.int x2), none, none, none, none, none]) (st' := [.int (Int32.ofInt 1), .ref 44]) rfl ?_
    refine zpE_call rfl rfl (f_111 (M := zmS M 0 (Int32.ofInt 0)) (x1 := Int32.ofInt 1) hX) (fun v h1 nc1 ns1 q8 => ?_) (fun E h1 nc1 ns1 q8 => by cases q8.1)
    obtain ⟨q8, q9⟩ := q8
    cases q8
    cases q9
    obtain ⟨Z1, hZ1⟩ : ∃ Z, Z = r111 (Int32.ofInt 1) (zmS M 0 (Int32.ofInt 0)) := ⟨_, rfl⟩
    rw [← hZ1]
    have hY1 : zUX kq X Z1.2.2 := by
      rw [hZ1, rl_111]
      exact hX
    exact zpE_end rfl rfl (zOr_w (M' := Z1) (by unfold v147; (try rw [← hZ1]); rw [if_pos z11_0]) (by unfold r147; (try rw [← hZ1]); rw [if_pos z11_0]))
  · have z11_0 := zF_e0 q11
    refine zpE_run 3 (L' := [some (.ref 44), some (.int x1), some (.int x2), none, none, none, none, none]) (st' := [.int (Int32.ofInt 7), .int (Int32.ofInt 0), .int x2]) rfl ?_
    refine zpE_call rfl rfl (f_112 (M := zmS M 0 (Int32.ofInt 0)) (x1 := x2) (x2 := Int32.ofInt 0) (x3 := Int32.ofInt 7) hX) (fun v h1 nc1 ns1 q8 => ?_) (fun E h1 nc1 ns1 q8 => by cases q8.1)
    obtain ⟨q8, q9⟩ := q8
    cases q8
    cases q9
    refine zpE_if rfl (fun q21 => ?_) (fun q21 => ?_)
    · have z21_1 := zF_n1 q21
      refine zpE_run 3 (L' := [some (.ref 44), some (.int x1), some (.int x2), none, none, none, none, none]) (st' := [.int x1, .ref 70]) rfl ?_
      refine zpE_aly rfl (zy_g70 (M := zmS M 0 (Int32.ofInt 0))) (fun _ _ => ?_)
      refine zpE_gen (fun nc ns => ?_)
      refine zpE_run 1 (L' := [some (.ref 44), some (.int x1), some (.int x2), none, none, none, none, none]) (st' := [.int (Int32.ofInt 2), .int (zgt ((zmS M 0 (Int32.ofInt 0)).2.1 23) x1)]) rfl ?_
      refine zpE_icmp rfl (fun q37 => ?_) (fun q37 => ?_)
      · have z37_2 := zF_n1 q37
        refine zpE_run 9 (L' := [some (.ref 44), some (.int x1), some (.int x2), some (.int ((x1 * (Int32.ofInt 8)) + x2)), none, none, none, none]) (st' := [.int ((x1 * (Int32.ofInt 8)) + x2), .ref 69]) rfl ?_
        refine zpE_aly rfl (zy_g69 (M := zmS M 0 (Int32.ofInt 0))) (fun _ _ => ?_)
        refine zpE_gen (fun nc ns => ?_)
        refine zpE_run 9 (L' := [some (.ref 44), some (.int x1), some (.int x2), some (.int ((x1 * (Int32.ofInt 8)) + x2)), some (.int (zgt ((zmS M 0 (Int32.ofInt 0)).2.1 22) ((x1 * (Int32.ofInt 8)) + x2))), none, none, none]) (st' := [.int x1, .ref 70, .int ((x1 * (Int32.ofInt 10)) + (Int32.ofInt 8))]) rfl ?_
        refine zpE_aly rfl (zy_g70 (M := zmS M 0 (Int32.ofInt 0))) (fun _ _ => ?_)
        refine zpE_gen (fun nc ns => ?_)
        refine zpE_run 6 (L' := [some (.ref 44), some (.int x1), some (.int x2), some (.int ((x1 * (Int32.ofInt 8)) + x2)), some (.int (zgt ((zmS M 0 (Int32.ofInt 0)).2.1 22) ((x1 * (Int32.ofInt 8)) + x2))), some (.int (((x1 * (Int32.ofInt 10)) + (Int32.ofInt 8)) + (zgt ((zmS M 0 (Int32.ofInt 0)).2.1 23) x1))), none, none]) (st' := [.int x1, .ref 70, .int x1, .ref 70]) rfl ?_
        refine zpE_aly rfl (zy_g70 (M := zmS M 0 (Int32.ofInt 0))) (fun _ _ => ?_)
        refine zpE_gen (fun nc ns => ?_)
        refine zpE_run 2 (L' := [some (.ref 44), some (.int x1), some (.int x2), some (.int ((x1 * (Int32.ofInt 8)) + x2)), some (.int (zgt ((zmS M 0 (Int32.ofInt 0)).2.1 22) ((x1 * (Int32.ofInt 8)) + x2))), some (.int (((x1 * (Int32.ofInt 10)) + (Int32.ofInt 8)) + (zgt ((zmS M 0 (Int32.ofInt 0)).2.1 23) x1))), none, none]) (st' := [.int ((zgt ((zmS M 0 (Int32.ofInt 0)).2.1 23) x1) + (Int32.ofInt 1)), .int x1, .ref 70]) rfl ?_
        refine zpE_asy (h' := zy S0 (zmW (zmS M 0 (Int32.ofInt 0)) 23 x1 ((zgt ((zmS M 0 (Int32.ofInt 0)).2.1 23) x1) + (Int32.ofInt 1))) X) rfl (zy_g70 (M := zmS M 0 (Int32.ofInt 0))) (zy_s70 (M := zmS M 0 (Int32.ofInt 0))) (fun _ _ => ?_)
        refine zpE_gen (fun nc ns => ?_)
        refine zpE_run 4 (L' := [some (.ref 44), some (.int x1), some (.int x2), some (.int ((x1 * (Int32.ofInt 8)) + x2)), some (.int (zgt ((zmS M 0 (Int32.ofInt 0)).2.1 22) ((x1 * (Int32.ofInt 8)) + x2))), some (.int (((x1 * (Int32.ofInt 10)) + (Int32.ofInt 8)) + (zgt ((zmS M 0 (Int32.ofInt 0)).2.1 23) x1))), none, none]) (st' := [.int (((x1 * (Int32.ofInt 10)) + (Int32.ofInt 8)) + (zgt ((zmS M 0 (Int32.ofInt 0)).2.1 23) x1)), .int ((x1 * (Int32.ofInt 8)) + x2), .ref 69]) rfl ?_
        refine zpE_asy (h' := zy S0 (zmW (zmW (zmS M 0 (Int32.ofInt 0)) 23 x1 ((zgt ((zmS M 0 (Int32.ofInt 0)).2.1 23) x1) + (Int32.ofInt 1))) 22 ((x1 * (Int32.ofInt 8)) + x2) (((x1 * (Int32.ofInt 10)) + (Int32.ofInt 8)) + (zgt ((zmS M 0 (Int32.ofInt 0)).2.1 23) x1))) X) rfl (zy_g69 (M := zmW (zmS M 0 (Int32.ofInt 0)) 23 x1 ((zgt ((zmS M 0 (Int32.ofInt 0)).2.1 23) x1) + (Int32.ofInt 1)))) (zy_s69 (M := zmW (zmS M 0 (Int32.ofInt 0)) 23 x1 ((zgt ((zmS M 0 (Int32.ofInt 0)).2.1 23) x1) + (Int32.ofInt 1)))) (fun _ _ => ?_)
        refine zpE_gen (fun nc ns => ?_)
        refine zpE_run 2 rfl ?_
        rw [show v147 x1 x2 M = y147 x1 x2 ((x1 * (Int32.ofInt 8)) + x2) (zgt ((zmS M 0 (Int32.ofInt 0)).2.1 22) ((x1 * (Int32.ofInt 8)) + x2)) (((x1 * (Int32.ofInt 10)) + (Int32.ofInt 8)) + (zgt ((zmS M 0 (Int32.ofInt 0)).2.1 23) x1)) M (w147 x1 x2 ((x1 * (Int32.ofInt 8)) + x2) (zgt ((zmS M 0 (Int32.ofInt 0)).2.1 22) ((x1 * (Int32.ofInt 8)) + x2)) (((x1 * (Int32.ofInt 10)) + (Int32.ofInt 8)) + (zgt ((zmS M 0 (Int32.ofInt 0)).2.1 23) x1)) M (zmW (zmW (zmS M 0 (Int32.ofInt 0)) 23 x1 ((zgt ((zmS M 0 (Int32.ofInt 0)).2.1 23) x1) + (Int32.ofInt 1))) 22 ((x1 * (Int32.ofInt 8)) + x2) (((x1 * (Int32.ofInt 10)) + (Int32.ofInt 8)) + (zgt ((zmS M 0 (Int32.ofInt 0)).2.1 23) x1))) (Int32.ofInt 8).toInt.toNat) from by
          unfold v147
          rw [if_neg z11_0, if_neg z21_1, if_neg z37_2]]
        rw [show r147 x1 x2 M = x147 x1 x2 ((x1 * (Int32.ofInt 8)) + x2) (zgt ((zmS M 0 (Int32.ofInt 0)).2.1 22) ((x1 * (Int32.ofInt 8)) + x2)) (((x1 * (Int32.ofInt 10)) + (Int32.ofInt 8)) + (zgt ((zmS M 0 (Int32.ofInt 0)).2.1 23) x1)) M (w147 x1 x2 ((x1 * (Int32.ofInt 8)) + x2) (zgt ((zmS M 0 (Int32.ofInt 0)).2.1 22) ((x1 * (Int32.ofInt 8)) + x2)) (((x1 * (Int32.ofInt 10)) + (Int32.ofInt 8)) + (zgt ((zmS M 0 (Int32.ofInt 0)).2.1 23) x1)) M (zmW (zmW (zmS M 0 (Int32.ofInt 0)) 23 x1 ((zgt ((zmS M 0 (Int32.ofInt 0)).2.1 23) x1) + (Int32.ofInt 1))) 22 ((x1 * (Int32.ofInt 8)) + x2) (((x1 * (Int32.ofInt 10)) + (Int32.ofInt 8)) + (zgt ((zmS M 0 (Int32.ofInt 0)).2.1 23) x1))) (Int32.ofInt 8).toInt.toNat) from by
          unfold r147
          rw [if_neg z11_0, if_neg z21_1, if_neg z37_2]]
        exact l_r147 (x1 := x1) (x2 := x2) (l3 := (x1 * (Int32.ofInt 8)) + x2) (l4 := zgt ((zmS M 0 (Int32.ofInt 0)).2.1 22) ((x1 * (Int32.ofInt 8)) + x2)) (l5 := ((x1 * (Int32.ofInt 10)) + (Int32.ofInt 8)) + (zgt ((zmS M 0 (Int32.ofInt 0)).2.1 23) x1)) (M := M) (u0 := zmW (zmW (zmS M 0 (Int32.ofInt 0)) 23 x1 ((zgt ((zmS M 0 (Int32.ofInt 0)).2.1 23) x1) + (Int32.ofInt 1))) 22 ((x1 * (Int32.ofInt 8)) + x2) (((x1 * (Int32.ofInt 10)) + (Int32.ofInt 8)) + (zgt ((zmS M 0 (Int32.ofInt 0)).2.1 23) x1))) N 0 _ X hX _ _ (Nat.zero_le _)
      · have z37_2 := zF_n0 q37
        refine zpE_run 2 (L' := [some (.ref 44), some (.int x1), some (.int x2), none, none, none, none, none]) (st' := [.int (Int32.ofInt 2), .ref 44]) rfl ?_
        refine zpE_call rfl rfl (f_111 (M := zmS M 0 (Int32.ofInt 0)) (x1 := Int32.ofInt 2) hX) (fun v h1 nc1 ns1 q8 => ?_) (fun E h1 nc1 ns1 q8 => by cases q8.1)
        obtain ⟨q8, q9⟩ := q8
        cases q8
        cases q9
        obtain ⟨Z2, hZ2⟩ : ∃ Z, Z = r111 (Int32.ofInt 2) (zmS M 0 (Int32.ofInt 0)) := ⟨_, rfl⟩
        rw [← hZ2]
        have hY2 : zUX kq X Z2.2.2 := by
          rw [hZ2, rl_111]
          exact hX
        exact zpE_end rfl rfl (zOr_w (M' := Z2) (by unfold v147; (try rw [← hZ2]); rw [if_neg z11_0, if_neg z21_1, if_pos z37_2]) (by unfold r147; (try rw [← hZ2]); rw [if_neg z11_0, if_neg z21_1, if_pos z37_2]))
    · have z21_1 := zF_n0 q21
      refine zpE_run 2 (L' := [some (.ref 44), some (.int x1), some (.int x2), none, none, none, none, none]) (st' := [.int (Int32.ofInt 1), .ref 44]) rfl ?_
      refine zpE_call rfl rfl (f_111 (M := zmS M 0 (Int32.ofInt 0)) (x1 := Int32.ofInt 1) hX) (fun v h1 nc1 ns1 q8 => ?_) (fun E h1 nc1 ns1 q8 => by cases q8.1)
      obtain ⟨q8, q9⟩ := q8
      cases q8
      cases q9
      obtain ⟨Z3, hZ3⟩ : ∃ Z, Z = r111 (Int32.ofInt 1) (zmS M 0 (Int32.ofInt 0)) := ⟨_, rfl⟩
      rw [← hZ3]
      have hY3 : zUX kq X Z3.2.2 := by
        rw [hZ3, rl_111]
        exact hX
      exact zpE_end rfl rfl (zOr_w (M' := Z3) (by unfold v147; (try rw [← hZ3]); rw [if_neg z11_0, if_pos z21_1]) (by unfold r147; (try rw [← hZ3]); rw [if_neg z11_0, if_pos z21_1]))
theorem gr_x147 {x1 x2 l3 l4 l5 : Int32} {u : zRt} : zfrM [] [] [] (x147 x1 x2 l3 l4 l5 M u) u := by
  unfold x147
  exact gm_rf
theorem gr_147 {x1 x2 : Int32} : zfrM [0] [0, 1, 2, 3, 4, 5, 6, 7, 8, 9, 10, 11, 12, 13, 14, 15, 16, 17, 18, 19, 22, 23, 24] [] (r147 x1 x2 M) M := by
  unfold r147
  exact (gm_ite (gm_c gr_111 (gm_c gm_S gm_rf (by decide) (by decide) (by decide)) (by decide) (by decide) (by decide)) (gm_ite (gm_c gr_111 (gm_c gm_S gm_rf (by decide) (by decide) (by decide)) (by decide) (by decide) (by decide)) (gm_ite (gm_c gr_111 (gm_c gm_S gm_rf (by decide) (by decide) (by decide)) (by decide) (by decide) (by decide)) (gm_c gr_x147 (gm_c (gr_w147 _) (gm_c gm_W (gm_c gm_W (gm_c gm_S gm_rf (by decide) (by decide) (by decide)) (by decide) (by decide) (by decide)) (by decide) (by decide) (by decide)) (by decide) (by decide) (by decide)) (by decide) (by decide) (by decide)))))
theorem rl_147 {x1 x2 : Int32} : (r147 x1 x2 M).2.2 = M.2.2 := gm_l gr_147
def d149_71 (l3 : Int32) (M : zRt) (k : Nat) (u : Int32) : Int32 := if (zgt (M.2.1 24) ((Int32.ofNat k))) = ((0 : Int32)) then (u + (Int32.ofInt 0)) else (u + (Int32.ofInt 1))
def w149_71 (l3 : Int32) (M : zRt) (u0 : Int32) : Nat → Int32
  | 0 => u0
  | k + 1 => d149_71 l3 M k (w149_71 l3 M u0 k)
def y149_71 (l3 : Int32) (M : zRt) (u : Int32) : Int32 := u
theorem l_r149_71 {l3 : Int32} {u0 : Int32} (hX : zUX kq X M.2.2) : ∀ (N k : Nat) (o5 : Option Value) (nc ns : Nat), k ≤ (l3).toInt.toNat → zpE xs N 149 10 [some (.ref 71), some (.int ((w149_71 l3 M u0 k))), some (.ref 71), some (.int l3), some (.int (Int32.ofNat k)), o5] [] (zy S0 M X) nc ns (zOq (.inl (some (.int (y149_71 l3 M (w149_71 l3 M u0 (l3).toInt.toNat))))) (zy S0 M X))
  | 0, _, _, _, _, _ => zpE_0
  | N + 1, k, o5, nc, ns, hk => by
    refine zpE_run1 1 (L' := [some (.ref 71), some (.int ((w149_71 l3 M u0 k))), some (.ref 71), some (.int l3), some (.int (Int32.ofNat k)), o5]) (st' := [.int l3, .int (Int32.ofNat k)]) rfl ?_
    refine zpE_icmp rfl (fun q13 => ?_) (fun q13 => ?_)
    · have z13_0 := Int.not_lt.mpr (zF_ge_t q13)
      refine zpE_run 1 (L' := [some (.ref 71), some (.int ((w149_71 l3 M u0 k))), some (.ref 71), some (.int l3), some (.int (Int32.ofNat k)), o5]) (st' := [.int ((w149_71 l3 M u0 k))]) rfl ?_
      exact zpE_end rfl rfl (by rw [← zlp_out z13_0 hk]; exact zOq_v (by unfold y149_71; (first | done | rfl)))
    · have z13_0 := zF_ge_f q13
      refine zpE_run 2 (L' := [some (.ref 71), some (.int ((w149_71 l3 M u0 k))), some (.ref 71), some (.int l3), some (.int (Int32.ofNat k)), o5]) (st' := [.int (Int32.ofNat k), .ref 71]) rfl ?_
      refine zpE_bly rfl (zy_g71 (M := M)) (fun _ _ => ?_)
      refine zpE_gen (fun nc ns => ?_)
      refine zpE_run 3 (L' := [some (.ref 71), some (.int ((w149_71 l3 M u0 k))), some (.ref 71), some (.int l3), some (.int (Int32.ofNat k)), some (.int (zgt (M.2.1 24) (Int32.ofNat k)))]) (st' := [.int (zgt (M.2.1 24) (Int32.ofNat k)), .int ((w149_71 l3 M u0 k))]) rfl ?_
      refine zpE_if rfl (fun q25 => ?_) (fun q25 => ?_)
      · have z25_1 := zF_e1 q25
        refine zpE_run 5 (L' := [some (.ref 71), some (.int (((w149_71 l3 M u0 k)) + (Int32.ofInt 0))), some (.ref 71), some (.int l3), some (.int ((Int32.ofNat k) + Int32.ofInt 1)), some (.int (zgt (M.2.1 24) (Int32.ofNat k)))]) (st' := []) rfl ?_
        have eW : w149_71 l3 M u0 (k + 1) = ((w149_71 l3 M u0 k)) + (Int32.ofInt 0) := by
          show d149_71 l3 M k _ = _
          unfold d149_71
          rw [if_pos z25_1]
        have K := fun o5 nc ns => l_r149_71 (l3 := l3) (u0 := u0) hX N (k + 1) o5 nc ns (zlp_in z13_0 hk)
        rw [← zof1, eW] at K
        exact K _ _ _
      · have z25_1 := zF_e0 q25
        refine zpE_run 6 (L' := [some (.ref 71), some (.int (((w149_71 l3 M u0 k)) + (Int32.ofInt 1))), some (.ref 71), some (.int l3), some (.int ((Int32.ofNat k) + Int32.ofInt 1)), some (.int (zgt (M.2.1 24) (Int32.ofNat k)))]) (st' := []) rfl ?_
        have eW : w149_71 l3 M u0 (k + 1) = ((w149_71 l3 M u0 k)) + (Int32.ofInt 1) := by
          show d149_71 l3 M k _ = _
          unfold d149_71
          rw [if_neg z25_1]
        have K := fun o5 nc ns => l_r149_71 (l3 := l3) (u0 := u0) hX N (k + 1) o5 nc ns (zlp_in z13_0 hk)
        rw [← zof1, eW] at K
        exact K _ _ _
def v149_71  (M : zRt) : Int32 := y149_71 (Int32.ofNat (M.2.1 24).length) M (w149_71 (Int32.ofNat (M.2.1 24).length) M (Int32.ofInt 0) ((Int32.ofNat (M.2.1 24).length)).toInt.toNat)
theorem f_149_71 (hX : zUX kq X M.2.2) : zpM xs N 149 [.ref 71] (zy S0 M X) nc ns (zOq (.inl (some (.int (v149_71 M)))) (zy S0 M X)) := by
  intro L0 e
  cases e
  refine zpE_run 5 (L' := [some (.ref 71), some (.int (Int32.ofInt 0)), some (.ref 71), none, none, none]) (st' := [.ref 71]) rfl ?_
  refine zpE_alen rfl rfl (by decide) ?_
  rw [List.length_map]
  refine zpE_run 3 rfl ?_
  exact l_r149_71 (l3 := Int32.ofNat (M.2.1 24).length) (M := M) (u0 := Int32.ofInt 0) hX N 0 _ _ _ (Nat.zero_le _)
def d149_72 (l3 : Int32) (M : zRt) (k : Nat) (u : Int32) : Int32 := if (zgt (M.2.1 25) ((Int32.ofNat k))) = ((0 : Int32)) then (u + (Int32.ofInt 0)) else (u + (Int32.ofInt 1))
def w149_72 (l3 : Int32) (M : zRt) (u0 : Int32) : Nat → Int32
  | 0 => u0
  | k + 1 => d149_72 l3 M k (w149_72 l3 M u0 k)
def y149_72 (l3 : Int32) (M : zRt) (u : Int32) : Int32 := u
theorem l_r149_72 {l3 : Int32} {u0 : Int32} (hX : zUX kq X M.2.2) : ∀ (N k : Nat) (o5 : Option Value) (nc ns : Nat), k ≤ (l3).toInt.toNat → zpE xs N 149 10 [some (.ref 72), some (.int ((w149_72 l3 M u0 k))), some (.ref 72), some (.int l3), some (.int (Int32.ofNat k)), o5] [] (zy S0 M X) nc ns (zOq (.inl (some (.int (y149_72 l3 M (w149_72 l3 M u0 (l3).toInt.toNat))))) (zy S0 M X))
  | 0, _, _, _, _, _ => zpE_0
  | N + 1, k, o5, nc, ns, hk => by
    refine zpE_run1 1 (L' := [some (.ref 72), some (.int ((w149_72 l3 M u0 k))), some (.ref 72), some (.int l3), some (.int (Int32.ofNat k)), o5]) (st' := [.int l3, .int (Int32.ofNat k)]) rfl ?_
    refine zpE_icmp rfl (fun q13 => ?_) (fun q13 => ?_)
    · have z13_0 := Int.not_lt.mpr (zF_ge_t q13)
      refine zpE_run 1 (L' := [some (.ref 72), some (.int ((w149_72 l3 M u0 k))), some (.ref 72), some (.int l3), some (.int (Int32.ofNat k)), o5]) (st' := [.int ((w149_72 l3 M u0 k))]) rfl ?_
      exact zpE_end rfl rfl (by rw [← zlp_out z13_0 hk]; exact zOq_v (by unfold y149_72; (first | done | rfl)))
    · have z13_0 := zF_ge_f q13
      refine zpE_run 2 (L' := [some (.ref 72), some (.int ((w149_72 l3 M u0 k))), some (.ref 72), some (.int l3), some (.int (Int32.ofNat k)), o5]) (st' := [.int (Int32.ofNat k), .ref 72]) rfl ?_
      refine zpE_bly rfl (zy_g72 (M := M)) (fun _ _ => ?_)
      refine zpE_gen (fun nc ns => ?_)
      refine zpE_run 3 (L' := [some (.ref 72), some (.int ((w149_72 l3 M u0 k))), some (.ref 72), some (.int l3), some (.int (Int32.ofNat k)), some (.int (zgt (M.2.1 25) (Int32.ofNat k)))]) (st' := [.int (zgt (M.2.1 25) (Int32.ofNat k)), .int ((w149_72 l3 M u0 k))]) rfl ?_
      refine zpE_if rfl (fun q25 => ?_) (fun q25 => ?_)
      · have z25_1 := zF_e1 q25
        refine zpE_run 5 (L' := [some (.ref 72), some (.int (((w149_72 l3 M u0 k)) + (Int32.ofInt 0))), some (.ref 72), some (.int l3), some (.int ((Int32.ofNat k) + Int32.ofInt 1)), some (.int (zgt (M.2.1 25) (Int32.ofNat k)))]) (st' := []) rfl ?_
        have eW : w149_72 l3 M u0 (k + 1) = ((w149_72 l3 M u0 k)) + (Int32.ofInt 0) := by
          show d149_72 l3 M k _ = _
          unfold d149_72
          rw [if_pos z25_1]
        have K := fun o5 nc ns => l_r149_72 (l3 := l3) (u0 := u0) hX N (k + 1) o5 nc ns (zlp_in z13_0 hk)
        rw [← zof1, eW] at K
        exact K _ _ _
      · have z25_1 := zF_e0 q25
        refine zpE_run 6 (L' := [some (.ref 72), some (.int (((w149_72 l3 M u0 k)) + (Int32.ofInt 1))), some (.ref 72), some (.int l3), some (.int ((Int32.ofNat k) + Int32.ofInt 1)), some (.int (zgt (M.2.1 25) (Int32.ofNat k)))]) (st' := []) rfl ?_
        have eW : w149_72 l3 M u0 (k + 1) = ((w149_72 l3 M u0 k)) + (Int32.ofInt 1) := by
          show d149_72 l3 M k _ = _
          unfold d149_72
          rw [if_neg z25_1]
        have K := fun o5 nc ns => l_r149_72 (l3 := l3) (u0 := u0) hX N (k + 1) o5 nc ns (zlp_in z13_0 hk)
        rw [← zof1, eW] at K
        exact K _ _ _
def v149_72  (M : zRt) : Int32 := y149_72 (Int32.ofNat (M.2.1 25).length) M (w149_72 (Int32.ofNat (M.2.1 25).length) M (Int32.ofInt 0) ((Int32.ofNat (M.2.1 25).length)).toInt.toNat)
theorem f_149_72 (hX : zUX kq X M.2.2) : zpM xs N 149 [.ref 72] (zy S0 M X) nc ns (zOq (.inl (some (.int (v149_72 M)))) (zy S0 M X)) := by
  intro L0 e
  cases e
  refine zpE_run 5 (L' := [some (.ref 72), some (.int (Int32.ofInt 0)), some (.ref 72), none, none, none]) (st' := [.ref 72]) rfl ?_
  refine zpE_alen rfl rfl (by decide) ?_
  rw [List.length_map]
  refine zpE_run 3 rfl ?_
  exact l_r149_72 (l3 := Int32.ofNat (M.2.1 25).length) (M := M) (u0 := Int32.ofInt 0) hX N 0 _ _ _ (Nat.zero_le _)
def v148 (x1 : Int32) (x2 : Int32) (M : zRt) : Int32 := if (v138 x1 (zmS M 0 (Int32.ofInt 0))) = ((0 : Int32)) then ((v111 (Int32.ofInt 1) (zmS M 0 (Int32.ofInt 0)))) else ((v149_72 (zmW (zmS M 0 (Int32.ofInt 0)) 25 x1 x2)))
def r148 (x1 : Int32) (x2 : Int32) (M : zRt) : zRt := if (v138 x1 (zmS M 0 (Int32.ofInt 0))) = ((0 : Int32)) then ((r111 (Int32.ofInt 1) (zmS M 0 (Int32.ofInt 0)))) else (zmW (zmS M 0 (Int32.ofInt 0)) 25 x1 x2)
theorem f_148 {x1 x2 : Int32} (hX : zUX kq X M.2.2) : zpM xs N 148 [.ref 44, .int x1, .int x2] (zy S0 M X) nc ns (zOq (.inl (some (.int (v148 x1 x2 M)))) (zy S0 (r148 x1 x2 M) X)) := by
  intro L0 e
  cases e
  refine zpE_run 4 (L' := [some (.ref 44), some (.int x1), some (.int x2)]) (st' := [.int x1]) (h' := zy S0 (zmS M 0 (Int32.ofInt 0)) X) rfl ?_
  refine zpE_call rfl rfl (f_138 (M := zmS M 0 (Int32.ofInt 0)) (x1 := x1) hX) (fun v h1 nc1 ns1 q8 => ?_) (fun E h1 nc1 ns1 q8 => by cases q8.1)
  obtain ⟨q8, q9⟩ := q8
  cases q8
  cases q9
  refine zpE_if rfl (fun q9 => ?_) (fun q9 => ?_)
  · have z9_0 := zF_n1 q9
    refine zpE_run 4 (L' := [some (.ref 44), some (.int x1), some (.int x2)]) (st' := [.int x2, .int x1, .ref 72]) rfl ?_
    refine zpE_bsy (h' := zy S0 (zmW (zmS M 0 (Int32.ofInt 0)) 25 x1 x2) X) rfl (zy_g72 (M := zmS M 0 (Int32.ofInt 0))) (zy_s72 (M := zmS M 0 (Int32.ofInt 0))) (fun _ _ _ => ?_)
    refine zpE_gen (fun nc ns => ?_)
    refine zpE_run 2 (L' := [some (.ref 44), some (.int x1), some (.int x2)]) (st' := [.ref 72]) rfl ?_
    refine zpE_call rfl rfl (f_149_72 (M := zmW (zmS M 0 (Int32.ofInt 0)) 25 x1 x2) hX) (fun v h1 nc1 ns1 q8 => ?_) (fun E h1 nc1 ns1 q8 => by cases q8.1)
    obtain ⟨q8, q9⟩ := q8
    cases q8
    cases q9
    exact zpE_end rfl rfl (zOr_w (M' := zmW (zmS M 0 (Int32.ofInt 0)) 25 x1 x2) (by unfold v148; rw [if_neg z9_0]) (by unfold r148; rw [if_neg z9_0]))
  · have z9_0 := zF_n0 q9
    refine zpE_run 2 (L' := [some (.ref 44), some (.int x1), some (.int x2)]) (st' := [.int (Int32.ofInt 1), .ref 44]) rfl ?_
    refine zpE_call rfl rfl (f_111 (M := zmS M 0 (Int32.ofInt 0)) (x1 := Int32.ofInt 1) hX) (fun v h1 nc1 ns1 q8 => ?_) (fun E h1 nc1 ns1 q8 => by cases q8.1)
    obtain ⟨q8, q9⟩ := q8
    cases q8
    cases q9
    obtain ⟨Z1, hZ1⟩ : ∃ Z, Z = r111 (Int32.ofInt 1) (zmS M 0 (Int32.ofInt 0)) := ⟨_, rfl⟩
    rw [← hZ1]
    have hY1 : zUX kq X Z1.2.2 := by
      rw [hZ1, rl_111]
      exact hX
    exact zpE_end rfl rfl (zOr_w (M' := Z1) (by unfold v148; (try rw [← hZ1]); rw [if_pos z9_0]) (by unfold r148; (try rw [← hZ1]); rw [if_pos z9_0]))
theorem gr_148 {x1 x2 : Int32} : zfrM [0] [25] [] (r148 x1 x2 M) M := by
  unfold r148
  exact (gm_ite (gm_c gr_111 (gm_c gm_S gm_rf (by decide) (by decide) (by decide)) (by decide) (by decide) (by decide)) (gm_c gm_W (gm_c gm_S gm_rf (by decide) (by decide) (by decide)) (by decide) (by decide) (by decide)))
theorem rl_148 {x1 x2 : Int32} : (r148 x1 x2 M).2.2 = M.2.2 := gm_l gr_148
def v152  (M : zRt) : Int32 := ((zmS (zmS M 0 (Int32.ofInt 0)) 13 (((zmS M 0 (Int32.ofInt 0)).1 13) + (Int32.ofInt 1))).1 13)
def r152  (M : zRt) : zRt := zmS (zmS M 0 (Int32.ofInt 0)) 13 (((zmS M 0 (Int32.ofInt 0)).1 13) + (Int32.ofInt 1))
theorem f_152 (hX : zUX kq X M.2.2) : zpM xs N 152 [.ref 44] (zy S0 M X) nc ns (zOq (.inl (some (.int (v152 M)))) (zy S0 (r152 M) X)) := by
  intro L0 e
  cases e
  refine zpE_run 11 (L' := [some (.ref 44)]) (st' := [.int ((zmS (zmS M 0 (Int32.ofInt 0)) 13 (((zmS M 0 (Int32.ofInt 0)).1 13) + (Int32.ofInt 1))).1 13)]) (h' := zy S0 (zmS (zmS M 0 (Int32.ofInt 0)) 13 (((zmS M 0 (Int32.ofInt 0)).1 13) + (Int32.ofInt 1))) X) rfl ?_
  exact zpE_end rfl rfl (zOr_w (M' := zmS (zmS M 0 (Int32.ofInt 0)) 13 (((zmS M 0 (Int32.ofInt 0)).1 13) + (Int32.ofInt 1))) (by unfold v152; (first | done | rfl)) (by unfold r152; (first | done | rfl)))
theorem gr_152 : zfrM [0, 13] [] [] (r152 M) M := by
  unfold r152
  exact (gm_c gm_S (gm_c gm_S gm_rf (by decide) (by decide) (by decide)) (by decide) (by decide) (by decide))
theorem rl_152 : (r152 M).2.2 = M.2.2 := gm_l gr_152
def r130 (x1 : Int32) (x2 : Int32) (M : zRt) : zRt := if x2 = (Int32.ofInt (-1)) then (if x2 = (Int32.ofInt (-1)) then (if (Int32.ofNat ((zmS (zmS M 14 ((M.1 14) + (Int32.ofInt 0))) 15 (((zmS M 14 ((M.1 14) + (Int32.ofInt 0))).1 15) + (Int32.ofInt 1))).2.2.1 2).length).toInt < (Int32.ofInt 40).toInt then (zmLs (zmS (zmS M 14 ((M.1 14) + (Int32.ofInt 0))) 15 (((zmS M 14 ((M.1 14) + (Int32.ofInt 0))).1 15) + (Int32.ofInt 1))) 2 ((zmS (zmS M 14 ((M.1 14) + (Int32.ofInt 0))) 15 (((zmS M 14 ((M.1 14) + (Int32.ofInt 0))).1 15) + (Int32.ofInt 1))).2.2.1 2 ++ [[x1, x2, (zmS (zmS M 14 ((M.1 14) + (Int32.ofInt 0))) 15 (((zmS M 14 ((M.1 14) + (Int32.ofInt 0))).1 15) + (Int32.ofInt 1))).1 4]])) else (zmS (zmS M 14 ((M.1 14) + (Int32.ofInt 0))) 15 (((zmS M 14 ((M.1 14) + (Int32.ofInt 0))).1 15) + (Int32.ofInt 1)))) else (if (Int32.ofNat ((zmS (zmS M 14 ((M.1 14) + (Int32.ofInt 0))) 15 (((zmS M 14 ((M.1 14) + (Int32.ofInt 0))).1 15) + (Int32.ofInt 0))).2.2.1 2).length).toInt < (Int32.ofInt 40).toInt then (zmLs (zmS (zmS M 14 ((M.1 14) + (Int32.ofInt 0))) 15 (((zmS M 14 ((M.1 14) + (Int32.ofInt 0))).1 15) + (Int32.ofInt 0))) 2 ((zmS (zmS M 14 ((M.1 14) + (Int32.ofInt 0))) 15 (((zmS M 14 ((M.1 14) + (Int32.ofInt 0))).1 15) + (Int32.ofInt 0))).2.2.1 2 ++ [[x1, x2, (zmS (zmS M 14 ((M.1 14) + (Int32.ofInt 0))) 15 (((zmS M 14 ((M.1 14) + (Int32.ofInt 0))).1 15) + (Int32.ofInt 0))).1 4]])) else (zmS (zmS M 14 ((M.1 14) + (Int32.ofInt 0))) 15 (((zmS M 14 ((M.1 14) + (Int32.ofInt 0))).1 15) + (Int32.ofInt 0))))) else (if x2 = (Int32.ofInt (-1)) then (if (Int32.ofNat ((zmS (zmS M 14 ((M.1 14) + (Int32.ofInt 1))) 15 (((zmS M 14 ((M.1 14) + (Int32.ofInt 1))).1 15) + (Int32.ofInt 1))).2.2.1 2).length).toInt < (Int32.ofInt 40).toInt then (zmLs (zmS (zmS M 14 ((M.1 14) + (Int32.ofInt 1))) 15 (((zmS M 14 ((M.1 14) + (Int32.ofInt 1))).1 15) + (Int32.ofInt 1))) 2 ((zmS (zmS M 14 ((M.1 14) + (Int32.ofInt 1))) 15 (((zmS M 14 ((M.1 14) + (Int32.ofInt 1))).1 15) + (Int32.ofInt 1))).2.2.1 2 ++ [[x1, x2, (zmS (zmS M 14 ((M.1 14) + (Int32.ofInt 1))) 15 (((zmS M 14 ((M.1 14) + (Int32.ofInt 1))).1 15) + (Int32.ofInt 1))).1 4]])) else (zmS (zmS M 14 ((M.1 14) + (Int32.ofInt 1))) 15 (((zmS M 14 ((M.1 14) + (Int32.ofInt 1))).1 15) + (Int32.ofInt 1)))) else (if (Int32.ofNat ((zmS (zmS M 14 ((M.1 14) + (Int32.ofInt 1))) 15 (((zmS M 14 ((M.1 14) + (Int32.ofInt 1))).1 15) + (Int32.ofInt 0))).2.2.1 2).length).toInt < (Int32.ofInt 40).toInt then (zmLs (zmS (zmS M 14 ((M.1 14) + (Int32.ofInt 1))) 15 (((zmS M 14 ((M.1 14) + (Int32.ofInt 1))).1 15) + (Int32.ofInt 0))) 2 ((zmS (zmS M 14 ((M.1 14) + (Int32.ofInt 1))) 15 (((zmS M 14 ((M.1 14) + (Int32.ofInt 1))).1 15) + (Int32.ofInt 0))).2.2.1 2 ++ [[x1, x2, (zmS (zmS M 14 ((M.1 14) + (Int32.ofInt 1))) 15 (((zmS M 14 ((M.1 14) + (Int32.ofInt 1))).1 15) + (Int32.ofInt 0))).1 4]])) else (zmS (zmS M 14 ((M.1 14) + (Int32.ofInt 1))) 15 (((zmS M 14 ((M.1 14) + (Int32.ofInt 1))).1 15) + (Int32.ofInt 0)))))
theorem f_130 {x1 x2 : Int32} (hX : zUX kq X M.2.2) : zpM xs N 130 [.ref 44, .int x1, .int x2] (zy S0 M X) nc ns (fun o => ∃ X', zUX kq X' (r130 x1 x2 M).2.2 ∧ zOq (.inl none) (zy S0 (r130 x1 x2 M) X') o) := by
  intro L0 e
  cases e
  refine zpE_run 5 (L' := [some (.ref 44), some (.int x1), some (.int x2)]) (st' := [.int (Int32.ofInt (-1)), .int x2, .int (M.1 14), .ref 44]) rfl ?_
  refine zpE_icmp rfl (fun q7 => ?_) (fun q7 => ?_)
  · have z7_0 := zF_n1 q7
    refine zpE_run 8 (L' := [some (.ref 44), some (.int x1), some (.int x2)]) (st' := [.int (Int32.ofInt (-1)), .int x2, .int ((zmS M 14 ((M.1 14) + (Int32.ofInt 1))).1 15), .ref 44]) (h' := zy S0 (zmS M 14 ((M.1 14) + (Int32.ofInt 1))) X) rfl ?_
    refine zpE_icmp rfl (fun q26 => ?_) (fun q26 => ?_)
    · have z26_1 := zF_n1 q26
      refine zpE_run 5 (L' := [some (.ref 44), some (.int x1), some (.int x2)]) (st' := [.ref (X.1 2)]) (h' := zy S0 (zmS (zmS M 14 ((M.1 14) + (Int32.ofInt 1))) 15 (((zmS M 14 ((M.1 14) + (Int32.ofInt 1))).1 15) + (Int32.ofInt 0))) X) rfl ?_
      obtain ⟨vs1, lc1⟩ := zUX_lc (S0 := S0) (M := zmS (zmS M 14 ((M.1 14) + (Int32.ofInt 1))) 15 (((zmS M 14 ((M.1 14) + (Int32.ofInt 1))).1 15) + (Int32.ofInt 0))) (i := 2) (by decide) hX
      refine zpE_call rfl (show zcallV 0 10 243 47 (.ref (X.1 2) :: _) (zy S0 (zmS (zmS M 14 ((M.1 14) + (Int32.ofInt 1))) 15 (((zmS M 14 ((M.1 14) + (Int32.ofInt 1))).1 15) + (Int32.ofInt 0))) X) = _ from zcallV_eq rfl lc1 (Nat.le_of_ble_eq_true rfl)) (zul_243 (i := 2) (by decide) hX) (fun v h1 nc1 ns1 q8 => ?_) (fun E h1 nc1 ns1 q8 => by cases q8)
      cases q8
      refine zpE_run 1 (L' := [some (.ref 44), some (.int x1), some (.int x2)]) (st' := [.int (Int32.ofInt 40), .int (Int32.ofNat ((zmS (zmS M 14 ((M.1 14) + (Int32.ofInt 1))) 15 (((zmS M 14 ((M.1 14) + (Int32.ofInt 1))).1 15) + (Int32.ofInt 0))).2.2.1 2).length)]) rfl ?_
      refine zpE_icmp rfl (fun q49 => ?_) (fun q49 => ?_)
      · have z49_2 := Int.not_lt.mpr (zF_ge_t q49)
        exact zpE_end rfl rfl (zOx_f (M' := zmS (zmS M 14 ((M.1 14) + (Int32.ofInt 1))) 15 (((zmS M 14 ((M.1 14) + (Int32.ofInt 1))).1 15) + (Int32.ofInt 0))) hX (by unfold r130; rw [if_neg z7_0, if_neg z26_1, if_neg z49_2]))
      · have z49_2 := zF_ge_f q49
        refine zpE_run 3 (L' := [some (.ref 44), some (.int x1), some (.int x2)]) (st' := [.int (Int32.ofInt 3), .ref (X.1 2)]) rfl ?_
        refine zpE_newi (m := 3) (by decide) rfl ?_
        refine zpE_run 3 (L' := [some (.ref 44), some (.int x1), some (.int x2)]) (st' := [.int x1, .int (Int32.ofInt 0), .ref (List.length (zy S0 (zmS (zmS M 14 ((M.1 14) + (Int32.ofInt 1))) 15 (((zmS M 14 ((M.1 14) + (Int32.ofInt 1))).1 15) + (Int32.ofInt 0))) X)), .ref (List.length (zy S0 (zmS (zmS M 14 ((M.1 14) + (Int32.ofInt 1))) 15 (((zmS M 14 ((M.1 14) + (Int32.ofInt 1))).1 15) + (Int32.ofInt 0))) X)), .ref (X.1 2)]) rfl ?_
        refine zpE_asy (h' := zy S0 (zmS (zmS M 14 ((M.1 14) + (Int32.ofInt 1))) 15 (((zmS M 14 ((M.1 14) + (Int32.ofInt 1))).1 15) + (Int32.ofInt 0))) X ++ [zar [x1, 0, 0]]) rfl (zha_get (h := zy S0 (zmS (zmS M 14 ((M.1 14) + (Int32.ofInt 1))) 15 (((zmS M 14 ((M.1 14) + (Int32.ofInt 1))).1 15) + (Int32.ofInt 0))) X) (l := [0, 0, 0])) (zha_set (l' := [x1, 0, 0])) (fun _ _ => ?_)
        refine zpE_run 3 (L' := [some (.ref 44), some (.int x1), some (.int x2)]) (st' := [.int x2, .int (Int32.ofInt 1), .ref (List.length (zy S0 (zmS (zmS M 14 ((M.1 14) + (Int32.ofInt 1))) 15 (((zmS M 14 ((M.1 14) + (Int32.ofInt 1))).1 15) + (Int32.ofInt 0))) X)), .ref (List.length (zy S0 (zmS (zmS M 14 ((M.1 14) + (Int32.ofInt 1))) 15 (((zmS M 14 ((M.1 14) + (Int32.ofInt 1))).1 15) + (Int32.ofInt 0))) X)), .ref (X.1 2)]) rfl ?_
        refine zpE_asy (h' := zy S0 (zmS (zmS M 14 ((M.1 14) + (Int32.ofInt 1))) 15 (((zmS M 14 ((M.1 14) + (Int32.ofInt 1))).1 15) + (Int32.ofInt 0))) X ++ [zar [x1, x2, 0]]) rfl (zha_get (h := zy S0 (zmS (zmS M 14 ((M.1 14) + (Int32.ofInt 1))) 15 (((zmS M 14 ((M.1 14) + (Int32.ofInt 1))).1 15) + (Int32.ofInt 0))) X) (l := [x1, 0, 0])) (zha_set (l' := [x1, x2, 0])) (fun _ _ => ?_)
        refine zpE_run 4 (L' := [some (.ref 44), some (.int x1), some (.int x2)]) (st' := [.int ((zmS (zmS M 14 ((M.1 14) + (Int32.ofInt 1))) 15 (((zmS M 14 ((M.1 14) + (Int32.ofInt 1))).1 15) + (Int32.ofInt 0))).1 4), .int (Int32.ofInt 2), .ref (List.length (zy S0 (zmS (zmS M 14 ((M.1 14) + (Int32.ofInt 1))) 15 (((zmS M 14 ((M.1 14) + (Int32.ofInt 1))).1 15) + (Int32.ofInt 0))) X)), .ref (List.length (zy S0 (zmS (zmS M 14 ((M.1 14) + (Int32.ofInt 1))) 15 (((zmS M 14 ((M.1 14) + (Int32.ofInt 1))).1 15) + (Int32.ofInt 0))) X)), .ref (X.1 2)]) rfl ?_
        refine zpE_asy (h' := zy S0 (zmS (zmS M 14 ((M.1 14) + (Int32.ofInt 1))) 15 (((zmS M 14 ((M.1 14) + (Int32.ofInt 1))).1 15) + (Int32.ofInt 0))) X ++ [zar [x1, x2, (zmS (zmS M 14 ((M.1 14) + (Int32.ofInt 1))) 15 (((zmS M 14 ((M.1 14) + (Int32.ofInt 1))).1 15) + (Int32.ofInt 0))).1 4]]) rfl (zha_get (h := zy S0 (zmS (zmS M 14 ((M.1 14) + (Int32.ofInt 1))) 15 (((zmS M 14 ((M.1 14) + (Int32.ofInt 1))).1 15) + (Int32.ofInt 0))) X) (l := [x1, x2, 0])) (zha_set (l' := [x1, x2, (zmS (zmS M 14 ((M.1 14) + (Int32.ofInt 1))) 15 (((zmS M 14 ((M.1 14) + (Int32.ofInt 1))).1 15) + (Int32.ofInt 0))).1 4])) (fun _ _ => ?_)
        obtain ⟨vs2, lc2⟩ := zUX_lc2 (S0 := S0) (M := zmS (zmS M 14 ((M.1 14) + (Int32.ofInt 1))) 15 (((zmS M 14 ((M.1 14) + (Int32.ofInt 1))).1 15) + (Int32.ofInt 0))) (i := 2) (l := [x1, x2, (zmS (zmS M 14 ((M.1 14) + (Int32.ofInt 1))) 15 (((zmS M 14 ((M.1 14) + (Int32.ofInt 1))).1 15) + (Int32.ofInt 0))).1 4]) (by decide) hX
        refine zpE_call rfl (show zcallV 1 10 237 79 (.ref (List.length (zy S0 (zmS (zmS M 14 ((M.1 14) + (Int32.ofInt 1))) 15 (((zmS M 14 ((M.1 14) + (Int32.ofInt 1))).1 15) + (Int32.ofInt 0))) X)) :: .ref (X.1 2) :: _) (zy S0 (zmS (zmS M 14 ((M.1 14) + (Int32.ofInt 1))) 15 (((zmS M 14 ((M.1 14) + (Int32.ofInt 1))).1 15) + (Int32.ofInt 0))) X ++ [zar [x1, x2, (zmS (zmS M 14 ((M.1 14) + (Int32.ofInt 1))) 15 (((zmS M 14 ((M.1 14) + (Int32.ofInt 1))).1 15) + (Int32.ofInt 0))).1 4]]) = _ from zcallV_eq rfl lc2 (Nat.le_of_ble_eq_true rfl)) (zul_237n (i := 2) (l := [x1, x2, (zmS (zmS M 14 ((M.1 14) + (Int32.ofInt 1))) 15 (((zmS M 14 ((M.1 14) + (Int32.ofInt 1))).1 15) + (Int32.ofInt 0))).1 4]) (by decide) hX (zal_2 (i := 2) hX z49_2)) (fun v h1 nc1 ns1 q8 => ?_) (fun E h1 nc1 ns1 q8 => by obtain ⟨_, _, _, q8, _⟩ := q8; cases q8)
        obtain ⟨X2, hX2, _, q8, q9⟩ := q8
        cases q8
        cases q9
        refine zpE_gen (fun nc ns => ?_)
        show zpE xs N 130 79 _ _ (zy S0 (zmLs (zmS (zmS M 14 ((M.1 14) + (Int32.ofInt 1))) 15 (((zmS M 14 ((M.1 14) + (Int32.ofInt 1))).1 15) + (Int32.ofInt 0))) 2 ((zmS (zmS M 14 ((M.1 14) + (Int32.ofInt 1))) 15 (((zmS M 14 ((M.1 14) + (Int32.ofInt 1))).1 15) + (Int32.ofInt 0))).2.2.1 2 ++ [[x1, x2, (zmS (zmS M 14 ((M.1 14) + (Int32.ofInt 1))) 15 (((zmS M 14 ((M.1 14) + (Int32.ofInt 1))).1 15) + (Int32.ofInt 0))).1 4]])) X2) _ _ _
        refine zpE_run 1 (L' := [some (.ref 44), some (.int x1), some (.int x2)]) (st' := []) rfl ?_
        exact zpE_end rfl rfl (zOx_f (M' := zmLs (zmS (zmS M 14 ((M.1 14) + (Int32.ofInt 1))) 15 (((zmS M 14 ((M.1 14) + (Int32.ofInt 1))).1 15) + (Int32.ofInt 0))) 2 ((zmS (zmS M 14 ((M.1 14) + (Int32.ofInt 1))) 15 (((zmS M 14 ((M.1 14) + (Int32.ofInt 1))).1 15) + (Int32.ofInt 0))).2.2.1 2 ++ [[x1, x2, (zmS (zmS M 14 ((M.1 14) + (Int32.ofInt 1))) 15 (((zmS M 14 ((M.1 14) + (Int32.ofInt 1))).1 15) + (Int32.ofInt 0))).1 4]])) hX2 (by unfold r130; rw [if_neg z7_0, if_neg z26_1, if_pos z49_2]))
    · have z26_1 := zF_n0 q26
      refine zpE_run 6 (L' := [some (.ref 44), some (.int x1), some (.int x2)]) (st' := [.ref (X.1 2)]) (h' := zy S0 (zmS (zmS M 14 ((M.1 14) + (Int32.ofInt 1))) 15 (((zmS M 14 ((M.1 14) + (Int32.ofInt 1))).1 15) + (Int32.ofInt 1))) X) rfl ?_
      obtain ⟨vs3, lc3⟩ := zUX_lc (S0 := S0) (M := zmS (zmS M 14 ((M.1 14) + (Int32.ofInt 1))) 15 (((zmS M 14 ((M.1 14) + (Int32.ofInt 1))).1 15) + (Int32.ofInt 1))) (i := 2) (by decide) hX
      refine zpE_call rfl (show zcallV 0 10 243 47 (.ref (X.1 2) :: _) (zy S0 (zmS (zmS M 14 ((M.1 14) + (Int32.ofInt 1))) 15 (((zmS M 14 ((M.1 14) + (Int32.ofInt 1))).1 15) + (Int32.ofInt 1))) X) = _ from zcallV_eq rfl lc3 (Nat.le_of_ble_eq_true rfl)) (zul_243 (i := 2) (by decide) hX) (fun v h1 nc1 ns1 q8 => ?_) (fun E h1 nc1 ns1 q8 => by cases q8)
      cases q8
      refine zpE_run 1 (L' := [some (.ref 44), some (.int x1), some (.int x2)]) (st' := [.int (Int32.ofInt 40), .int (Int32.ofNat ((zmS (zmS M 14 ((M.1 14) + (Int32.ofInt 1))) 15 (((zmS M 14 ((M.1 14) + (Int32.ofInt 1))).1 15) + (Int32.ofInt 1))).2.2.1 2).length)]) rfl ?_
      refine zpE_icmp rfl (fun q49 => ?_) (fun q49 => ?_)
      · have z49_2 := Int.not_lt.mpr (zF_ge_t q49)
        exact zpE_end rfl rfl (zOx_f (M' := zmS (zmS M 14 ((M.1 14) + (Int32.ofInt 1))) 15 (((zmS M 14 ((M.1 14) + (Int32.ofInt 1))).1 15) + (Int32.ofInt 1))) hX (by unfold r130; rw [if_neg z7_0, if_pos z26_1, if_neg z49_2]))
      · have z49_2 := zF_ge_f q49
        refine zpE_run 3 (L' := [some (.ref 44), some (.int x1), some (.int x2)]) (st' := [.int (Int32.ofInt 3), .ref (X.1 2)]) rfl ?_
        refine zpE_newi (m := 3) (by decide) rfl ?_
        refine zpE_run 3 (L' := [some (.ref 44), some (.int x1), some (.int x2)]) (st' := [.int x1, .int (Int32.ofInt 0), .ref (List.length (zy S0 (zmS (zmS M 14 ((M.1 14) + (Int32.ofInt 1))) 15 (((zmS M 14 ((M.1 14) + (Int32.ofInt 1))).1 15) + (Int32.ofInt 1))) X)), .ref (List.length (zy S0 (zmS (zmS M 14 ((M.1 14) + (Int32.ofInt 1))) 15 (((zmS M 14 ((M.1 14) + (Int32.ofInt 1))).1 15) + (Int32.ofInt 1))) X)), .ref (X.1 2)]) rfl ?_
        refine zpE_asy (h' := zy S0 (zmS (zmS M 14 ((M.1 14) + (Int32.ofInt 1))) 15 (((zmS M 14 ((M.1 14) + (Int32.ofInt 1))).1 15) + (Int32.ofInt 1))) X ++ [zar [x1, 0, 0]]) rfl (zha_get (h := zy S0 (zmS (zmS M 14 ((M.1 14) + (Int32.ofInt 1))) 15 (((zmS M 14 ((M.1 14) + (Int32.ofInt 1))).1 15) + (Int32.ofInt 1))) X) (l := [0, 0, 0])) (zha_set (l' := [x1, 0, 0])) (fun _ _ => ?_)
        refine zpE_run 3 (L' := [some (.ref 44), some (.int x1), some (.int x2)]) (st' := [.int x2, .int (Int32.ofInt 1), .ref (List.length (zy S0 (zmS (zmS M 14 ((M.1 14) + (Int32.ofInt 1))) 15 (((zmS M 14 ((M.1 14) + (Int32.ofInt 1))).1 15) + (Int32.ofInt 1))) X)), .ref (List.length (zy S0 (zmS (zmS M 14 ((M.1 14) + (Int32.ofInt 1))) 15 (((zmS M 14 ((M.1 14) + (Int32.ofInt 1))).1 15) + (Int32.ofInt 1))) X)), .ref (X.1 2)]) rfl ?_
        refine zpE_asy (h' := zy S0 (zmS (zmS M 14 ((M.1 14) + (Int32.ofInt 1))) 15 (((zmS M 14 ((M.1 14) + (Int32.ofInt 1))).1 15) + (Int32.ofInt 1))) X ++ [zar [x1, x2, 0]]) rfl (zha_get (h := zy S0 (zmS (zmS M 14 ((M.1 14) + (Int32.ofInt 1))) 15 (((zmS M 14 ((M.1 14) + (Int32.ofInt 1))).1 15) + (Int32.ofInt 1))) X) (l := [x1, 0, 0])) (zha_set (l' := [x1, x2, 0])) (fun _ _ => ?_)
        refine zpE_run 4 (L' := [some (.ref 44), some (.int x1), some (.int x2)]) (st' := [.int ((zmS (zmS M 14 ((M.1 14) + (Int32.ofInt 1))) 15 (((zmS M 14 ((M.1 14) + (Int32.ofInt 1))).1 15) + (Int32.ofInt 1))).1 4), .int (Int32.ofInt 2), .ref (List.length (zy S0 (zmS (zmS M 14 ((M.1 14) + (Int32.ofInt 1))) 15 (((zmS M 14 ((M.1 14) + (Int32.ofInt 1))).1 15) + (Int32.ofInt 1))) X)), .ref (List.length (zy S0 (zmS (zmS M 14 ((M.1 14) + (Int32.ofInt 1))) 15 (((zmS M 14 ((M.1 14) + (Int32.ofInt 1))).1 15) + (Int32.ofInt 1))) X)), .ref (X.1 2)]) rfl ?_
        refine zpE_asy (h' := zy S0 (zmS (zmS M 14 ((M.1 14) + (Int32.ofInt 1))) 15 (((zmS M 14 ((M.1 14) + (Int32.ofInt 1))).1 15) + (Int32.ofInt 1))) X ++ [zar [x1, x2, (zmS (zmS M 14 ((M.1 14) + (Int32.ofInt 1))) 15 (((zmS M 14 ((M.1 14) + (Int32.ofInt 1))).1 15) + (Int32.ofInt 1))).1 4]]) rfl (zha_get (h := zy S0 (zmS (zmS M 14 ((M.1 14) + (Int32.ofInt 1))) 15 (((zmS M 14 ((M.1 14) + (Int32.ofInt 1))).1 15) + (Int32.ofInt 1))) X) (l := [x1, x2, 0])) (zha_set (l' := [x1, x2, (zmS (zmS M 14 ((M.1 14) + (Int32.ofInt 1))) 15 (((zmS M 14 ((M.1 14) + (Int32.ofInt 1))).1 15) + (Int32.ofInt 1))).1 4])) (fun _ _ => ?_)
        obtain ⟨vs4, lc4⟩ := zUX_lc2 (S0 := S0) (M := zmS (zmS M 14 ((M.1 14) + (Int32.ofInt 1))) 15 (((zmS M 14 ((M.1 14) + (Int32.ofInt 1))).1 15) + (Int32.ofInt 1))) (i := 2) (l := [x1, x2, (zmS (zmS M 14 ((M.1 14) + (Int32.ofInt 1))) 15 (((zmS M 14 ((M.1 14) + (Int32.ofInt 1))).1 15) + (Int32.ofInt 1))).1 4]) (by decide) hX
        refine zpE_call rfl (show zcallV 1 10 237 79 (.ref (List.length (zy S0 (zmS (zmS M 14 ((M.1 14) + (Int32.ofInt 1))) 15 (((zmS M 14 ((M.1 14) + (Int32.ofInt 1))).1 15) + (Int32.ofInt 1))) X)) :: .ref (X.1 2) :: _) (zy S0 (zmS (zmS M 14 ((M.1 14) + (Int32.ofInt 1))) 15 (((zmS M 14 ((M.1 14) + (Int32.ofInt 1))).1 15) + (Int32.ofInt 1))) X ++ [zar [x1, x2, (zmS (zmS M 14 ((M.1 14) + (Int32.ofInt 1))) 15 (((zmS M 14 ((M.1 14) + (Int32.ofInt 1))).1 15) + (Int32.ofInt 1))).1 4]]) = _ from zcallV_eq rfl lc4 (Nat.le_of_ble_eq_true rfl)) (zul_237n (i := 2) (l := [x1, x2, (zmS (zmS M 14 ((M.1 14) + (Int32.ofInt 1))) 15 (((zmS M 14 ((M.1 14) + (Int32.ofInt 1))).1 15) + (Int32.ofInt 1))).1 4]) (by decide) hX (zal_2 (i := 2) hX z49_2)) (fun v h1 nc1 ns1 q8 => ?_) (fun E h1 nc1 ns1 q8 => by obtain ⟨_, _, _, q8, _⟩ := q8; cases q8)
        obtain ⟨X4, hX4, _, q8, q9⟩ := q8
        cases q8
        cases q9
        refine zpE_gen (fun nc ns => ?_)
        show zpE xs N 130 79 _ _ (zy S0 (zmLs (zmS (zmS M 14 ((M.1 14) + (Int32.ofInt 1))) 15 (((zmS M 14 ((M.1 14) + (Int32.ofInt 1))).1 15) + (Int32.ofInt 1))) 2 ((zmS (zmS M 14 ((M.1 14) + (Int32.ofInt 1))) 15 (((zmS M 14 ((M.1 14) + (Int32.ofInt 1))).1 15) + (Int32.ofInt 1))).2.2.1 2 ++ [[x1, x2, (zmS (zmS M 14 ((M.1 14) + (Int32.ofInt 1))) 15 (((zmS M 14 ((M.1 14) + (Int32.ofInt 1))).1 15) + (Int32.ofInt 1))).1 4]])) X4) _ _ _
        refine zpE_run 1 (L' := [some (.ref 44), some (.int x1), some (.int x2)]) (st' := []) rfl ?_
        exact zpE_end rfl rfl (zOx_f (M' := zmLs (zmS (zmS M 14 ((M.1 14) + (Int32.ofInt 1))) 15 (((zmS M 14 ((M.1 14) + (Int32.ofInt 1))).1 15) + (Int32.ofInt 1))) 2 ((zmS (zmS M 14 ((M.1 14) + (Int32.ofInt 1))) 15 (((zmS M 14 ((M.1 14) + (Int32.ofInt 1))).1 15) + (Int32.ofInt 1))).2.2.1 2 ++ [[x1, x2, (zmS (zmS M 14 ((M.1 14) + (Int32.ofInt 1))) 15 (((zmS M 14 ((M.1 14) + (Int32.ofInt 1))).1 15) + (Int32.ofInt 1))).1 4]])) hX4 (by unfold r130; rw [if_neg z7_0, if_pos z26_1, if_pos z49_2]))
  · have z7_0 := zF_n0 q7
    refine zpE_run 9 (L' := [some (.ref 44), some (.int x1), some (.int x2)]) (st' := [.int (Int32.ofInt (-1)), .int x2, .int ((zmS M 14 ((M.1 14) + (Int32.ofInt 0))).1 15), .ref 44]) (h' := zy S0 (zmS M 14 ((M.1 14) + (Int32.ofInt 0))) X) rfl ?_
    refine zpE_icmp rfl (fun q26 => ?_) (fun q26 => ?_)
    · have z26_1 := zF_n1 q26
      refine zpE_run 5 (L' := [some (.ref 44), some (.int x1), some (.int x2)]) (st' := [.ref (X.1 2)]) (h' := zy S0 (zmS (zmS M 14 ((M.1 14) + (Int32.ofInt 0))) 15 (((zmS M 14 ((M.1 14) + (Int32.ofInt 0))).1 15) + (Int32.ofInt 0))) X) rfl ?_
      obtain ⟨vs5, lc5⟩ := zUX_lc (S0 := S0) (M := zmS (zmS M 14 ((M.1 14) + (Int32.ofInt 0))) 15 (((zmS M 14 ((M.1 14) + (Int32.ofInt 0))).1 15) + (Int32.ofInt 0))) (i := 2) (by decide) hX
      refine zpE_call rfl (show zcallV 0 10 243 47 (.ref (X.1 2) :: _) (zy S0 (zmS (zmS M 14 ((M.1 14) + (Int32.ofInt 0))) 15 (((zmS M 14 ((M.1 14) + (Int32.ofInt 0))).1 15) + (Int32.ofInt 0))) X) = _ from zcallV_eq rfl lc5 (Nat.le_of_ble_eq_true rfl)) (zul_243 (i := 2) (by decide) hX) (fun v h1 nc1 ns1 q8 => ?_) (fun E h1 nc1 ns1 q8 => by cases q8)
      cases q8
      refine zpE_run 1 (L' := [some (.ref 44), some (.int x1), some (.int x2)]) (st' := [.int (Int32.ofInt 40), .int (Int32.ofNat ((zmS (zmS M 14 ((M.1 14) + (Int32.ofInt 0))) 15 (((zmS M 14 ((M.1 14) + (Int32.ofInt 0))).1 15) + (Int32.ofInt 0))).2.2.1 2).length)]) rfl ?_
      refine zpE_icmp rfl (fun q49 => ?_) (fun q49 => ?_)
      · have z49_2 := Int.not_lt.mpr (zF_ge_t q49)
        exact zpE_end rfl rfl (zOx_f (M' := zmS (zmS M 14 ((M.1 14) + (Int32.ofInt 0))) 15 (((zmS M 14 ((M.1 14) + (Int32.ofInt 0))).1 15) + (Int32.ofInt 0))) hX (by unfold r130; rw [if_pos z7_0, if_neg z26_1, if_neg z49_2]))
      · have z49_2 := zF_ge_f q49
        refine zpE_run 3 (L' := [some (.ref 44), some (.int x1), some (.int x2)]) (st' := [.int (Int32.ofInt 3), .ref (X.1 2)]) rfl ?_
        refine zpE_newi (m := 3) (by decide) rfl ?_
        refine zpE_run 3 (L' := [some (.ref 44), some (.int x1), some (.int x2)]) (st' := [.int x1, .int (Int32.ofInt 0), .ref (List.length (zy S0 (zmS (zmS M 14 ((M.1 14) + (Int32.ofInt 0))) 15 (((zmS M 14 ((M.1 14) + (Int32.ofInt 0))).1 15) + (Int32.ofInt 0))) X)), .ref (List.length (zy S0 (zmS (zmS M 14 ((M.1 14) + (Int32.ofInt 0))) 15 (((zmS M 14 ((M.1 14) + (Int32.ofInt 0))).1 15) + (Int32.ofInt 0))) X)), .ref (X.1 2)]) rfl ?_
        refine zpE_asy (h' := zy S0 (zmS (zmS M 14 ((M.1 14) + (Int32.ofInt 0))) 15 (((zmS M 14 ((M.1 14) + (Int32.ofInt 0))).1 15) + (Int32.ofInt 0))) X ++ [zar [x1, 0, 0]]) rfl (zha_get (h := zy S0 (zmS (zmS M 14 ((M.1 14) + (Int32.ofInt 0))) 15 (((zmS M 14 ((M.1 14) + (Int32.ofInt 0))).1 15) + (Int32.ofInt 0))) X) (l := [0, 0, 0])) (zha_set (l' := [x1, 0, 0])) (fun _ _ => ?_)
        refine zpE_run 3 (L' := [some (.ref 44), some (.int x1), some (.int x2)]) (st' := [.int x2, .int (Int32.ofInt 1), .ref (List.length (zy S0 (zmS (zmS M 14 ((M.1 14) + (Int32.ofInt 0))) 15 (((zmS M 14 ((M.1 14) + (Int32.ofInt 0))).1 15) + (Int32.ofInt 0))) X)), .ref (List.length (zy S0 (zmS (zmS M 14 ((M.1 14) + (Int32.ofInt 0))) 15 (((zmS M 14 ((M.1 14) + (Int32.ofInt 0))).1 15) + (Int32.ofInt 0))) X)), .ref (X.1 2)]) rfl ?_
        refine zpE_asy (h' := zy S0 (zmS (zmS M 14 ((M.1 14) + (Int32.ofInt 0))) 15 (((zmS M 14 ((M.1 14) + (Int32.ofInt 0))).1 15) + (Int32.ofInt 0))) X ++ [zar [x1, x2, 0]]) rfl (zha_get (h := zy S0 (zmS (zmS M 14 ((M.1 14) + (Int32.ofInt 0))) 15 (((zmS M 14 ((M.1 14) + (Int32.ofInt 0))).1 15) + (Int32.ofInt 0))) X) (l := [x1, 0, 0])) (zha_set (l' := [x1, x2, 0])) (fun _ _ => ?_)
        refine zpE_run 4 (L' := [some (.ref 44), some (.int x1), some (.int x2)]) (st' := [.int ((zmS (zmS M 14 ((M.1 14) + (Int32.ofInt 0))) 15 (((zmS M 14 ((M.1 14) + (Int32.ofInt 0))).1 15) + (Int32.ofInt 0))).1 4), .int (Int32.ofInt 2), .ref (List.length (zy S0 (zmS (zmS M 14 ((M.1 14) + (Int32.ofInt 0))) 15 (((zmS M 14 ((M.1 14) + (Int32.ofInt 0))).1 15) + (Int32.ofInt 0))) X)), .ref (List.length (zy S0 (zmS (zmS M 14 ((M.1 14) + (Int32.ofInt 0))) 15 (((zmS M 14 ((M.1 14) + (Int32.ofInt 0))).1 15) + (Int32.ofInt 0))) X)), .ref (X.1 2)]) rfl ?_
        refine zpE_asy (h' := zy S0 (zmS (zmS M 14 ((M.1 14) + (Int32.ofInt 0))) 15 (((zmS M 14 ((M.1 14) + (Int32.ofInt 0))).1 15) + (Int32.ofInt 0))) X ++ [zar [x1, x2, (zmS (zmS M 14 ((M.1 14) + (Int32.ofInt 0))) 15 (((zmS M 14 ((M.1 14) + (Int32.ofInt 0))).1 15) + (Int32.ofInt 0))).1 4]]) rfl (zha_get (h := zy S0 (zmS (zmS M 14 ((M.1 14) + (Int32.ofInt 0))) 15 (((zmS M 14 ((M.1 14) + (Int32.ofInt 0))).1 15) + (Int32.ofInt 0))) X) (l := [x1, x2, 0])) (zha_set (l' := [x1, x2, (zmS (zmS M 14 ((M.1 14) + (Int32.ofInt 0))) 15 (((zmS M 14 ((M.1 14) + (Int32.ofInt 0))).1 15) + (Int32.ofInt 0))).1 4])) (fun _ _ => ?_)
        obtain ⟨vs6, lc6⟩ := zUX_lc2 (S0 := S0) (M := zmS (zmS M 14 ((M.1 14) + (Int32.ofInt 0))) 15 (((zmS M 14 ((M.1 14) + (Int32.ofInt 0))).1 15) + (Int32.ofInt 0))) (i := 2) (l := [x1, x2, (zmS (zmS M 14 ((M.1 14) + (Int32.ofInt 0))) 15 (((zmS M 14 ((M.1 14) + (Int32.ofInt 0))).1 15) + (Int32.ofInt 0))).1 4]) (by decide) hX
        refine zpE_call rfl (show zcallV 1 10 237 79 (.ref (List.length (zy S0 (zmS (zmS M 14 ((M.1 14) + (Int32.ofInt 0))) 15 (((zmS M 14 ((M.1 14) + (Int32.ofInt 0))).1 15) + (Int32.ofInt 0))) X)) :: .ref (X.1 2) :: _) (zy S0 (zmS (zmS M 14 ((M.1 14) + (Int32.ofInt 0))) 15 (((zmS M 14 ((M.1 14) + (Int32.ofInt 0))).1 15) + (Int32.ofInt 0))) X ++ [zar [x1, x2, (zmS (zmS M 14 ((M.1 14) + (Int32.ofInt 0))) 15 (((zmS M 14 ((M.1 14) + (Int32.ofInt 0))).1 15) + (Int32.ofInt 0))).1 4]]) = _ from zcallV_eq rfl lc6 (Nat.le_of_ble_eq_true rfl)) (zul_237n (i := 2) (l := [x1, x2, (zmS (zmS M 14 ((M.1 14) + (Int32.ofInt 0))) 15 (((zmS M 14 ((M.1 14) + (Int32.ofInt 0))).1 15) + (Int32.ofInt 0))).1 4]) (by decide) hX (zal_2 (i := 2) hX z49_2)) (fun v h1 nc1 ns1 q8 => ?_) (fun E h1 nc1 ns1 q8 => by obtain ⟨_, _, _, q8, _⟩ := q8; cases q8)
        obtain ⟨X6, hX6, _, q8, q9⟩ := q8
        cases q8
        cases q9
        refine zpE_gen (fun nc ns => ?_)
        show zpE xs N 130 79 _ _ (zy S0 (zmLs (zmS (zmS M 14 ((M.1 14) + (Int32.ofInt 0))) 15 (((zmS M 14 ((M.1 14) + (Int32.ofInt 0))).1 15) + (Int32.ofInt 0))) 2 ((zmS (zmS M 14 ((M.1 14) + (Int32.ofInt 0))) 15 (((zmS M 14 ((M.1 14) + (Int32.ofInt 0))).1 15) + (Int32.ofInt 0))).2.2.1 2 ++ [[x1, x2, (zmS (zmS M 14 ((M.1 14) + (Int32.ofInt 0))) 15 (((zmS M 14 ((M.1 14) + (Int32.ofInt 0))).1 15) + (Int32.ofInt 0))).1 4]])) X6) _ _ _
        refine zpE_run 1 (L' := [some (.ref 44), some (.int x1), some (.int x2)]) (st' := []) rfl ?_
        exact zpE_end rfl rfl (zOx_f (M' := zmLs (zmS (zmS M 14 ((M.1 14) + (Int32.ofInt 0))) 15 (((zmS M 14 ((M.1 14) + (Int32.ofInt 0))).1 15) + (Int32.ofInt 0))) 2 ((zmS (zmS M 14 ((M.1 14) + (Int32.ofInt 0))) 15 (((zmS M 14 ((M.1 14) + (Int32.ofInt 0))).1 15) + (Int32.ofInt 0))).2.2.1 2 ++ [[x1, x2, (zmS (zmS M 14 ((M.1 14) + (Int32.ofInt 0))) 15 (((zmS M 14 ((M.1 14) + (Int32.ofInt 0))).1 15) + (Int32.ofInt 0))).1 4]])) hX6 (by unfold r130; rw [if_pos z7_0, if_neg z26_1, if_pos z49_2]))
    · have z26_1 := zF_n0 q26
      refine zpE_run 6 (L' := [some (.ref 44), some (.int x1), some (.int x2)]) (st' := [.ref (X.1 2)]) (h' := zy S0 (zmS (zmS M 14 ((M.1 14) + (Int32.ofInt 0))) 15 (((zmS M 14 ((M.1 14) + (Int32.ofInt 0))).1 15) + (Int32.ofInt 1))) X) rfl ?_
      obtain ⟨vs7, lc7⟩ := zUX_lc (S0 := S0) (M := zmS (zmS M 14 ((M.1 14) + (Int32.ofInt 0))) 15 (((zmS M 14 ((M.1 14) + (Int32.ofInt 0))).1 15) + (Int32.ofInt 1))) (i := 2) (by decide) hX
      refine zpE_call rfl (show zcallV 0 10 243 47 (.ref (X.1 2) :: _) (zy S0 (zmS (zmS M 14 ((M.1 14) + (Int32.ofInt 0))) 15 (((zmS M 14 ((M.1 14) + (Int32.ofInt 0))).1 15) + (Int32.ofInt 1))) X) = _ from zcallV_eq rfl lc7 (Nat.le_of_ble_eq_true rfl)) (zul_243 (i := 2) (by decide) hX) (fun v h1 nc1 ns1 q8 => ?_) (fun E h1 nc1 ns1 q8 => by cases q8)
      cases q8
      refine zpE_run 1 (L' := [some (.ref 44), some (.int x1), some (.int x2)]) (st' := [.int (Int32.ofInt 40), .int (Int32.ofNat ((zmS (zmS M 14 ((M.1 14) + (Int32.ofInt 0))) 15 (((zmS M 14 ((M.1 14) + (Int32.ofInt 0))).1 15) + (Int32.ofInt 1))).2.2.1 2).length)]) rfl ?_
      refine zpE_icmp rfl (fun q49 => ?_) (fun q49 => ?_)
      · have z49_2 := Int.not_lt.mpr (zF_ge_t q49)
        exact zpE_end rfl rfl (zOx_f (M' := zmS (zmS M 14 ((M.1 14) + (Int32.ofInt 0))) 15 (((zmS M 14 ((M.1 14) + (Int32.ofInt 0))).1 15) + (Int32.ofInt 1))) hX (by unfold r130; rw [if_pos z7_0, if_pos z26_1, if_neg z49_2]))
      · have z49_2 := zF_ge_f q49
        refine zpE_run 3 (L' := [some (.ref 44), some (.int x1), some (.int x2)]) (st' := [.int (Int32.ofInt 3), .ref (X.1 2)]) rfl ?_
        refine zpE_newi (m := 3) (by decide) rfl ?_
        refine zpE_run 3 (L' := [some (.ref 44), some (.int x1), some (.int x2)]) (st' := [.int x1, .int (Int32.ofInt 0), .ref (List.length (zy S0 (zmS (zmS M 14 ((M.1 14) + (Int32.ofInt 0))) 15 (((zmS M 14 ((M.1 14) + (Int32.ofInt 0))).1 15) + (Int32.ofInt 1))) X)), .ref (List.length (zy S0 (zmS (zmS M 14 ((M.1 14) + (Int32.ofInt 0))) 15 (((zmS M 14 ((M.1 14) + (Int32.ofInt 0))).1 15) + (Int32.ofInt 1))) X)), .ref (X.1 2)]) rfl ?_
        refine zpE_asy (h' := zy S0 (zmS (zmS M 14 ((M.1 14) + (Int32.ofInt 0))) 15 (((zmS M 14 ((M.1 14) + (Int32.ofInt 0))).1 15) + (Int32.ofInt 1))) X ++ [zar [x1, 0, 0]]) rfl (zha_get (h := zy S0 (zmS (zmS M 14 ((M.1 14) + (Int32.ofInt 0))) 15 (((zmS M 14 ((M.1 14) + (Int32.ofInt 0))).1 15) + (Int32.ofInt 1))) X) (l := [0, 0, 0])) (zha_set (l' := [x1, 0, 0])) (fun _ _ => ?_)
        refine zpE_run 3 (L' := [some (.ref 44), some (.int x1), some (.int x2)]) (st' := [.int x2, .int (Int32.ofInt 1), .ref (List.length (zy S0 (zmS (zmS M 14 ((M.1 14) + (Int32.ofInt 0))) 15 (((zmS M 14 ((M.1 14) + (Int32.ofInt 0))).1 15) + (Int32.ofInt 1))) X)), .ref (List.length (zy S0 (zmS (zmS M 14 ((M.1 14) + (Int32.ofInt 0))) 15 (((zmS M 14 ((M.1 14) + (Int32.ofInt 0))).1 15) + (Int32.ofInt 1))) X)), .ref (X.1 2)]) rfl ?_
        refine zpE_asy (h' := zy S0 (zmS (zmS M 14 ((M.1 14) + (Int32.ofInt 0))) 15 (((zmS M 14 ((M.1 14) + (Int32.ofInt 0))).1 15) + (Int32.ofInt 1))) X ++ [zar [x1, x2, 0]]) rfl (zha_get (h := zy S0 (zmS (zmS M 14 ((M.1 14) + (Int32.ofInt 0))) 15 (((zmS M 14 ((M.1 14) + (Int32.ofInt 0))).1 15) + (Int32.ofInt 1))) X) (l := [x1, 0, 0])) (zha_set (l' := [x1, x2, 0])) (fun _ _ => ?_)
        refine zpE_run 4 (L' := [some (.ref 44), some (.int x1), some (.int x2)]) (st' := [.int ((zmS (zmS M 14 ((M.1 14) + (Int32.ofInt 0))) 15 (((zmS M 14 ((M.1 14) + (Int32.ofInt 0))).1 15) + (Int32.ofInt 1))).1 4), .int (Int32.ofInt 2), .ref (List.length (zy S0 (zmS (zmS M 14 ((M.1 14) + (Int32.ofInt 0))) 15 (((zmS M 14 ((M.1 14) + (Int32.ofInt 0))).1 15) + (Int32.ofInt 1))) X)), .ref (List.length (zy S0 (zmS (zmS M 14 ((M.1 14) + (Int32.ofInt 0))) 15 (((zmS M 14 ((M.1 14) + (Int32.ofInt 0))).1 15) + (Int32.ofInt 1))) X)), .ref (X.1 2)]) rfl ?_
        refine zpE_asy (h' := zy S0 (zmS (zmS M 14 ((M.1 14) + (Int32.ofInt 0))) 15 (((zmS M 14 ((M.1 14) + (Int32.ofInt 0))).1 15) + (Int32.ofInt 1))) X ++ [zar [x1, x2, (zmS (zmS M 14 ((M.1 14) + (Int32.ofInt 0))) 15 (((zmS M 14 ((M.1 14) + (Int32.ofInt 0))).1 15) + (Int32.ofInt 1))).1 4]]) rfl (zha_get (h := zy S0 (zmS (zmS M 14 ((M.1 14) + (Int32.ofInt 0))) 15 (((zmS M 14 ((M.1 14) + (Int32.ofInt 0))).1 15) + (Int32.ofInt 1))) X) (l := [x1, x2, 0])) (zha_set (l' := [x1, x2, (zmS (zmS M 14 ((M.1 14) + (Int32.ofInt 0))) 15 (((zmS M 14 ((M.1 14) + (Int32.ofInt 0))).1 15) + (Int32.ofInt 1))).1 4])) (fun _ _ => ?_)
        obtain ⟨vs8, lc8⟩ := zUX_lc2 (S0 := S0) (M := zmS (zmS M 14 ((M.1 14) + (Int32.ofInt 0))) 15 (((zmS M 14 ((M.1 14) + (Int32.ofInt 0))).1 15) + (Int32.ofInt 1))) (i := 2) (l := [x1, x2, (zmS (zmS M 14 ((M.1 14) + (Int32.ofInt 0))) 15 (((zmS M 14 ((M.1 14) + (Int32.ofInt 0))).1 15) + (Int32.ofInt 1))).1 4]) (by decide) hX
        refine zpE_call rfl (show zcallV 1 10 237 79 (.ref (List.length (zy S0 (zmS (zmS M 14 ((M.1 14) + (Int32.ofInt 0))) 15 (((zmS M 14 ((M.1 14) + (Int32.ofInt 0))).1 15) + (Int32.ofInt 1))) X)) :: .ref (X.1 2) :: _) (zy S0 (zmS (zmS M 14 ((M.1 14) + (Int32.ofInt 0))) 15 (((zmS M 14 ((M.1 14) + (Int32.ofInt 0))).1 15) + (Int32.ofInt 1))) X ++ [zar [x1, x2, (zmS (zmS M 14 ((M.1 14) + (Int32.ofInt 0))) 15 (((zmS M 14 ((M.1 14) + (Int32.ofInt 0))).1 15) + (Int32.ofInt 1))).1 4]]) = _ from zcallV_eq rfl lc8 (Nat.le_of_ble_eq_true rfl)) (zul_237n (i := 2) (l := [x1, x2, (zmS (zmS M 14 ((M.1 14) + (Int32.ofInt 0))) 15 (((zmS M 14 ((M.1 14) + (Int32.ofInt 0))).1 15) + (Int32.ofInt 1))).1 4]) (by decide) hX (zal_2 (i := 2) hX z49_2)) (fun v h1 nc1 ns1 q8 => ?_) (fun E h1 nc1 ns1 q8 => by obtain ⟨_, _, _, q8, _⟩ := q8; cases q8)
        obtain ⟨X8, hX8, _, q8, q9⟩ := q8
        cases q8
        cases q9
        refine zpE_gen (fun nc ns => ?_)
        show zpE xs N 130 79 _ _ (zy S0 (zmLs (zmS (zmS M 14 ((M.1 14) + (Int32.ofInt 0))) 15 (((zmS M 14 ((M.1 14) + (Int32.ofInt 0))).1 15) + (Int32.ofInt 1))) 2 ((zmS (zmS M 14 ((M.1 14) + (Int32.ofInt 0))) 15 (((zmS M 14 ((M.1 14) + (Int32.ofInt 0))).1 15) + (Int32.ofInt 1))).2.2.1 2 ++ [[x1, x2, (zmS (zmS M 14 ((M.1 14) + (Int32.ofInt 0))) 15 (((zmS M 14 ((M.1 14) + (Int32.ofInt 0))).1 15) + (Int32.ofInt 1))).1 4]])) X8) _ _ _
        refine zpE_run 1 (L' := [some (.ref 44), some (.int x1), some (.int x2)]) (st' := []) rfl ?_
        exact zpE_end rfl rfl (zOx_f (M' := zmLs (zmS (zmS M 14 ((M.1 14) + (Int32.ofInt 0))) 15 (((zmS M 14 ((M.1 14) + (Int32.ofInt 0))).1 15) + (Int32.ofInt 1))) 2 ((zmS (zmS M 14 ((M.1 14) + (Int32.ofInt 0))) 15 (((zmS M 14 ((M.1 14) + (Int32.ofInt 0))).1 15) + (Int32.ofInt 1))).2.2.1 2 ++ [[x1, x2, (zmS (zmS M 14 ((M.1 14) + (Int32.ofInt 0))) 15 (((zmS M 14 ((M.1 14) + (Int32.ofInt 0))).1 15) + (Int32.ofInt 1))).1 4]])) hX8 (by unfold r130; rw [if_pos z7_0, if_pos z26_1, if_pos z49_2]))
theorem gr_130 {x1 x2 : Int32} : zfrM [14, 15] [] [2] (r130 x1 x2 M) M := by
  unfold r130
  exact (gm_ite (gm_ite (gm_ite (gm_c gm_L (gm_c gm_S (gm_c gm_S gm_rf (by decide) (by decide) (by decide)) (by decide) (by decide) (by decide)) (by decide) (by decide) (by decide)) (gm_c gm_S (gm_c gm_S gm_rf (by decide) (by decide) (by decide)) (by decide) (by decide) (by decide))) (gm_ite (gm_c gm_L (gm_c gm_S (gm_c gm_S gm_rf (by decide) (by decide) (by decide)) (by decide) (by decide) (by decide)) (by decide) (by decide) (by decide)) (gm_c gm_S (gm_c gm_S gm_rf (by decide) (by decide) (by decide)) (by decide) (by decide) (by decide)))) (gm_ite (gm_ite (gm_c gm_L (gm_c gm_S (gm_c gm_S gm_rf (by decide) (by decide) (by decide)) (by decide) (by decide) (by decide)) (by decide) (by decide) (by decide)) (gm_c gm_S (gm_c gm_S gm_rf (by decide) (by decide) (by decide)) (by decide) (by decide) (by decide))) (gm_ite (gm_c gm_L (gm_c gm_S (gm_c gm_S gm_rf (by decide) (by decide) (by decide)) (by decide) (by decide) (by decide)) (by decide) (by decide) (by decide)) (gm_c gm_S (gm_c gm_S gm_rf (by decide) (by decide) (by decide)) (by decide) (by decide) (by decide)))))
def v133 (x1 : Int32) (M : zRt) : Int32 := if (zkd M.2.2.2 (v125 x1 M)) = (Int32.ofInt 2) then ((Int32.ofInt (-1))) else (if (zkd M.2.2.2 (v125 x1 M)) = (Int32.ofInt 1) then (if ((r130 x1 (zbm9 M.2.2.2 (v125 x1 M)) M).1 8) = ((0 : Int32)) then ((zdo (r130 x1 (zbm9 M.2.2.2 (v125 x1 M)) M).2.2.2 ((r130 x1 (zbm9 M.2.2.2 (v125 x1 M)) M).1 1) (v125 x1 M))) else ((zdo (r127 x1 (zme (r130 x1 (zbm9 M.2.2.2 (v125 x1 M)) M).2.2.2 (v125 x1 M)) (r130 x1 (zbm9 M.2.2.2 (v125 x1 M)) M)).2.2.2 ((r127 x1 (zme (r130 x1 (zbm9 M.2.2.2 (v125 x1 M)) M).2.2.2 (v125 x1 M)) (r130 x1 (zbm9 M.2.2.2 (v125 x1 M)) M)).1 1) (v125 x1 M)))) else ((zdo M.2.2.2 (M.1 1) (v125 x1 M))))
def r133 (x1 : Int32) (M : zRt) : zRt := if (zkd M.2.2.2 (v125 x1 M)) = (Int32.ofInt 2) then M else (if (zkd M.2.2.2 (v125 x1 M)) = (Int32.ofInt 1) then (if ((r130 x1 (zbm9 M.2.2.2 (v125 x1 M)) M).1 8) = ((0 : Int32)) then ((r130 x1 (zbm9 M.2.2.2 (v125 x1 M)) M)) else ((r127 x1 (zme (r130 x1 (zbm9 M.2.2.2 (v125 x1 M)) M).2.2.2 (v125 x1 M)) (r130 x1 (zbm9 M.2.2.2 (v125 x1 M)) M)))) else M)
theorem f_133 {x1 : Int32} (hX : zUX kq X M.2.2) : zpM xs N 133 [.ref 44, .int x1] (zy S0 M X) nc ns (fun o => ∃ X', zUX kq X' (r133 x1 M).2.2 ∧ zOq (.inl (some (.int (v133 x1 M)))) (zy S0 (r133 x1 M) X') o) := by
  intro L0 e
  cases e
  refine zpE_run 2 (L' := [some (.ref 44), some (.int x1), none, none]) (st' := [.int x1, .ref 44]) rfl ?_
  refine zpE_call rfl rfl (f_125 (M := M) (x1 := x1) hX) (fun v h1 nc1 ns1 q8 => ?_) (fun E h1 nc1 ns1 q8 => by cases q8.1)
  obtain ⟨q8, q9⟩ := q8
  cases q8
  cases q9
  refine zpE_run 3 (L' := [some (.ref 44), some (.int x1), some (.int (v125 x1 M)), none]) (st' := [.int (v125 x1 M), .ref 44]) rfl ?_
  refine zpE_call rfl rfl (r_121 (zy_mc (M := M) hX)) (fun v h1 nc1 ns1 q8 => ?_) (fun E h1 nc1 ns1 q8 => by cases q8)
  cases q8
  refine zpE_run 3 (L' := [some (.ref 44), some (.int x1), some (.int (v125 x1 M)), some (.int (zkd M.2.2.2 (v125 x1 M)))]) (st' := [.int (Int32.ofInt 2), .int (zkd M.2.2.2 (v125 x1 M))]) rfl ?_
  refine zpE_icmp rfl (fun q14 => ?_) (fun q14 => ?_)
  · have z14_0 := zF_n1 q14
    refine zpE_run 2 (L' := [some (.ref 44), some (.int x1), some (.int (v125 x1 M)), some (.int (zkd M.2.2.2 (v125 x1 M)))]) (st' := [.int (Int32.ofInt 1), .int (zkd M.2.2.2 (v125 x1 M))]) rfl ?_
    refine zpE_icmp rfl (fun q21 => ?_) (fun q21 => ?_)
    · have z21_1 := zF_n1 q21
      refine zpE_run 2 (L' := [some (.ref 44), some (.int x1), some (.int (v125 x1 M)), some (.int (zkd M.2.2.2 (v125 x1 M)))]) (st' := [.int (v125 x1 M), .ref 44]) rfl ?_
      refine zpE_call rfl rfl (r_123 (zy_mc (M := M) hX)) (fun v h1 nc1 ns1 q8 => ?_) (fun E h1 nc1 ns1 q8 => by cases q8)
      cases q8
      exact zpE_end rfl rfl (zOx_w (M' := M) hX (by unfold v133; rw [if_neg z14_0, if_neg z21_1]) (by unfold r133; rw [if_neg z14_0, if_neg z21_1]))
    · have z21_1 := zF_n0 q21
      refine zpE_run 4 (L' := [some (.ref 44), some (.int x1), some (.int (v125 x1 M)), some (.int (zkd M.2.2.2 (v125 x1 M)))]) (st' := [.int (v125 x1 M), .ref 44, .int x1, .ref 44]) rfl ?_
      refine zpE_call rfl rfl (r_120 (zy_mc (M := M) hX)) (fun v h1 nc1 ns1 q8 => ?_) (fun E h1 nc1 ns1 q8 => by cases q8)
      cases q8
      refine zpE_call rfl rfl (f_130 (M := M) (x1 := x1) (x2 := zbm9 M.2.2.2 (v125 x1 M)) hX) (fun v h1 nc1 ns1 q8 => ?_) (fun E h1 nc1 ns1 q8 => by obtain ⟨_, _, q8, _⟩ := q8; cases q8)
      obtain ⟨X1, hX1, q8, q9⟩ := q8
      cases q8
      cases q9
      obtain ⟨Z1, hZ1⟩ : ∃ Z, Z = r130 x1 (zbm9 M.2.2.2 (v125 x1 M)) M := ⟨_, rfl⟩
      rw [← hZ1]
      have hY2 : zUX kq X1 Z1.2.2 := by
        rw [hZ1]
        exact hX1
      refine zpE_run 2 (L' := [some (.ref 44), some (.int x1), some (.int (v125 x1 M)), some (.int (zkd M.2.2.2 (v125 x1 M)))]) (st' := [.int (Z1.1 8)]) rfl ?_
      refine zpE_if rfl (fun q38 => ?_) (fun q38 => ?_)
      · have z38_2 := zF_e1 q38
        refine zpE_run 2 (L' := [some (.ref 44), some (.int x1), some (.int (v125 x1 M)), some (.int (zkd M.2.2.2 (v125 x1 M)))]) (st' := [.int (v125 x1 M), .ref 44]) rfl ?_
        refine zpE_call rfl rfl (r_123 (zy_mc (M := Z1) hY2)) (fun v h1 nc1 ns1 q8 => ?_) (fun E h1 nc1 ns1 q8 => by cases q8)
        cases q8
        exact zpE_end rfl rfl (zOx_w (M' := Z1) hY2 (by unfold v133; (try rw [← hZ1]); rw [if_neg z14_0, if_pos z21_1, if_pos z38_2]) (by unfold r133; (try rw [← hZ1]); rw [if_neg z14_0, if_pos z21_1, if_pos z38_2]))
      · have z38_2 := zF_e0 q38
        refine zpE_run 4 (L' := [some (.ref 44), some (.int x1), some (.int (v125 x1 M)), some (.int (zkd M.2.2.2 (v125 x1 M)))]) (st' := [.int (v125 x1 M), .ref 44, .int x1, .ref 44]) rfl ?_
        refine zpE_call rfl rfl (r_122 (zy_mc (M := Z1) hY2)) (fun v h1 nc1 ns1 q8 => ?_) (fun E h1 nc1 ns1 q8 => by cases q8)
        cases q8
        refine zpE_call rfl rfl (f_127 (M := Z1) (x1 := x1) (x2 := zme Z1.2.2.2 (v125 x1 M)) hY2) (fun v h1 nc1 ns1 q8 => ?_) (fun E h1 nc1 ns1 q8 => by cases q8.1)
        obtain ⟨q8, q9⟩ := q8
        cases q8
        cases q9
        obtain ⟨Z2, hZ2⟩ : ∃ Z, Z = r127 x1 (zme Z1.2.2.2 (v125 x1 M)) Z1 := ⟨_, rfl⟩
        rw [← hZ2]
        have hY3 : zUX kq X1 Z2.2.2 := by
          rw [hZ2, rl_127]
          exact hY2
        refine zpE_run 2 (L' := [some (.ref 44), some (.int x1), some (.int (v125 x1 M)), some (.int (zkd M.2.2.2 (v125 x1 M)))]) (st' := [.int (v125 x1 M), .ref 44]) rfl ?_
        refine zpE_call rfl rfl (r_123 (zy_mc (M := Z2) hY3)) (fun v h1 nc1 ns1 q8 => ?_) (fun E h1 nc1 ns1 q8 => by cases q8)
        cases q8
        exact zpE_end rfl rfl (zOx_w (M' := Z2) hY3 (by unfold v133; (try rw [← hZ1]); (try rw [← hZ2]); rw [if_neg z14_0, if_pos z21_1, if_neg z38_2]) (by unfold r133; (try rw [← hZ1]); (try rw [← hZ2]); rw [if_neg z14_0, if_pos z21_1, if_neg z38_2]))
  · have z14_0 := zF_n0 q14
    refine zpE_run 1 (L' := [some (.ref 44), some (.int x1), some (.int (v125 x1 M)), some (.int (zkd M.2.2.2 (v125 x1 M)))]) (st' := [.int (Int32.ofInt (-1))]) rfl ?_
    exact zpE_end rfl rfl (zOx_w (M' := M) hX (by unfold v133; rw [if_pos z14_0]) (by unfold r133; rw [if_pos z14_0]))
theorem gr_133 {x1 : Int32} : zfrM [14, 15] [0, 1, 2, 3, 4, 5, 6, 7, 8, 9, 10, 11, 12, 13, 14, 15, 16, 17, 18, 19] [2] (r133 x1 M) M := by
  unfold r133
  exact (gm_ite gm_rf (gm_ite (gm_ite (gm_c gr_130 gm_rf (by decide) (by decide) (by decide)) (gm_c gr_127 (gm_c gr_130 gm_rf (by decide) (by decide) (by decide)) (by decide) (by decide) (by decide))) gm_rf))
def v134 (x1 : Int32) (M : zRt) : Int32 := if (zgt ((r129 (v124 x1 M) M).2.1 24) x1) = ((0 : Int32)) then (if (v133 x1 (r129 (v124 x1 M) M)) = (Int32.ofInt (-1)) then (if ((r130 x1 (Int32.ofInt (-1)) (r133 x1 (r129 (v124 x1 M) M))).1 9) = ((0 : Int32)) then ((Int32.ofInt (-1))) else (if (zgt ((r130 x1 (Int32.ofInt (-1)) (r133 x1 (r129 (v124 x1 M) M))).2.1 25) (v131 x1 (r130 x1 (Int32.ofInt (-1)) (r133 x1 (r129 (v124 x1 M) M))))) = ((0 : Int32)) then (if (zgt ((r129 (v124 (v131 x1 (r130 x1 (Int32.ofInt (-1)) (r133 x1 (r129 (v124 x1 M) M)))) (r130 x1 (Int32.ofInt (-1)) (r133 x1 (r129 (v124 x1 M) M)))) (r130 x1 (Int32.ofInt (-1)) (r133 x1 (r129 (v124 x1 M) M)))).2.1 24) (v131 x1 (r130 x1 (Int32.ofInt (-1)) (r133 x1 (r129 (v124 x1 M) M))))) = ((0 : Int32)) then (if (v133 (v131 x1 (r130 x1 (Int32.ofInt (-1)) (r133 x1 (r129 (v124 x1 M) M)))) (r129 (v124 (v131 x1 (r130 x1 (Int32.ofInt (-1)) (r133 x1 (r129 (v124 x1 M) M)))) (r130 x1 (Int32.ofInt (-1)) (r133 x1 (r129 (v124 x1 M) M)))) (r130 x1 (Int32.ofInt (-1)) (r133 x1 (r129 (v124 x1 M) M))))) = (Int32.ofInt (-1)) then ((Int32.ofInt (-1))) else ((v133 (v131 x1 (r130 x1 (Int32.ofInt (-1)) (r133 x1 (r129 (v124 x1 M) M)))) (r129 (v124 (v131 x1 (r130 x1 (Int32.ofInt (-1)) (r133 x1 (r129 (v124 x1 M) M)))) (r130 x1 (Int32.ofInt (-1)) (r133 x1 (r129 (v124 x1 M) M)))) (r130 x1 (Int32.ofInt (-1)) (r133 x1 (r129 (v124 x1 M) M))))))) else ((Int32.ofInt (-1)))) else ((Int32.ofInt (-1))))) else ((v133 x1 (r129 (v124 x1 M) M)))) else (if ((r129 (v124 x1 M) M).1 9) = ((0 : Int32)) then ((Int32.ofInt (-1))) else (if (zgt ((r129 (v124 x1 M) M).2.1 25) (v131 x1 (r129 (v124 x1 M) M))) = ((0 : Int32)) then (if (zgt ((r129 (v124 (v131 x1 (r129 (v124 x1 M) M)) (r129 (v124 x1 M) M)) (r129 (v124 x1 M) M)).2.1 24) (v131 x1 (r129 (v124 x1 M) M))) = ((0 : Int32)) then (if (v133 (v131 x1 (r129 (v124 x1 M) M)) (r129 (v124 (v131 x1 (r129 (v124 x1 M) M)) (r129 (v124 x1 M) M)) (r129 (v124 x1 M) M))) = (Int32.ofInt (-1)) then ((Int32.ofInt (-1))) else ((v133 (v131 x1 (r129 (v124 x1 M) M)) (r129 (v124 (v131 x1 (r129 (v124 x1 M) M)) (r129 (v124 x1 M) M)) (r129 (v124 x1 M) M))))) else ((Int32.ofInt (-1)))) else ((Int32.ofInt (-1)))))
def r134 (x1 : Int32) (M : zRt) : zRt := if (zgt ((r129 (v124 x1 M) M).2.1 24) x1) = ((0 : Int32)) then (if (v133 x1 (r129 (v124 x1 M) M)) = (Int32.ofInt (-1)) then (if ((r130 x1 (Int32.ofInt (-1)) (r133 x1 (r129 (v124 x1 M) M))).1 9) = ((0 : Int32)) then (zmW (r130 x1 (Int32.ofInt (-1)) (r133 x1 (r129 (v124 x1 M) M))) 24 x1 (Int32.ofInt 1)) else (if (zgt ((r130 x1 (Int32.ofInt (-1)) (r133 x1 (r129 (v124 x1 M) M))).2.1 25) (v131 x1 (r130 x1 (Int32.ofInt (-1)) (r133 x1 (r129 (v124 x1 M) M))))) = ((0 : Int32)) then (if (zgt ((r129 (v124 (v131 x1 (r130 x1 (Int32.ofInt (-1)) (r133 x1 (r129 (v124 x1 M) M)))) (r130 x1 (Int32.ofInt (-1)) (r133 x1 (r129 (v124 x1 M) M)))) (r130 x1 (Int32.ofInt (-1)) (r133 x1 (r129 (v124 x1 M) M)))).2.1 24) (v131 x1 (r130 x1 (Int32.ofInt (-1)) (r133 x1 (r129 (v124 x1 M) M))))) = ((0 : Int32)) then (if (v133 (v131 x1 (r130 x1 (Int32.ofInt (-1)) (r133 x1 (r129 (v124 x1 M) M)))) (r129 (v124 (v131 x1 (r130 x1 (Int32.ofInt (-1)) (r133 x1 (r129 (v124 x1 M) M)))) (r130 x1 (Int32.ofInt (-1)) (r133 x1 (r129 (v124 x1 M) M)))) (r130 x1 (Int32.ofInt (-1)) (r133 x1 (r129 (v124 x1 M) M))))) = (Int32.ofInt (-1)) then (zmW (r133 (v131 x1 (r130 x1 (Int32.ofInt (-1)) (r133 x1 (r129 (v124 x1 M) M)))) (r129 (v124 (v131 x1 (r130 x1 (Int32.ofInt (-1)) (r133 x1 (r129 (v124 x1 M) M)))) (r130 x1 (Int32.ofInt (-1)) (r133 x1 (r129 (v124 x1 M) M)))) (r130 x1 (Int32.ofInt (-1)) (r133 x1 (r129 (v124 x1 M) M))))) 24 x1 (Int32.ofInt 1)) else (zmW (r127 x1 ((v133 (v131 x1 (r130 x1 (Int32.ofInt (-1)) (r133 x1 (r129 (v124 x1 M) M)))) (r129 (v124 (v131 x1 (r130 x1 (Int32.ofInt (-1)) (r133 x1 (r129 (v124 x1 M) M)))) (r130 x1 (Int32.ofInt (-1)) (r133 x1 (r129 (v124 x1 M) M)))) (r130 x1 (Int32.ofInt (-1)) (r133 x1 (r129 (v124 x1 M) M))))) ||| (zsm (r133 (v131 x1 (r130 x1 (Int32.ofInt (-1)) (r133 x1 (r129 (v124 x1 M) M)))) (r129 (v124 (v131 x1 (r130 x1 (Int32.ofInt (-1)) (r133 x1 (r129 (v124 x1 M) M)))) (r130 x1 (Int32.ofInt (-1)) (r133 x1 (r129 (v124 x1 M) M)))) (r130 x1 (Int32.ofInt (-1)) (r133 x1 (r129 (v124 x1 M) M))))).2.2.2 (v133 (v131 x1 (r130 x1 (Int32.ofInt (-1)) (r133 x1 (r129 (v124 x1 M) M)))) (r129 (v124 (v131 x1 (r130 x1 (Int32.ofInt (-1)) (r133 x1 (r129 (v124 x1 M) M)))) (r130 x1 (Int32.ofInt (-1)) (r133 x1 (r129 (v124 x1 M) M)))) (r130 x1 (Int32.ofInt (-1)) (r133 x1 (r129 (v124 x1 M) M))))) <<< ((r133 (v131 x1 (r130 x1 (Int32.ofInt (-1)) (r133 x1 (r129 (v124 x1 M) M)))) (r129 (v124 (v131 x1 (r130 x1 (Int32.ofInt (-1)) (r133 x1 (r129 (v124 x1 M) M)))) (r130 x1 (Int32.ofInt (-1)) (r133 x1 (r129 (v124 x1 M) M)))) (r130 x1 (Int32.ofInt (-1)) (r133 x1 (r129 (v124 x1 M) M))))).1 1 &&& 31))) (r133 (v131 x1 (r130 x1 (Int32.ofInt (-1)) (r133 x1 (r129 (v124 x1 M) M)))) (r129 (v124 (v131 x1 (r130 x1 (Int32.ofInt (-1)) (r133 x1 (r129 (v124 x1 M) M)))) (r130 x1 (Int32.ofInt (-1)) (r133 x1 (r129 (v124 x1 M) M)))) (r130 x1 (Int32.ofInt (-1)) (r133 x1 (r129 (v124 x1 M) M)))))) 24 x1 (Int32.ofInt 0))) else (zmW (r129 (v124 (v131 x1 (r130 x1 (Int32.ofInt (-1)) (r133 x1 (r129 (v124 x1 M) M)))) (r130 x1 (Int32.ofInt (-1)) (r133 x1 (r129 (v124 x1 M) M)))) (r130 x1 (Int32.ofInt (-1)) (r133 x1 (r129 (v124 x1 M) M)))) 24 x1 (Int32.ofInt 1))) else (zmW (r130 x1 (Int32.ofInt (-1)) (r133 x1 (r129 (v124 x1 M) M))) 24 x1 (Int32.ofInt 1)))) else ((r133 x1 (r129 (v124 x1 M) M)))) else (if ((r129 (v124 x1 M) M).1 9) = ((0 : Int32)) then (zmW (r129 (v124 x1 M) M) 24 x1 (Int32.ofInt 1)) else (if (zgt ((r129 (v124 x1 M) M).2.1 25) (v131 x1 (r129 (v124 x1 M) M))) = ((0 : Int32)) then (if (zgt ((r129 (v124 (v131 x1 (r129 (v124 x1 M) M)) (r129 (v124 x1 M) M)) (r129 (v124 x1 M) M)).2.1 24) (v131 x1 (r129 (v124 x1 M) M))) = ((0 : Int32)) then (if (v133 (v131 x1 (r129 (v124 x1 M) M)) (r129 (v124 (v131 x1 (r129 (v124 x1 M) M)) (r129 (v124 x1 M) M)) (r129 (v124 x1 M) M))) = (Int32.ofInt (-1)) then (zmW (r133 (v131 x1 (r129 (v124 x1 M) M)) (r129 (v124 (v131 x1 (r129 (v124 x1 M) M)) (r129 (v124 x1 M) M)) (r129 (v124 x1 M) M))) 24 x1 (Int32.ofInt 1)) else (zmW (r127 x1 ((v133 (v131 x1 (r129 (v124 x1 M) M)) (r129 (v124 (v131 x1 (r129 (v124 x1 M) M)) (r129 (v124 x1 M) M)) (r129 (v124 x1 M) M))) ||| (zsm (r133 (v131 x1 (r129 (v124 x1 M) M)) (r129 (v124 (v131 x1 (r129 (v124 x1 M) M)) (r129 (v124 x1 M) M)) (r129 (v124 x1 M) M))).2.2.2 (v133 (v131 x1 (r129 (v124 x1 M) M)) (r129 (v124 (v131 x1 (r129 (v124 x1 M) M)) (r129 (v124 x1 M) M)) (r129 (v124 x1 M) M))) <<< ((r133 (v131 x1 (r129 (v124 x1 M) M)) (r129 (v124 (v131 x1 (r129 (v124 x1 M) M)) (r129 (v124 x1 M) M)) (r129 (v124 x1 M) M))).1 1 &&& 31))) (r133 (v131 x1 (r129 (v124 x1 M) M)) (r129 (v124 (v131 x1 (r129 (v124 x1 M) M)) (r129 (v124 x1 M) M)) (r129 (v124 x1 M) M)))) 24 x1 (Int32.ofInt 0))) else (zmW (r129 (v124 (v131 x1 (r129 (v124 x1 M) M)) (r129 (v124 x1 M) M)) (r129 (v124 x1 M) M)) 24 x1 (Int32.ofInt 1))) else (zmW (r129 (v124 x1 M) M) 24 x1 (Int32.ofInt 1))))
theorem f_134 {x1 : Int32} (hX : zUX kq X M.2.2) : zpM xs N 134 [.ref 44, .int x1] (zy S0 M X) nc ns (fun o => ∃ X', zUX kq X' (r134 x1 M).2.2 ∧ zOq (.inl (some (.int (v134 x1 M)))) (zy S0 (r134 x1 M) X') o) := by
  intro L0 e
  cases e
  refine zpE_run 3 (L' := [some (.ref 44), some (.int x1), none, none]) (st' := [.int x1, .ref 44, .ref 44]) rfl ?_
  refine zpE_call rfl rfl (f_124 (M := M) (x1 := x1) hX) (fun v h1 nc1 ns1 q8 => ?_) (fun E h1 nc1 ns1 q8 => by cases q8.1)
  obtain ⟨q8, q9⟩ := q8
  cases q8
  cases q9
  refine zpE_call rfl rfl (f_129 (M := M) (x1 := v124 x1 M) hX) (fun v h1 nc1 ns1 q8 => ?_) (fun E h1 nc1 ns1 q8 => by cases q8.1)
  obtain ⟨q8, q9⟩ := q8
  cases q8
  cases q9
  obtain ⟨Z1, hZ1⟩ : ∃ Z, Z = r129 (v124 x1 M) M := ⟨_, rfl⟩
  rw [← hZ1]
  have hY1 : zUX kq X Z1.2.2 := by
    rw [hZ1, rl_129]
    exact hX
  refine zpE_run 3 (L' := [some (.ref 44), some (.int x1), none, none]) (st' := [.int x1, .ref 71]) rfl ?_
  refine zpE_bly rfl (zy_g71 (M := Z1)) (fun _ _ => ?_)
  refine zpE_gen (fun nc ns => ?_)
  refine zpE_if rfl (fun q15 => ?_) (fun q15 => ?_)
  · have z15_0 := zF_n1 q15
    refine zpE_run 1 (L' := [some (.ref 44), some (.int x1), none, none]) (st' := [.int x1]) rfl ?_
    refine zpE_call rfl rfl (f_131 (M := Z1) (x1 := x1) hY1) (fun v h1 nc1 ns1 q8 => ?_) (fun E h1 nc1 ns1 q8 => by cases q8.1)
    obtain ⟨q8, q9⟩ := q8
    cases q8
    cases q9
    refine zpE_run 3 (L' := [some (.ref 44), some (.int x1), some (.int (v131 x1 Z1)), none]) (st' := [.int (Z1.1 9)]) rfl ?_
    refine zpE_if rfl (fun q46 => ?_) (fun q46 => ?_)
    · have z46_1 := zF_e1 q46
      refine zpE_run 4 (L' := [some (.ref 44), some (.int x1), some (.int (v131 x1 Z1)), none]) (st' := [.int (Int32.ofInt 1), .int x1, .ref 71]) rfl ?_
      refine zpE_bsy (h' := zy S0 (zmW Z1 24 x1 (Int32.ofInt 1)) X) rfl (zy_g71 (M := Z1)) (zy_s71 (M := Z1)) (fun _ _ _ => ?_)
      refine zpE_gen (fun nc ns => ?_)
      refine zpE_run 1 (L' := [some (.ref 44), some (.int x1), some (.int (v131 x1 Z1)), none]) (st' := [.int (Int32.ofInt (-1))]) rfl ?_
      exact zpE_end rfl rfl (zOx_w (M' := zmW Z1 24 x1 (Int32.ofInt 1)) hY1 (by unfold v134; (try rw [← hZ1]); rw [if_neg z15_0, if_pos z46_1]) (by unfold r134; (try rw [← hZ1]); rw [if_neg z15_0, if_pos z46_1]))
    · have z46_1 := zF_e0 q46
      refine zpE_run 3 (L' := [some (.ref 44), some (.int x1), some (.int (v131 x1 Z1)), none]) (st' := [.int (v131 x1 Z1), .ref 72]) rfl ?_
      refine zpE_bly rfl (zy_g72 (M := Z1)) (fun _ _ => ?_)
      refine zpE_gen (fun nc ns => ?_)
      refine zpE_if rfl (fun q55 => ?_) (fun q55 => ?_)
      · have z55_2 := zF_n1 q55
        refine zpE_run 4 (L' := [some (.ref 44), some (.int x1), some (.int (v131 x1 Z1)), none]) (st' := [.int (Int32.ofInt 1), .int x1, .ref 71]) rfl ?_
        refine zpE_bsy (h' := zy S0 (zmW Z1 24 x1 (Int32.ofInt 1)) X) rfl (zy_g71 (M := Z1)) (zy_s71 (M := Z1)) (fun _ _ _ => ?_)
        refine zpE_gen (fun nc ns => ?_)
        refine zpE_run 1 (L' := [some (.ref 44), some (.int x1), some (.int (v131 x1 Z1)), none]) (st' := [.int (Int32.ofInt (-1))]) rfl ?_
        exact zpE_end rfl rfl (zOx_w (M' := zmW Z1 24 x1 (Int32.ofInt 1)) hY1 (by unfold v134; (try rw [← hZ1]); rw [if_neg z15_0, if_neg z46_1, if_neg z55_2]) (by unfold r134; (try rw [← hZ1]); rw [if_neg z15_0, if_neg z46_1, if_neg z55_2]))
      · have z55_2 := zF_n0 q55
        refine zpE_run 3 (L' := [some (.ref 44), some (.int x1), some (.int (v131 x1 Z1)), none]) (st' := [.int (v131 x1 Z1), .ref 44, .ref 44]) rfl ?_
        refine zpE_call rfl rfl (f_124 (M := Z1) (x1 := v131 x1 Z1) hY1) (fun v h1 nc1 ns1 q8 => ?_) (fun E h1 nc1 ns1 q8 => by cases q8.1)
        obtain ⟨q8, q9⟩ := q8
        cases q8
        cases q9
        refine zpE_call rfl rfl (f_129 (M := Z1) (x1 := v124 (v131 x1 Z1) Z1) hY1) (fun v h1 nc1 ns1 q8 => ?_) (fun E h1 nc1 ns1 q8 => by cases q8.1)
        obtain ⟨q8, q9⟩ := q8
        cases q8
        cases q9
        obtain ⟨Z2, hZ2⟩ : ∃ Z, Z = r129 (v124 (v131 x1 Z1) Z1) Z1 := ⟨_, rfl⟩
        rw [← hZ2]
        have hY2 : zUX kq X Z2.2.2 := by
          rw [hZ2, rl_129]
          exact hY1
        refine zpE_run 3 (L' := [some (.ref 44), some (.int x1), some (.int (v131 x1 Z1)), none]) (st' := [.int (v131 x1 Z1), .ref 71]) rfl ?_
        refine zpE_bly rfl (zy_g71 (M := Z2)) (fun _ _ => ?_)
        refine zpE_gen (fun nc ns => ?_)
        refine zpE_if rfl (fun q73 => ?_) (fun q73 => ?_)
        · have z73_3 := zF_e1 q73
          refine zpE_run 2 (L' := [some (.ref 44), some (.int x1), some (.int (v131 x1 Z1)), none]) (st' := [.int (v131 x1 Z1), .ref 44]) rfl ?_
          refine zpE_call rfl rfl (f_133 (M := Z2) (x1 := v131 x1 Z1) hY2) (fun v h1 nc1 ns1 q8 => ?_) (fun E h1 nc1 ns1 q8 => by obtain ⟨_, _, q8, _⟩ := q8; cases q8)
          obtain ⟨X3, hX3, q8, q9⟩ := q8
          cases q8
          cases q9
          obtain ⟨Z3, hZ3⟩ : ∃ Z, Z = r133 (v131 x1 Z1) Z2 := ⟨_, rfl⟩
          rw [← hZ3]
          have hY4 : zUX kq X3 Z3.2.2 := by
            rw [hZ3]
            exact hX3
          refine zpE_run 3 (L' := [some (.ref 44), some (.int x1), some (.int (v131 x1 Z1)), some (.int (v133 (v131 x1 Z1) Z2))]) (st' := [.int (Int32.ofInt (-1)), .int (v133 (v131 x1 Z1) Z2)]) rfl ?_
          refine zpE_icmp rfl (fun q88 => ?_) (fun q88 => ?_)
          · have z88_4 := zF_e1 q88
            refine zpE_run 4 (L' := [some (.ref 44), some (.int x1), some (.int (v131 x1 Z1)), some (.int (v133 (v131 x1 Z1) Z2))]) (st' := [.int (Int32.ofInt 1), .int x1, .ref 71]) rfl ?_
            refine zpE_bsy (h' := zy S0 (zmW Z3 24 x1 (Int32.ofInt 1)) X3) rfl (zy_g71 (M := Z3)) (zy_s71 (M := Z3)) (fun _ _ _ => ?_)
            refine zpE_gen (fun nc ns => ?_)
            refine zpE_run 1 (L' := [some (.ref 44), some (.int x1), some (.int (v131 x1 Z1)), some (.int (v133 (v131 x1 Z1) Z2))]) (st' := [.int (Int32.ofInt (-1))]) rfl ?_
            exact zpE_end rfl rfl (zOx_w (M' := zmW Z3 24 x1 (Int32.ofInt 1)) hY4 (by unfold v134; (try rw [← hZ1]); (try rw [← hZ2]); (try rw [← hZ3]); rw [if_neg z15_0, if_neg z46_1, if_pos z55_2, if_pos z73_3, if_pos z88_4]) (by unfold r134; (try rw [← hZ1]); (try rw [← hZ2]); (try rw [← hZ3]); rw [if_neg z15_0, if_neg z46_1, if_pos z55_2, if_pos z73_3, if_pos z88_4]))
          · have z88_4 := zF_e0 q88
            refine zpE_run 4 (L' := [some (.ref 44), some (.int x1), some (.int (v131 x1 Z1)), some (.int (v133 (v131 x1 Z1) Z2))]) (st' := [.int (v133 (v131 x1 Z1) Z2), .ref 44, .int x1, .ref 44]) rfl ?_
            refine zpE_call rfl rfl (r_119 (zy_mc (M := Z3) hY4)) (fun v h1 nc1 ns1 q8 => ?_) (fun E h1 nc1 ns1 q8 => by cases q8)
            cases q8
            refine zpE_call rfl rfl (f_127 (M := Z3) (x1 := x1) (x2 := (v133 (v131 x1 Z1) Z2) ||| (zsm Z3.2.2.2 (v133 (v131 x1 Z1) Z2) <<< (Z3.1 1 &&& 31))) hY4) (fun v h1 nc1 ns1 q8 => ?_) (fun E h1 nc1 ns1 q8 => by cases q8.1)
            obtain ⟨q8, q9⟩ := q8
            cases q8
            cases q9
            obtain ⟨Z4, hZ4⟩ : ∃ Z, Z = r127 x1 ((v133 (v131 x1 Z1) Z2) ||| (zsm Z3.2.2.2 (v133 (v131 x1 Z1) Z2) <<< (Z3.1 1 &&& 31))) Z3 := ⟨_, rfl⟩
            rw [← hZ4]
            have hY5 : zUX kq X3 Z4.2.2 := by
              rw [hZ4, rl_127]
              exact hY4
            refine zpE_run 4 (L' := [some (.ref 44), some (.int x1), some (.int (v131 x1 Z1)), some (.int (v133 (v131 x1 Z1) Z2))]) (st' := [.int (Int32.ofInt 0), .int x1, .ref 71]) rfl ?_
            refine zpE_bsy (h' := zy S0 (zmW Z4 24 x1 (Int32.ofInt 0)) X3) rfl (zy_g71 (M := Z4)) (zy_s71 (M := Z4)) (fun _ _ _ => ?_)
            refine zpE_gen (fun nc ns => ?_)
            refine zpE_run 1 (L' := [some (.ref 44), some (.int x1), some (.int (v131 x1 Z1)), some (.int (v133 (v131 x1 Z1) Z2))]) (st' := [.int (v133 (v131 x1 Z1) Z2)]) rfl ?_
            exact zpE_end rfl rfl (zOx_w (M' := zmW Z4 24 x1 (Int32.ofInt 0)) hY5 (by unfold v134; (try rw [← hZ1]); (try rw [← hZ2]); (try rw [← hZ3]); (try rw [← hZ4]); rw [if_neg z15_0, if_neg z46_1, if_pos z55_2, if_pos z73_3, if_neg z88_4]) (by unfold r134; (try rw [← hZ1]); (try rw [← hZ2]); (try rw [← hZ3]); (try rw [← hZ4]); rw [if_neg z15_0, if_neg z46_1, if_pos z55_2, if_pos z73_3, if_neg z88_4]))
        · have z73_3 := zF_e0 q73
          refine zpE_run 5 (L' := [some (.ref 44), some (.int x1), some (.int (v131 x1 Z1)), some (.int (Int32.ofInt (-1)))]) (st' := [.int (Int32.ofInt (-1)), .int (Int32.ofInt (-1))]) rfl ?_
          refine zpE_icmp rfl (fun q88 => ?_) (fun q88 => ?_)
          · clear q88
            refine zpE_run 4 (L' := [some (.ref 44), some (.int x1), some (.int (v131 x1 Z1)), some (.int (Int32.ofInt (-1)))]) (st' := [.int (Int32.ofInt 1), .int x1, .ref 71]) rfl ?_
            refine zpE_bsy (h' := zy S0 (zmW Z2 24 x1 (Int32.ofInt 1)) X) rfl (zy_g71 (M := Z2)) (zy_s71 (M := Z2)) (fun _ _ _ => ?_)
            refine zpE_gen (fun nc ns => ?_)
            refine zpE_run 1 (L' := [some (.ref 44), some (.int x1), some (.int (v131 x1 Z1)), some (.int (Int32.ofInt (-1)))]) (st' := [.int (Int32.ofInt (-1))]) rfl ?_
            exact zpE_end rfl rfl (zOx_w (M' := zmW Z2 24 x1 (Int32.ofInt 1)) hY2 (by unfold v134; (try rw [← hZ1]); (try rw [← hZ2]); rw [if_neg z15_0, if_neg z46_1, if_pos z55_2, if_neg z73_3]) (by unfold r134; (try rw [← hZ1]); (try rw [← hZ2]); rw [if_neg z15_0, if_neg z46_1, if_pos z55_2, if_neg z73_3]))
          · exact absurd (zF_e0 q88) (by decide)
  · have z15_0 := zF_n0 q15
    refine zpE_run 2 (L' := [some (.ref 44), some (.int x1), none, none]) (st' := [.int x1, .ref 44]) rfl ?_
    refine zpE_call rfl rfl (f_133 (M := Z1) (x1 := x1) hY1) (fun v h1 nc1 ns1 q8 => ?_) (fun E h1 nc1 ns1 q8 => by obtain ⟨_, _, q8, _⟩ := q8; cases q8)
    obtain ⟨X6, hX6, q8, q9⟩ := q8
    cases q8
    cases q9
    obtain ⟨Z5, hZ5⟩ : ∃ Z, Z = r133 x1 Z1 := ⟨_, rfl⟩
    rw [← hZ5]
    have hY7 : zUX kq X6 Z5.2.2 := by
      rw [hZ5]
      exact hX6
    refine zpE_run 3 (L' := [some (.ref 44), some (.int x1), some (.int (v133 x1 Z1)), none]) (st' := [.int (Int32.ofInt (-1)), .int (v133 x1 Z1)]) rfl ?_
    refine zpE_icmp rfl (fun q26 => ?_) (fun q26 => ?_)
    · have z26_1 := zF_e1 q26
      refine zpE_run 3 (L' := [some (.ref 44), some (.int x1), some (.int (v133 x1 Z1)), none]) (st' := [.int (Int32.ofInt (-1)), .int x1, .ref 44]) rfl ?_
      refine zpE_call rfl rfl (f_130 (M := Z5) (x1 := x1) (x2 := Int32.ofInt (-1)) hY7) (fun v h1 nc1 ns1 q8 => ?_) (fun E h1 nc1 ns1 q8 => by obtain ⟨_, _, q8, _⟩ := q8; cases q8)
      obtain ⟨X8, hX8, q8, q9⟩ := q8
      cases q8
      cases q9
      obtain ⟨Z6, hZ6⟩ : ∃ Z, Z = r130 x1 (Int32.ofInt (-1)) Z5 := ⟨_, rfl⟩
      rw [← hZ6]
      have hY9 : zUX kq X8 Z6.2.2 := by
        rw [hZ6]
        exact hX8
      refine zpE_run 1 (L' := [some (.ref 44), some (.int x1), some (.int (v133 x1 Z1)), none]) (st' := [.int x1]) rfl ?_
      refine zpE_call rfl rfl (f_131 (M := Z6) (x1 := x1) hY9) (fun v h1 nc1 ns1 q8 => ?_) (fun E h1 nc1 ns1 q8 => by cases q8.1)
      obtain ⟨q8, q9⟩ := q8
      cases q8
      cases q9
      refine zpE_run 3 (L' := [some (.ref 44), some (.int x1), some (.int (v131 x1 Z6)), none]) (st' := [.int (Z6.1 9)]) rfl ?_
      refine zpE_if rfl (fun q46 => ?_) (fun q46 => ?_)
      · have z46_2 := zF_e1 q46
        refine zpE_run 4 (L' := [some (.ref 44), some (.int x1), some (.int (v131 x1 Z6)), none]) (st' := [.int (Int32.ofInt 1), .int x1, .ref 71]) rfl ?_
        refine zpE_bsy (h' := zy S0 (zmW Z6 24 x1 (Int32.ofInt 1)) X8) rfl (zy_g71 (M := Z6)) (zy_s71 (M := Z6)) (fun _ _ _ => ?_)
        refine zpE_gen (fun nc ns => ?_)
        refine zpE_run 1 (L' := [some (.ref 44), some (.int x1), some (.int (v131 x1 Z6)), none]) (st' := [.int (Int32.ofInt (-1))]) rfl ?_
        exact zpE_end rfl rfl (zOx_w (M' := zmW Z6 24 x1 (Int32.ofInt 1)) hY9 (by unfold v134; (try rw [← hZ1]); (try rw [← hZ5]); (try rw [← hZ6]); rw [if_pos z15_0, if_pos z26_1, if_pos z46_2]) (by unfold r134; (try rw [← hZ1]); (try rw [← hZ5]); (try rw [← hZ6]); rw [if_pos z15_0, if_pos z26_1, if_pos z46_2]))
      · have z46_2 := zF_e0 q46
        refine zpE_run 3 (L' := [some (.ref 44), some (.int x1), some (.int (v131 x1 Z6)), none]) (st' := [.int (v131 x1 Z6), .ref 72]) rfl ?_
        refine zpE_bly rfl (zy_g72 (M := Z6)) (fun _ _ => ?_)
        refine zpE_gen (fun nc ns => ?_)
        refine zpE_if rfl (fun q55 => ?_) (fun q55 => ?_)
        · have z55_3 := zF_n1 q55
          refine zpE_run 4 (L' := [some (.ref 44), some (.int x1), some (.int (v131 x1 Z6)), none]) (st' := [.int (Int32.ofInt 1), .int x1, .ref 71]) rfl ?_
          refine zpE_bsy (h' := zy S0 (zmW Z6 24 x1 (Int32.ofInt 1)) X8) rfl (zy_g71 (M := Z6)) (zy_s71 (M := Z6)) (fun _ _ _ => ?_)
          refine zpE_gen (fun nc ns => ?_)
          refine zpE_run 1 (L' := [some (.ref 44), some (.int x1), some (.int (v131 x1 Z6)), none]) (st' := [.int (Int32.ofInt (-1))]) rfl ?_
          exact zpE_end rfl rfl (zOx_w (M' := zmW Z6 24 x1 (Int32.ofInt 1)) hY9 (by unfold v134; (try rw [← hZ1]); (try rw [← hZ5]); (try rw [← hZ6]); rw [if_pos z15_0, if_pos z26_1, if_neg z46_2, if_neg z55_3]) (by unfold r134; (try rw [← hZ1]); (try rw [← hZ5]); (try rw [← hZ6]); rw [if_pos z15_0, if_pos z26_1, if_neg z46_2, if_neg z55_3]))
        · have z55_3 := zF_n0 q55
          refine zpE_run 3 (L' := [some (.ref 44), some (.int x1), some (.int (v131 x1 Z6)), none]) (st' := [.int (v131 x1 Z6), .ref 44, .ref 44]) rfl ?_
          refine zpE_call rfl rfl (f_124 (M := Z6) (x1 := v131 x1 Z6) hY9) (fun v h1 nc1 ns1 q8 => ?_) (fun E h1 nc1 ns1 q8 => by cases q8.1)
          obtain ⟨q8, q9⟩ := q8
          cases q8
          cases q9
          refine zpE_call rfl rfl (f_129 (M := Z6) (x1 := v124 (v131 x1 Z6) Z6) hY9) (fun v h1 nc1 ns1 q8 => ?_) (fun E h1 nc1 ns1 q8 => by cases q8.1)
          obtain ⟨q8, q9⟩ := q8
          cases q8
          cases q9
          obtain ⟨Z7, hZ7⟩ : ∃ Z, Z = r129 (v124 (v131 x1 Z6) Z6) Z6 := ⟨_, rfl⟩
          rw [← hZ7]
          have hY10 : zUX kq X8 Z7.2.2 := by
            rw [hZ7, rl_129]
            exact hY9
          refine zpE_run 3 (L' := [some (.ref 44), some (.int x1), some (.int (v131 x1 Z6)), none]) (st' := [.int (v131 x1 Z6), .ref 71]) rfl ?_
          refine zpE_bly rfl (zy_g71 (M := Z7)) (fun _ _ => ?_)
          refine zpE_gen (fun nc ns => ?_)
          refine zpE_if rfl (fun q73 => ?_) (fun q73 => ?_)
          · have z73_4 := zF_e1 q73
            refine zpE_run 2 (L' := [some (.ref 44), some (.int x1), some (.int (v131 x1 Z6)), none]) (st' := [.int (v131 x1 Z6), .ref 44]) rfl ?_
            refine zpE_call rfl rfl (f_133 (M := Z7) (x1 := v131 x1 Z6) hY10) (fun v h1 nc1 ns1 q8 => ?_) (fun E h1 nc1 ns1 q8 => by obtain ⟨_, _, q8, _⟩ := q8; cases q8)
            obtain ⟨X11, hX11, q8, q9⟩ := q8
            cases q8
            cases q9
            obtain ⟨Z8, hZ8⟩ : ∃ Z, Z = r133 (v131 x1 Z6) Z7 := ⟨_, rfl⟩
            rw [← hZ8]
            have hY12 : zUX kq X11 Z8.2.2 := by
              rw [hZ8]
              exact hX11
            refine zpE_run 3 (L' := [some (.ref 44), some (.int x1), some (.int (v131 x1 Z6)), some (.int (v133 (v131 x1 Z6) Z7))]) (st' := [.int (Int32.ofInt (-1)), .int (v133 (v131 x1 Z6) Z7)]) rfl ?_
            refine zpE_icmp rfl (fun q88 => ?_) (fun q88 => ?_)
            · have z88_5 := zF_e1 q88
              refine zpE_run 4 (L' := [some (.ref 44), some (.int x1), some (.int (v131 x1 Z6)), some (.int (v133 (v131 x1 Z6) Z7))]) (st' := [.int (Int32.ofInt 1), .int x1, .ref 71]) rfl ?_
              refine zpE_bsy (h' := zy S0 (zmW Z8 24 x1 (Int32.ofInt 1)) X11) rfl (zy_g71 (M := Z8)) (zy_s71 (M := Z8)) (fun _ _ _ => ?_)
              refine zpE_gen (fun nc ns => ?_)
              refine zpE_run 1 (L' := [some (.ref 44), some (.int x1), some (.int (v131 x1 Z6)), some (.int (v133 (v131 x1 Z6) Z7))]) (st' := [.int (Int32.ofInt (-1))]) rfl ?_
              exact zpE_end rfl rfl (zOx_w (M' := zmW Z8 24 x1 (Int32.ofInt 1)) hY12 (by unfold v134; (try rw [← hZ1]); (try rw [← hZ5]); (try rw [← hZ6]); (try rw [← hZ7]); (try rw [← hZ8]); rw [if_pos z15_0, if_pos z26_1, if_neg z46_2, if_pos z55_3, if_pos z73_4, if_pos z88_5]) (by unfold r134; (try rw [← hZ1]); (try rw [← hZ5]); (try rw [← hZ6]); (try rw [← hZ7]); (try rw [← hZ8]); rw [if_pos z15_0, if_pos z26_1, if_neg z46_2, if_pos z55_3, if_pos z73_4, if_pos z88_5]))
            · have z88_5 := zF_e0 q88
              refine zpE_run 4 (L' := [some (.ref 44), some (.int x1), some (.int (v131 x1 Z6)), some (.int (v133 (v131 x1 Z6) Z7))]) (st' := [.int (v133 (v131 x1 Z6) Z7), .ref 44, .int x1, .ref 44]) rfl ?_
              refine zpE_call rfl rfl (r_119 (zy_mc (M := Z8) hY12)) (fun v h1 nc1 ns1 q8 => ?_) (fun E h1 nc1 ns1 q8 => by cases q8)
              cases q8
              refine zpE_call rfl rfl (f_127 (M := Z8) (x1 := x1) (x2 := (v133 (v131 x1 Z6) Z7) ||| (zsm Z8.2.2.2 (v133 (v131 x1 Z6) Z7) <<< (Z8.1 1 &&& 31))) hY12) (fun v h1 nc1 ns1 q8 => ?_) (fun E h1 nc1 ns1 q8 => by cases q8.1)
              obtain ⟨q8, q9⟩ := q8
              cases q8
              cases q9
              obtain ⟨Z9, hZ9⟩ : ∃ Z, Z = r127 x1 ((v133 (v131 x1 Z6) Z7) ||| (zsm Z8.2.2.2 (v133 (v131 x1 Z6) Z7) <<< (Z8.1 1 &&& 31))) Z8 := ⟨_, rfl⟩
              rw [← hZ9]
              have hY13 : zUX kq X11 Z9.2.2 := by
                rw [hZ9, rl_127]
                exact hY12
              refine zpE_run 4 (L' := [some (.ref 44), some (.int x1), some (.int (v131 x1 Z6)), some (.int (v133 (v131 x1 Z6) Z7))]) (st' := [.int (Int32.ofInt 0), .int x1, .ref 71]) rfl ?_
              refine zpE_bsy (h' := zy S0 (zmW Z9 24 x1 (Int32.ofInt 0)) X11) rfl (zy_g71 (M := Z9)) (zy_s71 (M := Z9)) (fun _ _ _ => ?_)
              refine zpE_gen (fun nc ns => ?_)
              refine zpE_run 1 (L' := [some (.ref 44), some (.int x1), some (.int (v131 x1 Z6)), some (.int (v133 (v131 x1 Z6) Z7))]) (st' := [.int (v133 (v131 x1 Z6) Z7)]) rfl ?_
              exact zpE_end rfl rfl (zOx_w (M' := zmW Z9 24 x1 (Int32.ofInt 0)) hY13 (by unfold v134; (try rw [← hZ1]); (try rw [← hZ5]); (try rw [← hZ6]); (try rw [← hZ7]); (try rw [← hZ8]); (try rw [← hZ9]); rw [if_pos z15_0, if_pos z26_1, if_neg z46_2, if_pos z55_3, if_pos z73_4, if_neg z88_5]) (by unfold r134; (try rw [← hZ1]); (try rw [← hZ5]); (try rw [← hZ6]); (try rw [← hZ7]); (try rw [← hZ8]); (try rw [← hZ9]); rw [if_pos z15_0, if_pos z26_1, if_neg z46_2, if_pos z55_3, if_pos z73_4, if_neg z88_5]))
          · have z73_4 := zF_e0 q73
            refine zpE_run 5 (L' := [some (.ref 44), some (.int x1), some (.int (v131 x1 Z6)), some (.int (Int32.ofInt (-1)))]) (st' := [.int (Int32.ofInt (-1)), .int (Int32.ofInt (-1))]) rfl ?_
            refine zpE_icmp rfl (fun q88 => ?_) (fun q88 => ?_)
            · clear q88
              refine zpE_run 4 (L' := [some (.ref 44), some (.int x1), some (.int (v131 x1 Z6)), some (.int (Int32.ofInt (-1)))]) (st' := [.int (Int32.ofInt 1), .int x1, .ref 71]) rfl ?_
              refine zpE_bsy (h' := zy S0 (zmW Z7 24 x1 (Int32.ofInt 1)) X8) rfl (zy_g71 (M := Z7)) (zy_s71 (M := Z7)) (fun _ _ _ => ?_)
              refine zpE_gen (fun nc ns => ?_)
              refine zpE_run 1 (L' := [some (.ref 44), some (.int x1), some (.int (v131 x1 Z6)), some (.int (Int32.ofInt (-1)))]) (st' := [.int (Int32.ofInt (-1))]) rfl ?_
              exact zpE_end rfl rfl (zOx_w (M' := zmW Z7 24 x1 (Int32.ofInt 1)) hY10 (by unfold v134; (try rw [← hZ1]); (try rw [← hZ5]); (try rw [← hZ6]); (try rw [← hZ7]); rw [if_pos z15_0, if_pos z26_1, if_neg z46_2, if_pos z55_3, if_neg z73_4]) (by unfold r134; (try rw [← hZ1]); (try rw [← hZ5]); (try rw [← hZ6]); (try rw [← hZ7]); rw [if_pos z15_0, if_pos z26_1, if_neg z46_2, if_pos z55_3, if_neg z73_4]))
            · exact absurd (zF_e0 q88) (by decide)
    · have z26_1 := zF_e0 q26
      refine zpE_run 1 (L' := [some (.ref 44), some (.int x1), some (.int (v133 x1 Z1)), none]) (st' := [.int (v133 x1 Z1)]) rfl ?_
      exact zpE_end rfl rfl (zOx_w (M' := Z5) hY7 (by unfold v134; (try rw [← hZ1]); (try rw [← hZ5]); rw [if_pos z15_0, if_neg z26_1]) (by unfold r134; (try rw [← hZ1]); (try rw [← hZ5]); rw [if_pos z15_0, if_neg z26_1]))
theorem gr_134 {x1 : Int32} : zfrM [11, 12, 14, 15] [0, 1, 2, 3, 4, 5, 6, 7, 8, 9, 10, 11, 12, 13, 14, 15, 16, 17, 18, 19, 20, 21, 24] [2] (r134 x1 M) M := by
  unfold r134
  exact (gm_ite (gm_ite (gm_ite (gm_c gm_W (gm_c gr_130 (gm_c gr_133 (gm_c gr_129 gm_rf (by decide) (by decide) (by decide)) (by decide) (by decide) (by decide)) (by decide) (by decide) (by decide)) (by decide) (by decide) (by decide)) (gm_ite (gm_ite (gm_ite (gm_c gm_W (gm_c gr_133 (gm_c gr_129 (gm_c gr_130 (gm_c gr_133 (gm_c gr_129 gm_rf (by decide) (by decide) (by decide)) (by decide) (by decide) (by decide)) (by decide) (by decide) (by decide)) (by decide) (by decide) (by decide)) (by decide) (by decide) (by decide)) (by decide) (by decide) (by decide)) (gm_c gm_W (gm_c gr_127 (gm_c gr_133 (gm_c gr_129 (gm_c gr_130 (gm_c gr_133 (gm_c gr_129 gm_rf (by decide) (by decide) (by decide)) (by decide) (by decide) (by decide)) (by decide) (by decide) (by decide)) (by decide) (by decide) (by decide)) (by decide) (by decide) (by decide)) (by decide) (by decide) (by decide)) (by decide) (by decide) (by decide))) (gm_c gm_W (gm_c gr_129 (gm_c gr_130 (gm_c gr_133 (gm_c gr_129 gm_rf (by decide) (by decide) (by decide)) (by decide) (by decide) (by decide)) (by decide) (by decide) (by decide)) (by decide) (by decide) (by decide)) (by decide) (by decide) (by decide))) (gm_c gm_W (gm_c gr_130 (gm_c gr_133 (gm_c gr_129 gm_rf (by decide) (by decide) (by decide)) (by decide) (by decide) (by decide)) (by decide) (by decide) (by decide)) (by decide) (by decide) (by decide)))) (gm_c gr_133 (gm_c gr_129 gm_rf (by decide) (by decide) (by decide)) (by decide) (by decide) (by decide))) (gm_ite (gm_c gm_W (gm_c gr_129 gm_rf (by decide) (by decide) (by decide)) (by decide) (by decide) (by decide)) (gm_ite (gm_ite (gm_ite (gm_c gm_W (gm_c gr_133 (gm_c gr_129 (gm_c gr_129 gm_rf (by decide) (by decide) (by decide)) (by decide) (by decide) (by decide)) (by decide) (by decide) (by decide)) (by decide) (by decide) (by decide)) (gm_c gm_W (gm_c gr_127 (gm_c gr_133 (gm_c gr_129 (gm_c gr_129 gm_rf (by decide) (by decide) (by decide)) (by decide) (by decide) (by decide)) (by decide) (by decide) (by decide)) (by decide) (by decide) (by decide)) (by decide) (by decide) (by decide))) (gm_c gm_W (gm_c gr_129 (gm_c gr_129 gm_rf (by decide) (by decide) (by decide)) (by decide) (by decide) (by decide)) (by decide) (by decide) (by decide))) (gm_c gm_W (gm_c gr_129 gm_rf (by decide) (by decide) (by decide)) (by decide) (by decide) (by decide)))))
def v141 (x1 : Int32) (M : zRt) : Int32 := if (v138 x1 (zmS M 0 (Int32.ofInt 0))) = ((0 : Int32)) then ((v111 (Int32.ofInt 1) (zmS M 0 (Int32.ofInt 0)))) else (if (zgt ((zmS M 0 (Int32.ofInt 0)).2.1 25) x1) = ((0 : Int32)) then ((v134 x1 (zmS M 0 (Int32.ofInt 0)))) else ((v111 (Int32.ofInt 2) (zmS M 0 (Int32.ofInt 0)))))
def r141 (x1 : Int32) (M : zRt) : zRt := if (v138 x1 (zmS M 0 (Int32.ofInt 0))) = ((0 : Int32)) then ((r111 (Int32.ofInt 1) (zmS M 0 (Int32.ofInt 0)))) else (if (zgt ((zmS M 0 (Int32.ofInt 0)).2.1 25) x1) = ((0 : Int32)) then ((r134 x1 (zmS M 0 (Int32.ofInt 0)))) else ((r111 (Int32.ofInt 2) (zmS M 0 (Int32.ofInt 0)))))
theorem f_141 {x1 : Int32} (hX : zUX kq X M.2.2) : zpM xs N 141 [.ref 44, .int x1] (zy S0 M X) nc ns (fun o => ∃ X', zUX kq X' (r141 x1 M).2.2 ∧ zOq (.inl (some (.int (v141 x1 M)))) (zy S0 (r141 x1 M) X') o) := by
  intro L0 e
  cases e
  refine zpE_run 4 (L' := [some (.ref 44), some (.int x1)]) (st' := [.int x1]) (h' := zy S0 (zmS M 0 (Int32.ofInt 0)) X) rfl ?_
  refine zpE_call rfl rfl (f_138 (M := zmS M 0 (Int32.ofInt 0)) (x1 := x1) hX) (fun v h1 nc1 ns1 q8 => ?_) (fun E h1 nc1 ns1 q8 => by cases q8.1)
  obtain ⟨q8, q9⟩ := q8
  cases q8
  cases q9
  refine zpE_if rfl (fun q9 => ?_) (fun q9 => ?_)
  · have z9_0 := zF_n1 q9
    refine zpE_run 3 (L' := [some (.ref 44), some (.int x1)]) (st' := [.int x1, .ref 72]) rfl ?_
    refine zpE_bly rfl (zy_g72 (M := zmS M 0 (Int32.ofInt 0))) (fun _ _ => ?_)
    refine zpE_gen (fun nc ns => ?_)
    refine zpE_if rfl (fun q24 => ?_) (fun q24 => ?_)
    · have z24_1 := zF_e1 q24
      refine zpE_run 2 (L' := [some (.ref 44), some (.int x1)]) (st' := [.int x1, .ref 44]) rfl ?_
      refine zpE_call rfl rfl (f_134 (M := zmS M 0 (Int32.ofInt 0)) (x1 := x1) hX) (fun v h1 nc1 ns1 q8 => ?_) (fun E h1 nc1 ns1 q8 => by obtain ⟨_, _, q8, _⟩ := q8; cases q8)
      obtain ⟨X1, hX1, q8, q9⟩ := q8
      cases q8
      cases q9
      obtain ⟨Z1, hZ1⟩ : ∃ Z, Z = r134 x1 (zmS M 0 (Int32.ofInt 0)) := ⟨_, rfl⟩
      rw [← hZ1]
      have hY2 : zUX kq X1 Z1.2.2 := by
        rw [hZ1]
        exact hX1
      exact zpE_end rfl rfl (zOx_w (M' := Z1) hY2 (by unfold v141; (try rw [← hZ1]); rw [if_neg z9_0, if_pos z24_1]) (by unfold r141; (try rw [← hZ1]); rw [if_neg z9_0, if_pos z24_1]))
    · have z24_1 := zF_e0 q24
      refine zpE_run 2 (L' := [some (.ref 44), some (.int x1)]) (st' := [.int (Int32.ofInt 2), .ref 44]) rfl ?_
      refine zpE_call rfl rfl (f_111 (M := zmS M 0 (Int32.ofInt 0)) (x1 := Int32.ofInt 2) hX) (fun v h1 nc1 ns1 q8 => ?_) (fun E h1 nc1 ns1 q8 => by cases q8.1)
      obtain ⟨q8, q9⟩ := q8
      cases q8
      cases q9
      obtain ⟨Z2, hZ2⟩ : ∃ Z, Z = r111 (Int32.ofInt 2) (zmS M 0 (Int32.ofInt 0)) := ⟨_, rfl⟩
      rw [← hZ2]
      have hY3 : zUX kq X Z2.2.2 := by
        rw [hZ2, rl_111]
        exact hX
      exact zpE_end rfl rfl (zOx_w (M' := Z2) hY3 (by unfold v141; (try rw [← hZ2]); rw [if_neg z9_0, if_neg z24_1]) (by unfold r141; (try rw [← hZ2]); rw [if_neg z9_0, if_neg z24_1]))
  · have z9_0 := zF_n0 q9
    refine zpE_run 2 (L' := [some (.ref 44), some (.int x1)]) (st' := [.int (Int32.ofInt 1), .ref 44]) rfl ?_
    refine zpE_call rfl rfl (f_111 (M := zmS M 0 (Int32.ofInt 0)) (x1 := Int32.ofInt 1) hX) (fun v h1 nc1 ns1 q8 => ?_) (fun E h1 nc1 ns1 q8 => by cases q8.1)
    obtain ⟨q8, q9⟩ := q8
    cases q8
    cases q9
    obtain ⟨Z3, hZ3⟩ : ∃ Z, Z = r111 (Int32.ofInt 1) (zmS M 0 (Int32.ofInt 0)) := ⟨_, rfl⟩
    rw [← hZ3]
    have hY4 : zUX kq X Z3.2.2 := by
      rw [hZ3, rl_111]
      exact hX
    exact zpE_end rfl rfl (zOx_w (M' := Z3) hY4 (by unfold v141; (try rw [← hZ3]); rw [if_pos z9_0]) (by unfold r141; (try rw [← hZ3]); rw [if_pos z9_0]))
theorem gr_141 {x1 : Int32} : zfrM [0, 11, 12, 14, 15] [0, 1, 2, 3, 4, 5, 6, 7, 8, 9, 10, 11, 12, 13, 14, 15, 16, 17, 18, 19, 20, 21, 24] [2] (r141 x1 M) M := by
  unfold r141
  exact (gm_ite (gm_c gr_111 (gm_c gm_S gm_rf (by decide) (by decide) (by decide)) (by decide) (by decide) (by decide)) (gm_ite (gm_c gr_134 (gm_c gm_S gm_rf (by decide) (by decide) (by decide)) (by decide) (by decide) (by decide)) (gm_c gr_111 (gm_c gm_S gm_rf (by decide) (by decide) (by decide)) (by decide) (by decide) (by decide))))
def v143 (x1 : Int32) (x2 : Int32) (x3 : Int32) (M : zRt) : Int32 := if (v138 x1 (zmS M 0 (Int32.ofInt 0))) = ((0 : Int32)) then ((v111 (Int32.ofInt 1) (zmS M 0 (Int32.ofInt 0)))) else (if (v112 x2 (Int32.ofInt 0) (((zmS M 0 (Int32.ofInt 0)).1 1 + (zmS M 0 (Int32.ofInt 0)).1 2) - (Int32.ofInt 1)) (zmS M 0 (Int32.ofInt 0))) = ((0 : Int32)) then ((v111 (Int32.ofInt 2) (zmS M 0 (Int32.ofInt 0)))) else (if (Int32.ofNat ((zmS M 0 (Int32.ofInt 0)).2.2.1 0).length) = (Int32.ofInt 24) then ((v111 (Int32.ofInt 3) (zmS M 0 (Int32.ofInt 0)))) else (if x3 = ((0 : Int32)) then ((Int32.ofNat ((r127 x1 (v125 x1 (zmLs (zmS M 0 (Int32.ofInt 0)) 0 ((zmS M 0 (Int32.ofInt 0)).2.2.1 0 ++ [[v124 x1 (zmS M 0 (Int32.ofInt 0)), zrmd x1 (Int32.ofInt 8), x2, Int32.ofInt 0]]))) (zmLs (zmS M 0 (Int32.ofInt 0)) 0 ((zmS M 0 (Int32.ofInt 0)).2.2.1 0 ++ [[v124 x1 (zmS M 0 (Int32.ofInt 0)), zrmd x1 (Int32.ofInt 8), x2, Int32.ofInt 0]]))).2.2.1 0).length)) else ((Int32.ofNat ((r127 x1 (v125 x1 (zmLs (zmS M 0 (Int32.ofInt 0)) 0 ((zmS M 0 (Int32.ofInt 0)).2.2.1 0 ++ [[v124 x1 (zmS M 0 (Int32.ofInt 0)), zrmd x1 (Int32.ofInt 8), x2, Int32.ofInt 1]]))) (zmLs (zmS M 0 (Int32.ofInt 0)) 0 ((zmS M 0 (Int32.ofInt 0)).2.2.1 0 ++ [[v124 x1 (zmS M 0 (Int32.ofInt 0)), zrmd x1 (Int32.ofInt 8), x2, Int32.ofInt 1]]))).2.2.1 0).length)))))
def r143 (x1 : Int32) (x2 : Int32) (x3 : Int32) (M : zRt) : zRt := if (v138 x1 (zmS M 0 (Int32.ofInt 0))) = ((0 : Int32)) then ((r111 (Int32.ofInt 1) (zmS M 0 (Int32.ofInt 0)))) else (if (v112 x2 (Int32.ofInt 0) (((zmS M 0 (Int32.ofInt 0)).1 1 + (zmS M 0 (Int32.ofInt 0)).1 2) - (Int32.ofInt 1)) (zmS M 0 (Int32.ofInt 0))) = ((0 : Int32)) then ((r111 (Int32.ofInt 2) (zmS M 0 (Int32.ofInt 0)))) else (if (Int32.ofNat ((zmS M 0 (Int32.ofInt 0)).2.2.1 0).length) = (Int32.ofInt 24) then ((r111 (Int32.ofInt 3) (zmS M 0 (Int32.ofInt 0)))) else (if x3 = ((0 : Int32)) then ((r127 x1 (v125 x1 (zmLs (zmS M 0 (Int32.ofInt 0)) 0 ((zmS M 0 (Int32.ofInt 0)).2.2.1 0 ++ [[v124 x1 (zmS M 0 (Int32.ofInt 0)), zrmd x1 (Int32.ofInt 8), x2, Int32.ofInt 0]]))) (zmLs (zmS M 0 (Int32.ofInt 0)) 0 ((zmS M 0 (Int32.ofInt 0)).2.2.1 0 ++ [[v124 x1 (zmS M 0 (Int32.ofInt 0)), zrmd x1 (Int32.ofInt 8), x2, Int32.ofInt 0]])))) else ((r127 x1 (v125 x1 (zmLs (zmS M 0 (Int32.ofInt 0)) 0 ((zmS M 0 (Int32.ofInt 0)).2.2.1 0 ++ [[v124 x1 (zmS M 0 (Int32.ofInt 0)), zrmd x1 (Int32.ofInt 8), x2, Int32.ofInt 1]]))) (zmLs (zmS M 0 (Int32.ofInt 0)) 0 ((zmS M 0 (Int32.ofInt 0)).2.2.1 0 ++ [[v124 x1 (zmS M 0 (Int32.ofInt 0)), zrmd x1 (Int32.ofInt 8), x2, Int32.ofInt 1]])))))))
theorem f_143 {x1 x2 x3 : Int32} (hX : zUX kq X M.2.2) : zpM xs N 143 [.ref 44, .int x1, .int x2, .int x3] (zy S0 M X) nc ns (fun o => ∃ X', zUX kq X' (r143 x1 x2 x3 M).2.2 ∧ zOq (.inl (some (.int (v143 x1 x2 x3 M)))) (zy S0 (r143 x1 x2 x3 M) X') o) := by
  intro L0 e
  cases e
  refine zpE_run 4 (L' := [some (.ref 44), some (.int x1), some (.int x2), some (.int x3)]) (st' := [.int x1]) (h' := zy S0 (zmS M 0 (Int32.ofInt 0)) X) rfl ?_
  refine zpE_call rfl rfl (f_138 (M := zmS M 0 (Int32.ofInt 0)) (x1 := x1) hX) (fun v h1 nc1 ns1 q8 => ?_) (fun E h1 nc1 ns1 q8 => by cases q8.1)
  obtain ⟨q8, q9⟩ := q8
  cases q8
  cases q9
  refine zpE_if rfl (fun q9 => ?_) (fun q9 => ?_)
  · have z9_0 := zF_n1 q9
    refine zpE_run 3 (L' := [some (.ref 44), some (.int x1), some (.int x2), some (.int x3)]) (st' := [.ref 44, .int (Int32.ofInt 0), .int x2]) rfl ?_
    refine zpE_call rfl rfl (r_117 (zy_mc (M := (zmS M 0 (Int32.ofInt 0))) hX)) (fun v h1 nc1 ns1 q8 => ?_) (fun E h1 nc1 ns1 q8 => by cases q8)
    cases q8
    refine zpE_run 2 (L' := [some (.ref 44), some (.int x1), some (.int x2), some (.int x3)]) (st' := [.int (((zmS M 0 (Int32.ofInt 0)).1 1 + (zmS M 0 (Int32.ofInt 0)).1 2) - (Int32.ofInt 1)), .int (Int32.ofInt 0), .int x2]) rfl ?_
    refine zpE_call rfl rfl (f_112 (M := zmS M 0 (Int32.ofInt 0)) (x1 := x2) (x2 := Int32.ofInt 0) (x3 := ((zmS M 0 (Int32.ofInt 0)).1 1 + (zmS M 0 (Int32.ofInt 0)).1 2) - (Int32.ofInt 1)) hX) (fun v h1 nc1 ns1 q8 => ?_) (fun E h1 nc1 ns1 q8 => by cases q8.1)
    obtain ⟨q8, q9⟩ := q8
    cases q8
    cases q9
    refine zpE_if rfl (fun q29 => ?_) (fun q29 => ?_)
    · have z29_1 := zF_n1 q29
      refine zpE_run 2 (L' := [some (.ref 44), some (.int x1), some (.int x2), some (.int x3)]) (st' := [.ref (X.1 0)]) rfl ?_
      obtain ⟨vs1, lc1⟩ := zUX_lc (S0 := S0) (M := zmS M 0 (Int32.ofInt 0)) (i := 0) (by decide) hX
      refine zpE_call rfl (show zcallV 0 10 243 47 (.ref (X.1 0) :: _) (zy S0 (zmS M 0 (Int32.ofInt 0)) X) = _ from zcallV_eq rfl lc1 (Nat.le_of_ble_eq_true rfl)) (zul_243 (i := 0) (by decide) hX) (fun v h1 nc1 ns1 q8 => ?_) (fun E h1 nc1 ns1 q8 => by cases q8)
      cases q8
      refine zpE_run 1 (L' := [some (.ref 44), some (.int x1), some (.int x2), some (.int x3)]) (st' := [.int (Int32.ofInt 24), .int (Int32.ofNat ((zmS M 0 (Int32.ofInt 0)).2.2.1 0).length)]) rfl ?_
      refine zpE_icmp rfl (fun q49 => ?_) (fun q49 => ?_)
      · have z49_2 := zF_n1 q49
        refine zpE_run 3 (L' := [some (.ref 44), some (.int x1), some (.int x2), some (.int x3)]) (st' := [.int (Int32.ofInt 4), .ref (X.1 0)]) rfl ?_
        refine zpE_newi (m := 4) (by decide) rfl ?_
        refine zpE_run 4 (L' := [some (.ref 44), some (.int x1), some (.int x2), some (.int x3)]) (st' := [.int x1, .ref 44, .int (Int32.ofInt 0), .ref (List.length (zy S0 (zmS M 0 (Int32.ofInt 0)) X)), .ref (List.length (zy S0 (zmS M 0 (Int32.ofInt 0)) X)), .ref (X.1 0)]) rfl ?_
        refine zpE_call rfl rfl (show zpM xs N 124 _ (zy S0 (zmS M 0 (Int32.ofInt 0)) X ++ [zar [0, 0, 0, 0]]) _ _ _ from f_124 (M := zmS M 0 (Int32.ofInt 0)) (x1 := x1) (zUN_ap hX : zUX kq (X.1, X.2.1, X.2.2 ++ [zar [0, 0, 0, 0]]) (zmS M 0 (Int32.ofInt 0)).2.2)) (fun v h1 nc1 ns1 q8 => ?_) (fun E h1 nc1 ns1 q8 => by cases q8.1)
        obtain ⟨q8, q9⟩ := q8
        cases q8
        cases q9
        refine zpE_gen (fun nc ns => ?_)
        show zpE xs N 143 72 _ _ (zy S0 (zmS M 0 (Int32.ofInt 0)) X ++ [zar [0, 0, 0, 0]]) _ _ _
        refine zpE_asy (h' := zy S0 (zmS M 0 (Int32.ofInt 0)) X ++ [zar [v124 x1 (zmS M 0 (Int32.ofInt 0)), 0, 0, 0]]) rfl (zha_get (h := zy S0 (zmS M 0 (Int32.ofInt 0)) X) (l := [0, 0, 0, 0])) (zha_set (l' := [v124 x1 (zmS M 0 (Int32.ofInt 0)), 0, 0, 0])) (fun _ _ => ?_)
        refine zpE_run 4 (L' := [some (.ref 44), some (.int x1), some (.int x2), some (.int x3)]) (st' := [.int (Int32.ofInt 8), .int x1, .int (Int32.ofInt 1), .ref (List.length (zy S0 (zmS M 0 (Int32.ofInt 0)) X)), .ref (List.length (zy S0 (zmS M 0 (Int32.ofInt 0)) X)), .ref (X.1 0)]) rfl ?_
        refine zpE_irem rfl (fun _ => ?_)
        refine zpE_asy (h' := zy S0 (zmS M 0 (Int32.ofInt 0)) X ++ [zar [v124 x1 (zmS M 0 (Int32.ofInt 0)), zrmd x1 (Int32.ofInt 8), 0, 0]]) rfl (zha_get (h := zy S0 (zmS M 0 (Int32.ofInt 0)) X) (l := [v124 x1 (zmS M 0 (Int32.ofInt 0)), 0, 0, 0])) (zha_set (l' := [v124 x1 (zmS M 0 (Int32.ofInt 0)), zrmd x1 (Int32.ofInt 8), 0, 0])) (fun _ _ => ?_)
        refine zpE_run 3 (L' := [some (.ref 44), some (.int x1), some (.int x2), some (.int x3)]) (st' := [.int x2, .int (Int32.ofInt 2), .ref (List.length (zy S0 (zmS M 0 (Int32.ofInt 0)) X)), .ref (List.length (zy S0 (zmS M 0 (Int32.ofInt 0)) X)), .ref (X.1 0)]) rfl ?_
        refine zpE_asy (h' := zy S0 (zmS M 0 (Int32.ofInt 0)) X ++ [zar [v124 x1 (zmS M 0 (Int32.ofInt 0)), zrmd x1 (Int32.ofInt 8), x2, 0]]) rfl (zha_get (h := zy S0 (zmS M 0 (Int32.ofInt 0)) X) (l := [v124 x1 (zmS M 0 (Int32.ofInt 0)), zrmd x1 (Int32.ofInt 8), 0, 0])) (zha_set (l' := [v124 x1 (zmS M 0 (Int32.ofInt 0)), zrmd x1 (Int32.ofInt 8), x2, 0])) (fun _ _ => ?_)
        refine zpE_run 3 (L' := [some (.ref 44), some (.int x1), some (.int x2), some (.int x3)]) (st' := [.int x3, .int (Int32.ofInt 3), .ref (List.length (zy S0 (zmS M 0 (Int32.ofInt 0)) X)), .ref (List.length (zy S0 (zmS M 0 (Int32.ofInt 0)) X)), .ref (X.1 0)]) rfl ?_
        refine zpE_if rfl (fun q87 => ?_) (fun q87 => ?_)
        · have z87_3 := zF_e1 q87
          refine zpE_run 1 (L' := [some (.ref 44), some (.int x1), some (.int x2), some (.int x3)]) (st' := [.int (Int32.ofInt 0), .int (Int32.ofInt 3), .ref (List.length (zy S0 (zmS M 0 (Int32.ofInt 0)) X)), .ref (List.length (zy S0 (zmS M 0 (Int32.ofInt 0)) X)), .ref (X.1 0)]) rfl ?_
          refine zpE_asy (h' := zy S0 (zmS M 0 (Int32.ofInt 0)) X ++ [zar [v124 x1 (zmS M 0 (Int32.ofInt 0)), zrmd x1 (Int32.ofInt 8), x2, Int32.ofInt 0]]) rfl (zha_get (h := zy S0 (zmS M 0 (Int32.ofInt 0)) X) (l := [v124 x1 (zmS M 0 (Int32.ofInt 0)), zrmd x1 (Int32.ofInt 8), x2, 0])) (zha_set (l' := [v124 x1 (zmS M 0 (Int32.ofInt 0)), zrmd x1 (Int32.ofInt 8), x2, Int32.ofInt 0])) (fun _ _ => ?_)
          obtain ⟨vs2, lc2⟩ := zUX_lc2 (S0 := S0) (M := zmS M 0 (Int32.ofInt 0)) (i := 0) (l := [v124 x1 (zmS M 0 (Int32.ofInt 0)), zrmd x1 (Int32.ofInt 8), x2, Int32.ofInt 0]) (by decide) hX
          refine zpE_call rfl (show zcallV 1 10 237 101 (.ref (List.length (zy S0 (zmS M 0 (Int32.ofInt 0)) X)) :: .ref (X.1 0) :: _) (zy S0 (zmS M 0 (Int32.ofInt 0)) X ++ [zar [v124 x1 (zmS M 0 (Int32.ofInt 0)), zrmd x1 (Int32.ofInt 8), x2, Int32.ofInt 0]]) = _ from zcallV_eq rfl lc2 (Nat.le_of_ble_eq_true rfl)) (zul_237n (i := 0) (l := [v124 x1 (zmS M 0 (Int32.ofInt 0)), zrmd x1 (Int32.ofInt 8), x2, Int32.ofInt 0]) (by decide) hX (zal_n (i := 0) hX z49_2)) (fun v h1 nc1 ns1 q8 => ?_) (fun E h1 nc1 ns1 q8 => by obtain ⟨_, _, _, q8, _⟩ := q8; cases q8)
          obtain ⟨X2, hX2, _, q8, q9⟩ := q8
          cases q8
          cases q9
          refine zpE_gen (fun nc ns => ?_)
          show zpE xs N 143 101 _ _ (zy S0 (zmLs (zmS M 0 (Int32.ofInt 0)) 0 ((zmS M 0 (Int32.ofInt 0)).2.2.1 0 ++ [[v124 x1 (zmS M 0 (Int32.ofInt 0)), zrmd x1 (Int32.ofInt 8), x2, Int32.ofInt 0]])) X2) _ _ _
          refine zpE_run 5 (L' := [some (.ref 44), some (.int x1), some (.int x2), some (.int x3)]) (st' := [.int x1, .ref 44, .int x1, .ref 44]) rfl ?_
          refine zpE_call rfl rfl (f_125 (M := zmLs (zmS M 0 (Int32.ofInt 0)) 0 ((zmS M 0 (Int32.ofInt 0)).2.2.1 0 ++ [[v124 x1 (zmS M 0 (Int32.ofInt 0)), zrmd x1 (Int32.ofInt 8), x2, Int32.ofInt 0]])) (x1 := x1) hX2) (fun v h1 nc1 ns1 q8 => ?_) (fun E h1 nc1 ns1 q8 => by cases q8.1)
          obtain ⟨q8, q9⟩ := q8
          cases q8
          cases q9
          refine zpE_call rfl rfl (f_127 (M := zmLs (zmS M 0 (Int32.ofInt 0)) 0 ((zmS M 0 (Int32.ofInt 0)).2.2.1 0 ++ [[v124 x1 (zmS M 0 (Int32.ofInt 0)), zrmd x1 (Int32.ofInt 8), x2, Int32.ofInt 0]])) (x1 := x1) (x2 := v125 x1 (zmLs (zmS M 0 (Int32.ofInt 0)) 0 ((zmS M 0 (Int32.ofInt 0)).2.2.1 0 ++ [[v124 x1 (zmS M 0 (Int32.ofInt 0)), zrmd x1 (Int32.ofInt 8), x2, Int32.ofInt 0]]))) hX2) (fun v h1 nc1 ns1 q8 => ?_) (fun E h1 nc1 ns1 q8 => by cases q8.1)
          obtain ⟨q8, q9⟩ := q8
          cases q8
          cases q9
          obtain ⟨Z1, hZ1⟩ : ∃ Z, Z = r127 x1 (v125 x1 (zmLs (zmS M 0 (Int32.ofInt 0)) 0 ((zmS M 0 (Int32.ofInt 0)).2.2.1 0 ++ [[v124 x1 (zmS M 0 (Int32.ofInt 0)), zrmd x1 (Int32.ofInt 8), x2, Int32.ofInt 0]]))) (zmLs (zmS M 0 (Int32.ofInt 0)) 0 ((zmS M 0 (Int32.ofInt 0)).2.2.1 0 ++ [[v124 x1 (zmS M 0 (Int32.ofInt 0)), zrmd x1 (Int32.ofInt 8), x2, Int32.ofInt 0]])) := ⟨_, rfl⟩
          rw [← hZ1]
          have hY3 : zUX kq X2 Z1.2.2 := by
            rw [hZ1, rl_127]
            exact hX2
          refine zpE_run 2 (L' := [some (.ref 44), some (.int x1), some (.int x2), some (.int x3)]) (st' := [.ref (X2.1 0)]) rfl ?_
          obtain ⟨vs4, lc4⟩ := zUX_lc (S0 := S0) (M := Z1) (i := 0) (by decide) hY3
          refine zpE_call rfl (show zcallV 0 10 243 121 (.ref (X2.1 0) :: _) (zy S0 Z1 X2) = _ from zcallV_eq rfl lc4 (Nat.le_of_ble_eq_true rfl)) (zul_243 (i := 0) (by decide) hY3) (fun v h1 nc1 ns1 q8 => ?_) (fun E h1 nc1 ns1 q8 => by cases q8)
          cases q8
          exact zpE_end rfl rfl (zOx_w (M' := Z1) hY3 (by unfold v143; (try rw [← hZ1]); rw [if_neg z9_0, if_neg z29_1, if_neg z49_2, if_pos z87_3]) (by unfold r143; (try rw [← hZ1]); rw [if_neg z9_0, if_neg z29_1, if_neg z49_2, if_pos z87_3]))
        · have z87_3 := zF_e0 q87
          refine zpE_run 2 (L' := [some (.ref 44), some (.int x1), some (.int x2), some (.int x3)]) (st' := [.int (Int32.ofInt 1), .int (Int32.ofInt 3), .ref (List.length (zy S0 (zmS M 0 (Int32.ofInt 0)) X)), .ref (List.length (zy S0 (zmS M 0 (Int32.ofInt 0)) X)), .ref (X.1 0)]) rfl ?_
          refine zpE_asy (h' := zy S0 (zmS M 0 (Int32.ofInt 0)) X ++ [zar [v124 x1 (zmS M 0 (Int32.ofInt 0)), zrmd x1 (Int32.ofInt 8), x2, Int32.ofInt 1]]) rfl (zha_get (h := zy S0 (zmS M 0 (Int32.ofInt 0)) X) (l := [v124 x1 (zmS M 0 (Int32.ofInt 0)), zrmd x1 (Int32.ofInt 8), x2, 0])) (zha_set (l' := [v124 x1 (zmS M 0 (Int32.ofInt 0)), zrmd x1 (Int32.ofInt 8), x2, Int32.ofInt 1])) (fun _ _ => ?_)
          obtain ⟨vs5, lc5⟩ := zUX_lc2 (S0 := S0) (M := zmS M 0 (Int32.ofInt 0)) (i := 0) (l := [v124 x1 (zmS M 0 (Int32.ofInt 0)), zrmd x1 (Int32.ofInt 8), x2, Int32.ofInt 1]) (by decide) hX
          refine zpE_call rfl (show zcallV 1 10 237 101 (.ref (List.length (zy S0 (zmS M 0 (Int32.ofInt 0)) X)) :: .ref (X.1 0) :: _) (zy S0 (zmS M 0 (Int32.ofInt 0)) X ++ [zar [v124 x1 (zmS M 0 (Int32.ofInt 0)), zrmd x1 (Int32.ofInt 8), x2, Int32.ofInt 1]]) = _ from zcallV_eq rfl lc5 (Nat.le_of_ble_eq_true rfl)) (zul_237n (i := 0) (l := [v124 x1 (zmS M 0 (Int32.ofInt 0)), zrmd x1 (Int32.ofInt 8), x2, Int32.ofInt 1]) (by decide) hX (zal_n (i := 0) hX z49_2)) (fun v h1 nc1 ns1 q8 => ?_) (fun E h1 nc1 ns1 q8 => by obtain ⟨_, _, _, q8, _⟩ := q8; cases q8)
          obtain ⟨X5, hX5, _, q8, q9⟩ := q8
          cases q8
          cases q9
          refine zpE_gen (fun nc ns => ?_)
          show zpE xs N 143 101 _ _ (zy S0 (zmLs (zmS M 0 (Int32.ofInt 0)) 0 ((zmS M 0 (Int32.ofInt 0)).2.2.1 0 ++ [[v124 x1 (zmS M 0 (Int32.ofInt 0)), zrmd x1 (Int32.ofInt 8), x2, Int32.ofInt 1]])) X5) _ _ _
          refine zpE_run 5 (L' := [some (.ref 44), some (.int x1), some (.int x2), some (.int x3)]) (st' := [.int x1, .ref 44, .int x1, .ref 44]) rfl ?_
          refine zpE_call rfl rfl (f_125 (M := zmLs (zmS M 0 (Int32.ofInt 0)) 0 ((zmS M 0 (Int32.ofInt 0)).2.2.1 0 ++ [[v124 x1 (zmS M 0 (Int32.ofInt 0)), zrmd x1 (Int32.ofInt 8), x2, Int32.ofInt 1]])) (x1 := x1) hX5) (fun v h1 nc1 ns1 q8 => ?_) (fun E h1 nc1 ns1 q8 => by cases q8.1)
          obtain ⟨q8, q9⟩ := q8
          cases q8
          cases q9
          refine zpE_call rfl rfl (f_127 (M := zmLs (zmS M 0 (Int32.ofInt 0)) 0 ((zmS M 0 (Int32.ofInt 0)).2.2.1 0 ++ [[v124 x1 (zmS M 0 (Int32.ofInt 0)), zrmd x1 (Int32.ofInt 8), x2, Int32.ofInt 1]])) (x1 := x1) (x2 := v125 x1 (zmLs (zmS M 0 (Int32.ofInt 0)) 0 ((zmS M 0 (Int32.ofInt 0)).2.2.1 0 ++ [[v124 x1 (zmS M 0 (Int32.ofInt 0)), zrmd x1 (Int32.ofInt 8), x2, Int32.ofInt 1]]))) hX5) (fun v h1 nc1 ns1 q8 => ?_) (fun E h1 nc1 ns1 q8 => by cases q8.1)
          obtain ⟨q8, q9⟩ := q8
          cases q8
          cases q9
          obtain ⟨Z2, hZ2⟩ : ∃ Z, Z = r127 x1 (v125 x1 (zmLs (zmS M 0 (Int32.ofInt 0)) 0 ((zmS M 0 (Int32.ofInt 0)).2.2.1 0 ++ [[v124 x1 (zmS M 0 (Int32.ofInt 0)), zrmd x1 (Int32.ofInt 8), x2, Int32.ofInt 1]]))) (zmLs (zmS M 0 (Int32.ofInt 0)) 0 ((zmS M 0 (Int32.ofInt 0)).2.2.1 0 ++ [[v124 x1 (zmS M 0 (Int32.ofInt 0)), zrmd x1 (Int32.ofInt 8), x2, Int32.ofInt 1]])) := ⟨_, rfl⟩
          rw [← hZ2]
          have hY6 : zUX kq X5 Z2.2.2 := by
            rw [hZ2, rl_127]
            exact hX5
          refine zpE_run 2 (L' := [some (.ref 44), some (.int x1), some (.int x2), some (.int x3)]) (st' := [.ref (X5.1 0)]) rfl ?_
          obtain ⟨vs7, lc7⟩ := zUX_lc (S0 := S0) (M := Z2) (i := 0) (by decide) hY6
          refine zpE_call rfl (show zcallV 0 10 243 121 (.ref (X5.1 0) :: _) (zy S0 Z2 X5) = _ from zcallV_eq rfl lc7 (Nat.le_of_ble_eq_true rfl)) (zul_243 (i := 0) (by decide) hY6) (fun v h1 nc1 ns1 q8 => ?_) (fun E h1 nc1 ns1 q8 => by cases q8)
          cases q8
          exact zpE_end rfl rfl (zOx_w (M' := Z2) hY6 (by unfold v143; (try rw [← hZ2]); rw [if_neg z9_0, if_neg z29_1, if_neg z49_2, if_neg z87_3]) (by unfold r143; (try rw [← hZ2]); rw [if_neg z9_0, if_neg z29_1, if_neg z49_2, if_neg z87_3]))
      · have z49_2 := zF_n0 q49
        refine zpE_run 2 (L' := [some (.ref 44), some (.int x1), some (.int x2), some (.int x3)]) (st' := [.int (Int32.ofInt 3), .ref 44]) rfl ?_
        refine zpE_call rfl rfl (f_111 (M := zmS M 0 (Int32.ofInt 0)) (x1 := Int32.ofInt 3) hX) (fun v h1 nc1 ns1 q8 => ?_) (fun E h1 nc1 ns1 q8 => by cases q8.1)
        obtain ⟨q8, q9⟩ := q8
        cases q8
        cases q9
        obtain ⟨Z3, hZ3⟩ : ∃ Z, Z = r111 (Int32.ofInt 3) (zmS M 0 (Int32.ofInt 0)) := ⟨_, rfl⟩
        rw [← hZ3]
        have hY8 : zUX kq X Z3.2.2 := by
          rw [hZ3, rl_111]
          exact hX
        exact zpE_end rfl rfl (zOx_w (M' := Z3) hY8 (by unfold v143; (try rw [← hZ3]); rw [if_neg z9_0, if_neg z29_1, if_pos z49_2]) (by unfold r143; (try rw [← hZ3]); rw [if_neg z9_0, if_neg z29_1, if_pos z49_2]))
    · have z29_1 := zF_n0 q29
      refine zpE_run 2 (L' := [some (.ref 44), some (.int x1), some (.int x2), some (.int x3)]) (st' := [.int (Int32.ofInt 2), .ref 44]) rfl ?_
      refine zpE_call rfl rfl (f_111 (M := zmS M 0 (Int32.ofInt 0)) (x1 := Int32.ofInt 2) hX) (fun v h1 nc1 ns1 q8 => ?_) (fun E h1 nc1 ns1 q8 => by cases q8.1)
      obtain ⟨q8, q9⟩ := q8
      cases q8
      cases q9
      obtain ⟨Z4, hZ4⟩ : ∃ Z, Z = r111 (Int32.ofInt 2) (zmS M 0 (Int32.ofInt 0)) := ⟨_, rfl⟩
      rw [← hZ4]
      have hY9 : zUX kq X Z4.2.2 := by
        rw [hZ4, rl_111]
        exact hX
      exact zpE_end rfl rfl (zOx_w (M' := Z4) hY9 (by unfold v143; (try rw [← hZ4]); rw [if_neg z9_0, if_pos z29_1]) (by unfold r143; (try rw [← hZ4]); rw [if_neg z9_0, if_pos z29_1]))
  · have z9_0 := zF_n0 q9
    refine zpE_run 2 (L' := [some (.ref 44), some (.int x1), some (.int x2), some (.int x3)]) (st' := [.int (Int32.ofInt 1), .ref 44]) rfl ?_
    refine zpE_call rfl rfl (f_111 (M := zmS M 0 (Int32.ofInt 0)) (x1 := Int32.ofInt 1) hX) (fun v h1 nc1 ns1 q8 => ?_) (fun E h1 nc1 ns1 q8 => by cases q8.1)
    obtain ⟨q8, q9⟩ := q8
    cases q8
    cases q9
    obtain ⟨Z5, hZ5⟩ : ∃ Z, Z = r111 (Int32.ofInt 1) (zmS M 0 (Int32.ofInt 0)) := ⟨_, rfl⟩
    rw [← hZ5]
    have hY10 : zUX kq X Z5.2.2 := by
      rw [hZ5, rl_111]
      exact hX
    exact zpE_end rfl rfl (zOx_w (M' := Z5) hY10 (by unfold v143; (try rw [← hZ5]); rw [if_pos z9_0]) (by unfold r143; (try rw [← hZ5]); rw [if_pos z9_0]))
theorem gr_143 {x1 x2 x3 : Int32} : zfrM [0] [0, 1, 2, 3, 4, 5, 6, 7, 8, 9, 10, 11, 12, 13, 14, 15, 16, 17, 18, 19] [0] (r143 x1 x2 x3 M) M := by
  unfold r143
  exact (gm_ite (gm_c gr_111 (gm_c gm_S gm_rf (by decide) (by decide) (by decide)) (by decide) (by decide) (by decide)) (gm_ite (gm_c gr_111 (gm_c gm_S gm_rf (by decide) (by decide) (by decide)) (by decide) (by decide) (by decide)) (gm_ite (gm_c gr_111 (gm_c gm_S gm_rf (by decide) (by decide) (by decide)) (by decide) (by decide) (by decide)) (gm_ite (gm_c gr_127 (gm_c gm_L (gm_c gm_S gm_rf (by decide) (by decide) (by decide)) (by decide) (by decide) (by decide)) (by decide) (by decide) (by decide)) (gm_c gr_127 (gm_c gm_L (gm_c gm_S gm_rf (by decide) (by decide) (by decide)) (by decide) (by decide) (by decide)) (by decide) (by decide) (by decide))))))
def v144 (x1 : Int32) (x2 : Int32) (x3 : Int32) (M : zRt) : Int32 := if (v138 x1 (zmS M 0 (Int32.ofInt 0))) = ((0 : Int32)) then ((v111 (Int32.ofInt 1) (zmS M 0 (Int32.ofInt 0)))) else (if (v112 x2 (Int32.ofInt 0) (((zmS M 0 (Int32.ofInt 0)).1 1 + (zmS M 0 (Int32.ofInt 0)).1 2) - (Int32.ofInt 1)) (zmS M 0 (Int32.ofInt 0))) = ((0 : Int32)) then ((v111 (Int32.ofInt 2) (zmS M 0 (Int32.ofInt 0)))) else (if (v112 x3 (Int32.ofInt 1) (Int32.ofInt 60) (zmS M 0 (Int32.ofInt 0))) = ((0 : Int32)) then ((v111 (Int32.ofInt 2) (zmS M 0 (Int32.ofInt 0)))) else (if (Int32.ofNat ((zmS M 0 (Int32.ofInt 0)).2.2.1 1).length) = (Int32.ofInt 24) then ((v111 (Int32.ofInt 3) (zmS M 0 (Int32.ofInt 0)))) else ((Int32.ofNat ((zmLs (zmS M 0 (Int32.ofInt 0)) 1 ((zmS M 0 (Int32.ofInt 0)).2.2.1 1 ++ [[v124 x1 (zmS M 0 (Int32.ofInt 0)), zrmd x1 (Int32.ofInt 8), x2, x3]])).2.2.1 1).length)))))
def r144 (x1 : Int32) (x2 : Int32) (x3 : Int32) (M : zRt) : zRt := if (v138 x1 (zmS M 0 (Int32.ofInt 0))) = ((0 : Int32)) then ((r111 (Int32.ofInt 1) (zmS M 0 (Int32.ofInt 0)))) else (if (v112 x2 (Int32.ofInt 0) (((zmS M 0 (Int32.ofInt 0)).1 1 + (zmS M 0 (Int32.ofInt 0)).1 2) - (Int32.ofInt 1)) (zmS M 0 (Int32.ofInt 0))) = ((0 : Int32)) then ((r111 (Int32.ofInt 2) (zmS M 0 (Int32.ofInt 0)))) else (if (v112 x3 (Int32.ofInt 1) (Int32.ofInt 60) (zmS M 0 (Int32.ofInt 0))) = ((0 : Int32)) then ((r111 (Int32.ofInt 2) (zmS M 0 (Int32.ofInt 0)))) else (if (Int32.ofNat ((zmS M 0 (Int32.ofInt 0)).2.2.1 1).length) = (Int32.ofInt 24) then ((r111 (Int32.ofInt 3) (zmS M 0 (Int32.ofInt 0)))) else (zmLs (zmS M 0 (Int32.ofInt 0)) 1 ((zmS M 0 (Int32.ofInt 0)).2.2.1 1 ++ [[v124 x1 (zmS M 0 (Int32.ofInt 0)), zrmd x1 (Int32.ofInt 8), x2, x3]])))))
theorem f_144 {x1 x2 x3 : Int32} (hX : zUX kq X M.2.2) : zpM xs N 144 [.ref 44, .int x1, .int x2, .int x3] (zy S0 M X) nc ns (fun o => ∃ X', zUX kq X' (r144 x1 x2 x3 M).2.2 ∧ zOq (.inl (some (.int (v144 x1 x2 x3 M)))) (zy S0 (r144 x1 x2 x3 M) X') o) := by
  intro L0 e
  cases e
  refine zpE_run 4 (L' := [some (.ref 44), some (.int x1), some (.int x2), some (.int x3)]) (st' := [.int x1]) (h' := zy S0 (zmS M 0 (Int32.ofInt 0)) X) rfl ?_
  refine zpE_call rfl rfl (f_138 (M := zmS M 0 (Int32.ofInt 0)) (x1 := x1) hX) (fun v h1 nc1 ns1 q8 => ?_) (fun E h1 nc1 ns1 q8 => by cases q8.1)
  obtain ⟨q8, q9⟩ := q8
  cases q8
  cases q9
  refine zpE_if rfl (fun q9 => ?_) (fun q9 => ?_)
  · have z9_0 := zF_n1 q9
    refine zpE_run 3 (L' := [some (.ref 44), some (.int x1), some (.int x2), some (.int x3)]) (st' := [.ref 44, .int (Int32.ofInt 0), .int x2]) rfl ?_
    refine zpE_call rfl rfl (r_117 (zy_mc (M := (zmS M 0 (Int32.ofInt 0))) hX)) (fun v h1 nc1 ns1 q8 => ?_) (fun E h1 nc1 ns1 q8 => by cases q8)
    cases q8
    refine zpE_run 2 (L' := [some (.ref 44), some (.int x1), some (.int x2), some (.int x3)]) (st' := [.int (((zmS M 0 (Int32.ofInt 0)).1 1 + (zmS M 0 (Int32.ofInt 0)).1 2) - (Int32.ofInt 1)), .int (Int32.ofInt 0), .int x2]) rfl ?_
    refine zpE_call rfl rfl (f_112 (M := zmS M 0 (Int32.ofInt 0)) (x1 := x2) (x2 := Int32.ofInt 0) (x3 := ((zmS M 0 (Int32.ofInt 0)).1 1 + (zmS M 0 (Int32.ofInt 0)).1 2) - (Int32.ofInt 1)) hX) (fun v h1 nc1 ns1 q8 => ?_) (fun E h1 nc1 ns1 q8 => by cases q8.1)
    obtain ⟨q8, q9⟩ := q8
    cases q8
    cases q9
    refine zpE_if rfl (fun q29 => ?_) (fun q29 => ?_)
    · have z29_1 := zF_e1 q29
      refine zpE_run 2 (L' := [some (.ref 44), some (.int x1), some (.int x2), some (.int x3)]) (st' := [.int (Int32.ofInt 2), .ref 44]) rfl ?_
      refine zpE_call rfl rfl (f_111 (M := zmS M 0 (Int32.ofInt 0)) (x1 := Int32.ofInt 2) hX) (fun v h1 nc1 ns1 q8 => ?_) (fun E h1 nc1 ns1 q8 => by cases q8.1)
      obtain ⟨q8, q9⟩ := q8
      cases q8
      cases q9
      obtain ⟨Z1, hZ1⟩ : ∃ Z, Z = r111 (Int32.ofInt 2) (zmS M 0 (Int32.ofInt 0)) := ⟨_, rfl⟩
      rw [← hZ1]
      have hY1 : zUX kq X Z1.2.2 := by
        rw [hZ1, rl_111]
        exact hX
      exact zpE_end rfl rfl (zOx_w (M' := Z1) hY1 (by unfold v144; (try rw [← hZ1]); rw [if_neg z9_0, if_pos z29_1]) (by unfold r144; (try rw [← hZ1]); rw [if_neg z9_0, if_pos z29_1]))
    · have z29_1 := zF_e0 q29
      refine zpE_run 3 (L' := [some (.ref 44), some (.int x1), some (.int x2), some (.int x3)]) (st' := [.int (Int32.ofInt 60), .int (Int32.ofInt 1), .int x3]) rfl ?_
      refine zpE_call rfl rfl (f_112 (M := zmS M 0 (Int32.ofInt 0)) (x1 := x3) (x2 := Int32.ofInt 1) (x3 := Int32.ofInt 60) hX) (fun v h1 nc1 ns1 q8 => ?_) (fun E h1 nc1 ns1 q8 => by cases q8.1)
      obtain ⟨q8, q9⟩ := q8
      cases q8
      cases q9
      refine zpE_if rfl (fun q39 => ?_) (fun q39 => ?_)
      · have z39_2 := zF_n1 q39
        refine zpE_run 2 (L' := [some (.ref 44), some (.int x1), some (.int x2), some (.int x3)]) (st' := [.ref (X.1 1)]) rfl ?_
        obtain ⟨vs2, lc2⟩ := zUX_lc (S0 := S0) (M := zmS M 0 (Int32.ofInt 0)) (i := 1) (by decide) hX
        refine zpE_call rfl (show zcallV 0 10 243 57 (.ref (X.1 1) :: _) (zy S0 (zmS M 0 (Int32.ofInt 0)) X) = _ from zcallV_eq rfl lc2 (Nat.le_of_ble_eq_true rfl)) (zul_243 (i := 1) (by decide) hX) (fun v h1 nc1 ns1 q8 => ?_) (fun E h1 nc1 ns1 q8 => by cases q8)
        cases q8
        refine zpE_run 1 (L' := [some (.ref 44), some (.int x1), some (.int x2), some (.int x3)]) (st' := [.int (Int32.ofInt 24), .int (Int32.ofNat ((zmS M 0 (Int32.ofInt 0)).2.2.1 1).length)]) rfl ?_
        refine zpE_icmp rfl (fun q59 => ?_) (fun q59 => ?_)
        · have z59_3 := zF_n1 q59
          refine zpE_run 3 (L' := [some (.ref 44), some (.int x1), some (.int x2), some (.int x3)]) (st' := [.int (Int32.ofInt 4), .ref (X.1 1)]) rfl ?_
          refine zpE_newi (m := 4) (by decide) rfl ?_
          refine zpE_run 4 (L' := [some (.ref 44), some (.int x1), some (.int x2), some (.int x3)]) (st' := [.int x1, .ref 44, .int (Int32.ofInt 0), .ref (List.length (zy S0 (zmS M 0 (Int32.ofInt 0)) X)), .ref (List.length (zy S0 (zmS M 0 (Int32.ofInt 0)) X)), .ref (X.1 1)]) rfl ?_
          refine zpE_call rfl rfl (show zpM xs N 124 _ (zy S0 (zmS M 0 (Int32.ofInt 0)) X ++ [zar [0, 0, 0, 0]]) _ _ _ from f_124 (M := zmS M 0 (Int32.ofInt 0)) (x1 := x1) (zUN_ap hX : zUX kq (X.1, X.2.1, X.2.2 ++ [zar [0, 0, 0, 0]]) (zmS M 0 (Int32.ofInt 0)).2.2)) (fun v h1 nc1 ns1 q8 => ?_) (fun E h1 nc1 ns1 q8 => by cases q8.1)
          obtain ⟨q8, q9⟩ := q8
          cases q8
          cases q9
          refine zpE_gen (fun nc ns => ?_)
          show zpE xs N 144 82 _ _ (zy S0 (zmS M 0 (Int32.ofInt 0)) X ++ [zar [0, 0, 0, 0]]) _ _ _
          refine zpE_asy (h' := zy S0 (zmS M 0 (Int32.ofInt 0)) X ++ [zar [v124 x1 (zmS M 0 (Int32.ofInt 0)), 0, 0, 0]]) rfl (zha_get (h := zy S0 (zmS M 0 (Int32.ofInt 0)) X) (l := [0, 0, 0, 0])) (zha_set (l' := [v124 x1 (zmS M 0 (Int32.ofInt 0)), 0, 0, 0])) (fun _ _ => ?_)
          refine zpE_run 4 (L' := [some (.ref 44), some (.int x1), some (.int x2), some (.int x3)]) (st' := [.int (Int32.ofInt 8), .int x1, .int (Int32.ofInt 1), .ref (List.length (zy S0 (zmS M 0 (Int32.ofInt 0)) X)), .ref (List.length (zy S0 (zmS M 0 (Int32.ofInt 0)) X)), .ref (X.1 1)]) rfl ?_
          refine zpE_irem rfl (fun _ => ?_)
          refine zpE_asy (h' := zy S0 (zmS M 0 (Int32.ofInt 0)) X ++ [zar [v124 x1 (zmS M 0 (Int32.ofInt 0)), zrmd x1 (Int32.ofInt 8), 0, 0]]) rfl (zha_get (h := zy S0 (zmS M 0 (Int32.ofInt 0)) X) (l := [v124 x1 (zmS M 0 (Int32.ofInt 0)), 0, 0, 0])) (zha_set (l' := [v124 x1 (zmS M 0 (Int32.ofInt 0)), zrmd x1 (Int32.ofInt 8), 0, 0])) (fun _ _ => ?_)
          refine zpE_run 3 (L' := [some (.ref 44), some (.int x1), some (.int x2), some (.int x3)]) (st' := [.int x2, .int (Int32.ofInt 2), .ref (List.length (zy S0 (zmS M 0 (Int32.ofInt 0)) X)), .ref (List.length (zy S0 (zmS M 0 (Int32.ofInt 0)) X)), .ref (X.1 1)]) rfl ?_
          refine zpE_asy (h' := zy S0 (zmS M 0 (Int32.ofInt 0)) X ++ [zar [v124 x1 (zmS M 0 (Int32.ofInt 0)), zrmd x1 (Int32.ofInt 8), x2, 0]]) rfl (zha_get (h := zy S0 (zmS M 0 (Int32.ofInt 0)) X) (l := [v124 x1 (zmS M 0 (Int32.ofInt 0)), zrmd x1 (Int32.ofInt 8), 0, 0])) (zha_set (l' := [v124 x1 (zmS M 0 (Int32.ofInt 0)), zrmd x1 (Int32.ofInt 8), x2, 0])) (fun _ _ => ?_)
          refine zpE_run 3 (L' := [some (.ref 44), some (.int x1), some (.int x2), some (.int x3)]) (st' := [.int x3, .int (Int32.ofInt 3), .ref (List.length (zy S0 (zmS M 0 (Int32.ofInt 0)) X)), .ref (List.length (zy S0 (zmS M 0 (Int32.ofInt 0)) X)), .ref (X.1 1)]) rfl ?_
          refine zpE_asy (h' := zy S0 (zmS M 0 (Int32.ofInt 0)) X ++ [zar [v124 x1 (zmS M 0 (Int32.ofInt 0)), zrmd x1 (Int32.ofInt 8), x2, x3]]) rfl (zha_get (h := zy S0 (zmS M 0 (Int32.ofInt 0)) X) (l := [v124 x1 (zmS M 0 (Int32.ofInt 0)), zrmd x1 (Int32.ofInt 8), x2, 0])) (zha_set (l' := [v124 x1 (zmS M 0 (Int32.ofInt 0)), zrmd x1 (Int32.ofInt 8), x2, x3])) (fun _ _ => ?_)
          obtain ⟨vs3, lc3⟩ := zUX_lc2 (S0 := S0) (M := zmS M 0 (Int32.ofInt 0)) (i := 1) (l := [v124 x1 (zmS M 0 (Int32.ofInt 0)), zrmd x1 (Int32.ofInt 8), x2, x3]) (by decide) hX
          refine zpE_call rfl (show zcallV 1 10 237 103 (.ref (List.length (zy S0 (zmS M 0 (Int32.ofInt 0)) X)) :: .ref (X.1 1) :: _) (zy S0 (zmS M 0 (Int32.ofInt 0)) X ++ [zar [v124 x1 (zmS M 0 (Int32.ofInt 0)), zrmd x1 (Int32.ofInt 8), x2, x3]]) = _ from zcallV_eq rfl lc3 (Nat.le_of_ble_eq_true rfl)) (zul_237n (i := 1) (l := [v124 x1 (zmS M 0 (Int32.ofInt 0)), zrmd x1 (Int32.ofInt 8), x2, x3]) (by decide) hX (zal_n (i := 1) hX z59_3)) (fun v h1 nc1 ns1 q8 => ?_) (fun E h1 nc1 ns1 q8 => by obtain ⟨_, _, _, q8, _⟩ := q8; cases q8)
          obtain ⟨X3, hX3, _, q8, q9⟩ := q8
          cases q8
          cases q9
          refine zpE_gen (fun nc ns => ?_)
          show zpE xs N 144 103 _ _ (zy S0 (zmLs (zmS M 0 (Int32.ofInt 0)) 1 ((zmS M 0 (Int32.ofInt 0)).2.2.1 1 ++ [[v124 x1 (zmS M 0 (Int32.ofInt 0)), zrmd x1 (Int32.ofInt 8), x2, x3]])) X3) _ _ _
          refine zpE_run 3 (L' := [some (.ref 44), some (.int x1), some (.int x2), some (.int x3)]) (st' := [.ref (X3.1 1)]) rfl ?_
          obtain ⟨vs4, lc4⟩ := zUX_lc (S0 := S0) (M := zmLs (zmS M 0 (Int32.ofInt 0)) 1 ((zmS M 0 (Int32.ofInt 0)).2.2.1 1 ++ [[v124 x1 (zmS M 0 (Int32.ofInt 0)), zrmd x1 (Int32.ofInt 8), x2, x3]])) (i := 1) (by decide) hX3
          refine zpE_call rfl (show zcallV 0 10 243 113 (.ref (X3.1 1) :: _) (zy S0 (zmLs (zmS M 0 (Int32.ofInt 0)) 1 ((zmS M 0 (Int32.ofInt 0)).2.2.1 1 ++ [[v124 x1 (zmS M 0 (Int32.ofInt 0)), zrmd x1 (Int32.ofInt 8), x2, x3]])) X3) = _ from zcallV_eq rfl lc4 (Nat.le_of_ble_eq_true rfl)) (zul_243 (i := 1) (by decide) hX3) (fun v h1 nc1 ns1 q8 => ?_) (fun E h1 nc1 ns1 q8 => by cases q8)
          cases q8
          exact zpE_end rfl rfl (zOx_w (M' := zmLs (zmS M 0 (Int32.ofInt 0)) 1 ((zmS M 0 (Int32.ofInt 0)).2.2.1 1 ++ [[v124 x1 (zmS M 0 (Int32.ofInt 0)), zrmd x1 (Int32.ofInt 8), x2, x3]])) hX3 (by unfold v144; rw [if_neg z9_0, if_neg z29_1, if_neg z39_2, if_neg z59_3]) (by unfold r144; rw [if_neg z9_0, if_neg z29_1, if_neg z39_2, if_neg z59_3]))
        · have z59_3 := zF_n0 q59
          refine zpE_run 2 (L' := [some (.ref 44), some (.int x1), some (.int x2), some (.int x3)]) (st' := [.int (Int32.ofInt 3), .ref 44]) rfl ?_
          refine zpE_call rfl rfl (f_111 (M := zmS M 0 (Int32.ofInt 0)) (x1 := Int32.ofInt 3) hX) (fun v h1 nc1 ns1 q8 => ?_) (fun E h1 nc1 ns1 q8 => by cases q8.1)
          obtain ⟨q8, q9⟩ := q8
          cases q8
          cases q9
          obtain ⟨Z2, hZ2⟩ : ∃ Z, Z = r111 (Int32.ofInt 3) (zmS M 0 (Int32.ofInt 0)) := ⟨_, rfl⟩
          rw [← hZ2]
          have hY5 : zUX kq X Z2.2.2 := by
            rw [hZ2, rl_111]
            exact hX
          exact zpE_end rfl rfl (zOx_w (M' := Z2) hY5 (by unfold v144; (try rw [← hZ2]); rw [if_neg z9_0, if_neg z29_1, if_neg z39_2, if_pos z59_3]) (by unfold r144; (try rw [← hZ2]); rw [if_neg z9_0, if_neg z29_1, if_neg z39_2, if_pos z59_3]))
      · have z39_2 := zF_n0 q39
        refine zpE_run 2 (L' := [some (.ref 44), some (.int x1), some (.int x2), some (.int x3)]) (st' := [.int (Int32.ofInt 2), .ref 44]) rfl ?_
        refine zpE_call rfl rfl (f_111 (M := zmS M 0 (Int32.ofInt 0)) (x1 := Int32.ofInt 2) hX) (fun v h1 nc1 ns1 q8 => ?_) (fun E h1 nc1 ns1 q8 => by cases q8.1)
        obtain ⟨q8, q9⟩ := q8
        cases q8
        cases q9
        obtain ⟨Z3, hZ3⟩ : ∃ Z, Z = r111 (Int32.ofInt 2) (zmS M 0 (Int32.ofInt 0)) := ⟨_, rfl⟩
        rw [← hZ3]
        have hY6 : zUX kq X Z3.2.2 := by
          rw [hZ3, rl_111]
          exact hX
        exact zpE_end rfl rfl (zOx_w (M' := Z3) hY6 (by unfold v144; (try rw [← hZ3]); rw [if_neg z9_0, if_neg z29_1, if_pos z39_2]) (by unfold r144; (try rw [← hZ3]); rw [if_neg z9_0, if_neg z29_1, if_pos z39_2]))
  · have z9_0 := zF_n0 q9
    refine zpE_run 2 (L' := [some (.ref 44), some (.int x1), some (.int x2), some (.int x3)]) (st' := [.int (Int32.ofInt 1), .ref 44]) rfl ?_
    refine zpE_call rfl rfl (f_111 (M := zmS M 0 (Int32.ofInt 0)) (x1 := Int32.ofInt 1) hX) (fun v h1 nc1 ns1 q8 => ?_) (fun E h1 nc1 ns1 q8 => by cases q8.1)
    obtain ⟨q8, q9⟩ := q8
    cases q8
    cases q9
    obtain ⟨Z4, hZ4⟩ : ∃ Z, Z = r111 (Int32.ofInt 1) (zmS M 0 (Int32.ofInt 0)) := ⟨_, rfl⟩
    rw [← hZ4]
    have hY7 : zUX kq X Z4.2.2 := by
      rw [hZ4, rl_111]
      exact hX
    exact zpE_end rfl rfl (zOx_w (M' := Z4) hY7 (by unfold v144; (try rw [← hZ4]); rw [if_pos z9_0]) (by unfold r144; (try rw [← hZ4]); rw [if_pos z9_0]))
theorem gr_144 {x1 x2 x3 : Int32} : zfrM [0] [] [1] (r144 x1 x2 x3 M) M := by
  unfold r144
  exact (gm_ite (gm_c gr_111 (gm_c gm_S gm_rf (by decide) (by decide) (by decide)) (by decide) (by decide) (by decide)) (gm_ite (gm_c gr_111 (gm_c gm_S gm_rf (by decide) (by decide) (by decide)) (by decide) (by decide) (by decide)) (gm_ite (gm_c gr_111 (gm_c gm_S gm_rf (by decide) (by decide) (by decide)) (by decide) (by decide) (by decide)) (gm_ite (gm_c gr_111 (gm_c gm_S gm_rf (by decide) (by decide) (by decide)) (by decide) (by decide) (by decide)) (gm_c gm_L (gm_c gm_S gm_rf (by decide) (by decide) (by decide)) (by decide) (by decide) (by decide))))))
def d136 (M : zRt) (k : Nat) (u : zRt) : zRt := if (zgt ((zmS u 10 (zrmd ((u.1 10) + (Int32.ofInt 1)) (Int32.ofInt 128))).2.1 24) (u.1 10)) = ((0 : Int32)) then (if (zgt ((zmS u 10 (zrmd ((u.1 10) + (Int32.ofInt 1)) (Int32.ofInt 128))).2.1 25) (u.1 10)) = ((0 : Int32)) then (if (zkd (zmS u 10 (zrmd ((u.1 10) + (Int32.ofInt 1)) (Int32.ofInt 128))).2.2.2 (v125 (u.1 10) (zmS u 10 (zrmd ((u.1 10) + (Int32.ofInt 1)) (Int32.ofInt 128))))) = ((0 : Int32)) then (zmS u 10 (zrmd ((u.1 10) + (Int32.ofInt 1)) (Int32.ofInt 128))) else (if (zkd (zmS u 10 (zrmd ((u.1 10) + (Int32.ofInt 1)) (Int32.ofInt 128))).2.2.2 (v125 (u.1 10) (zmS u 10 (zrmd ((u.1 10) + (Int32.ofInt 1)) (Int32.ofInt 128))))) = (Int32.ofInt 1) then ((r127 (u.1 10) (zme (r130 (u.1 10) (zbm9 (zmS u 10 (zrmd ((u.1 10) + (Int32.ofInt 1)) (Int32.ofInt 128))).2.2.2 (v125 (u.1 10) (zmS u 10 (zrmd ((u.1 10) + (Int32.ofInt 1)) (Int32.ofInt 128))))) (zmS u 10 (zrmd ((u.1 10) + (Int32.ofInt 1)) (Int32.ofInt 128)))).2.2.2 (v125 (u.1 10) (zmS u 10 (zrmd ((u.1 10) + (Int32.ofInt 1)) (Int32.ofInt 128))))) (r130 (u.1 10) (zbm9 (zmS u 10 (zrmd ((u.1 10) + (Int32.ofInt 1)) (Int32.ofInt 128))).2.2.2 (v125 (u.1 10) (zmS u 10 (zrmd ((u.1 10) + (Int32.ofInt 1)) (Int32.ofInt 128))))) (zmS u 10 (zrmd ((u.1 10) + (Int32.ofInt 1)) (Int32.ofInt 128)))))) else (zmW (r130 (u.1 10) (zbm9 (zmS u 10 (zrmd ((u.1 10) + (Int32.ofInt 1)) (Int32.ofInt 128))).2.2.2 (v125 (u.1 10) (zmS u 10 (zrmd ((u.1 10) + (Int32.ofInt 1)) (Int32.ofInt 128))))) (zmS u 10 (zrmd ((u.1 10) + (Int32.ofInt 1)) (Int32.ofInt 128)))) 24 (u.1 10) (Int32.ofInt 1)))) else (zmS u 10 (zrmd ((u.1 10) + (Int32.ofInt 1)) (Int32.ofInt 128)))) else (zmS u 10 (zrmd ((u.1 10) + (Int32.ofInt 1)) (Int32.ofInt 128)))
def w136 (M : zRt) (u0 : zRt) : Nat → zRt
  | 0 => u0
  | k + 1 => d136 M k (w136 M u0 k)
def x136 (M : zRt) (u : zRt) : zRt := u
theorem gr_d136 {k : Nat} {u : zRt} : zfrM [10, 14, 15] [0, 1, 2, 3, 4, 5, 6, 7, 8, 9, 10, 11, 12, 13, 14, 15, 16, 17, 18, 19, 24] [2] (d136 M k u) u := by
  unfold d136
  exact (gm_ite (gm_ite (gm_ite (gm_c gm_S gm_rf (by decide) (by decide) (by decide)) (gm_ite (gm_c gr_127 (gm_c gr_130 (gm_c gm_S gm_rf (by decide) (by decide) (by decide)) (by decide) (by decide) (by decide)) (by decide) (by decide) (by decide)) (gm_c gm_W (gm_c gr_130 (gm_c gm_S gm_rf (by decide) (by decide) (by decide)) (by decide) (by decide) (by decide)) (by decide) (by decide) (by decide)))) (gm_c gm_S gm_rf (by decide) (by decide) (by decide))) (gm_c gm_S gm_rf (by decide) (by decide) (by decide)))
theorem gr_w136 {u0 : zRt} : ∀ k, zfrM [10, 14, 15] [0, 1, 2, 3, 4, 5, 6, 7, 8, 9, 10, 11, 12, 13, 14, 15, 16, 17, 18, 19, 24] [2] (w136 M u0 k) u0
  | 0 => gm_rf
  | k + 1 => gm_tr gr_d136 (gr_w136 k)
theorem kw_r136 {u0 : zRt} (k : Nat) : (w136 M u0 k).1 7 = u0.1 7 := (gr_w136 k).1 7 (by decide)
theorem l_r136 {u0 : zRt} : ∀ (N k : Nat) (o2 : Option Value) (o3 : Option Value) (o4 : Option Value) (X : zXt) (hX : zUX kq X (w136 M u0 k).2.2) (nc ns : Nat), k ≤ (u0.1 7).toInt.toNat → zpE xs N 136 2 [some (.ref 44), some (.int (Int32.ofNat k)), o2, o3, o4] [] (zy S0 (w136 M u0 k) X) nc ns (fun o => ∃ X', zUX kq X' (x136 M (w136 M u0 (u0.1 7).toInt.toNat)).2.2 ∧ zOq (.inl none) (zy S0 (x136 M (w136 M u0 (u0.1 7).toInt.toNat)) X') o)
  | 0, _, _, _, _, _, _, _, _, _ => zpE_0
  | N + 1, k, o2, o3, o4, X, hX, nc, ns, hk => by
    refine zpE_run1 2 (L' := [some (.ref 44), some (.int (Int32.ofNat k)), o2, o3, o4]) (st' := [.int (((w136 M u0 k)).1 7), .int (Int32.ofNat k)]) rfl ?_
    rw [kw_r136]
    refine zpE_icmp rfl (fun q7 => ?_) (fun q7 => ?_)
    · have z7_0 := Int.not_lt.mpr (zF_ge_t q7)
      exact zpE_end rfl rfl (by rw [← zlp_out z7_0 hk]; exact zOx_f (M' := (w136 M u0 k)) hX (by unfold x136; (first | done | rfl)))
    · have z7_0 := zF_ge_f q7
      refine zpE_run 9 (L' := [some (.ref 44), some (.int (Int32.ofNat k)), some (.int (((w136 M u0 k)).1 10)), o3, o4]) (st' := [.int (Int32.ofInt 128), .int ((((w136 M u0 k)).1 10) + (Int32.ofInt 1)), .ref 44]) rfl ?_
      refine zpE_irem rfl (fun _ => ?_)
      refine zpE_run 4 (L' := [some (.ref 44), some (.int (Int32.ofNat k)), some (.int (((w136 M u0 k)).1 10)), o3, o4]) (st' := [.int (((w136 M u0 k)).1 10), .ref 71]) (h' := zy S0 (zmS ((w136 M u0 k)) 10 (zrmd ((((w136 M u0 k)).1 10) + (Int32.ofInt 1)) (Int32.ofInt 128))) X) rfl ?_
      refine zpE_bly rfl (zy_g71 (M := zmS ((w136 M u0 k)) 10 (zrmd ((((w136 M u0 k)).1 10) + (Int32.ofInt 1)) (Int32.ofInt 128)))) (fun _ _ => ?_)
      refine zpE_gen (fun nc ns => ?_)
      refine zpE_if rfl (fun q35 => ?_) (fun q35 => ?_)
      · have z35_1 := zF_n1 q35
        refine zpE_run 2 (L' := [some (.ref 44), some (.int ((Int32.ofNat k) + Int32.ofInt 1)), some (.int (((w136 M u0 k)).1 10)), o3, o4]) (st' := []) rfl ?_
        have eW : w136 M u0 (k + 1) = zmS ((w136 M u0 k)) 10 (zrmd ((((w136 M u0 k)).1 10) + (Int32.ofInt 1)) (Int32.ofInt 128)) := by
          show d136 M k _ = _
          unfold d136
          rw [if_neg z35_1]
        have hXn : zUX kq X (w136 M u0 (k + 1)).2.2 := by
          rw [eW]
          exact hX
        have K := fun o2 o3 o4 nc ns => l_r136 (u0 := u0) N (k + 1) o2 o3 o4 X hXn nc ns (zlp_in z7_0 hk)
        rw [← zof1, eW] at K
        exact K _ _ _ _ _
      · have z35_1 := zF_n0 q35
        refine zpE_run 3 (L' := [some (.ref 44), some (.int (Int32.ofNat k)), some (.int (((w136 M u0 k)).1 10)), o3, o4]) (st' := [.int (((w136 M u0 k)).1 10), .ref 72]) rfl ?_
        refine zpE_bly rfl (zy_g72 (M := zmS ((w136 M u0 k)) 10 (zrmd ((((w136 M u0 k)).1 10) + (Int32.ofInt 1)) (Int32.ofInt 128)))) (fun _ _ => ?_)
        refine zpE_gen (fun nc ns => ?_)
        refine zpE_if rfl (fun q44 => ?_) (fun q44 => ?_)
        · have z44_2 := zF_e1 q44
          refine zpE_run 2 (L' := [some (.ref 44), some (.int (Int32.ofNat k)), some (.int (((w136 M u0 k)).1 10)), o3, o4]) (st' := [.int (((w136 M u0 k)).1 10), .ref 44]) rfl ?_
          refine zpE_call rfl rfl (f_125 (M := zmS ((w136 M u0 k)) 10 (zrmd ((((w136 M u0 k)).1 10) + (Int32.ofInt 1)) (Int32.ofInt 128))) (x1 := ((w136 M u0 k)).1 10) hX) (fun v h1 nc1 ns1 q8 => ?_) (fun E h1 nc1 ns1 q8 => by cases q8.1)
          obtain ⟨q8, q9⟩ := q8
          cases q8
          cases q9
          refine zpE_run 3 (L' := [some (.ref 44), some (.int (Int32.ofNat k)), some (.int (((w136 M u0 k)).1 10)), some (.int (v125 (((w136 M u0 k)).1 10) (zmS ((w136 M u0 k)) 10 (zrmd ((((w136 M u0 k)).1 10) + (Int32.ofInt 1)) (Int32.ofInt 128))))), o4]) (st' := [.int (v125 (((w136 M u0 k)).1 10) (zmS ((w136 M u0 k)) 10 (zrmd ((((w136 M u0 k)).1 10) + (Int32.ofInt 1)) (Int32.ofInt 128)))), .ref 44]) rfl ?_
          refine zpE_call rfl rfl (r_121 (zy_mc (M := (zmS ((w136 M u0 k)) 10 (zrmd ((((w136 M u0 k)).1 10) + (Int32.ofInt 1)) (Int32.ofInt 128)))) hX)) (fun v h1 nc1 ns1 q8 => ?_) (fun E h1 nc1 ns1 q8 => by cases q8)
          cases q8
          refine zpE_run 2 (L' := [some (.ref 44), some (.int (Int32.ofNat k)), some (.int (((w136 M u0 k)).1 10)), some (.int (v125 (((w136 M u0 k)).1 10) (zmS ((w136 M u0 k)) 10 (zrmd ((((w136 M u0 k)).1 10) + (Int32.ofInt 1)) (Int32.ofInt 128))))), some (.int (zkd (zmS ((w136 M u0 k)) 10 (zrmd ((((w136 M u0 k)).1 10) + (Int32.ofInt 1)) (Int32.ofInt 128))).2.2.2 (v125 (((w136 M u0 k)).1 10) (zmS ((w136 M u0 k)) 10 (zrmd ((((w136 M u0 k)).1 10) + (Int32.ofInt 1)) (Int32.ofInt 128))))))]) (st' := [.int (zkd (zmS ((w136 M u0 k)) 10 (zrmd ((((w136 M u0 k)).1 10) + (Int32.ofInt 1)) (Int32.ofInt 128))).2.2.2 (v125 (((w136 M u0 k)).1 10) (zmS ((w136 M u0 k)) 10 (zrmd ((((w136 M u0 k)).1 10) + (Int32.ofInt 1)) (Int32.ofInt 128)))))]) rfl ?_
          refine zpE_if rfl (fun q65 => ?_) (fun q65 => ?_)
          · have z65_3 := zF_n1 q65
            refine zpE_run 4 (L' := [some (.ref 44), some (.int (Int32.ofNat k)), some (.int (((w136 M u0 k)).1 10)), some (.int (v125 (((w136 M u0 k)).1 10) (zmS ((w136 M u0 k)) 10 (zrmd ((((w136 M u0 k)).1 10) + (Int32.ofInt 1)) (Int32.ofInt 128))))), some (.int (zkd (zmS ((w136 M u0 k)) 10 (zrmd ((((w136 M u0 k)).1 10) + (Int32.ofInt 1)) (Int32.ofInt 128))).2.2.2 (v125 (((w136 M u0 k)).1 10) (zmS ((w136 M u0 k)) 10 (zrmd ((((w136 M u0 k)).1 10) + (Int32.ofInt 1)) (Int32.ofInt 128))))))]) (st' := [.int (v125 (((w136 M u0 k)).1 10) (zmS ((w136 M u0 k)) 10 (zrmd ((((w136 M u0 k)).1 10) + (Int32.ofInt 1)) (Int32.ofInt 128)))), .ref 44, .int (((w136 M u0 k)).1 10), .ref 44]) rfl ?_
            refine zpE_call rfl rfl (r_120 (zy_mc (M := (zmS ((w136 M u0 k)) 10 (zrmd ((((w136 M u0 k)).1 10) + (Int32.ofInt 1)) (Int32.ofInt 128)))) hX)) (fun v h1 nc1 ns1 q8 => ?_) (fun E h1 nc1 ns1 q8 => by cases q8)
            cases q8
            refine zpE_call rfl rfl (f_130 (M := zmS ((w136 M u0 k)) 10 (zrmd ((((w136 M u0 k)).1 10) + (Int32.ofInt 1)) (Int32.ofInt 128))) (x1 := ((w136 M u0 k)).1 10) (x2 := zbm9 (zmS ((w136 M u0 k)) 10 (zrmd ((((w136 M u0 k)).1 10) + (Int32.ofInt 1)) (Int32.ofInt 128))).2.2.2 (v125 (((w136 M u0 k)).1 10) (zmS ((w136 M u0 k)) 10 (zrmd ((((w136 M u0 k)).1 10) + (Int32.ofInt 1)) (Int32.ofInt 128))))) hX) (fun v h1 nc1 ns1 q8 => ?_) (fun E h1 nc1 ns1 q8 => by obtain ⟨_, _, q8, _⟩ := q8; cases q8)
            obtain ⟨X1, hX1, q8, q9⟩ := q8
            cases q8
            cases q9
            obtain ⟨Z1, hZ1⟩ : ∃ Z, Z = r130 (((w136 M u0 k)).1 10) (zbm9 (zmS ((w136 M u0 k)) 10 (zrmd ((((w136 M u0 k)).1 10) + (Int32.ofInt 1)) (Int32.ofInt 128))).2.2.2 (v125 (((w136 M u0 k)).1 10) (zmS ((w136 M u0 k)) 10 (zrmd ((((w136 M u0 k)).1 10) + (Int32.ofInt 1)) (Int32.ofInt 128))))) (zmS ((w136 M u0 k)) 10 (zrmd ((((w136 M u0 k)).1 10) + (Int32.ofInt 1)) (Int32.ofInt 128))) := ⟨_, rfl⟩
            rw [← hZ1]
            have hY2 : zUX kq X1 Z1.2.2 := by
              rw [hZ1]
              exact hX1
            refine zpE_run 2 (L' := [some (.ref 44), some (.int (Int32.ofNat k)), some (.int (((w136 M u0 k)).1 10)), some (.int (v125 (((w136 M u0 k)).1 10) (zmS ((w136 M u0 k)) 10 (zrmd ((((w136 M u0 k)).1 10) + (Int32.ofInt 1)) (Int32.ofInt 128))))), some (.int (zkd (zmS ((w136 M u0 k)) 10 (zrmd ((((w136 M u0 k)).1 10) + (Int32.ofInt 1)) (Int32.ofInt 128))).2.2.2 (v125 (((w136 M u0 k)).1 10) (zmS ((w136 M u0 k)) 10 (zrmd ((((w136 M u0 k)).1 10) + (Int32.ofInt 1)) (Int32.ofInt 128))))))]) (st' := [.int (Int32.ofInt 1), .int (zkd (zmS ((w136 M u0 k)) 10 (zrmd ((((w136 M u0 k)).1 10) + (Int32.ofInt 1)) (Int32.ofInt 128))).2.2.2 (v125 (((w136 M u0 k)).1 10) (zmS ((w136 M u0 k)) 10 (zrmd ((((w136 M u0 k)).1 10) + (Int32.ofInt 1)) (Int32.ofInt 128)))))]) rfl ?_
            refine zpE_icmp rfl (fun q84 => ?_) (fun q84 => ?_)
            · have z84_4 := zF_n1 q84
              refine zpE_run 4 (L' := [some (.ref 44), some (.int (Int32.ofNat k)), some (.int (((w136 M u0 k)).1 10)), some (.int (v125 (((w136 M u0 k)).1 10) (zmS ((w136 M u0 k)) 10 (zrmd ((((w136 M u0 k)).1 10) + (Int32.ofInt 1)) (Int32.ofInt 128))))), some (.int (zkd (zmS ((w136 M u0 k)) 10 (zrmd ((((w136 M u0 k)).1 10) + (Int32.ofInt 1)) (Int32.ofInt 128))).2.2.2 (v125 (((w136 M u0 k)).1 10) (zmS ((w136 M u0 k)) 10 (zrmd ((((w136 M u0 k)).1 10) + (Int32.ofInt 1)) (Int32.ofInt 128))))))]) (st' := [.int (Int32.ofInt 1), .int (((w136 M u0 k)).1 10), .ref 71]) rfl ?_
              refine zpE_bsy (h' := zy S0 (zmW Z1 24 (((w136 M u0 k)).1 10) (Int32.ofInt 1)) X1) rfl (zy_g71 (M := Z1)) (zy_s71 (M := Z1)) (fun _ _ _ => ?_)
              refine zpE_gen (fun nc ns => ?_)
              refine zpE_run 2 (L' := [some (.ref 44), some (.int ((Int32.ofNat k) + Int32.ofInt 1)), some (.int (((w136 M u0 k)).1 10)), some (.int (v125 (((w136 M u0 k)).1 10) (zmS ((w136 M u0 k)) 10 (zrmd ((((w136 M u0 k)).1 10) + (Int32.ofInt 1)) (Int32.ofInt 128))))), some (.int (zkd (zmS ((w136 M u0 k)) 10 (zrmd ((((w136 M u0 k)).1 10) + (Int32.ofInt 1)) (Int32.ofInt 128))).2.2.2 (v125 (((w136 M u0 k)).1 10) (zmS ((w136 M u0 k)) 10 (zrmd ((((w136 M u0 k)).1 10) + (Int32.ofInt 1)) (Int32.ofInt 128))))))]) (st' := []) rfl ?_
              have eW : w136 M u0 (k + 1) = zmW Z1 24 (((w136 M u0 k)).1 10) (Int32.ofInt 1) := by
                show d136 M k _ = _
                unfold d136
                (try rw [← hZ1])
                rw [if_pos z35_1, if_pos z44_2, if_neg z65_3, if_neg z84_4]
              have hXn : zUX kq X1 (w136 M u0 (k + 1)).2.2 := by
                rw [eW]
                exact hY2
              have K := fun o2 o3 o4 nc ns => l_r136 (u0 := u0) N (k + 1) o2 o3 o4 X1 hXn nc ns (zlp_in z7_0 hk)
              rw [← zof1, eW] at K
              exact K _ _ _ _ _
            · have z84_4 := zF_n0 q84
              refine zpE_run 4 (L' := [some (.ref 44), some (.int (Int32.ofNat k)), some (.int (((w136 M u0 k)).1 10)), some (.int (v125 (((w136 M u0 k)).1 10) (zmS ((w136 M u0 k)) 10 (zrmd ((((w136 M u0 k)).1 10) + (Int32.ofInt 1)) (Int32.ofInt 128))))), some (.int (zkd (zmS ((w136 M u0 k)) 10 (zrmd ((((w136 M u0 k)).1 10) + (Int32.ofInt 1)) (Int32.ofInt 128))).2.2.2 (v125 (((w136 M u0 k)).1 10) (zmS ((w136 M u0 k)) 10 (zrmd ((((w136 M u0 k)).1 10) + (Int32.ofInt 1)) (Int32.ofInt 128))))))]) (st' := [.int (v125 (((w136 M u0 k)).1 10) (zmS ((w136 M u0 k)) 10 (zrmd ((((w136 M u0 k)).1 10) + (Int32.ofInt 1)) (Int32.ofInt 128)))), .ref 44, .int (((w136 M u0 k)).1 10), .ref 44]) rfl ?_
              refine zpE_call rfl rfl (r_122 (zy_mc (M := Z1) hY2)) (fun v h1 nc1 ns1 q8 => ?_) (fun E h1 nc1 ns1 q8 => by cases q8)
              cases q8
              refine zpE_call rfl rfl (f_127 (M := Z1) (x1 := ((w136 M u0 k)).1 10) (x2 := zme Z1.2.2.2 (v125 (((w136 M u0 k)).1 10) (zmS ((w136 M u0 k)) 10 (zrmd ((((w136 M u0 k)).1 10) + (Int32.ofInt 1)) (Int32.ofInt 128))))) hY2) (fun v h1 nc1 ns1 q8 => ?_) (fun E h1 nc1 ns1 q8 => by cases q8.1)
              obtain ⟨q8, q9⟩ := q8
              cases q8
              cases q9
              obtain ⟨Z2, hZ2⟩ : ∃ Z, Z = r127 (((w136 M u0 k)).1 10) (zme Z1.2.2.2 (v125 (((w136 M u0 k)).1 10) (zmS ((w136 M u0 k)) 10 (zrmd ((((w136 M u0 k)).1 10) + (Int32.ofInt 1)) (Int32.ofInt 128))))) Z1 := ⟨_, rfl⟩
              rw [← hZ2]
              have hY3 : zUX kq X1 Z2.2.2 := by
                rw [hZ2, rl_127]
                exact hY2
              refine zpE_run 3 (L' := [some (.ref 44), some (.int ((Int32.ofNat k) + Int32.ofInt 1)), some (.int (((w136 M u0 k)).1 10)), some (.int (v125 (((w136 M u0 k)).1 10) (zmS ((w136 M u0 k)) 10 (zrmd ((((w136 M u0 k)).1 10) + (Int32.ofInt 1)) (Int32.ofInt 128))))), some (.int (zkd (zmS ((w136 M u0 k)) 10 (zrmd ((((w136 M u0 k)).1 10) + (Int32.ofInt 1)) (Int32.ofInt 128))).2.2.2 (v125 (((w136 M u0 k)).1 10) (zmS ((w136 M u0 k)) 10 (zrmd ((((w136 M u0 k)).1 10) + (Int32.ofInt 1)) (Int32.ofInt 128))))))]) (st' := []) rfl ?_
              have eW : w136 M u0 (k + 1) = Z2 := by
                show d136 M k _ = _
                unfold d136
                (try rw [← hZ1])
                (try rw [← hZ2])
                rw [if_pos z35_1, if_pos z44_2, if_neg z65_3, if_pos z84_4]
              have hXn : zUX kq X1 (w136 M u0 (k + 1)).2.2 := by
                rw [eW]
                exact hY3
              have K := fun o2 o3 o4 nc ns => l_r136 (u0 := u0) N (k + 1) o2 o3 o4 X1 hXn nc ns (zlp_in z7_0 hk)
              rw [← zof1, eW] at K
              exact K _ _ _ _ _
          · have z65_3 := zF_n0 q65
            refine zpE_run 3 (L' := [some (.ref 44), some (.int ((Int32.ofNat k) + Int32.ofInt 1)), some (.int (((w136 M u0 k)).1 10)), some (.int (v125 (((w136 M u0 k)).1 10) (zmS ((w136 M u0 k)) 10 (zrmd ((((w136 M u0 k)).1 10) + (Int32.ofInt 1)) (Int32.ofInt 128))))), some (.int (zkd (zmS ((w136 M u0 k)) 10 (zrmd ((((w136 M u0 k)).1 10) + (Int32.ofInt 1)) (Int32.ofInt 128))).2.2.2 (v125 (((w136 M u0 k)).1 10) (zmS ((w136 M u0 k)) 10 (zrmd ((((w136 M u0 k)).1 10) + (Int32.ofInt 1)) (Int32.ofInt 128))))))]) (st' := []) rfl ?_
            have eW : w136 M u0 (k + 1) = zmS ((w136 M u0 k)) 10 (zrmd ((((w136 M u0 k)).1 10) + (Int32.ofInt 1)) (Int32.ofInt 128)) := by
              show d136 M k _ = _
              unfold d136
              rw [if_pos z35_1, if_pos z44_2, if_pos z65_3]
            have hXn : zUX kq X (w136 M u0 (k + 1)).2.2 := by
              rw [eW]
              exact hX
            have K := fun o2 o3 o4 nc ns => l_r136 (u0 := u0) N (k + 1) o2 o3 o4 X hXn nc ns (zlp_in z7_0 hk)
            rw [← zof1, eW] at K
            exact K _ _ _ _ _
        · have z44_2 := zF_e0 q44
          refine zpE_run 3 (L' := [some (.ref 44), some (.int ((Int32.ofNat k) + Int32.ofInt 1)), some (.int (((w136 M u0 k)).1 10)), o3, o4]) (st' := []) rfl ?_
          have eW : w136 M u0 (k + 1) = zmS ((w136 M u0 k)) 10 (zrmd ((((w136 M u0 k)).1 10) + (Int32.ofInt 1)) (Int32.ofInt 128)) := by
            show d136 M k _ = _
            unfold d136
            rw [if_pos z35_1, if_neg z44_2]
          have hXn : zUX kq X (w136 M u0 (k + 1)).2.2 := by
            rw [eW]
            exact hX
          have K := fun o2 o3 o4 nc ns => l_r136 (u0 := u0) N (k + 1) o2 o3 o4 X hXn nc ns (zlp_in z7_0 hk)
          rw [← zof1, eW] at K
          exact K _ _ _ _ _
def r136  (M : zRt) : zRt := x136 M (w136 M M (M.1 7).toInt.toNat)
theorem f_136 (hX : zUX kq X M.2.2) : zpM xs N 136 [.ref 44] (zy S0 M X) nc ns (fun o => ∃ X', zUX kq X' (r136 M).2.2 ∧ zOq (.inl none) (zy S0 (r136 M) X') o) := by
  intro L0 e
  cases e
  refine zpE_run 2 rfl ?_
  exact l_r136 (M := M) (u0 := M) N 0 _ _ _ X hX _ _ (Nat.zero_le _)
theorem gr_x136 {u : zRt} : zfrM [] [] [] (x136 M u) u := by
  unfold x136
  exact gm_rf
theorem gr_136 : zfrM [10, 14, 15] [0, 1, 2, 3, 4, 5, 6, 7, 8, 9, 10, 11, 12, 13, 14, 15, 16, 17, 18, 19, 24] [2] (r136 M) M := by
  unfold r136
  exact (gm_c gr_x136 (gm_c (gr_w136 _) gm_rf (by decide) (by decide) (by decide)) (by decide) (by decide) (by decide))
def t137 (k : Nat) (M : zRt) : zRt := zmW (zmW M 20 (Int32.ofNat k) (Int32.ofInt 0)) 21 (Int32.ofNat k) (M.1 4)
def w137 (M : zRt) : Nat → zRt
  | 0 => M
  | k + 1 => t137 k (w137 M k)
theorem gr_w137 : ∀ k, zfrM [] [20, 21] [] (w137 M k) M
  | 0 => gm_rf
  | k + 1 => gm_tr (show zfrM [] [20, 21] [] (t137 k (w137 M k)) (w137 M k) from (gm_c gm_W (gm_c gm_W gm_rf (by decide) (by decide) (by decide)) (by decide) (by decide) (by decide))) (gr_w137 k)
theorem l_137r {P : zO → Prop} (h20 : (M.2.1 20).length = 20) (hc : zrmd (M.1 4) (M.1 5) = 0) {N0 : Nat} (K : ∀ (o1 : Option Value) (nc ns : Nat), zpE xs N0 137 60 [some (.ref 44), o1] [] (zy S0 (w137 M 20) X) nc ns P) : ∀ (N k nc ns : Nat), N ≤ N0 → k ≤ 20 → zpE xs N 137 16 [some (.ref 44), some (.int (Int32.ofNat k))] [] (zy S0 (w137 M k) X) nc ns P
  | 0, _, _, _, _, _ => zpE_0
  | N + 1, k, nc, ns, hN, hk => by
    have e20 : ((w137 M k).2.1 20).length = 20 := ((gr_w137 k).2.2.1 20).trans h20
    have e4 : (w137 M k).1 4 = M.1 4 := (gr_w137 k).1 4 (by decide)
    have e5 : (w137 M k).1 5 = M.1 5 := (gr_w137 k).1 5 (by decide)
    refine zpE_run1 2 (L' := [some (.ref 44), some (.int (Int32.ofNat k))]) (st' := [.ref 67, .int (Int32.ofNat k)]) rfl ?_
    refine zpE_alen rfl (zy_g67 (M := w137 M k)) (by decide) ?_
    rw [List.length_map, e20]
    refine zpE_icmp rfl (fun q => ?_) (fun q => ?_)
    · have z := zF_ge_t q
      rw [zofI (by omega), zofI (by omega)] at z
      obtain rfl : k = 20 := by omega
      exact zpE_le (by omega) (K _ _ _)
    · have z := zF_ge_f q
      rw [zofI (by omega), zofI (by omega)] at z
      refine zpE_run 4 (L' := [some (.ref 44), some (.int (Int32.ofNat k))]) (st' := [.int ((w137 M k).1 5), .int ((w137 M k).1 4)]) rfl ?_
      refine zpE_irem rfl (fun _ => ?_)
      rw [e4, e5, hc]
      refine zpE_if rfl (fun q2 => absurd rfl (zF_n1 q2)) (fun _ => ?_)
      refine zpE_run 4 (L' := [some (.ref 44), some (.int (Int32.ofNat k))]) (st' := [.int (Int32.ofInt 0), .int (Int32.ofNat k), .ref 67]) rfl ?_
      refine zpE_asy (h' := zy S0 (zmW (w137 M k) 20 (Int32.ofNat k) (Int32.ofInt 0)) X) rfl (zy_g67 (M := w137 M k)) (zy_s67 (M := w137 M k)) (fun _ _ => ?_)
      refine zpE_run 5 (L' := [some (.ref 44), some (.int (Int32.ofNat k))]) (st' := [.int ((w137 M k).1 4), .int (Int32.ofNat k), .ref 68]) rfl ?_
      refine zpE_asy (h' := zy S0 (w137 M (k + 1)) X) rfl (zy_g68 (M := zmW (w137 M k) 20 (Int32.ofNat k) (Int32.ofInt 0))) (zy_s68 (M := zmW (w137 M k) 20 (Int32.ofNat k) (Int32.ofInt 0))) (fun _ _ => ?_)
      have G := fun nc ns => l_137r h20 hc K N (k + 1) nc ns (by omega) (by omega)
      rw [← zof1] at G
      exact zpE_run 2 rfl (G _ _)
def q137 (M : zRt) : zRt := if zrmd (M.1 4) (M.1 5) = 0 then w137 M 20 else M
def r137 (M : zRt) : zRt := r136 (q137 (r135 (zmS M 4 (M.1 4 + Int32.ofInt 1))))
theorem gr_q137 : zfrM [] [20, 21] [] (q137 M) M := by
  unfold q137
  exact gm_ite (gr_w137 _) gm_rf
theorem f_137 (hX : zUX kq X M.2.2) (h20 : (M.2.1 20).length = 20) : zpM xs N 137 [.ref 44] (zy S0 M X) nc ns (fun o => ∃ X', zUX kq X' (r137 M).2.2 ∧ zOq (.inl none) (zy S0 (r137 M) X') o) := by
  intro L0 e
  cases e
  refine zpE_run 7 (L' := [some (.ref 44), none]) (st' := [.ref 44]) (h' := zy S0 (zmS M 4 (M.1 4 + Int32.ofInt 1)) X) rfl ?_
  refine zpE_call rfl rfl (f_135 (M := zmS M 4 (M.1 4 + Int32.ofInt 1)) hX) (fun v h1 nc1 ns1 q8 => ?_) (fun E h1 nc1 ns1 q8 => by cases q8.1)
  obtain ⟨q8, q9⟩ := q8
  cases q8
  cases q9
  obtain ⟨Z, hZ⟩ : ∃ Z, Z = r135 (zmS M 4 (M.1 4 + Int32.ofInt 1)) := ⟨_, rfl⟩
  rw [← hZ]
  have hY : zUX kq X Z.2.2 := by
    rw [hZ, rl_135]
    exact hX
  have hZ20 : (Z.2.1 20).length = 20 := by
    rw [hZ]
    exact (gr_135.2.2.1 20).trans h20
  have fin : ∀ (o1 : Option Value) (nc ns : Nat), zpE xs N 137 60 [some (.ref 44), o1] [] (zy S0 (q137 Z) X) nc ns (fun o => ∃ X', zUX kq X' (r137 M).2.2 ∧ zOq (.inl none) (zy S0 (r137 M) X') o) := by
    intro o1 nc ns
    have hq : zUX kq X (q137 Z).2.2 := by
      rw [gm_l gr_q137]
      exact hY
    refine zpE_run 1 (L' := [some (.ref 44), o1]) (st' := [.ref 44]) rfl ?_
    refine zpE_call rfl rfl (f_136 (M := q137 Z) hq) (fun v h1 nc1 ns1 q8 => ?_) (fun E h1 nc1 ns1 q8 => by obtain ⟨_, _, q8, _⟩ := q8; cases q8)
    obtain ⟨X2, hX2, q8, q9⟩ := q8
    cases q8
    cases q9
    exact zpE_end rfl rfl (zOx_f (M' := r136 (q137 Z)) hX2 (by rw [hZ]; rfl))
  refine zpE_run 2 (L' := [some (.ref 44), some (.int (Int32.ofNat 0))]) (st' := []) rfl ?_
  by_cases hc : zrmd (Z.1 4) (Z.1 5) = 0
  · have eq : q137 Z = w137 Z 20 := if_pos hc
    rw [eq] at fin
    exact l_137r (M := Z) hZ20 hc fin N 0 _ _ (Nat.le_refl _) (by decide)
  · have eq : q137 Z = Z := if_neg hc
    rw [eq] at fin
    refine zpE_run 3 (L' := [some (.ref 44), some (.int (Int32.ofNat 0))]) (st' := [.ref 67, .int (Int32.ofNat 0)]) rfl ?_
    refine zpE_alen rfl (zy_g67 (M := Z)) (by decide) ?_
    rw [List.length_map, hZ20]
    refine zpE_icmp rfl (fun q => absurd (zF_ge_t q) (by decide)) (fun _ => ?_)
    refine zpE_run 4 (L' := [some (.ref 44), some (.int (Int32.ofNat 0))]) (st' := [.int (Z.1 5), .int (Z.1 4)]) rfl ?_
    refine zpE_irem rfl (fun _ => ?_)
    refine zpE_if rfl (fun _ => fin _ _ _) (fun q2 => absurd (zF_n0 q2) hc)

theorem gr_137 : zfrM [4, 10, 14, 15] [0, 1, 2, 3, 4, 5, 6, 7, 8, 9, 10, 11, 12, 13, 14, 15, 16, 17, 18, 19, 20, 21, 24] [2] (r137 M) M := (gm_c gr_136 (gm_c gr_q137 (gm_c gr_135 (gm_c gm_S gm_rf (by decide) (by decide) (by decide)) (by decide) (by decide) (by decide)) (by decide) (by decide) (by decide)) (by decide) (by decide) (by decide))
def d150 (x1 : Int32) (M : zRt) (k : Nat) (u : zRt) : zRt := (r137 u)
def w150 (x1 : Int32) (M : zRt) (u0 : zRt) : Nat → zRt
  | 0 => u0
  | k + 1 => d150 x1 M k (w150 x1 M u0 k)
def y150 (x1 : Int32) (M : zRt) (u : zRt) : Int32 := (u.1 4)
def x150 (x1 : Int32) (M : zRt) (u : zRt) : zRt := u
theorem gr_d150 {x1 : Int32} {k : Nat} {u : zRt} : zfrM [4, 10, 14, 15] [0, 1, 2, 3, 4, 5, 6, 7, 8, 9, 10, 11, 12, 13, 14, 15, 16, 17, 18, 19, 20, 21, 24] [2] (d150 x1 M k u) u := by
  unfold d150
  exact (gm_c gr_137 gm_rf (by decide) (by decide) (by decide))
theorem gr_w150 {x1 : Int32} {u0 : zRt} : ∀ k, zfrM [4, 10, 14, 15] [0, 1, 2, 3, 4, 5, 6, 7, 8, 9, 10, 11, 12, 13, 14, 15, 16, 17, 18, 19, 20, 21, 24] [2] (w150 x1 M u0 k) u0
  | 0 => gm_rf
  | k + 1 => gm_tr gr_d150 (gr_w150 k)
theorem l_r150 {x1 : Int32} {u0 : zRt} (h20 : (u0.2.1 20).length = 20) : ∀ (N k : Nat) (X : zXt) (hX : zUX kq X (w150 x1 M u0 k).2.2) (nc ns : Nat), k ≤ (x1).toInt.toNat → zpE xs N 150 41 [some (.ref 44), some (.int x1), some (.int (Int32.ofNat k))] [] (zy S0 (w150 x1 M u0 k) X) nc ns (fun o => ∃ X', zUX kq X' (x150 x1 M (w150 x1 M u0 (x1).toInt.toNat)).2.2 ∧ zOq (.inl (some (.int (y150 x1 M (w150 x1 M u0 (x1).toInt.toNat))))) (zy S0 (x150 x1 M (w150 x1 M u0 (x1).toInt.toNat)) X') o)
  | 0, _, _, _, _, _, _ => zpE_0
  | N + 1, k, X, hX, nc, ns, hk => by
    refine zpE_run1 1 (L' := [some (.ref 44), some (.int x1), some (.int (Int32.ofNat k))]) (st' := [.int x1, .int (Int32.ofNat k)]) rfl ?_
    refine zpE_icmp rfl (fun q43 => ?_) (fun q43 => ?_)
    · have z43_0 := Int.not_lt.mpr (zF_ge_t q43)
      refine zpE_run 2 (L' := [some (.ref 44), some (.int x1), some (.int (Int32.ofNat k))]) (st' := [.int (((w150 x1 M u0 k)).1 4)]) rfl ?_
      exact zpE_end rfl rfl (by rw [← zlp_out z43_0 hk]; exact zOx_w (M' := (w150 x1 M u0 k)) hX (by unfold y150; (first | done | rfl)) (by unfold x150; (first | done | rfl)))
    · have z43_0 := zF_ge_f q43
      refine zpE_run 1 (L' := [some (.ref 44), some (.int x1), some (.int (Int32.ofNat k))]) (st' := [.ref 44]) rfl ?_
      refine zpE_call rfl rfl (f_137 (M := (w150 x1 M u0 k)) hX (by rw [(gr_w150 k).2.2.1 20]; exact h20)) (fun v h1 nc1 ns1 q8 => ?_) (fun E h1 nc1 ns1 q8 => by obtain ⟨_, _, q8, _⟩ := q8; cases q8)
      obtain ⟨X1, hX1, q8, q9⟩ := q8
      cases q8
      cases q9
      obtain ⟨Z1, hZ1⟩ : ∃ Z, Z = r137 ((w150 x1 M u0 k)) := ⟨_, rfl⟩
      rw [← hZ1]
      have hY2 : zUX kq X1 Z1.2.2 := by
        rw [hZ1]
        exact hX1
      refine zpE_run 2 (L' := [some (.ref 44), some (.int x1), some (.int ((Int32.ofNat k) + Int32.ofInt 1))]) (st' := []) rfl ?_
      have eW : w150 x1 M u0 (k + 1) = Z1 := by
        show d150 x1 M k _ = _
        unfold d150
        (try rw [← hZ1])
        (first | done | rfl)
      have hXn : zUX kq X1 (w150 x1 M u0 (k + 1)).2.2 := by
        rw [eW]
        exact hY2
      have K := fun nc ns => l_r150 (x1 := x1) (u0 := u0) h20 N (k + 1) X1 hXn nc ns (zlp_in z43_0 hk)
      rw [← zof1, eW] at K
      exact K _ _
def v150 (x1 : Int32) (M : zRt) : Int32 := if (v112 x1 (Int32.ofInt 1) (Int32.ofInt 100) (zmS M 0 (Int32.ofInt 0))) = ((0 : Int32)) then ((v111 (Int32.ofInt 1) (zmS M 0 (Int32.ofInt 0)))) else (if (Int32.ofInt 2000).toInt < (((zmS M 0 (Int32.ofInt 0)).1 4) + x1).toInt then ((v111 (Int32.ofInt 2) (zmS M 0 (Int32.ofInt 0)))) else (y150 x1 M (w150 x1 M (zmS M 0 (Int32.ofInt 0)) (x1).toInt.toNat)))
def r150 (x1 : Int32) (M : zRt) : zRt := if (v112 x1 (Int32.ofInt 1) (Int32.ofInt 100) (zmS M 0 (Int32.ofInt 0))) = ((0 : Int32)) then ((r111 (Int32.ofInt 1) (zmS M 0 (Int32.ofInt 0)))) else (if (Int32.ofInt 2000).toInt < (((zmS M 0 (Int32.ofInt 0)).1 4) + x1).toInt then ((r111 (Int32.ofInt 2) (zmS M 0 (Int32.ofInt 0)))) else (x150 x1 M (w150 x1 M (zmS M 0 (Int32.ofInt 0)) (x1).toInt.toNat)))
theorem f_150 {x1 : Int32} (hX : zUX kq X M.2.2) (h20 : (M.2.1 20).length = 20) : zpM xs N 150 [.ref 44, .int x1] (zy S0 M X) nc ns (fun o => ∃ X', zUX kq X' (r150 x1 M).2.2 ∧ zOq (.inl (some (.int (v150 x1 M)))) (zy S0 (r150 x1 M) X') o) := by
  intro L0 e
  cases e
  refine zpE_run 6 (L' := [some (.ref 44), some (.int x1), none]) (st' := [.int (Int32.ofInt 100), .int (Int32.ofInt 1), .int x1]) (h' := zy S0 (zmS M 0 (Int32.ofInt 0)) X) rfl ?_
  refine zpE_call rfl rfl (f_112 (M := zmS M 0 (Int32.ofInt 0)) (x1 := x1) (x2 := Int32.ofInt 1) (x3 := Int32.ofInt 100) hX) (fun v h1 nc1 ns1 q8 => ?_) (fun E h1 nc1 ns1 q8 => by cases q8.1)
  obtain ⟨q8, q9⟩ := q8
  cases q8
  cases q9
  refine zpE_if rfl (fun q12 => ?_) (fun q12 => ?_)
  · have z12_0 := zF_n1 q12
    refine zpE_run 5 (L' := [some (.ref 44), some (.int x1), none]) (st' := [.int (Int32.ofInt 2000), .int (((zmS M 0 (Int32.ofInt 0)).1 4) + x1)]) rfl ?_
    refine zpE_icmp rfl (fun q30 => ?_) (fun q30 => ?_)
    · have z30_1 := Int.not_lt.mpr (zF_le_t q30)
      refine zpE_run 2 rfl ?_
      rw [show v150 x1 M = y150 x1 M (w150 x1 M (zmS M 0 (Int32.ofInt 0)) (x1).toInt.toNat) from by
        unfold v150
        rw [if_neg z12_0, if_neg z30_1]]
      rw [show r150 x1 M = x150 x1 M (w150 x1 M (zmS M 0 (Int32.ofInt 0)) (x1).toInt.toNat) from by
        unfold r150
        rw [if_neg z12_0, if_neg z30_1]]
      exact l_r150 (x1 := x1) (M := M) (u0 := zmS M 0 (Int32.ofInt 0)) h20 N 0 X hX _ _ (Nat.zero_le _)
    · have z30_1 := zF_le_f q30
      refine zpE_run 2 (L' := [some (.ref 44), some (.int x1), none]) (st' := [.int (Int32.ofInt 2), .ref 44]) rfl ?_
      refine zpE_call rfl rfl (f_111 (M := zmS M 0 (Int32.ofInt 0)) (x1 := Int32.ofInt 2) hX) (fun v h1 nc1 ns1 q8 => ?_) (fun E h1 nc1 ns1 q8 => by cases q8.1)
      obtain ⟨q8, q9⟩ := q8
      cases q8
      cases q9
      obtain ⟨Z1, hZ1⟩ : ∃ Z, Z = r111 (Int32.ofInt 2) (zmS M 0 (Int32.ofInt 0)) := ⟨_, rfl⟩
      rw [← hZ1]
      have hY1 : zUX kq X Z1.2.2 := by
        rw [hZ1, rl_111]
        exact hX
      exact zpE_end rfl rfl (zOx_w (M' := Z1) hY1 (by unfold v150; (try rw [← hZ1]); rw [if_neg z12_0, if_pos z30_1]) (by unfold r150; (try rw [← hZ1]); rw [if_neg z12_0, if_pos z30_1]))
  · have z12_0 := zF_n0 q12
    refine zpE_run 2 (L' := [some (.ref 44), some (.int x1), none]) (st' := [.int (Int32.ofInt 1), .ref 44]) rfl ?_
    refine zpE_call rfl rfl (f_111 (M := zmS M 0 (Int32.ofInt 0)) (x1 := Int32.ofInt 1) hX) (fun v h1 nc1 ns1 q8 => ?_) (fun E h1 nc1 ns1 q8 => by cases q8.1)
    obtain ⟨q8, q9⟩ := q8
    cases q8
    cases q9
    obtain ⟨Z2, hZ2⟩ : ∃ Z, Z = r111 (Int32.ofInt 1) (zmS M 0 (Int32.ofInt 0)) := ⟨_, rfl⟩
    rw [← hZ2]
    have hY2 : zUX kq X Z2.2.2 := by
      rw [hZ2, rl_111]
      exact hX
    exact zpE_end rfl rfl (zOx_w (M' := Z2) hY2 (by unfold v150; (try rw [← hZ2]); rw [if_pos z12_0]) (by unfold r150; (try rw [← hZ2]); rw [if_pos z12_0]))
theorem gr_x150 {x1 : Int32} {u : zRt} : zfrM [] [] [] (x150 x1 M u) u := by
  unfold x150
  exact gm_rf
theorem gr_150 {x1 : Int32} : zfrM [0, 4, 10, 14, 15] [0, 1, 2, 3, 4, 5, 6, 7, 8, 9, 10, 11, 12, 13, 14, 15, 16, 17, 18, 19, 20, 21, 24] [2] (r150 x1 M) M := by
  unfold r150
  exact (gm_ite (gm_c gr_111 (gm_c gm_S gm_rf (by decide) (by decide) (by decide)) (by decide) (by decide) (by decide)) (gm_ite (gm_c gr_111 (gm_c gm_S gm_rf (by decide) (by decide) (by decide)) (by decide) (by decide) (by decide)) (gm_c gr_x150 (gm_c (gr_w150 _) (gm_c gm_S gm_rf (by decide) (by decide) (by decide)) (by decide) (by decide) (by decide)) (by decide) (by decide) (by decide))))
def v151 (M : zRt) : Int32 := Int32.ofNat (M.2.2.1 2).length
def r151 (M : zRt) : zRt := zmLs (zmS M 0 (Int32.ofInt 0)) 2 []
theorem f_151 (hX : zUX kq X M.2.2) : zpM xs N 151 [.ref 44] (zy S0 M X) nc ns (fun o => ∃ X', zUX kq X' (r151 M).2.2 ∧ zOq (.inl (some (.int (v151 M)))) (zy S0 (r151 M) X') o) := by
  intro L0 e
  cases e
  refine zpE_run 5 (L' := [some (.ref 44), none]) (st' := [.ref (X.1 2)]) (h' := zy S0 (zmS M 0 (Int32.ofInt 0)) X) rfl ?_
  obtain ⟨vs1, lc1⟩ := zUX_lc (S0 := S0) (M := zmS M 0 (Int32.ofInt 0)) (i := 2) (by decide) hX
  refine zpE_call rfl (show zcallV 0 10 243 14 (.ref (X.1 2) :: _) (zy S0 (zmS M 0 (Int32.ofInt 0)) X) = _ from zcallV_eq rfl lc1 (Nat.le_of_ble_eq_true rfl)) (zul_243 (M := zmS M 0 (Int32.ofInt 0)) (i := 2) (by decide) hX) (fun v h1 nc1 ns1 q8 => ?_) (fun E h1 nc1 ns1 q8 => by cases q8)
  cases q8
  refine zpE_run 4 (L' := [some (.ref 44), some (.int (Int32.ofNat (M.2.2.1 2).length))]) (st' := [.ref (zy S0 (zmS M 0 (Int32.ofInt 0)) X).length, .ref (zy S0 (zmS M 0 (Int32.ofInt 0)) X).length, .ref 44]) (h' := zy S0 (zmS M 0 (Int32.ofInt 0)) X ++ [(10, [.int 0, .null, .int 0])]) rfl ?_
  refine zpE_call rfl rfl (zpM_of (m_242 (D := 0) (h := zy S0 (zmS M 0 (Int32.ofInt 0)) X))) (fun v h1 nc1 ns1 q8 => ?_) (fun E h1 nc1 ns1 q8 => by cases q8)
  cases q8
  refine zpE_run 2 (L' := [some (.ref 44), some (.int (Int32.ofNat (M.2.2.1 2).length))]) (st' := [.int (Int32.ofNat (M.2.2.1 2).length)]) (h' := zy S0 (r151 M) (zup X.1 2 (zy S0 (zmS M 0 (Int32.ofInt 0)) X).length, zup X.2.1 2 [], X.2.2 ++ [zli0])) rfl ?_
  exact zpE_end rfl rfl (zOx_w (zUN_new (S0 := S0) (M := zmS M 0 (Int32.ofInt 0)) (i := 2) (by decide) (by decide) hX) rfl rfl)
theorem gr_151 : zfrM [0] [] [2] (r151 M) M := (gm_c gm_L (gm_c gm_S gm_rf (by decide) (by decide) (by decide)) (by decide) (by decide) (by decide))
def v171 (x1 : Int32) (M : zRt) : Int32 := if (M.1 8) = ((0 : Int32)) then (if (M.1 9) = ((0 : Int32)) then ((zgt [M.1 4, M.1 1, M.1 2, M.1 5, M.1 6, M.1 7, Int32.ofInt 0, Int32.ofInt 0, M.1 10, Int32.ofNat (M.2.2.1 2).length, M.1 14, M.1 15, v149_71 M, v149_72 M, Int32.ofNat (M.2.2.1 0).length, Int32.ofNat (M.2.2.1 1).length, M.1 12, M.1 13] x1)) else ((zgt [M.1 4, M.1 1, M.1 2, M.1 5, M.1 6, M.1 7, Int32.ofInt 0, Int32.ofInt 1, M.1 10, Int32.ofNat (M.2.2.1 2).length, M.1 14, M.1 15, v149_71 M, v149_72 M, Int32.ofNat (M.2.2.1 0).length, Int32.ofNat (M.2.2.1 1).length, M.1 12, M.1 13] x1))) else (if (M.1 9) = ((0 : Int32)) then ((zgt [M.1 4, M.1 1, M.1 2, M.1 5, M.1 6, M.1 7, Int32.ofInt 1, Int32.ofInt 0, M.1 10, Int32.ofNat (M.2.2.1 2).length, M.1 14, M.1 15, v149_71 M, v149_72 M, Int32.ofNat (M.2.2.1 0).length, Int32.ofNat (M.2.2.1 1).length, M.1 12, M.1 13] x1)) else ((zgt [M.1 4, M.1 1, M.1 2, M.1 5, M.1 6, M.1 7, Int32.ofInt 1, Int32.ofInt 1, M.1 10, Int32.ofNat (M.2.2.1 2).length, M.1 14, M.1 15, v149_71 M, v149_72 M, Int32.ofNat (M.2.2.1 0).length, Int32.ofNat (M.2.2.1 1).length, M.1 12, M.1 13] x1)))
theorem f_171 {x1 : Int32} (hX : zUX kq X M.2.2) : zpM xs N 171 [.ref 44, .int x1] (zy S0 M X) nc ns (fun o => ∃ X', zUX kq X' M.2.2 ∧ zOq (.inl (some (.int (v171 x1 M)))) (zy S0 M X') o) := by
  intro L0 e
  cases e
  refine zpE_run 1 (L' := [some (.ref 44), some (.int x1), none]) (st' := [.int (Int32.ofInt 18)]) rfl ?_
  refine zpE_newi (m := 18) (by decide) rfl ?_
  refine zpE_run 4 (L' := [some (.ref 44), some (.int x1), none]) (st' := [.int (M.1 4), .int (Int32.ofInt 0), .ref (List.length (zy S0 M X)), .ref (List.length (zy S0 M X))]) rfl ?_
  refine zpE_asy (h' := zy S0 M X ++ [zar [M.1 4, 0, 0, 0, 0, 0, 0, 0, 0, 0, 0, 0, 0, 0, 0, 0, 0, 0]]) rfl (zha_get (h := zy S0 M X) (l := [0, 0, 0, 0, 0, 0, 0, 0, 0, 0, 0, 0, 0, 0, 0, 0, 0, 0])) (zha_set (l' := [M.1 4, 0, 0, 0, 0, 0, 0, 0, 0, 0, 0, 0, 0, 0, 0, 0, 0, 0])) (fun _ _ => ?_)
  refine zpE_run 4 (L' := [some (.ref 44), some (.int x1), none]) (st' := [.int (M.1 1), .int (Int32.ofInt 1), .ref (List.length (zy S0 M X)), .ref (List.length (zy S0 M X))]) rfl ?_
  refine zpE_asy (h' := zy S0 M X ++ [zar [M.1 4, M.1 1, 0, 0, 0, 0, 0, 0, 0, 0, 0, 0, 0, 0, 0, 0, 0, 0]]) rfl (zha_get (h := zy S0 M X) (l := [M.1 4, 0, 0, 0, 0, 0, 0, 0, 0, 0, 0, 0, 0, 0, 0, 0, 0, 0])) (zha_set (l' := [M.1 4, M.1 1, 0, 0, 0, 0, 0, 0, 0, 0, 0, 0, 0, 0, 0, 0, 0, 0])) (fun _ _ => ?_)
  refine zpE_run 4 (L' := [some (.ref 44), some (.int x1), none]) (st' := [.int (M.1 2), .int (Int32.ofInt 2), .ref (List.length (zy S0 M X)), .ref (List.length (zy S0 M X))]) rfl ?_
  refine zpE_asy (h' := zy S0 M X ++ [zar [M.1 4, M.1 1, M.1 2, 0, 0, 0, 0, 0, 0, 0, 0, 0, 0, 0, 0, 0, 0, 0]]) rfl (zha_get (h := zy S0 M X) (l := [M.1 4, M.1 1, 0, 0, 0, 0, 0, 0, 0, 0, 0, 0, 0, 0, 0, 0, 0, 0])) (zha_set (l' := [M.1 4, M.1 1, M.1 2, 0, 0, 0, 0, 0, 0, 0, 0, 0, 0, 0, 0, 0, 0, 0])) (fun _ _ => ?_)
  refine zpE_run 4 (L' := [some (.ref 44), some (.int x1), none]) (st' := [.int (M.1 5), .int (Int32.ofInt 3), .ref (List.length (zy S0 M X)), .ref (List.length (zy S0 M X))]) rfl ?_
  refine zpE_asy (h' := zy S0 M X ++ [zar [M.1 4, M.1 1, M.1 2, M.1 5, 0, 0, 0, 0, 0, 0, 0, 0, 0, 0, 0, 0, 0, 0]]) rfl (zha_get (h := zy S0 M X) (l := [M.1 4, M.1 1, M.1 2, 0, 0, 0, 0, 0, 0, 0, 0, 0, 0, 0, 0, 0, 0, 0])) (zha_set (l' := [M.1 4, M.1 1, M.1 2, M.1 5, 0, 0, 0, 0, 0, 0, 0, 0, 0, 0, 0, 0, 0, 0])) (fun _ _ => ?_)
  refine zpE_run 4 (L' := [some (.ref 44), some (.int x1), none]) (st' := [.int (M.1 6), .int (Int32.ofInt 4), .ref (List.length (zy S0 M X)), .ref (List.length (zy S0 M X))]) rfl ?_
  refine zpE_asy (h' := zy S0 M X ++ [zar [M.1 4, M.1 1, M.1 2, M.1 5, M.1 6, 0, 0, 0, 0, 0, 0, 0, 0, 0, 0, 0, 0, 0]]) rfl (zha_get (h := zy S0 M X) (l := [M.1 4, M.1 1, M.1 2, M.1 5, 0, 0, 0, 0, 0, 0, 0, 0, 0, 0, 0, 0, 0, 0])) (zha_set (l' := [M.1 4, M.1 1, M.1 2, M.1 5, M.1 6, 0, 0, 0, 0, 0, 0, 0, 0, 0, 0, 0, 0, 0])) (fun _ _ => ?_)
  refine zpE_run 4 (L' := [some (.ref 44), some (.int x1), none]) (st' := [.int (M.1 7), .int (Int32.ofInt 5), .ref (List.length (zy S0 M X)), .ref (List.length (zy S0 M X))]) rfl ?_
  refine zpE_asy (h' := zy S0 M X ++ [zar [M.1 4, M.1 1, M.1 2, M.1 5, M.1 6, M.1 7, 0, 0, 0, 0, 0, 0, 0, 0, 0, 0, 0, 0]]) rfl (zha_get (h := zy S0 M X) (l := [M.1 4, M.1 1, M.1 2, M.1 5, M.1 6, 0, 0, 0, 0, 0, 0, 0, 0, 0, 0, 0, 0, 0])) (zha_set (l' := [M.1 4, M.1 1, M.1 2, M.1 5, M.1 6, M.1 7, 0, 0, 0, 0, 0, 0, 0, 0, 0, 0, 0, 0])) (fun _ _ => ?_)
  refine zpE_run 4 (L' := [some (.ref 44), some (.int x1), none]) (st' := [.int (M.1 8), .int (Int32.ofInt 6), .ref (List.length (zy S0 M X)), .ref (List.length (zy S0 M X))]) rfl ?_
  refine zpE_if rfl (fun q53 => ?_) (fun q53 => ?_)
  · have z53_0 := zF_e1 q53
    refine zpE_run 1 (L' := [some (.ref 44), some (.int x1), none]) (st' := [.int (Int32.ofInt 0), .int (Int32.ofInt 6), .ref (List.length (zy S0 M X)), .ref (List.length (zy S0 M X))]) rfl ?_
    refine zpE_asy (h' := zy S0 M X ++ [zar [M.1 4, M.1 1, M.1 2, M.1 5, M.1 6, M.1 7, Int32.ofInt 0, 0, 0, 0, 0, 0, 0, 0, 0, 0, 0, 0]]) rfl (zha_get (h := zy S0 M X) (l := [M.1 4, M.1 1, M.1 2, M.1 5, M.1 6, M.1 7, 0, 0, 0, 0, 0, 0, 0, 0, 0, 0, 0, 0])) (zha_set (l' := [M.1 4, M.1 1, M.1 2, M.1 5, M.1 6, M.1 7, Int32.ofInt 0, 0, 0, 0, 0, 0, 0, 0, 0, 0, 0, 0])) (fun _ _ => ?_)
    refine zpE_run 4 (L' := [some (.ref 44), some (.int x1), none]) (st' := [.int (M.1 9), .int (Int32.ofInt 7), .ref (List.length (zy S0 M X)), .ref (List.length (zy S0 M X))]) rfl ?_
    refine zpE_if rfl (fun q69 => ?_) (fun q69 => ?_)
    · have z69_1 := zF_e1 q69
      refine zpE_run 1 (L' := [some (.ref 44), some (.int x1), none]) (st' := [.int (Int32.ofInt 0), .int (Int32.ofInt 7), .ref (List.length (zy S0 M X)), .ref (List.length (zy S0 M X))]) rfl ?_
      refine zpE_asy (h' := zy S0 M X ++ [zar [M.1 4, M.1 1, M.1 2, M.1 5, M.1 6, M.1 7, Int32.ofInt 0, Int32.ofInt 0, 0, 0, 0, 0, 0, 0, 0, 0, 0, 0]]) rfl (zha_get (h := zy S0 M X) (l := [M.1 4, M.1 1, M.1 2, M.1 5, M.1 6, M.1 7, Int32.ofInt 0, 0, 0, 0, 0, 0, 0, 0, 0, 0, 0, 0])) (zha_set (l' := [M.1 4, M.1 1, M.1 2, M.1 5, M.1 6, M.1 7, Int32.ofInt 0, Int32.ofInt 0, 0, 0, 0, 0, 0, 0, 0, 0, 0, 0])) (fun _ _ => ?_)
      refine zpE_run 4 (L' := [some (.ref 44), some (.int x1), none]) (st' := [.int (M.1 10), .int (Int32.ofInt 8), .ref (List.length (zy S0 M X)), .ref (List.length (zy S0 M X))]) rfl ?_
      refine zpE_asy (h' := zy S0 M X ++ [zar [M.1 4, M.1 1, M.1 2, M.1 5, M.1 6, M.1 7, Int32.ofInt 0, Int32.ofInt 0, M.1 10, 0, 0, 0, 0, 0, 0, 0, 0, 0]]) rfl (zha_get (h := zy S0 M X) (l := [M.1 4, M.1 1, M.1 2, M.1 5, M.1 6, M.1 7, Int32.ofInt 0, Int32.ofInt 0, 0, 0, 0, 0, 0, 0, 0, 0, 0, 0])) (zha_set (l' := [M.1 4, M.1 1, M.1 2, M.1 5, M.1 6, M.1 7, Int32.ofInt 0, Int32.ofInt 0, M.1 10, 0, 0, 0, 0, 0, 0, 0, 0, 0])) (fun _ _ => ?_)
      refine zpE_run 4 (L' := [some (.ref 44), some (.int x1), none]) (st' := [.ref (X.1 2), .int (Int32.ofInt 9), .ref (List.length (zy S0 M X)), .ref (List.length (zy S0 M X))]) rfl ?_
      obtain ⟨vs1, lc1⟩ := zUX_lc2 (S0 := S0) (M := M) (i := 2) (l := [M.1 4, M.1 1, M.1 2, M.1 5, M.1 6, M.1 7, Int32.ofInt 0, Int32.ofInt 0, M.1 10, 0, 0, 0, 0, 0, 0, 0, 0, 0]) (by decide) hX
      refine zpE_call rfl (show zcallV 0 10 243 98 (.ref (X.1 2) :: _) (zy S0 M X ++ [zar [M.1 4, M.1 1, M.1 2, M.1 5, M.1 6, M.1 7, Int32.ofInt 0, Int32.ofInt 0, M.1 10, 0, 0, 0, 0, 0, 0, 0, 0, 0]]) = _ from zcallV_eq rfl lc1 (Nat.le_of_ble_eq_true rfl)) (show zpM xs N 243 _ (zy S0 M X ++ [zar [M.1 4, M.1 1, M.1 2, M.1 5, M.1 6, M.1 7, Int32.ofInt 0, Int32.ofInt 0, M.1 10, 0, 0, 0, 0, 0, 0, 0, 0, 0]]) _ _ _ from zul_243 (M := M) (X := (X.1, X.2.1, X.2.2 ++ [zar [M.1 4, M.1 1, M.1 2, M.1 5, M.1 6, M.1 7, Int32.ofInt 0, Int32.ofInt 0, M.1 10, 0, 0, 0, 0, 0, 0, 0, 0, 0]])) (i := 2) (by decide) (zUN_ap hX)) (fun v h1 nc1 ns1 q8 => ?_) (fun E h1 nc1 ns1 q8 => by cases q8)
      cases q8
      refine zpE_gen (fun nc ns => ?_)
      show zpE xs N 171 98 _ _ (zy S0 M X ++ [zar [M.1 4, M.1 1, M.1 2, M.1 5, M.1 6, M.1 7, Int32.ofInt 0, Int32.ofInt 0, M.1 10, 0, 0, 0, 0, 0, 0, 0, 0, 0]]) _ _ _
      refine zpE_asy (h' := zy S0 M X ++ [zar [M.1 4, M.1 1, M.1 2, M.1 5, M.1 6, M.1 7, Int32.ofInt 0, Int32.ofInt 0, M.1 10, Int32.ofNat (M.2.2.1 2).length, 0, 0, 0, 0, 0, 0, 0, 0]]) rfl (zha_get (h := zy S0 M X) (l := [M.1 4, M.1 1, M.1 2, M.1 5, M.1 6, M.1 7, Int32.ofInt 0, Int32.ofInt 0, M.1 10, 0, 0, 0, 0, 0, 0, 0, 0, 0])) (zha_set (l' := [M.1 4, M.1 1, M.1 2, M.1 5, M.1 6, M.1 7, Int32.ofInt 0, Int32.ofInt 0, M.1 10, Int32.ofNat (M.2.2.1 2).length, 0, 0, 0, 0, 0, 0, 0, 0])) (fun _ _ => ?_)
      refine zpE_run 4 (L' := [some (.ref 44), some (.int x1), none]) (st' := [.int (M.1 14), .int (Int32.ofInt 10), .ref (List.length (zy S0 M X)), .ref (List.length (zy S0 M X))]) rfl ?_
      refine zpE_asy (h' := zy S0 M X ++ [zar [M.1 4, M.1 1, M.1 2, M.1 5, M.1 6, M.1 7, Int32.ofInt 0, Int32.ofInt 0, M.1 10, Int32.ofNat (M.2.2.1 2).length, M.1 14, 0, 0, 0, 0, 0, 0, 0]]) rfl (zha_get (h := zy S0 M X) (l := [M.1 4, M.1 1, M.1 2, M.1 5, M.1 6, M.1 7, Int32.ofInt 0, Int32.ofInt 0, M.1 10, Int32.ofNat (M.2.2.1 2).length, 0, 0, 0, 0, 0, 0, 0, 0])) (zha_set (l' := [M.1 4, M.1 1, M.1 2, M.1 5, M.1 6, M.1 7, Int32.ofInt 0, Int32.ofInt 0, M.1 10, Int32.ofNat (M.2.2.1 2).length, M.1 14, 0, 0, 0, 0, 0, 0, 0])) (fun _ _ => ?_)
      refine zpE_run 4 (L' := [some (.ref 44), some (.int x1), none]) (st' := [.int (M.1 15), .int (Int32.ofInt 11), .ref (List.length (zy S0 M X)), .ref (List.length (zy S0 M X))]) rfl ?_
      refine zpE_asy (h' := zy S0 M X ++ [zar [M.1 4, M.1 1, M.1 2, M.1 5, M.1 6, M.1 7, Int32.ofInt 0, Int32.ofInt 0, M.1 10, Int32.ofNat (M.2.2.1 2).length, M.1 14, M.1 15, 0, 0, 0, 0, 0, 0]]) rfl (zha_get (h := zy S0 M X) (l := [M.1 4, M.1 1, M.1 2, M.1 5, M.1 6, M.1 7, Int32.ofInt 0, Int32.ofInt 0, M.1 10, Int32.ofNat (M.2.2.1 2).length, M.1 14, 0, 0, 0, 0, 0, 0, 0])) (zha_set (l' := [M.1 4, M.1 1, M.1 2, M.1 5, M.1 6, M.1 7, Int32.ofInt 0, Int32.ofInt 0, M.1 10, Int32.ofNat (M.2.2.1 2).length, M.1 14, M.1 15, 0, 0, 0, 0, 0, 0])) (fun _ _ => ?_)
      refine zpE_run 4 (L' := [some (.ref 44), some (.int x1), none]) (st' := [.ref 71, .int (Int32.ofInt 12), .ref (List.length (zy S0 M X)), .ref (List.length (zy S0 M X))]) rfl ?_
      refine zpE_call rfl rfl (show zpM xs N 149 _ (zy S0 M X ++ [zar [M.1 4, M.1 1, M.1 2, M.1 5, M.1 6, M.1 7, Int32.ofInt 0, Int32.ofInt 0, M.1 10, Int32.ofNat (M.2.2.1 2).length, M.1 14, M.1 15, 0, 0, 0, 0, 0, 0]]) _ _ _ from f_149_71 (M := M) (zUN_ap hX : zUX kq (X.1, X.2.1, X.2.2 ++ [zar [M.1 4, M.1 1, M.1 2, M.1 5, M.1 6, M.1 7, Int32.ofInt 0, Int32.ofInt 0, M.1 10, Int32.ofNat (M.2.2.1 2).length, M.1 14, M.1 15, 0, 0, 0, 0, 0, 0]]) M.2.2)) (fun v h1 nc1 ns1 q8 => ?_) (fun E h1 nc1 ns1 q8 => by cases q8.1)
      obtain ⟨q8, q9⟩ := q8
      cases q8
      cases q9
      refine zpE_gen (fun nc ns => ?_)
      show zpE xs N 171 125 _ _ (zy S0 M X ++ [zar [M.1 4, M.1 1, M.1 2, M.1 5, M.1 6, M.1 7, Int32.ofInt 0, Int32.ofInt 0, M.1 10, Int32.ofNat (M.2.2.1 2).length, M.1 14, M.1 15, 0, 0, 0, 0, 0, 0]]) _ _ _
      refine zpE_asy (h' := zy S0 M X ++ [zar [M.1 4, M.1 1, M.1 2, M.1 5, M.1 6, M.1 7, Int32.ofInt 0, Int32.ofInt 0, M.1 10, Int32.ofNat (M.2.2.1 2).length, M.1 14, M.1 15, v149_71 M, 0, 0, 0, 0, 0]]) rfl (zha_get (h := zy S0 M X) (l := [M.1 4, M.1 1, M.1 2, M.1 5, M.1 6, M.1 7, Int32.ofInt 0, Int32.ofInt 0, M.1 10, Int32.ofNat (M.2.2.1 2).length, M.1 14, M.1 15, 0, 0, 0, 0, 0, 0])) (zha_set (l' := [M.1 4, M.1 1, M.1 2, M.1 5, M.1 6, M.1 7, Int32.ofInt 0, Int32.ofInt 0, M.1 10, Int32.ofNat (M.2.2.1 2).length, M.1 14, M.1 15, v149_71 M, 0, 0, 0, 0, 0])) (fun _ _ => ?_)
      refine zpE_run 4 (L' := [some (.ref 44), some (.int x1), none]) (st' := [.ref 72, .int (Int32.ofInt 13), .ref (List.length (zy S0 M X)), .ref (List.length (zy S0 M X))]) rfl ?_
      refine zpE_call rfl rfl (show zpM xs N 149 _ (zy S0 M X ++ [zar [M.1 4, M.1 1, M.1 2, M.1 5, M.1 6, M.1 7, Int32.ofInt 0, Int32.ofInt 0, M.1 10, Int32.ofNat (M.2.2.1 2).length, M.1 14, M.1 15, v149_71 M, 0, 0, 0, 0, 0]]) _ _ _ from f_149_72 (M := M) (zUN_ap hX : zUX kq (X.1, X.2.1, X.2.2 ++ [zar [M.1 4, M.1 1, M.1 2, M.1 5, M.1 6, M.1 7, Int32.ofInt 0, Int32.ofInt 0, M.1 10, Int32.ofNat (M.2.2.1 2).length, M.1 14, M.1 15, v149_71 M, 0, 0, 0, 0, 0]]) M.2.2)) (fun v h1 nc1 ns1 q8 => ?_) (fun E h1 nc1 ns1 q8 => by cases q8.1)
      obtain ⟨q8, q9⟩ := q8
      cases q8
      cases q9
      refine zpE_gen (fun nc ns => ?_)
      show zpE xs N 171 136 _ _ (zy S0 M X ++ [zar [M.1 4, M.1 1, M.1 2, M.1 5, M.1 6, M.1 7, Int32.ofInt 0, Int32.ofInt 0, M.1 10, Int32.ofNat (M.2.2.1 2).length, M.1 14, M.1 15, v149_71 M, 0, 0, 0, 0, 0]]) _ _ _
      refine zpE_asy (h' := zy S0 M X ++ [zar [M.1 4, M.1 1, M.1 2, M.1 5, M.1 6, M.1 7, Int32.ofInt 0, Int32.ofInt 0, M.1 10, Int32.ofNat (M.2.2.1 2).length, M.1 14, M.1 15, v149_71 M, v149_72 M, 0, 0, 0, 0]]) rfl (zha_get (h := zy S0 M X) (l := [M.1 4, M.1 1, M.1 2, M.1 5, M.1 6, M.1 7, Int32.ofInt 0, Int32.ofInt 0, M.1 10, Int32.ofNat (M.2.2.1 2).length, M.1 14, M.1 15, v149_71 M, 0, 0, 0, 0, 0])) (zha_set (l' := [M.1 4, M.1 1, M.1 2, M.1 5, M.1 6, M.1 7, Int32.ofInt 0, Int32.ofInt 0, M.1 10, Int32.ofNat (M.2.2.1 2).length, M.1 14, M.1 15, v149_71 M, v149_72 M, 0, 0, 0, 0])) (fun _ _ => ?_)
      refine zpE_run 4 (L' := [some (.ref 44), some (.int x1), none]) (st' := [.ref (X.1 0), .int (Int32.ofInt 14), .ref (List.length (zy S0 M X)), .ref (List.length (zy S0 M X))]) rfl ?_
      obtain ⟨vs2, lc2⟩ := zUX_lc2 (S0 := S0) (M := M) (i := 0) (l := [M.1 4, M.1 1, M.1 2, M.1 5, M.1 6, M.1 7, Int32.ofInt 0, Int32.ofInt 0, M.1 10, Int32.ofNat (M.2.2.1 2).length, M.1 14, M.1 15, v149_71 M, v149_72 M, 0, 0, 0, 0]) (by decide) hX
      refine zpE_call rfl (show zcallV 0 10 243 149 (.ref (X.1 0) :: _) (zy S0 M X ++ [zar [M.1 4, M.1 1, M.1 2, M.1 5, M.1 6, M.1 7, Int32.ofInt 0, Int32.ofInt 0, M.1 10, Int32.ofNat (M.2.2.1 2).length, M.1 14, M.1 15, v149_71 M, v149_72 M, 0, 0, 0, 0]]) = _ from zcallV_eq rfl lc2 (Nat.le_of_ble_eq_true rfl)) (show zpM xs N 243 _ (zy S0 M X ++ [zar [M.1 4, M.1 1, M.1 2, M.1 5, M.1 6, M.1 7, Int32.ofInt 0, Int32.ofInt 0, M.1 10, Int32.ofNat (M.2.2.1 2).length, M.1 14, M.1 15, v149_71 M, v149_72 M, 0, 0, 0, 0]]) _ _ _ from zul_243 (M := M) (X := (X.1, X.2.1, X.2.2 ++ [zar [M.1 4, M.1 1, M.1 2, M.1 5, M.1 6, M.1 7, Int32.ofInt 0, Int32.ofInt 0, M.1 10, Int32.ofNat (M.2.2.1 2).length, M.1 14, M.1 15, v149_71 M, v149_72 M, 0, 0, 0, 0]])) (i := 0) (by decide) (zUN_ap hX)) (fun v h1 nc1 ns1 q8 => ?_) (fun E h1 nc1 ns1 q8 => by cases q8)
      cases q8
      refine zpE_gen (fun nc ns => ?_)
      show zpE xs N 171 149 _ _ (zy S0 M X ++ [zar [M.1 4, M.1 1, M.1 2, M.1 5, M.1 6, M.1 7, Int32.ofInt 0, Int32.ofInt 0, M.1 10, Int32.ofNat (M.2.2.1 2).length, M.1 14, M.1 15, v149_71 M, v149_72 M, 0, 0, 0, 0]]) _ _ _
      refine zpE_asy (h' := zy S0 M X ++ [zar [M.1 4, M.1 1, M.1 2, M.1 5, M.1 6, M.1 7, Int32.ofInt 0, Int32.ofInt 0, M.1 10, Int32.ofNat (M.2.2.1 2).length, M.1 14, M.1 15, v149_71 M, v149_72 M, Int32.ofNat (M.2.2.1 0).length, 0, 0, 0]]) rfl (zha_get (h := zy S0 M X) (l := [M.1 4, M.1 1, M.1 2, M.1 5, M.1 6, M.1 7, Int32.ofInt 0, Int32.ofInt 0, M.1 10, Int32.ofNat (M.2.2.1 2).length, M.1 14, M.1 15, v149_71 M, v149_72 M, 0, 0, 0, 0])) (zha_set (l' := [M.1 4, M.1 1, M.1 2, M.1 5, M.1 6, M.1 7, Int32.ofInt 0, Int32.ofInt 0, M.1 10, Int32.ofNat (M.2.2.1 2).length, M.1 14, M.1 15, v149_71 M, v149_72 M, Int32.ofNat (M.2.2.1 0).length, 0, 0, 0])) (fun _ _ => ?_)
      refine zpE_run 4 (L' := [some (.ref 44), some (.int x1), none]) (st' := [.ref (X.1 1), .int (Int32.ofInt 15), .ref (List.length (zy S0 M X)), .ref (List.length (zy S0 M X))]) rfl ?_
      obtain ⟨vs3, lc3⟩ := zUX_lc2 (S0 := S0) (M := M) (i := 1) (l := [M.1 4, M.1 1, M.1 2, M.1 5, M.1 6, M.1 7, Int32.ofInt 0, Int32.ofInt 0, M.1 10, Int32.ofNat (M.2.2.1 2).length, M.1 14, M.1 15, v149_71 M, v149_72 M, Int32.ofNat (M.2.2.1 0).length, 0, 0, 0]) (by decide) hX
      refine zpE_call rfl (show zcallV 0 10 243 162 (.ref (X.1 1) :: _) (zy S0 M X ++ [zar [M.1 4, M.1 1, M.1 2, M.1 5, M.1 6, M.1 7, Int32.ofInt 0, Int32.ofInt 0, M.1 10, Int32.ofNat (M.2.2.1 2).length, M.1 14, M.1 15, v149_71 M, v149_72 M, Int32.ofNat (M.2.2.1 0).length, 0, 0, 0]]) = _ from zcallV_eq rfl lc3 (Nat.le_of_ble_eq_true rfl)) (show zpM xs N 243 _ (zy S0 M X ++ [zar [M.1 4, M.1 1, M.1 2, M.1 5, M.1 6, M.1 7, Int32.ofInt 0, Int32.ofInt 0, M.1 10, Int32.ofNat (M.2.2.1 2).length, M.1 14, M.1 15, v149_71 M, v149_72 M, Int32.ofNat (M.2.2.1 0).length, 0, 0, 0]]) _ _ _ from zul_243 (M := M) (X := (X.1, X.2.1, X.2.2 ++ [zar [M.1 4, M.1 1, M.1 2, M.1 5, M.1 6, M.1 7, Int32.ofInt 0, Int32.ofInt 0, M.1 10, Int32.ofNat (M.2.2.1 2).length, M.1 14, M.1 15, v149_71 M, v149_72 M, Int32.ofNat (M.2.2.1 0).length, 0, 0, 0]])) (i := 1) (by decide) (zUN_ap hX)) (fun v h1 nc1 ns1 q8 => ?_) (fun E h1 nc1 ns1 q8 => by cases q8)
      cases q8
      refine zpE_gen (fun nc ns => ?_)
      show zpE xs N 171 162 _ _ (zy S0 M X ++ [zar [M.1 4, M.1 1, M.1 2, M.1 5, M.1 6, M.1 7, Int32.ofInt 0, Int32.ofInt 0, M.1 10, Int32.ofNat (M.2.2.1 2).length, M.1 14, M.1 15, v149_71 M, v149_72 M, Int32.ofNat (M.2.2.1 0).length, 0, 0, 0]]) _ _ _
      refine zpE_asy (h' := zy S0 M X ++ [zar [M.1 4, M.1 1, M.1 2, M.1 5, M.1 6, M.1 7, Int32.ofInt 0, Int32.ofInt 0, M.1 10, Int32.ofNat (M.2.2.1 2).length, M.1 14, M.1 15, v149_71 M, v149_72 M, Int32.ofNat (M.2.2.1 0).length, Int32.ofNat (M.2.2.1 1).length, 0, 0]]) rfl (zha_get (h := zy S0 M X) (l := [M.1 4, M.1 1, M.1 2, M.1 5, M.1 6, M.1 7, Int32.ofInt 0, Int32.ofInt 0, M.1 10, Int32.ofNat (M.2.2.1 2).length, M.1 14, M.1 15, v149_71 M, v149_72 M, Int32.ofNat (M.2.2.1 0).length, 0, 0, 0])) (zha_set (l' := [M.1 4, M.1 1, M.1 2, M.1 5, M.1 6, M.1 7, Int32.ofInt 0, Int32.ofInt 0, M.1 10, Int32.ofNat (M.2.2.1 2).length, M.1 14, M.1 15, v149_71 M, v149_72 M, Int32.ofNat (M.2.2.1 0).length, Int32.ofNat (M.2.2.1 1).length, 0, 0])) (fun _ _ => ?_)
      refine zpE_run 4 (L' := [some (.ref 44), some (.int x1), none]) (st' := [.int (M.1 12), .int (Int32.ofInt 16), .ref (List.length (zy S0 M X)), .ref (List.length (zy S0 M X))]) rfl ?_
      refine zpE_asy (h' := zy S0 M X ++ [zar [M.1 4, M.1 1, M.1 2, M.1 5, M.1 6, M.1 7, Int32.ofInt 0, Int32.ofInt 0, M.1 10, Int32.ofNat (M.2.2.1 2).length, M.1 14, M.1 15, v149_71 M, v149_72 M, Int32.ofNat (M.2.2.1 0).length, Int32.ofNat (M.2.2.1 1).length, M.1 12, 0]]) rfl (zha_get (h := zy S0 M X) (l := [M.1 4, M.1 1, M.1 2, M.1 5, M.1 6, M.1 7, Int32.ofInt 0, Int32.ofInt 0, M.1 10, Int32.ofNat (M.2.2.1 2).length, M.1 14, M.1 15, v149_71 M, v149_72 M, Int32.ofNat (M.2.2.1 0).length, Int32.ofNat (M.2.2.1 1).length, 0, 0])) (zha_set (l' := [M.1 4, M.1 1, M.1 2, M.1 5, M.1 6, M.1 7, Int32.ofInt 0, Int32.ofInt 0, M.1 10, Int32.ofNat (M.2.2.1 2).length, M.1 14, M.1 15, v149_71 M, v149_72 M, Int32.ofNat (M.2.2.1 0).length, Int32.ofNat (M.2.2.1 1).length, M.1 12, 0])) (fun _ _ => ?_)
      refine zpE_run 4 (L' := [some (.ref 44), some (.int x1), none]) (st' := [.int (M.1 13), .int (Int32.ofInt 17), .ref (List.length (zy S0 M X)), .ref (List.length (zy S0 M X))]) rfl ?_
      refine zpE_asy (h' := zy S0 M X ++ [zar [M.1 4, M.1 1, M.1 2, M.1 5, M.1 6, M.1 7, Int32.ofInt 0, Int32.ofInt 0, M.1 10, Int32.ofNat (M.2.2.1 2).length, M.1 14, M.1 15, v149_71 M, v149_72 M, Int32.ofNat (M.2.2.1 0).length, Int32.ofNat (M.2.2.1 1).length, M.1 12, M.1 13]]) rfl (zha_get (h := zy S0 M X) (l := [M.1 4, M.1 1, M.1 2, M.1 5, M.1 6, M.1 7, Int32.ofInt 0, Int32.ofInt 0, M.1 10, Int32.ofNat (M.2.2.1 2).length, M.1 14, M.1 15, v149_71 M, v149_72 M, Int32.ofNat (M.2.2.1 0).length, Int32.ofNat (M.2.2.1 1).length, M.1 12, 0])) (zha_set (l' := [M.1 4, M.1 1, M.1 2, M.1 5, M.1 6, M.1 7, Int32.ofInt 0, Int32.ofInt 0, M.1 10, Int32.ofNat (M.2.2.1 2).length, M.1 14, M.1 15, v149_71 M, v149_72 M, Int32.ofNat (M.2.2.1 0).length, Int32.ofNat (M.2.2.1 1).length, M.1 12, M.1 13])) (fun _ _ => ?_)
      refine zpE_run 3 (L' := [some (.ref 44), some (.int x1), some (.ref (List.length (zy S0 M X)))]) (st' := [.int x1, .ref (List.length (zy S0 M X))]) rfl ?_
      refine zpE_aly rfl (zha_get (h := zy S0 M X) (l := [M.1 4, M.1 1, M.1 2, M.1 5, M.1 6, M.1 7, Int32.ofInt 0, Int32.ofInt 0, M.1 10, Int32.ofNat (M.2.2.1 2).length, M.1 14, M.1 15, v149_71 M, v149_72 M, Int32.ofNat (M.2.2.1 0).length, Int32.ofNat (M.2.2.1 1).length, M.1 12, M.1 13])) (fun _ _ => ?_)
      refine zpE_gen (fun nc ns => ?_)
      exact zpE_end rfl rfl (zOx_v hX (by unfold v171; rw [if_pos z53_0, if_pos z69_1]))
    · have z69_1 := zF_e0 q69
      refine zpE_run 2 (L' := [some (.ref 44), some (.int x1), none]) (st' := [.int (Int32.ofInt 1), .int (Int32.ofInt 7), .ref (List.length (zy S0 M X)), .ref (List.length (zy S0 M X))]) rfl ?_
      refine zpE_asy (h' := zy S0 M X ++ [zar [M.1 4, M.1 1, M.1 2, M.1 5, M.1 6, M.1 7, Int32.ofInt 0, Int32.ofInt 1, 0, 0, 0, 0, 0, 0, 0, 0, 0, 0]]) rfl (zha_get (h := zy S0 M X) (l := [M.1 4, M.1 1, M.1 2, M.1 5, M.1 6, M.1 7, Int32.ofInt 0, 0, 0, 0, 0, 0, 0, 0, 0, 0, 0, 0])) (zha_set (l' := [M.1 4, M.1 1, M.1 2, M.1 5, M.1 6, M.1 7, Int32.ofInt 0, Int32.ofInt 1, 0, 0, 0, 0, 0, 0, 0, 0, 0, 0])) (fun _ _ => ?_)
      refine zpE_run 4 (L' := [some (.ref 44), some (.int x1), none]) (st' := [.int (M.1 10), .int (Int32.ofInt 8), .ref (List.length (zy S0 M X)), .ref (List.length (zy S0 M X))]) rfl ?_
      refine zpE_asy (h' := zy S0 M X ++ [zar [M.1 4, M.1 1, M.1 2, M.1 5, M.1 6, M.1 7, Int32.ofInt 0, Int32.ofInt 1, M.1 10, 0, 0, 0, 0, 0, 0, 0, 0, 0]]) rfl (zha_get (h := zy S0 M X) (l := [M.1 4, M.1 1, M.1 2, M.1 5, M.1 6, M.1 7, Int32.ofInt 0, Int32.ofInt 1, 0, 0, 0, 0, 0, 0, 0, 0, 0, 0])) (zha_set (l' := [M.1 4, M.1 1, M.1 2, M.1 5, M.1 6, M.1 7, Int32.ofInt 0, Int32.ofInt 1, M.1 10, 0, 0, 0, 0, 0, 0, 0, 0, 0])) (fun _ _ => ?_)
      refine zpE_run 4 (L' := [some (.ref 44), some (.int x1), none]) (st' := [.ref (X.1 2), .int (Int32.ofInt 9), .ref (List.length (zy S0 M X)), .ref (List.length (zy S0 M X))]) rfl ?_
      obtain ⟨vs4, lc4⟩ := zUX_lc2 (S0 := S0) (M := M) (i := 2) (l := [M.1 4, M.1 1, M.1 2, M.1 5, M.1 6, M.1 7, Int32.ofInt 0, Int32.ofInt 1, M.1 10, 0, 0, 0, 0, 0, 0, 0, 0, 0]) (by decide) hX
      refine zpE_call rfl (show zcallV 0 10 243 98 (.ref (X.1 2) :: _) (zy S0 M X ++ [zar [M.1 4, M.1 1, M.1 2, M.1 5, M.1 6, M.1 7, Int32.ofInt 0, Int32.ofInt 1, M.1 10, 0, 0, 0, 0, 0, 0, 0, 0, 0]]) = _ from zcallV_eq rfl lc4 (Nat.le_of_ble_eq_true rfl)) (show zpM xs N 243 _ (zy S0 M X ++ [zar [M.1 4, M.1 1, M.1 2, M.1 5, M.1 6, M.1 7, Int32.ofInt 0, Int32.ofInt 1, M.1 10, 0, 0, 0, 0, 0, 0, 0, 0, 0]]) _ _ _ from zul_243 (M := M) (X := (X.1, X.2.1, X.2.2 ++ [zar [M.1 4, M.1 1, M.1 2, M.1 5, M.1 6, M.1 7, Int32.ofInt 0, Int32.ofInt 1, M.1 10, 0, 0, 0, 0, 0, 0, 0, 0, 0]])) (i := 2) (by decide) (zUN_ap hX)) (fun v h1 nc1 ns1 q8 => ?_) (fun E h1 nc1 ns1 q8 => by cases q8)
      cases q8
      refine zpE_gen (fun nc ns => ?_)
      show zpE xs N 171 98 _ _ (zy S0 M X ++ [zar [M.1 4, M.1 1, M.1 2, M.1 5, M.1 6, M.1 7, Int32.ofInt 0, Int32.ofInt 1, M.1 10, 0, 0, 0, 0, 0, 0, 0, 0, 0]]) _ _ _
      refine zpE_asy (h' := zy S0 M X ++ [zar [M.1 4, M.1 1, M.1 2, M.1 5, M.1 6, M.1 7, Int32.ofInt 0, Int32.ofInt 1, M.1 10, Int32.ofNat (M.2.2.1 2).length, 0, 0, 0, 0, 0, 0, 0, 0]]) rfl (zha_get (h := zy S0 M X) (l := [M.1 4, M.1 1, M.1 2, M.1 5, M.1 6, M.1 7, Int32.ofInt 0, Int32.ofInt 1, M.1 10, 0, 0, 0, 0, 0, 0, 0, 0, 0])) (zha_set (l' := [M.1 4, M.1 1, M.1 2, M.1 5, M.1 6, M.1 7, Int32.ofInt 0, Int32.ofInt 1, M.1 10, Int32.ofNat (M.2.2.1 2).length, 0, 0, 0, 0, 0, 0, 0, 0])) (fun _ _ => ?_)
      refine zpE_run 4 (L' := [some (.ref 44), some (.int x1), none]) (st' := [.int (M.1 14), .int (Int32.ofInt 10), .ref (List.length (zy S0 M X)), .ref (List.length (zy S0 M X))]) rfl ?_
      refine zpE_asy (h' := zy S0 M X ++ [zar [M.1 4, M.1 1, M.1 2, M.1 5, M.1 6, M.1 7, Int32.ofInt 0, Int32.ofInt 1, M.1 10, Int32.ofNat (M.2.2.1 2).length, M.1 14, 0, 0, 0, 0, 0, 0, 0]]) rfl (zha_get (h := zy S0 M X) (l := [M.1 4, M.1 1, M.1 2, M.1 5, M.1 6, M.1 7, Int32.ofInt 0, Int32.ofInt 1, M.1 10, Int32.ofNat (M.2.2.1 2).length, 0, 0, 0, 0, 0, 0, 0, 0])) (zha_set (l' := [M.1 4, M.1 1, M.1 2, M.1 5, M.1 6, M.1 7, Int32.ofInt 0, Int32.ofInt 1, M.1 10, Int32.ofNat (M.2.2.1 2).length, M.1 14, 0, 0, 0, 0, 0, 0, 0])) (fun _ _ => ?_)
      refine zpE_run 4 (L' := [some (.ref 44), some (.int x1), none]) (st' := [.int (M.1 15), .int (Int32.ofInt 11), .ref (List.length (zy S0 M X)), .ref (List.length (zy S0 M X))]) rfl ?_
      refine zpE_asy (h' := zy S0 M X ++ [zar [M.1 4, M.1 1, M.1 2, M.1 5, M.1 6, M.1 7, Int32.ofInt 0, Int32.ofInt 1, M.1 10, Int32.ofNat (M.2.2.1 2).length, M.1 14, M.1 15, 0, 0, 0, 0, 0, 0]]) rfl (zha_get (h := zy S0 M X) (l := [M.1 4, M.1 1, M.1 2, M.1 5, M.1 6, M.1 7, Int32.ofInt 0, Int32.ofInt 1, M.1 10, Int32.ofNat (M.2.2.1 2).length, M.1 14, 0, 0, 0, 0, 0, 0, 0])) (zha_set (l' := [M.1 4, M.1 1, M.1 2, M.1 5, M.1 6, M.1 7, Int32.ofInt 0, Int32.ofInt 1, M.1 10, Int32.ofNat (M.2.2.1 2).length, M.1 14, M.1 15, 0, 0, 0, 0, 0, 0])) (fun _ _ => ?_)
      refine zpE_run 4 (L' := [some (.ref 44), some (.int x1), none]) (st' := [.ref 71, .int (Int32.ofInt 12), .ref (List.length (zy S0 M X)), .ref (List.length (zy S0 M X))]) rfl ?_
      refine zpE_call rfl rfl (show zpM xs N 149 _ (zy S0 M X ++ [zar [M.1 4, M.1 1, M.1 2, M.1 5, M.1 6, M.1 7, Int32.ofInt 0, Int32.ofInt 1, M.1 10, Int32.ofNat (M.2.2.1 2).length, M.1 14, M.1 15, 0, 0, 0, 0, 0, 0]]) _ _ _ from f_149_71 (M := M) (zUN_ap hX : zUX kq (X.1, X.2.1, X.2.2 ++ [zar [M.1 4, M.1 1, M.1 2, M.1 5, M.1 6, M.1 7, Int32.ofInt 0, Int32.ofInt 1, M.1 10, Int32.ofNat (M.2.2.1 2).length, M.1 14, M.1 15, 0, 0, 0, 0, 0, 0]]) M.2.2)) (fun v h1 nc1 ns1 q8 => ?_) (fun E h1 nc1 ns1 q8 => by cases q8.1)
      obtain ⟨q8, q9⟩ := q8
      cases q8
      cases q9
      refine zpE_gen (fun nc ns => ?_)
      show zpE xs N 171 125 _ _ (zy S0 M X ++ [zar [M.1 4, M.1 1, M.1 2, M.1 5, M.1 6, M.1 7, Int32.ofInt 0, Int32.ofInt 1, M.1 10, Int32.ofNat (M.2.2.1 2).length, M.1 14, M.1 15, 0, 0, 0, 0, 0, 0]]) _ _ _
      refine zpE_asy (h' := zy S0 M X ++ [zar [M.1 4, M.1 1, M.1 2, M.1 5, M.1 6, M.1 7, Int32.ofInt 0, Int32.ofInt 1, M.1 10, Int32.ofNat (M.2.2.1 2).length, M.1 14, M.1 15, v149_71 M, 0, 0, 0, 0, 0]]) rfl (zha_get (h := zy S0 M X) (l := [M.1 4, M.1 1, M.1 2, M.1 5, M.1 6, M.1 7, Int32.ofInt 0, Int32.ofInt 1, M.1 10, Int32.ofNat (M.2.2.1 2).length, M.1 14, M.1 15, 0, 0, 0, 0, 0, 0])) (zha_set (l' := [M.1 4, M.1 1, M.1 2, M.1 5, M.1 6, M.1 7, Int32.ofInt 0, Int32.ofInt 1, M.1 10, Int32.ofNat (M.2.2.1 2).length, M.1 14, M.1 15, v149_71 M, 0, 0, 0, 0, 0])) (fun _ _ => ?_)
      refine zpE_run 4 (L' := [some (.ref 44), some (.int x1), none]) (st' := [.ref 72, .int (Int32.ofInt 13), .ref (List.length (zy S0 M X)), .ref (List.length (zy S0 M X))]) rfl ?_
      refine zpE_call rfl rfl (show zpM xs N 149 _ (zy S0 M X ++ [zar [M.1 4, M.1 1, M.1 2, M.1 5, M.1 6, M.1 7, Int32.ofInt 0, Int32.ofInt 1, M.1 10, Int32.ofNat (M.2.2.1 2).length, M.1 14, M.1 15, v149_71 M, 0, 0, 0, 0, 0]]) _ _ _ from f_149_72 (M := M) (zUN_ap hX : zUX kq (X.1, X.2.1, X.2.2 ++ [zar [M.1 4, M.1 1, M.1 2, M.1 5, M.1 6, M.1 7, Int32.ofInt 0, Int32.ofInt 1, M.1 10, Int32.ofNat (M.2.2.1 2).length, M.1 14, M.1 15, v149_71 M, 0, 0, 0, 0, 0]]) M.2.2)) (fun v h1 nc1 ns1 q8 => ?_) (fun E h1 nc1 ns1 q8 => by cases q8.1)
      obtain ⟨q8, q9⟩ := q8
      cases q8
      cases q9
      refine zpE_gen (fun nc ns => ?_)
      show zpE xs N 171 136 _ _ (zy S0 M X ++ [zar [M.1 4, M.1 1, M.1 2, M.1 5, M.1 6, M.1 7, Int32.ofInt 0, Int32.ofInt 1, M.1 10, Int32.ofNat (M.2.2.1 2).length, M.1 14, M.1 15, v149_71 M, 0, 0, 0, 0, 0]]) _ _ _
      refine zpE_asy (h' := zy S0 M X ++ [zar [M.1 4, M.1 1, M.1 2, M.1 5, M.1 6, M.1 7, Int32.ofInt 0, Int32.ofInt 1, M.1 10, Int32.ofNat (M.2.2.1 2).length, M.1 14, M.1 15, v149_71 M, v149_72 M, 0, 0, 0, 0]]) rfl (zha_get (h := zy S0 M X) (l := [M.1 4, M.1 1, M.1 2, M.1 5, M.1 6, M.1 7, Int32.ofInt 0, Int32.ofInt 1, M.1 10, Int32.ofNat (M.2.2.1 2).length, M.1 14, M.1 15, v149_71 M, 0, 0, 0, 0, 0])) (zha_set (l' := [M.1 4, M.1 1, M.1 2, M.1 5, M.1 6, M.1 7, Int32.ofInt 0, Int32.ofInt 1, M.1 10, Int32.ofNat (M.2.2.1 2).length, M.1 14, M.1 15, v149_71 M, v149_72 M, 0, 0, 0, 0])) (fun _ _ => ?_)
      refine zpE_run 4 (L' := [some (.ref 44), some (.int x1), none]) (st' := [.ref (X.1 0), .int (Int32.ofInt 14), .ref (List.length (zy S0 M X)), .ref (List.length (zy S0 M X))]) rfl ?_
      obtain ⟨vs5, lc5⟩ := zUX_lc2 (S0 := S0) (M := M) (i := 0) (l := [M.1 4, M.1 1, M.1 2, M.1 5, M.1 6, M.1 7, Int32.ofInt 0, Int32.ofInt 1, M.1 10, Int32.ofNat (M.2.2.1 2).length, M.1 14, M.1 15, v149_71 M, v149_72 M, 0, 0, 0, 0]) (by decide) hX
      refine zpE_call rfl (show zcallV 0 10 243 149 (.ref (X.1 0) :: _) (zy S0 M X ++ [zar [M.1 4, M.1 1, M.1 2, M.1 5, M.1 6, M.1 7, Int32.ofInt 0, Int32.ofInt 1, M.1 10, Int32.ofNat (M.2.2.1 2).length, M.1 14, M.1 15, v149_71 M, v149_72 M, 0, 0, 0, 0]]) = _ from zcallV_eq rfl lc5 (Nat.le_of_ble_eq_true rfl)) (show zpM xs N 243 _ (zy S0 M X ++ [zar [M.1 4, M.1 1, M.1 2, M.1 5, M.1 6, M.1 7, Int32.ofInt 0, Int32.ofInt 1, M.1 10, Int32.ofNat (M.2.2.1 2).length, M.1 14, M.1 15, v149_71 M, v149_72 M, 0, 0, 0, 0]]) _ _ _ from zul_243 (M := M) (X := (X.1, X.2.1, X.2.2 ++ [zar [M.1 4, M.1 1, M.1 2, M.1 5, M.1 6, M.1 7, Int32.ofInt 0, Int32.ofInt 1, M.1 10, Int32.ofNat (M.2.2.1 2).length, M.1 14, M.1 15, v149_71 M, v149_72 M, 0, 0, 0, 0]])) (i := 0) (by decide) (zUN_ap hX)) (fun v h1 nc1 ns1 q8 => ?_) (fun E h1 nc1 ns1 q8 => by cases q8)
      cases q8
      refine zpE_gen (fun nc ns => ?_)
      show zpE xs N 171 149 _ _ (zy S0 M X ++ [zar [M.1 4, M.1 1, M.1 2, M.1 5, M.1 6, M.1 7, Int32.ofInt 0, Int32.ofInt 1, M.1 10, Int32.ofNat (M.2.2.1 2).length, M.1 14, M.1 15, v149_71 M, v149_72 M, 0, 0, 0, 0]]) _ _ _
      refine zpE_asy (h' := zy S0 M X ++ [zar [M.1 4, M.1 1, M.1 2, M.1 5, M.1 6, M.1 7, Int32.ofInt 0, Int32.ofInt 1, M.1 10, Int32.ofNat (M.2.2.1 2).length, M.1 14, M.1 15, v149_71 M, v149_72 M, Int32.ofNat (M.2.2.1 0).length, 0, 0, 0]]) rfl (zha_get (h := zy S0 M X) (l := [M.1 4, M.1 1, M.1 2, M.1 5, M.1 6, M.1 7, Int32.ofInt 0, Int32.ofInt 1, M.1 10, Int32.ofNat (M.2.2.1 2).length, M.1 14, M.1 15, v149_71 M, v149_72 M, 0, 0, 0, 0])) (zha_set (l' := [M.1 4, M.1 1, M.1 2, M.1 5, M.1 6, M.1 7, Int32.ofInt 0, Int32.ofInt 1, M.1 10, Int32.ofNat (M.2.2.1 2).length, M.1 14, M.1 15, v149_71 M, v149_72 M, Int32.ofNat (M.2.2.1 0).length, 0, 0, 0])) (fun _ _ => ?_)
      refine zpE_run 4 (L' := [some (.ref 44), some (.int x1), none]) (st' := [.ref (X.1 1), .int (Int32.ofInt 15), .ref (List.length (zy S0 M X)), .ref (List.length (zy S0 M X))]) rfl ?_
      obtain ⟨vs6, lc6⟩ := zUX_lc2 (S0 := S0) (M := M) (i := 1) (l := [M.1 4, M.1 1, M.1 2, M.1 5, M.1 6, M.1 7, Int32.ofInt 0, Int32.ofInt 1, M.1 10, Int32.ofNat (M.2.2.1 2).length, M.1 14, M.1 15, v149_71 M, v149_72 M, Int32.ofNat (M.2.2.1 0).length, 0, 0, 0]) (by decide) hX
      refine zpE_call rfl (show zcallV 0 10 243 162 (.ref (X.1 1) :: _) (zy S0 M X ++ [zar [M.1 4, M.1 1, M.1 2, M.1 5, M.1 6, M.1 7, Int32.ofInt 0, Int32.ofInt 1, M.1 10, Int32.ofNat (M.2.2.1 2).length, M.1 14, M.1 15, v149_71 M, v149_72 M, Int32.ofNat (M.2.2.1 0).length, 0, 0, 0]]) = _ from zcallV_eq rfl lc6 (Nat.le_of_ble_eq_true rfl)) (show zpM xs N 243 _ (zy S0 M X ++ [zar [M.1 4, M.1 1, M.1 2, M.1 5, M.1 6, M.1 7, Int32.ofInt 0, Int32.ofInt 1, M.1 10, Int32.ofNat (M.2.2.1 2).length, M.1 14, M.1 15, v149_71 M, v149_72 M, Int32.ofNat (M.2.2.1 0).length, 0, 0, 0]]) _ _ _ from zul_243 (M := M) (X := (X.1, X.2.1, X.2.2 ++ [zar [M.1 4, M.1 1, M.1 2, M.1 5, M.1 6, M.1 7, Int32.ofInt 0, Int32.ofInt 1, M.1 10, Int32.ofNat (M.2.2.1 2).length, M.1 14, M.1 15, v149_71 M, v149_72 M, Int32.ofNat (M.2.2.1 0).length, 0, 0, 0]])) (i := 1) (by decide) (zUN_ap hX)) (fun v h1 nc1 ns1 q8 => ?_) (fun E h1 nc1 ns1 q8 => by cases q8)
      cases q8
      refine zpE_gen (fun nc ns => ?_)
      show zpE xs N 171 162 _ _ (zy S0 M X ++ [zar [M.1 4, M.1 1, M.1 2, M.1 5, M.1 6, M.1 7, Int32.ofInt 0, Int32.ofInt 1, M.1 10, Int32.ofNat (M.2.2.1 2).length, M.1 14, M.1 15, v149_71 M, v149_72 M, Int32.ofNat (M.2.2.1 0).length, 0, 0, 0]]) _ _ _
      refine zpE_asy (h' := zy S0 M X ++ [zar [M.1 4, M.1 1, M.1 2, M.1 5, M.1 6, M.1 7, Int32.ofInt 0, Int32.ofInt 1, M.1 10, Int32.ofNat (M.2.2.1 2).length, M.1 14, M.1 15, v149_71 M, v149_72 M, Int32.ofNat (M.2.2.1 0).length, Int32.ofNat (M.2.2.1 1).length, 0, 0]]) rfl (zha_get (h := zy S0 M X) (l := [M.1 4, M.1 1, M.1 2, M.1 5, M.1 6, M.1 7, Int32.ofInt 0, Int32.ofInt 1, M.1 10, Int32.ofNat (M.2.2.1 2).length, M.1 14, M.1 15, v149_71 M, v149_72 M, Int32.ofNat (M.2.2.1 0).length, 0, 0, 0])) (zha_set (l' := [M.1 4, M.1 1, M.1 2, M.1 5, M.1 6, M.1 7, Int32.ofInt 0, Int32.ofInt 1, M.1 10, Int32.ofNat (M.2.2.1 2).length, M.1 14, M.1 15, v149_71 M, v149_72 M, Int32.ofNat (M.2.2.1 0).length, Int32.ofNat (M.2.2.1 1).length, 0, 0])) (fun _ _ => ?_)
      refine zpE_run 4 (L' := [some (.ref 44), some (.int x1), none]) (st' := [.int (M.1 12), .int (Int32.ofInt 16), .ref (List.length (zy S0 M X)), .ref (List.length (zy S0 M X))]) rfl ?_
      refine zpE_asy (h' := zy S0 M X ++ [zar [M.1 4, M.1 1, M.1 2, M.1 5, M.1 6, M.1 7, Int32.ofInt 0, Int32.ofInt 1, M.1 10, Int32.ofNat (M.2.2.1 2).length, M.1 14, M.1 15, v149_71 M, v149_72 M, Int32.ofNat (M.2.2.1 0).length, Int32.ofNat (M.2.2.1 1).length, M.1 12, 0]]) rfl (zha_get (h := zy S0 M X) (l := [M.1 4, M.1 1, M.1 2, M.1 5, M.1 6, M.1 7, Int32.ofInt 0, Int32.ofInt 1, M.1 10, Int32.ofNat (M.2.2.1 2).length, M.1 14, M.1 15, v149_71 M, v149_72 M, Int32.ofNat (M.2.2.1 0).length, Int32.ofNat (M.2.2.1 1).length, 0, 0])) (zha_set (l' := [M.1 4, M.1 1, M.1 2, M.1 5, M.1 6, M.1 7, Int32.ofInt 0, Int32.ofInt 1, M.1 10, Int32.ofNat (M.2.2.1 2).length, M.1 14, M.1 15, v149_71 M, v149_72 M, Int32.ofNat (M.2.2.1 0).length, Int32.ofNat (M.2.2.1 1).length, M.1 12, 0])) (fun _ _ => ?_)
      refine zpE_run 4 (L' := [some (.ref 44), some (.int x1), none]) (st' := [.int (M.1 13), .int (Int32.ofInt 17), .ref (List.length (zy S0 M X)), .ref (List.length (zy S0 M X))]) rfl ?_
      refine zpE_asy (h' := zy S0 M X ++ [zar [M.1 4, M.1 1, M.1 2, M.1 5, M.1 6, M.1 7, Int32.ofInt 0, Int32.ofInt 1, M.1 10, Int32.ofNat (M.2.2.1 2).length, M.1 14, M.1 15, v149_71 M, v149_72 M, Int32.ofNat (M.2.2.1 0).length, Int32.ofNat (M.2.2.1 1).length, M.1 12, M.1 13]]) rfl (zha_get (h := zy S0 M X) (l := [M.1 4, M.1 1, M.1 2, M.1 5, M.1 6, M.1 7, Int32.ofInt 0, Int32.ofInt 1, M.1 10, Int32.ofNat (M.2.2.1 2).length, M.1 14, M.1 15, v149_71 M, v149_72 M, Int32.ofNat (M.2.2.1 0).length, Int32.ofNat (M.2.2.1 1).length, M.1 12, 0])) (zha_set (l' := [M.1 4, M.1 1, M.1 2, M.1 5, M.1 6, M.1 7, Int32.ofInt 0, Int32.ofInt 1, M.1 10, Int32.ofNat (M.2.2.1 2).length, M.1 14, M.1 15, v149_71 M, v149_72 M, Int32.ofNat (M.2.2.1 0).length, Int32.ofNat (M.2.2.1 1).length, M.1 12, M.1 13])) (fun _ _ => ?_)
      refine zpE_run 3 (L' := [some (.ref 44), some (.int x1), some (.ref (List.length (zy S0 M X)))]) (st' := [.int x1, .ref (List.length (zy S0 M X))]) rfl ?_
      refine zpE_aly rfl (zha_get (h := zy S0 M X) (l := [M.1 4, M.1 1, M.1 2, M.1 5, M.1 6, M.1 7, Int32.ofInt 0, Int32.ofInt 1, M.1 10, Int32.ofNat (M.2.2.1 2).length, M.1 14, M.1 15, v149_71 M, v149_72 M, Int32.ofNat (M.2.2.1 0).length, Int32.ofNat (M.2.2.1 1).length, M.1 12, M.1 13])) (fun _ _ => ?_)
      refine zpE_gen (fun nc ns => ?_)
      exact zpE_end rfl rfl (zOx_v hX (by unfold v171; rw [if_pos z53_0, if_neg z69_1]))
  · have z53_0 := zF_e0 q53
    refine zpE_run 2 (L' := [some (.ref 44), some (.int x1), none]) (st' := [.int (Int32.ofInt 1), .int (Int32.ofInt 6), .ref (List.length (zy S0 M X)), .ref (List.length (zy S0 M X))]) rfl ?_
    refine zpE_asy (h' := zy S0 M X ++ [zar [M.1 4, M.1 1, M.1 2, M.1 5, M.1 6, M.1 7, Int32.ofInt 1, 0, 0, 0, 0, 0, 0, 0, 0, 0, 0, 0]]) rfl (zha_get (h := zy S0 M X) (l := [M.1 4, M.1 1, M.1 2, M.1 5, M.1 6, M.1 7, 0, 0, 0, 0, 0, 0, 0, 0, 0, 0, 0, 0])) (zha_set (l' := [M.1 4, M.1 1, M.1 2, M.1 5, M.1 6, M.1 7, Int32.ofInt 1, 0, 0, 0, 0, 0, 0, 0, 0, 0, 0, 0])) (fun _ _ => ?_)
    refine zpE_run 4 (L' := [some (.ref 44), some (.int x1), none]) (st' := [.int (M.1 9), .int (Int32.ofInt 7), .ref (List.length (zy S0 M X)), .ref (List.length (zy S0 M X))]) rfl ?_
    refine zpE_if rfl (fun q69 => ?_) (fun q69 => ?_)
    · have z69_1 := zF_e1 q69
      refine zpE_run 1 (L' := [some (.ref 44), some (.int x1), none]) (st' := [.int (Int32.ofInt 0), .int (Int32.ofInt 7), .ref (List.length (zy S0 M X)), .ref (List.length (zy S0 M X))]) rfl ?_
      refine zpE_asy (h' := zy S0 M X ++ [zar [M.1 4, M.1 1, M.1 2, M.1 5, M.1 6, M.1 7, Int32.ofInt 1, Int32.ofInt 0, 0, 0, 0, 0, 0, 0, 0, 0, 0, 0]]) rfl (zha_get (h := zy S0 M X) (l := [M.1 4, M.1 1, M.1 2, M.1 5, M.1 6, M.1 7, Int32.ofInt 1, 0, 0, 0, 0, 0, 0, 0, 0, 0, 0, 0])) (zha_set (l' := [M.1 4, M.1 1, M.1 2, M.1 5, M.1 6, M.1 7, Int32.ofInt 1, Int32.ofInt 0, 0, 0, 0, 0, 0, 0, 0, 0, 0, 0])) (fun _ _ => ?_)
      refine zpE_run 4 (L' := [some (.ref 44), some (.int x1), none]) (st' := [.int (M.1 10), .int (Int32.ofInt 8), .ref (List.length (zy S0 M X)), .ref (List.length (zy S0 M X))]) rfl ?_
      refine zpE_asy (h' := zy S0 M X ++ [zar [M.1 4, M.1 1, M.1 2, M.1 5, M.1 6, M.1 7, Int32.ofInt 1, Int32.ofInt 0, M.1 10, 0, 0, 0, 0, 0, 0, 0, 0, 0]]) rfl (zha_get (h := zy S0 M X) (l := [M.1 4, M.1 1, M.1 2, M.1 5, M.1 6, M.1 7, Int32.ofInt 1, Int32.ofInt 0, 0, 0, 0, 0, 0, 0, 0, 0, 0, 0])) (zha_set (l' := [M.1 4, M.1 1, M.1 2, M.1 5, M.1 6, M.1 7, Int32.ofInt 1, Int32.ofInt 0, M.1 10, 0, 0, 0, 0, 0, 0, 0, 0, 0])) (fun _ _ => ?_)
      refine zpE_run 4 (L' := [some (.ref 44), some (.int x1), none]) (st' := [.ref (X.1 2), .int (Int32.ofInt 9), .ref (List.length (zy S0 M X)), .ref (List.length (zy S0 M X))]) rfl ?_
      obtain ⟨vs7, lc7⟩ := zUX_lc2 (S0 := S0) (M := M) (i := 2) (l := [M.1 4, M.1 1, M.1 2, M.1 5, M.1 6, M.1 7, Int32.ofInt 1, Int32.ofInt 0, M.1 10, 0, 0, 0, 0, 0, 0, 0, 0, 0]) (by decide) hX
      refine zpE_call rfl (show zcallV 0 10 243 98 (.ref (X.1 2) :: _) (zy S0 M X ++ [zar [M.1 4, M.1 1, M.1 2, M.1 5, M.1 6, M.1 7, Int32.ofInt 1, Int32.ofInt 0, M.1 10, 0, 0, 0, 0, 0, 0, 0, 0, 0]]) = _ from zcallV_eq rfl lc7 (Nat.le_of_ble_eq_true rfl)) (show zpM xs N 243 _ (zy S0 M X ++ [zar [M.1 4, M.1 1, M.1 2, M.1 5, M.1 6, M.1 7, Int32.ofInt 1, Int32.ofInt 0, M.1 10, 0, 0, 0, 0, 0, 0, 0, 0, 0]]) _ _ _ from zul_243 (M := M) (X := (X.1, X.2.1, X.2.2 ++ [zar [M.1 4, M.1 1, M.1 2, M.1 5, M.1 6, M.1 7, Int32.ofInt 1, Int32.ofInt 0, M.1 10, 0, 0, 0, 0, 0, 0, 0, 0, 0]])) (i := 2) (by decide) (zUN_ap hX)) (fun v h1 nc1 ns1 q8 => ?_) (fun E h1 nc1 ns1 q8 => by cases q8)
      cases q8
      refine zpE_gen (fun nc ns => ?_)
      show zpE xs N 171 98 _ _ (zy S0 M X ++ [zar [M.1 4, M.1 1, M.1 2, M.1 5, M.1 6, M.1 7, Int32.ofInt 1, Int32.ofInt 0, M.1 10, 0, 0, 0, 0, 0, 0, 0, 0, 0]]) _ _ _
      refine zpE_asy (h' := zy S0 M X ++ [zar [M.1 4, M.1 1, M.1 2, M.1 5, M.1 6, M.1 7, Int32.ofInt 1, Int32.ofInt 0, M.1 10, Int32.ofNat (M.2.2.1 2).length, 0, 0, 0, 0, 0, 0, 0, 0]]) rfl (zha_get (h := zy S0 M X) (l := [M.1 4, M.1 1, M.1 2, M.1 5, M.1 6, M.1 7, Int32.ofInt 1, Int32.ofInt 0, M.1 10, 0, 0, 0, 0, 0, 0, 0, 0, 0])) (zha_set (l' := [M.1 4, M.1 1, M.1 2, M.1 5, M.1 6, M.1 7, Int32.ofInt 1, Int32.ofInt 0, M.1 10, Int32.ofNat (M.2.2.1 2).length, 0, 0, 0, 0, 0, 0, 0, 0])) (fun _ _ => ?_)
      refine zpE_run 4 (L' := [some (.ref 44), some (.int x1), none]) (st' := [.int (M.1 14), .int (Int32.ofInt 10), .ref (List.length (zy S0 M X)), .ref (List.length (zy S0 M X))]) rfl ?_
      refine zpE_asy (h' := zy S0 M X ++ [zar [M.1 4, M.1 1, M.1 2, M.1 5, M.1 6, M.1 7, Int32.ofInt 1, Int32.ofInt 0, M.1 10, Int32.ofNat (M.2.2.1 2).length, M.1 14, 0, 0, 0, 0, 0, 0, 0]]) rfl (zha_get (h := zy S0 M X) (l := [M.1 4, M.1 1, M.1 2, M.1 5, M.1 6, M.1 7, Int32.ofInt 1, Int32.ofInt 0, M.1 10, Int32.ofNat (M.2.2.1 2).length, 0, 0, 0, 0, 0, 0, 0, 0])) (zha_set (l' := [M.1 4, M.1 1, M.1 2, M.1 5, M.1 6, M.1 7, Int32.ofInt 1, Int32.ofInt 0, M.1 10, Int32.ofNat (M.2.2.1 2).length, M.1 14, 0, 0, 0, 0, 0, 0, 0])) (fun _ _ => ?_)
      refine zpE_run 4 (L' := [some (.ref 44), some (.int x1), none]) (st' := [.int (M.1 15), .int (Int32.ofInt 11), .ref (List.length (zy S0 M X)), .ref (List.length (zy S0 M X))]) rfl ?_
      refine zpE_asy (h' := zy S0 M X ++ [zar [M.1 4, M.1 1, M.1 2, M.1 5, M.1 6, M.1 7, Int32.ofInt 1, Int32.ofInt 0, M.1 10, Int32.ofNat (M.2.2.1 2).length, M.1 14, M.1 15, 0, 0, 0, 0, 0, 0]]) rfl (zha_get (h := zy S0 M X) (l := [M.1 4, M.1 1, M.1 2, M.1 5, M.1 6, M.1 7, Int32.ofInt 1, Int32.ofInt 0, M.1 10, Int32.ofNat (M.2.2.1 2).length, M.1 14, 0, 0, 0, 0, 0, 0, 0])) (zha_set (l' := [M.1 4, M.1 1, M.1 2, M.1 5, M.1 6, M.1 7, Int32.ofInt 1, Int32.ofInt 0, M.1 10, Int32.ofNat (M.2.2.1 2).length, M.1 14, M.1 15, 0, 0, 0, 0, 0, 0])) (fun _ _ => ?_)
      refine zpE_run 4 (L' := [some (.ref 44), some (.int x1), none]) (st' := [.ref 71, .int (Int32.ofInt 12), .ref (List.length (zy S0 M X)), .ref (List.length (zy S0 M X))]) rfl ?_
      refine zpE_call rfl rfl (show zpM xs N 149 _ (zy S0 M X ++ [zar [M.1 4, M.1 1, M.1 2, M.1 5, M.1 6, M.1 7, Int32.ofInt 1, Int32.ofInt 0, M.1 10, Int32.ofNat (M.2.2.1 2).length, M.1 14, M.1 15, 0, 0, 0, 0, 0, 0]]) _ _ _ from f_149_71 (M := M) (zUN_ap hX : zUX kq (X.1, X.2.1, X.2.2 ++ [zar [M.1 4, M.1 1, M.1 2, M.1 5, M.1 6, M.1 7, Int32.ofInt 1, Int32.ofInt 0, M.1 10, Int32.ofNat (M.2.2.1 2).length, M.1 14, M.1 15, 0, 0, 0, 0, 0, 0]]) M.2.2)) (fun v h1 nc1 ns1 q8 => ?_) (fun E h1 nc1 ns1 q8 => by cases q8.1)
      obtain ⟨q8, q9⟩ := q8
      cases q8
      cases q9
      refine zpE_gen (fun nc ns => ?_)
      show zpE xs N 171 125 _ _ (zy S0 M X ++ [zar [M.1 4, M.1 1, M.1 2, M.1 5, M.1 6, M.1 7, Int32.ofInt 1, Int32.ofInt 0, M.1 10, Int32.ofNat (M.2.2.1 2).length, M.1 14, M.1 15, 0, 0, 0, 0, 0, 0]]) _ _ _
      refine zpE_asy (h' := zy S0 M X ++ [zar [M.1 4, M.1 1, M.1 2, M.1 5, M.1 6, M.1 7, Int32.ofInt 1, Int32.ofInt 0, M.1 10, Int32.ofNat (M.2.2.1 2).length, M.1 14, M.1 15, v149_71 M, 0, 0, 0, 0, 0]]) rfl (zha_get (h := zy S0 M X) (l := [M.1 4, M.1 1, M.1 2, M.1 5, M.1 6, M.1 7, Int32.ofInt 1, Int32.ofInt 0, M.1 10, Int32.ofNat (M.2.2.1 2).length, M.1 14, M.1 15, 0, 0, 0, 0, 0, 0])) (zha_set (l' := [M.1 4, M.1 1, M.1 2, M.1 5, M.1 6, M.1 7, Int32.ofInt 1, Int32.ofInt 0, M.1 10, Int32.ofNat (M.2.2.1 2).length, M.1 14, M.1 15, v149_71 M, 0, 0, 0, 0, 0])) (fun _ _ => ?_)
      refine zpE_run 4 (L' := [some (.ref 44), some (.int x1), none]) (st' := [.ref 72, .int (Int32.ofInt 13), .ref (List.length (zy S0 M X)), .ref (List.length (zy S0 M X))]) rfl ?_
      refine zpE_call rfl rfl (show zpM xs N 149 _ (zy S0 M X ++ [zar [M.1 4, M.1 1, M.1 2, M.1 5, M.1 6, M.1 7, Int32.ofInt 1, Int32.ofInt 0, M.1 10, Int32.ofNat (M.2.2.1 2).length, M.1 14, M.1 15, v149_71 M, 0, 0, 0, 0, 0]]) _ _ _ from f_149_72 (M := M) (zUN_ap hX : zUX kq (X.1, X.2.1, X.2.2 ++ [zar [M.1 4, M.1 1, M.1 2, M.1 5, M.1 6, M.1 7, Int32.ofInt 1, Int32.ofInt 0, M.1 10, Int32.ofNat (M.2.2.1 2).length, M.1 14, M.1 15, v149_71 M, 0, 0, 0, 0, 0]]) M.2.2)) (fun v h1 nc1 ns1 q8 => ?_) (fun E h1 nc1 ns1 q8 => by cases q8.1)
      obtain ⟨q8, q9⟩ := q8
      cases q8
      cases q9
      refine zpE_gen (fun nc ns => ?_)
      show zpE xs N 171 136 _ _ (zy S0 M X ++ [zar [M.1 4, M.1 1, M.1 2, M.1 5, M.1 6, M.1 7, Int32.ofInt 1, Int32.ofInt 0, M.1 10, Int32.ofNat (M.2.2.1 2).length, M.1 14, M.1 15, v149_71 M, 0, 0, 0, 0, 0]]) _ _ _
      refine zpE_asy (h' := zy S0 M X ++ [zar [M.1 4, M.1 1, M.1 2, M.1 5, M.1 6, M.1 7, Int32.ofInt 1, Int32.ofInt 0, M.1 10, Int32.ofNat (M.2.2.1 2).length, M.1 14, M.1 15, v149_71 M, v149_72 M, 0, 0, 0, 0]]) rfl (zha_get (h := zy S0 M X) (l := [M.1 4, M.1 1, M.1 2, M.1 5, M.1 6, M.1 7, Int32.ofInt 1, Int32.ofInt 0, M.1 10, Int32.ofNat (M.2.2.1 2).length, M.1 14, M.1 15, v149_71 M, 0, 0, 0, 0, 0])) (zha_set (l' := [M.1 4, M.1 1, M.1 2, M.1 5, M.1 6, M.1 7, Int32.ofInt 1, Int32.ofInt 0, M.1 10, Int32.ofNat (M.2.2.1 2).length, M.1 14, M.1 15, v149_71 M, v149_72 M, 0, 0, 0, 0])) (fun _ _ => ?_)
      refine zpE_run 4 (L' := [some (.ref 44), some (.int x1), none]) (st' := [.ref (X.1 0), .int (Int32.ofInt 14), .ref (List.length (zy S0 M X)), .ref (List.length (zy S0 M X))]) rfl ?_
      obtain ⟨vs8, lc8⟩ := zUX_lc2 (S0 := S0) (M := M) (i := 0) (l := [M.1 4, M.1 1, M.1 2, M.1 5, M.1 6, M.1 7, Int32.ofInt 1, Int32.ofInt 0, M.1 10, Int32.ofNat (M.2.2.1 2).length, M.1 14, M.1 15, v149_71 M, v149_72 M, 0, 0, 0, 0]) (by decide) hX
      refine zpE_call rfl (show zcallV 0 10 243 149 (.ref (X.1 0) :: _) (zy S0 M X ++ [zar [M.1 4, M.1 1, M.1 2, M.1 5, M.1 6, M.1 7, Int32.ofInt 1, Int32.ofInt 0, M.1 10, Int32.ofNat (M.2.2.1 2).length, M.1 14, M.1 15, v149_71 M, v149_72 M, 0, 0, 0, 0]]) = _ from zcallV_eq rfl lc8 (Nat.le_of_ble_eq_true rfl)) (show zpM xs N 243 _ (zy S0 M X ++ [zar [M.1 4, M.1 1, M.1 2, M.1 5, M.1 6, M.1 7, Int32.ofInt 1, Int32.ofInt 0, M.1 10, Int32.ofNat (M.2.2.1 2).length, M.1 14, M.1 15, v149_71 M, v149_72 M, 0, 0, 0, 0]]) _ _ _ from zul_243 (M := M) (X := (X.1, X.2.1, X.2.2 ++ [zar [M.1 4, M.1 1, M.1 2, M.1 5, M.1 6, M.1 7, Int32.ofInt 1, Int32.ofInt 0, M.1 10, Int32.ofNat (M.2.2.1 2).length, M.1 14, M.1 15, v149_71 M, v149_72 M, 0, 0, 0, 0]])) (i := 0) (by decide) (zUN_ap hX)) (fun v h1 nc1 ns1 q8 => ?_) (fun E h1 nc1 ns1 q8 => by cases q8)
      cases q8
      refine zpE_gen (fun nc ns => ?_)
      show zpE xs N 171 149 _ _ (zy S0 M X ++ [zar [M.1 4, M.1 1, M.1 2, M.1 5, M.1 6, M.1 7, Int32.ofInt 1, Int32.ofInt 0, M.1 10, Int32.ofNat (M.2.2.1 2).length, M.1 14, M.1 15, v149_71 M, v149_72 M, 0, 0, 0, 0]]) _ _ _
      refine zpE_asy (h' := zy S0 M X ++ [zar [M.1 4, M.1 1, M.1 2, M.1 5, M.1 6, M.1 7, Int32.ofInt 1, Int32.ofInt 0, M.1 10, Int32.ofNat (M.2.2.1 2).length, M.1 14, M.1 15, v149_71 M, v149_72 M, Int32.ofNat (M.2.2.1 0).length, 0, 0, 0]]) rfl (zha_get (h := zy S0 M X) (l := [M.1 4, M.1 1, M.1 2, M.1 5, M.1 6, M.1 7, Int32.ofInt 1, Int32.ofInt 0, M.1 10, Int32.ofNat (M.2.2.1 2).length, M.1 14, M.1 15, v149_71 M, v149_72 M, 0, 0, 0, 0])) (zha_set (l' := [M.1 4, M.1 1, M.1 2, M.1 5, M.1 6, M.1 7, Int32.ofInt 1, Int32.ofInt 0, M.1 10, Int32.ofNat (M.2.2.1 2).length, M.1 14, M.1 15, v149_71 M, v149_72 M, Int32.ofNat (M.2.2.1 0).length, 0, 0, 0])) (fun _ _ => ?_)
      refine zpE_run 4 (L' := [some (.ref 44), some (.int x1), none]) (st' := [.ref (X.1 1), .int (Int32.ofInt 15), .ref (List.length (zy S0 M X)), .ref (List.length (zy S0 M X))]) rfl ?_
      obtain ⟨vs9, lc9⟩ := zUX_lc2 (S0 := S0) (M := M) (i := 1) (l := [M.1 4, M.1 1, M.1 2, M.1 5, M.1 6, M.1 7, Int32.ofInt 1, Int32.ofInt 0, M.1 10, Int32.ofNat (M.2.2.1 2).length, M.1 14, M.1 15, v149_71 M, v149_72 M, Int32.ofNat (M.2.2.1 0).length, 0, 0, 0]) (by decide) hX
      refine zpE_call rfl (show zcallV 0 10 243 162 (.ref (X.1 1) :: _) (zy S0 M X ++ [zar [M.1 4, M.1 1, M.1 2, M.1 5, M.1 6, M.1 7, Int32.ofInt 1, Int32.ofInt 0, M.1 10, Int32.ofNat (M.2.2.1 2).length, M.1 14, M.1 15, v149_71 M, v149_72 M, Int32.ofNat (M.2.2.1 0).length, 0, 0, 0]]) = _ from zcallV_eq rfl lc9 (Nat.le_of_ble_eq_true rfl)) (show zpM xs N 243 _ (zy S0 M X ++ [zar [M.1 4, M.1 1, M.1 2, M.1 5, M.1 6, M.1 7, Int32.ofInt 1, Int32.ofInt 0, M.1 10, Int32.ofNat (M.2.2.1 2).length, M.1 14, M.1 15, v149_71 M, v149_72 M, Int32.ofNat (M.2.2.1 0).length, 0, 0, 0]]) _ _ _ from zul_243 (M := M) (X := (X.1, X.2.1, X.2.2 ++ [zar [M.1 4, M.1 1, M.1 2, M.1 5, M.1 6, M.1 7, Int32.ofInt 1, Int32.ofInt 0, M.1 10, Int32.ofNat (M.2.2.1 2).length, M.1 14, M.1 15, v149_71 M, v149_72 M, Int32.ofNat (M.2.2.1 0).length, 0, 0, 0]])) (i := 1) (by decide) (zUN_ap hX)) (fun v h1 nc1 ns1 q8 => ?_) (fun E h1 nc1 ns1 q8 => by cases q8)
      cases q8
      refine zpE_gen (fun nc ns => ?_)
      show zpE xs N 171 162 _ _ (zy S0 M X ++ [zar [M.1 4, M.1 1, M.1 2, M.1 5, M.1 6, M.1 7, Int32.ofInt 1, Int32.ofInt 0, M.1 10, Int32.ofNat (M.2.2.1 2).length, M.1 14, M.1 15, v149_71 M, v149_72 M, Int32.ofNat (M.2.2.1 0).length, 0, 0, 0]]) _ _ _
      refine zpE_asy (h' := zy S0 M X ++ [zar [M.1 4, M.1 1, M.1 2, M.1 5, M.1 6, M.1 7, Int32.ofInt 1, Int32.ofInt 0, M.1 10, Int32.ofNat (M.2.2.1 2).length, M.1 14, M.1 15, v149_71 M, v149_72 M, Int32.ofNat (M.2.2.1 0).length, Int32.ofNat (M.2.2.1 1).length, 0, 0]]) rfl (zha_get (h := zy S0 M X) (l := [M.1 4, M.1 1, M.1 2, M.1 5, M.1 6, M.1 7, Int32.ofInt 1, Int32.ofInt 0, M.1 10, Int32.ofNat (M.2.2.1 2).length, M.1 14, M.1 15, v149_71 M, v149_72 M, Int32.ofNat (M.2.2.1 0).length, 0, 0, 0])) (zha_set (l' := [M.1 4, M.1 1, M.1 2, M.1 5, M.1 6, M.1 7, Int32.ofInt 1, Int32.ofInt 0, M.1 10, Int32.ofNat (M.2.2.1 2).length, M.1 14, M.1 15, v149_71 M, v149_72 M, Int32.ofNat (M.2.2.1 0).length, Int32.ofNat (M.2.2.1 1).length, 0, 0])) (fun _ _ => ?_)
      refine zpE_run 4 (L' := [some (.ref 44), some (.int x1), none]) (st' := [.int (M.1 12), .int (Int32.ofInt 16), .ref (List.length (zy S0 M X)), .ref (List.length (zy S0 M X))]) rfl ?_
      refine zpE_asy (h' := zy S0 M X ++ [zar [M.1 4, M.1 1, M.1 2, M.1 5, M.1 6, M.1 7, Int32.ofInt 1, Int32.ofInt 0, M.1 10, Int32.ofNat (M.2.2.1 2).length, M.1 14, M.1 15, v149_71 M, v149_72 M, Int32.ofNat (M.2.2.1 0).length, Int32.ofNat (M.2.2.1 1).length, M.1 12, 0]]) rfl (zha_get (h := zy S0 M X) (l := [M.1 4, M.1 1, M.1 2, M.1 5, M.1 6, M.1 7, Int32.ofInt 1, Int32.ofInt 0, M.1 10, Int32.ofNat (M.2.2.1 2).length, M.1 14, M.1 15, v149_71 M, v149_72 M, Int32.ofNat (M.2.2.1 0).length, Int32.ofNat (M.2.2.1 1).length, 0, 0])) (zha_set (l' := [M.1 4, M.1 1, M.1 2, M.1 5, M.1 6, M.1 7, Int32.ofInt 1, Int32.ofInt 0, M.1 10, Int32.ofNat (M.2.2.1 2).length, M.1 14, M.1 15, v149_71 M, v149_72 M, Int32.ofNat (M.2.2.1 0).length, Int32.ofNat (M.2.2.1 1).length, M.1 12, 0])) (fun _ _ => ?_)
      refine zpE_run 4 (L' := [some (.ref 44), some (.int x1), none]) (st' := [.int (M.1 13), .int (Int32.ofInt 17), .ref (List.length (zy S0 M X)), .ref (List.length (zy S0 M X))]) rfl ?_
      refine zpE_asy (h' := zy S0 M X ++ [zar [M.1 4, M.1 1, M.1 2, M.1 5, M.1 6, M.1 7, Int32.ofInt 1, Int32.ofInt 0, M.1 10, Int32.ofNat (M.2.2.1 2).length, M.1 14, M.1 15, v149_71 M, v149_72 M, Int32.ofNat (M.2.2.1 0).length, Int32.ofNat (M.2.2.1 1).length, M.1 12, M.1 13]]) rfl (zha_get (h := zy S0 M X) (l := [M.1 4, M.1 1, M.1 2, M.1 5, M.1 6, M.1 7, Int32.ofInt 1, Int32.ofInt 0, M.1 10, Int32.ofNat (M.2.2.1 2).length, M.1 14, M.1 15, v149_71 M, v149_72 M, Int32.ofNat (M.2.2.1 0).length, Int32.ofNat (M.2.2.1 1).length, M.1 12, 0])) (zha_set (l' := [M.1 4, M.1 1, M.1 2, M.1 5, M.1 6, M.1 7, Int32.ofInt 1, Int32.ofInt 0, M.1 10, Int32.ofNat (M.2.2.1 2).length, M.1 14, M.1 15, v149_71 M, v149_72 M, Int32.ofNat (M.2.2.1 0).length, Int32.ofNat (M.2.2.1 1).length, M.1 12, M.1 13])) (fun _ _ => ?_)
      refine zpE_run 3 (L' := [some (.ref 44), some (.int x1), some (.ref (List.length (zy S0 M X)))]) (st' := [.int x1, .ref (List.length (zy S0 M X))]) rfl ?_
      refine zpE_aly rfl (zha_get (h := zy S0 M X) (l := [M.1 4, M.1 1, M.1 2, M.1 5, M.1 6, M.1 7, Int32.ofInt 1, Int32.ofInt 0, M.1 10, Int32.ofNat (M.2.2.1 2).length, M.1 14, M.1 15, v149_71 M, v149_72 M, Int32.ofNat (M.2.2.1 0).length, Int32.ofNat (M.2.2.1 1).length, M.1 12, M.1 13])) (fun _ _ => ?_)
      refine zpE_gen (fun nc ns => ?_)
      exact zpE_end rfl rfl (zOx_v hX (by unfold v171; rw [if_neg z53_0, if_pos z69_1]))
    · have z69_1 := zF_e0 q69
      refine zpE_run 2 (L' := [some (.ref 44), some (.int x1), none]) (st' := [.int (Int32.ofInt 1), .int (Int32.ofInt 7), .ref (List.length (zy S0 M X)), .ref (List.length (zy S0 M X))]) rfl ?_
      refine zpE_asy (h' := zy S0 M X ++ [zar [M.1 4, M.1 1, M.1 2, M.1 5, M.1 6, M.1 7, Int32.ofInt 1, Int32.ofInt 1, 0, 0, 0, 0, 0, 0, 0, 0, 0, 0]]) rfl (zha_get (h := zy S0 M X) (l := [M.1 4, M.1 1, M.1 2, M.1 5, M.1 6, M.1 7, Int32.ofInt 1, 0, 0, 0, 0, 0, 0, 0, 0, 0, 0, 0])) (zha_set (l' := [M.1 4, M.1 1, M.1 2, M.1 5, M.1 6, M.1 7, Int32.ofInt 1, Int32.ofInt 1, 0, 0, 0, 0, 0, 0, 0, 0, 0, 0])) (fun _ _ => ?_)
      refine zpE_run 4 (L' := [some (.ref 44), some (.int x1), none]) (st' := [.int (M.1 10), .int (Int32.ofInt 8), .ref (List.length (zy S0 M X)), .ref (List.length (zy S0 M X))]) rfl ?_
      refine zpE_asy (h' := zy S0 M X ++ [zar [M.1 4, M.1 1, M.1 2, M.1 5, M.1 6, M.1 7, Int32.ofInt 1, Int32.ofInt 1, M.1 10, 0, 0, 0, 0, 0, 0, 0, 0, 0]]) rfl (zha_get (h := zy S0 M X) (l := [M.1 4, M.1 1, M.1 2, M.1 5, M.1 6, M.1 7, Int32.ofInt 1, Int32.ofInt 1, 0, 0, 0, 0, 0, 0, 0, 0, 0, 0])) (zha_set (l' := [M.1 4, M.1 1, M.1 2, M.1 5, M.1 6, M.1 7, Int32.ofInt 1, Int32.ofInt 1, M.1 10, 0, 0, 0, 0, 0, 0, 0, 0, 0])) (fun _ _ => ?_)
      refine zpE_run 4 (L' := [some (.ref 44), some (.int x1), none]) (st' := [.ref (X.1 2), .int (Int32.ofInt 9), .ref (List.length (zy S0 M X)), .ref (List.length (zy S0 M X))]) rfl ?_
      obtain ⟨vs10, lc10⟩ := zUX_lc2 (S0 := S0) (M := M) (i := 2) (l := [M.1 4, M.1 1, M.1 2, M.1 5, M.1 6, M.1 7, Int32.ofInt 1, Int32.ofInt 1, M.1 10, 0, 0, 0, 0, 0, 0, 0, 0, 0]) (by decide) hX
      refine zpE_call rfl (show zcallV 0 10 243 98 (.ref (X.1 2) :: _) (zy S0 M X ++ [zar [M.1 4, M.1 1, M.1 2, M.1 5, M.1 6, M.1 7, Int32.ofInt 1, Int32.ofInt 1, M.1 10, 0, 0, 0, 0, 0, 0, 0, 0, 0]]) = _ from zcallV_eq rfl lc10 (Nat.le_of_ble_eq_true rfl)) (show zpM xs N 243 _ (zy S0 M X ++ [zar [M.1 4, M.1 1, M.1 2, M.1 5, M.1 6, M.1 7, Int32.ofInt 1, Int32.ofInt 1, M.1 10, 0, 0, 0, 0, 0, 0, 0, 0, 0]]) _ _ _ from zul_243 (M := M) (X := (X.1, X.2.1, X.2.2 ++ [zar [M.1 4, M.1 1, M.1 2, M.1 5, M.1 6, M.1 7, Int32.ofInt 1, Int32.ofInt 1, M.1 10, 0, 0, 0, 0, 0, 0, 0, 0, 0]])) (i := 2) (by decide) (zUN_ap hX)) (fun v h1 nc1 ns1 q8 => ?_) (fun E h1 nc1 ns1 q8 => by cases q8)
      cases q8
      refine zpE_gen (fun nc ns => ?_)
      show zpE xs N 171 98 _ _ (zy S0 M X ++ [zar [M.1 4, M.1 1, M.1 2, M.1 5, M.1 6, M.1 7, Int32.ofInt 1, Int32.ofInt 1, M.1 10, 0, 0, 0, 0, 0, 0, 0, 0, 0]]) _ _ _
      refine zpE_asy (h' := zy S0 M X ++ [zar [M.1 4, M.1 1, M.1 2, M.1 5, M.1 6, M.1 7, Int32.ofInt 1, Int32.ofInt 1, M.1 10, Int32.ofNat (M.2.2.1 2).length, 0, 0, 0, 0, 0, 0, 0, 0]]) rfl (zha_get (h := zy S0 M X) (l := [M.1 4, M.1 1, M.1 2, M.1 5, M.1 6, M.1 7, Int32.ofInt 1, Int32.ofInt 1, M.1 10, 0, 0, 0, 0, 0, 0, 0, 0, 0])) (zha_set (l' := [M.1 4, M.1 1, M.1 2, M.1 5, M.1 6, M.1 7, Int32.ofInt 1, Int32.ofInt 1, M.1 10, Int32.ofNat (M.2.2.1 2).length, 0, 0, 0, 0, 0, 0, 0, 0])) (fun _ _ => ?_)
      refine zpE_run 4 (L' := [some (.ref 44), some (.int x1), none]) (st' := [.int (M.1 14), .int (Int32.ofInt 10), .ref (List.length (zy S0 M X)), .ref (List.length (zy S0 M X))]) rfl ?_
      refine zpE_asy (h' := zy S0 M X ++ [zar [M.1 4, M.1 1, M.1 2, M.1 5, M.1 6, M.1 7, Int32.ofInt 1, Int32.ofInt 1, M.1 10, Int32.ofNat (M.2.2.1 2).length, M.1 14, 0, 0, 0, 0, 0, 0, 0]]) rfl (zha_get (h := zy S0 M X) (l := [M.1 4, M.1 1, M.1 2, M.1 5, M.1 6, M.1 7, Int32.ofInt 1, Int32.ofInt 1, M.1 10, Int32.ofNat (M.2.2.1 2).length, 0, 0, 0, 0, 0, 0, 0, 0])) (zha_set (l' := [M.1 4, M.1 1, M.1 2, M.1 5, M.1 6, M.1 7, Int32.ofInt 1, Int32.ofInt 1, M.1 10, Int32.ofNat (M.2.2.1 2).length, M.1 14, 0, 0, 0, 0, 0, 0, 0])) (fun _ _ => ?_)
      refine zpE_run 4 (L' := [some (.ref 44), some (.int x1), none]) (st' := [.int (M.1 15), .int (Int32.ofInt 11), .ref (List.length (zy S0 M X)), .ref (List.length (zy S0 M X))]) rfl ?_
      refine zpE_asy (h' := zy S0 M X ++ [zar [M.1 4, M.1 1, M.1 2, M.1 5, M.1 6, M.1 7, Int32.ofInt 1, Int32.ofInt 1, M.1 10, Int32.ofNat (M.2.2.1 2).length, M.1 14, M.1 15, 0, 0, 0, 0, 0, 0]]) rfl (zha_get (h := zy S0 M X) (l := [M.1 4, M.1 1, M.1 2, M.1 5, M.1 6, M.1 7, Int32.ofInt 1, Int32.ofInt 1, M.1 10, Int32.ofNat (M.2.2.1 2).length, M.1 14, 0, 0, 0, 0, 0, 0, 0])) (zha_set (l' := [M.1 4, M.1 1, M.1 2, M.1 5, M.1 6, M.1 7, Int32.ofInt 1, Int32.ofInt 1, M.1 10, Int32.ofNat (M.2.2.1 2).length, M.1 14, M.1 15, 0, 0, 0, 0, 0, 0])) (fun _ _ => ?_)
      refine zpE_run 4 (L' := [some (.ref 44), some (.int x1), none]) (st' := [.ref 71, .int (Int32.ofInt 12), .ref (List.length (zy S0 M X)), .ref (List.length (zy S0 M X))]) rfl ?_
      refine zpE_call rfl rfl (show zpM xs N 149 _ (zy S0 M X ++ [zar [M.1 4, M.1 1, M.1 2, M.1 5, M.1 6, M.1 7, Int32.ofInt 1, Int32.ofInt 1, M.1 10, Int32.ofNat (M.2.2.1 2).length, M.1 14, M.1 15, 0, 0, 0, 0, 0, 0]]) _ _ _ from f_149_71 (M := M) (zUN_ap hX : zUX kq (X.1, X.2.1, X.2.2 ++ [zar [M.1 4, M.1 1, M.1 2, M.1 5, M.1 6, M.1 7, Int32.ofInt 1, Int32.ofInt 1, M.1 10, Int32.ofNat (M.2.2.1 2).length, M.1 14, M.1 15, 0, 0, 0, 0, 0, 0]]) M.2.2)) (fun v h1 nc1 ns1 q8 => ?_) (fun E h1 nc1 ns1 q8 => by cases q8.1)
      obtain ⟨q8, q9⟩ := q8
      cases q8
      cases q9
      refine zpE_gen (fun nc ns => ?_)
      show zpE xs N 171 125 _ _ (zy S0 M X ++ [zar [M.1 4, M.1 1, M.1 2, M.1 5, M.1 6, M.1 7, Int32.ofInt 1, Int32.ofInt 1, M.1 10, Int32.ofNat (M.2.2.1 2).length, M.1 14, M.1 15, 0, 0, 0, 0, 0, 0]]) _ _ _
      refine zpE_asy (h' := zy S0 M X ++ [zar [M.1 4, M.1 1, M.1 2, M.1 5, M.1 6, M.1 7, Int32.ofInt 1, Int32.ofInt 1, M.1 10, Int32.ofNat (M.2.2.1 2).length, M.1 14, M.1 15, v149_71 M, 0, 0, 0, 0, 0]]) rfl (zha_get (h := zy S0 M X) (l := [M.1 4, M.1 1, M.1 2, M.1 5, M.1 6, M.1 7, Int32.ofInt 1, Int32.ofInt 1, M.1 10, Int32.ofNat (M.2.2.1 2).length, M.1 14, M.1 15, 0, 0, 0, 0, 0, 0])) (zha_set (l' := [M.1 4, M.1 1, M.1 2, M.1 5, M.1 6, M.1 7, Int32.ofInt 1, Int32.ofInt 1, M.1 10, Int32.ofNat (M.2.2.1 2).length, M.1 14, M.1 15, v149_71 M, 0, 0, 0, 0, 0])) (fun _ _ => ?_)
      refine zpE_run 4 (L' := [some (.ref 44), some (.int x1), none]) (st' := [.ref 72, .int (Int32.ofInt 13), .ref (List.length (zy S0 M X)), .ref (List.length (zy S0 M X))]) rfl ?_
      refine zpE_call rfl rfl (show zpM xs N 149 _ (zy S0 M X ++ [zar [M.1 4, M.1 1, M.1 2, M.1 5, M.1 6, M.1 7, Int32.ofInt 1, Int32.ofInt 1, M.1 10, Int32.ofNat (M.2.2.1 2).length, M.1 14, M.1 15, v149_71 M, 0, 0, 0, 0, 0]]) _ _ _ from f_149_72 (M := M) (zUN_ap hX : zUX kq (X.1, X.2.1, X.2.2 ++ [zar [M.1 4, M.1 1, M.1 2, M.1 5, M.1 6, M.1 7, Int32.ofInt 1, Int32.ofInt 1, M.1 10, Int32.ofNat (M.2.2.1 2).length, M.1 14, M.1 15, v149_71 M, 0, 0, 0, 0, 0]]) M.2.2)) (fun v h1 nc1 ns1 q8 => ?_) (fun E h1 nc1 ns1 q8 => by cases q8.1)
      obtain ⟨q8, q9⟩ := q8
      cases q8
      cases q9
      refine zpE_gen (fun nc ns => ?_)
      show zpE xs N 171 136 _ _ (zy S0 M X ++ [zar [M.1 4, M.1 1, M.1 2, M.1 5, M.1 6, M.1 7, Int32.ofInt 1, Int32.ofInt 1, M.1 10, Int32.ofNat (M.2.2.1 2).length, M.1 14, M.1 15, v149_71 M, 0, 0, 0, 0, 0]]) _ _ _
      refine zpE_asy (h' := zy S0 M X ++ [zar [M.1 4, M.1 1, M.1 2, M.1 5, M.1 6, M.1 7, Int32.ofInt 1, Int32.ofInt 1, M.1 10, Int32.ofNat (M.2.2.1 2).length, M.1 14, M.1 15, v149_71 M, v149_72 M, 0, 0, 0, 0]]) rfl (zha_get (h := zy S0 M X) (l := [M.1 4, M.1 1, M.1 2, M.1 5, M.1 6, M.1 7, Int32.ofInt 1, Int32.ofInt 1, M.1 10, Int32.ofNat (M.2.2.1 2).length, M.1 14, M.1 15, v149_71 M, 0, 0, 0, 0, 0])) (zha_set (l' := [M.1 4, M.1 1, M.1 2, M.1 5, M.1 6, M.1 7, Int32.ofInt 1, Int32.ofInt 1, M.1 10, Int32.ofNat (M.2.2.1 2).length, M.1 14, M.1 15, v149_71 M, v149_72 M, 0, 0, 0, 0])) (fun _ _ => ?_)
      refine zpE_run 4 (L' := [some (.ref 44), some (.int x1), none]) (st' := [.ref (X.1 0), .int (Int32.ofInt 14), .ref (List.length (zy S0 M X)), .ref (List.length (zy S0 M X))]) rfl ?_
      obtain ⟨vs11, lc11⟩ := zUX_lc2 (S0 := S0) (M := M) (i := 0) (l := [M.1 4, M.1 1, M.1 2, M.1 5, M.1 6, M.1 7, Int32.ofInt 1, Int32.ofInt 1, M.1 10, Int32.ofNat (M.2.2.1 2).length, M.1 14, M.1 15, v149_71 M, v149_72 M, 0, 0, 0, 0]) (by decide) hX
      refine zpE_call rfl (show zcallV 0 10 243 149 (.ref (X.1 0) :: _) (zy S0 M X ++ [zar [M.1 4, M.1 1, M.1 2, M.1 5, M.1 6, M.1 7, Int32.ofInt 1, Int32.ofInt 1, M.1 10, Int32.ofNat (M.2.2.1 2).length, M.1 14, M.1 15, v149_71 M, v149_72 M, 0, 0, 0, 0]]) = _ from zcallV_eq rfl lc11 (Nat.le_of_ble_eq_true rfl)) (show zpM xs N 243 _ (zy S0 M X ++ [zar [M.1 4, M.1 1, M.1 2, M.1 5, M.1 6, M.1 7, Int32.ofInt 1, Int32.ofInt 1, M.1 10, Int32.ofNat (M.2.2.1 2).length, M.1 14, M.1 15, v149_71 M, v149_72 M, 0, 0, 0, 0]]) _ _ _ from zul_243 (M := M) (X := (X.1, X.2.1, X.2.2 ++ [zar [M.1 4, M.1 1, M.1 2, M.1 5, M.1 6, M.1 7, Int32.ofInt 1, Int32.ofInt 1, M.1 10, Int32.ofNat (M.2.2.1 2).length, M.1 14, M.1 15, v149_71 M, v149_72 M, 0, 0, 0, 0]])) (i := 0) (by decide) (zUN_ap hX)) (fun v h1 nc1 ns1 q8 => ?_) (fun E h1 nc1 ns1 q8 => by cases q8)
      cases q8
      refine zpE_gen (fun nc ns => ?_)
      show zpE xs N 171 149 _ _ (zy S0 M X ++ [zar [M.1 4, M.1 1, M.1 2, M.1 5, M.1 6, M.1 7, Int32.ofInt 1, Int32.ofInt 1, M.1 10, Int32.ofNat (M.2.2.1 2).length, M.1 14, M.1 15, v149_71 M, v149_72 M, 0, 0, 0, 0]]) _ _ _
      refine zpE_asy (h' := zy S0 M X ++ [zar [M.1 4, M.1 1, M.1 2, M.1 5, M.1 6, M.1 7, Int32.ofInt 1, Int32.ofInt 1, M.1 10, Int32.ofNat (M.2.2.1 2).length, M.1 14, M.1 15, v149_71 M, v149_72 M, Int32.ofNat (M.2.2.1 0).length, 0, 0, 0]]) rfl (zha_get (h := zy S0 M X) (l := [M.1 4, M.1 1, M.1 2, M.1 5, M.1 6, M.1 7, Int32.ofInt 1, Int32.ofInt 1, M.1 10, Int32.ofNat (M.2.2.1 2).length, M.1 14, M.1 15, v149_71 M, v149_72 M, 0, 0, 0, 0])) (zha_set (l' := [M.1 4, M.1 1, M.1 2, M.1 5, M.1 6, M.1 7, Int32.ofInt 1, Int32.ofInt 1, M.1 10, Int32.ofNat (M.2.2.1 2).length, M.1 14, M.1 15, v149_71 M, v149_72 M, Int32.ofNat (M.2.2.1 0).length, 0, 0, 0])) (fun _ _ => ?_)
      refine zpE_run 4 (L' := [some (.ref 44), some (.int x1), none]) (st' := [.ref (X.1 1), .int (Int32.ofInt 15), .ref (List.length (zy S0 M X)), .ref (List.length (zy S0 M X))]) rfl ?_
      obtain ⟨vs12, lc12⟩ := zUX_lc2 (S0 := S0) (M := M) (i := 1) (l := [M.1 4, M.1 1, M.1 2, M.1 5, M.1 6, M.1 7, Int32.ofInt 1, Int32.ofInt 1, M.1 10, Int32.ofNat (M.2.2.1 2).length, M.1 14, M.1 15, v149_71 M, v149_72 M, Int32.ofNat (M.2.2.1 0).length, 0, 0, 0]) (by decide) hX
      refine zpE_call rfl (show zcallV 0 10 243 162 (.ref (X.1 1) :: _) (zy S0 M X ++ [zar [M.1 4, M.1 1, M.1 2, M.1 5, M.1 6, M.1 7, Int32.ofInt 1, Int32.ofInt 1, M.1 10, Int32.ofNat (M.2.2.1 2).length, M.1 14, M.1 15, v149_71 M, v149_72 M, Int32.ofNat (M.2.2.1 0).length, 0, 0, 0]]) = _ from zcallV_eq rfl lc12 (Nat.le_of_ble_eq_true rfl)) (show zpM xs N 243 _ (zy S0 M X ++ [zar [M.1 4, M.1 1, M.1 2, M.1 5, M.1 6, M.1 7, Int32.ofInt 1, Int32.ofInt 1, M.1 10, Int32.ofNat (M.2.2.1 2).length, M.1 14, M.1 15, v149_71 M, v149_72 M, Int32.ofNat (M.2.2.1 0).length, 0, 0, 0]]) _ _ _ from zul_243 (M := M) (X := (X.1, X.2.1, X.2.2 ++ [zar [M.1 4, M.1 1, M.1 2, M.1 5, M.1 6, M.1 7, Int32.ofInt 1, Int32.ofInt 1, M.1 10, Int32.ofNat (M.2.2.1 2).length, M.1 14, M.1 15, v149_71 M, v149_72 M, Int32.ofNat (M.2.2.1 0).length, 0, 0, 0]])) (i := 1) (by decide) (zUN_ap hX)) (fun v h1 nc1 ns1 q8 => ?_) (fun E h1 nc1 ns1 q8 => by cases q8)
      cases q8
      refine zpE_gen (fun nc ns => ?_)
      show zpE xs N 171 162 _ _ (zy S0 M X ++ [zar [M.1 4, M.1 1, M.1 2, M.1 5, M.1 6, M.1 7, Int32.ofInt 1, Int32.ofInt 1, M.1 10, Int32.ofNat (M.2.2.1 2).length, M.1 14, M.1 15, v149_71 M, v149_72 M, Int32.ofNat (M.2.2.1 0).length, 0, 0, 0]]) _ _ _
      refine zpE_asy (h' := zy S0 M X ++ [zar [M.1 4, M.1 1, M.1 2, M.1 5, M.1 6, M.1 7, Int32.ofInt 1, Int32.ofInt 1, M.1 10, Int32.ofNat (M.2.2.1 2).length, M.1 14, M.1 15, v149_71 M, v149_72 M, Int32.ofNat (M.2.2.1 0).length, Int32.ofNat (M.2.2.1 1).length, 0, 0]]) rfl (zha_get (h := zy S0 M X) (l := [M.1 4, M.1 1, M.1 2, M.1 5, M.1 6, M.1 7, Int32.ofInt 1, Int32.ofInt 1, M.1 10, Int32.ofNat (M.2.2.1 2).length, M.1 14, M.1 15, v149_71 M, v149_72 M, Int32.ofNat (M.2.2.1 0).length, 0, 0, 0])) (zha_set (l' := [M.1 4, M.1 1, M.1 2, M.1 5, M.1 6, M.1 7, Int32.ofInt 1, Int32.ofInt 1, M.1 10, Int32.ofNat (M.2.2.1 2).length, M.1 14, M.1 15, v149_71 M, v149_72 M, Int32.ofNat (M.2.2.1 0).length, Int32.ofNat (M.2.2.1 1).length, 0, 0])) (fun _ _ => ?_)
      refine zpE_run 4 (L' := [some (.ref 44), some (.int x1), none]) (st' := [.int (M.1 12), .int (Int32.ofInt 16), .ref (List.length (zy S0 M X)), .ref (List.length (zy S0 M X))]) rfl ?_
      refine zpE_asy (h' := zy S0 M X ++ [zar [M.1 4, M.1 1, M.1 2, M.1 5, M.1 6, M.1 7, Int32.ofInt 1, Int32.ofInt 1, M.1 10, Int32.ofNat (M.2.2.1 2).length, M.1 14, M.1 15, v149_71 M, v149_72 M, Int32.ofNat (M.2.2.1 0).length, Int32.ofNat (M.2.2.1 1).length, M.1 12, 0]]) rfl (zha_get (h := zy S0 M X) (l := [M.1 4, M.1 1, M.1 2, M.1 5, M.1 6, M.1 7, Int32.ofInt 1, Int32.ofInt 1, M.1 10, Int32.ofNat (M.2.2.1 2).length, M.1 14, M.1 15, v149_71 M, v149_72 M, Int32.ofNat (M.2.2.1 0).length, Int32.ofNat (M.2.2.1 1).length, 0, 0])) (zha_set (l' := [M.1 4, M.1 1, M.1 2, M.1 5, M.1 6, M.1 7, Int32.ofInt 1, Int32.ofInt 1, M.1 10, Int32.ofNat (M.2.2.1 2).length, M.1 14, M.1 15, v149_71 M, v149_72 M, Int32.ofNat (M.2.2.1 0).length, Int32.ofNat (M.2.2.1 1).length, M.1 12, 0])) (fun _ _ => ?_)
      refine zpE_run 4 (L' := [some (.ref 44), some (.int x1), none]) (st' := [.int (M.1 13), .int (Int32.ofInt 17), .ref (List.length (zy S0 M X)), .ref (List.length (zy S0 M X))]) rfl ?_
      refine zpE_asy (h' := zy S0 M X ++ [zar [M.1 4, M.1 1, M.1 2, M.1 5, M.1 6, M.1 7, Int32.ofInt 1, Int32.ofInt 1, M.1 10, Int32.ofNat (M.2.2.1 2).length, M.1 14, M.1 15, v149_71 M, v149_72 M, Int32.ofNat (M.2.2.1 0).length, Int32.ofNat (M.2.2.1 1).length, M.1 12, M.1 13]]) rfl (zha_get (h := zy S0 M X) (l := [M.1 4, M.1 1, M.1 2, M.1 5, M.1 6, M.1 7, Int32.ofInt 1, Int32.ofInt 1, M.1 10, Int32.ofNat (M.2.2.1 2).length, M.1 14, M.1 15, v149_71 M, v149_72 M, Int32.ofNat (M.2.2.1 0).length, Int32.ofNat (M.2.2.1 1).length, M.1 12, 0])) (zha_set (l' := [M.1 4, M.1 1, M.1 2, M.1 5, M.1 6, M.1 7, Int32.ofInt 1, Int32.ofInt 1, M.1 10, Int32.ofNat (M.2.2.1 2).length, M.1 14, M.1 15, v149_71 M, v149_72 M, Int32.ofNat (M.2.2.1 0).length, Int32.ofNat (M.2.2.1 1).length, M.1 12, M.1 13])) (fun _ _ => ?_)
      refine zpE_run 3 (L' := [some (.ref 44), some (.int x1), some (.ref (List.length (zy S0 M X)))]) (st' := [.int x1, .ref (List.length (zy S0 M X))]) rfl ?_
      refine zpE_aly rfl (zha_get (h := zy S0 M X) (l := [M.1 4, M.1 1, M.1 2, M.1 5, M.1 6, M.1 7, Int32.ofInt 1, Int32.ofInt 1, M.1 10, Int32.ofNat (M.2.2.1 2).length, M.1 14, M.1 15, v149_71 M, v149_72 M, Int32.ofNat (M.2.2.1 0).length, Int32.ofNat (M.2.2.1 1).length, M.1 12, M.1 13])) (fun _ _ => ?_)
      refine zpE_gen (fun nc ns => ?_)
      exact zpE_end rfl rfl (zOx_v hX (by unfold v171; rw [if_neg z53_0, if_neg z69_1]))
def v172 (x1 : Int32) (M : zRt) : Int32 := if (v112 x1 (Int32.ofInt 0) (Int32.ofInt 17) (zmS M 0 (Int32.ofInt 0))) = ((0 : Int32)) then ((v111 (Int32.ofInt 1) (zmS M 0 (Int32.ofInt 0)))) else ((v171 x1 (zmS M 0 (Int32.ofInt 0))))
def r172 (x1 : Int32) (M : zRt) : zRt := if (v112 x1 (Int32.ofInt 0) (Int32.ofInt 17) (zmS M 0 (Int32.ofInt 0))) = ((0 : Int32)) then ((r111 (Int32.ofInt 1) (zmS M 0 (Int32.ofInt 0)))) else (zmS M 0 (Int32.ofInt 0))
theorem f_172 {x1 : Int32} (hX : zUX kq X M.2.2) : zpM xs N 172 [.ref 44, .int x1] (zy S0 M X) nc ns (fun o => ∃ X', zUX kq X' (r172 x1 M).2.2 ∧ zOq (.inl (some (.int (v172 x1 M)))) (zy S0 (r172 x1 M) X') o) := by
  intro L0 e
  cases e
  refine zpE_run 6 (L' := [some (.ref 44), some (.int x1)]) (st' := [.int (Int32.ofInt 17), .int (Int32.ofInt 0), .int x1]) (h' := zy S0 (zmS M 0 (Int32.ofInt 0)) X) rfl ?_
  refine zpE_call rfl rfl (f_112 (M := zmS M 0 (Int32.ofInt 0)) (x1 := x1) (x2 := Int32.ofInt 0) (x3 := Int32.ofInt 17) hX) (fun v h1 nc1 ns1 q8 => ?_) (fun E h1 nc1 ns1 q8 => by cases q8.1)
  obtain ⟨q8, q9⟩ := q8
  cases q8
  cases q9
  refine zpE_if rfl (fun q12 => ?_) (fun q12 => ?_)
  · have z12_0 := zF_n1 q12
    refine zpE_run 2 (L' := [some (.ref 44), some (.int x1)]) (st' := [.int x1, .ref 44]) rfl ?_
    refine zpE_call rfl rfl (f_171 (M := zmS M 0 (Int32.ofInt 0)) (x1 := x1) hX) (fun v h1 nc1 ns1 q8 => ?_) (fun E h1 nc1 ns1 q8 => by obtain ⟨_, _, q8, _⟩ := q8; cases q8)
    obtain ⟨X1, hX1, q8, q9⟩ := q8
    cases q8
    cases q9
    exact zpE_end rfl rfl (zOx_w (M' := zmS M 0 (Int32.ofInt 0)) hX1 (by unfold v172; rw [if_neg z12_0]) (by unfold r172; rw [if_neg z12_0]))
  · have z12_0 := zF_n0 q12
    refine zpE_run 2 (L' := [some (.ref 44), some (.int x1)]) (st' := [.int (Int32.ofInt 1), .ref 44]) rfl ?_
    refine zpE_call rfl rfl (f_111 (M := zmS M 0 (Int32.ofInt 0)) (x1 := Int32.ofInt 1) hX) (fun v h1 nc1 ns1 q8 => ?_) (fun E h1 nc1 ns1 q8 => by cases q8.1)
    obtain ⟨q8, q9⟩ := q8
    cases q8
    cases q9
    obtain ⟨Z1, hZ1⟩ : ∃ Z, Z = r111 (Int32.ofInt 1) (zmS M 0 (Int32.ofInt 0)) := ⟨_, rfl⟩
    rw [← hZ1]
    have hY2 : zUX kq X Z1.2.2 := by
      rw [hZ1, rl_111]
      exact hX
    exact zpE_end rfl rfl (zOx_w (M' := Z1) hY2 (by unfold v172; (try rw [← hZ1]); rw [if_pos z12_0]) (by unfold r172; (try rw [← hZ1]); rw [if_pos z12_0]))
theorem gr_172 {x1 : Int32} : zfrM [0] [] [] (r172 x1 M) M := by
  unfold r172
  exact (gm_ite (gm_c gr_111 (gm_c gm_S gm_rf (by decide) (by decide) (by decide)) (by decide) (by decide) (by decide)) (gm_c gm_S gm_rf (by decide) (by decide) (by decide)))
theorem rl_172 {x1 : Int32} : (r172 x1 M).2.2 = M.2.2 := gm_l gr_172
end ZRE
