/-! Texts: a StringBuilder at the end of the heap, appended to at most 15 times, and its String. -/
section ZTX
variable {xs : List Int32} {D nc ns y pc nx k yy m c : Nat} {h H : zH} {L : zL} {r : List Value} {P : zO → Prop}
theorem zEs_put {a kd t : Nat} {vs : List Value} {v : Value} {j : Nat} (h1 : zat (zmc y) pc = some (.putfield j, nx, k, yy, m, c)) (ha : h[a]? = some (t, vs)) (hf : (zcf t)[k]? = some (yy, kd)) (hv : zfdk kd v = true) (hk : k < vs.length) (g : zEs xs D y nx L r (h.set a (t, vs.set k v)) nc ns P) : zEs xs D y pc L (v :: .ref a :: r) h nc ns P := by
  refine zEs_step (dc := 0) (ds := 0) h1 ?_ g
  show zput zcf yy k nx L (v :: .ref a :: r) h = _
  unfold zput
  dsimp only
  rw [ha]
  dsimp only
  rw [hf]
  dsimp only
  rw [if_pos rfl, if_pos hv, if_pos hk]
  rfl
theorem zEs_bast {j v : Int32} {a : Nat} {bs : List Value} (h1 : zat (zmc y) pc = some (.bastore, nx, 102, yy, m, c)) (ha : h[a]? = some (102, bs)) (hj : ¬ j < 0) (hl : j.toNatClampNeg < bs.length) (g : zEs xs D y nx L r (h.set a (102, bs.set j.toNatClampNeg (.int v.toInt8.toInt32))) nc ns P) : zEs xs D y pc L (.int v :: .int j :: .ref a :: r) h nc ns P := by
  refine zEs_step (dc := 0) (ds := 0) h1 ?_ g
  show zast 102 (fun x => some x.toInt8.toInt32) nx L (.int v :: .int j :: .ref a :: r) h = _
  unfold zast
  dsimp only
  rw [ha]
  dsimp only
  rw [if_pos rfl, if_neg hj, if_pos hl]
  rfl
/-- a call on an object: the receiver's cell by a fact -/
theorem zcallV_eq {n c y nx a : Nat} {as' : List Value} {r st : List Value} {vs : List Value} {h : zH} (hp : ztk (n + 1) [] st = some (.ref a :: as', r)) (ha : h[a]? = some (c, vs)) (hc : zcs r ≤ 8) : zcallV n c y nx st h = some (.inr (.inl (y, .ref a :: as', r, nx))) := by
  unfold zcallV
  rw [hp]
  dsimp only
  rw [ha]
  dsimp only
  rw [if_pos rfl, if_pos hc]
theorem zq0 {x z : Nat × List Value} : (H ++ [x, z])[H.length]? = some x := by
  rw [List.getElem?_append_right (Nat.le_refl _), Nat.sub_self]
  rfl
theorem zq1 {x z : Nat × List Value} : (H ++ [x, z])[H.length + 1]? = some z := by
  rw [List.getElem?_append_right (by omega), Nat.add_sub_cancel_left]
  rfl
theorem zs0 {x z w : Nat × List Value} : (H ++ [x, z]).set H.length w = H ++ [w, z] := by
  rw [List.set_append_right _ _ (Nat.le_refl _), Nat.sub_self]
  rfl
theorem zs1 {x z w : Nat × List Value} : (H ++ [x, z]).set (H.length + 1) w = H ++ [x, w] := by
  rw [List.set_append_right _ _ (by omega), Nat.add_sub_cancel_left]
  rfl
/-- the builder with c characters -/
def zsb (H : zH) (c : Nat) (ml : Value) (bs : List Value) : zH := H ++ [(8, [.ref (H.length + 1), .int 0, ml, .int (Int32.ofNat c)]), (102, bs)]
variable {ml : Value} {bs : List Value} {n : Nat}
theorem zsb0 : (zsb H n ml bs)[H.length]? = some (8, [.ref (H.length + 1), .int 0, ml, .int (Int32.ofNat n)]) := zq0
theorem zsb1 : (zsb H n ml bs)[H.length + 1]? = some (102, bs) := zq1
set_option maxRecDepth 10000
theorem zcap : (List.range 16).all (fun n => decide (Int32.ofNat n + Int32.ofInt 1 - (Int32.ofNat 16 >>> ((0 : Int32) &&& 31)) ≤ 0)) = true := by decide +kernel
theorem znat16 (hn : n < 16) : ¬ Int32.ofNat n < 0 ∧ (Int32.ofNat n).toNatClampNeg = n := by
  have e : (Int32.ofNat n).toInt = (n : Int) := Int32.toInt_ofNat_of_lt (by omega)
  constructor
  · intro g
    have g := zlt_z g
    rw [e, zero_z] at g
    omega
  · show (Int32.ofNat n).toInt.toNat = n
    rw [e]
    rfl
end ZTX
