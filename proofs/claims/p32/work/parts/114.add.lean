/-! add: the list takes one element more; a data row that is full grows. -/
section ZLA
variable {xs : List Int32} {D nc ns y pc nx k yy m c r : Nat} {h : zH} {L : zL} {rs : List Value} {P : zO → Prop} {dq : Option Nat} {es : List Nat} {j : Int32}
theorem zEs_aast {j : Int32} {a x : Nat} {vs v2 : List Value} (h1 : zat (zmc y) pc = some (.aastore, nx, k, yy, m, c)) (ha : h[a]? = some (103, vs)) (hx : h[x]? = some (100, v2)) (hj : ¬ j < 0) (hl : j.toNatClampNeg < vs.length) (g : zEs xs D y nx L rs (h.set a (103, vs.set j.toNatClampNeg (.ref x))) nc ns P) : zEs xs D y pc L (.ref x :: .int j :: .ref a :: rs) h nc ns P := by
  refine zEs_step (dc := 0) (ds := 0) h1 ?_ g
  show zaast nx L (.ref x :: .int j :: .ref a :: rs) h = _
  unfold zaast
  dsimp only
  rw [ha, hx]
  dsimp only
  rw [if_pos ⟨rfl, rfl⟩, if_neg hj, if_pos hl]
  rfl
theorem zEs_anewa {i : Nat} {n : Int32} (h1 : zat (zmc y) pc = some (.anewarray i, nx, k, yy, m, c)) (hn : ¬ n < 0) (hN : n.toNatClampNeg ≤ 100000) (g : zEs xs D y nx L (.ref h.length :: rs) (h ++ [(103, List.replicate n.toNatClampNeg .null)]) (nc + 1) (ns + n.toNatClampNeg) P) : zEs xs D y pc L (.int n :: rs) h nc ns P := by
  refine zEs_step (dc := 1) (ds := n.toNatClampNeg) h1 ?_ g
  show znewa 103 .null nx L (.int n :: rs) h = _
  unfold znewa
  dsimp only
  rw [if_neg hn, if_pos hN, if_neg (by decide)]
theorem zEs_copyq {a d : Nat} {vs ws : List Value} {n : Int32} {j yy c m : Nat} (h1 : zat (zmc y) pc = some (.invokestatic j, nx, 10, yy, m, c)) (ha : h[a]? = some (103, vs)) (hd : h[d]? = some (103, ws)) (hb : (vs.take n.toNatClampNeg).all (zelt h) = true) (hr : zcs rs ≤ 8) (hn : ¬ n < 0) (hv : n.toNatClampNeg ≤ vs.length) (hw : n.toNatClampNeg ≤ ws.length) (g : zEs xs D y nx L rs (h.set d (103, vs.take n.toNatClampNeg ++ ws.drop n.toNatClampNeg)) nc ns P) : zEs xs D y pc L (.int n :: .int 0 :: .ref d :: .int 0 :: .ref a :: rs) h nc ns P := by
  refine zEs_step (dc := 0) (ds := 0) h1 ?_ g
  show zcopy nx L (.int n :: .int 0 :: .ref d :: .int 0 :: .ref a :: rs) h = _
  unfold zcopy
  dsimp only
  rw [ha, hd]
  exact if_pos ⟨rfl, Or.inr ⟨rfl, hb⟩, hr, hn, rfl, rfl, hv, hw⟩
end ZLA
