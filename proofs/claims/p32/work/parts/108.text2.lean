/-! Texts: new StringBuilder(), toString(). -/
section ZTX
variable {xs : List Int32} {D nc ns y pc nx k yy m c : Nat} {h H U : zH} {L : zL} {r : List Value} {P : zO → Prop}
theorem zqj {j : Nat} : (H ++ U)[H.length + j]? = U[j]? := by
  rw [List.getElem?_append_right (by omega), Nat.add_sub_cancel_left]
theorem zsj {j : Nat} {w : Nat × List Value} : (H ++ U).set (H.length + j) w = H ++ U.set j w := by
  rw [List.set_append_right _ _ (by omega), Nat.add_sub_cancel_left]
theorem zsj0 {w : Nat × List Value} : (H ++ U).set H.length w = H ++ U.set 0 w := zsj (j := 0)
theorem zlen1 {x : Nat × List Value} : List.length (H ++ [x]) = List.length H + 1 := by simp
theorem zEs_newa {t : ArrayType} {n : Int32} (h1 : zat (zmc y) pc = some (.newarray t, nx, k, yy, m, c)) (hn : ¬ n < 0) (hN : n.toNatClampNeg ≤ 100000) (ht : ¬ ztag t = 99) (g : zEs xs D y nx L (.ref h.length :: r) (h ++ [(ztag t, List.replicate n.toNatClampNeg (.int 0))]) (nc + 1) (ns + n.toNatClampNeg) P) : zEs xs D y pc L (.int n :: r) h nc ns P := by
  refine zEs_step (dc := 1) (ds := n.toNatClampNeg) h1 ?_ g
  show znewa (ztag t) (.int 0) nx L (.int n :: r) h = _
  unfold znewa
  dsimp only
  rw [if_neg hn, if_pos hN, if_neg ht]
theorem zEs_copyb {a d : Nat} {vs ws : List Value} {n : Int32} {j yy c m : Nat} (h1 : zat (zmc y) pc = some (.invokestatic j, nx, 10, yy, m, c)) (ha : h[a]? = some (102, vs)) (hd : h[d]? = some (102, ws)) (hb : (vs.take n.toNatClampNeg).all zbyt = true) (hr : zcs r ≤ 8) (hn : ¬ n < 0) (hv : n.toNatClampNeg ≤ vs.length) (hw : n.toNatClampNeg ≤ ws.length) (g : zEs xs D y nx L r (h.set d (102, vs.take n.toNatClampNeg ++ ws.drop n.toNatClampNeg)) nc ns P) : zEs xs D y pc L (.int n :: .int 0 :: .ref d :: .int 0 :: .ref a :: r) h nc ns P := by
  refine zEs_step (dc := 0) (ds := 0) h1 ?_ g
  show zcopy nx L (.int n :: .int 0 :: .ref d :: .int 0 :: .ref a :: r) h = _
  unfold zcopy
  dsimp only
  rw [ha, hd]
  exact if_pos ⟨rfl, Or.inl ⟨rfl, hb⟩, hr, hn, rfl, rfl, hv, hw⟩
set_option maxRecDepth 10000
end ZTX
