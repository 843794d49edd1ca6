/-! The reference's columns, made by a method without an object. -/
section ZHJ
variable {xs : List Int32} {h : zH} {D nc ns y pc nx k yy m c : Nat} {L : zL} {r st : List Value} {P : zO → Prop}
theorem zEs_newi {n : Int32} (h1 : zat (zmc y) pc = some (.newarray .int, nx, k, yy, m, c)) (hn : 0 ≤ n.toInt) (hN : n.toInt ≤ 1000) (g : zEs xs D y nx L (.ref h.length :: r) (h ++ [zar (List.replicate n.toInt.toNat 0)]) (nc + 1) (ns + n.toInt.toNat) P) : zEs xs D y pc L (.int n :: r) h nc ns P := by
  refine zEs_step (dc := 1) (ds := n.toInt.toNat) h1 ?_ g
  show znewa 100 (.int 0) nx L (.int n :: r) h = _
  unfold znewa
  dsimp only
  rw [if_neg (fun z => by
    have z := zlt_z z
    rw [zero_z] at z
    omega), if_pos (show n.toNatClampNeg ≤ 100000 from (show n.toInt.toNat ≤ 100000 by omega)), if_neg (by decide), show n.toNatClampNeg = n.toInt.toNat from rfl]
  unfold zar
  rw [List.map_replicate]
variable {K R : Int32} {N : Nat}
end ZHJ
