section ZPO
variable {xs : List Int32} {N y pc nx k yy m9 c : Nat} {L : zL} {h : zH} {nc ns : Nat} {P : zO → Prop}
theorem zpE_newi {m : Nat} {r : List Value} (hm : m ≤ 100) (h1 : zat (zmc y) pc = some (.newarray .int, nx, k, yy, m9, c)) (g : zpE xs N y nx L (.ref h.length :: r) (h ++ [zar (List.replicate m 0)]) (nc + 1) (ns + m) P) : zpE xs N y pc L (.int (Int32.ofNat m) :: r) h nc ns P := by
  refine zpE_step (dc := 1) (ds := m) h1 ?_ g
  show znewa 100 (.int 0) nx L (.int (Int32.ofNat m) :: r) h = _
  unfold znewa
  dsimp only
  rw [if_neg (fun z9 => by
    have z9 := zlt_z z9
    rw [zofI (by omega), zero_z] at z9
    omega), zcl_of (by omega), if_pos (by omega), if_neg (by decide)]
  unfold zar
  rw [List.map_replicate]
end ZPO
