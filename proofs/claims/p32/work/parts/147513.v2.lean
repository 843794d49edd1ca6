section ZPR
variable {xs : List Int32} {N : Nat} {s : Nat → Int32} {a : Nat → List Int32} {T : zH} {nc ns : Nat} {P : zO → Prop}
abbrev zwc (s : Nat → Int32) : Int32 := Int32.ofInt 1 <<< (s 2 &&& 31)
theorem zpE_tabd {y pc nx k yy m c : Nat} {d lo hi : Int} {offs : Array Int} {L : zL} {h : zH} {x : Int32} {r : List Value} {t : Nat} (h1 : zat (zmc y) pc = some (.tableswitch d lo hi offs, nx, k, yy, m, c)) (hx : x.toInt < lo ∨ hi < x.toInt) (ht : (pc : Int) + d = .ofNat t) (g : zpE xs N y t L r h nc ns P) : zpE xs N y pc L (.int x :: r) h nc ns P := by
  refine zpE_step (dc := 0) (ds := 0) h1 ?_ g
  show ztab pc d lo hi offs L (.int x :: r) h = _
  unfold ztab
  dsimp only
  rw [if_pos hx]
  unfold zoff
  rw [ht]
  rfl
end ZPR
