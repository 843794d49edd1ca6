set_option maxRecDepth 20000
section ZRE
variable {S0 : zSt} {M : zRt} {X : zXt} {kq : Nat × Nat × List Value} {xs : List Int32} {N : Nat} {nc ns : Nat}
def q173 (x1 : Int32) (M : zRt) : Nat → Nat → Int32 → UInt64
  | 0, k, wa => (FP.ddiv (FP.i2d wa) (UInt64.ofNat 4634204016564240384))
  | m + 1, k, wa => if (zkd M.2.2.2 (v125 ((Int32.ofNat k)) M)) = ((0 : Int32)) then (if (zgt (M.2.1 24) ((Int32.ofNat k))) = ((0 : Int32)) then (q173 x1 M m (k + 1) (wa + (Int32.ofInt 1))) else (q173 x1 M m (k + 1) (wa + (Int32.ofInt 0)))) else (q173 x1 M m (k + 1) (wa + (Int32.ofInt 0)))
def v173 (x1 : Int32) (M : zRt) : UInt64 := q173 x1 M 64 (Int32.ofInt 64 * x1).toInt.toNat (Int32.ofInt 0)
def v174 (x1 : Int32) (M : zRt) : UInt64 := if (v112 x1 (Int32.ofInt 0) (Int32.ofInt 1) (zmS M 0 (Int32.ofInt 0))) = ((0 : Int32)) then ((FP.i2d (v111 (Int32.ofInt 1) (zmS M 0 (Int32.ofInt 0))))) else ((v173 x1 (zmS M 0 (Int32.ofInt 0))))
def r174 (x1 : Int32) (M : zRt) : zRt := if (v112 x1 (Int32.ofInt 0) (Int32.ofInt 1) (zmS M 0 (Int32.ofInt 0))) = ((0 : Int32)) then ((r111 (Int32.ofInt 1) (zmS M 0 (Int32.ofInt 0)))) else (zmS M 0 (Int32.ofInt 0))
end ZRE
