set_option maxRecDepth 20000
section ZRE
variable {S0 : zSt} {M : zRt} {X : zXt} {kq : Nat × Nat × List Value} {xs : List Int32} {N : Nat} {nc ns : Nat}
def d156 (x1 : Int32) (M : zRt) (k : Nat) (u : Int32) : Int32 := if (zwg 31 (Int32.ofInt 0) ((Int32.ofNat k))) = x1 then (if (zkd M.2.2.2 ((Int32.ofNat k))) = (Int32.ofInt 1) then (u + (Int32.ofInt 1)) else (u + (Int32.ofInt 0))) else (u + (Int32.ofInt 0))
def w156 (x1 : Int32) (M : zRt) (u0 : Int32) : Nat → Int32
  | 0 => u0
  | k + 1 => d156 x1 M k (w156 x1 M u0 k)
def y156 (x1 : Int32) (M : zRt) (u : Int32) : Int32 := u
def v156 (x1 : Int32) (M : zRt) : Int32 := y156 x1 M (w156 x1 M (Int32.ofInt 0) (Int32.ofInt 1 <<< ((M.1 1 + M.1 2) &&& 31)).toInt.toNat)
def v157 (x1 : Int32) (M : zRt) : Int32 := if (v112 x1 (Int32.ofInt 2) (Int32.ofInt 3) (zmS M 0 (Int32.ofInt 0))) = ((0 : Int32)) then ((v111 (Int32.ofInt 1) (zmS M 0 (Int32.ofInt 0)))) else ((v156 x1 (zmS M 0 (Int32.ofInt 0))))
def r157 (x1 : Int32) (M : zRt) : zRt := if (v112 x1 (Int32.ofInt 2) (Int32.ofInt 3) (zmS M 0 (Int32.ofInt 0))) = ((0 : Int32)) then ((r111 (Int32.ofInt 1) (zmS M 0 (Int32.ofInt 0)))) else (zmS M 0 (Int32.ofInt 0))
end ZRE
