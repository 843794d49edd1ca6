set_option maxRecDepth 20000
section ZRE
variable {S0 : zSt} {M : zRt} {X : zXt} {kq : Nat × Nat × List Value} {xs : List Int32} {N : Nat} {nc ns : Nat}
def d158_0 (x2 : Int32) (x3 : Int32) (M : zRt) (k : Nat) (u : Int32) : Int32 := if (zgt ((M.2.2.1 0).getD (Int32.toNatClampNeg ((Int32.ofNat k))) []) (Int32.ofInt 0)) = x2 then (if x3 = (Int32.ofInt (-1)) then (u + (Int32.ofInt 1)) else (if (zgt ((M.2.2.1 0).getD (Int32.toNatClampNeg ((Int32.ofNat k))) []) (Int32.ofInt 1)) = x3 then (u + (Int32.ofInt 1)) else (u + (Int32.ofInt 0)))) else (u + (Int32.ofInt 0))
def w158_0 (x2 : Int32) (x3 : Int32) (M : zRt) (u0 : Int32) : Nat → Int32
  | 0 => u0
  | k + 1 => d158_0 x2 x3 M k (w158_0 x2 x3 M u0 k)
def y158_0 (x2 : Int32) (x3 : Int32) (M : zRt) (u : Int32) : Int32 := u
def v158_0 (x2 : Int32) (x3 : Int32) (M : zRt) : Int32 := y158_0 x2 x3 M (w158_0 x2 x3 M (Int32.ofInt 0) (Int32.ofNat (M.2.2.1 0).length).toInt.toNat)
def d158_1 (x2 : Int32) (x3 : Int32) (M : zRt) (k : Nat) (u : Int32) : Int32 := if (zgt ((M.2.2.1 1).getD (Int32.toNatClampNeg ((Int32.ofNat k))) []) (Int32.ofInt 0)) = x2 then (if x3 = (Int32.ofInt (-1)) then (u + (Int32.ofInt 1)) else (if (zgt ((M.2.2.1 1).getD (Int32.toNatClampNeg ((Int32.ofNat k))) []) (Int32.ofInt 1)) = x3 then (u + (Int32.ofInt 1)) else (u + (Int32.ofInt 0)))) else (u + (Int32.ofInt 0))
def w158_1 (x2 : Int32) (x3 : Int32) (M : zRt) (u0 : Int32) : Nat → Int32
  | 0 => u0
  | k + 1 => d158_1 x2 x3 M k (w158_1 x2 x3 M u0 k)
def y158_1 (x2 : Int32) (x3 : Int32) (M : zRt) (u : Int32) : Int32 := u
def v158_1 (x2 : Int32) (x3 : Int32) (M : zRt) : Int32 := y158_1 x2 x3 M (w158_1 x2 x3 M (Int32.ofInt 0) (Int32.ofNat (M.2.2.1 1).length).toInt.toNat)
def v159 (x1 : Int32) (x2 : Int32) (M : zRt) : Int32 := if x2 = Int32.ofInt 0 then ((v125 x1 M)) else (if x2 = Int32.ofInt 1 then ((zkd M.2.2.2 (v125 x1 M))) else (if x2 = Int32.ofInt 2 then (if (zgt (M.2.1 24) x1) = ((0 : Int32)) then ((Int32.ofInt 0)) else ((Int32.ofInt 1))) else (if x2 = Int32.ofInt 3 then (if (zgt (M.2.1 25) x1) = ((0 : Int32)) then ((Int32.ofInt 0)) else ((Int32.ofInt 1))) else (if x2 = Int32.ofInt 4 then ((zrmd (v124 x1 M) (Int32.ofInt 10))) else (if x2 = Int32.ofInt 5 then ((v158_0 (v124 x1 M) (zrmd x1 (Int32.ofInt 8)) M)) else ((v158_1 (v124 x1 M) (zrmd x1 (Int32.ofInt 8)) M)))))))
def v160 (x1 : Int32) (x2 : Int32) (M : zRt) : Int32 := if (v138 x1 (zmS M 0 (Int32.ofInt 0))) = ((0 : Int32)) then ((v111 (Int32.ofInt 1) (zmS M 0 (Int32.ofInt 0)))) else (if (v112 x2 (Int32.ofInt 0) (Int32.ofInt 6) (zmS M 0 (Int32.ofInt 0))) = ((0 : Int32)) then ((v111 (Int32.ofInt 2) (zmS M 0 (Int32.ofInt 0)))) else ((v159 x1 x2 (zmS M 0 (Int32.ofInt 0)))))
def r160 (x1 : Int32) (x2 : Int32) (M : zRt) : zRt := if (v138 x1 (zmS M 0 (Int32.ofInt 0))) = ((0 : Int32)) then ((r111 (Int32.ofInt 1) (zmS M 0 (Int32.ofInt 0)))) else (if (v112 x2 (Int32.ofInt 0) (Int32.ofInt 6) (zmS M 0 (Int32.ofInt 0))) = ((0 : Int32)) then ((r111 (Int32.ofInt 2) (zmS M 0 (Int32.ofInt 0)))) else (zmS M 0 (Int32.ofInt 0)))
def v176 (x1 : Int32) (M : zRt) : Int32 := if (zgt (M.2.1 24) x1) = ((0 : Int32)) then (if (zkd M.2.2.2 (v125 x1 M)) = (Int32.ofInt 2) then ((Int32.ofInt (-1))) else ((zdo M.2.2.2 (M.1 1) (v125 x1 M)))) else ((Int32.ofInt (-1)))
def v177 (x1 : Int32) (M : zRt) : Int32 := if (zgt (M.2.1 25) x1) = ((0 : Int32)) then (if (v176 x1 M) = (Int32.ofInt (-1)) then (if (M.1 9) = ((0 : Int32)) then ((v176 x1 M)) else (if (zgt (M.2.1 25) (v131 x1 M)) = ((0 : Int32)) then ((v176 (v131 x1 M) M)) else ((v176 x1 M)))) else ((v176 x1 M))) else ((Int32.ofInt (-2)))
def v178 (x1 : Int32) (M : zRt) : Int32 := if (v138 x1 (zmS M 0 (Int32.ofInt 0))) = ((0 : Int32)) then ((v111 (Int32.ofInt 1) (zmS M 0 (Int32.ofInt 0)))) else ((v177 x1 (zmS M 0 (Int32.ofInt 0))))
def r178 (x1 : Int32) (M : zRt) : zRt := if (v138 x1 (zmS M 0 (Int32.ofInt 0))) = ((0 : Int32)) then ((r111 (Int32.ofInt 1) (zmS M 0 (Int32.ofInt 0)))) else (zmS M 0 (Int32.ofInt 0))
def v165 (x1 : Int32) (x2 : Int32) (M : zRt) : Int32 := if (v112 x1 (Int32.ofInt 0) ((Int32.ofNat ((zmS M 0 (Int32.ofInt 0)).2.2.1 2).length) - (Int32.ofInt 1)) (zmS M 0 (Int32.ofInt 0))) = ((0 : Int32)) then ((v111 (Int32.ofInt 1) (zmS M 0 (Int32.ofInt 0)))) else (if (v112 x2 (Int32.ofInt 0) (Int32.ofInt 2) (zmS M 0 (Int32.ofInt 0))) = ((0 : Int32)) then ((v111 (Int32.ofInt 2) (zmS M 0 (Int32.ofInt 0)))) else ((zgt (((zmS M 0 (Int32.ofInt 0)).2.2.1 2).getD (Int32.toNatClampNeg x1) []) x2)))
def r165 (x1 : Int32) (x2 : Int32) (M : zRt) : zRt := if (v112 x1 (Int32.ofInt 0) ((Int32.ofNat ((zmS M 0 (Int32.ofInt 0)).2.2.1 2).length) - (Int32.ofInt 1)) (zmS M 0 (Int32.ofInt 0))) = ((0 : Int32)) then ((r111 (Int32.ofInt 1) (zmS M 0 (Int32.ofInt 0)))) else (if (v112 x2 (Int32.ofInt 0) (Int32.ofInt 2) (zmS M 0 (Int32.ofInt 0))) = ((0 : Int32)) then ((r111 (Int32.ofInt 2) (zmS M 0 (Int32.ofInt 0)))) else (zmS M 0 (Int32.ofInt 0)))
end ZRE
