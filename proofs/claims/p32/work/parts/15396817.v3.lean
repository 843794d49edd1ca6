set_option maxRecDepth 20000
section ZRE
variable {S0 : zSt} {M : zRt} {X : zXt} {kq : Nat × Nat × List Value} {xs : List Int32} {N : Nat} {nc ns : Nat}
def v113 (x1 : Int32) (x2 : Int32) (M : zRt) : Int32 := if ((x1 >>> (x2 &&& 31)) &&& (Int32.ofInt 1)) = (Int32.ofInt 1) then ((Int32.ofInt 1)) else ((Int32.ofInt 0))
def q181 (x1 : Int32) (M : zRt) : Nat → Nat → Int32
  | 0, k => (Int32.ofInt 0)
  | m + 1, k => if (zgt ((M.2.2.1 0).getD (Int32.toNatClampNeg ((Int32.ofNat k))) []) (Int32.ofInt 0)) = (zgt ((M.2.2.1 1).getD (Int32.toNatClampNeg x1) []) (Int32.ofInt 0)) then (if (zgt ((M.2.2.1 0).getD (Int32.toNatClampNeg ((Int32.ofNat k))) []) (Int32.ofInt 1)) = (zgt ((M.2.2.1 1).getD (Int32.toNatClampNeg x1) []) (Int32.ofInt 1)) then (if (zgt ((M.2.2.1 0).getD (Int32.toNatClampNeg ((Int32.ofNat k))) []) (Int32.ofInt 2)) = (zgt ((M.2.2.1 1).getD (Int32.toNatClampNeg x1) []) (Int32.ofInt 2)) then ((Int32.ofInt 1)) else (q181 x1 M m (k + 1))) else (q181 x1 M m (k + 1))) else (q181 x1 M m (k + 1))
def v181 (x1 : Int32) (M : zRt) : Int32 := q181 x1 M (Int32.ofNat (M.2.2.1 0).length).toInt.toNat 0
def v184 (x1 x2 : Int32) (M : zRt) : Int32 := if (zgt ((M.2.2.1 1).getD (Int32.toNatClampNeg x1) []) (Int32.ofInt 0)) = (zgt ((M.2.2.1 1).getD (Int32.toNatClampNeg x2) []) (Int32.ofInt 0)) then (if (zgt ((M.2.2.1 1).getD (Int32.toNatClampNeg x1) []) (Int32.ofInt 1)) = (zgt ((M.2.2.1 1).getD (Int32.toNatClampNeg x2) []) (Int32.ofInt 1)) then (if (zgt ((M.2.2.1 1).getD (Int32.toNatClampNeg x1) []) (Int32.ofInt 2)) = (zgt ((M.2.2.1 1).getD (Int32.toNatClampNeg x2) []) (Int32.ofInt 2)) then ((Int32.ofInt 1)) else ((Int32.ofInt 0))) else ((Int32.ofInt 0))) else ((Int32.ofInt 0))
def q182 (x1 x2 : Int32) (M : zRt) : Nat → Nat → Int32 → Int32
  | 0, _, _ => (Int32.ofInt 0)
  | m + 1, k, u => if (((Int32.ofNat k)) - u).toInt < (zgt ((M.2.2.1 1).getD (Int32.toNatClampNeg x1) []) (Int32.ofInt 3)).toInt then (if (zrmd ((Int32.ofNat k)) (M.1 5)) = ((0 : Int32)) then (q182 x1 x2 M m (k + 1) ((Int32.ofNat k))) else (q182 x1 x2 M m (k + 1) u)) else ((Int32.ofInt 1))
def v182 (x1 x2 : Int32) (M : zRt) : Int32 := if (v113 (zgt (M.2.1 (Int32.toNatClampNeg (zgt ((M.2.2.1 1).getD (Int32.toNatClampNeg x1) []) (Int32.ofInt 0)))) (zgt ((M.2.2.1 1).getD (Int32.toNatClampNeg x1) []) (Int32.ofInt 1))) (zgt ((M.2.2.1 1).getD (Int32.toNatClampNeg x1) []) (Int32.ofInt 2)) M) = ((0 : Int32)) then ((Int32.ofInt 0)) else (if (v181 x1 M) = ((0 : Int32)) then (q182 x1 x2 M x2.toInt.toNat ((M.1 4).toInt.toNat + 1) (zgt (M.2.1 21) (zgt ((M.2.2.1 1).getD (Int32.toNatClampNeg x1) []) (Int32.ofInt 0)))) else ((Int32.ofInt 0)))
def p183 (x1 : Int32) (a : Nat) (M : zRt) : Nat → Nat → Int32 → Int32
  | 0, _, u => u
  | m + 1, k, u => if u = ((0 : Int32)) then u else (if (v184 ((Int32.ofNat k)) (Int32.ofNat a) M) = ((0 : Int32)) then (p183 x1 a M m (k + 1) (Int32.ofInt 1)) else (if (v182 ((Int32.ofNat k)) x1 M) = ((0 : Int32)) then (p183 x1 a M m (k + 1) (Int32.ofInt 1)) else (p183 x1 a M m (k + 1) (Int32.ofInt 0))))
def w183 (x1 : Int32) (M : zRt) : Nat → Int32
  | 0 => Int32.ofInt 0
  | a + 1 => if p183 x1 a M a 0 (v182 (Int32.ofNat a) x1 M) = ((0 : Int32)) then w183 x1 M a + Int32.ofInt 0 else w183 x1 M a + Int32.ofInt 1
def v183 (x1 : Int32) (M : zRt) : Int32 := w183 x1 M (M.2.2.1 1).length
def v185 (x1 : Int32) (M : zRt) : Int32 := if (v112 x1 (Int32.ofInt 1) (Int32.ofInt 100) (zmS M 0 (Int32.ofInt 0))) = ((0 : Int32)) then ((v111 (Int32.ofInt 1) (zmS M 0 (Int32.ofInt 0)))) else ((v183 x1 (zmS M 0 (Int32.ofInt 0))))
def r185 (x1 : Int32) (M : zRt) : zRt := if (v112 x1 (Int32.ofInt 1) (Int32.ofInt 100) (zmS M 0 (Int32.ofInt 0))) = ((0 : Int32)) then ((r111 (Int32.ofInt 1) (zmS M 0 (Int32.ofInt 0)))) else (zmS M 0 (Int32.ofInt 0))
end ZRE
