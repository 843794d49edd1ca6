set_option maxRecDepth 20000
section ZRE
variable {S0 : zSt} {M : zRt} {X : zXt} {kq : Nat × Nat × List Value} {xs : List Int32} {N : Nat} {nc ns : Nat}
def t186 (M : zRt) : Int32 := if (Int32.ofInt 40).toInt < (Int32.ofNat (M.2.2.1 2).length).toInt then ((Int32.ofInt 0)) else (if ((M.1 14) + (M.1 15)).toInt < (Int32.ofNat (M.2.2.1 2).length).toInt then ((Int32.ofInt 0)) else ((Int32.ofInt 1)))
def q186d (M : zRt) : Nat → Nat → Int32
  | 0, _ => t186 M
  | m + 1, k => if (zgt (M.2.1 20) ((Int32.ofNat k))).toInt < ((0 : Int32)).toInt then ((Int32.ofInt 0)) else (q186d M m (k + 1))
def v186d (M : zRt) : Int32 := q186d M (Int32.ofNat (M.2.1 20).length).toInt.toNat 0
def p186c (a : Nat) (M : zRt) : Nat → Nat → Bool
  | 0, _ => true
  | m + 1, k => if (zgt (M.2.1 22) (Int32.ofNat a)) = (zgt (M.2.1 22) ((Int32.ofNat k))) then false else (p186c a M m (k + 1))
def q186c (M : zRt) : Nat → Nat → Int32
  | 0, _ => v186d M
  | m + 1, k => if p186c k M (Int32.ofNat k).toInt.toNat 0 = true then q186c M m (k + 1) else Int32.ofInt 0
def v186c (M : zRt) : Int32 := q186c M (Int32.ofNat (M.2.1 22).length).toInt.toNat 0
def p186b (a : Nat) (M : zRt) : Nat → Nat → Int32 → Int32
  | 0, _, u => u
  | m + 1, k, u => if (zgt ((M.2.2.1 0).getD (Int32.toNatClampNeg ((Int32.ofNat k))) []) (Int32.ofInt 0)) = (zgt ((M.2.2.1 0).getD (Int32.toNatClampNeg (Int32.ofNat a)) []) (Int32.ofInt 0)) then (if (zgt ((M.2.2.1 0).getD (Int32.toNatClampNeg ((Int32.ofNat k))) []) (Int32.ofInt 1)) = (zgt ((M.2.2.1 0).getD (Int32.toNatClampNeg (Int32.ofNat a)) []) (Int32.ofInt 1)) then (if (zgt ((M.2.2.1 0).getD (Int32.toNatClampNeg ((Int32.ofNat k))) []) (Int32.ofInt 2)) = (zgt ((M.2.2.1 0).getD (Int32.toNatClampNeg (Int32.ofNat a)) []) (Int32.ofInt 2)) then (p186b a M m (k + 1) (u &&& (Int32.ofInt 0))) else (p186b a M m (k + 1) (u &&& (Int32.ofInt 1)))) else (p186b a M m (k + 1) (u &&& (Int32.ofInt 1)))) else (p186b a M m (k + 1) (u &&& (Int32.ofInt 1)))
def q186b (M : zRt) : Nat → Nat → Int32
  | 0, _ => v186c M
  | m + 1, k => if ((p186b k M ((Int32.ofNat (M.2.2.1 0).length).toInt.toNat - (k + 1)) (k + 1) (Int32.ofInt 1))) = ((0 : Int32)) then (q186b M m (k + 1)) else (if (zgt ((M.2.2.1 0).getD (Int32.toNatClampNeg (Int32.ofNat k)) []) (Int32.ofInt 3)) = (Int32.ofInt 1) then (if (v113 (zgt (M.2.1 (Int32.toNatClampNeg (zgt ((M.2.2.1 0).getD (Int32.toNatClampNeg (Int32.ofNat k)) []) (Int32.ofInt 0)))) (zgt ((M.2.2.1 0).getD (Int32.toNatClampNeg (Int32.ofNat k)) []) (Int32.ofInt 1))) (zgt ((M.2.2.1 0).getD (Int32.toNatClampNeg (Int32.ofNat k)) []) (Int32.ofInt 2)) M) = (Int32.ofInt 1) then (q186b M m (k + 1)) else ((Int32.ofInt 0))) else (if (v113 (zgt (M.2.1 (Int32.toNatClampNeg (zgt ((M.2.2.1 0).getD (Int32.toNatClampNeg (Int32.ofNat k)) []) (Int32.ofInt 0)))) (zgt ((M.2.2.1 0).getD (Int32.toNatClampNeg (Int32.ofNat k)) []) (Int32.ofInt 1))) (zgt ((M.2.2.1 0).getD (Int32.toNatClampNeg (Int32.ofNat k)) []) (Int32.ofInt 2)) M) = (Int32.ofInt 0) then (q186b M m (k + 1)) else ((Int32.ofInt 0))))
def v186b (M : zRt) : Int32 := q186b M (Int32.ofNat (M.2.2.1 0).length).toInt.toNat 0
def p186a (a : Nat) (M : zRt) : Nat → Nat → Bool
  | 0, _ => true
  | m + 1, k => if (zgt M.2.2.2 (Int32.ofNat a)) = (zgt M.2.2.2 ((Int32.ofNat k))) then false else (p186a a M m (k + 1))
def q186a (M : zRt) : Nat → Nat → Int32
  | 0, _ => v186b M
  | m + 1, k => if (zrmd (zwg 31 (Int32.ofInt 0) (zgt M.2.2.2 ((Int32.ofNat k)))) (Int32.ofInt 2)) = ((0 : Int32)) then ((Int32.ofInt 0)) else (if p186a k M (Int32.ofNat k).toInt.toNat 0 = true then q186a M m (k + 1) else Int32.ofInt 0)
def v186 (M : zRt) : Int32 := q186a M (Int32.ofNat M.2.2.2.length).toInt.toNat 0
end ZRE
