/-! The reference's weight of any number, and Math.min. -/
section ZWG
variable {xs : List Int32} {N : Nat} {h : zH} {nc ns : Nat}
def zwg : Nat → Int32 → Int32 → Int32
  | 0, a, _ => a
  | f + 1, a, n => if n.toInt ≤ (0 : Int32).toInt then a else zwg f (a + zrmd n (Int32.ofInt 2)) (zqtd n (Int32.ofInt 2))
theorem zwg_0 {n a : Int32} (hn : n.toInt ≤ (0 : Int32).toInt) : ∀ f, zwg f a n = a
  | 0 => rfl
  | _ + 1 => if_pos hn
theorem zq2 {n : Int32} : (zqtd n (Int32.ofInt 2)).toInt = n.toInt.tdiv 2 := by
  show (n / Int32.ofInt 2).toInt = _
  rw [Int32.toInt_div_of_ne_right _ _ (by decide), show (Int32.ofInt 2).toInt = 2 by decide]
end ZWG
set_option maxRecDepth 20000
section ZRE
variable {S0 : zSt} {M : zRt} {X : zXt} {kq : Nat × Nat × List Value} {xs : List Int32} {N : Nat} {nc ns : Nat}
def v166 (x1 : Int32) (x2 : Int32) (M : zRt) : Int32 := if (zqtd (zgt ((M.2.2.1 2).getD (Int32.toNatClampNeg x1) []) (Int32.ofInt 0)) (Int32.ofInt 64)) = x2 then (if (zgt ((M.2.2.1 2).getD (Int32.toNatClampNeg x1) []) (Int32.ofInt 1)) = (Int32.ofInt (-1)) then ((Int32.ofInt 0)) else ((Int32.ofInt 1))) else ((Int32.ofInt 0))
def d167 (x1 : Int32) (x2 : Int32) (x3 : Int32) (x4 : Int32) (M : zRt) (k : Nat) (u : Int32) : Int32 := if (v166 ((Int32.ofNat k)) x1 M) = ((0 : Int32)) then u else (if x2 = (Int32.ofInt 1) then (if (zgt ((M.2.2.1 2).getD (Int32.toNatClampNeg ((Int32.ofNat k))) []) (Int32.ofInt 1)) = x3 then (if x4 = ((0 : Int32)) then (u ||| ((Int32.ofInt 1) <<< ((zrmd (zgt ((M.2.2.1 2).getD (Int32.toNatClampNeg ((Int32.ofNat k))) []) (Int32.ofInt 0)) (Int32.ofInt 8)) &&& 31))) else (u ||| ((Int32.ofInt 1) <<< ((zrmd (zqtd (zgt ((M.2.2.1 2).getD (Int32.toNatClampNeg ((Int32.ofNat k))) []) (Int32.ofInt 0)) (Int32.ofInt 8)) (Int32.ofInt 8)) &&& 31)))) else u) else (if x2 = (Int32.ofInt 2) then (if (zrmd (zqtd (zgt ((M.2.2.1 2).getD (Int32.toNatClampNeg ((Int32.ofNat k))) []) (Int32.ofInt 0)) (Int32.ofInt 8)) (Int32.ofInt 8)) = x3 then (if x4 = ((0 : Int32)) then (u ||| ((Int32.ofInt 1) <<< ((zrmd (zgt ((M.2.2.1 2).getD (Int32.toNatClampNeg ((Int32.ofNat k))) []) (Int32.ofInt 0)) (Int32.ofInt 8)) &&& 31))) else (u ||| ((Int32.ofInt 1) <<< ((zrmd (zqtd (zgt ((M.2.2.1 2).getD (Int32.toNatClampNeg ((Int32.ofNat k))) []) (Int32.ofInt 0)) (Int32.ofInt 8)) (Int32.ofInt 8)) &&& 31)))) else u) else (if (zrmd (zgt ((M.2.2.1 2).getD (Int32.toNatClampNeg ((Int32.ofNat k))) []) (Int32.ofInt 0)) (Int32.ofInt 8)) = x3 then (if x4 = ((0 : Int32)) then (u ||| ((Int32.ofInt 1) <<< ((zrmd (zgt ((M.2.2.1 2).getD (Int32.toNatClampNeg ((Int32.ofNat k))) []) (Int32.ofInt 0)) (Int32.ofInt 8)) &&& 31))) else (u ||| ((Int32.ofInt 1) <<< ((zrmd (zqtd (zgt ((M.2.2.1 2).getD (Int32.toNatClampNeg ((Int32.ofNat k))) []) (Int32.ofInt 0)) (Int32.ofInt 8)) (Int32.ofInt 8)) &&& 31)))) else u)))
def w167 (x1 : Int32) (x2 : Int32) (x3 : Int32) (x4 : Int32) (M : zRt) (u0 : Int32) : Nat → Int32
  | 0 => u0
  | k + 1 => d167 x1 x2 x3 x4 M k (w167 x1 x2 x3 x4 M u0 k)
def y167 (x1 : Int32) (x2 : Int32) (x3 : Int32) (x4 : Int32) (M : zRt) (u : Int32) : Int32 := (zwg 31 (Int32.ofInt 0) u)
def v167 (x1 : Int32) (x2 : Int32) (x3 : Int32) (x4 : Int32) (M : zRt) : Int32 := y167 x1 x2 x3 x4 M (w167 x1 x2 x3 x4 M (Int32.ofInt 0) (Int32.ofNat (M.2.2.1 2).length).toInt.toNat)
def d168i (x1 : Int32) (a : Nat) (M : zRt) (k : Nat) (u : Int32) : Int32 := if (v166 (Int32.ofNat a) x1 M) = ((0 : Int32)) then u else (if (zgt ((M.2.2.1 2).getD (Int32.toNatClampNeg (Int32.ofNat a)) []) (Int32.ofInt 0)) = (zgt ((M.2.2.1 2).getD (Int32.toNatClampNeg ((Int32.ofNat k))) []) (Int32.ofInt 0)) then (if (zgt ((M.2.2.1 2).getD (Int32.toNatClampNeg (Int32.ofNat a)) []) (Int32.ofInt 1)) = (zgt ((M.2.2.1 2).getD (Int32.toNatClampNeg ((Int32.ofNat k))) []) (Int32.ofInt 1)) then (if u = (Int32.ofInt (-1)) then (zgt ((M.2.2.1 2).getD (Int32.toNatClampNeg (Int32.ofNat a)) []) (Int32.ofInt 0)) else (if (zgt ((M.2.2.1 2).getD (Int32.toNatClampNeg (Int32.ofNat a)) []) (Int32.ofInt 0)) < u then (zgt ((M.2.2.1 2).getD (Int32.toNatClampNeg (Int32.ofNat a)) []) (Int32.ofInt 0)) else u)) else u) else u)
def w168i (x1 : Int32) (a : Nat) (M : zRt) (u0 : Int32) : Nat → Int32
  | 0 => u0
  | k + 1 => d168i x1 a M k (w168i x1 a M u0 k)
def w168 (x1 : Int32) (M : zRt) : Nat → Int32
  | 0 => Int32.ofInt (-1)
  | a + 1 => w168i x1 a M (w168 x1 M a) a
def v168 (x1 : Int32) (M : zRt) : Int32 := w168 x1 M (M.2.2.1 2).length
def q169 (x1 b : Int32) (M : zRt) : Nat → Nat → Option Nat
  | 0, _ => none
  | m + 1, k => if b = (Int32.ofInt 2) then (if (v167 x1 b (Int32.ofNat k) (Int32.ofInt 0) M).toInt < (Int32.ofInt 3).toInt then (q169 x1 b M m (k + 1)) else (some k)) else (if (v167 x1 b (Int32.ofNat k) (Int32.ofInt 1) M).toInt < (Int32.ofInt 3).toInt then (q169 x1 b M m (k + 1)) else (some k))
def u169_4 (x1 x2 : Int32) (M : zRt) : Int32 := if x2 = ((0 : Int32)) then (if (v168 x1 M) = (Int32.ofInt (-1)) then ((Int32.ofInt 0)) else ((Int32.ofInt 4))) else ((v168 x1 M))
def u169_3 (x1 x2 : Int32) (M : zRt) : Int32 := match q169 x1 (Int32.ofInt 3) M 16 0 with
  | some k => if x2 = ((0 : Int32)) then Int32.ofInt 3 else Int32.ofNat k
  | none => u169_4 x1 x2 M
def u169_2 (x1 x2 : Int32) (M : zRt) : Int32 := match q169 x1 (Int32.ofInt 2) M 16 0 with
  | some k => if x2 = ((0 : Int32)) then Int32.ofInt 2 else Int32.ofNat k
  | none => u169_3 x1 x2 M
def u169_1 (x1 x2 : Int32) (M : zRt) : Int32 := match q169 x1 (Int32.ofInt 1) M 16 0 with
  | some k => if x2 = ((0 : Int32)) then Int32.ofInt 1 else Int32.ofNat k
  | none => u169_2 x1 x2 M
def v170 (x1 : Int32) (x2 : Int32) (M : zRt) : Int32 := if (v112 x1 (Int32.ofInt 0) (Int32.ofInt 1) (zmS M 0 (Int32.ofInt 0))) = ((0 : Int32)) then ((v111 (Int32.ofInt 1) (zmS M 0 (Int32.ofInt 0)))) else ((u169_1 x1 x2 (zmS M 0 (Int32.ofInt 0))))
def r170 (x1 : Int32) (x2 : Int32) (M : zRt) : zRt := if (v112 x1 (Int32.ofInt 0) (Int32.ofInt 1) (zmS M 0 (Int32.ofInt 0))) = ((0 : Int32)) then ((r111 (Int32.ofInt 1) (zmS M 0 (Int32.ofInt 0)))) else (zmS M 0 (Int32.ofInt 0))
end ZRE
