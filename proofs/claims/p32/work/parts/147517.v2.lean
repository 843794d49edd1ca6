section ZPV
variable {xs : List Int32} {N : Nat} {h : zH} {K R : Int32} {c : List Int32} {vs : List Value} {nc ns : Nat}
def zmdc (c : List Int32) (K x y : Int32) : Int32 := if y = 0 then zsm c x else if y = Int32.ofInt 1 then zkd c x else if y = Int32.ofInt 2 then (if zkd c x = Int32.ofInt 1 then zbm9 c x else Int32.ofInt (-1)) else (if zkd c x = Int32.ofInt 2 then Int32.ofInt (-1) else zdo c K x)
abbrev zwm (K R : Int32) : Int32 := Int32.ofInt 1 <<< (K + R &&& 31) - Int32.ofInt 1
end ZPV
