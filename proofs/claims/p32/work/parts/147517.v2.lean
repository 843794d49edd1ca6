section ZPV
variable {xs : List Int32} {N : Nat} {h : zH} {K R : Int32} {c : List Int32} {vs : List Value} {nc ns : Nat}
abbrev zwm (K R : Int32) : Int32 := Int32.ofInt 1 <<< (K + R &&& 31) - Int32.ofInt 1
end ZPV
