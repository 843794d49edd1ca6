/-! digest of the reference: word for word. Written by wip/v3/gendig.py. -/
set_option maxRecDepth 20000
section ZRG
variable {S0 : zSt} {M : zRt} {X : zXt} {kq : Nat × Nat × List Value} {xs : List Int32} {N : Nat} {nc ns : Nat} {P : zO → Prop} {d0 : Int64}
def zmbd (M : zRt) (k : Nat) : Int32 := v171 (Int32.ofNat k) M
def zmc9 (M : zRt) (k : Nat) : Int32 := zgt M.2.2.2 (Int32.ofNat k)
def zmn9 (b : Int32) (M : zRt) (l w : Nat) : Int32 := v163 (b * (Int8.ofInt 10).toInt32 + Int32.ofNat l) (Int32.ofNat w) M
def zmbk (M : zRt) (b : Int32) : Int64 → Int64 := zbk (u169_1 b (Int32.ofInt 0) M) (u169_1 b (Int32.ofInt 1) M) (v179 b M) (v173 b M) (zmn9 b M)
def zmB (M : zRt) (k : Nat) : Int64 → Int64 := zmbk M (Int32.ofNat k)
def zmw (w : Int32) (M : zRt) (k : Nat) : Int32 := v159 (Int32.ofNat k) w M
def zmrd (M : zRt) (k : Nat) : Int32 := v177 (Int32.ofNat k) M
def zmE (M : zRt) (e w : Nat) : Int32 := zgt ((M.2.2.1 2).getD (Int32.toNatClampNeg (Int32.ofNat e)) []) (Int32.ofNat w)
def V188 (M : zRt) : Int64 := zdgv (zmbd M) (zmc9 M) (Int32.ofNat M.2.2.2.length).toInt.toNat (v156 (Int32.ofInt 2) M) (v156 (Int32.ofInt 3) M) (zmB M) (zmw (Int32.ofInt 0) M) (zmw (Int32.ofInt 2) M) (zmrd M) (zmE M) (Int32.ofNat (M.2.2.1 2).length).toInt.toNat (v183 z20 M) (if v186 M = ((0 : Int32)) then (Int32.ofInt 0).toInt64 else (Int32.ofInt 1).toInt64)

end ZRG
