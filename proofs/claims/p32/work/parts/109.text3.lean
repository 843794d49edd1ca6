/-! toString. -/
section ZTX
variable {xs : List Int32} {D nc ns a b n : Nat} {h H U : zH} {P : zO → Prop} {ml : Value} {bs : List Value}
theorem zsub0 {x : Int32} : x - Int32.ofInt 0 = x := by
  rw [show Int32.ofInt 0 = 0 from by decide, Int32.sub_zero]
theorem znz16 (hn : n < 16) : (Int32.ofNat n).toInt = (n : Int) := Int32.toInt_ofNat_of_lt (by omega)
set_option maxRecDepth 10000
end ZTX
