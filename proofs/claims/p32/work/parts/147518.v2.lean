section ZPW
variable {s : Nat → Int32} {a : Nat → List Int32} {k r : Nat}
/-- encode tells one and the same -/
theorem zRC_en (h : zRC s a k r) {x : Int32} : x ||| zsyn (zco a) x (zwi s) <<< (s 0 &&& 31) = x ||| zsm (zcol k r) x <<< (Int32.ofNat k &&& 31) := by
  rw [zRC_syn h, h.2.1]
/-- the bounds of column, encode and decode -/
theorem zRC_bd (h : zRC s a k r) : zdma s = Int32.ofInt 1 <<< (Int32.ofNat k &&& 31) - Int32.ofInt 1 ∧ (s 2).toInt = (Int32.ofNat k + Int32.ofNat r - Int32.ofInt 1).toInt + 1 ∧ (zwc s).toInt = (zwm (Int32.ofNat k) (Int32.ofNat r)).toInt + 1 := by
  have e : zcds.all (fun q => decide ((Int32.ofNat (q.1 + q.2)).toInt = (Int32.ofNat q.1 + Int32.ofNat q.2 - Int32.ofInt 1).toInt + 1 ∧ (Int32.ofInt 1 <<< (Int32.ofNat (q.1 + q.2) &&& 31)).toInt = (zwm (Int32.ofNat q.1) (Int32.ofNat q.2)).toInt + 1)) = true := by decide +kernel
  have z := of_decide_eq_true (List.all_eq_true.mp e _ h.1)
  refine ⟨?_, ?_, ?_⟩
  · show Int32.ofInt 1 <<< (s 0 &&& 31) - Int32.ofInt 1 = _
    rw [h.2.1]
  · rw [h.2.2.2.1]
    exact z.1
  · show (Int32.ofInt 1 <<< (s 2 &&& 31)).toInt = _
    rw [h.2.2.2.1]
    exact z.2
end ZPW
