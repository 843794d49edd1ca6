section ZPW
variable {s : Nat → Int32} {a : Nat → List Int32} {k r : Nat}
/-- decode tells one and the same -/
theorem zRC_dc (h : zRC s a k r) {x y : Int32} : zdcd s a x y = zmdc (zcol k r) (Int32.ofNat k) x y := by
  unfold zdcd zmdc
  rw [zRC_syn h, zRC_vd h, zRC_bo h, zRC_da h, show (Int32.ofInt 1 : Int32) = 1 by decide, show (Int32.ofInt 2 : Int32) = 2 by decide]
/-- encode tells one and the same -/
theorem zRC_en (h : zRC s a k r) {x : Int32} : x ||| zsyn (zco a) x (zwi s) <<< (s 0 &&& 31) = x ||| zsm (zcol k r) x <<< (Int32.ofNat k &&& 31) := by
  rw [zRC_syn h, h.2.1]
/-- the bounds of column, encode and decode -/
theorem zRC_bd (h : zRC s a k r) : zdma s = Int32.ofInt 1 <<< (Int32.ofNat k &&& 31) - Int32.ofInt 1 ∧ (s 2).toInt = (Int32.ofNat k + Int32.ofNat r - Int32.ofInt 1).toInt + 1 ∧ (zwc s).toInt = (zwm (Int32.ofNat k) (Int32.ofNat r)).toInt + 1 := by
  have e : zcds.all (fun q => decide ((Int32.ofNat (q.1 + q.2)).toInt = (Int32.ofNat q.1 + Int32.ofNat q.2 - Int32.ofInt 1).toInt + 1 ∧ (Int32.ofInt 1 <<< (Int32.ofNat (q.1 + q.2) &&& 31)).toInt = (zwm (Int32.ofNat q.1) (Int32.ofNat q.2)).toInt + 1)) = true := by decide +kernel
  have z := of_decide_eq_true (List.all_eq_true.mp e _ h.1)
  refine ⟨?_, ?_, ?_⟩
  · show Int32.ofInt 1 <<< (s 0 &&& 31) - Int32.ofInt 1 = _
    rw [h.2.1]
  · rw [h.2.2.2.1]
    exact z.1
  · show (Int32.ofInt 1 <<< (s 2 &&& 31)).toInt = _
    rw [h.2.2.2.1]
    exact z.2
/-- column tells one and the same -/
theorem zRC_cl (h : zRC s a k r) {x : Int32} (h0 : 0 ≤ x.toInt) (h1 : x.toInt < (s 2).toInt) : zgt (a 0) x = (zcol k r).getD x.toInt.toNat 0 := by
  obtain ⟨b1, b2, b3, b4, b5⟩ := zcds_kr _ h.1
  have b5 : (zcol k r).length = k + r := b5
  have b2 : k ≤ 10 := b2
  have b4 : r ≤ 6 := b4
  obtain ⟨t, h5⟩ := h.2.2.2.2.1
  rw [h.2.2.2.1, zofI (by omega)] at h1
  have e : x = Int32.ofNat x.toInt.toNat := Int32.toInt_inj.mp (by rw [zofI (by omega)]; omega)
  have hn : x.toInt.toNat < 2147483648 := by omega
  generalize x.toInt.toNat = n at *
  subst e
  rw [zofI (by omega)] at h1
  rw [zgt_n (by omega), h5, List.getD_eq_getElem?_getD, List.getD_eq_getElem?_getD, List.getElem?_append_left (by omega)]
end ZPW
