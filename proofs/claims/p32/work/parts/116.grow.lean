/-! grow of a full list: half as much again, the elements copied. -/
def zgr (n : Nat) : Nat := n + (if 1 < n / 2 then n / 2 else 1)
theorem zgr_ok : (List.range 501).all (fun n => decide (Int32.ofNat n + (if Int32.ofNat n + Int32.ofInt 1 - Int32.ofNat n < Int32.ofNat n >>> (Int32.ofInt 1 &&& 31) then Int32.ofNat n >>> (Int32.ofInt 1 &&& 31) else Int32.ofNat n + Int32.ofInt 1 - Int32.ofNat n) = Int32.ofNat (zgr n))) = true := by decide +kernel
section ZLG
variable {xs : List Int32} {D nc ns r n q : Nat} {h : zH}
theorem zgr_b (hn : n ≤ 500) : n < zgr n ∧ zgr n ≤ 1001 := by
  unfold zgr
  split <;> omega
theorem zof_z (hn : n ≤ 2000) : (Int32.ofNat n).toInt = (n : Int) := Int32.toInt_ofNat_of_lt (by omega)
theorem zof_n (hn : n ≤ 2000) : ¬ Int32.ofNat n < 0 ∧ (Int32.ofNat n).toNatClampNeg = n := by
  have e := zof_z hn
  constructor
  · intro g
    have g := zlt_z g
    rw [e, zero_z] at g
    omega
  · show (Int32.ofNat n).toInt.toNat = n
    rw [e]
    rfl
set_option maxRecDepth 10000
end ZLG
