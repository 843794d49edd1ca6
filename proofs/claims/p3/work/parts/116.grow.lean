/-! grow of a full list: half as much again, the elements copied. -/
def zgr (n : Nat) : Nat := n + (if 1 < n / 2 then n / 2 else 1)
theorem zgr_ok : (List.range 501).all (fun n => decide (Int32.ofNat n + (if Int32.ofNat n + Int32.ofInt 1 - Int32.ofNat n < Int32.ofNat n >>> (Int32.ofInt 1 &&& 31) then Int32.ofNat n >>> (Int32.ofInt 1 &&& 31) else Int32.ofNat n + Int32.ofInt 1 - Int32.ofNat n) = Int32.ofNat (zgr n))) = true := by decide +kernel
section ZLG
variable {xs : List Int32} {D nc ns r n q : Nat} {h : zH}
theorem zgr_b (hn : n ≤ 500) : n < zgr n ∧ zgr n ≤ 1001 := by
  unfold zgr
  split <;> omega
theorem zof_z (hn : n ≤ 2000) : (Int32.ofNat n).toInt = (n : Int) := Int32.toInt_ofNat_of_lt (by omega)
theorem zof_n (hn : n ≤ 2000) : ¬ Int32.ofNat n < 0 ∧ (Int32.ofNat n).toNatClampNeg = n := by
  have e := zof_z hn
  constructor
  · intro g
    have g := zlt_z g
    rw [e, zero_z] at g
    omega
  · show (Int32.ofNat n).toInt.toNat = n
    rw [e]
    rfl
set_option maxRecDepth 10000
theorem m_235 (hn : n ≤ 500) : zMs xs (D + 0) 235 [.int (Int32.ofNat n), .int (Int32.ofNat n + Int32.ofInt 1 - Int32.ofNat n), .int (Int32.ofNat n >>> (Int32.ofInt 1 &&& 31))] h nc ns (fun o => o = (.inl (some (.int (Int32.ofNat (zgr n)))), h, nc, ns)) := by
  obtain ⟨b1, b2⟩ := zgr_b hn
  have ez := zof_z (n := zgr n) (by omega)
  have e := of_decide_eq_true (List.all_eq_true.mp zgr_ok n (List.mem_range.mpr (by omega)))
  refine ⟨_, rfl, ?_⟩
  refine zEs_run 5 rfl ?_
  rw [show (fun x y : Int32 => x + y) (Int32.ofNat n) ((fun x y : Int32 => if x < y then y else x) (Int32.ofNat n + Int32.ofInt 1 - Int32.ofNat n) (Int32.ofNat n >>> (Int32.ofInt 1 &&& 31))) = Int32.ofNat (zgr n) from e]
  refine zEs_run 3 rfl ?_
  refine zEs_icmp rfl (fun g => ?_) (fun _ => ?_)
  · have z := zF_ge_t g
    rw [ez, show (Int32.ofInt 0).toInt = 0 from by decide] at z
    exfalso
    omega
  · refine zEs_run 2 rfl ?_
    refine zEs_icmp rfl (fun g => ?_) (fun _ => ?_)
    · have z := zF_gt_t g
      rw [ez, show (Int32.ofNat 2147483639).toInt = 2147483639 from by decide] at z
      exfalso
      omega
    · refine zEs_run 1 rfl ?_
      exact zEs_end rfl rfl rfl
end ZLG
