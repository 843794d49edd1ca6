/-! Bounds of ints. -/
theorem zbm {n : Int} (h1 : -2147483648 ≤ n) (h2 : n ≤ 2147483647) : n.bmod (2 ^ 32) = n := by
  rw [Int.bmod_def, show (((2 : Nat) ^ 32 : Nat) : Int) = 4294967296 from rfl]
  split <;> omega
/-! Branches. -/
/-! Locals. -/
/-! Stores. -/
