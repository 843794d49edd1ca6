/-! The reference: its cells, and kinds of values; what an accepted table of kinds says is proved in the parts behind this one. -/
abbrev zTy : Type := (Int × Int × Nat × Nat) ⊕ ((Nat × Int × Int × Nat) ⊕ ((Nat × Nat) ⊕ Nat))
abbrev zG : Type := (Nat → Int32) × (Nat → List Int32) × (Nat → Value) × (Nat → Nat) × Nat × Nat × Nat × Nat × (Nat → Nat)
/-- a method's contract: arguments, result, depth, cells, slots -/
abbrev zCt : Type := Nat × List zTy × Option zTy × Nat × Nat × Nat
/-! What is kept. -/
