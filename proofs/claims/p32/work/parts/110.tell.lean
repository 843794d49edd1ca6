/-! tell. -/
def zRr (v : Option Value) : Prop := ∃ q : Nat, v = some (.ref q)
/-- cells are only added -/
def zPa (R : Option Value → Prop) (Es : List Nat) (h : zH) (nc ns : Nat) : zO → Prop := fun o => (∃ v U nc' ns', R v ∧ nc' ≤ nc + 10 ∧ ns' ≤ ns + 100 ∧ o = (.inl v, h ++ U, nc', ns')) ∨ ∃ E, E ∈ Es ∧ o = (.inr E, h, nc + 1, ns + 6)
section ZTL
variable {xs : List Int32} {D nc ns : Nat} {s : Nat → Int32} {a : Nat → List Int32} {T : zH} {P : zO → Prop}
theorem zbyt_set {bs : List Value} {j : Nat} {v : Value} (h : ∀ x ∈ bs, zbyt x = true) (hv : zbyt v = true) : ∀ x ∈ bs.set j v, zbyt x = true := by
  intro x hx
  rcases List.mem_or_eq_of_mem_set hx with q | rfl
  · exact h x q
  · exact hv
set_option maxRecDepth 10000
end ZTL
