section ZPS
variable {xs : List Int32} {N : Nat} {s : Nat → Int32} {a : Nat → List Int32} {T : zH} {nc ns : Nat} {P : zO → Prop}
def zP53 (s : Nat → Int32) (a : Nat → List Int32) (T : zH) (x1 x2 : Int32) (nc ns : Nat) : zO → Prop := fun o => (¬ zCd x1 x2 ∧ o = (.inr 0, zx s a T, nc + 1, ns + 6)) ∨ (zCd x1 x2 ∧ ∃ (k r : Nat) (s' : Nat → Int32) (a' : Nat → List Int32), x1 = Int32.ofNat k ∧ x2 = Int32.ofNat r ∧ zRC s' a' k r ∧ (a' 0).length = 16 ∧ zaL a' ∧ s' 4 = s 4 ∧ o = (.inl (some (.int (Int32.ofNat (k + r)))), zx s' a' T, nc, ns))
end ZPS
