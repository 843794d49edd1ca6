/-! column, encode, decode of the class. -/
section ZPQ
variable {xs : List Int32} {N : Nat} {s : Nat → Int32} {a : Nat → List Int32} {T : zH} {nc ns : Nat} {P : zO → Prop}
theorem p_66 (hL : zaL a) {x : Int32} : zpM xs N 66 [.ref 0, .int x] (zx s a T) nc ns (fun o => (0 ≤ x.toInt ∧ x.toInt < (s 2).toInt ∧ o = (.inl (some (.int (zgt (a 0) x))), zx s a T, nc, ns)) ∨ (¬ (0 ≤ x.toInt ∧ x.toInt < (s 2).toInt) ∧ o = (.inr 1, zx s a T, nc + 1, ns + 6))) := by
  intro L0 e
  cases e
  refine zpE_run 3 rfl ?_
  refine zpE_call rfl rfl p_7 (fun v h1 nc1 ns1 q8 => ?_) (fun E h1 nc1 ns1 q8 => by cases q8)
  cases q8
  by_cases hx : 0 ≤ x.toInt ∧ x.toInt < (s 2).toInt
  · rw [if_pos hx]
    refine zpE_if rfl (fun _ => ?_) (fun q => absurd (zF_n0 q) (by decide))
    refine zpE_run 4 rfl ?_
    refine zpE_call rfl rfl (p_25 0 3 2 rfl rfl hL) (fun v h1 nc1 ns1 q8 => ?_) (fun E h1 nc1 ns1 q8 => by cases q8)
    cases q8
    exact zpE_end rfl rfl (Or.inl ⟨hx.1, hx.2, rfl⟩)
  · rw [if_neg hx]
    refine zpE_if rfl (fun q => absurd rfl (zF_n1 q)) (fun _ => ?_)
    exact zpE_end rfl rfl (Or.inr ⟨hx, rfl⟩)
end ZPQ
