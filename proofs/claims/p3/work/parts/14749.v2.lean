/-! What the reference asks of numbers. -/
section ZRX
variable {xs : List Int32} {h : zH} {nc ns : Nat}
theorem m_112x {D : Nat} {a b c : Int32} : zMs xs D 112 [.int a, .int b, .int c] h nc ns (fun o => ∃ w : Int32, o = (.inl (some (.int w)), h, nc, ns) ∧ (w = 1 ∧ (b.toInt ≤ a.toInt ∧ a.toInt ≤ c.toInt) ∨ w = 0 ∧ ¬ (b.toInt ≤ a.toInt ∧ a.toInt ≤ c.toInt))) := by
  refine ⟨_, rfl, zEs_run 2 rfl ?_⟩
  refine zEs_icmp rfl (fun q1 => ?_) (fun q1 => ?_)
  · have z := zF_lt_t q1
    exact zEs_run 1 rfl (zEs_end rfl rfl ⟨_, rfl, Or.inr ⟨by decide, fun k => by omega⟩⟩)
  · have z := zF_lt_f q1
    refine zEs_run 2 rfl ?_
    refine zEs_icmp rfl (fun q2 => ?_) (fun q2 => ?_)
    · have z2 := zF_gt_t q2
      exact zEs_run 1 rfl (zEs_end rfl rfl ⟨_, rfl, Or.inr ⟨by decide, fun k => by omega⟩⟩)
    · have z2 := zF_gt_f q2
      exact zEs_run 2 rfl (zEs_end rfl rfl ⟨_, rfl, Or.inl ⟨by decide, z, z2⟩⟩)
theorem m_111 {D : Nat} {x : Int32} {vs : List Value} (m1 : h[44]? = some (7, vs)) (m2 : vs.length = 26) : zMs xs D 111 [.ref 44, .int x] h nc ns (fun o => o = (.inl (some (.int (Int32.ofInt 0))), h.set 44 (7, vs.set 0 (.int x)), nc, ns)) := by
  refine ⟨_, rfl, zEs_run 2 rfl ?_⟩
  refine zEs_put rfl m1 rfl rfl (by omega) ?_
  exact zEs_run 1 rfl (zEs_end rfl rfl rfl)
theorem m_247 {D : Nat} {k : Int32} {vs : List Value} (m1 : h[44]? = some (7, vs)) (mk : vs[0]? = some (.int k)) : zMs xs D 247 [.ref 44] h nc ns (fun o => o = (.inl (some (.int k)), h, nc, ns)) :=
  ⟨_, rfl, zEs_run 1 rfl (zEs_get rfl m1 rfl mk (zEs_end rfl rfl rfl))⟩
end ZRX
