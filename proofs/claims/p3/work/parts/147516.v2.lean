section ZPU
variable {xs : List Int32} {N : Nat} {h : zH} {K R : Int32} {c : List Int32} {vs : List Value} {nc ns : Nat}
theorem r_153 (g : zMo h vs K R c) {x : Int32} : zpM xs N 153 [.ref 44, .int x] h nc ns (fun o => ∃ t v : Int32, o = (.inl (some (.int v)), h.set 44 (7, vs.set 0 (.int t)), nc, ns) ∧ ((0 ≤ x.toInt ∧ x.toInt ≤ (K + R - Int32.ofInt 1).toInt) ∧ t = 0 ∧ v = c.getD x.toInt.toNat 0 ∨ ¬ (0 ≤ x.toInt ∧ x.toInt ≤ (K + R - Int32.ofInt 1).toInt) ∧ t = 1)) := by
  have z0 : (Int32.ofInt 0).toInt = 0 := by decide
  have g0 := g
  obtain ⟨g1, g2, g3, g4, ⟨q, g5, g6⟩, g7⟩ := g
  have k := zMo_0 (t := Int32.ofInt 0) g0
  have k0 := k
  obtain ⟨k1, k2, k3, k4, ⟨q', k5, k6⟩, k7⟩ := k
  intro L0 e
  cases e
  refine zpE_run 2 rfl ?_
  refine zpE_put rfl g1 rfl rfl (by omega) ?_
  refine zpE_run 3 rfl ?_
  refine zpE_callM rfl rfl k1 (Nat.le_of_ble_eq_true rfl) (r_117 (zMo_c k0)) (fun v h1 nc1 ns1 q8 => ?_) (fun E h1 nc1 ns1 q8 => by cases q8)
  cases q8
  refine zpE_run 2 (st' := [.int (K + R - Int32.ofInt 1), .int (Int32.ofInt 0), .int x]) rfl ?_
  refine zpE_call rfl rfl (zpM_of (m_112x (D := 0))) (fun v h1 nc1 ns1 q8 => ?_) (fun E h1 nc1 ns1 q8 => by obtain ⟨_, q8, _⟩ := q8; cases q8)
  obtain ⟨w, q8, hw⟩ := q8
  cases q8
  rw [z0] at hw
  refine zpE_if rfl (fun q1 => ?_) (fun q1 => ?_)
  · replace hw := hw.resolve_right (fun z => zF_n1 q1 z.1)
    refine zpE_run 1 rfl ?_
    refine zpE_get rfl k1 rfl k5 ?_
    refine zpE_run 1 rfl ?_
    refine zpE_ald rfl k6 (fun v n0 hv => ?_)
    refine zpE_end rfl rfl ⟨Int32.ofInt 0, _, rfl, Or.inl ⟨hw.2, by decide, ?_⟩⟩
    have hv : c[x.toInt.toNat]? = some v := hv
    rw [List.getD_eq_getElem?_getD, hv]
    rfl
  · replace hw := hw.resolve_left (fun z => by
      rw [z.1] at q1
      exact absurd (zF_n0 q1) (by decide))
    refine zpE_run 2 rfl ?_
    refine zpE_callM rfl rfl k1 (Nat.le_of_ble_eq_true rfl) (zpM_of (m_111 (D := 0) k1 k2)) (fun v h1 nc1 ns1 q8 => ?_) (fun E h1 nc1 ns1 q8 => by cases q8)
    cases q8
    rw [List.set_set, List.set_set]
    exact zpE_end rfl rfl ⟨Int32.ofInt 1, _, rfl, Or.inr ⟨hw.2, by decide⟩⟩
end ZPU
