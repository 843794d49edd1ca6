section ZPV
variable {xs : List Int32} {N : Nat} {h : zH} {K R : Int32} {c : List Int32} {vs : List Value} {nc ns : Nat}
def zmdc (c : List Int32) (K x y : Int32) : Int32 := if y = 0 then zsm c x else if y = Int32.ofInt 1 then zkd c x else if y = Int32.ofInt 2 then (if zkd c x = Int32.ofInt 1 then zbm9 c x else Int32.ofInt (-1)) else (if zkd c x = Int32.ofInt 2 then Int32.ofInt (-1) else zdo c K x)
abbrev zwm (K R : Int32) : Int32 := Int32.ofInt 1 <<< (K + R &&& 31) - Int32.ofInt 1
theorem r_155 (g : zMo h vs K R c) {x y : Int32} : zpM xs N 155 [.ref 44, .int x, .int y] h nc ns (fun o => ∃ t v : Int32, o = (.inl (some (.int v)), h.set 44 (7, vs.set 0 (.int t)), nc, ns) ∧ (((0 ≤ x.toInt ∧ x.toInt ≤ (zwm K R).toInt) ∧ (0 ≤ y.toInt ∧ y.toInt ≤ 3)) ∧ t = 0 ∧ v = zmdc c K x y ∨ ¬ ((0 ≤ x.toInt ∧ x.toInt ≤ (zwm K R).toInt) ∧ (0 ≤ y.toInt ∧ y.toInt ≤ 3)) ∧ t = 1)) := by
  have z0 : (Int32.ofInt 0).toInt = 0 := by decide
  have z3 : (Int32.ofInt 3).toInt = 3 := by decide
  have g0 := g
  obtain ⟨g1, g2, g3, g4, ⟨q, g5, g6⟩, g7⟩ := g
  have k := zMo_0 (t := Int32.ofInt 0) g0
  have k0 := k
  obtain ⟨k1, k2, k3, k4, ⟨q', k5, k6⟩, k7⟩ := k
  intro L0 e
  cases e
  refine zpE_run 2 rfl ?_
  refine zpE_put rfl g1 rfl rfl (by omega) ?_
  have no : ¬ ((0 ≤ x.toInt ∧ x.toInt ≤ (zwm K R).toInt) ∧ (0 ≤ y.toInt ∧ y.toInt ≤ 3)) → zpE xs N 155 30 [some (.ref 44), some (.int x), some (.int y), none] [] (h.set 44 (7, vs.set 0 (.int (Int32.ofInt 0)))) nc ns (fun o => ∃ t v : Int32, o = (.inl (some (.int v)), h.set 44 (7, vs.set 0 (.int t)), nc, ns) ∧ (((0 ≤ x.toInt ∧ x.toInt ≤ (zwm K R).toInt) ∧ (0 ≤ y.toInt ∧ y.toInt ≤ 3)) ∧ t = 0 ∧ v = zmdc c K x y ∨ ¬ ((0 ≤ x.toInt ∧ x.toInt ≤ (zwm K R).toInt) ∧ (0 ≤ y.toInt ∧ y.toInt ≤ 3)) ∧ t = 1)) := by
    intro nr
    refine zpE_run 2 rfl ?_
    refine zpE_callM rfl rfl k1 (Nat.le_of_ble_eq_true rfl) (zpM_of (m_111 (D := 0) k1 k2)) (fun v h1 nc1 ns1 q8 => ?_) (fun E h1 nc1 ns1 q8 => by cases q8)
    cases q8
    rw [List.set_set, List.set_set]
    exact zpE_end rfl rfl ⟨Int32.ofInt 1, _, rfl, Or.inr ⟨nr, by decide⟩⟩
  refine zpE_run 4 rfl ?_
  refine zpE_callM rfl rfl k1 (Nat.le_of_ble_eq_true rfl) (r_117 (zMo_c k0)) (fun v h1 nc1 ns1 q8 => ?_) (fun E h1 nc1 ns1 q8 => by cases q8)
  cases q8
  refine zpE_run 3 (st' := [.int (zwm K R), .int (Int32.ofInt 0), .int x]) rfl ?_
  refine zpE_call rfl rfl (zpM_of (m_112x (D := 0))) (fun v h1 nc1 ns1 q8 => ?_) (fun E h1 nc1 ns1 q8 => by obtain ⟨_, q8, _⟩ := q8; cases q8)
  obtain ⟨w, q8, hw⟩ := q8
  cases q8
  rw [z0] at hw
  refine zpE_if rfl (fun q1 => ?_) (fun q1 => ?_)
  · replace hw := hw.resolve_left (fun z => by
      rw [z.1] at q1
      exact absurd (zF_e1 q1) (by decide))
    exact no (fun k => hw.2 k.1)
  · replace hw := hw.resolve_right (fun z => zF_e0 q1 z.1)
    have hx := hw.2
    clear q1 hw
    refine zpE_run 3 rfl ?_
    refine zpE_call rfl rfl (zpM_of (m_112x (D := 0))) (fun v h1 nc1 ns1 q8 => ?_) (fun E h1 nc1 ns1 q8 => by obtain ⟨_, q8, _⟩ := q8; cases q8)
    obtain ⟨w, q8, hw⟩ := q8
    cases q8
    rw [z0, z3] at hw
    refine zpE_if rfl (fun q1 => ?_) (fun q1 => ?_)
    · replace hw := hw.resolve_right (fun z => zF_n1 q1 z.1)
      have hy := hw.2
      clear q1 hw
      have fin : ∀ v : Int32, v = zmdc c K x y → ∀ l3 : Option Value, zpE xs N 155 99 [some (.ref 44), some (.int x), some (.int y), l3] [.int v] (h.set 44 (7, vs.set 0 (.int (Int32.ofInt 0)))) nc ns (fun o => ∃ t v : Int32, o = (.inl (some (.int v)), h.set 44 (7, vs.set 0 (.int t)), nc, ns) ∧ (((0 ≤ x.toInt ∧ x.toInt ≤ (zwm K R).toInt) ∧ (0 ≤ y.toInt ∧ y.toInt ≤ 3)) ∧ t = 0 ∧ v = zmdc c K x y ∨ ¬ ((0 ≤ x.toInt ∧ x.toInt ≤ (zwm K R).toInt) ∧ (0 ≤ y.toInt ∧ y.toInt ≤ 3)) ∧ t = 1)) :=
        fun v hv l3 => zpE_end rfl rfl ⟨Int32.ofInt 0, v, rfl, Or.inl ⟨⟨hx, hy⟩, by decide, hv⟩⟩
      refine zpE_run 2 rfl ?_
      refine zpE_callM rfl rfl k1 (Nat.le_of_ble_eq_true rfl) (r_121 (zMo_c k0)) (fun v h1 nc1 ns1 q8 => ?_) (fun E h1 nc1 ns1 q8 => by cases q8)
      cases q8
      refine zpE_run 2 rfl ?_
      refine zpE_if rfl (fun q2 => ?_) (fun q2 => ?_)
      · have y0 := zF_n1 q2
        refine zpE_run 2 rfl ?_
        refine zpE_icmp rfl (fun q3 => ?_) (fun q3 => ?_)
        · have y1 := zF_n1 q3
          refine zpE_run 2 rfl ?_
          refine zpE_icmp rfl (fun q4 => ?_) (fun q4 => ?_)
          · have y2 := zF_n1 q4
            have ez : zmdc c K x y = if zkd c x = Int32.ofInt 2 then Int32.ofInt (-1) else zdo c K x := by
              unfold zmdc
              rw [if_neg y0, if_neg y1, if_neg y2]
            refine zpE_run 2 rfl ?_
            refine zpE_icmp rfl (fun q5 => ?_) (fun q5 => ?_)
            · refine zpE_run 2 rfl ?_
              refine zpE_callM rfl rfl k1 (Nat.le_of_ble_eq_true rfl) (r_123 (zMo_c k0)) (fun v h1 nc1 ns1 q8 => ?_) (fun E h1 nc1 ns1 q8 => by cases q8)
              cases q8
              exact fin _ (by rw [ez, if_neg (zF_n1 q5)]) _
            · exact zpE_run 2 rfl (fin _ (by rw [ez, if_pos (zF_n0 q5)]) _)
          · have y2 := zF_n0 q4
            have ez : zmdc c K x y = if zkd c x = Int32.ofInt 1 then zbm9 c x else Int32.ofInt (-1) := by
              unfold zmdc
              rw [if_neg y0, if_neg y1, if_pos y2]
            refine zpE_run 2 rfl ?_
            refine zpE_icmp rfl (fun q5 => ?_) (fun q5 => ?_)
            · exact zpE_run 2 rfl (fin _ (by rw [ez, if_neg (zF_n1 q5)]) _)
            · refine zpE_run 2 rfl ?_
              refine zpE_callM rfl rfl k1 (Nat.le_of_ble_eq_true rfl) (r_120 (zMo_c k0)) (fun v h1 nc1 ns1 q8 => ?_) (fun E h1 nc1 ns1 q8 => by cases q8)
              cases q8
              exact zpE_run 1 rfl (fin _ (by rw [ez, if_pos (zF_n0 q5)]) _)
        · have y1 := zF_n0 q3
          exact zpE_run 2 rfl (fin _ (by unfold zmdc; rw [if_neg y0, if_pos y1]) _)
      · have y0 := zF_n0 q2
        refine zpE_run 2 rfl ?_
        refine zpE_callM rfl rfl k1 (Nat.le_of_ble_eq_true rfl) (r_118 (zMo_c k0)) (fun v h1 nc1 ns1 q8 => ?_) (fun E h1 nc1 ns1 q8 => by cases q8)
        cases q8
        exact zpE_run 1 rfl (fin _ (by unfold zmdc; rw [if_pos y0]) _)
    · replace hw := hw.resolve_left (fun z => by
        rw [z.1] at q1
        exact absurd (zF_n0 q1) (by decide))
      exact no (fun k => hw.2 k.2)
end ZPV
