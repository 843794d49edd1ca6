section ZPS
variable {xs : List Int32} {N : Nat} {s : Nat → Int32} {a : Nat → List Int32} {T : zH} {nc ns : Nat} {P : zO → Prop}
def zP53 (s : Nat → Int32) (a : Nat → List Int32) (T : zH) (x1 x2 : Int32) (nc ns : Nat) : zO → Prop := fun o => (¬ zCd x1 x2 ∧ o = (.inr 0, zx s a T, nc + 1, ns + 6)) ∨ (zCd x1 x2 ∧ ∃ (k r : Nat) (s' : Nat → Int32) (a' : Nat → List Int32), x1 = Int32.ofNat k ∧ x2 = Int32.ofNat r ∧ zRC s' a' k r ∧ (a' 0).length = 16 ∧ zaL a' ∧ s' 4 = s 4 ∧ o = (.inl (some (.int (Int32.ofNat (k + r)))), zx s' a' T, nc, ns))
theorem p_53 (hL : zaL a) (h0 : (a 0).length = 16) (h1 : (a 1).length = 64) {x1 x2 : Int32} : zpM xs N 53 [.ref 0, .int x1, .int x2] (zx s a T) nc ns (zP53 s a T x1 x2 nc ns) := by
  have e4 : (Int32.ofInt 4).toInt = 4 := by decide
  have e10 : ((Int8.ofInt 10).toInt32).toInt = 10 := by decide
  have e6 : ((Int8.ofInt 6).toInt32).toInt = 6 := by decide
  intro L0 e
  cases e
  have c11 : ¬ zCd x1 x2 → zpE xs N 53 11 [some (.ref 0), some (.int x1), some (.int x2)] [] (zx s a T) nc ns (zP53 s a T x1 x2 nc ns) := fun nr => zpE_end rfl rfl (Or.inl ⟨nr, rfl⟩)
  have c32 : ¬ zCd x1 x2 → zpE xs N 53 32 [some (.ref 0), some (.int x1), some (.int x2)] [] (zx s a T) nc ns (zP53 s a T x1 x2 nc ns) := fun nr => zpE_end rfl rfl (Or.inl ⟨nr, rfl⟩)
  refine zpE_run 2 rfl ?_
  refine zpE_icmp rfl (fun q1 => ?_) (fun q1 => ?_)
  · have z := zF_lt_t q1
    exact c11 (fun k => by
      have := k.1.1
      omega)
  · have z1 := zF_lt_f q1
    refine zpE_run 2 rfl ?_
    refine zpE_icmp rfl (fun q2 => ?_) (fun q2 => ?_)
    · have z2 := zF_le_t q2
      refine zpE_run 2 rfl ?_
      refine zpE_icmp rfl (fun q3 => ?_) (fun q3 => ?_)
      · have z := zF_lt_t q3
        exact c32 (fun k => by
          have := k.2.1.1
          omega)
      · have z3 := zF_lt_f q3
        refine zpE_run 2 rfl ?_
        refine zpE_icmp rfl (fun q4 => ?_) (fun q4 => ?_)
        · have z4 := zF_le_t q4
          refine zpE_run 1 rfl ?_
          refine zpE_call rfl rfl (zpM_of (x_2 (D := 0) (r := x2) (by omega) (by omega))) (fun v h9 nc1 ns1 q8 => ?_) (fun E h9 nc1 ns1 q8 => by cases q8)
          cases q8
          refine zpE_run 1 rfl ?_
          refine zpE_icmp rfl (fun q5 => ?_) (fun q5 => ?_)
          · have z5 := zF_ge_t q5
            have hC : zCd x1 x2 := ⟨⟨by omega, by omega⟩, ⟨by omega, by omega⟩, z5⟩
            obtain ⟨k, r, hm, rfl, rfl, hk, hr⟩ := zCd_ok hC
            refine zpE_run 4 rfl ?_
            refine zpE_call rfl rfl (p_3 hk hr (zcds_dl _ hm) h0 h1) (fun v h9 nc1 ns1 q8 => ?_) (fun E h9 nc1 ns1 q8 => by obtain ⟨_, q8, _⟩ := q8; cases q8)
            obtain ⟨a1, q8, g1, g2, g3, g4⟩ := q8
            cases q8
            have hL1 : zaL a1 := by
              intro j
              by_cases j0 : j = 0
              · rw [j0, g2]
                decide
              · by_cases j1 : j = 1
                · rw [j1, g3, zts_len]
                  decide
                · rw [g4 j j0 j1]
                  exact hL j
            refine zpE_run 5 rfl ?_
            refine zpE_call rfl rfl (zpM_of (k_40 (D := 0) hL1)) (fun v h9 nc1 ns1 q8 => ?_) (fun E h9 nc1 ns1 q8 => ?_)
            · rcases q8 with ⟨v', s2, a2, hv, f2, q8⟩ | ⟨E, hE, q8⟩
              · cases q8
                cases (show v = none from hv)
                refine zpE_run 3 rfl ?_
                refine zpE_call rfl rfl (p_27 17 41 40 (fun _ => rfl) (fun _ => rfl) (fun _ _ => rfl) (f2.2.2 17)) (fun v h9 nc1 ns1 q8 => ?_) (fun E h9 nc1 ns1 q8 => by cases q8)
                cases q8
                have hL3 : zaL (zup a2 17 (List.replicate (a2 17).length (Int32.ofInt 0))) := by
                  intro j
                  show (if j = 17 then _ else a2 j).length < _
                  split
                  · rw [List.length_replicate]
                    exact f2.2.2 17
                  · exact f2.2.2 j
                refine zpE_run 2 rfl ?_
                refine zpE_call rfl rfl (zpM_of (k_30 (D := 0) hL3)) (fun v h9 nc1 ns1 q8 => ?_) (fun E h9 nc1 ns1 q8 => ?_)
                · rcases q8 with ⟨v', s4, a4, hv, f4, q8⟩ | ⟨E, hE, q8⟩
                  · cases q8
                    cases (show v = none from hv)
                    have s0 : s4 0 = Int32.ofNat k := (f4.1 0 (by decide)).trans (f2.1 0 (by decide))
                    have s1 : s4 1 = Int32.ofNat r := (f4.1 1 (by decide)).trans (f2.1 1 (by decide))
                    have s2' : s4 2 = Int32.ofNat (k + r) := (f4.1 2 (by decide)).trans (f2.1 2 (by decide))
                    have b0 : a4 0 = a1 0 := (f4.2.1 0 (by decide)).trans (f2.2.1 0 (by decide))
                    have b1 : a4 1 = a1 1 := (f4.2.1 1 (by decide)).trans (f2.2.1 1 (by decide))
                    refine zpE_run 3 (st' := [.int (s4 2)]) rfl ?_
                    rw [s2']
                    exact zpE_end rfl rfl (Or.inr ⟨hC, k, r, s4, a4, rfl, rfl, ⟨hm, s0, s1, s2', by rw [b0]; exact g1, by rw [b1]; exact g3⟩, by rw [b0]; exact g2, f4.2.2, (f4.1 4 (by decide)).trans (f2.1 4 (by decide)), rfl⟩)
                  · cases hE
                · rcases q8 with ⟨_, _, _, _, _, q8⟩ | ⟨_, hE, _⟩
                  · cases q8
                  · cases hE
              · cases hE
            · rcases q8 with ⟨_, _, _, _, _, q8⟩ | ⟨_, hE, _⟩
              · cases q8
              · cases hE
          · have z5 := zF_ge_f q5
            exact zpE_end rfl rfl (Or.inl ⟨fun k => absurd k.2.2 (Int.not_le.mpr z5), rfl⟩)
        · have z := zF_le_f q4
          exact c32 (fun k => by
            have := k.2.1.2
            omega)
    · have z := zF_le_f q2
      exact c11 (fun k => by
        have := k.1.2
        omega)
end ZPS
