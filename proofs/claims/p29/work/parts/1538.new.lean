/-! A new object, whole, with its code. -/
set_option maxRecDepth 10000 in
theorem m_52c {xs : List Int32} {D nc ns : Nat} : zMs xs (D + 6) 52 [.ref 0] [(5, (zcf 5).map (fun q => zdf q.2))] nc ns (fun o => ∃ s a nc' ns', zaL a ∧ (zRC s a 8 5 ∧ (a 0).length = 16) ∧ s 4 = 0 ∧ nc' ≤ nc + 60 ∧ ns' ≤ ns + 2000 ∧ o = (.inl none, zx s a [], nc', ns')) := by
  refine ⟨_, rfl, m_52a (fun nc' ns' h1 h2 => ?_)⟩
  have lp : ∀ (n : Nat) (i : Int32) (a : Nat → List Int32), zfr [] [15] zs00 za00 zs00 a → (((Int8.ofInt 16).toInt32).toInt - i.toInt).toNat < n → zEs xs (D + 6) 52 92 [some (.ref 0), some (.int i)] [] (zx zs00 a []) nc' ns' (fun o => ∃ s a nc' ns', zaL a ∧ (zRC s a 8 5 ∧ (a 0).length = 16) ∧ s 4 = 0 ∧ nc' ≤ nc + 60 ∧ ns' ≤ ns + 2000 ∧ o = (.inl none, zx s a [], nc', ns')) := by
    intro n
    induction n with
    | zero =>
      intro i a f hn
      exact absurd hn (Nat.not_lt_zero _)
    | succ n ih =>
      intro i a f hn
      refine zEs_run 2 rfl ?_
      refine zEs_icmp rfl (fun _ => ?_) (fun g => ?_)
      · have l0 : (a 0).length = 16 := by
          rw [f.2.1 0 (by decide)]
          decide
        have l1 : (a 1).length = 64 := by
          rw [f.2.1 1 (by decide)]
          decide
        refine zEs_run 4 rfl ?_
        refine zEs_callG rfl rfl (zMs_and (zMs_mono (show 2 ≤ D + 5 by omega) (k_3 (D := 0) (x1 := Int32.ofNat 8) (x2 := Int32.ofNat 5) f.2.2 (by decide))) (fun N => p_3 (k := 8) (r := 5) (by decide) (Or.inr (Or.inl rfl)) (zcds_dl (8, 5) (by decide)) l0 l1)) (fun v h9 nc1 ns1 q => ?_) (fun E h9 nc1 ns1 q => by obtain ⟨-, _, q, _⟩ := q; cases q)
        obtain ⟨-, a1, q, g1, g2, g3, g4⟩ := q
        cases q
        have hL1 : zaL a1 := by
          intro j
          by_cases j0 : j = 0
          · rw [j0, g2]
            decide
          · by_cases j1 : j = 1
            · rw [j1, g3, zts_len]
              decide
            · rw [g4 j j0 j1]
              exact f.2.2 j
        refine zEs_run 5 rfl ?_
        refine zEs_wv rfl rfl (k_40 hL1) (fun E hE => by cases hE) (fun s2 a2 e2 => ?_)
        refine zEs_end rfl rfl ⟨s2, a2, nc', ns', e2.2.2, ⟨⟨by decide, (e2.1 0 (by decide)).trans rfl, (e2.1 1 (by decide)).trans rfl, (e2.1 2 (by decide)).trans rfl, ?_, ?_⟩, ?_⟩, ?_, h1, h2, rfl⟩
        · rw [e2.2.1 0 (by decide)]
          exact g1
        · rw [e2.2.1 1 (by decide)]
          exact g3
        · rw [e2.2.1 0 (by decide)]
          exact g2
        · exact (e2.1 4 (by decide)).trans rfl
      · have g : ¬ (Int8.ofInt 16).toInt32 ≤ i := g
        refine zEs_run 6 rfl ?_
        refine zEs_callG rfl rfl (x_26 15 37 36 rfl rfl (fun _ => rfl) f.2.2) (fun v h9 nc1 ns1 q => ?_) (fun E h9 nc1 ns1 q => ?_)
        · rcases q with ⟨v', s2, a2, hv, f2, q⟩ | ⟨E, hE, q⟩
          · cases q
            cases (show v = none from hv)
            have e : s2 = zs00 := funext (fun k => f2.1 k (by simp))
            subst e
            refine zEs_run 2 rfl ?_
            exact ih _ _ (zfr_tr f f2) (Nat.lt_of_lt_of_le (zdec g) (Nat.le_of_lt_succ hn))
          · cases hE
        · rcases q with ⟨_, _, _, _, _, q⟩ | ⟨_, hE, _⟩
          · cases q
          · cases hE
  refine zEs_run 2 rfl ?_
  exact lp _ _ _ (zfr_rf za00_L) (Nat.lt_succ_self _)
