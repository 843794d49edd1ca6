/-! A new object, whole. -/
set_option maxRecDepth 10000 in
theorem m_52 {xs : List Int32} {D nc ns : Nat} : zMs xs (D + 6) 52 [.ref 0] [(5, (zcf 5).map (fun q => zdf q.2))] nc ns (fun o => ∃ s a nc' ns', zaL a ∧ s 18 = 0 ∧ s 4 = 0 ∧ nc' ≤ nc + 60 ∧ ns' ≤ ns + 2000 ∧ o = (.inl none, zx s a [], nc', ns')) := by
  refine ⟨_, rfl, m_52a (fun nc' ns' h1 h2 => ?_)⟩
  have lp : ∀ (n : Nat) (i : Int32) (a : Nat → List Int32), zfr [] [15] zs00 za00 zs00 a → (((Int8.ofInt 16).toInt32).toInt - i.toInt).toNat < n → zEs xs (D + 6) 52 92 [some (.ref 0), some (.int i)] [] (zx zs00 a []) nc' ns' (fun o => ∃ s a nc' ns', zaL a ∧ s 18 = 0 ∧ s 4 = 0 ∧ nc' ≤ nc + 60 ∧ ns' ≤ ns + 2000 ∧ o = (.inl none, zx s a [], nc', ns')) := by
    intro n
    induction n with
    | zero =>
      intro i a f hn
      exact absurd hn (Nat.not_lt_zero _)
    | succ n ih =>
      intro i a f hn
      refine zEs_run 2 rfl ?_
      refine zEs_icmp rfl (fun _ => ?_) (fun g => ?_)
      · refine zEs_run 4 rfl ?_
        refine zEs_wv rfl rfl (k_3 f.2.2 (by decide)) (fun E hE => by cases hE) (fun s1 a1 e1 => ?_)
        refine zEs_run 5 rfl ?_
        refine zEs_wv rfl rfl (k_40 e1.2.2) (fun E hE => by cases hE) (fun s2 a2 e2 => ?_)
        refine zEs_end rfl rfl ⟨s2, a2, nc', ns', e2.2.2, ?_, ?_, h1, h2, rfl⟩
        · exact (e2.1 18 (by decide)).trans (e1.1 18 (by decide))
        · exact (e2.1 4 (by decide)).trans (e1.1 4 (by decide))
      · have g : ¬ (Int8.ofInt 16).toInt32 ≤ i := g
        refine zEs_run 6 rfl ?_
        refine zEs_callG rfl rfl (x_26 15 37 36 rfl rfl (fun _ => rfl) f.2.2) (fun v h9 nc1 ns1 q => ?_) (fun E h9 nc1 ns1 q => ?_)
        · rcases q with ⟨v', s2, a2, hv, f2, q⟩ | ⟨E, hE, q⟩
          · cases q
            cases (show v = none from hv)
            have e : s2 = zs00 := funext (fun k => f2.1 k (by simp))
            subst e
            refine zEs_run 2 rfl ?_
            exact ih _ _ (zfr_tr f f2) (Nat.lt_of_lt_of_le (zdec g) (Nat.le_of_lt_succ hn))
          · cases hE
        · rcases q with ⟨_, _, _, _, _, q⟩ | ⟨_, hE, _⟩
          · cases q
          · cases hE
  refine zEs_run 2 rfl ?_
  exact lp _ _ _ (zfr_rf za00_L) (Nat.lt_succ_self _)
