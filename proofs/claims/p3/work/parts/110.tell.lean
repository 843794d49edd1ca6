/-! tell. -/
def zRr (v : Option Value) : Prop := ∃ q : Nat, v = some (.ref q)
/-- cells are only added -/
def zPa (R : Option Value → Prop) (Es : List Nat) (h : zH) (nc ns : Nat) : zO → Prop := fun o => (∃ v U nc' ns', R v ∧ nc' ≤ nc + 10 ∧ ns' ≤ ns + 100 ∧ o = (.inl v, h ++ U, nc', ns')) ∨ ∃ E, E ∈ Es ∧ o = (.inr E, h, nc + 1, ns + 6)
section ZTL
variable {xs : List Int32} {D nc ns : Nat} {s : Nat → Int32} {a : Nat → List Int32} {T : zH} {P : zO → Prop}
theorem zbyt_set {bs : List Value} {j : Nat} {v : Value} (h : ∀ x ∈ bs, zbyt x = true) (hv : zbyt v = true) : ∀ x ∈ bs.set j v, zbyt x = true := by
  intro x hx
  rcases List.mem_or_eq_of_mem_set hx with q | rfl
  · exact h x q
  · exact hv
set_option maxRecDepth 10000
theorem k_76 (hL : zaL a) {x1 x2 : Int32} : zMs xs (D + 6) 76 [.ref 0, .int x1, .int x2] (zx s a T) nc ns (zPa zRr [1] (zx s a T) nc ns) := by
  refine ⟨_, rfl, ?_⟩
  refine zEs_run 2 rfl ?_
  refine zEs_cv rfl rfl (k_84 hL) (fun E hE => ⟨rfl, Or.inr ⟨E, hE, rfl⟩⟩) ?_
  refine zEs_run 2 rfl ?_
  have e8 : ((Int8.ofInt 8).toInt32).toInt = 8 := by decide
  generalize hG : (zx s a T).length = g
  have lp : ∀ (n j : Nat) (bs : List Value), j ≤ 8 → bs.length = 16 → (∀ x ∈ bs, zbyt x = true) → 8 - j < n → zEs xs (D + 6) 76 16 [some (.ref 0), some (.int x1), some (.int x2), some (.ref g), some (.int (Int32.ofNat j))] [] (zsb (zx s a T) j (.int 0) bs) (nc + 2) (ns + 20) (zPa zRr [1] (zx s a T) nc ns) := by
    intro n
    induction n with
    | zero =>
      intro j bs h1 h2 h3 hn
      exact absurd hn (Nat.not_lt_zero _)
    | succ n ih =>
      intro j bs h1 h2 h3 hn
      have ej : (Int32.ofNat j).toInt = (j : Int) := Int32.toInt_ofNat_of_lt (by omega)
      refine zEs_run 2 rfl ?_
      refine zEs_icmp rfl (fun g1 => ?_) (fun g1 => ?_)
      · refine zEs_run 1 rfl ?_
        subst hG
        refine zEs_callG rfl (show zcallV 0 8 222 50 [.ref (zx s a T).length] (zsb (zx s a T) j (.int 0) bs) = _ from zcallV_eq rfl zsb0 (by decide)) (m_222 h2 (by omega) (List.all_eq_true.mpr (fun x hx => h3 x (List.mem_of_mem_take hx)))) (fun v h9 nc1 ns1 q => ?_) (fun E h9 nc1 ns1 q => by obtain ⟨U, q⟩ := q; cases q)
        obtain ⟨U, q⟩ := q
        cases q
        exact zEs_end rfl rfl (Or.inl ⟨_, U, _, _, ⟨_, rfl⟩, (by show nc + 2 + 2 + 0 ≤ nc + 10; omega), (by show ns + 20 + (4 + j) + 0 ≤ ns + 100; omega), rfl⟩)
      · have z := zF_ge_f g1
        rw [ej, e8] at z
        refine zEs_run 4 rfl ?_
        refine zEs_ci rfl rfl (k_88 (T := T ++ [(8, [.ref ((zx s a T).length + 1), .int 0, .int 0, .int (Int32.ofNat j)]), (102, bs)]) hL) (fun E hE => by cases hE) (fun v1 => ?_)
        refine zEs_run 2 rfl ?_
        refine zEs_cr rfl rfl (k_98 (T := T ++ [(8, [.ref ((zx s a T).length + 1), .int 0, .int 0, .int (Int32.ofNat j)]), (102, bs)]) hL) (fun E hE => by cases hE) (fun v hv => ?_)
        obtain ⟨x, hx, rfl⟩ := hv
        subst hG
        refine zEs_callG rfl (show zcallV 1 8 220 39 [.int x, .ref (zx s a T).length] (zsb (zx s a T) j (.int 0) bs) = _ from zcallV_eq rfl zsb0 (by decide)) (m_220 h2 (by omega) hx) (fun v h9 nc1 ns1 q => ?_) (fun E h9 nc1 ns1 q => by cases q)
        cases q
        refine zEs_run 3 rfl ?_
        rw [show Int32.ofNat j + Int32.ofInt 1 = Int32.ofNat (j + 1) from (nI_succ j).symm]
        exact ih (j + 1) _ (by omega) (by simp [h2]) (zbyt_set h3 (by rcases hx with rfl | rfl | rfl | rfl | rfl <;> decide)) (by omega)
  have e4 : (zcf 8).length = 4 := rfl
  subst hG
  refine zEs_callG rfl rfl m_221 (fun v h9 nc1 ns1 q => ?_) (fun E h9 nc1 ns1 q => by cases q)
  cases q
  refine zEs_run 3 rfl ?_
  exact lp _ 0 _ (by omega) (by simp) (fun x hx => by rw [List.eq_of_mem_replicate hx]; decide) (Nat.lt_succ_self _)
end ZTL
