/-! health, by hand: the count of good words is at most 64. -/
section ZK
variable {xs : List Int32} {D nc ns y pc nx k yy m c : Nat} {s : Nat → Int32} {a : Nat → List Int32} {T h : zH} {L : zL} {r : List Value} {P : zO → Prop} {x1 : Int32}
theorem zEs_ddiv {x z : UInt64} (h1 : zat (zmc y) pc = some (.ddiv, nx, k, yy, m, c)) (hf : (FP.ddiv x z) &&& 0x7fffffffffffffff ≤ 0x7ff0000000000000) (g : zEs xs D y nx L (.double (FP.ddiv x z) :: r) h nc ns P) : zEs xs D y pc L (.double z :: .double x :: r) h nc ns P :=
  zEs_step (dc := 0) (ds := 0) h1 (show zbinD FP.ddiv nx L (.double z :: .double x :: r) h = some (.inl (nx, L, .double (FP.ddiv x z) :: r, h, 0, 0)) from if_pos hf) g
theorem zEs_dmul {x z : UInt64} (h1 : zat (zmc y) pc = some (.dmul, nx, k, yy, m, c)) (hf : (FP.dmul x z) &&& 0x7fffffffffffffff ≤ 0x7ff0000000000000) (g : zEs xs D y nx L (.double (FP.dmul x z) :: r) h nc ns P) : zEs xs D y pc L (.double z :: .double x :: r) h nc ns P :=
  zEs_step (dc := 0) (ds := 0) h1 (show zbinD FP.dmul nx L (.double z :: .double x :: r) h = some (.inl (nx, L, .double (FP.dmul x z) :: r, h, 0, 0)) from if_pos hf) g
set_option maxRecDepth 10000
theorem c_75 (hL : zaL a) (hP : ∀ k : Nat, k ≤ 64 → P (.inl (some (.double (FP.ddiv (FP.i2d (Int32.ofNat k)) 4634204016564240384))), zx s a T, nc, ns)) : zEs xs (D + 4) 75 4 [some (.ref 0), some (.int x1), none, none, none] [] (zx s a T) nc ns P := by
  refine zEs_run 4 rfl ?_
  have e64 : ((Int8.ofInt 64).toInt32).toInt = 64 := by decide
  have lp : ∀ (n : Nat) (i : Int32) (j : Nat) (o : Option Value), 0 ≤ i.toInt → (j : Int) ≤ i.toInt → i.toInt ≤ 64 → (((Int8.ofInt 64).toInt32).toInt - i.toInt).toNat < n → zEs xs (D + 4) 75 8 [some (.ref 0), some (.int x1), some (.int (Int32.ofNat j)), some (.int i), o] [] (zx s a T) nc ns P := by
    intro n
    induction n with
    | zero =>
      intro i j o i0 i1 i2 hn
      exact absurd hn (Nat.not_lt_zero _)
    | succ n ih =>
      intro i j o i0 i1 i2 hn
      refine zEs_run 2 rfl ?_
      refine zEs_icmp rfl (fun g => ?_) (fun g => ?_)
      · refine zEs_run 3 rfl ?_
        refine zEs_ddiv rfl (zdd_1 (k := j) (by omega)).1 ?_
        exact zEs_end rfl rfl (hP j (by omega))
      · have g : ¬ (Int8.ofInt 64).toInt32 ≤ i := g
        have hi := zinc_z (Int32.not_le.mp g)
        have z2 := znl_z g
        have J : ∀ (j' : Nat) (o : Option Value), (j' : Int) ≤ i.toInt + 1 → zEs xs (D + 4) 75 50 [some (.ref 0), some (.int x1), some (.int (Int32.ofNat j')), some (.int i), o] [] (zx s a T) nc ns P := by
          intro j' o hj
          refine zEs_run 2 rfl ?_
          exact ih _ _ _ (by omega) (by omega) (by omega) (by omega)
        refine zEs_run 8 rfl ?_
        refine zEs_cb rfl rfl (k_95 hL) (fun E hE => by cases hE) (fun v1 hb1 => ?_)
        refine zEs_if rfl (fun _ => ?_) (fun _ => ?_)
        · exact J _ _ (by omega)
        · refine zEs_run 4 rfl ?_
          refine zEs_ci rfl rfl (k_92 hL) (fun E hE => by cases hE) (fun v2 => ?_)
          refine zEs_cb rfl rfl (k_10 hL) (fun E hE => by cases hE) (fun v3 hb3 => ?_)
          refine zEs_if rfl (fun _ => ?_) (fun _ => ?_)
          · exact J _ _ (by omega)
          · refine zEs_run 1 rfl ?_
            have e : Int32.ofNat j + Int32.ofInt 1 = Int32.ofNat (j + 1) := (nI_succ j).symm
            rw [e]
            exact J _ _ (by omega)
  exact lp _ _ 0 _ (by decide) (by decide) (by decide) (Nat.lt_succ_self _)
theorem kn_75 (hL : zaL a) (hx1 : 0 ≤ x1.toInt ∧ x1.toInt ≤ 1) : zMs xs (D + 4) 75 [.ref 0, .int x1] (zx s a T) nc ns (zPr zRh [] (zx s a T) nc ns) := by
  refine ⟨_, rfl, ?_⟩
  refine zEs_run 1 rfl ?_
  refine zEs_cv rfl rfl (kn_83 hL hx1) (fun E hE => by cases hE) ?_
  exact c_75 hL (fun k hk => Or.inl ⟨_, ⟨k, hk, rfl⟩, rfl⟩)
end ZK
