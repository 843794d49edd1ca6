/-! The class's methods that want more than opaque ints: by hand. -/
def zRh (v : Option Value) : Prop := ∃ k : Nat, k ≤ 64 ∧ v = some (.double (FP.ddiv (FP.i2d (Int32.ofNat k)) 4634204016564240384))
/-- pass: the tick stays small -/
def zPt (Es W V : List Nat) (s : Nat → Int32) (a : Nat → List Int32) (T : zH) (nc ns : Nat) : zO → Prop := fun o => (∃ v s' a', zRi v ∧ zfr W V s a s' a' ∧ (0 ≤ (s' 4).toInt ∧ (s' 4).toInt ≤ 2000) ∧ o = (.inl v, zx s' a' T, nc, ns)) ∨ ∃ E, E ∈ Es ∧ o = (.inr E, zx s a T, nc + 1, ns + 6)
theorem zdd_ok : (List.range 65).all (fun k => decide ((FP.ddiv (FP.i2d (Int32.ofNat k)) 4634204016564240384) &&& 0x7fffffffffffffff ≤ 0x7ff0000000000000) && decide ((FP.dmul 4634204016564240384 (FP.ddiv (FP.i2d (Int32.ofNat k)) 4634204016564240384)) &&& 0x7fffffffffffffff ≤ 0x7ff0000000000000)) = true := by decide +kernel
theorem zdd_1 {k : Nat} (h : k ≤ 64) : (FP.ddiv (FP.i2d (Int32.ofNat k)) 4634204016564240384) &&& 0x7fffffffffffffff ≤ 0x7ff0000000000000 ∧ (FP.dmul 4634204016564240384 (FP.ddiv (FP.i2d (Int32.ofNat k)) 4634204016564240384)) &&& 0x7fffffffffffffff ≤ 0x7ff0000000000000 := by
  have h1 := List.all_eq_true.mp zdd_ok k (List.mem_range.mpr (by omega))
  rw [Bool.and_eq_true, decide_eq_true_eq, decide_eq_true_eq] at h1
  exact h1
section ZK
variable {xs : List Int32} {D nc ns y pc nx k yy m c : Nat} {s : Nat → Int32} {a : Nat → List Int32} {T h : zH} {L : zL} {r : List Value} {P : zO → Prop}
set_option maxRecDepth 10000
theorem h_7 (hL : zaL a) {x1 : Int32} (h1 : 0 ≤ x1.toInt) (h2 : x1.toInt < (s 2).toInt) : zMs xs (D + 0) 7 [.ref 1, .int x1] (zx s a T) nc ns (zPr (fun v => v = some (.int 1)) [] (zx s a T) nc ns) := by
  have hzz := zero_z
  refine ⟨_, rfl, ?_⟩
  refine zEs_run 1 rfl ?_
  refine zEs_if rfl (fun g => ?_) (fun g => ?_)
  · have z := zF_lt_t g
    exfalso
    omega
  · refine zEs_run 3 rfl ?_
    refine zEs_icmp rfl (fun g => ?_) (fun g => ?_)
    · have z := zF_ge_t g
      exfalso
      omega
    · refine zEs_run 2 rfl ?_
      exact zEs_bret rfl (Or.inr rfl) (Or.inl ⟨_, rfl, rfl⟩)
theorem kn_66 (hL : zaL a) {x1 : Int32} (hx1 : 0 ≤ x1.toInt ∧ x1.toInt < (s 2).toInt) : zMs xs (D + 1) 66 [.ref 0, .int x1] (zx s a T) nc ns (zPr zRi [] (zx s a T) nc ns) := by
  refine ⟨_, rfl, ?_⟩
  refine zEs_run 3 rfl ?_
  refine zEs_cr rfl rfl (h_7 hL hx1.1 hx1.2) (fun E hE => by cases hE) (fun v hv => ?_)
  cases (show v = _ from hv)
  refine zEs_if rfl (fun _ => ?_) (fun g => ?_)
  · refine zEs_run 4 rfl ?_
    refine zEs_ci rfl rfl (x_25 0 3 2 rfl rfl hL) (fun E hE => by cases hE) (fun v3 => ?_)
    exact zEs_end rfl rfl (Or.inl ⟨_, ⟨_, rfl⟩, rfl⟩)
  · exact absurd (show (1 : Int32) = 0 from g) (by decide)
theorem y_85 (hL : zaL a) {x1 : Int32} : zMs xs (D + 0) 85 [.int x1] (zx s a T) nc ns (zPr (fun v => v = none ∧ 1 ≤ x1.toInt ∧ x1.toInt ≤ 100) [0] (zx s a T) nc ns) := by
  refine ⟨_, rfl, ?_⟩
  refine zEs_run 2 rfl ?_
  refine zEs_icmp rfl (fun _ => ?_) (fun g1 => ?_)
  · exact zEs_end rfl rfl (Or.inr ⟨0, by decide, rfl⟩)
  · refine zEs_run 2 rfl ?_
    refine zEs_icmp rfl (fun g2 => ?_) (fun _ => ?_)
    · have z1 := zF_lt_f g1
      have z2 := zF_le_t g2
      have e1 : (Int32.ofInt 1).toInt = 1 := by decide
      have e2 : ((Int8.ofInt 100).toInt32).toInt = 100 := by decide
      exact zEs_end rfl rfl (Or.inl ⟨_, ⟨rfl, by omega, by omega⟩, rfl⟩)
    · exact zEs_end rfl rfl (Or.inr ⟨0, by decide, rfl⟩)
theorem zadd_s {x z : Int32} (h1 : 0 ≤ x.toInt) (h2 : x.toInt ≤ 3000) (h3 : 0 ≤ z.toInt) (h4 : z.toInt ≤ 3000) : (x + z).toInt = x.toInt + z.toInt := by
  rw [Int32.toInt_add, Int.bmod_def]
  split <;> omega
theorem kn_79 (hL : zaL a) (ht : 0 ≤ (s 4).toInt ∧ (s 4).toInt ≤ 2000) {x1 : Int32} (hx1 : 1 ≤ x1.toInt ∧ x1.toInt ≤ 100) : zMs xs (D + 4) 79 [.ref 0, .int x1] (zx s a T) nc ns (zPo zRi [] [] [5] s a T nc ns) := by
  refine ⟨_, rfl, ?_⟩
  refine zEs_run 1 rfl ?_
  refine zEs_cv rfl rfl (kn_85 hL hx1) (fun E hE => by cases hE) ?_
  obtain ⟨h1, h2⟩ := hx1
  refine zEs_run 3 rfl ?_
  refine zEs_wi rfl rfl (k_48 hL (by rw [zadd_s ht.1 (by omega) (by omega) (by omega)]; omega)) (fun E hE => by cases hE) (fun v1 s1 a1 e1 => ?_)
  exact zEs_end rfl rfl (Or.inl ⟨_, _, _, ⟨_, rfl⟩, e1, rfl⟩)
theorem k_63 (hL : zaL a) (ht : 0 ≤ (s 4).toInt ∧ (s 4).toInt ≤ 2000) {x1 : Int32} : zMs xs (D + 6) 63 [.ref 0, .int x1] (zx s a T) nc ns (zPt [0, 2] [4, 11, 12, 13, 17] [2, 3, 4, 12, 13, 14, 17] s a T nc ns) := by
  have hzz := zero_z
  refine ⟨_, rfl, ?_⟩
  refine zEs_run 1 rfl ?_
  refine zEs_cr rfl rfl (y_85 hL) (fun E hE => ⟨rfl, Or.inr ⟨E, (show ∀ E ∈ ([0] : List Nat), E ∈ ([0, 2] : List Nat) by decide) E hE, rfl⟩⟩) (fun v hv => ?_)
  obtain ⟨rfl, h1, h2⟩ := hv
  refine zEs_run 6 rfl ?_
  refine zEs_icmp rfl (fun gz => ?_) (fun _ => ?_)
  · have z1 : (s 4 + x1).toInt ≤ ((Int16.ofInt 2000).toInt32).toInt := zF_le_t gz
    have e1 : ((Int16.ofInt 2000).toInt32).toInt = 2000 := by decide
    rw [e1] at z1
    refine zEs_run 2 rfl ?_
    have lp : ∀ (n : Nat) (i : Int32) (s1 : Nat → Int32) (a1 : Nat → List Int32), zfr [4, 11, 12, 13, 17] [2, 3, 4, 12, 13, 14, 17] s a s1 a1 → s1 4 = s 4 + i → 0 ≤ i.toInt → i.toInt ≤ x1.toInt → (x1.toInt - i.toInt).toNat < n → zEs xs (D + 6) 63 31 [some (.ref 0), some (.int x1), some (.int i)] [] (zx s1 a1 T) nc ns (zPt [0, 2] [4, 11, 12, 13, 17] [2, 3, 4, 12, 13, 14, 17] s a T nc ns) := by
      intro n
      induction n with
      | zero =>
        intro i s1 a1 f1 e i0 i1 hn
        exact absurd hn (Nat.not_lt_zero _)
      | succ n ih =>
        intro i s1 a1 f1 e i0 i1 hn
        refine zEs_run 2 rfl ?_
        refine zEs_icmp rfl (fun g => ?_) (fun g => ?_)
        · have z2 := zF_ge_t g
          have e2 : i = x1 := Int32.toInt_inj.mp (by omega)
          subst e2
          refine zEs_run 3 rfl ?_
          refine zEs_end rfl rfl (Or.inl ⟨_, _, _, ⟨_, rfl⟩, f1, ?_, rfl⟩)
          rw [e]
          have := zadd_s ht.1 (by omega) (by omega) (show i.toInt ≤ 3000 by omega)
          omega
        · have g : ¬ x1 ≤ i := g
          have hi := zinc_z (Int32.not_le.mp g)
          have z2 := znl_z g
          refine zEs_run 2 rfl ?_
          refine zEs_callG rfl rfl (k_46 f1.2.2) (fun v h9 nc9 ns9 q => ?_) (fun E h9 nc9 ns9 q => ?_)
          · rcases q with ⟨v', s2, a2, hv, f2, q⟩ | ⟨E, hE, q⟩
            · cases q
              cases (show v = none from hv)
              have f3 : zfr [4, 11, 12, 13, 17] [2, 3, 4, 12, 13, 14, 17] s a s2 a2 := zfr_tr (zfr_s (k := 4) f1 (by decide)) (zfr_mo f2 (by decide) (by decide))
              have e3 : s2 4 = s 4 + (i + Int32.ofInt 1) := (f2.1 4 (by decide)).trans (by
                show s1 4 + Int32.ofInt 1 = _
                rw [e, Int32.add_assoc])
              refine zEs_run 1 rfl ?_
              refine zEs_wv rfl rfl (k_105 f2.2.2) (fun E hE => by cases hE) (fun s3 a3 f4 => ?_)
              refine zEs_run 2 rfl ?_
              exact ih _ _ _ (zfr_tr f3 (zfr_mo f4 (by decide) (by decide))) ((f4.1 4 (by decide)).trans e3) (by omega) (by omega) (by omega)
            · cases q
          · rcases q with ⟨v', s2, a2, hv, f2, q⟩ | ⟨E, hE, q⟩
            · cases q
            · cases hE
    exact lp _ _ _ _ (zfr_rf hL) (by show s 4 = s 4 + Int32.ofInt 0; rw [show Int32.ofInt 0 = 0 from by decide, Int32.add_zero]) (by decide) (by
      have e0 : (Int32.ofInt 0).toInt = 0 := by decide
      omega) (Nat.lt_succ_self _)
  · exact zEs_end rfl rfl (Or.inr ⟨2, by decide, rfl⟩)
end ZK
