/-! The class's methods: written by wip/gen/cls.py out of the rows. Ints are opaque: whatever they are, the method comes to an end, and changes what it may. -/
theorem znz {x : Int32} (g : zcn9 .le x 0) : ¬ x = 0 := fun e => g (by rw [e]; exact Int32.le_refl _)
section ZK
variable {xs : List Int32} {D nc ns : Nat} {s : Nat → Int32} {a : Nat → List Int32} {T : zH}
set_option maxRecDepth 10000
theorem k_4 (hL : zaL a) (hr : (s 1).toInt < 2147483000) : zMs xs (D + 1) 4 [.ref 1] (zx s a T) nc ns (zPo zRv [] [] [0] s a T nc ns) := by
  refine ⟨_, rfl, ?_⟩
  have f0 : zfr [] [0] s a s a := zfr_rf hL
  have c4 : ∀ (n4 : Nat) (i4_1 : Int32) (i4_2 : Int32) (o4_3 : Option Value) (s4 : Nat → Int32) (a4 : Nat → List Int32) (f4 : zfr [] [0] s a s4 a4), (((s 1)).toInt + 1 - (i4_2).toInt).toNat < n4 → zEs xs (D + 1) 4 4 [some (.ref 1), some (.int i4_1), some (.int i4_2), o4_3] [] (zx s4 a4 T) nc ns (zPo zRv [] [] [0] s a T nc ns) := by
    intro n4
    induction n4 with
    | zero =>
      intro i4_1 i4_2 o4_3 s4 a4 f4 hn4
      exact absurd hn4 (Nat.not_lt_zero _)
    | succ n4 ih4 =>
      intro i4_1 i4_2 o4_3 s4 a4 f4 hn4
      refine zEs_run 3 rfl ?_
      refine zEs_icmp rfl (fun g4 => ?_) (fun g4 => ?_)
      · skip
        exact zEs_end rfl rfl (Or.inl ⟨_, _, _, rfl, f4, rfl⟩)
      · skip
        have g4 : ¬ (s4 1) < i4_2 := g4
        rw [f4.1 1 (by decide)] at g4
        have c58 : ∀ (i58_1 : Int32) (i58_3 : Int32) (s58 : Nat → Int32) (a58 : Nat → List Int32) (f58 : zfr [] [0] s a s58 a58), zEs xs (D + 1) 4 58 [some (.ref 1), some (.int i58_1), some (.int i4_2), some (.int i58_3)] [] (zx s58 a58 T) nc ns (zPo zRv [] [] [0] s a T nc ns) := by
          intro i58_1 i58_3 s58 a58 f58
          refine zEs_run 2 rfl ?_
          exact ih4 _ _ (some (.int _)) _ _ f58 (Nat.lt_of_lt_of_le (zdec_le g4 (Int.le_refl _) hr (by decide) (by decide)) (Nat.le_of_lt_succ hn4))
        have c14 : ∀ (n14 : Nat) (i14_1 : Int32) (i14_3 : Int32) (s14 : Nat → Int32) (a14 : Nat → List Int32) (f14 : zfr [] [0] s a s14 a14), ((((Int32.ofInt 1) <<< ((s 1) &&& 31))).toInt - (i14_3).toInt).toNat < n14 → zEs xs (D + 1) 4 14 [some (.ref 1), some (.int i14_1), some (.int i4_2), some (.int i14_3)] [] (zx s14 a14 T) nc ns (zPo zRv [] [] [0] s a T nc ns) := by
          intro n14
          induction n14 with
          | zero =>
            intro i14_1 i14_3 s14 a14 f14 hn14
            exact absurd hn14 (Nat.not_lt_zero _)
          | succ n14 ih14 =>
            intro i14_1 i14_3 s14 a14 f14 hn14
            refine zEs_run 5 rfl ?_
            refine zEs_icmp rfl (fun g14 => ?_) (fun g14 => ?_)
            · skip
              exact c58 _ _ _ _ f14
            · skip
              have g14 : ¬ ((Int32.ofInt 1) <<< ((s14 1) &&& 31)) ≤ i14_3 := g14
              rw [f14.1 1 (by decide)] at g14
              have c52 : ∀ (i52_1 : Int32) (s52 : Nat → Int32) (a52 : Nat → List Int32) (f52 : zfr [] [0] s a s52 a52), zEs xs (D + 1) 4 52 [some (.ref 1), some (.int i52_1), some (.int i4_2), some (.int i14_3)] [] (zx s52 a52 T) nc ns (zPo zRv [] [] [0] s a T nc ns) := by
                intro i52_1 s52 a52 f52
                refine zEs_run 2 rfl ?_
                exact ih14 _ _ _ _ f52 (Nat.lt_of_lt_of_le (zdec g14) (Nat.le_of_lt_succ hn14))
              refine zEs_run 3 rfl ?_
              refine zEs_icmp rfl (fun _ => ?_) (fun _ => ?_)
              · skip
                exact c58 _ _ _ _ f14
              · skip
                refine zEs_run 1 rfl ?_
                refine zEs_ci rfl rfl x_229 (fun E hE => by cases hE) (fun v2 => ?_)
                refine zEs_run 1 rfl ?_
                refine zEs_icmp rfl (fun _ => ?_) (fun _ => ?_)
                · skip
                  exact c52 _ _ _ f14
                · skip
                  refine zEs_run 4 rfl ?_
                  refine zEs_wv rfl rfl (x_26 0 3 2 rfl rfl (fun _ => rfl) f14.2.2) (fun E hE => by cases hE) (fun s4_ a4_ e4_ => ?_)
                  have f4_ : zfr [] [0] s a s4_ a4_ := zfr_tr f14 (zfr_mo e4_ (by decide) (by decide))
                  refine zEs_run 1 rfl ?_
                  exact c52 _ _ _ f4_
        refine zEs_run 2 rfl ?_
        exact c14 _ _ _ _ _ f4 (Nat.lt_succ_self _)
  refine zEs_run 4 rfl ?_
  exact c4 _ _ _ (none) _ _ f0 (Nat.lt_succ_self _)
theorem k_3 (hL : zaL a) {x1 : Int32} {x2 : Int32} (hr2 : x2.toInt < 2147483000) : zMs xs (D + 2) 3 [.ref 1, .int x1, .int x2] (zx s a T) nc ns (zPo zRv [] [0, 1, 2] [0, 1] s a T nc ns) := by
  refine ⟨_, rfl, ?_⟩
  have f0 : zfr [0, 1, 2] [0, 1] s a s a := zfr_rf hL
  have c66 : ∀ (n66 : Nat) (i66_3 : Int32) (s66 : Nat → Int32) (a66 : Nat → List Int32) (f66 : zfr [0, 1, 2] [0, 1] s a s66 a66) (hb66 : s66 2 = (x1 + x2)), (((x1 + x2)).toInt - (i66_3).toInt).toNat < n66 → zEs xs (D + 2) 3 66 [some (.ref 1), some (.int x1), some (.int x2), some (.int i66_3)] [] (zx s66 a66 T) nc ns (zPo zRv [] [0, 1, 2] [0, 1] s a T nc ns) := by
    intro n66
    induction n66 with
    | zero =>
      intro i66_3 s66 a66 f66 hb66 hn66
      exact absurd hn66 (Nat.not_lt_zero _)
    | succ n66 ih66 =>
      intro i66_3 s66 a66 f66 hb66 hn66
      refine zEs_run 3 rfl ?_
      refine zEs_icmp rfl (fun g66 => ?_) (fun g66 => ?_)
      · skip
        exact zEs_end rfl rfl (Or.inl ⟨_, _, _, rfl, f66, rfl⟩)
      · skip
        have g66 : ¬ (s66 2) ≤ i66_3 := g66
        rw [hb66] at g66
        refine zEs_run 5 rfl ?_
        refine zEs_ci rfl rfl (x_25 0 3 2 rfl rfl f66.2.2) (fun E hE => by cases hE) (fun v1 => ?_)
        refine zEs_run 3 rfl ?_
        refine zEs_wv rfl rfl (x_26 1 5 4 rfl rfl (fun _ => rfl) f66.2.2) (fun E hE => by cases hE) (fun s2_ a2_ e2_ => ?_)
        have f2_ : zfr [0, 1, 2] [0, 1] s a s2_ a2_ := zfr_tr f66 (zfr_mo e2_ (by decide) (by decide))
        refine zEs_run 2 rfl ?_
        exact ih66 _ _ _ f2_ ((e2_.1 2 (by decide)).trans hb66) (Nat.lt_of_lt_of_le (zdec g66) (Nat.le_of_lt_succ hn66))
  have c23 : ∀ (n23 : Nat) (i23_3 : Int32) (s23 : Nat → Int32) (a23 : Nat → List Int32) (f23 : zfr [0, 1, 2] [0, 1] s a s23 a23) (hb23 : s23 2 = (x1 + x2)), ((x2).toInt - (i23_3).toInt).toNat < n23 → zEs xs (D + 2) 3 23 [some (.ref 1), some (.int x1), some (.int x2), some (.int i23_3)] [] (zx s23 a23 T) nc ns (zPo zRv [] [0, 1, 2] [0, 1] s a T nc ns) := by
    intro n23
    induction n23 with
    | zero =>
      intro i23_3 s23 a23 f23 hb23 hn23
      exact absurd hn23 (Nat.not_lt_zero _)
    | succ n23 ih23 =>
      intro i23_3 s23 a23 f23 hb23 hn23
      refine zEs_run 2 rfl ?_
      refine zEs_icmp rfl (fun g23 => ?_) (fun g23 => ?_)
      · skip
        refine zEs_run 3 rfl ?_
        refine zEs_wv rfl rfl (x_27 1 5 4 rfl rfl (fun _ => rfl) f23.2.2) (fun E hE => by cases hE) (fun s3_ a3_ e3_ => ?_)
        have f3_ : zfr [0, 1, 2] [0, 1] s a s3_ a3_ := zfr_tr f23 (zfr_mo e3_ (by decide) (by decide))
        refine zEs_run 4 rfl ?_
        refine zEs_wv rfl rfl (x_26 1 5 4 rfl rfl (fun _ => rfl) f3_.2.2) (fun E hE => by cases hE) (fun s4_ a4_ e4_ => ?_)
        have f4_ : zfr [0, 1, 2] [0, 1] s a s4_ a4_ := zfr_tr f3_ (zfr_mo e4_ (by decide) (by decide))
        refine zEs_run 2 rfl ?_
        exact c66 _ _ _ _ f4_ ((e4_.1 2 (by decide)).trans ((e3_.1 2 (by decide)).trans hb23)) (Nat.lt_succ_self _)
      · skip
        have g23 : ¬ x2 ≤ i23_3 := g23
        refine zEs_run 8 rfl ?_
        refine zEs_wv rfl rfl (x_26 0 3 2 rfl rfl (fun _ => rfl) f23.2.2) (fun E hE => by cases hE) (fun s5_ a5_ e5_ => ?_)
        have f5_ : zfr [0, 1, 2] [0, 1] s a s5_ a5_ := zfr_tr f23 (zfr_mo e5_ (by decide) (by decide))
        refine zEs_run 2 rfl ?_
        exact ih23 _ _ _ f5_ ((e5_.1 2 (by decide)).trans hb23) (Nat.lt_of_lt_of_le (zdec g23) (Nat.le_of_lt_succ hn23))
  refine zEs_run 12 (h' := zx (zup (zup (zup s 0 _) 1 _) 2 _) a T) rfl ?_
  refine zEs_wv rfl rfl (k_4 hL hr2) (fun E hE => by cases hE) (fun s6_ a6_ e6_ => ?_)
  have f6_ : zfr [0, 1, 2] [0, 1] s a s6_ a6_ := zfr_tr (zfr_s (k := 2) (zfr_s (k := 1) (zfr_s (k := 0) f0 (by decide)) (by decide)) (by decide)) (zfr_mo e6_ (by decide) (by decide))
  refine zEs_run 2 rfl ?_
  exact c23 _ _ _ _ f6_ ((e6_.1 2 (by decide)).trans rfl) (Nat.lt_succ_self _)
theorem k_5 (hL : zaL a) : zMs xs (D + 0) 5 [.ref 1] (zx s a T) nc ns (zPr zRi [] (zx s a T) nc ns) := by
  refine ⟨_, rfl, ?_⟩
  refine zEs_run 4 rfl ?_
  exact zEs_end rfl rfl (Or.inl ⟨_, ⟨_, rfl⟩, rfl⟩)
theorem k_6 (hL : zaL a) : zMs xs (D + 0) 6 [.ref 1] (zx s a T) nc ns (zPr zRi [] (zx s a T) nc ns) := by
  refine ⟨_, rfl, ?_⟩
  refine zEs_run 6 rfl ?_
  exact zEs_end rfl rfl (Or.inl ⟨_, ⟨_, rfl⟩, rfl⟩)
theorem k_7 (hL : zaL a) {x1 : Int32} : zMs xs (D + 0) 7 [.ref 1, .int x1] (zx s a T) nc ns (zPr zRb [] (zx s a T) nc ns) := by
  refine ⟨_, rfl, ?_⟩
  refine zEs_run 1 rfl ?_
  refine zEs_if rfl (fun _ => ?_) (fun _ => ?_)
  · skip
    refine zEs_run 1 rfl ?_
    exact zEs_bret rfl (Or.inl rfl) (Or.inl ⟨_, ⟨_, Or.inl rfl, rfl⟩, rfl⟩)
  · skip
    refine zEs_run 3 rfl ?_
    refine zEs_icmp rfl (fun _ => ?_) (fun _ => ?_)
    · skip
      refine zEs_run 1 rfl ?_
      exact zEs_bret rfl (Or.inl rfl) (Or.inl ⟨_, ⟨_, Or.inl rfl, rfl⟩, rfl⟩)
    · skip
      refine zEs_run 2 rfl ?_
      exact zEs_bret rfl (Or.inr rfl) (Or.inl ⟨_, ⟨_, Or.inr rfl, rfl⟩, rfl⟩)
theorem k_8 (hL : zaL a) {x1 : Int32} : zMs xs (D + 1) 8 [.ref 1, .int x1] (zx s a T) nc ns (zPr zRi [] (zx s a T) nc ns) := by
  refine ⟨_, rfl, ?_⟩
  have c4 : ∀ (n4 : Nat) (i4_2 : Int32) (i4_3 : Int32), (((s 2)).toInt - (i4_3).toInt).toNat < n4 → zEs xs (D + 1) 8 4 [some (.ref 1), some (.int x1), some (.int i4_2), some (.int i4_3)] [] (zx s a T) nc ns (zPr zRi [] (zx s a T) nc ns) := by
    intro n4
    induction n4 with
    | zero =>
      intro i4_2 i4_3 hn4
      exact absurd hn4 (Nat.not_lt_zero _)
    | succ n4 ih4 =>
      intro i4_2 i4_3 hn4
      refine zEs_run 3 rfl ?_
      refine zEs_icmp rfl (fun g4 => ?_) (fun g4 => ?_)
      · skip
        refine zEs_run 1 rfl ?_
        exact zEs_end rfl rfl (Or.inl ⟨_, ⟨_, rfl⟩, rfl⟩)
      · skip
        have g4 : ¬ (s 2) ≤ i4_3 := g4
        have c32 : ∀ (i32_2 : Int32), zEs xs (D + 1) 8 32 [some (.ref 1), some (.int x1), some (.int i32_2), some (.int i4_3)] [] (zx s a T) nc ns (zPr zRi [] (zx s a T) nc ns) := by
          intro i32_2
          refine zEs_run 2 rfl ?_
          exact ih4 _ _ (Nat.lt_of_lt_of_le (zdec g4) (Nat.le_of_lt_succ hn4))
        refine zEs_run 6 rfl ?_
        refine zEs_icmp rfl (fun _ => ?_) (fun _ => ?_)
        · skip
          exact c32 _
        · skip
          refine zEs_run 4 rfl ?_
          refine zEs_ci rfl rfl (x_25 0 3 2 rfl rfl hL) (fun E hE => by cases hE) (fun v2 => ?_)
          refine zEs_run 2 rfl ?_
          exact c32 _
  refine zEs_run 4 rfl ?_
  exact c4 _ _ _ (Nat.lt_succ_self _)
theorem k_9 (hL : zaL a) {x1 : Int32} : zMs xs (D + 2) 9 [.ref 1, .int x1] (zx s a T) nc ns (zPr zRi [] (zx s a T) nc ns) := by
  refine ⟨_, rfl, ?_⟩
  refine zEs_run 4 rfl ?_
  refine zEs_ci rfl rfl (k_8 hL) (fun E hE => by cases hE) (fun v1 => ?_)
  refine zEs_ci rfl rfl (x_25 1 5 4 rfl rfl hL) (fun E hE => by cases hE) (fun v2 => ?_)
  exact zEs_end rfl rfl (Or.inl ⟨_, ⟨_, rfl⟩, rfl⟩)
theorem k_10 (hL : zaL a) {x1 : Int32} : zMs xs (D + 2) 10 [.ref 1, .int x1] (zx s a T) nc ns (zPr zRb [] (zx s a T) nc ns) := by
  refine ⟨_, rfl, ?_⟩
  refine zEs_run 2 rfl ?_
  refine zEs_ci rfl rfl (k_8 hL) (fun E hE => by cases hE) (fun v1 => ?_)
  refine zEs_if rfl (fun _ => ?_) (fun _ => ?_)
  · skip
    refine zEs_run 1 rfl ?_
    exact zEs_bret rfl (Or.inl rfl) (Or.inl ⟨_, ⟨_, Or.inl rfl, rfl⟩, rfl⟩)
  · skip
    refine zEs_run 2 rfl ?_
    exact zEs_bret rfl (Or.inr rfl) (Or.inl ⟨_, ⟨_, Or.inr rfl, rfl⟩, rfl⟩)
theorem k_11 (hL : zaL a) {x1 : Int32} : zMs xs (D + 3) 11 [.ref 1, .int x1] (zx s a T) nc ns (zPr zRi [] (zx s a T) nc ns) := by
  refine ⟨_, rfl, ?_⟩
  refine zEs_run 2 rfl ?_
  refine zEs_ci rfl rfl (k_9 hL) (fun E hE => by cases hE) (fun v1 => ?_)
  refine zEs_run 2 rfl ?_
  refine zEs_if rfl (fun _ => ?_) (fun _ => ?_)
  · skip
    refine zEs_run 2 rfl ?_
    refine zEs_icmp rfl (fun _ => ?_) (fun _ => ?_)
    · skip
      refine zEs_run 1 rfl ?_
      exact zEs_end rfl rfl (Or.inl ⟨_, ⟨_, rfl⟩, rfl⟩)
    · skip
      refine zEs_run 2 rfl ?_
      exact zEs_end rfl rfl (Or.inl ⟨_, ⟨_, rfl⟩, rfl⟩)
  · skip
    refine zEs_run 1 rfl ?_
    exact zEs_end rfl rfl (Or.inl ⟨_, ⟨_, rfl⟩, rfl⟩)
theorem k_12 (hL : zaL a) {x1 : Int32} : zMs xs (D + 1) 12 [.int x1] (zx s a T) nc ns (zPr zRi [] (zx s a T) nc ns) := by
  refine ⟨_, rfl, ?_⟩
  refine zEs_run 1 rfl ?_
  refine zEs_if rfl (fun _ => ?_) (fun _ => ?_)
  · skip
    refine zEs_run 2 rfl ?_
    exact zEs_end rfl rfl (Or.inl ⟨_, ⟨_, rfl⟩, rfl⟩)
  · skip
    refine zEs_run 2 rfl ?_
    refine zEs_icmp rfl (fun _ => ?_) (fun _ => ?_)
    · skip
      refine zEs_run 3 rfl ?_
      refine zEs_ci rfl rfl x_229 (fun E hE => by cases hE) (fun v3 => ?_)
      exact zEs_end rfl rfl (Or.inl ⟨_, ⟨_, rfl⟩, rfl⟩)
    · skip
      refine zEs_run 2 rfl ?_
      exact zEs_end rfl rfl (Or.inl ⟨_, ⟨_, rfl⟩, rfl⟩)
theorem k_13 (hL : zaL a) {x1 : Int32} : zMs xs (D + 3) 13 [.ref 1, .int x1] (zx s a T) nc ns (zPr zRi [] (zx s a T) nc ns) := by
  refine ⟨_, rfl, ?_⟩
  refine zEs_run 2 rfl ?_
  refine zEs_ci rfl rfl (k_9 hL) (fun E hE => by cases hE) (fun v1 => ?_)
  refine zEs_run 3 rfl ?_
  refine zEs_icmp rfl (fun _ => ?_) (fun _ => ?_)
  · skip
    refine zEs_run 4 rfl ?_
    refine zEs_ci rfl rfl (k_6 hL) (fun E hE => by cases hE) (fun v3 => ?_)
    refine zEs_run 1 rfl ?_
    exact zEs_end rfl rfl (Or.inl ⟨_, ⟨_, rfl⟩, rfl⟩)
  · skip
    refine zEs_run 2 rfl ?_
    exact zEs_end rfl rfl (Or.inl ⟨_, ⟨_, rfl⟩, rfl⟩)
theorem k_14 (hL : zaL a) {x1 : Int32} : zMs xs (D + 2) 14 [.ref 1, .int x1] (zx s a T) nc ns (zPr zRi [] (zx s a T) nc ns) := by
  refine ⟨_, rfl, ?_⟩
  refine zEs_run 3 rfl ?_
  refine zEs_ci rfl rfl (k_8 hL) (fun E hE => by cases hE) (fun v1 => ?_)
  refine zEs_run 4 rfl ?_
  exact zEs_end rfl rfl (Or.inl ⟨_, ⟨_, rfl⟩, rfl⟩)
theorem k_17 (hL : zaL a) {x1 : Int32} : zMs xs (D + 1) 17 [.ref 1, .int x1] (zx s a T) nc ns (zPr zRi [] (zx s a T) nc ns) := by
  refine ⟨_, rfl, ?_⟩
  refine zEs_run 3 rfl ?_
  refine zEs_ci rfl rfl (x_25 1 5 4 rfl rfl hL) (fun E hE => by cases hE) (fun v1 => ?_)
  refine zEs_if rfl (fun _ => ?_) (fun _ => ?_)
  · skip
    refine zEs_run 1 rfl ?_
    exact zEs_end rfl rfl (Or.inl ⟨_, ⟨_, rfl⟩, rfl⟩)
  · skip
    refine zEs_run 2 rfl ?_
    exact zEs_end rfl rfl (Or.inl ⟨_, ⟨_, rfl⟩, rfl⟩)
theorem k_16 (hL : zaL a) {x1 : Int32} {x2 : Int32} : zMs xs (D + 2) 16 [.ref 1, .int x1, .int x2] (zx s a T) nc ns (zPr zRi [] (zx s a T) nc ns) := by
  refine ⟨_, rfl, ?_⟩
  have c5 : ∀ (n5 : Nat) (i5_3 : Int32) (i5_4 : Int32), (((s 2)).toInt - (i5_4).toInt).toNat < n5 → zEs xs (D + 2) 16 5 [some (.ref 1), some (.int x1), some (.int x2), some (.int i5_3), some (.int i5_4)] [] (zx s a T) nc ns (zPr zRi [] (zx s a T) nc ns) := by
    intro n5
    induction n5 with
    | zero =>
      intro i5_3 i5_4 hn5
      exact absurd hn5 (Nat.not_lt_zero _)
    | succ n5 ih5 =>
      intro i5_3 i5_4 hn5
      refine zEs_run 3 rfl ?_
      refine zEs_icmp rfl (fun g5 => ?_) (fun g5 => ?_)
      · skip
        refine zEs_run 1 rfl ?_
        exact zEs_end rfl rfl (Or.inl ⟨_, ⟨_, rfl⟩, rfl⟩)
      · skip
        have g5 : ¬ (s 2) ≤ i5_4 := g5
        refine zEs_run 6 rfl ?_
        refine zEs_ci rfl rfl (x_25 0 3 2 rfl rfl hL) (fun E hE => by cases hE) (fun v1 => ?_)
        refine zEs_run 1 rfl ?_
        refine zEs_ci rfl rfl (k_17 hL) (fun E hE => by cases hE) (fun v2 => ?_)
        refine zEs_run 4 rfl ?_
        exact ih5 _ _ (Nat.lt_of_lt_of_le (zdec g5) (Nat.le_of_lt_succ hn5))
  refine zEs_run 4 rfl ?_
  exact c5 _ _ _ (Nat.lt_succ_self _)
theorem k_15 (hL : zaL a) {x1 : Int32} : zMs xs (D + 3) 15 [.ref 1, .int x1] (zx s a T) nc ns (zPr zRi [] (zx s a T) nc ns) := by
  refine ⟨_, rfl, ?_⟩
  have c4 : ∀ (n4 : Nat) (i4_2 : Int32) (i4_3 : Int32) (o4_4 : Option Value) (o4_5 : Option Value), (((s 2)).toInt - (i4_3).toInt).toNat < n4 → zEs xs (D + 3) 15 4 [some (.ref 1), some (.int x1), some (.int i4_2), some (.int i4_3), o4_4, o4_5] [] (zx s a T) nc ns (zPr zRi [] (zx s a T) nc ns) := by
    intro n4
    induction n4 with
    | zero =>
      intro i4_2 i4_3 o4_4 o4_5 hn4
      exact absurd hn4 (Nat.not_lt_zero _)
    | succ n4 ih4 =>
      intro i4_2 i4_3 o4_4 o4_5 hn4
      refine zEs_run 3 rfl ?_
      refine zEs_icmp rfl (fun g4 => ?_) (fun g4 => ?_)
      · skip
        refine zEs_run 1 rfl ?_
        exact zEs_end rfl rfl (Or.inl ⟨_, ⟨_, rfl⟩, rfl⟩)
      · skip
        have g4 : ¬ (s 2) ≤ i4_3 := g4
        have c17 : ∀ (n17 : Nat) (i17_2 : Int32) (i17_4 : Int32) (o17_5 : Option Value), (((s 2)).toInt - (i17_4).toInt).toNat < n17 → zEs xs (D + 3) 15 17 [some (.ref 1), some (.int x1), some (.int i17_2), some (.int i4_3), some (.int i17_4), o17_5] [] (zx s a T) nc ns (zPr zRi [] (zx s a T) nc ns) := by
          intro n17
          induction n17 with
          | zero =>
            intro i17_2 i17_4 o17_5 hn17
            exact absurd hn17 (Nat.not_lt_zero _)
          | succ n17 ih17 =>
            intro i17_2 i17_4 o17_5 hn17
            refine zEs_run 3 rfl ?_
            refine zEs_icmp rfl (fun g17 => ?_) (fun g17 => ?_)
            · skip
              refine zEs_run 2 rfl ?_
              exact ih4 _ _ (some (.int _)) (o17_5) (Nat.lt_of_lt_of_le (zdec g4) (Nat.le_of_lt_succ hn4))
            · skip
              have g17 : ¬ (s 2) ≤ i17_4 := g17
              have c71 : ∀ (i71_5 : Int32) (t71_0 : Int32) (t71_1 : Int32), zEs xs (D + 3) 15 71 [some (.ref 1), some (.int x1), some (.int i17_2), some (.int i4_3), some (.int i17_4), some (.int i71_5)] [.int t71_0, .int t71_1] (zx s a T) nc ns (zPr zRi [] (zx s a T) nc ns) := by
                intro i71_5 t71_0 t71_1
                refine zEs_run 4 rfl ?_
                exact ih17 _ _ (some (.int _)) (Nat.lt_of_lt_of_le (zdec g17) (Nat.le_of_lt_succ hn17))
              refine zEs_run 3 rfl ?_
              refine zEs_ci rfl rfl (x_25 0 3 2 rfl rfl hL) (fun E hE => by cases hE) (fun v1 => ?_)
              refine zEs_run 3 rfl ?_
              refine zEs_ci rfl rfl (x_25 0 3 2 rfl rfl hL) (fun E hE => by cases hE) (fun v2 => ?_)
              refine zEs_run 5 rfl ?_
              refine zEs_icmp rfl (fun _ => ?_) (fun _ => ?_)
              · skip
                refine zEs_run 5 rfl ?_
                refine zEs_ci rfl rfl (k_16 hL) (fun E hE => by cases hE) (fun v4 => ?_)
                exact c71 _ _ _
              · skip
                refine zEs_run 2 rfl ?_
                refine zEs_ci rfl rfl (k_17 hL) (fun E hE => by cases hE) (fun v5 => ?_)
                refine zEs_run 1 rfl ?_
                exact c71 _ _ _
        refine zEs_run 4 rfl ?_
        exact c17 _ _ _ (o4_5) (Nat.lt_succ_self _)
  refine zEs_run 4 rfl ?_
  exact c4 _ _ _ (none) (none) (Nat.lt_succ_self _)
theorem k_18 (hL : zaL a) : zMs xs (D + 1) 18 [.ref 1] (zx s a T) nc ns (zPr zRb [] (zx s a T) nc ns) := by
  refine ⟨_, rfl, ?_⟩
  have c2 : ∀ (n2 : Nat) (i2_1 : Int32) (o2_2 : Option Value), (((s 2)).toInt - (i2_1).toInt).toNat < n2 → zEs xs (D + 1) 18 2 [some (.ref 1), some (.int i2_1), o2_2] [] (zx s a T) nc ns (zPr zRb [] (zx s a T) nc ns) := by
    intro n2
    induction n2 with
    | zero =>
      intro i2_1 o2_2 hn2
      exact absurd hn2 (Nat.not_lt_zero _)
    | succ n2 ih2 =>
      intro i2_1 o2_2 hn2
      refine zEs_run 3 rfl ?_
      refine zEs_icmp rfl (fun g2 => ?_) (fun g2 => ?_)
      · skip
        refine zEs_run 1 rfl ?_
        exact zEs_bret rfl (Or.inr rfl) (Or.inl ⟨_, ⟨_, Or.inr rfl, rfl⟩, rfl⟩)
      · skip
        have g2 : ¬ (s 2) ≤ i2_1 := g2
        have c32 : ∀ (n32 : Nat) (i32_2 : Int32), (((s 2)).toInt - (i32_2).toInt).toNat < n32 → zEs xs (D + 1) 18 32 [some (.ref 1), some (.int i2_1), some (.int i32_2)] [] (zx s a T) nc ns (zPr zRb [] (zx s a T) nc ns) := by
          intro n32
          induction n32 with
          | zero =>
            intro i32_2 hn32
            exact absurd hn32 (Nat.not_lt_zero _)
          | succ n32 ih32 =>
            intro i32_2 hn32
            refine zEs_run 3 rfl ?_
            refine zEs_icmp rfl (fun g32 => ?_) (fun g32 => ?_)
            · skip
              refine zEs_run 2 rfl ?_
              exact ih2 _ (some (.int _)) (Nat.lt_of_lt_of_le (zdec g2) (Nat.le_of_lt_succ hn2))
            · skip
              have g32 : ¬ (s 2) ≤ i32_2 := g32
              refine zEs_run 3 rfl ?_
              refine zEs_ci rfl rfl (x_25 0 3 2 rfl rfl hL) (fun E hE => by cases hE) (fun v1 => ?_)
              refine zEs_run 3 rfl ?_
              refine zEs_ci rfl rfl (x_25 0 3 2 rfl rfl hL) (fun E hE => by cases hE) (fun v2 => ?_)
              refine zEs_icmp rfl (fun _ => ?_) (fun _ => ?_)
              · skip
                refine zEs_run 2 rfl ?_
                exact ih32 _ (Nat.lt_of_lt_of_le (zdec g32) (Nat.le_of_lt_succ hn32))
              · skip
                refine zEs_run 1 rfl ?_
                exact zEs_bret rfl (Or.inl rfl) (Or.inl ⟨_, ⟨_, Or.inl rfl, rfl⟩, rfl⟩)
        refine zEs_run 3 rfl ?_
        refine zEs_ci rfl rfl (x_25 0 3 2 rfl rfl hL) (fun E hE => by cases hE) (fun v4 => ?_)
        refine zEs_ci rfl rfl x_229 (fun E hE => by cases hE) (fun v5 => ?_)
        refine zEs_run 2 rfl ?_
        refine zEs_if rfl (fun _ => ?_) (fun _ => ?_)
        · skip
          refine zEs_run 4 rfl ?_
          exact c32 _ _ (Nat.lt_succ_self _)
        · skip
          refine zEs_run 1 rfl ?_
          exact zEs_bret rfl (Or.inl rfl) (Or.inl ⟨_, ⟨_, Or.inl rfl, rfl⟩, rfl⟩)
  refine zEs_run 2 rfl ?_
  exact c2 _ _ (none) (Nat.lt_succ_self _)
theorem k_20_15 (hL : zaL a) : zMs xs (D + 0) 20 [.ref 15] (zx s a T) nc ns (zPr zRb [] (zx s a T) nc ns) := by
  refine ⟨_, rfl, ?_⟩
  refine zEs_run 3 rfl ?_
  refine zEs_icmp rfl (fun _ => ?_) (fun _ => ?_)
  · skip
    refine zEs_run 1 rfl ?_
    exact zEs_bret rfl (Or.inl rfl) (Or.inl ⟨_, ⟨_, Or.inl rfl, rfl⟩, rfl⟩)
  · skip
    refine zEs_run 2 rfl ?_
    exact zEs_bret rfl (Or.inr rfl) (Or.inl ⟨_, ⟨_, Or.inr rfl, rfl⟩, rfl⟩)
theorem k_20_22 (hL : zaL a) : zMs xs (D + 0) 20 [.ref 22] (zx s a T) nc ns (zPr zRb [] (zx s a T) nc ns) := by
  refine ⟨_, rfl, ?_⟩
  refine zEs_run 3 rfl ?_
  refine zEs_icmp rfl (fun _ => ?_) (fun _ => ?_)
  · skip
    refine zEs_run 1 rfl ?_
    exact zEs_bret rfl (Or.inl rfl) (Or.inl ⟨_, ⟨_, Or.inl rfl, rfl⟩, rfl⟩)
  · skip
    refine zEs_run 2 rfl ?_
    exact zEs_bret rfl (Or.inr rfl) (Or.inl ⟨_, ⟨_, Or.inr rfl, rfl⟩, rfl⟩)
theorem k_21_15 (hL : zaL a) {x1 : Int32} {x2 : Int32} {x3 : Int32} : zMs xs (D + 1) 21 [.ref 15, .int x1, .int x2, .int x3] (zx s a T) nc ns (zPo zRv [] [9] [6, 7, 8] s a T nc ns) := by
  refine ⟨_, rfl, ?_⟩
  have f0 : zfr [9] [6, 7, 8] s a s a := zfr_rf hL
  refine zEs_run 1 rfl ?_
  refine zEs_cb rfl rfl (k_20_15 hL) (fun E hE => by cases hE) (fun v1 hb1 => ?_)
  refine zEs_if rfl (fun _ => ?_) (fun _ => ?_)
  · skip
    refine zEs_run 5 rfl ?_
    refine zEs_wv rfl rfl (x_26 6 17 16 rfl rfl (fun _ => rfl) hL) (fun E hE => by cases hE) (fun s3_ a3_ e3_ => ?_)
    have f3_ : zfr [9] [6, 7, 8] s a s3_ a3_ := zfr_tr f0 (zfr_mo e3_ (by decide) (by decide))
    refine zEs_run 5 rfl ?_
    refine zEs_wv rfl rfl (x_26 7 19 18 rfl rfl (fun _ => rfl) f3_.2.2) (fun E hE => by cases hE) (fun s4_ a4_ e4_ => ?_)
    have f4_ : zfr [9] [6, 7, 8] s a s4_ a4_ := zfr_tr f3_ (zfr_mo e4_ (by decide) (by decide))
    refine zEs_run 5 rfl ?_
    refine zEs_wv rfl rfl (x_26 8 21 20 rfl rfl (fun _ => rfl) f4_.2.2) (fun E hE => by cases hE) (fun s5_ a5_ e5_ => ?_)
    have f5_ : zfr [9] [6, 7, 8] s a s5_ a5_ := zfr_tr f4_ (zfr_mo e5_ (by decide) (by decide))
    refine zEs_run 6 (h' := zx (zup s5_ 9 _) a5_ T) rfl ?_
    exact zEs_end rfl rfl (Or.inl ⟨_, _, _, rfl, (zfr_s (k := 9) f5_ (by decide)), rfl⟩)
  · skip
    exact zEs_end rfl rfl (Or.inl ⟨_, _, _, rfl, f0, rfl⟩)
theorem k_21_22 (hL : zaL a) {x1 : Int32} {x2 : Int32} {x3 : Int32} : zMs xs (D + 1) 21 [.ref 22, .int x1, .int x2, .int x3] (zx s a T) nc ns (zPo zRv [] [10] [9, 10, 11] s a T nc ns) := by
  refine ⟨_, rfl, ?_⟩
  have f0 : zfr [10] [9, 10, 11] s a s a := zfr_rf hL
  refine zEs_run 1 rfl ?_
  refine zEs_cb rfl rfl (k_20_22 hL) (fun E hE => by cases hE) (fun v1 hb1 => ?_)
  refine zEs_if rfl (fun _ => ?_) (fun _ => ?_)
  · skip
    refine zEs_run 5 rfl ?_
    refine zEs_wv rfl rfl (x_26 9 24 23 rfl rfl (fun _ => rfl) hL) (fun E hE => by cases hE) (fun s3_ a3_ e3_ => ?_)
    have f3_ : zfr [10] [9, 10, 11] s a s3_ a3_ := zfr_tr f0 (zfr_mo e3_ (by decide) (by decide))
    refine zEs_run 5 rfl ?_
    refine zEs_wv rfl rfl (x_26 10 26 25 rfl rfl (fun _ => rfl) f3_.2.2) (fun E hE => by cases hE) (fun s4_ a4_ e4_ => ?_)
    have f4_ : zfr [10] [9, 10, 11] s a s4_ a4_ := zfr_tr f3_ (zfr_mo e4_ (by decide) (by decide))
    refine zEs_run 5 rfl ?_
    refine zEs_wv rfl rfl (x_26 11 28 27 rfl rfl (fun _ => rfl) f4_.2.2) (fun E hE => by cases hE) (fun s5_ a5_ e5_ => ?_)
    have f5_ : zfr [10] [9, 10, 11] s a s5_ a5_ := zfr_tr f4_ (zfr_mo e5_ (by decide) (by decide))
    refine zEs_run 6 (h' := zx (zup s5_ 10 _) a5_ T) rfl ?_
    exact zEs_end rfl rfl (Or.inl ⟨_, _, _, rfl, (zfr_s (k := 10) f5_ (by decide)), rfl⟩)
  · skip
    exact zEs_end rfl rfl (Or.inl ⟨_, _, _, rfl, f0, rfl⟩)
theorem k_22_15 (hL : zaL a) {x1 : Int32} : zMs xs (D + 2) 22 [.ref 15, .int x1] (zx s a T) nc ns (zPo zRv [] [9] [6, 7, 8] s a T nc ns) := by
  refine ⟨_, rfl, ?_⟩
  have f0 : zfr [9] [6, 7, 8] s a s a := zfr_rf hL
  have c12 : ∀ (n12 : Nat) (i12_2 : Int32) (i12_3 : Int32) (s12 : Nat → Int32) (a12 : Nat → List Int32) (f12 : zfr [9] [6, 7, 8] s a s12 a12), ((i12_2).toInt - (i12_3).toInt).toNat < n12 → zEs xs (D + 2) 22 12 [some (.ref 15), some (.int x1), some (.int i12_2), some (.int i12_3)] [] (zx s12 a12 T) nc ns (zPo zRv [] [9] [6, 7, 8] s a T nc ns) := by
    intro n12
    induction n12 with
    | zero =>
      intro i12_2 i12_3 s12 a12 f12 hn12
      exact absurd hn12 (Nat.not_lt_zero _)
    | succ n12 ih12 =>
      intro i12_2 i12_3 s12 a12 f12 hn12
      refine zEs_run 2 rfl ?_
      refine zEs_icmp rfl (fun g12 => ?_) (fun g12 => ?_)
      · skip
        exact zEs_end rfl rfl (Or.inl ⟨_, _, _, rfl, f12, rfl⟩)
      · skip
        have g12 : ¬ i12_2 ≤ i12_3 := g12
        have c59 : ∀ (s59 : Nat → Int32) (a59 : Nat → List Int32) (f59 : zfr [9] [6, 7, 8] s a s59 a59), zEs xs (D + 2) 22 59 [some (.ref 15), some (.int x1), some (.int i12_2), some (.int i12_3)] [] (zx s59 a59 T) nc ns (zPo zRv [] [9] [6, 7, 8] s a T nc ns) := by
          intro s59 a59 f59
          refine zEs_run 2 rfl ?_
          exact ih12 _ _ _ _ f59 (Nat.lt_of_lt_of_le (zdec g12) (Nat.le_of_lt_succ hn12))
        refine zEs_run 3 rfl ?_
        refine zEs_ci rfl rfl (x_25 7 19 18 rfl rfl f12.2.2) (fun E hE => by cases hE) (fun v1 => ?_)
        refine zEs_run 3 rfl ?_
        refine zEs_icmp rfl (fun _ => ?_) (fun _ => ?_)
        · skip
          exact c59 _ _ f12
        · skip
          refine zEs_run 4 rfl ?_
          refine zEs_ci rfl rfl (x_25 6 17 16 rfl rfl f12.2.2) (fun E hE => by cases hE) (fun v3 => ?_)
          refine zEs_run 3 rfl ?_
          refine zEs_ci rfl rfl (x_25 7 19 18 rfl rfl f12.2.2) (fun E hE => by cases hE) (fun v4 => ?_)
          refine zEs_run 3 rfl ?_
          refine zEs_ci rfl rfl (x_25 8 21 20 rfl rfl f12.2.2) (fun E hE => by cases hE) (fun v5 => ?_)
          refine zEs_wv rfl rfl (k_21_15 f12.2.2) (fun E hE => by cases hE) (fun s6_ a6_ e6_ => ?_)
          have f6_ : zfr [9] [6, 7, 8] s a s6_ a6_ := zfr_tr f12 (zfr_mo e6_ (by decide) (by decide))
          exact c59 _ _ f6_
  refine zEs_run 8 (h' := zx (zup s 9 _) a T) rfl ?_
  exact c12 _ _ _ _ _ (zfr_s (k := 9) f0 (by decide)) (Nat.lt_succ_self _)
theorem k_22_22 (hL : zaL a) {x1 : Int32} : zMs xs (D + 2) 22 [.ref 22, .int x1] (zx s a T) nc ns (zPo zRv [] [10] [9, 10, 11] s a T nc ns) := by
  refine ⟨_, rfl, ?_⟩
  have f0 : zfr [10] [9, 10, 11] s a s a := zfr_rf hL
  have c12 : ∀ (n12 : Nat) (i12_2 : Int32) (i12_3 : Int32) (s12 : Nat → Int32) (a12 : Nat → List Int32) (f12 : zfr [10] [9, 10, 11] s a s12 a12), ((i12_2).toInt - (i12_3).toInt).toNat < n12 → zEs xs (D + 2) 22 12 [some (.ref 22), some (.int x1), some (.int i12_2), some (.int i12_3)] [] (zx s12 a12 T) nc ns (zPo zRv [] [10] [9, 10, 11] s a T nc ns) := by
    intro n12
    induction n12 with
    | zero =>
      intro i12_2 i12_3 s12 a12 f12 hn12
      exact absurd hn12 (Nat.not_lt_zero _)
    | succ n12 ih12 =>
      intro i12_2 i12_3 s12 a12 f12 hn12
      refine zEs_run 2 rfl ?_
      refine zEs_icmp rfl (fun g12 => ?_) (fun g12 => ?_)
      · skip
        exact zEs_end rfl rfl (Or.inl ⟨_, _, _, rfl, f12, rfl⟩)
      · skip
        have g12 : ¬ i12_2 ≤ i12_3 := g12
        have c59 : ∀ (s59 : Nat → Int32) (a59 : Nat → List Int32) (f59 : zfr [10] [9, 10, 11] s a s59 a59), zEs xs (D + 2) 22 59 [some (.ref 22), some (.int x1), some (.int i12_2), some (.int i12_3)] [] (zx s59 a59 T) nc ns (zPo zRv [] [10] [9, 10, 11] s a T nc ns) := by
          intro s59 a59 f59
          refine zEs_run 2 rfl ?_
          exact ih12 _ _ _ _ f59 (Nat.lt_of_lt_of_le (zdec g12) (Nat.le_of_lt_succ hn12))
        refine zEs_run 3 rfl ?_
        refine zEs_ci rfl rfl (x_25 10 26 25 rfl rfl f12.2.2) (fun E hE => by cases hE) (fun v1 => ?_)
        refine zEs_run 3 rfl ?_
        refine zEs_icmp rfl (fun _ => ?_) (fun _ => ?_)
        · skip
          exact c59 _ _ f12
        · skip
          refine zEs_run 4 rfl ?_
          refine zEs_ci rfl rfl (x_25 9 24 23 rfl rfl f12.2.2) (fun E hE => by cases hE) (fun v3 => ?_)
          refine zEs_run 3 rfl ?_
          refine zEs_ci rfl rfl (x_25 10 26 25 rfl rfl f12.2.2) (fun E hE => by cases hE) (fun v4 => ?_)
          refine zEs_run 3 rfl ?_
          refine zEs_ci rfl rfl (x_25 11 28 27 rfl rfl f12.2.2) (fun E hE => by cases hE) (fun v5 => ?_)
          refine zEs_wv rfl rfl (k_21_22 f12.2.2) (fun E hE => by cases hE) (fun s6_ a6_ e6_ => ?_)
          have f6_ : zfr [10] [9, 10, 11] s a s6_ a6_ := zfr_tr f12 (zfr_mo e6_ (by decide) (by decide))
          exact c59 _ _ f6_
  refine zEs_run 8 (h' := zx (zup s 10 _) a T) rfl ?_
  exact c12 _ _ _ _ _ (zfr_s (k := 10) f0 (by decide)) (Nat.lt_succ_self _)
theorem k_23_15 (hL : zaL a) {x1 : Int32} {x2 : Int32} : zMs xs (D + 1) 23 [.ref 15, .int x1, .int x2] (zx s a T) nc ns (zPr zRi [] (zx s a T) nc ns) := by
  refine ⟨_, rfl, ?_⟩
  have c5 : ∀ (n5 : Nat) (i5_3 : Int32) (i5_4 : Int32), (((s 9)).toInt - (i5_4).toInt).toNat < n5 → zEs xs (D + 1) 23 5 [some (.ref 15), some (.int x1), some (.int x2), some (.int i5_3), some (.int i5_4)] [] (zx s a T) nc ns (zPr zRi [] (zx s a T) nc ns) := by
    intro n5
    induction n5 with
    | zero =>
      intro i5_3 i5_4 hn5
      exact absurd hn5 (Nat.not_lt_zero _)
    | succ n5 ih5 =>
      intro i5_3 i5_4 hn5
      refine zEs_run 3 rfl ?_
      refine zEs_icmp rfl (fun g5 => ?_) (fun g5 => ?_)
      · skip
        refine zEs_run 1 rfl ?_
        exact zEs_end rfl rfl (Or.inl ⟨_, ⟨_, rfl⟩, rfl⟩)
      · skip
        have g5 : ¬ (s 9) ≤ i5_4 := g5
        have c43 : ∀ (i43_3 : Int32), zEs xs (D + 1) 23 43 [some (.ref 15), some (.int x1), some (.int x2), some (.int i43_3), some (.int i5_4)] [] (zx s a T) nc ns (zPr zRi [] (zx s a T) nc ns) := by
          intro i43_3
          refine zEs_run 2 rfl ?_
          exact ih5 _ _ (Nat.lt_of_lt_of_le (zdec g5) (Nat.le_of_lt_succ hn5))
        refine zEs_run 3 rfl ?_
        refine zEs_ci rfl rfl (x_25 6 17 16 rfl rfl hL) (fun E hE => by cases hE) (fun v1 => ?_)
        refine zEs_run 1 rfl ?_
        refine zEs_icmp rfl (fun _ => ?_) (fun _ => ?_)
        · skip
          exact c43 _
        · skip
          refine zEs_run 3 rfl ?_
          refine zEs_ci rfl rfl (x_25 6 17 16 rfl rfl hL) (fun E hE => by cases hE) (fun v3 => ?_)
          refine zEs_run 1 rfl ?_
          refine zEs_icmp rfl (fun _ => ?_) (fun _ => ?_)
          · skip
            exact c43 _
          · skip
            refine zEs_run 1 rfl ?_
            exact c43 _
  refine zEs_run 4 rfl ?_
  exact c5 _ _ _ (Nat.lt_succ_self _)
theorem k_23_22 (hL : zaL a) {x1 : Int32} {x2 : Int32} : zMs xs (D + 1) 23 [.ref 22, .int x1, .int x2] (zx s a T) nc ns (zPr zRi [] (zx s a T) nc ns) := by
  refine ⟨_, rfl, ?_⟩
  have c5 : ∀ (n5 : Nat) (i5_3 : Int32) (i5_4 : Int32), (((s 10)).toInt - (i5_4).toInt).toNat < n5 → zEs xs (D + 1) 23 5 [some (.ref 22), some (.int x1), some (.int x2), some (.int i5_3), some (.int i5_4)] [] (zx s a T) nc ns (zPr zRi [] (zx s a T) nc ns) := by
    intro n5
    induction n5 with
    | zero =>
      intro i5_3 i5_4 hn5
      exact absurd hn5 (Nat.not_lt_zero _)
    | succ n5 ih5 =>
      intro i5_3 i5_4 hn5
      refine zEs_run 3 rfl ?_
      refine zEs_icmp rfl (fun g5 => ?_) (fun g5 => ?_)
      · skip
        refine zEs_run 1 rfl ?_
        exact zEs_end rfl rfl (Or.inl ⟨_, ⟨_, rfl⟩, rfl⟩)
      · skip
        have g5 : ¬ (s 10) ≤ i5_4 := g5
        have c43 : ∀ (i43_3 : Int32), zEs xs (D + 1) 23 43 [some (.ref 22), some (.int x1), some (.int x2), some (.int i43_3), some (.int i5_4)] [] (zx s a T) nc ns (zPr zRi [] (zx s a T) nc ns) := by
          intro i43_3
          refine zEs_run 2 rfl ?_
          exact ih5 _ _ (Nat.lt_of_lt_of_le (zdec g5) (Nat.le_of_lt_succ hn5))
        refine zEs_run 3 rfl ?_
        refine zEs_ci rfl rfl (x_25 9 24 23 rfl rfl hL) (fun E hE => by cases hE) (fun v1 => ?_)
        refine zEs_run 1 rfl ?_
        refine zEs_icmp rfl (fun _ => ?_) (fun _ => ?_)
        · skip
          exact c43 _
        · skip
          refine zEs_run 3 rfl ?_
          refine zEs_ci rfl rfl (x_25 9 24 23 rfl rfl hL) (fun E hE => by cases hE) (fun v3 => ?_)
          refine zEs_run 1 rfl ?_
          refine zEs_icmp rfl (fun _ => ?_) (fun _ => ?_)
          · skip
            exact c43 _
          · skip
            refine zEs_run 1 rfl ?_
            exact c43 _
  refine zEs_run 4 rfl ?_
  exact c5 _ _ _ (Nat.lt_succ_self _)
theorem k_31 (hL : zaL a) {x1 : Int32} {x2 : Int32} {x3 : Int32} : zMs xs (D + 1) 31 [.ref 29, .int x1, .int x2, .int x3] (zx s a T) nc ns (zPo zRv [] [11, 12, 13] [12, 13, 14] s a T nc ns) := by
  refine ⟨_, rfl, ?_⟩
  have f0 : zfr [11, 12, 13] [12, 13, 14] s a s a := zfr_rf hL
  have c28 : ∀ (s28 : Nat → Int32) (a28 : Nat → List Int32) (f28 : zfr [11, 12, 13] [12, 13, 14] s a s28 a28), zEs xs (D + 1) 31 28 [some (.ref 29), some (.int x1), some (.int x2), some (.int x3)] [] (zx s28 a28 T) nc ns (zPo zRv [] [11, 12, 13] [12, 13, 14] s a T nc ns) := by
    intro s28 a28 f28
    refine zEs_run 3 rfl ?_
    refine zEs_icmp rfl (fun _ => ?_) (fun _ => ?_)
    · skip
      exact zEs_end rfl rfl (Or.inl ⟨_, _, _, rfl, f28, rfl⟩)
    · skip
      refine zEs_run 5 rfl ?_
      refine zEs_wv rfl rfl (x_26 12 31 30 rfl rfl (fun _ => rfl) f28.2.2) (fun E hE => by cases hE) (fun s2_ a2_ e2_ => ?_)
      have f2_ : zfr [11, 12, 13] [12, 13, 14] s a s2_ a2_ := zfr_tr f28 (zfr_mo e2_ (by decide) (by decide))
      refine zEs_run 5 rfl ?_
      refine zEs_wv rfl rfl (x_26 13 33 32 rfl rfl (fun _ => rfl) f2_.2.2) (fun E hE => by cases hE) (fun s3_ a3_ e3_ => ?_)
      have f3_ : zfr [11, 12, 13] [12, 13, 14] s a s3_ a3_ := zfr_tr f2_ (zfr_mo e3_ (by decide) (by decide))
      refine zEs_run 5 rfl ?_
      refine zEs_wv rfl rfl (x_26 14 35 34 rfl rfl (fun _ => rfl) f3_.2.2) (fun E hE => by cases hE) (fun s4_ a4_ e4_ => ?_)
      have f4_ : zfr [11, 12, 13] [12, 13, 14] s a s4_ a4_ := zfr_tr f3_ (zfr_mo e4_ (by decide) (by decide))
      refine zEs_run 6 (h' := zx (zup s4_ 11 _) a4_ T) rfl ?_
      exact zEs_end rfl rfl (Or.inl ⟨_, _, _, rfl, (zfr_s (k := 11) f4_ (by decide)), rfl⟩)
  refine zEs_run 2 rfl ?_
  refine zEs_icmp rfl (fun _ => ?_) (fun _ => ?_)
  · skip
    refine zEs_run 6 (h' := zx (zup s 12 _) a T) rfl ?_
    exact c28 _ _ (zfr_s (k := 12) f0 (by decide))
  · skip
    refine zEs_run 7 (h' := zx (zup s 13 _) a T) rfl ?_
    exact c28 _ _ (zfr_s (k := 13) f0 (by decide))
theorem k_37 (hL : zaL a) {x1 : Int32} {x2 : Int32} : zMs xs (D + 1) 37 [.ref 29, .int x1, .int x2] (zx s a T) nc ns (zPr zRb [] (zx s a T) nc ns) := by
  refine ⟨_, rfl, ?_⟩
  refine zEs_run 3 rfl ?_
  refine zEs_ci rfl rfl (x_25 13 33 32 rfl rfl hL) (fun E hE => by cases hE) (fun v1 => ?_)
  refine zEs_run 1 rfl ?_
  refine zEs_icmp rfl (fun _ => ?_) (fun _ => ?_)
  · skip
    refine zEs_run 1 rfl ?_
    exact zEs_bret rfl (Or.inl rfl) (Or.inl ⟨_, ⟨_, Or.inl rfl, rfl⟩, rfl⟩)
  · skip
    refine zEs_run 3 rfl ?_
    refine zEs_ci rfl rfl (x_25 12 31 30 rfl rfl hL) (fun E hE => by cases hE) (fun v3 => ?_)
    refine zEs_run 3 rfl ?_
    refine zEs_icmp rfl (fun _ => ?_) (fun _ => ?_)
    · skip
      refine zEs_run 1 rfl ?_
      exact zEs_bret rfl (Or.inl rfl) (Or.inl ⟨_, ⟨_, Or.inl rfl, rfl⟩, rfl⟩)
    · skip
      refine zEs_run 2 rfl ?_
      exact zEs_bret rfl (Or.inr rfl) (Or.inl ⟨_, ⟨_, Or.inr rfl, rfl⟩, rfl⟩)
theorem k_36 (hL : zaL a) {x1 : Int32} : zMs xs (D + 1) 36 [.ref 29, .int x1] (zx s a T) nc ns (zPr zRb [] (zx s a T) nc ns) := by
  refine ⟨_, rfl, ?_⟩
  have c4 : ∀ (n4 : Nat) (i4_2 : Int32), (((s 11)).toInt - (i4_2).toInt).toNat < n4 → zEs xs (D + 1) 36 4 [some (.ref 29), some (.int x1), some (.int i4_2)] [] (zx s a T) nc ns (zPr zRb [] (zx s a T) nc ns) := by
    intro n4
    induction n4 with
    | zero =>
      intro i4_2 hn4
      exact absurd hn4 (Nat.not_lt_zero _)
    | succ n4 ih4 =>
      intro i4_2 hn4
      refine zEs_run 3 rfl ?_
      refine zEs_icmp rfl (fun g4 => ?_) (fun g4 => ?_)
      · skip
        refine zEs_run 1 rfl ?_
        exact zEs_bret rfl (Or.inl rfl) (Or.inl ⟨_, ⟨_, Or.inl rfl, rfl⟩, rfl⟩)
      · skip
        have g4 : ¬ (s 11) ≤ i4_2 := g4
        have c52 : zEs xs (D + 1) 36 52 [some (.ref 29), some (.int x1), some (.int i4_2)] [] (zx s a T) nc ns (zPr zRb [] (zx s a T) nc ns) := by
          refine zEs_run 2 rfl ?_
          exact ih4 _ (Nat.lt_of_lt_of_le (zdec g4) (Nat.le_of_lt_succ hn4))
        refine zEs_run 3 rfl ?_
        refine zEs_ci rfl rfl (x_25 12 31 30 rfl rfl hL) (fun E hE => by cases hE) (fun v1 => ?_)
        refine zEs_run 3 rfl ?_
        refine zEs_ci rfl rfl (x_25 12 31 30 rfl rfl hL) (fun E hE => by cases hE) (fun v2 => ?_)
        refine zEs_icmp rfl (fun _ => ?_) (fun _ => ?_)
        · skip
          exact c52 
        · skip
          refine zEs_run 3 rfl ?_
          refine zEs_ci rfl rfl (x_25 13 33 32 rfl rfl hL) (fun E hE => by cases hE) (fun v4 => ?_)
          refine zEs_run 3 rfl ?_
          refine zEs_ci rfl rfl (x_25 13 33 32 rfl rfl hL) (fun E hE => by cases hE) (fun v5 => ?_)
          refine zEs_icmp rfl (fun _ => ?_) (fun _ => ?_)
          · skip
            exact c52 
          · skip
            refine zEs_run 1 rfl ?_
            exact zEs_bret rfl (Or.inr rfl) (Or.inl ⟨_, ⟨_, Or.inr rfl, rfl⟩, rfl⟩)
  refine zEs_run 4 rfl ?_
  exact c4 _ _ (Nat.lt_succ_self _)
theorem k_35 (hL : zaL a) {x1 : Int32} : zMs xs (D + 2) 35 [.ref 29, .int x1] (zx s a T) nc ns (zPr zRi [] (zx s a T) nc ns) := by
  refine ⟨_, rfl, ?_⟩
  have c4 : ∀ (n4 : Nat) (i4_2 : Int32) (i4_3 : Int32) (o4_4 : Option Value) (o4_5 : Option Value), (((s 11)).toInt - (i4_3).toInt).toNat < n4 → zEs xs (D + 2) 35 4 [some (.ref 29), some (.int x1), some (.int i4_2), some (.int i4_3), o4_4, o4_5] [] (zx s a T) nc ns (zPr zRi [] (zx s a T) nc ns) := by
    intro n4
    induction n4 with
    | zero =>
      intro i4_2 i4_3 o4_4 o4_5 hn4
      exact absurd hn4 (Nat.not_lt_zero _)
    | succ n4 ih4 =>
      intro i4_2 i4_3 o4_4 o4_5 hn4
      refine zEs_run 3 rfl ?_
      refine zEs_icmp rfl (fun g4 => ?_) (fun g4 => ?_)
      · skip
        refine zEs_run 1 rfl ?_
        exact zEs_end rfl rfl (Or.inl ⟨_, ⟨_, rfl⟩, rfl⟩)
      · skip
        have g4 : ¬ (s 11) ≤ i4_3 := g4
        have c65 : ∀ (i65_2 : Int32) (i65_4 : Int32) (i65_5 : Int32), zEs xs (D + 2) 35 65 [some (.ref 29), some (.int x1), some (.int i65_2), some (.int i4_3), some (.int i65_4), some (.int i65_5)] [] (zx s a T) nc ns (zPr zRi [] (zx s a T) nc ns) := by
          intro i65_2 i65_4 i65_5
          refine zEs_run 2 rfl ?_
          exact ih4 _ _ (some (.int _)) (some (.int _)) (Nat.lt_of_lt_of_le (zdec g4) (Nat.le_of_lt_succ hn4))
        have c38 : ∀ (i38_4 : Int32) (t38_0 : Int32), zEs xs (D + 2) 35 38 [some (.ref 29), some (.int x1), some (.int i4_2), some (.int i4_3), some (.int i38_4), o4_5] [.int t38_0] (zx s a T) nc ns (zPr zRi [] (zx s a T) nc ns) := by
          intro i38_4 t38_0
          refine zEs_run 2 rfl ?_
          refine zEs_if rfl (fun _ => ?_) (fun _ => ?_)
          · skip
            exact c65 _ _ _
          · skip
            refine zEs_run 3 rfl ?_
            refine zEs_cb rfl rfl (k_37 hL) (fun E hE => by cases hE) (fun v2 hb2 => ?_)
            refine zEs_if rfl (fun _ => ?_) (fun _ => ?_)
            · skip
              exact c65 _ _ _
            · skip
              refine zEs_run 2 rfl ?_
              refine zEs_cb rfl rfl (k_36 hL) (fun E hE => by cases hE) (fun v4 hb4 => ?_)
              refine zEs_if rfl (fun _ => ?_) (fun _ => ?_)
              · skip
                exact c65 _ _ _
              · skip
                refine zEs_run 2 rfl ?_
                exact c65 _ _ _
        have c33 : ∀ (i33_4 : Int32), zEs xs (D + 2) 35 33 [some (.ref 29), some (.int x1), some (.int i4_2), some (.int i4_3), some (.int i33_4), o4_5] [] (zx s a T) nc ns (zPr zRi [] (zx s a T) nc ns) := by
          intro i33_4
          refine zEs_run 2 rfl ?_
          exact c38 _ _
        refine zEs_run 3 rfl ?_
        refine zEs_ci rfl rfl (x_25 12 31 30 rfl rfl hL) (fun E hE => by cases hE) (fun v6 => ?_)
        refine zEs_run 3 rfl ?_
        refine zEs_icmp rfl (fun _ => ?_) (fun _ => ?_)
        · skip
          exact c33 _
        · skip
          refine zEs_run 2 rfl ?_
          refine zEs_icmp rfl (fun _ => ?_) (fun _ => ?_)
          · skip
            refine zEs_run 1 rfl ?_
            exact c38 _ _
          · skip
            exact c33 _
  refine zEs_run 4 rfl ?_
  exact c4 _ _ _ (none) (none) (Nat.lt_succ_self _)
theorem k_34 (hL : zaL a) {x1 : Int32} {x2 : Int32} {x3 : Int32} {x4 : Int32} : zMs xs (D + 0) 34 [.int x1, .int x2, .int x3, .int x4] (zx s a T) nc ns (zPr zRi [] (zx s a T) nc ns) := by
  refine ⟨_, rfl, ?_⟩
  refine zEs_run 2 rfl ?_
  refine zEs_icmp rfl (fun _ => ?_) (fun _ => ?_)
  · skip
    refine zEs_run 2 rfl ?_
    refine zEs_icmp rfl (fun _ => ?_) (fun _ => ?_)
    · skip
      refine zEs_run 1 rfl ?_
      exact zEs_end rfl rfl (Or.inl ⟨_, ⟨_, rfl⟩, rfl⟩)
    · skip
      refine zEs_run 2 rfl ?_
      exact zEs_end rfl rfl (Or.inl ⟨_, ⟨_, rfl⟩, rfl⟩)
  · skip
    refine zEs_run 1 rfl ?_
    exact zEs_end rfl rfl (Or.inl ⟨_, ⟨_, rfl⟩, rfl⟩)
theorem k_33 (hL : zaL a) {x1 : Int32} {x2 : Int32} {x3 : Int32} : zMs xs (D + 2) 33 [.ref 29, .int x1, .int x2, .int x3] (zx s a T) nc ns (zPr zRb [] (zx s a T) nc ns) := by
  refine ⟨_, rfl, ?_⟩
  have c6 : ∀ (n6 : Nat) (i6_4 : Int32) (i6_5 : Int32) (o6_6 : Option Value) (o6_7 : Option Value), (((s 11)).toInt - (i6_5).toInt).toNat < n6 → zEs xs (D + 2) 33 6 [some (.ref 29), some (.int x1), some (.int x2), some (.int x3), some (.int i6_4), some (.int i6_5), o6_6, o6_7] [] (zx s a T) nc ns (zPr zRb [] (zx s a T) nc ns) := by
    intro n6
    induction n6 with
    | zero =>
      intro i6_4 i6_5 o6_6 o6_7 hn6
      exact absurd hn6 (Nat.not_lt_zero _)
    | succ n6 ih6 =>
      intro i6_4 i6_5 o6_6 o6_7 hn6
      refine zEs_run 3 rfl ?_
      refine zEs_icmp rfl (fun g6 => ?_) (fun g6 => ?_)
      · skip
        refine zEs_run 1 rfl ?_
        refine zEs_ci rfl rfl x_229 (fun E hE => by cases hE) (fun v1 => ?_)
        refine zEs_run 1 rfl ?_
        refine zEs_icmp rfl (fun _ => ?_) (fun _ => ?_)
        · skip
          refine zEs_run 1 rfl ?_
          exact zEs_bret rfl (Or.inl rfl) (Or.inl ⟨_, ⟨_, Or.inl rfl, rfl⟩, rfl⟩)
        · skip
          refine zEs_run 2 rfl ?_
          exact zEs_bret rfl (Or.inr rfl) (Or.inl ⟨_, ⟨_, Or.inr rfl, rfl⟩, rfl⟩)
      · skip
        have g6 : ¬ (s 11) ≤ i6_5 := g6
        have c96 : ∀ (i96_4 : Int32) (i96_6 : Int32) (i96_7 : Int32), zEs xs (D + 2) 33 96 [some (.ref 29), some (.int x1), some (.int x2), some (.int x3), some (.int i96_4), some (.int i6_5), some (.int i96_6), some (.int i96_7)] [] (zx s a T) nc ns (zPr zRb [] (zx s a T) nc ns) := by
          intro i96_4 i96_6 i96_7
          refine zEs_run 2 rfl ?_
          exact ih6 _ _ (some (.int _)) (some (.int _)) (Nat.lt_of_lt_of_le (zdec g6) (Nat.le_of_lt_succ hn6))
        have c92 : ∀ (i92_6 : Int32) (i92_7 : Int32) (t92_0 : Int32) (t92_1 : Int32) (t92_2 : Int32), zEs xs (D + 2) 33 92 [some (.ref 29), some (.int x1), some (.int x2), some (.int x3), some (.int i6_4), some (.int i6_5), some (.int i92_6), some (.int i92_7)] [.int t92_0, .int t92_1, .int t92_2] (zx s a T) nc ns (zPr zRb [] (zx s a T) nc ns) := by
          intro i92_6 i92_7 t92_0 t92_1 t92_2
          refine zEs_run 3 rfl ?_
          exact c96 _ _ _
        refine zEs_run 3 rfl ?_
        refine zEs_ci rfl rfl (x_25 12 31 30 rfl rfl hL) (fun E hE => by cases hE) (fun v3 => ?_)
        refine zEs_run 8 rfl ?_
        refine zEs_ci rfl rfl (x_25 12 31 30 rfl rfl hL) (fun E hE => by cases hE) (fun v4 => ?_)
        refine zEs_run 6 rfl ?_
        refine zEs_cb rfl rfl (k_37 hL) (fun E hE => by cases hE) (fun v5 hb5 => ?_)
        refine zEs_if rfl (fun _ => ?_) (fun _ => ?_)
        · skip
          exact c96 _ _ _
        · skip
          refine zEs_run 4 rfl ?_
          refine zEs_ci rfl rfl (x_25 13 33 32 rfl rfl hL) (fun E hE => by cases hE) (fun v7 => ?_)
          refine zEs_run 2 rfl ?_
          refine zEs_ci rfl rfl (k_34 hL) (fun E hE => by cases hE) (fun v8 => ?_)
          refine zEs_run 1 rfl ?_
          refine zEs_icmp rfl (fun _ => ?_) (fun _ => ?_)
          · skip
            exact c96 _ _ _
          · skip
            refine zEs_run 4 rfl ?_
            refine zEs_icmp rfl (fun _ => ?_) (fun _ => ?_)
            · skip
              refine zEs_run 1 rfl ?_
              exact c92 _ _ _ _ _
            · skip
              refine zEs_run 2 rfl ?_
              exact c92 _ _ _ _ _
  refine zEs_run 4 rfl ?_
  exact c6 _ _ _ (none) (none) (Nat.lt_succ_self _)
theorem k_32 (hL : zaL a) {x1 : Int32} {x2 : Int32} : zMs xs (D + 3) 32 [.ref 29, .int x1, .int x2] (zx s a T) nc ns (zPr zRi [] (zx s a T) nc ns) := by
  refine ⟨_, rfl, ?_⟩
  have c27 : ∀ (n27 : Nat) (i27_3 : Int32) (i27_4 : Int32), ((i27_3).toInt - (i27_4).toInt).toNat < n27 → zEs xs (D + 3) 32 27 [some (.ref 29), some (.int x1), some (.int x2), some (.int i27_3), some (.int i27_4)] [] (zx s a T) nc ns (zPr zRi [] (zx s a T) nc ns) := by
    intro n27
    induction n27 with
    | zero =>
      intro i27_3 i27_4 hn27
      exact absurd hn27 (Nat.not_lt_zero _)
    | succ n27 ih27 =>
      intro i27_3 i27_4 hn27
      refine zEs_run 2 rfl ?_
      refine zEs_icmp rfl (fun g27 => ?_) (fun g27 => ?_)
      · skip
        refine zEs_run 1 rfl ?_
        exact zEs_end rfl rfl (Or.inl ⟨_, ⟨_, rfl⟩, rfl⟩)
      · skip
        have g27 : ¬ i27_3 ≤ i27_4 := g27
        refine zEs_run 4 rfl ?_
        refine zEs_cb rfl rfl (k_33 hL) (fun E hE => by cases hE) (fun v1 hb1 => ?_)
        refine zEs_if rfl (fun _ => ?_) (fun _ => ?_)
        · skip
          refine zEs_run 2 rfl ?_
          exact ih27 _ _ (Nat.lt_of_lt_of_le (zdec g27) (Nat.le_of_lt_succ hn27))
        · skip
          refine zEs_run 1 rfl ?_
          exact zEs_end rfl rfl (Or.inl ⟨_, ⟨_, rfl⟩, rfl⟩)
  have c23 : ∀ (t23_0 : Int32), zEs xs (D + 3) 32 23 [some (.ref 29), some (.int x1), some (.int x2), none, none] [.int t23_0] (zx s a T) nc ns (zPr zRi [] (zx s a T) nc ns) := by
    intro t23_0
    refine zEs_run 3 rfl ?_
    exact c27 _ _ _ (Nat.lt_succ_self _)
  refine zEs_run 2 rfl ?_
  refine zEs_icmp rfl (fun _ => ?_) (fun _ => ?_)
  · skip
    refine zEs_run 2 rfl ?_
    refine zEs_icmp rfl (fun _ => ?_) (fun _ => ?_)
    · skip
      refine zEs_run 1 rfl ?_
      exact c23 _
    · skip
      refine zEs_run 2 rfl ?_
      exact c23 _
  · skip
    refine zEs_run 2 rfl ?_
    refine zEs_ci rfl rfl (k_35 hL) (fun E hE => by cases hE) (fun v5 => ?_)
    exact zEs_end rfl rfl (Or.inl ⟨_, ⟨_, rfl⟩, rfl⟩)
theorem k_38 (hL : zaL a) : zMs xs (D + 0) 38 [.ref 29] (zx s a T) nc ns (zPr zRb [] (zx s a T) nc ns) := by
  refine ⟨_, rfl, ?_⟩
  refine zEs_run 3 rfl ?_
  refine zEs_icmp rfl (fun _ => ?_) (fun _ => ?_)
  · skip
    refine zEs_run 1 rfl ?_
    exact zEs_bret rfl (Or.inl rfl) (Or.inl ⟨_, ⟨_, Or.inl rfl, rfl⟩, rfl⟩)
  · skip
    refine zEs_run 7 rfl ?_
    refine zEs_icmp rfl (fun _ => ?_) (fun _ => ?_)
    · skip
      refine zEs_run 1 rfl ?_
      exact zEs_bret rfl (Or.inl rfl) (Or.inl ⟨_, ⟨_, Or.inl rfl, rfl⟩, rfl⟩)
    · skip
      refine zEs_run 2 rfl ?_
      exact zEs_bret rfl (Or.inr rfl) (Or.inl ⟨_, ⟨_, Or.inr rfl, rfl⟩, rfl⟩)
theorem k_42 (hL : zaL a) {x1 : Int32} {x2 : Int32} : zMs xs (D + 1) 42 [.ref 6, .int x1, .int x2] (zx s a T) nc ns (zPr zRi [] (zx s a T) nc ns) := by
  refine ⟨_, rfl, ?_⟩
  have c5 : ∀ (n5 : Nat) (i5_3 : Int32) (i5_4 : Int32) (o5_5 : Option Value), (((s 9)).toInt - (i5_4).toInt).toNat < n5 → zEs xs (D + 1) 42 5 [some (.ref 6), some (.int x1), some (.int x2), some (.int i5_3), some (.int i5_4), o5_5] [] (zx s a T) nc ns (zPr zRi [] (zx s a T) nc ns) := by
    intro n5
    induction n5 with
    | zero =>
      intro i5_3 i5_4 o5_5 hn5
      exact absurd hn5 (Nat.not_lt_zero _)
    | succ n5 ih5 =>
      intro i5_3 i5_4 o5_5 hn5
      refine zEs_run 4 rfl ?_
      refine zEs_icmp rfl (fun g5 => ?_) (fun g5 => ?_)
      · skip
        refine zEs_run 1 rfl ?_
        exact zEs_end rfl rfl (Or.inl ⟨_, ⟨_, rfl⟩, rfl⟩)
      · skip
        have g5 : ¬ (s 9) ≤ i5_4 := g5
        have c77 : ∀ (i77_3 : Int32) (o77_5 : Option Value), zEs xs (D + 1) 42 77 [some (.ref 6), some (.int x1), some (.int x2), some (.int i77_3), some (.int i5_4), o77_5] [] (zx s a T) nc ns (zPr zRi [] (zx s a T) nc ns) := by
          intro i77_3 o77_5
          refine zEs_run 2 rfl ?_
          exact ih5 _ _ (o77_5) (Nat.lt_of_lt_of_le (zdec g5) (Nat.le_of_lt_succ hn5))
        have c76 : ∀ (i76_5 : Int32) (t76_0 : Int32), zEs xs (D + 1) 42 76 [some (.ref 6), some (.int x1), some (.int x2), some (.int i5_3), some (.int i5_4), some (.int i76_5)] [.int t76_0] (zx s a T) nc ns (zPr zRi [] (zx s a T) nc ns) := by
          intro i76_5 t76_0
          refine zEs_run 1 rfl ?_
          exact c77 _ (some (.int _))
        refine zEs_run 4 rfl ?_
        refine zEs_ci rfl rfl (x_25 6 17 16 rfl rfl hL) (fun E hE => by cases hE) (fun v1 => ?_)
        refine zEs_run 1 rfl ?_
        refine zEs_icmp rfl (fun _ => ?_) (fun _ => ?_)
        · skip
          exact c77 _ (o5_5)
        · skip
          refine zEs_run 4 rfl ?_
          refine zEs_ci rfl rfl (x_25 7 19 18 rfl rfl hL) (fun E hE => by cases hE) (fun v3 => ?_)
          refine zEs_run 5 rfl ?_
          refine zEs_ci rfl rfl (x_25 8 21 20 rfl rfl hL) (fun E hE => by cases hE) (fun v4 => ?_)
          refine zEs_run 1 rfl ?_
          refine zEs_icmp rfl (fun _ => ?_) (fun _ => ?_)
          · skip
            refine zEs_run 5 rfl ?_
            exact c76 _ _
          · skip
            refine zEs_run 4 rfl ?_
            exact c76 _ _
  refine zEs_run 4 rfl ?_
  exact c5 _ _ _ (none) (Nat.lt_succ_self _)
theorem k_41 (hL : zaL a) {x1 : Int32} {x2 : Int32} : zMs xs (D + 2) 41 [.ref 6, .int x1, .int x2] (zx s a T) nc ns (zPo zRv [] [] [2] s a T nc ns) := by
  refine ⟨_, rfl, ?_⟩
  have f0 : zfr [] [2] s a s a := zfr_rf hL
  refine zEs_run 6 rfl ?_
  refine zEs_ci rfl rfl (k_42 hL) (fun E hE => by cases hE) (fun v1 => ?_)
  refine zEs_wv rfl rfl (x_26 2 8 7 rfl rfl (fun _ => rfl) hL) (fun E hE => by cases hE) (fun s2_ a2_ e2_ => ?_)
  have f2_ : zfr [] [2] s a s2_ a2_ := zfr_tr f0 (zfr_mo e2_ (by decide) (by decide))
  exact zEs_end rfl rfl (Or.inl ⟨_, _, _, rfl, f2_, rfl⟩)
theorem k_40 (hL : zaL a) {x1 : Int32} : zMs xs (D + 3) 40 [.ref 6, .int x1] (zx s a T) nc ns (zPo zRv [] [3, 9, 10] [2, 3, 6, 7, 8, 9, 10, 11] s a T nc ns) := by
  refine ⟨_, rfl, ?_⟩
  have f0 : zfr [3, 9, 10] [2, 3, 6, 7, 8, 9, 10, 11] s a s a := zfr_rf hL
  have c37 : ∀ (n37 : Nat) (i37_2 : Int32) (s37 : Nat → Int32) (a37 : Nat → List Int32) (f37 : zfr [3, 9, 10] [2, 3, 6, 7, 8, 9, 10, 11] s a s37 a37), (((Int16.ofInt 160).toInt32).toInt - (i37_2).toInt).toNat < n37 → zEs xs (D + 3) 40 37 [some (.ref 6), some (.int x1), some (.int i37_2)] [] (zx s37 a37 T) nc ns (zPo zRv [] [3, 9, 10] [2, 3, 6, 7, 8, 9, 10, 11] s a T nc ns) := by
    intro n37
    induction n37 with
    | zero =>
      intro i37_2 s37 a37 f37 hn37
      exact absurd hn37 (Nat.not_lt_zero _)
    | succ n37 ih37 =>
      intro i37_2 s37 a37 f37 hn37
      refine zEs_run 2 rfl ?_
      refine zEs_icmp rfl (fun g37 => ?_) (fun g37 => ?_)
      · skip
        exact zEs_end rfl rfl (Or.inl ⟨_, _, _, rfl, f37, rfl⟩)
      · skip
        have g37 : ¬ (Int16.ofInt 160).toInt32 ≤ i37_2 := g37
        refine zEs_run 3 rfl ?_
        refine zEs_wv rfl rfl (k_41 f37.2.2) (fun E hE => by cases hE) (fun s1_ a1_ e1_ => ?_)
        have f1_ : zfr [3, 9, 10] [2, 3, 6, 7, 8, 9, 10, 11] s a s1_ a1_ := zfr_tr f37 (zfr_mo e1_ (by decide) (by decide))
        refine zEs_run 2 rfl ?_
        exact ih37 _ _ _ f1_ (Nat.lt_of_lt_of_le (zdec g37) (Nat.le_of_lt_succ hn37))
  refine zEs_run 7 (h' := zx (zup s 3 _) a T) rfl ?_
  refine zEs_wv rfl rfl (k_22_15 hL) (fun E hE => by cases hE) (fun s2_ a2_ e2_ => ?_)
  have f2_ : zfr [3, 9, 10] [2, 3, 6, 7, 8, 9, 10, 11] s a s2_ a2_ := zfr_tr (zfr_s (k := 3) f0 (by decide)) (zfr_mo e2_ (by decide) (by decide))
  refine zEs_run 4 rfl ?_
  refine zEs_wv rfl rfl (k_22_22 f2_.2.2) (fun E hE => by cases hE) (fun s3_ a3_ e3_ => ?_)
  have f3_ : zfr [3, 9, 10] [2, 3, 6, 7, 8, 9, 10, 11] s a s3_ a3_ := zfr_tr f2_ (zfr_mo e3_ (by decide) (by decide))
  refine zEs_run 3 rfl ?_
  refine zEs_wv rfl rfl (x_27 3 10 9 rfl rfl (fun _ => rfl) f3_.2.2) (fun E hE => by cases hE) (fun s4_ a4_ e4_ => ?_)
  have f4_ : zfr [3, 9, 10] [2, 3, 6, 7, 8, 9, 10, 11] s a s4_ a4_ := zfr_tr f3_ (zfr_mo e4_ (by decide) (by decide))
  refine zEs_run 2 rfl ?_
  exact c37 _ _ _ _ f4_ (Nat.lt_succ_self _)
theorem k_45 (hL : zaL a) : zMs xs (D + 0) 45 [.ref 6] (zx s a T) nc ns (zPo zRi [] [7, 8] [] s a T nc ns) := by
  refine ⟨_, rfl, ?_⟩
  have f0 : zfr [7, 8] [] s a s a := zfr_rf hL
  refine zEs_run 19 (h' := zx (zup (zup s 7 _) 8 _) a T) rfl ?_
  exact zEs_end rfl rfl (Or.inl ⟨_, _, _, ⟨_, rfl⟩, (zfr_s (k := 8) (zfr_s (k := 7) f0 (by decide)) (by decide)), rfl⟩)
theorem k_44 (hL : zaL a) {x1 : Int32} : zMs xs (D + 3) 44 [.ref 6, .int x1] (zx s a T) nc ns (zPo zRv [] [7, 8] [2] s a T nc ns) := by
  refine ⟨_, rfl, ?_⟩
  have f0 : zfr [7, 8] [2] s a s a := zfr_rf hL
  have c35 : ∀ (i35_2 : Int32) (i35_3 : Int32) (t35_0 : Int32) (s35 : Nat → Int32) (a35 : Nat → List Int32) (f35 : zfr [7, 8] [2] s a s35 a35), zEs xs (D + 3) 44 35 [some (.ref 6), some (.int x1), some (.int i35_2), some (.int i35_3), none] [.int t35_0] (zx s35 a35 T) nc ns (zPo zRv [] [7, 8] [2] s a T nc ns) := by
    intro i35_2 i35_3 t35_0 s35 a35 f35
    refine zEs_run 6 rfl ?_
    refine zEs_ci rfl rfl (x_25 2 8 7 rfl rfl f35.2.2) (fun E hE => by cases hE) (fun v1 => ?_)
    refine zEs_run 4 rfl ?_
    refine zEs_wv rfl rfl (k_41 f35.2.2) (fun E hE => by cases hE) (fun s2_ a2_ e2_ => ?_)
    have f2_ : zfr [7, 8] [2] s a s2_ a2_ := zfr_tr f35 (zfr_mo e2_ (by decide) (by decide))
    exact zEs_end rfl rfl (Or.inl ⟨_, _, _, rfl, f2_, rfl⟩)
  refine zEs_run 4 rfl ?_
  refine zEs_wi rfl rfl (k_45 hL) (fun E hE => by cases hE) (fun v3 s3_ a3_ e3_ => ?_)
  have f3_ : zfr [7, 8] [2] s a s3_ a3_ := zfr_tr f0 (zfr_mo e3_ (by decide) (by decide))
  refine zEs_run 5 rfl ?_
  refine zEs_wi rfl rfl (k_45 f3_.2.2) (fun E hE => by cases hE) (fun v4 s4_ a4_ e4_ => ?_)
  have f4_ : zfr [7, 8] [2] s a s4_ a4_ := zfr_tr f3_ (zfr_mo e4_ (by decide) (by decide))
  refine zEs_run 3 rfl ?_
  refine zEs_if rfl (fun gz22 => ?_) (fun gz22 => ?_)
  · skip
    refine zEs_run 1 rfl ?_
    exact c35 _ _ _ _ _ f4_
  · skip
    refine zEs_run 3 rfl ?_
    refine zEs_irem rfl (znz gz22) ?_
    refine zEs_run 1 rfl ?_
    exact c35 _ _ _ _ _ f4_
theorem k_43 (hL : zaL a) {x1 : Int32} : zMs xs (D + 4) 43 [.ref 6, .int x1] (zx s a T) nc ns (zPo zRv [] [7, 8] [2, 3, 4] s a T nc ns) := by
  refine ⟨_, rfl, ?_⟩
  have f0 : zfr [7, 8] [2, 3, 4] s a s a := zfr_rf hL
  have c64 : ∀ (i64_2 : Int32) (i64_3 : Int32) (s64 : Nat → Int32) (a64 : Nat → List Int32) (f64 : zfr [7, 8] [2, 3, 4] s a s64 a64), zEs xs (D + 4) 43 64 [some (.ref 6), some (.int x1), some (.int i64_2), some (.int i64_3)] [] (zx s64 a64 T) nc ns (zPo zRv [] [7, 8] [2, 3, 4] s a T nc ns) := by
    intro i64_2 i64_3 s64 a64 f64
    refine zEs_run 2 rfl ?_
    refine zEs_icmp rfl (fun _ => ?_) (fun _ => ?_)
    · skip
      exact zEs_end rfl rfl (Or.inl ⟨_, _, _, rfl, f64, rfl⟩)
    · skip
      refine zEs_run 4 rfl ?_
      refine zEs_wv rfl rfl (k_44 f64.2.2) (fun E hE => by cases hE) (fun s2_ a2_ e2_ => ?_)
      have f2_ : zfr [7, 8] [2, 3, 4] s a s2_ a2_ := zfr_tr f64 (zfr_mo e2_ (by decide) (by decide))
      exact zEs_end rfl rfl (Or.inl ⟨_, _, _, rfl, f2_, rfl⟩)
  refine zEs_run 3 rfl ?_
  refine zEs_ci rfl rfl (x_25 3 10 9 rfl rfl hL) (fun E hE => by cases hE) (fun v3 => ?_)
  refine zEs_run 7 rfl ?_
  refine zEs_wv rfl rfl (x_26 3 10 9 rfl rfl (fun _ => rfl) hL) (fun E hE => by cases hE) (fun s4_ a4_ e4_ => ?_)
  have f4_ : zfr [7, 8] [2, 3, 4] s a s4_ a4_ := zfr_tr f0 (zfr_mo e4_ (by decide) (by decide))
  refine zEs_run 5 rfl ?_
  refine zEs_wv rfl rfl (x_26 4 12 11 rfl rfl (fun _ => rfl) f4_.2.2) (fun E hE => by cases hE) (fun s5_ a5_ e5_ => ?_)
  have f5_ : zfr [7, 8] [2, 3, 4] s a s5_ a5_ := zfr_tr f4_ (zfr_mo e5_ (by decide) (by decide))
  refine zEs_run 2 rfl ?_
  refine zEs_if rfl (fun gz36 => ?_) (fun gz36 => ?_)
  · skip
    exact zEs_end rfl rfl (Or.inl ⟨_, _, _, rfl, f5_, rfl⟩)
  · skip
    refine zEs_run 3 rfl ?_
    refine zEs_irem rfl (znz gz36) ?_
    refine zEs_if rfl (fun _ => ?_) (fun _ => ?_)
    · skip
      exact zEs_end rfl rfl (Or.inl ⟨_, _, _, rfl, f5_, rfl⟩)
    · skip
      refine zEs_run 5 rfl ?_
      refine zEs_if rfl (fun _ => ?_) (fun _ => ?_)
      · skip
        exact c64 _ _ _ _ f5_
      · skip
        refine zEs_run 4 rfl ?_
        refine zEs_wv rfl rfl (k_44 f5_.2.2) (fun E hE => by cases hE) (fun s9_ a9_ e9_ => ?_)
        have f9_ : zfr [7, 8] [2, 3, 4] s a s9_ a9_ := zfr_tr f5_ (zfr_mo e9_ (by decide) (by decide))
        exact c64 _ _ _ _ f9_
theorem k_47 (hL : zaL a) {x1 : Int32} : zMs xs (D + 0) 47 [.ref 6, .int x1] (zx s a T) nc ns (zPr zRb [] (zx s a T) nc ns) := by
  refine ⟨_, rfl, ?_⟩
  refine zEs_run 2 rfl ?_
  refine zEs_if rfl (fun gz4 => ?_) (fun gz4 => ?_)
  · skip
    refine zEs_run 1 rfl ?_
    exact zEs_bret rfl (Or.inl rfl) (Or.inl ⟨_, ⟨_, Or.inl rfl, rfl⟩, rfl⟩)
  · skip
    refine zEs_run 3 rfl ?_
    refine zEs_irem rfl (znz gz4) ?_
    refine zEs_if rfl (fun _ => ?_) (fun _ => ?_)
    · skip
      refine zEs_run 1 rfl ?_
      exact zEs_bret rfl (Or.inl rfl) (Or.inl ⟨_, ⟨_, Or.inl rfl, rfl⟩, rfl⟩)
    · skip
      refine zEs_run 2 rfl ?_
      exact zEs_bret rfl (Or.inr rfl) (Or.inl ⟨_, ⟨_, Or.inr rfl, rfl⟩, rfl⟩)
theorem k_46 (hL : zaL a) : zMs xs (D + 3) 46 [.ref 6] (zx s a T) nc ns (zPo zRv [] [] [2, 3, 4] (zup s 4 (s 4 + Int32.ofInt 1)) a T nc ns) := by
  refine ⟨_, rfl, ?_⟩
  have f0 : zfr [] [2, 3, 4] (zup s 4 (s 4 + Int32.ofInt 1)) a (zup s 4 (s 4 + Int32.ofInt 1)) a := zfr_rf hL
  have c12 : ∀ (n12 : Nat) (i12_1 : Int32) (o12_2 : Option Value) (s12 : Nat → Int32) (a12 : Nat → List Int32) (f12 : zfr [] [2, 3, 4] (zup s 4 (s 4 + Int32.ofInt 1)) a s12 a12), (((s 10)).toInt - (i12_1).toInt).toNat < n12 → zEs xs (D + 3) 46 12 [some (.ref 6), some (.int i12_1), o12_2] [] (zx s12 a12 T) nc ns (zPo zRv [] [] [2, 3, 4] (zup s 4 (s 4 + Int32.ofInt 1)) a T nc ns) := by
    intro n12
    induction n12 with
    | zero =>
      intro i12_1 o12_2 s12 a12 f12 hn12
      exact absurd hn12 (Nat.not_lt_zero _)
    | succ n12 ih12 =>
      intro i12_1 o12_2 s12 a12 f12 hn12
      refine zEs_run 4 rfl ?_
      refine zEs_icmp rfl (fun g12 => ?_) (fun g12 => ?_)
      · skip
        refine zEs_run 3 rfl ?_
        refine zEs_cb rfl rfl (k_47 f12.2.2) (fun E hE => by cases hE) (fun v1 hb1 => ?_)
        refine zEs_if rfl (fun _ => ?_) (fun _ => ?_)
        · skip
          exact zEs_end rfl rfl (Or.inl ⟨_, _, _, rfl, f12, rfl⟩)
        · skip
          refine zEs_run 3 rfl ?_
          refine zEs_wv rfl rfl (x_27 3 10 9 rfl rfl (fun _ => rfl) f12.2.2) (fun E hE => by cases hE) (fun s3_ a3_ e3_ => ?_)
          have f3_ : zfr [] [2, 3, 4] (zup s 4 (s 4 + Int32.ofInt 1)) a s3_ a3_ := zfr_tr f12 (zfr_mo e3_ (by decide) (by decide))
          refine zEs_run 4 rfl ?_
          refine zEs_wv rfl rfl (x_27 4 12 11 rfl rfl (fun _ => rfl) f3_.2.2) (fun E hE => by cases hE) (fun s4_ a4_ e4_ => ?_)
          have f4_ : zfr [] [2, 3, 4] (zup s 4 (s 4 + Int32.ofInt 1)) a s4_ a4_ := zfr_tr f3_ (zfr_mo e4_ (by decide) (by decide))
          exact zEs_end rfl rfl (Or.inl ⟨_, _, _, rfl, f4_, rfl⟩)
      · skip
        have g12 : ¬ (s12 10) ≤ i12_1 := g12
        rw [f12.1 10 (by decide)] at g12
        have c92 : ∀ (i92_2 : Int32) (s92 : Nat → Int32) (a92 : Nat → List Int32) (f92 : zfr [] [2, 3, 4] (zup s 4 (s 4 + Int32.ofInt 1)) a s92 a92), zEs xs (D + 3) 46 92 [some (.ref 6), some (.int i12_1), some (.int i92_2)] [] (zx s92 a92 T) nc ns (zPo zRv [] [] [2, 3, 4] (zup s 4 (s 4 + Int32.ofInt 1)) a T nc ns) := by
          intro i92_2 s92 a92 f92
          refine zEs_run 2 rfl ?_
          exact ih12 _ (some (.int _)) _ _ f92 (Nat.lt_of_lt_of_le (zdec g12) (Nat.le_of_lt_succ hn12))
        refine zEs_run 4 rfl ?_
        refine zEs_ci rfl rfl (x_25 9 24 23 rfl rfl f12.2.2) (fun E hE => by cases hE) (fun v5 => ?_)
        refine zEs_run 8 rfl ?_
        refine zEs_ci rfl rfl (x_25 4 12 11 rfl rfl f12.2.2) (fun E hE => by cases hE) (fun v6 => ?_)
        refine zEs_run 5 rfl ?_
        refine zEs_ci rfl rfl (x_25 11 28 27 rfl rfl f12.2.2) (fun E hE => by cases hE) (fun v7 => ?_)
        refine zEs_icmp rfl (fun _ => ?_) (fun _ => ?_)
        · skip
          exact c92 _ _ _ f12
        · skip
          refine zEs_run 5 rfl ?_
          refine zEs_ci rfl rfl (x_25 2 8 7 rfl rfl f12.2.2) (fun E hE => by cases hE) (fun v9 => ?_)
          refine zEs_run 4 rfl ?_
          refine zEs_ci rfl rfl (x_25 10 26 25 rfl rfl f12.2.2) (fun E hE => by cases hE) (fun v10 => ?_)
          refine zEs_run 3 rfl ?_
          refine zEs_wv rfl rfl (k_41 f12.2.2) (fun E hE => by cases hE) (fun s11_ a11_ e11_ => ?_)
          have f11_ : zfr [] [2, 3, 4] (zup s 4 (s 4 + Int32.ofInt 1)) a s11_ a11_ := zfr_tr f12 (zfr_mo e11_ (by decide) (by decide))
          exact c92 _ _ _ f11_
  refine zEs_run 8 (h' := zx (zup s 4 (s 4 + Int32.ofInt 1)) a T) rfl ?_
  exact c12 _ _ (none) _ _ f0 (Nat.lt_succ_self _)
theorem k_49 (hL : zaL a) {x1 : Int32} {x2 : Int32} : zMs xs (D + 2) 49 [.ref 6, .int x1, .int x2] (zx s a T) nc ns (zPr zRb [] (zx s a T) nc ns) := by
  refine ⟨_, rfl, ?_⟩
  refine zEs_run 3 rfl ?_
  refine zEs_ci rfl rfl (x_25 2 8 7 rfl rfl hL) (fun E hE => by cases hE) (fun v1 => ?_)
  refine zEs_run 4 rfl ?_
  refine zEs_if rfl (fun _ => ?_) (fun _ => ?_)
  · skip
    refine zEs_run 1 rfl ?_
    exact zEs_bret rfl (Or.inl rfl) (Or.inl ⟨_, ⟨_, Or.inl rfl, rfl⟩, rfl⟩)
  · skip
    refine zEs_run 7 rfl ?_
    refine zEs_ci rfl rfl (k_42 hL) (fun E hE => by cases hE) (fun v3 => ?_)
    refine zEs_run 2 rfl ?_
    refine zEs_if rfl (fun _ => ?_) (fun _ => ?_)
    · skip
      refine zEs_run 1 rfl ?_
      exact zEs_bret rfl (Or.inl rfl) (Or.inl ⟨_, ⟨_, Or.inl rfl, rfl⟩, rfl⟩)
    · skip
      refine zEs_run 2 rfl ?_
      exact zEs_bret rfl (Or.inr rfl) (Or.inl ⟨_, ⟨_, Or.inr rfl, rfl⟩, rfl⟩)
theorem k_50 (hL : zaL a) {x1 : Int32} {x2 : Int32} (hb50 : (s 4 + x2).toInt < 2147483000) : zMs xs (D + 1) 50 [.ref 6, .int x1, .int x2] (zx s a T) nc ns (zPr zRb [] (zx s a T) nc ns) := by
  refine ⟨_, rfl, ?_⟩
  have c30 : ∀ (n30 : Nat) (i30_3 : Int32) (i30_4 : Int32), ((((s 4) + x2)).toInt + 1 - (i30_4).toInt).toNat < n30 → zEs xs (D + 1) 50 30 [some (.ref 6), some (.int x1), some (.int x2), some (.int i30_3), some (.int i30_4)] [] (zx s a T) nc ns (zPr zRb [] (zx s a T) nc ns) := by
    intro n30
    induction n30 with
    | zero =>
      intro i30_3 i30_4 hn30
      exact absurd hn30 (Nat.not_lt_zero _)
    | succ n30 ih30 =>
      intro i30_3 i30_4 hn30
      refine zEs_run 5 rfl ?_
      refine zEs_icmp rfl (fun g30 => ?_) (fun g30 => ?_)
      · skip
        refine zEs_run 1 rfl ?_
        exact zEs_bret rfl (Or.inl rfl) (Or.inl ⟨_, ⟨_, Or.inl rfl, rfl⟩, rfl⟩)
      · skip
        have g30 : ¬ ((s 4) + x2) < i30_4 := g30
        have c73 : ∀ (i73_3 : Int32), zEs xs (D + 1) 50 73 [some (.ref 6), some (.int x1), some (.int x2), some (.int i73_3), some (.int i30_4)] [] (zx s a T) nc ns (zPr zRb [] (zx s a T) nc ns) := by
          intro i73_3
          refine zEs_run 2 rfl ?_
          exact ih30 _ _ (Nat.lt_of_lt_of_le (zdec_le g30 (Int.le_refl _) hb50 (by decide) (by decide)) (Nat.le_of_lt_succ hn30))
        refine zEs_run 7 rfl ?_
        refine zEs_ci rfl rfl (x_25 11 28 27 rfl rfl hL) (fun E hE => by cases hE) (fun v1 => ?_)
        refine zEs_icmp rfl (fun _ => ?_) (fun _ => ?_)
        · skip
          refine zEs_run 2 rfl ?_
          refine zEs_cb rfl rfl (k_47 hL) (fun E hE => by cases hE) (fun v3 hb3 => ?_)
          refine zEs_if rfl (fun _ => ?_) (fun _ => ?_)
          · skip
            exact c73 _
          · skip
            refine zEs_run 2 rfl ?_
            exact c73 _
        · skip
          refine zEs_run 1 rfl ?_
          exact zEs_bret rfl (Or.inr rfl) (Or.inl ⟨_, ⟨_, Or.inr rfl, rfl⟩, rfl⟩)
  refine zEs_run 6 rfl ?_
  refine zEs_ci rfl rfl (x_25 9 24 23 rfl rfl hL) (fun E hE => by cases hE) (fun v5 => ?_)
  refine zEs_run 2 rfl ?_
  refine zEs_ci rfl rfl (x_25 4 12 11 rfl rfl hL) (fun E hE => by cases hE) (fun v6 => ?_)
  refine zEs_run 6 rfl ?_
  exact c30 _ _ _ (Nat.lt_succ_self _)
theorem k_48 (hL : zaL a) {x1 : Int32} (hb48 : (s 4 + x1).toInt < 2147483000) : zMs xs (D + 3) 48 [.ref 6, .int x1] (zx s a T) nc ns (zPo zRi [] [] [5] s a T nc ns) := by
  refine ⟨_, rfl, ?_⟩
  have f0 : zfr [] [5] s a s a := zfr_rf hL
  have c12 : ∀ (n12 : Nat) (i12_2 : Int32) (i12_3 : Int32) (o12_4 : Option Value) (o12_5 : Option Value) (o12_6 : Option Value) (s12 : Nat → Int32) (a12 : Nat → List Int32) (f12 : zfr [] [5] s a s12 a12), (((s 10)).toInt - (i12_3).toInt).toNat < n12 → zEs xs (D + 3) 48 12 [some (.ref 6), some (.int x1), some (.int i12_2), some (.int i12_3), o12_4, o12_5, o12_6] [] (zx s12 a12 T) nc ns (zPo zRi [] [] [5] s a T nc ns) := by
    intro n12
    induction n12 with
    | zero =>
      intro i12_2 i12_3 o12_4 o12_5 o12_6 s12 a12 f12 hn12
      exact absurd hn12 (Nat.not_lt_zero _)
    | succ n12 ih12 =>
      intro i12_2 i12_3 o12_4 o12_5 o12_6 s12 a12 f12 hn12
      refine zEs_run 4 rfl ?_
      refine zEs_icmp rfl (fun g12 => ?_) (fun g12 => ?_)
      · skip
        refine zEs_run 1 rfl ?_
        exact zEs_end rfl rfl (Or.inl ⟨_, _, _, ⟨_, rfl⟩, f12, rfl⟩)
      · skip
        have g12 : ¬ (s12 10) ≤ i12_3 := g12
        rw [f12.1 10 (by decide)] at g12
        have c120 : ∀ (i120_2 : Int32) (i120_4 : Int32) (i120_5 : Int32) (i120_6 : Int32) (s120 : Nat → Int32) (a120 : Nat → List Int32) (f120 : zfr [] [5] s a s120 a120), zEs xs (D + 3) 48 120 [some (.ref 6), some (.int x1), some (.int i120_2), some (.int i12_3), some (.int i120_4), some (.int i120_5), some (.int i120_6)] [] (zx s120 a120 T) nc ns (zPo zRi [] [] [5] s a T nc ns) := by
          intro i120_2 i120_4 i120_5 i120_6 s120 a120 f120
          refine zEs_run 2 rfl ?_
          exact ih12 _ _ (some (.int _)) (some (.int _)) (some (.int _)) _ _ f120 (Nat.lt_of_lt_of_le (zdec g12) (Nat.le_of_lt_succ hn12))
        have c69 : ∀ (i69_4 : Int32) (i69_5 : Int32) (t69_0 : Int32), zEs xs (D + 3) 48 69 [some (.ref 6), some (.int x1), some (.int i12_2), some (.int i12_3), some (.int i69_4), some (.int i69_5), o12_6] [.int t69_0] (zx s12 a12 T) nc ns (zPo zRi [] [] [5] s a T nc ns) := by
          intro i69_4 i69_5 t69_0
          refine zEs_run 2 rfl ?_
          refine zEs_if rfl (fun _ => ?_) (fun _ => ?_)
          · skip
            exact c120 _ _ _ _ _ _ f12
          · skip
            refine zEs_run 3 rfl ?_
            refine zEs_cb rfl rfl (k_49 f12.2.2) (fun E hE => by cases hE) (fun v2 hb2 => ?_)
            refine zEs_if rfl (fun _ => ?_) (fun _ => ?_)
            · skip
              exact c120 _ _ _ _ _ _ f12
            · skip
              refine zEs_run 3 rfl ?_
              refine zEs_cb rfl rfl (k_50 f12.2.2 (by rw [(f12).1 4 (by decide)]; exact hb48)) (fun E hE => by cases hE) (fun v4 hb4 => ?_)
              refine zEs_if rfl (fun _ => ?_) (fun _ => ?_)
              · skip
                exact c120 _ _ _ _ _ _ f12
              · skip
                refine zEs_run 6 rfl ?_
                refine zEs_ci rfl rfl (x_25 5 14 13 rfl rfl f12.2.2) (fun E hE => by cases hE) (fun v6 => ?_)
                refine zEs_run 2 rfl ?_
                refine zEs_wv rfl rfl (x_26 5 14 13 rfl rfl (fun _ => rfl) f12.2.2) (fun E hE => by cases hE) (fun s7_ a7_ e7_ => ?_)
                have f7_ : zfr [] [5] s a s7_ a7_ := zfr_tr f12 (zfr_mo e7_ (by decide) (by decide))
                refine zEs_run 1 rfl ?_
                exact c120 _ _ _ _ _ _ f7_
        refine zEs_run 4 rfl ?_
        refine zEs_ci rfl rfl (x_25 9 24 23 rfl rfl f12.2.2) (fun E hE => by cases hE) (fun v8 => ?_)
        refine zEs_run 5 rfl ?_
        refine zEs_ci rfl rfl (x_25 10 26 25 rfl rfl f12.2.2) (fun E hE => by cases hE) (fun v9 => ?_)
        refine zEs_run 4 rfl ?_
        refine zEs_ci rfl rfl (x_25 5 14 13 rfl rfl f12.2.2) (fun E hE => by cases hE) (fun v10 => ?_)
        refine zEs_run 2 rfl ?_
        refine zEs_if rfl (fun _ => ?_) (fun _ => ?_)
        · skip
          refine zEs_run 1 rfl ?_
          exact c69 _ _ _
        · skip
          refine zEs_run 2 rfl ?_
          exact c69 _ _ _
  refine zEs_run 3 rfl ?_
  refine zEs_wv rfl rfl (x_27 5 14 13 rfl rfl (fun _ => rfl) hL) (fun E hE => by cases hE) (fun s12_ a12_ e12_ => ?_)
  have f12_ : zfr [] [5] s a s12_ a12_ := zfr_tr f0 (zfr_mo e12_ (by decide) (by decide))
  refine zEs_run 4 rfl ?_
  exact c12 _ _ _ (none) (none) (none) _ _ f12_ (Nat.lt_succ_self _)
theorem k_51 (hL : zaL a) : zMs xs (D + 2) 51 [.ref 6] (zx s a T) nc ns (zPr zRb [] (zx s a T) nc ns) := by
  refine ⟨_, rfl, ?_⟩
  have c29 : ∀ (n29 : Nat) (i29_1 : Int32) (o29_2 : Option Value), (((s 9)).toInt - (i29_1).toInt).toNat < n29 → zEs xs (D + 2) 51 29 [some (.ref 6), some (.int i29_1), o29_2] [] (zx s a T) nc ns (zPr zRb [] (zx s a T) nc ns) := by
    intro n29
    induction n29 with
    | zero =>
      intro i29_1 o29_2 hn29
      exact absurd hn29 (Nat.not_lt_zero _)
    | succ n29 ih29 =>
      intro i29_1 o29_2 hn29
      refine zEs_run 4 rfl ?_
      refine zEs_icmp rfl (fun g29 => ?_) (fun g29 => ?_)
      · skip
        refine zEs_run 1 rfl ?_
        exact zEs_bret rfl (Or.inr rfl) (Or.inl ⟨_, ⟨_, Or.inr rfl, rfl⟩, rfl⟩)
      · skip
        have g29 : ¬ (s 9) ≤ i29_1 := g29
        refine zEs_run 4 rfl ?_
        refine zEs_ci rfl rfl (x_25 6 17 16 rfl rfl hL) (fun E hE => by cases hE) (fun v1 => ?_)
        refine zEs_run 6 rfl ?_
        refine zEs_ci rfl rfl (x_25 2 8 7 rfl rfl hL) (fun E hE => by cases hE) (fun v2 => ?_)
        refine zEs_ci rfl rfl (k_42 hL) (fun E hE => by cases hE) (fun v3 => ?_)
        refine zEs_run 3 rfl ?_
        refine zEs_ci rfl rfl (x_25 2 8 7 rfl rfl hL) (fun E hE => by cases hE) (fun v4 => ?_)
        refine zEs_icmp rfl (fun _ => ?_) (fun _ => ?_)
        · skip
          refine zEs_run 2 rfl ?_
          exact ih29 _ (some (.int _)) (Nat.lt_of_lt_of_le (zdec g29) (Nat.le_of_lt_succ hn29))
        · skip
          refine zEs_run 1 rfl ?_
          exact zEs_bret rfl (Or.inl rfl) (Or.inl ⟨_, ⟨_, Or.inl rfl, rfl⟩, rfl⟩)
  have c2 : ∀ (n2 : Nat) (i2_1 : Int32), (((Int8.ofInt 20).toInt32).toInt - (i2_1).toInt).toNat < n2 → zEs xs (D + 2) 51 2 [some (.ref 6), some (.int i2_1), none] [] (zx s a T) nc ns (zPr zRb [] (zx s a T) nc ns) := by
    intro n2
    induction n2 with
    | zero =>
      intro i2_1 hn2
      exact absurd hn2 (Nat.not_lt_zero _)
    | succ n2 ih2 =>
      intro i2_1 hn2
      refine zEs_run 2 rfl ?_
      refine zEs_icmp rfl (fun g2 => ?_) (fun g2 => ?_)
      · skip
        refine zEs_run 2 rfl ?_
        exact c29 _ _ (none) (Nat.lt_succ_self _)
      · skip
        have g2 : ¬ (Int8.ofInt 20).toInt32 ≤ i2_1 := g2
        refine zEs_run 3 rfl ?_
        refine zEs_ci rfl rfl (x_25 3 10 9 rfl rfl hL) (fun E hE => by cases hE) (fun v6 => ?_)
        refine zEs_if rfl (fun _ => ?_) (fun _ => ?_)
        · skip
          refine zEs_run 2 rfl ?_
          exact ih2 _ (Nat.lt_of_lt_of_le (zdec g2) (Nat.le_of_lt_succ hn2))
        · skip
          refine zEs_run 1 rfl ?_
          exact zEs_bret rfl (Or.inl rfl) (Or.inl ⟨_, ⟨_, Or.inl rfl, rfl⟩, rfl⟩)
  refine zEs_run 2 rfl ?_
  exact c2 _ _ (Nat.lt_succ_self _)
theorem k_82 (hL : zaL a) {x1 : Int32} : zMs xs (D + 0) 82 [.int x1] (zx s a T) nc ns (zPr zRv [1] (zx s a T) nc ns) := by
  refine ⟨_, rfl, ?_⟩
  have c11 : zEs xs (D + 0) 82 11 [some (.int x1)] [] (zx s a T) nc ns (zPr zRv [1] (zx s a T) nc ns) := by
    exact zEs_end rfl rfl (Or.inr ⟨1, by decide, rfl⟩)
  refine zEs_run 1 rfl ?_
  refine zEs_if rfl (fun _ => ?_) (fun _ => ?_)
  · skip
    exact c11 
  · skip
    refine zEs_run 2 rfl ?_
    refine zEs_icmp rfl (fun _ => ?_) (fun _ => ?_)
    · skip
      exact zEs_end rfl rfl (Or.inl ⟨_, rfl, rfl⟩)
    · skip
      exact c11 
theorem k_86 (hL : zaL a) {x1 : Int32} : zMs xs (D + 1) 86 [.ref 0, .int x1] (zx s a T) nc ns (zPr zRv [0] (zx s a T) nc ns) := by
  refine ⟨_, rfl, ?_⟩
  have c15 : zEs xs (D + 1) 86 15 [some (.ref 0), some (.int x1)] [] (zx s a T) nc ns (zPr zRv [0] (zx s a T) nc ns) := by
    exact zEs_end rfl rfl (Or.inr ⟨0, by decide, rfl⟩)
  refine zEs_run 1 rfl ?_
  refine zEs_if rfl (fun _ => ?_) (fun _ => ?_)
  · skip
    exact c15 
  · skip
    refine zEs_run 3 rfl ?_
    refine zEs_ci rfl rfl (k_6 hL) (fun E hE => by cases hE) (fun v2 => ?_)
    refine zEs_icmp rfl (fun _ => ?_) (fun _ => ?_)
    · skip
      exact zEs_end rfl rfl (Or.inl ⟨_, rfl, rfl⟩)
    · skip
      exact c15 
theorem k_96 (hL : zaL a) {x1 : Int32} : zMs xs (D + 1) 96 [.ref 0, .int x1] (zx s a T) nc ns (zPr zRb [] (zx s a T) nc ns) := by
  refine ⟨_, rfl, ?_⟩
  refine zEs_run 3 rfl ?_
  refine zEs_ci rfl rfl (x_25 18 43 42 rfl rfl hL) (fun E hE => by cases hE) (fun v1 => ?_)
  refine zEs_if rfl (fun _ => ?_) (fun _ => ?_)
  · skip
    refine zEs_run 1 rfl ?_
    exact zEs_bret rfl (Or.inl rfl) (Or.inl ⟨_, ⟨_, Or.inl rfl, rfl⟩, rfl⟩)
  · skip
    refine zEs_run 2 rfl ?_
    exact zEs_bret rfl (Or.inr rfl) (Or.inl ⟨_, ⟨_, Or.inr rfl, rfl⟩, rfl⟩)
theorem k_87 (hL : zaL a) {x1 : Int32} : zMs xs (D + 2) 87 [.ref 0, .int x1] (zx s a T) nc ns (zPr zRv [2] (zx s a T) nc ns) := by
  refine ⟨_, rfl, ?_⟩
  refine zEs_run 2 rfl ?_
  refine zEs_cb rfl rfl (k_96 hL) (fun E hE => by cases hE) (fun v1 hb1 => ?_)
  refine zEs_if rfl (fun _ => ?_) (fun _ => ?_)
  · skip
    exact zEs_end rfl rfl (Or.inl ⟨_, rfl, rfl⟩)
  · skip
    exact zEs_end rfl rfl (Or.inr ⟨2, by decide, rfl⟩)
theorem k_90 (hL : zaL a) {x1 : Int32} : zMs xs (D + 1) 90 [.ref 0, .int x1] (zx s a T) nc ns (zPr zRi [] (zx s a T) nc ns) := by
  refine ⟨_, rfl, ?_⟩
  refine zEs_run 10 rfl ?_
  refine zEs_ci rfl rfl (x_25 15 37 36 rfl rfl hL) (fun E hE => by cases hE) (fun v1 => ?_)
  refine zEs_run 1 rfl ?_
  exact zEs_end rfl rfl (Or.inl ⟨_, ⟨_, rfl⟩, rfl⟩)
theorem k_91 (hL : zaL a) {x1 : Int32} : zMs xs (D + 2) 91 [.ref 0, .int x1] (zx s a T) nc ns (zPr zRi [] (zx s a T) nc ns) := by
  refine ⟨_, rfl, ?_⟩
  refine zEs_run 2 rfl ?_
  refine zEs_ci rfl rfl (k_90 hL) (fun E hE => by cases hE) (fun v1 => ?_)
  refine zEs_run 6 rfl ?_
  exact zEs_end rfl rfl (Or.inl ⟨_, ⟨_, rfl⟩, rfl⟩)
theorem k_102 (hL : zaL a) {x1 : Int32} {x2 : Int32} : zMs xs (D + 3) 102 [.ref 0, .int x1, .int x2] (zx s a T) nc ns (zPo zRv [] [] [2, 17] s a T nc ns) := by
  refine ⟨_, rfl, ?_⟩
  have f0 : zfr [] [2, 17] s a s a := zfr_rf hL
  refine zEs_run 4 rfl ?_
  refine zEs_ci rfl rfl (k_91 hL) (fun E hE => by cases hE) (fun v1 => ?_)
  refine zEs_run 3 rfl ?_
  refine zEs_ci rfl rfl (k_14 hL) (fun E hE => by cases hE) (fun v2 => ?_)
  refine zEs_wv rfl rfl (k_41 hL) (fun E hE => by cases hE) (fun s3_ a3_ e3_ => ?_)
  have f3_ : zfr [] [2, 17] s a s3_ a3_ := zfr_tr f0 (zfr_mo e3_ (by decide) (by decide))
  refine zEs_run 4 rfl ?_
  refine zEs_wv rfl rfl (x_26 17 41 40 rfl rfl (fun _ => rfl) f3_.2.2) (fun E hE => by cases hE) (fun s4_ a4_ e4_ => ?_)
  have f4_ : zfr [] [2, 17] s a s4_ a4_ := zfr_tr f3_ (zfr_mo e4_ (by decide) (by decide))
  exact zEs_end rfl rfl (Or.inl ⟨_, _, _, rfl, f4_, rfl⟩)
theorem k_101 (hL : zaL a) {x1 : Int32} {x2 : Int32} : zMs xs (D + 5) 101 [.ref 0, .int x1, .int x2] (zx s a T) nc ns (zPo zRv [] [7, 8] [2, 3, 4, 17] s a T nc ns) := by
  refine ⟨_, rfl, ?_⟩
  have f0 : zfr [7, 8] [2, 3, 4, 17] s a s a := zfr_rf hL
  refine zEs_run 4 rfl ?_
  refine zEs_ci rfl rfl (k_90 hL) (fun E hE => by cases hE) (fun v1 => ?_)
  refine zEs_wv rfl rfl (k_43 hL) (fun E hE => by cases hE) (fun s2_ a2_ e2_ => ?_)
  have f2_ : zfr [7, 8] [2, 3, 4, 17] s a s2_ a2_ := zfr_tr f0 (zfr_mo e2_ (by decide) (by decide))
  refine zEs_run 3 rfl ?_
  refine zEs_wv rfl rfl (k_102 f2_.2.2) (fun E hE => by cases hE) (fun s3_ a3_ e3_ => ?_)
  have f3_ : zfr [7, 8] [2, 3, 4, 17] s a s3_ a3_ := zfr_tr f2_ (zfr_mo e3_ (by decide) (by decide))
  exact zEs_end rfl rfl (Or.inl ⟨_, _, _, rfl, f3_, rfl⟩)
theorem k_89 (hL : zaL a) {x1 : Int32} : zMs xs (D + 0) 89 [.int x1] (zx s a T) nc ns (zPr zRi [] (zx s a T) nc ns) := by
  refine ⟨_, rfl, ?_⟩
  refine zEs_run 2 rfl ?_
  refine zEs_icmp rfl (fun _ => ?_) (fun _ => ?_)
  · skip
    refine zEs_run 3 rfl ?_
    exact zEs_end rfl rfl (Or.inl ⟨_, ⟨_, rfl⟩, rfl⟩)
  · skip
    refine zEs_run 4 rfl ?_
    exact zEs_end rfl rfl (Or.inl ⟨_, ⟨_, rfl⟩, rfl⟩)
theorem k_92 (hL : zaL a) {x1 : Int32} : zMs xs (D + 3) 92 [.ref 0, .int x1] (zx s a T) nc ns (zPr zRi [] (zx s a T) nc ns) := by
  refine ⟨_, rfl, ?_⟩
  refine zEs_run 5 rfl ?_
  refine zEs_ci rfl rfl (k_91 hL) (fun E hE => by cases hE) (fun v1 => ?_)
  refine zEs_ci rfl rfl (x_25 2 8 7 rfl rfl hL) (fun E hE => by cases hE) (fun v2 => ?_)
  exact zEs_end rfl rfl (Or.inl ⟨_, ⟨_, rfl⟩, rfl⟩)
theorem k_54 (hL : zaL a) {x1 : Int32} {x2 : Int32} : zMs xs (D + 6) 54 [.ref 0, .int x1, .int x2] (zx s a T) nc ns (zPo zRi [0, 1, 2] [7, 8] [2, 3, 4, 17] s a T nc ns) := by
  refine ⟨_, rfl, ?_⟩
  have f0 : zfr [7, 8] [2, 3, 4, 17] s a s a := zfr_rf hL
  have c46 : ∀ (i46_3 : Int32) (s46 : Nat → Int32) (a46 : Nat → List Int32) (f46 : zfr [7, 8] [2, 3, 4, 17] s a s46 a46), zEs xs (D + 6) 54 46 [some (.ref 0), some (.int x1), some (.int x2), some (.int i46_3)] [] (zx s46 a46 T) nc ns (zPo zRi [0, 1, 2] [7, 8] [2, 3, 4, 17] s a T nc ns) := by
    intro i46_3 s46 a46 f46
    refine zEs_run 2 rfl ?_
    refine zEs_ci rfl rfl (k_92 f46.2.2) (fun E hE => by cases hE) (fun v1 => ?_)
    exact zEs_end rfl rfl (Or.inl ⟨_, _, _, ⟨_, rfl⟩, f46, rfl⟩)
  refine zEs_run 1 rfl ?_
  refine zEs_cv rfl rfl (k_82 hL) (fun E hE => ⟨rfl, Or.inr ⟨E, (show ∀ E ∈ ([1] : List Nat), E ∈ ([0, 1, 2] : List Nat) by decide) E hE, rfl⟩⟩) ?_
  refine zEs_run 2 rfl ?_
  refine zEs_cv rfl rfl (k_86 hL) (fun E hE => ⟨rfl, Or.inr ⟨E, (show ∀ E ∈ ([0] : List Nat), E ∈ ([0, 1, 2] : List Nat) by decide) E hE, rfl⟩⟩) ?_
  refine zEs_run 2 rfl ?_
  refine zEs_cv rfl rfl (k_87 hL) (fun E hE => ⟨rfl, Or.inr ⟨E, (show ∀ E ∈ ([2] : List Nat), E ∈ ([0, 1, 2] : List Nat) by decide) E hE, rfl⟩⟩) ?_
  refine zEs_run 3 rfl ?_
  refine zEs_wv rfl rfl (k_101 hL) (fun E hE => by cases hE) (fun s5_ a5_ e5_ => ?_)
  have f5_ : zfr [7, 8] [2, 3, 4, 17] s a s5_ a5_ := zfr_tr f0 (zfr_mo e5_ (by decide) (by decide))
  refine zEs_run 1 rfl ?_
  refine zEs_ci rfl rfl (k_89 f5_.2.2) (fun E hE => by cases hE) (fun v6 => ?_)
  refine zEs_run 3 rfl ?_
  refine zEs_if rfl (fun _ => ?_) (fun _ => ?_)
  · skip
    exact c46 _ _ _ f5_
  · skip
    refine zEs_run 2 rfl ?_
    refine zEs_cb rfl rfl (k_96 f5_.2.2) (fun E hE => by cases hE) (fun v8 hb8 => ?_)
    refine zEs_if rfl (fun _ => ?_) (fun _ => ?_)
    · skip
      exact c46 _ _ _ f5_
    · skip
      refine zEs_run 3 rfl ?_
      refine zEs_wv rfl rfl (k_101 f5_.2.2) (fun E hE => by cases hE) (fun s10_ a10_ e10_ => ?_)
      have f10_ : zfr [7, 8] [2, 3, 4, 17] s a s10_ a10_ := zfr_tr f5_ (zfr_mo e10_ (by decide) (by decide))
      exact c46 _ _ _ f10_
theorem k_95 (hL : zaL a) {x1 : Int32} : zMs xs (D + 1) 95 [.ref 0, .int x1] (zx s a T) nc ns (zPr zRb [] (zx s a T) nc ns) := by
  refine ⟨_, rfl, ?_⟩
  refine zEs_run 3 rfl ?_
  refine zEs_ci rfl rfl (x_25 17 41 40 rfl rfl hL) (fun E hE => by cases hE) (fun v1 => ?_)
  refine zEs_if rfl (fun _ => ?_) (fun _ => ?_)
  · skip
    refine zEs_run 1 rfl ?_
    exact zEs_bret rfl (Or.inl rfl) (Or.inl ⟨_, ⟨_, Or.inl rfl, rfl⟩, rfl⟩)
  · skip
    refine zEs_run 2 rfl ?_
    exact zEs_bret rfl (Or.inr rfl) (Or.inl ⟨_, ⟨_, Or.inr rfl, rfl⟩, rfl⟩)
theorem k_97 (hL : zaL a) {x1 : Int32} : zMs xs (D + 4) 97 [.ref 0, .int x1] (zx s a T) nc ns (zPr zRi [] (zx s a T) nc ns) := by
  refine ⟨_, rfl, ?_⟩
  refine zEs_run 2 rfl ?_
  refine zEs_cb rfl rfl (k_95 hL) (fun E hE => by cases hE) (fun v1 hb1 => ?_)
  refine zEs_if rfl (fun _ => ?_) (fun _ => ?_)
  · skip
    refine zEs_run 4 rfl ?_
    refine zEs_ci rfl rfl (k_92 hL) (fun E hE => by cases hE) (fun v3 => ?_)
    refine zEs_ci rfl rfl (k_13 hL) (fun E hE => by cases hE) (fun v4 => ?_)
    exact zEs_end rfl rfl (Or.inl ⟨_, ⟨_, rfl⟩, rfl⟩)
  · skip
    refine zEs_run 2 rfl ?_
    exact zEs_end rfl rfl (Or.inl ⟨_, ⟨_, rfl⟩, rfl⟩)
theorem k_103 (hL : zaL a) {x1 : Int32} {x2 : Int32} : zMs xs (D + 4) 103 [.ref 0, .int x1, .int x2] (zx s a T) nc ns (zPo zRv [] [11, 12, 13] [2, 12, 13, 14] s a T nc ns) := by
  refine ⟨_, rfl, ?_⟩
  have f0 : zfr [11, 12, 13] [2, 12, 13, 14] s a s a := zfr_rf hL
  refine zEs_run 2 rfl ?_
  refine zEs_ci rfl rfl (k_92 hL) (fun E hE => by cases hE) (fun v1 => ?_)
  refine zEs_run 4 rfl ?_
  refine zEs_ci rfl rfl (k_9 hL) (fun E hE => by cases hE) (fun v2 => ?_)
  refine zEs_run 2 rfl ?_
  refine zEs_if rfl (fun _ => ?_) (fun _ => ?_)
  · skip
    refine zEs_run 4 rfl ?_
    refine zEs_ci rfl rfl (k_12 hL) (fun E hE => by cases hE) (fun v4 => ?_)
    refine zEs_run 3 rfl ?_
    refine zEs_wv rfl rfl (k_31 hL) (fun E hE => by cases hE) (fun s5_ a5_ e5_ => ?_)
    have f5_ : zfr [11, 12, 13] [2, 12, 13, 14] s a s5_ a5_ := zfr_tr f0 (zfr_mo e5_ (by decide) (by decide))
    refine zEs_run 1 rfl ?_
    refine zEs_if rfl (fun _ => ?_) (fun _ => ?_)
    · skip
      exact zEs_end rfl rfl (Or.inl ⟨_, _, _, rfl, f5_, rfl⟩)
    · skip
      refine zEs_run 2 rfl ?_
      refine zEs_icmp rfl (fun _ => ?_) (fun _ => ?_)
      · skip
        exact zEs_end rfl rfl (Or.inl ⟨_, _, _, rfl, f5_, rfl⟩)
      · skip
        refine zEs_run 4 rfl ?_
        refine zEs_ci rfl rfl (k_91 f5_.2.2) (fun E hE => by cases hE) (fun v8 => ?_)
        refine zEs_run 3 rfl ?_
        refine zEs_wv rfl rfl (k_41 f5_.2.2) (fun E hE => by cases hE) (fun s9_ a9_ e9_ => ?_)
        have f9_ : zfr [11, 12, 13] [2, 12, 13, 14] s a s9_ a9_ := zfr_tr f5_ (zfr_mo e9_ (by decide) (by decide))
        exact zEs_end rfl rfl (Or.inl ⟨_, _, _, rfl, f9_, rfl⟩)
  · skip
    exact zEs_end rfl rfl (Or.inl ⟨_, _, _, rfl, f0, rfl⟩)
theorem k_104 (hL : zaL a) {x1 : Int32} : zMs xs (D + 5) 104 [.ref 0, .int x1] (zx s a T) nc ns (zPo zRi [] [7, 8, 11, 12, 13] [2, 3, 4, 12, 13, 14, 17] s a T nc ns) := by
  refine ⟨_, rfl, ?_⟩
  have f0 : zfr [7, 8, 11, 12, 13] [2, 3, 4, 12, 13, 14, 17] s a s a := zfr_rf hL
  have c40 : ∀ (i40_2 : Int32) (i40_3 : Int32) (s40 : Nat → Int32) (a40 : Nat → List Int32) (f40 : zfr [7, 8, 11, 12, 13] [2, 3, 4, 12, 13, 14, 17] s a s40 a40), zEs xs (D + 5) 104 40 [some (.ref 0), some (.int x1), some (.int i40_2), some (.int i40_3)] [] (zx s40 a40 T) nc ns (zPo zRi [] [7, 8, 11, 12, 13] [2, 3, 4, 12, 13, 14, 17] s a T nc ns) := by
    intro i40_2 i40_3 s40 a40 f40
    refine zEs_run 2 rfl ?_
    refine zEs_icmp rfl (fun _ => ?_) (fun _ => ?_)
    · skip
      refine zEs_run 4 rfl ?_
      refine zEs_wv rfl rfl (k_103 f40.2.2) (fun E hE => by cases hE) (fun s2_ a2_ e2_ => ?_)
      have f2_ : zfr [7, 8, 11, 12, 13] [2, 3, 4, 12, 13, 14, 17] s a s2_ a2_ := zfr_tr f40 (zfr_mo e2_ (by decide) (by decide))
      refine zEs_run 3 rfl ?_
      refine zEs_wv rfl rfl (k_102 f2_.2.2) (fun E hE => by cases hE) (fun s3_ a3_ e3_ => ?_)
      have f3_ : zfr [7, 8, 11, 12, 13] [2, 3, 4, 12, 13, 14, 17] s a s3_ a3_ := zfr_tr f2_ (zfr_mo e3_ (by decide) (by decide))
      refine zEs_run 1 rfl ?_
      exact zEs_end rfl rfl (Or.inl ⟨_, _, _, ⟨_, rfl⟩, f3_, rfl⟩)
    · skip
      refine zEs_run 4 rfl ?_
      refine zEs_wv rfl rfl (x_26 17 41 40 rfl rfl (fun _ => rfl) f40.2.2) (fun E hE => by cases hE) (fun s4_ a4_ e4_ => ?_)
      have f4_ : zfr [7, 8, 11, 12, 13] [2, 3, 4, 12, 13, 14, 17] s a s4_ a4_ := zfr_tr f40 (zfr_mo e4_ (by decide) (by decide))
      refine zEs_run 1 rfl ?_
      exact zEs_end rfl rfl (Or.inl ⟨_, _, _, ⟨_, rfl⟩, f4_, rfl⟩)
  refine zEs_run 3 rfl ?_
  refine zEs_ci rfl rfl (k_89 hL) (fun E hE => by cases hE) (fun v5 => ?_)
  refine zEs_run 3 rfl ?_
  refine zEs_if rfl (fun _ => ?_) (fun _ => ?_)
  · skip
    exact c40 _ _ _ _ f0
  · skip
    refine zEs_run 2 rfl ?_
    refine zEs_cb rfl rfl (k_96 hL) (fun E hE => by cases hE) (fun v7 hb7 => ?_)
    refine zEs_if rfl (fun _ => ?_) (fun _ => ?_)
    · skip
      exact c40 _ _ _ _ f0
    · skip
      refine zEs_run 4 rfl ?_
      refine zEs_ci rfl rfl (k_90 hL) (fun E hE => by cases hE) (fun v9 => ?_)
      refine zEs_wv rfl rfl (k_43 hL) (fun E hE => by cases hE) (fun s10_ a10_ e10_ => ?_)
      have f10_ : zfr [7, 8, 11, 12, 13] [2, 3, 4, 12, 13, 14, 17] s a s10_ a10_ := zfr_tr f0 (zfr_mo e10_ (by decide) (by decide))
      refine zEs_run 2 rfl ?_
      refine zEs_ci rfl rfl (k_97 f10_.2.2) (fun E hE => by cases hE) (fun v11 => ?_)
      refine zEs_run 1 rfl ?_
      exact c40 _ _ _ _ f10_
theorem k_55 (hL : zaL a) {x1 : Int32} : zMs xs (D + 6) 55 [.ref 0, .int x1] (zx s a T) nc ns (zPo zRi [1, 2] [7, 8, 11, 12, 13] [2, 3, 4, 12, 13, 14, 17] s a T nc ns) := by
  refine ⟨_, rfl, ?_⟩
  have f0 : zfr [7, 8, 11, 12, 13] [2, 3, 4, 12, 13, 14, 17] s a s a := zfr_rf hL
  have c44 : ∀ (i44_2 : Int32) (s44 : Nat → Int32) (a44 : Nat → List Int32) (f44 : zfr [7, 8, 11, 12, 13] [2, 3, 4, 12, 13, 14, 17] s a s44 a44), zEs xs (D + 6) 55 44 [some (.ref 0), some (.int x1), some (.int i44_2)] [] (zx s44 a44 T) nc ns (zPo zRi [1, 2] [7, 8, 11, 12, 13] [2, 3, 4, 12, 13, 14, 17] s a T nc ns) := by
    intro i44_2 s44 a44 f44
    refine zEs_run 2 rfl ?_
    refine zEs_icmp rfl (fun _ => ?_) (fun _ => ?_)
    · skip
      refine zEs_run 1 rfl ?_
      exact zEs_end rfl rfl (Or.inl ⟨_, _, _, ⟨_, rfl⟩, f44, rfl⟩)
    · skip
      refine zEs_run 2 rfl ?_
      refine zEs_wi rfl rfl (k_104 f44.2.2) (fun E hE => by cases hE) (fun v2 s2_ a2_ e2_ => ?_)
      have f2_ : zfr [7, 8, 11, 12, 13] [2, 3, 4, 12, 13, 14, 17] s a s2_ a2_ := zfr_tr f44 (zfr_mo e2_ (by decide) (by decide))
      refine zEs_run 1 rfl ?_
      exact zEs_end rfl rfl (Or.inl ⟨_, _, _, ⟨_, rfl⟩, f2_, rfl⟩)
  refine zEs_run 1 rfl ?_
  refine zEs_cv rfl rfl (k_82 hL) (fun E hE => ⟨rfl, Or.inr ⟨E, (show ∀ E ∈ ([1] : List Nat), E ∈ ([1, 2] : List Nat) by decide) E hE, rfl⟩⟩) ?_
  refine zEs_run 2 rfl ?_
  refine zEs_cv rfl rfl (k_87 hL) (fun E hE => ⟨rfl, Or.inr ⟨E, (show ∀ E ∈ ([2] : List Nat), E ∈ ([1, 2] : List Nat) by decide) E hE, rfl⟩⟩) ?_
  refine zEs_run 4 rfl ?_
  refine zEs_ci rfl rfl (k_90 hL) (fun E hE => by cases hE) (fun v5 => ?_)
  refine zEs_wv rfl rfl (k_43 hL) (fun E hE => by cases hE) (fun s6_ a6_ e6_ => ?_)
  have f6_ : zfr [7, 8, 11, 12, 13] [2, 3, 4, 12, 13, 14, 17] s a s6_ a6_ := zfr_tr f0 (zfr_mo e6_ (by decide) (by decide))
  refine zEs_run 2 rfl ?_
  refine zEs_ci rfl rfl (k_97 f6_.2.2) (fun E hE => by cases hE) (fun v7 => ?_)
  refine zEs_run 3 rfl ?_
  refine zEs_cb rfl rfl (k_95 f6_.2.2) (fun E hE => by cases hE) (fun v8 hb8 => ?_)
  refine zEs_if rfl (fun _ => ?_) (fun _ => ?_)
  · skip
    exact c44 _ _ _ f6_
  · skip
    refine zEs_run 4 rfl ?_
    refine zEs_wv rfl rfl (k_103 f6_.2.2) (fun E hE => by cases hE) (fun s10_ a10_ e10_ => ?_)
    have f10_ : zfr [7, 8, 11, 12, 13] [2, 3, 4, 12, 13, 14, 17] s a s10_ a10_ := zfr_tr f6_ (zfr_mo e10_ (by decide) (by decide))
    exact c44 _ _ _ f10_
theorem k_56 (hL : zaL a) {x1 : Int32} {x2 : Int32} : zMs xs (D + 4) 56 [.ref 0, .int x1, .int x2] (zx s a T) nc ns (zPo zRi [0, 1] [] [2] s a T nc ns) := by
  refine ⟨_, rfl, ?_⟩
  have f0 : zfr [] [2] s a s a := zfr_rf hL
  have c20 : zEs xs (D + 4) 56 20 [some (.ref 0), some (.int x1), some (.int x2)] [] (zx s a T) nc ns (zPo zRi [0, 1] [] [2] s a T nc ns) := by
    exact zEs_end rfl rfl (Or.inr ⟨0, by decide, rfl⟩)
  refine zEs_run 1 rfl ?_
  refine zEs_cv rfl rfl (k_82 hL) (fun E hE => ⟨rfl, Or.inr ⟨E, (show ∀ E ∈ ([1] : List Nat), E ∈ ([0, 1] : List Nat) by decide) E hE, rfl⟩⟩) ?_
  refine zEs_run 2 rfl ?_
  refine zEs_icmp rfl (fun _ => ?_) (fun _ => ?_)
  · skip
    exact c20 
  · skip
    refine zEs_run 3 rfl ?_
    refine zEs_ci rfl rfl (k_5 hL) (fun E hE => by cases hE) (fun v3 => ?_)
    refine zEs_icmp rfl (fun _ => ?_) (fun _ => ?_)
    · skip
      refine zEs_run 4 rfl ?_
      refine zEs_ci rfl rfl (k_91 hL) (fun E hE => by cases hE) (fun v5 => ?_)
      refine zEs_run 2 rfl ?_
      refine zEs_ci rfl rfl (k_92 hL) (fun E hE => by cases hE) (fun v6 => ?_)
      refine zEs_run 2 rfl ?_
      refine zEs_wv rfl rfl (k_41 hL) (fun E hE => by cases hE) (fun s7_ a7_ e7_ => ?_)
      have f7_ : zfr [] [2] s a s7_ a7_ := zfr_tr f0 (zfr_mo e7_ (by decide) (by decide))
      refine zEs_run 2 rfl ?_
      refine zEs_ci rfl rfl (k_92 f7_.2.2) (fun E hE => by cases hE) (fun v8 => ?_)
      exact zEs_end rfl rfl (Or.inl ⟨_, _, _, ⟨_, rfl⟩, f7_, rfl⟩)
    · skip
      exact c20 
theorem k_57 (hL : zaL a) {x1 : Int32} {x2 : Int32} {x3 : Int32} : zMs xs (D + 4) 57 [.ref 0, .int x1, .int x2, .int x3] (zx s a T) nc ns (zPo zRi [0, 1, 2] [9] [2, 6, 7, 8] s a T nc ns) := by
  refine ⟨_, rfl, ?_⟩
  have f0 : zfr [9] [2, 6, 7, 8] s a s a := zfr_rf hL
  have c72 : ∀ (t72_0 : Int32) (t72_1 : Int32) (t72_2 : Int32), zEs xs (D + 4) 57 72 [some (.ref 0), some (.int x1), some (.int x2), some (.int x3)] [.int t72_0, .int t72_1, .int t72_2, .ref 15] (zx s a T) nc ns (zPo zRi [0, 1, 2] [9] [2, 6, 7, 8] s a T nc ns) := by
    intro t72_0 t72_1 t72_2
    refine zEs_wv rfl rfl (k_21_15 hL) (fun E hE => by cases hE) (fun s1_ a1_ e1_ => ?_)
    have f1_ : zfr [9] [2, 6, 7, 8] s a s1_ a1_ := zfr_tr f0 (zfr_mo e1_ (by decide) (by decide))
    refine zEs_run 4 rfl ?_
    refine zEs_ci rfl rfl (k_91 f1_.2.2) (fun E hE => by cases hE) (fun v2 => ?_)
    refine zEs_run 2 rfl ?_
    refine zEs_ci rfl rfl (k_92 f1_.2.2) (fun E hE => by cases hE) (fun v3 => ?_)
    refine zEs_wv rfl rfl (k_41 f1_.2.2) (fun E hE => by cases hE) (fun s4_ a4_ e4_ => ?_)
    have f4_ : zfr [9] [2, 6, 7, 8] s a s4_ a4_ := zfr_tr f1_ (zfr_mo e4_ (by decide) (by decide))
    refine zEs_run 4 rfl ?_
    exact zEs_end rfl rfl (Or.inl ⟨_, _, _, ⟨_, rfl⟩, f4_, rfl⟩)
  refine zEs_run 1 rfl ?_
  refine zEs_cv rfl rfl (k_82 hL) (fun E hE => ⟨rfl, Or.inr ⟨E, (show ∀ E ∈ ([1] : List Nat), E ∈ ([0, 1, 2] : List Nat) by decide) E hE, rfl⟩⟩) ?_
  refine zEs_run 3 rfl ?_
  refine zEs_cb rfl rfl (k_7 hL) (fun E hE => by cases hE) (fun v6 hb6 => ?_)
  refine zEs_if rfl (fun _ => ?_) (fun _ => ?_)
  · skip
    refine zEs_run 3 rfl ?_
    refine zEs_cb rfl rfl (k_20_15 hL) (fun E hE => by cases hE) (fun v8 hb8 => ?_)
    refine zEs_if rfl (fun _ => ?_) (fun _ => ?_)
    · skip
      refine zEs_run 5 rfl ?_
      refine zEs_ci rfl rfl (k_91 hL) (fun E hE => by cases hE) (fun v10 => ?_)
      refine zEs_run 4 rfl ?_
      refine zEs_if rfl (fun _ => ?_) (fun _ => ?_)
      · skip
        refine zEs_run 1 rfl ?_
        exact c72 _ _ _
      · skip
        refine zEs_run 2 rfl ?_
        exact c72 _ _ _
    · skip
      exact zEs_end rfl rfl (Or.inr ⟨2, by decide, rfl⟩)
  · skip
    exact zEs_end rfl rfl (Or.inr ⟨0, by decide, rfl⟩)
theorem k_58 (hL : zaL a) {x1 : Int32} {x2 : Int32} {x3 : Int32} : zMs xs (D + 3) 58 [.ref 0, .int x1, .int x2, .int x3] (zx s a T) nc ns (zPo zRi [0, 1, 2] [10] [9, 10, 11] s a T nc ns) := by
  refine ⟨_, rfl, ?_⟩
  have f0 : zfr [10] [9, 10, 11] s a s a := zfr_rf hL
  have c36 : zEs xs (D + 3) 58 36 [some (.ref 0), some (.int x1), some (.int x2), some (.int x3)] [] (zx s a T) nc ns (zPo zRi [0, 1, 2] [10] [9, 10, 11] s a T nc ns) := by
    exact zEs_end rfl rfl (Or.inr ⟨0, by decide, rfl⟩)
  refine zEs_run 1 rfl ?_
  refine zEs_cv rfl rfl (k_82 hL) (fun E hE => ⟨rfl, Or.inr ⟨E, (show ∀ E ∈ ([1] : List Nat), E ∈ ([0, 1, 2] : List Nat) by decide) E hE, rfl⟩⟩) ?_
  refine zEs_run 3 rfl ?_
  refine zEs_cb rfl rfl (k_7 hL) (fun E hE => by cases hE) (fun v2 hb2 => ?_)
  refine zEs_if rfl (fun _ => ?_) (fun _ => ?_)
  · skip
    refine zEs_run 2 rfl ?_
    refine zEs_icmp rfl (fun _ => ?_) (fun _ => ?_)
    · skip
      exact c36 
    · skip
      refine zEs_run 2 rfl ?_
      refine zEs_icmp rfl (fun _ => ?_) (fun _ => ?_)
      · skip
        refine zEs_run 3 rfl ?_
        refine zEs_cb rfl rfl (k_20_22 hL) (fun E hE => by cases hE) (fun v6 hb6 => ?_)
        refine zEs_if rfl (fun _ => ?_) (fun _ => ?_)
        · skip
          refine zEs_run 5 rfl ?_
          refine zEs_ci rfl rfl (k_91 hL) (fun E hE => by cases hE) (fun v8 => ?_)
          refine zEs_run 4 rfl ?_
          refine zEs_wv rfl rfl (k_21_22 hL) (fun E hE => by cases hE) (fun s9_ a9_ e9_ => ?_)
          have f9_ : zfr [10] [9, 10, 11] s a s9_ a9_ := zfr_tr f0 (zfr_mo e9_ (by decide) (by decide))
          refine zEs_run 4 rfl ?_
          exact zEs_end rfl rfl (Or.inl ⟨_, _, _, ⟨_, rfl⟩, f9_, rfl⟩)
        · skip
          exact zEs_end rfl rfl (Or.inr ⟨2, by decide, rfl⟩)
      · skip
        exact c36 
  · skip
    exact zEs_end rfl rfl (Or.inr ⟨0, by decide, rfl⟩)
theorem k_83 (hL : zaL a) {x1 : Int32} : zMs xs (D + 0) 83 [.int x1] (zx s a T) nc ns (zPr zRv [1] (zx s a T) nc ns) := by
  refine ⟨_, rfl, ?_⟩
  have c9 : zEs xs (D + 0) 83 9 [some (.int x1)] [] (zx s a T) nc ns (zPr zRv [1] (zx s a T) nc ns) := by
    exact zEs_end rfl rfl (Or.inr ⟨1, by decide, rfl⟩)
  refine zEs_run 1 rfl ?_
  refine zEs_if rfl (fun _ => ?_) (fun _ => ?_)
  · skip
    exact c9 
  · skip
    refine zEs_run 2 rfl ?_
    refine zEs_icmp rfl (fun _ => ?_) (fun _ => ?_)
    · skip
      exact zEs_end rfl rfl (Or.inl ⟨_, rfl, rfl⟩)
    · skip
      exact c9 
theorem k_84 (hL : zaL a) {x1 : Int32} {x2 : Int32} : zMs xs (D + 1) 84 [.int x1, .int x2] (zx s a T) nc ns (zPr zRv [1] (zx s a T) nc ns) := by
  refine ⟨_, rfl, ?_⟩
  have c14 : zEs xs (D + 1) 84 14 [some (.int x1), some (.int x2)] [] (zx s a T) nc ns (zPr zRv [1] (zx s a T) nc ns) := by
    exact zEs_end rfl rfl (Or.inr ⟨1, by decide, rfl⟩)
  refine zEs_run 1 rfl ?_
  refine zEs_cv rfl rfl (k_83 hL) (fun E hE => ⟨rfl, Or.inr ⟨E, (show ∀ E ∈ ([1] : List Nat), E ∈ ([1] : List Nat) by decide) E hE, rfl⟩⟩) ?_
  refine zEs_run 1 rfl ?_
  refine zEs_if rfl (fun _ => ?_) (fun _ => ?_)
  · skip
    exact c14 
  · skip
    refine zEs_run 2 rfl ?_
    refine zEs_icmp rfl (fun _ => ?_) (fun _ => ?_)
    · skip
      exact zEs_end rfl rfl (Or.inl ⟨_, rfl, rfl⟩)
    · skip
      exact c14 
theorem k_88 (hL : zaL a) {x1 : Int32} {x2 : Int32} : zMs xs (D + 0) 88 [.int x1, .int x2] (zx s a T) nc ns (zPr zRi [] (zx s a T) nc ns) := by
  refine ⟨_, rfl, ?_⟩
  refine zEs_run 7 rfl ?_
  exact zEs_end rfl rfl (Or.inl ⟨_, ⟨_, rfl⟩, rfl⟩)
theorem k_59 (hL : zaL a) {x1 : Int32} {x2 : Int32} {x3 : Int32} : zMs xs (D + 5) 59 [.ref 0, .int x1, .int x2, .int x3] (zx s a T) nc ns (zPo zRi [0, 1] [7, 8] [2, 3, 4] s a T nc ns) := by
  refine ⟨_, rfl, ?_⟩
  have f0 : zfr [7, 8] [2, 3, 4] s a s a := zfr_rf hL
  have c16 : zEs xs (D + 5) 59 16 [some (.ref 0), some (.int x1), some (.int x2), some (.int x3), none, none] [] (zx s a T) nc ns (zPo zRi [0, 1] [7, 8] [2, 3, 4] s a T nc ns) := by
    exact zEs_end rfl rfl (Or.inr ⟨0, by decide, rfl⟩)
  have c40 : ∀ (n40 : Nat) (i40_4 : Int32) (i40_5 : Int32) (s40 : Nat → Int32) (a40 : Nat → List Int32) (f40 : zfr [7, 8] [2, 3, 4] s a s40 a40), ((x3).toInt - (i40_5).toInt).toNat < n40 → zEs xs (D + 5) 59 40 [some (.ref 0), some (.int x1), some (.int x2), some (.int x3), some (.int i40_4), some (.int i40_5)] [] (zx s40 a40 T) nc ns (zPo zRi [0, 1] [7, 8] [2, 3, 4] s a T nc ns) := by
    intro n40
    induction n40 with
    | zero =>
      intro i40_4 i40_5 s40 a40 f40 hn40
      exact absurd hn40 (Nat.not_lt_zero _)
    | succ n40 ih40 =>
      intro i40_4 i40_5 s40 a40 f40 hn40
      refine zEs_run 2 rfl ?_
      refine zEs_icmp rfl (fun g40 => ?_) (fun g40 => ?_)
      · skip
        refine zEs_run 4 rfl ?_
        refine zEs_ci rfl rfl (x_25 3 10 9 rfl rfl f40.2.2) (fun E hE => by cases hE) (fun v1 => ?_)
        exact zEs_end rfl rfl (Or.inl ⟨_, _, _, ⟨_, rfl⟩, f40, rfl⟩)
      · skip
        have g40 : ¬ x3 ≤ i40_5 := g40
        refine zEs_run 3 rfl ?_
        refine zEs_wv rfl rfl (k_43 f40.2.2) (fun E hE => by cases hE) (fun s2_ a2_ e2_ => ?_)
        have f2_ : zfr [7, 8] [2, 3, 4] s a s2_ a2_ := zfr_tr f40 (zfr_mo e2_ (by decide) (by decide))
        refine zEs_run 2 rfl ?_
        exact ih40 _ _ _ _ f2_ (Nat.lt_of_lt_of_le (zdec g40) (Nat.le_of_lt_succ hn40))
  refine zEs_run 2 rfl ?_
  refine zEs_cv rfl rfl (k_84 hL) (fun E hE => ⟨rfl, Or.inr ⟨E, (show ∀ E ∈ ([1] : List Nat), E ∈ ([0, 1] : List Nat) by decide) E hE, rfl⟩⟩) ?_
  refine zEs_run 2 rfl ?_
  refine zEs_icmp rfl (fun _ => ?_) (fun _ => ?_)
  · skip
    exact c16 
  · skip
    refine zEs_run 2 rfl ?_
    refine zEs_icmp rfl (fun _ => ?_) (fun _ => ?_)
    · skip
      refine zEs_run 3 rfl ?_
      refine zEs_ci rfl rfl (k_88 hL) (fun E hE => by cases hE) (fun v6 => ?_)
      refine zEs_ci rfl rfl (k_90 hL) (fun E hE => by cases hE) (fun v7 => ?_)
      refine zEs_run 3 rfl ?_
      exact c40 _ _ _ _ _ f0 (Nat.lt_succ_self _)
    · skip
      exact c16 
theorem k_60 (hL : zaL a) {x1 : Int32} {x2 : Int32} {x3 : Int32} {x4 : Int32} {x5 : Int32} (hx4 : x4 = 0 ∨ x4 = 1) (hx5 : x5 = 0 ∨ x5 = 1) : zMs xs (D + 0) 60 [.ref 0, .int x1, .int x2, .int x3, .int x4, .int x5] (zx s a T) nc ns (zPo zRi [0] [5, 6, 14, 15, 16] [] s a T nc ns) := by
  refine ⟨_, rfl, ?_⟩
  have f0 : zfr [5, 6, 14, 15, 16] [] s a s a := zfr_rf hL
  have c11 : zEs xs (D + 0) 60 11 [some (.ref 0), some (.int x1), some (.int x2), some (.int x3), some (.int x4), some (.int x5), none] [] (zx s a T) nc ns (zPo zRi [0] [5, 6, 14, 15, 16] [] s a T nc ns) := by
    exact zEs_end rfl rfl (Or.inr ⟨0, by decide, rfl⟩)
  have c32 : zEs xs (D + 0) 60 32 [some (.ref 0), some (.int x1), some (.int x2), some (.int x3), some (.int x4), some (.int x5), none] [] (zx s a T) nc ns (zPo zRi [0] [5, 6, 14, 15, 16] [] s a T nc ns) := by
    exact zEs_end rfl rfl (Or.inr ⟨0, by decide, rfl⟩)
  have c52 : zEs xs (D + 0) 60 52 [some (.ref 0), some (.int x1), some (.int x2), some (.int x3), some (.int x4), some (.int x5), none] [] (zx s a T) nc ns (zPo zRi [0] [5, 6, 14, 15, 16] [] s a T nc ns) := by
    exact zEs_end rfl rfl (Or.inr ⟨0, by decide, rfl⟩)
  refine zEs_run 2 rfl ?_
  refine zEs_icmp rfl (fun _ => ?_) (fun _ => ?_)
  · skip
    exact c11 
  · skip
    refine zEs_run 2 rfl ?_
    refine zEs_icmp rfl (fun _ => ?_) (fun _ => ?_)
    · skip
      refine zEs_run 2 rfl ?_
      refine zEs_icmp rfl (fun _ => ?_) (fun _ => ?_)
      · skip
        exact c32 
      · skip
        refine zEs_run 2 rfl ?_
        refine zEs_icmp rfl (fun _ => ?_) (fun _ => ?_)
        · skip
          refine zEs_run 1 rfl ?_
          refine zEs_if rfl (fun _ => ?_) (fun _ => ?_)
          · skip
            exact c52 
          · skip
            refine zEs_run 2 rfl ?_
            refine zEs_icmp rfl (fun _ => ?_) (fun _ => ?_)
            · skip
              rcases hx4 with rfl | rfl <;> rcases hx5 with rfl | rfl
              all_goals (refine zEs_run 21 (h' := zx (zup (zup (zup (zup (zup s 5 _) 6 _) 14 _) 15 _) 16 _) a T) rfl ?_)
              all_goals (exact zEs_end rfl rfl (Or.inl ⟨_, _, _, ⟨_, rfl⟩, (zfr_s (k := 16) (zfr_s (k := 15) (zfr_s (k := 14) (zfr_s (k := 6) (zfr_s (k := 5) f0 (by decide)) (by decide)) (by decide)) (by decide)) (by decide)), rfl⟩))
            · skip
              exact c52 
        · skip
          exact c32 
    · skip
      exact c11 
theorem k_105 (hL : zaL a) : zMs xs (D + 5) 105 [.ref 0] (zx s a T) nc ns (zPo zRv [] [11, 12, 13, 17] [2, 12, 13, 14, 17] s a T nc ns) := by
  refine ⟨_, rfl, ?_⟩
  have f0 : zfr [11, 12, 13, 17] [2, 12, 13, 14, 17] s a s a := zfr_rf hL
  have c2 : ∀ (n2 : Nat) (i2_1 : Int32) (o2_2 : Option Value) (o2_3 : Option Value) (s2 : Nat → Int32) (a2 : Nat → List Int32) (f2 : zfr [11, 12, 13, 17] [2, 12, 13, 14, 17] s a s2 a2), (((s 14)).toInt - (i2_1).toInt).toNat < n2 → zEs xs (D + 5) 105 2 [some (.ref 0), some (.int i2_1), o2_2, o2_3] [] (zx s2 a2 T) nc ns (zPo zRv [] [11, 12, 13, 17] [2, 12, 13, 14, 17] s a T nc ns) := by
    intro n2
    induction n2 with
    | zero =>
      intro i2_1 o2_2 o2_3 s2 a2 f2 hn2
      exact absurd hn2 (Nat.not_lt_zero _)
    | succ n2 ih2 =>
      intro i2_1 o2_2 o2_3 s2 a2 f2 hn2
      refine zEs_run 3 rfl ?_
      refine zEs_icmp rfl (fun g2 => ?_) (fun g2 => ?_)
      · skip
        exact zEs_end rfl rfl (Or.inl ⟨_, _, _, rfl, f2, rfl⟩)
      · skip
        have g2 : ¬ (s2 14) ≤ i2_1 := g2
        rw [f2.1 14 (by decide)] at g2
        have c69 : ∀ (i69_2 : Int32) (o69_3 : Option Value) (s69 : Nat → Int32) (a69 : Nat → List Int32) (f69 : zfr [11, 12, 13, 17] [2, 12, 13, 14, 17] s a s69 a69), zEs xs (D + 5) 105 69 [some (.ref 0), some (.int i2_1), some (.int i69_2), o69_3] [] (zx s69 a69 T) nc ns (zPo zRv [] [11, 12, 13, 17] [2, 12, 13, 14, 17] s a T nc ns) := by
          intro i69_2 o69_3 s69 a69 f69
          refine zEs_run 9 (h' := zx (zup s69 17 _) a69 T) rfl ?_
          exact ih2 _ (some (.int _)) (o69_3) _ _ (zfr_s (k := 17) f69 (by decide)) (Nat.lt_of_lt_of_le (zdec g2) (Nat.le_of_lt_succ hn2))
        have c66 : ∀ (i66_2 : Int32) (i66_3 : Int32) (t66_0 : Int32) (t66_1 : Int32) (s66 : Nat → Int32) (a66 : Nat → List Int32) (f66 : zfr [11, 12, 13, 17] [2, 12, 13, 14, 17] s a s66 a66), zEs xs (D + 5) 105 66 [some (.ref 0), some (.int i2_1), some (.int i66_2), some (.int i66_3)] [.int t66_0, .int t66_1, .ref 40] (zx s66 a66 T) nc ns (zPo zRv [] [11, 12, 13, 17] [2, 12, 13, 14, 17] s a T nc ns) := by
          intro i66_2 i66_3 t66_0 t66_1 s66 a66 f66
          refine zEs_wv rfl rfl (x_26 17 41 40 rfl rfl (fun _ => rfl) f66.2.2) (fun E hE => by cases hE) (fun s1_ a1_ e1_ => ?_)
          have f1_ : zfr [11, 12, 13, 17] [2, 12, 13, 14, 17] s a s1_ a1_ := zfr_tr f66 (zfr_mo e1_ (by decide) (by decide))
          exact c69 _ (some (.int _)) _ _ f1_
        have c45 : ∀ (i45_2 : Int32) (t45_0 : Int32), zEs xs (D + 5) 105 45 [some (.ref 0), some (.int i2_1), some (.int i45_2), o2_3] [.int t45_0] (zx s2 a2 T) nc ns (zPo zRv [] [11, 12, 13, 17] [2, 12, 13, 14, 17] s a T nc ns) := by
          intro i45_2 t45_0
          refine zEs_run 4 rfl ?_
          refine zEs_wv rfl rfl (k_103 f2.2.2) (fun E hE => by cases hE) (fun s2_ a2_ e2_ => ?_)
          have f2_ : zfr [11, 12, 13, 17] [2, 12, 13, 14, 17] s a s2_ a2_ := zfr_tr f2 (zfr_mo e2_ (by decide) (by decide))
          refine zEs_run 4 rfl ?_
          refine zEs_if rfl (fun _ => ?_) (fun _ => ?_)
          · skip
            refine zEs_run 1 rfl ?_
            exact c66 _ _ _ _ _ _ f2_
          · skip
            refine zEs_run 2 rfl ?_
            exact c66 _ _ _ _ _ _ f2_
        refine zEs_run 5 rfl ?_
        refine zEs_cb rfl rfl (k_95 f2.2.2) (fun E hE => by cases hE) (fun v4 hb4 => ?_)
        refine zEs_if rfl (fun _ => ?_) (fun _ => ?_)
        · skip
          exact c69 _ (o2_3) _ _ f2
        · skip
          refine zEs_run 2 rfl ?_
          refine zEs_cb rfl rfl (k_96 f2.2.2) (fun E hE => by cases hE) (fun v6 hb6 => ?_)
          refine zEs_if rfl (fun _ => ?_) (fun _ => ?_)
          · skip
            exact c69 _ (o2_3) _ _ f2
          · skip
            refine zEs_run 2 rfl ?_
            refine zEs_ci rfl rfl (k_97 f2.2.2) (fun E hE => by cases hE) (fun v8 => ?_)
            refine zEs_run 1 rfl ?_
            refine zEs_icmp rfl (fun _ => ?_) (fun _ => ?_)
            · skip
              refine zEs_run 1 rfl ?_
              exact c45 _ _
            · skip
              refine zEs_run 2 rfl ?_
              exact c45 _ _
  refine zEs_run 2 rfl ?_
  exact c2 _ _ (none) (none) _ _ f0 (Nat.lt_succ_self _)
theorem k_100 (hL : zaL a) {x1 : Int32} : zMs xs (D + 3) 100 [.ref 0, .int x1] (zx s a T) nc ns (zPr zRi [] (zx s a T) nc ns) := by
  refine ⟨_, rfl, ?_⟩
  have c4 : ∀ (n4 : Nat) (i4_2 : Int32) (i4_3 : Int32), (((Int8.ofInt 8).toInt32).toInt - (i4_3).toInt).toNat < n4 → zEs xs (D + 3) 100 4 [some (.ref 0), some (.int x1), some (.int i4_2), some (.int i4_3)] [] (zx s a T) nc ns (zPr zRi [] (zx s a T) nc ns) := by
    intro n4
    induction n4 with
    | zero =>
      intro i4_2 i4_3 hn4
      exact absurd hn4 (Nat.not_lt_zero _)
    | succ n4 ih4 =>
      intro i4_2 i4_3 hn4
      refine zEs_run 2 rfl ?_
      refine zEs_icmp rfl (fun g4 => ?_) (fun g4 => ?_)
      · skip
        refine zEs_run 1 rfl ?_
        exact zEs_end rfl rfl (Or.inl ⟨_, ⟨_, rfl⟩, rfl⟩)
      · skip
        have g4 : ¬ (Int8.ofInt 8).toInt32 ≤ i4_3 := g4
        have c39 : ∀ (i39_2 : Int32), zEs xs (D + 3) 100 39 [some (.ref 0), some (.int x1), some (.int i39_2), some (.int i4_3)] [] (zx s a T) nc ns (zPr zRi [] (zx s a T) nc ns) := by
          intro i39_2
          refine zEs_run 2 rfl ?_
          exact ih4 _ _ (Nat.lt_of_lt_of_le (zdec g4) (Nat.le_of_lt_succ hn4))
        refine zEs_run 10 rfl ?_
        refine zEs_ci rfl rfl (x_25 2 8 7 rfl rfl hL) (fun E hE => by cases hE) (fun v1 => ?_)
        refine zEs_cb rfl rfl (k_10 hL) (fun E hE => by cases hE) (fun v2 hb2 => ?_)
        refine zEs_if rfl (fun _ => ?_) (fun _ => ?_)
        · skip
          exact c39 _
        · skip
          refine zEs_run 1 rfl ?_
          exact c39 _
  refine zEs_run 4 rfl ?_
  exact c4 _ _ _ (Nat.lt_succ_self _)
theorem k_99 (hL : zaL a) {x1 : Int32} : zMs xs (D + 2) 99 [.ref 0, .int x1] (zx s a T) nc ns (zPr zRi [] (zx s a T) nc ns) := by
  refine ⟨_, rfl, ?_⟩
  refine zEs_run 11 rfl ?_
  refine zEs_ci rfl rfl (k_23_15 hL) (fun E hE => by cases hE) (fun v1 => ?_)
  exact zEs_end rfl rfl (Or.inl ⟨_, ⟨_, rfl⟩, rfl⟩)
theorem k_93 (hL : zaL a) {x1 : Int32} {x2 : Int32} : zMs xs (D + 1) 93 [.ref 0, .int x1, .int x2] (zx s a T) nc ns (zPr zRi [] (zx s a T) nc ns) := by
  refine ⟨_, rfl, ?_⟩
  have c2 : ∀ (n2 : Nat) (i2_3 : Int32), (((Int8.ofInt 8).toInt32).toInt - (i2_3).toInt).toNat < n2 → zEs xs (D + 1) 93 2 [some (.ref 0), some (.int x1), some (.int x2), some (.int i2_3)] [] (zx s a T) nc ns (zPr zRi [] (zx s a T) nc ns) := by
    intro n2
    induction n2 with
    | zero =>
      intro i2_3 hn2
      exact absurd hn2 (Nat.not_lt_zero _)
    | succ n2 ih2 =>
      intro i2_3 hn2
      refine zEs_run 2 rfl ?_
      refine zEs_icmp rfl (fun g2 => ?_) (fun g2 => ?_)
      · skip
        refine zEs_run 1 rfl ?_
        exact zEs_end rfl rfl (Or.inl ⟨_, ⟨_, rfl⟩, rfl⟩)
      · skip
        have g2 : ¬ (Int8.ofInt 8).toInt32 ≤ i2_3 := g2
        refine zEs_run 7 rfl ?_
        refine zEs_ci rfl rfl (x_25 15 37 36 rfl rfl hL) (fun E hE => by cases hE) (fun v1 => ?_)
        refine zEs_run 1 rfl ?_
        refine zEs_icmp rfl (fun _ => ?_) (fun _ => ?_)
        · skip
          refine zEs_run 2 rfl ?_
          exact ih2 _ (Nat.lt_of_lt_of_le (zdec g2) (Nat.le_of_lt_succ hn2))
        · skip
          refine zEs_run 1 rfl ?_
          exact zEs_end rfl rfl (Or.inl ⟨_, ⟨_, rfl⟩, rfl⟩)
  refine zEs_run 2 rfl ?_
  exact c2 _ _ (Nat.lt_succ_self _)
theorem k_94 (hL : zaL a) : zMs xs (D + 2) 94 [.ref 0] (zx s a T) nc ns (zPr zRb [] (zx s a T) nc ns) := by
  refine ⟨_, rfl, ?_⟩
  have c2 : ∀ (n2 : Nat) (i2_1 : Int32), (((Int8.ofInt 16).toInt32).toInt - (i2_1).toInt).toNat < n2 → zEs xs (D + 2) 94 2 [some (.ref 0), some (.int i2_1)] [] (zx s a T) nc ns (zPr zRb [] (zx s a T) nc ns) := by
    intro n2
    induction n2 with
    | zero =>
      intro i2_1 hn2
      exact absurd hn2 (Nat.not_lt_zero _)
    | succ n2 ih2 =>
      intro i2_1 hn2
      refine zEs_run 2 rfl ?_
      refine zEs_icmp rfl (fun g2 => ?_) (fun g2 => ?_)
      · skip
        refine zEs_run 1 rfl ?_
        exact zEs_bret rfl (Or.inr rfl) (Or.inl ⟨_, ⟨_, Or.inr rfl, rfl⟩, rfl⟩)
      · skip
        have g2 : ¬ (Int8.ofInt 16).toInt32 ≤ i2_1 := g2
        refine zEs_run 7 rfl ?_
        refine zEs_ci rfl rfl (x_25 15 37 36 rfl rfl hL) (fun E hE => by cases hE) (fun v1 => ?_)
        refine zEs_ci rfl rfl (k_93 hL) (fun E hE => by cases hE) (fun v2 => ?_)
        refine zEs_run 3 rfl ?_
        refine zEs_icmp rfl (fun _ => ?_) (fun _ => ?_)
        · skip
          refine zEs_run 2 rfl ?_
          exact ih2 _ (Nat.lt_of_lt_of_le (zdec g2) (Nat.le_of_lt_succ hn2))
        · skip
          refine zEs_run 1 rfl ?_
          exact zEs_bret rfl (Or.inl rfl) (Or.inl ⟨_, ⟨_, Or.inl rfl, rfl⟩, rfl⟩)
  refine zEs_run 2 rfl ?_
  exact c2 _ _ (Nat.lt_succ_self _)
theorem k_80 (hL : zaL a) : zMs xs (D + 3) 80 [.ref 0] (zx s a T) nc ns (zPr zRb [] (zx s a T) nc ns) := by
  refine ⟨_, rfl, ?_⟩
  refine zEs_run 2 rfl ?_
  refine zEs_cb rfl rfl (k_18 hL) (fun E hE => by cases hE) (fun v1 hb1 => ?_)
  refine zEs_if rfl (fun _ => ?_) (fun _ => ?_)
  · skip
    refine zEs_run 1 rfl ?_
    exact zEs_bret rfl (Or.inl rfl) (Or.inl ⟨_, ⟨_, Or.inl rfl, rfl⟩, rfl⟩)
  · skip
    refine zEs_run 2 rfl ?_
    refine zEs_cb rfl rfl (k_51 hL) (fun E hE => by cases hE) (fun v3 hb3 => ?_)
    refine zEs_if rfl (fun _ => ?_) (fun _ => ?_)
    · skip
      refine zEs_run 1 rfl ?_
      exact zEs_bret rfl (Or.inl rfl) (Or.inl ⟨_, ⟨_, Or.inl rfl, rfl⟩, rfl⟩)
    · skip
      refine zEs_run 2 rfl ?_
      refine zEs_cb rfl rfl (k_38 hL) (fun E hE => by cases hE) (fun v5 hb5 => ?_)
      refine zEs_if rfl (fun _ => ?_) (fun _ => ?_)
      · skip
        refine zEs_run 1 rfl ?_
        exact zEs_bret rfl (Or.inl rfl) (Or.inl ⟨_, ⟨_, Or.inl rfl, rfl⟩, rfl⟩)
      · skip
        refine zEs_run 1 rfl ?_
        refine zEs_cb rfl rfl (k_94 hL) (fun E hE => by cases hE) (fun v7 hb7 => ?_)
        refine zEs_if rfl (fun _ => ?_) (fun _ => ?_)
        · skip
          refine zEs_run 1 rfl ?_
          exact zEs_bret rfl (Or.inl rfl) (Or.inl ⟨_, ⟨_, Or.inl rfl, rfl⟩, rfl⟩)
        · skip
          refine zEs_run 2 rfl ?_
          exact zEs_bret rfl (Or.inr rfl) (Or.inl ⟨_, ⟨_, Or.inr rfl, rfl⟩, rfl⟩)
theorem k_107 (hL : zaL a) {x1 : Int64} {x2 : Int64} : zMs xs (D + 0) 107 [.long x1, .long x2] (zx s a T) nc ns (zPr zRj [] (zx s a T) nc ns) := by
  refine ⟨_, rfl, ?_⟩
  refine zEs_run 5 rfl ?_
  exact zEs_end rfl rfl (Or.inl ⟨_, ⟨_, rfl⟩, rfl⟩)
end ZK
