/-! mixBank and digest. Written by wip/gen/cls.py. -/
section ZK
variable {xs : List Int32} {D nc ns : Nat} {s : Nat → Int32} {a : Nat → List Int32} {T : zH}
set_option maxRecDepth 10000
theorem kn_108 (hL : zaL a) {x1 : Int64} {x2 : Int32} (hx2 : 0 ≤ x2.toInt ∧ x2.toInt ≤ 1) : zMs xs (D + 5) 108 [.ref 0, .long x1, .int x2] (zx s a T) nc ns (zPr zRj [] (zx s a T) nc ns) := by
  obtain ⟨hx2l, hx2u⟩ := hx2
  have hzz := zero_z
  refine ⟨_, rfl, ?_⟩
  have c60 : ∀ (n60 : Nat) (j60_4 : Int64) (i60_6 : Int32) (o60_7 : Option Value) (hz60 : 0 ≤ (i60_6).toInt), (((Int8.ofInt 10).toInt32).toInt - (i60_6).toInt).toNat < n60 → zEs xs (D + 5) 108 60 [some (.ref 0), some (.long x1), none, some (.int x2), some (.long j60_4), none, some (.int i60_6), o60_7] [] (zx s a T) nc ns (zPr zRj [] (zx s a T) nc ns) := by
    intro n60
    induction n60 with
    | zero =>
      intro j60_4 i60_6 o60_7 hz60 hn60
      exact absurd hn60 (Nat.not_lt_zero _)
    | succ n60 ih60 =>
      intro j60_4 i60_6 o60_7 hz60 hn60
      refine zEs_run 2 rfl ?_
      refine zEs_icmp rfl (fun g60 => ?_) (fun g60 => ?_)
      · skip
        refine zEs_run 1 rfl ?_
        exact zEs_end rfl rfl (Or.inl ⟨_, ⟨_, rfl⟩, rfl⟩)
      · skip
        have g60 : ¬ (Int8.ofInt 10).toInt32 ≤ i60_6 := g60
        have z60 := zF_ge_f g60
        have y60 : ((Int8.ofInt 10).toInt32).toInt = 10 := by decide
        have c70 : ∀ (n70 : Nat) (j70_4 : Int64) (i70_7 : Int32) (hz70 : 0 ≤ (i70_7).toInt), (((Int32.ofInt 5)).toInt - (i70_7).toInt).toNat < n70 → zEs xs (D + 5) 108 70 [some (.ref 0), some (.long x1), none, some (.int x2), some (.long j70_4), none, some (.int i60_6), some (.int i70_7)] [] (zx s a T) nc ns (zPr zRj [] (zx s a T) nc ns) := by
          intro n70
          induction n70 with
          | zero =>
            intro j70_4 i70_7 hz70 hn70
            exact absurd hn70 (Nat.not_lt_zero _)
          | succ n70 ih70 =>
            intro j70_4 i70_7 hz70 hn70
            refine zEs_run 2 rfl ?_
            refine zEs_icmp rfl (fun g70 => ?_) (fun g70 => ?_)
            · skip
              refine zEs_run 2 rfl ?_
              exact ih60 _ _ (some (.int _)) (by rw [zinc_z (Int32.not_le.mp g60)]; omega) (Nat.lt_of_lt_of_le (zdec g60) (Nat.le_of_lt_succ hn60))
            · skip
              have g70 : ¬ (Int32.ofInt 5) ≤ i70_7 := g70
              have z70 := zF_ge_f g70
              have y70 : ((Int32.ofInt 5)).toInt = 5 := by decide
              refine zEs_run 5 rfl ?_
              refine zEs_ci rfl rfl (kn_71 hL ⟨by first | omega | decide, by first | omega | decide⟩ ⟨by first | omega | decide, by first | omega | decide⟩ ⟨by first | omega | decide, by first | omega | decide⟩) (fun E hE => by cases hE) (fun v1 => ?_)
              refine zEs_run 1 rfl ?_
              refine zEs_cj rfl rfl (k_107 hL) (fun E hE => by cases hE) (fun v2 => ?_)
              refine zEs_run 3 rfl ?_
              exact ih70 _ _ (by rw [zinc_z (Int32.not_le.mp g70)]; omega) (Nat.lt_of_lt_of_le (zdec g70) (Nat.le_of_lt_succ hn70))
        refine zEs_run 2 rfl ?_
        exact c70 _ _ _ (by decide) (Nat.lt_succ_self _)
  refine zEs_run 4 rfl ?_
  refine zEs_ci rfl rfl (kn_73 hL ⟨by first | omega | decide, by first | omega | decide⟩) (fun E hE => by cases hE) (fun v3 => ?_)
  refine zEs_run 1 rfl ?_
  refine zEs_cj rfl rfl (k_107 hL) (fun E hE => by cases hE) (fun v4 => ?_)
  refine zEs_run 5 rfl ?_
  refine zEs_ci rfl rfl (kn_73 hL ⟨by first | omega | decide, by first | omega | decide⟩) (fun E hE => by cases hE) (fun v5 => ?_)
  refine zEs_run 1 rfl ?_
  refine zEs_cj rfl rfl (k_107 hL) (fun E hE => by cases hE) (fun v6 => ?_)
  refine zEs_run 4 rfl ?_
  refine zEs_ci rfl rfl (kn_78 hL ⟨by first | omega | decide, by first | omega | decide⟩) (fun E hE => by cases hE) (fun v7 => ?_)
  refine zEs_run 1 rfl ?_
  refine zEs_cj rfl rfl (k_107 hL) (fun E hE => by cases hE) (fun v8 => ?_)
  refine zEs_run 5 rfl ?_
  refine zEs_cr rfl rfl (kn_75 hL ⟨by first | omega | decide, by first | omega | decide⟩) (fun E hE => by cases hE) (fun v9 hv9 => ?_)
  obtain ⟨k9, hk9, rfl⟩ := hv9
  refine zEs_dmul rfl (zdd_1 hk9).2 ?_
  refine zEs_run 1 rfl ?_
  refine zEs_cj rfl rfl (k_107 hL) (fun E hE => by cases hE) (fun v10 => ?_)
  refine zEs_run 3 rfl ?_
  exact c60 _ _ _ (none) (by decide) (Nat.lt_succ_self _)
theorem kn_81 (hL : zaL a) (ht : 0 ≤ (s 4).toInt ∧ (s 4).toInt ≤ 2000) : zMs xs (D + 6) 81 [.ref 0] (zx s a T) nc ns (zPo zRj [] [] [5] s a T nc ns) := by
  have hzz := zero_z
  refine ⟨_, rfl, ?_⟩
  have f0 : zfr [] [5] s a s a := zfr_rf hL
  have c223 : ∀ (j223_1 : Int64) (i223_3 : Int32) (o223_4 : Option Value) (t223_0 : Int64) (t223_1 : Int64) (s223 : Nat → Int32) (a223 : Nat → List Int32) (f223 : zfr [] [5] s a s223 a223), zEs xs (D + 6) 81 223 [some (.ref 0), some (.long j223_1), none, some (.int i223_3), o223_4] [.long t223_0, .long t223_1] (zx s223 a223 T) nc ns (zPo zRj [] [] [5] s a T nc ns) := by
    intro j223_1 i223_3 o223_4 t223_0 t223_1 s223 a223 f223
    refine zEs_cj rfl rfl (k_107 f223.2.2) (fun E hE => by cases hE) (fun v1 => ?_)
    exact zEs_end rfl rfl (Or.inl ⟨_, _, _, ⟨_, rfl⟩, f223, rfl⟩)
  have c153 : ∀ (n153 : Nat) (j153_1 : Int64) (i153_3 : Int32) (o153_4 : Option Value) (hz153 : 0 ≤ (i153_3).toInt), (((s 11)).toInt - (i153_3).toInt).toNat < n153 → zEs xs (D + 6) 81 153 [some (.ref 0), some (.long j153_1), none, some (.int i153_3), o153_4] [] (zx s a T) nc ns (zPo zRj [] [] [5] s a T nc ns) := by
    intro n153
    induction n153 with
    | zero =>
      intro j153_1 i153_3 o153_4 hz153 hn153
      exact absurd hn153 (Nat.not_lt_zero _)
    | succ n153 ih153 =>
      intro j153_1 i153_3 o153_4 hz153 hn153
      refine zEs_run 4 rfl ?_
      refine zEs_icmp rfl (fun g153 => ?_) (fun g153 => ?_)
      · skip
        refine zEs_run 3 rfl ?_
        refine zEs_wi rfl rfl (kn_79 hL ht ⟨by first | omega | decide, by first | omega | decide⟩) (fun E hE => by cases hE) (fun v2 s2_ a2_ e2_ => ?_)
        have f2_ : zfr [] [5] s a s2_ a2_ := zfr_tr f0 (zfr_mo e2_ (by decide) (by decide))
        refine zEs_run 1 rfl ?_
        refine zEs_cj rfl rfl (k_107 f2_.2.2) (fun E hE => by cases hE) (fun v3 => ?_)
        refine zEs_run 3 rfl ?_
        refine zEs_cb rfl rfl (k_80 f2_.2.2) (fun E hE => by cases hE) (fun v4 hb4 => ?_)
        refine zEs_if rfl (fun gz215 => ?_) (fun gz215 => ?_)
        · have z6_ := zF_eq_t gz215
          refine zEs_run 1 rfl ?_
          exact c223 _ _ (o153_4) _ _ _ _ f2_
        · have z7_ := zF_eq_f gz215
          refine zEs_run 2 rfl ?_
          exact c223 _ _ (o153_4) _ _ _ _ f2_
      · skip
        have g153 : ¬ (s 11) ≤ i153_3 := g153
        have z153 := zF_ge_f g153
        have c167 : ∀ (n167 : Nat) (j167_1 : Int64) (i167_4 : Int32) (hz167 : 0 ≤ (i167_4).toInt), (((Int32.ofInt 3)).toInt - (i167_4).toInt).toNat < n167 → zEs xs (D + 6) 81 167 [some (.ref 0), some (.long j167_1), none, some (.int i153_3), some (.int i167_4)] [] (zx s a T) nc ns (zPo zRj [] [] [5] s a T nc ns) := by
          intro n167
          induction n167 with
          | zero =>
            intro j167_1 i167_4 hz167 hn167
            exact absurd hn167 (Nat.not_lt_zero _)
          | succ n167 ih167 =>
            intro j167_1 i167_4 hz167 hn167
            refine zEs_run 2 rfl ?_
            refine zEs_icmp rfl (fun g167 => ?_) (fun g167 => ?_)
            · skip
              refine zEs_run 2 rfl ?_
              exact ih153 _ _ (some (.int _)) (by rw [zinc_z (Int32.not_le.mp g153)]; omega) (Nat.lt_of_lt_of_le (zdec g153) (Nat.le_of_lt_succ hn153))
            · skip
              have g167 : ¬ (Int32.ofInt 3) ≤ i167_4 := g167
              have z167 := zF_ge_f g167
              have y167 : ((Int32.ofInt 3)).toInt = 3 := by decide
              refine zEs_run 4 rfl ?_
              refine zEs_ci rfl rfl (kn_72 hL ⟨by first | omega | decide, by first | omega | decide⟩ ⟨by first | omega | decide, by first | omega | decide⟩) (fun E hE => by cases hE) (fun v8 => ?_)
              refine zEs_run 1 rfl ?_
              refine zEs_cj rfl rfl (k_107 hL) (fun E hE => by cases hE) (fun v9 => ?_)
              refine zEs_run 3 rfl ?_
              exact ih167 _ _ (by rw [zinc_z (Int32.not_le.mp g167)]; omega) (Nat.lt_of_lt_of_le (zdec g167) (Nat.le_of_lt_succ hn167))
        refine zEs_run 2 rfl ?_
        exact c167 _ _ _ (by decide) (Nat.lt_succ_self _)
  have c103 : ∀ (n103 : Nat) (j103_1 : Int64) (i103_3 : Int32) (hz103 : 0 ≤ (i103_3).toInt), (((Int16.ofInt 128).toInt32).toInt - (i103_3).toInt).toNat < n103 → zEs xs (D + 6) 81 103 [some (.ref 0), some (.long j103_1), none, some (.int i103_3), none] [] (zx s a T) nc ns (zPo zRj [] [] [5] s a T nc ns) := by
    intro n103
    induction n103 with
    | zero =>
      intro j103_1 i103_3 hz103 hn103
      exact absurd hn103 (Nat.not_lt_zero _)
    | succ n103 ih103 =>
      intro j103_1 i103_3 hz103 hn103
      refine zEs_run 2 rfl ?_
      refine zEs_icmp rfl (fun g103 => ?_) (fun g103 => ?_)
      · skip
        refine zEs_run 2 rfl ?_
        exact c153 _ _ _ (none) (by decide) (Nat.lt_succ_self _)
      · skip
        have g103 : ¬ (Int16.ofInt 128).toInt32 ≤ i103_3 := g103
        have z103 := zF_ge_f g103
        have y103 : ((Int16.ofInt 128).toInt32).toInt = 128 := by decide
        refine zEs_run 4 rfl ?_
        refine zEs_ci rfl rfl (kn_70 hL ⟨by first | omega | decide, by first | omega | decide⟩ ⟨by first | omega | decide, by first | omega | decide⟩) (fun E hE => by cases hE) (fun v10 => ?_)
        refine zEs_run 1 rfl ?_
        refine zEs_cj rfl rfl (k_107 hL) (fun E hE => by cases hE) (fun v11 => ?_)
        refine zEs_run 5 rfl ?_
        refine zEs_ci rfl rfl (kn_70 hL ⟨by first | omega | decide, by first | omega | decide⟩ ⟨by first | omega | decide, by first | omega | decide⟩) (fun E hE => by cases hE) (fun v12 => ?_)
        refine zEs_run 1 rfl ?_
        refine zEs_cj rfl rfl (k_107 hL) (fun E hE => by cases hE) (fun v13 => ?_)
        refine zEs_run 4 rfl ?_
        refine zEs_ci rfl rfl (kn_77 hL ⟨by first | omega | decide, by first | omega | decide⟩) (fun E hE => by cases hE) (fun v14 => ?_)
        refine zEs_run 1 rfl ?_
        refine zEs_cj rfl rfl (k_107 hL) (fun E hE => by cases hE) (fun v15 => ?_)
        refine zEs_run 3 rfl ?_
        exact ih103 _ _ (by rw [zinc_z (Int32.not_le.mp g103)]; omega) (Nat.lt_of_lt_of_le (zdec g103) (Nat.le_of_lt_succ hn103))
  have c83 : ∀ (n83 : Nat) (j83_1 : Int64) (i83_3 : Int32) (hz83 : 0 ≤ (i83_3).toInt), (((Int32.ofInt 2)).toInt - (i83_3).toInt).toNat < n83 → zEs xs (D + 6) 81 83 [some (.ref 0), some (.long j83_1), none, some (.int i83_3), none] [] (zx s a T) nc ns (zPo zRj [] [] [5] s a T nc ns) := by
    intro n83
    induction n83 with
    | zero =>
      intro j83_1 i83_3 hz83 hn83
      exact absurd hn83 (Nat.not_lt_zero _)
    | succ n83 ih83 =>
      intro j83_1 i83_3 hz83 hn83
      refine zEs_run 2 rfl ?_
      refine zEs_icmp rfl (fun g83 => ?_) (fun g83 => ?_)
      · skip
        refine zEs_run 2 rfl ?_
        exact c103 _ _ _ (by decide) (Nat.lt_succ_self _)
      · skip
        have g83 : ¬ (Int32.ofInt 2) ≤ i83_3 := g83
        have z83 := zF_ge_f g83
        have y83 : ((Int32.ofInt 2)).toInt = 2 := by decide
        refine zEs_run 3 rfl ?_
        refine zEs_cj rfl rfl (kn_108 hL ⟨by first | omega | decide, by first | omega | decide⟩) (fun E hE => by cases hE) (fun v16 => ?_)
        refine zEs_run 3 rfl ?_
        exact ih83 _ _ (by rw [zinc_z (Int32.not_le.mp g83)]; omega) (Nat.lt_of_lt_of_le (zdec g83) (Nat.le_of_lt_succ hn83))
  have c31 : ∀ (n31 : Nat) (j31_1 : Int64) (i31_3 : Int32) (hz31 : 0 ≤ (i31_3).toInt), (((s 2)).toInt - (i31_3).toInt).toNat < n31 → zEs xs (D + 6) 81 31 [some (.ref 0), some (.long j31_1), none, some (.int i31_3), none] [] (zx s a T) nc ns (zPo zRj [] [] [5] s a T nc ns) := by
    intro n31
    induction n31 with
    | zero =>
      intro j31_1 i31_3 hz31 hn31
      exact absurd hn31 (Nat.not_lt_zero _)
    | succ n31 ih31 =>
      intro j31_1 i31_3 hz31 hn31
      refine zEs_run 4 rfl ?_
      refine zEs_icmp rfl (fun g31 => ?_) (fun g31 => ?_)
      · skip
        refine zEs_run 3 rfl ?_
        refine zEs_ci rfl rfl (kn_69 hL ⟨by first | omega | decide, by first | omega | decide⟩) (fun E hE => by cases hE) (fun v17 => ?_)
        refine zEs_run 1 rfl ?_
        refine zEs_cj rfl rfl (k_107 hL) (fun E hE => by cases hE) (fun v18 => ?_)
        refine zEs_run 4 rfl ?_
        refine zEs_ci rfl rfl (kn_69 hL ⟨by first | omega | decide, by first | omega | decide⟩) (fun E hE => by cases hE) (fun v19 => ?_)
        refine zEs_run 1 rfl ?_
        refine zEs_cj rfl rfl (k_107 hL) (fun E hE => by cases hE) (fun v20 => ?_)
        refine zEs_run 3 rfl ?_
        exact c83 _ _ _ (by decide) (Nat.lt_succ_self _)
      · skip
        have g31 : ¬ (s 2) ≤ i31_3 := g31
        have z31 := zF_ge_f g31
        refine zEs_run 3 rfl ?_
        refine zEs_ci rfl rfl (kn_66 hL ⟨by first | omega | decide, by first | omega | decide⟩) (fun E hE => by cases hE) (fun v21 => ?_)
        refine zEs_run 1 rfl ?_
        refine zEs_cj rfl rfl (k_107 hL) (fun E hE => by cases hE) (fun v22 => ?_)
        refine zEs_run 3 rfl ?_
        exact ih31 _ _ (by rw [zinc_z (Int32.not_le.mp g31)]; omega) (Nat.lt_of_lt_of_le (zdec g31) (Nat.le_of_lt_succ hn31))
  have c6 : ∀ (n6 : Nat) (j6_1 : Int64) (i6_3 : Int32) (hz6 : 0 ≤ (i6_3).toInt), (((Int8.ofInt 18).toInt32).toInt - (i6_3).toInt).toNat < n6 → zEs xs (D + 6) 81 6 [some (.ref 0), some (.long j6_1), none, some (.int i6_3), none] [] (zx s a T) nc ns (zPo zRj [] [] [5] s a T nc ns) := by
    intro n6
    induction n6 with
    | zero =>
      intro j6_1 i6_3 hz6 hn6
      exact absurd hn6 (Nat.not_lt_zero _)
    | succ n6 ih6 =>
      intro j6_1 i6_3 hz6 hn6
      refine zEs_run 2 rfl ?_
      refine zEs_icmp rfl (fun g6 => ?_) (fun g6 => ?_)
      · skip
        refine zEs_run 2 rfl ?_
        exact c31 _ _ _ (by decide) (Nat.lt_succ_self _)
      · skip
        have g6 : ¬ (Int8.ofInt 18).toInt32 ≤ i6_3 := g6
        have z6 := zF_ge_f g6
        have y6 : ((Int8.ofInt 18).toInt32).toInt = 18 := by decide
        refine zEs_run 3 rfl ?_
        refine zEs_ci rfl rfl (kn_74 hL ⟨by first | omega | decide, by first | omega | decide⟩) (fun E hE => by cases hE) (fun v23 => ?_)
        refine zEs_run 1 rfl ?_
        refine zEs_cj rfl rfl (k_107 hL) (fun E hE => by cases hE) (fun v24 => ?_)
        refine zEs_run 3 rfl ?_
        exact ih6 _ _ (by rw [zinc_z (Int32.not_le.mp g6)]; omega) (Nat.lt_of_lt_of_le (zdec g6) (Nat.le_of_lt_succ hn6))
  refine zEs_run 4 rfl ?_
  exact c6 _ _ _ (by decide) (Nat.lt_succ_self _)
end ZK
