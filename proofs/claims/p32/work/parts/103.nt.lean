/-! The class's methods with arguments that are in order: no exception. Written by wip/gen/cls.py. -/
theorem zF_eq_t {x y : Int32} (g : zcq .eq x y) : x.toInt = y.toInt := congrArg _ (show x = y from g)
theorem zF_eq_f {x y : Int32} (g : zcn9 .eq x y) : ¬ x.toInt = y.toInt := fun e => g (Int32.toInt_inj.mp e)
theorem zF_ne_t {x y : Int32} (g : zcq .ne x y) : ¬ x.toInt = y.toInt := fun e => g (Int32.toInt_inj.mp e)
theorem zF_ne_f {x y : Int32} (g : zcn9 .ne x y) : x.toInt = y.toInt := congrArg _ (show x = y from g)
theorem zF_lt_t {x y : Int32} (g : zcq .lt x y) : x.toInt < y.toInt := Int32.lt_iff_toInt_lt.mp g
theorem zF_lt_f {x y : Int32} (g : zcn9 .lt x y) : y.toInt ≤ x.toInt := Int.not_lt.mp (fun z => g (Int32.lt_iff_toInt_lt.mpr z))
theorem zF_ge_t {x y : Int32} (g : zcq .ge x y) : y.toInt ≤ x.toInt := Int32.le_iff_toInt_le.mp g
theorem zF_ge_f {x y : Int32} (g : zcn9 .ge x y) : x.toInt < y.toInt := Int.not_le.mp (fun z => g (Int32.le_iff_toInt_le.mpr z))
theorem zF_gt_t {x y : Int32} (g : zcq .gt x y) : y.toInt < x.toInt := Int32.lt_iff_toInt_lt.mp g
theorem zF_gt_f {x y : Int32} (g : zcn9 .gt x y) : x.toInt ≤ y.toInt := Int.not_lt.mp (fun z => g (Int32.lt_iff_toInt_lt.mpr z))
theorem zF_le_t {x y : Int32} (g : zcq .le x y) : x.toInt ≤ y.toInt := Int32.le_iff_toInt_le.mp g
theorem zF_le_f {x y : Int32} (g : zcn9 .le x y) : y.toInt < x.toInt := Int.not_le.mp (fun z => g (Int32.le_iff_toInt_le.mpr z))
theorem zero_z : (0 : Int32).toInt = 0 := by decide
theorem zinc_le {x : Int32} {n : Int} (h : x.toInt < 2147483000) (hn : 0 < n) (hn2 : n < 100) : (x + Int32.ofInt n).toInt = x.toInt + n := by
  have h3 := Int32.le_toInt x
  rw [Int32.toInt_add, Int32.toInt_ofInt]
  have e : n.bmod Int32.size = n := by
    rw [Int.bmod_def, show ((Int32.size : Nat) : Int) = 4294967296 from rfl]
    split <;> omega
  rw [e, Int.bmod_def]
  split <;> omega
section ZK
variable {xs : List Int32} {D nc ns y pc nx k yy m c : Nat} {s : Nat → Int32} {a : Nat → List Int32} {T h : zH} {L : zL} {r : List Value} {P : zO → Prop}
/-- a switch whose value is in the table -/
theorem zEs_tabN {d lo hi : Int} {offs : Array Int} {x : Int32} (ts : List Nat) (h1 : zat (zmc y) pc = some (.tableswitch d lo hi offs, nx, k, yy, m, c)) (ht : (offs.toList).all (fun o => match (pc : Int) + o with
  | .ofNat t => ts.contains t
  | .negSucc _ => false) = true) (hl : offs.size = (hi + 1 - lo).toNat) (g1 : lo ≤ x.toInt) (g2 : x.toInt ≤ hi) (kk : ∀ t ∈ ts, zEs xs D y t L r h nc ns P) : zEs xs D y pc L (.int x :: r) h nc ns P := by
  have key : ∀ o, o ∈ offs.toList → ∃ t, t ∈ ts ∧ zoff pc o L r h = zgo t L r h := by
    intro o ho
    have g := List.all_eq_true.mp ht o ho
    unfold zoff
    split at g
    · next t e =>
      rw [e]
      exact ⟨t, List.contains_iff_mem.mp g, rfl⟩
    · cases g
  have q : ¬ (x.toInt < lo ∨ hi < x.toInt) := by omega
  have hlt : (x.toInt - lo).toNat < offs.size := by omega
  obtain ⟨t, g1, g2⟩ := key offs[(x.toInt - lo).toNat] (by simp)
  refine zEs_step (dc := 0) (ds := 0) h1 ?_ (kk t g1)
  refine (if_neg q).trans ?_
  rw [Array.getElem?_eq_getElem hlt]
  exact g2
set_option maxRecDepth 10000
theorem kn_82 (hL : zaL a) {x1 : Int32} (hx1 : 0 ≤ x1.toInt ∧ x1.toInt ≤ 127) : zMs xs (D + 0) 82 [.int x1] (zx s a T) nc ns (zPr zRv [] (zx s a T) nc ns) := by
  obtain ⟨hx1l, hx1u⟩ := hx1
  have hzz := zero_z
  refine ⟨_, rfl, ?_⟩
  refine zEs_run 1 rfl ?_
  refine zEs_if rfl (fun gz1 => ?_) (fun gz1 => ?_)
  · have z2_ := zF_lt_t gz1
    exfalso
    omega
  · have z3_ := zF_lt_f gz1
    refine zEs_run 2 rfl ?_
    refine zEs_icmp rfl (fun gz8 => ?_) (fun gz8 => ?_)
    · have z5_ := zF_lt_t gz8
      have y5_3 : ((Int16.ofInt 128).toInt32).toInt = 128 := by decide
      exact zEs_end rfl rfl (Or.inl ⟨_, rfl, rfl⟩)
    · have z6_ := zF_lt_f gz8
      have y6_6 : ((Int16.ofInt 128).toInt32).toInt = 128 := by decide
      exfalso
      omega
theorem kn_83 (hL : zaL a) {x1 : Int32} (hx1 : 0 ≤ x1.toInt ∧ x1.toInt ≤ 1) : zMs xs (D + 0) 83 [.int x1] (zx s a T) nc ns (zPr zRv [] (zx s a T) nc ns) := by
  obtain ⟨hx1l, hx1u⟩ := hx1
  have hzz := zero_z
  refine ⟨_, rfl, ?_⟩
  refine zEs_run 1 rfl ?_
  refine zEs_if rfl (fun gz1 => ?_) (fun gz1 => ?_)
  · have z2_ := zF_lt_t gz1
    exfalso
    omega
  · have z3_ := zF_lt_f gz1
    refine zEs_run 2 rfl ?_
    refine zEs_icmp rfl (fun gz6 => ?_) (fun gz6 => ?_)
    · have z5_ := zF_lt_t gz6
      have y5_3 : ((Int32.ofInt 2)).toInt = 2 := by decide
      exact zEs_end rfl rfl (Or.inl ⟨_, rfl, rfl⟩)
    · have z6_ := zF_lt_f gz6
      have y6_6 : ((Int32.ofInt 2)).toInt = 2 := by decide
      exfalso
      omega
theorem kn_85 (hL : zaL a) {x1 : Int32} (hx1 : 1 ≤ x1.toInt ∧ x1.toInt ≤ 100) : zMs xs (D + 0) 85 [.int x1] (zx s a T) nc ns (zPr zRv [] (zx s a T) nc ns) := by
  obtain ⟨hx1l, hx1u⟩ := hx1
  have hzz := zero_z
  refine ⟨_, rfl, ?_⟩
  refine zEs_run 2 rfl ?_
  refine zEs_icmp rfl (fun gz2 => ?_) (fun gz2 => ?_)
  · have z2_ := zF_lt_t gz2
    have y2_3 : ((Int32.ofInt 1)).toInt = 1 := by decide
    exfalso
    omega
  · have z3_ := zF_lt_f gz2
    have y3_7 : ((Int32.ofInt 1)).toInt = 1 := by decide
    refine zEs_run 2 rfl ?_
    refine zEs_icmp rfl (fun gz8 => ?_) (fun gz8 => ?_)
    · have z5_ := zF_le_t gz8
      have y5_3 : ((Int8.ofInt 100).toInt32).toInt = 100 := by decide
      exact zEs_end rfl rfl (Or.inl ⟨_, rfl, rfl⟩)
    · have z6_ := zF_le_f gz8
      have y6_6 : ((Int8.ofInt 100).toInt32).toInt = 100 := by decide
      exfalso
      omega
theorem kn_74 (hL : zaL a) {x1 : Int32} (hx1 : 0 ≤ x1.toInt ∧ x1.toInt ≤ 17) : zMs xs (D + 1) 74 [.ref 0, .int x1] (zx s a T) nc ns (zPr zRi [] (zx s a T) nc ns) := by
  obtain ⟨hx1l, hx1u⟩ := hx1
  have hzz := zero_z
  refine ⟨_, rfl, ?_⟩
  refine zEs_run 1 rfl ?_
  refine zEs_tabN [88, 96, 104, 112, 120, 128, 133, 146, 159, 164, 172, 180, 188, 196, 204, 215, 226, 234] rfl (by decide) (by decide) (by omega) (by omega) (List.forall_mem_cons.mpr ⟨?_, List.forall_mem_cons.mpr ⟨?_, List.forall_mem_cons.mpr ⟨?_, List.forall_mem_cons.mpr ⟨?_, List.forall_mem_cons.mpr ⟨?_, List.forall_mem_cons.mpr ⟨?_, List.forall_mem_cons.mpr ⟨?_, List.forall_mem_cons.mpr ⟨?_, List.forall_mem_cons.mpr ⟨?_, List.forall_mem_cons.mpr ⟨?_, List.forall_mem_cons.mpr ⟨?_, List.forall_mem_cons.mpr ⟨?_, List.forall_mem_cons.mpr ⟨?_, List.forall_mem_cons.mpr ⟨?_, List.forall_mem_cons.mpr ⟨?_, List.forall_mem_cons.mpr ⟨?_, List.forall_mem_cons.mpr ⟨?_, List.forall_mem_cons.mpr ⟨?_, fun _ h => absurd h List.not_mem_nil⟩⟩⟩⟩⟩⟩⟩⟩⟩⟩⟩⟩⟩⟩⟩⟩⟩⟩)
  · skip
    refine zEs_run 3 rfl ?_
    exact zEs_end rfl rfl (Or.inl ⟨_, ⟨_, rfl⟩, rfl⟩)
  · skip
    refine zEs_run 3 rfl ?_
    exact zEs_end rfl rfl (Or.inl ⟨_, ⟨_, rfl⟩, rfl⟩)
  · skip
    refine zEs_run 3 rfl ?_
    exact zEs_end rfl rfl (Or.inl ⟨_, ⟨_, rfl⟩, rfl⟩)
  · skip
    refine zEs_run 3 rfl ?_
    exact zEs_end rfl rfl (Or.inl ⟨_, ⟨_, rfl⟩, rfl⟩)
  · skip
    refine zEs_run 3 rfl ?_
    exact zEs_end rfl rfl (Or.inl ⟨_, ⟨_, rfl⟩, rfl⟩)
  · skip
    refine zEs_run 2 rfl ?_
    exact zEs_end rfl rfl (Or.inl ⟨_, ⟨_, rfl⟩, rfl⟩)
  · skip
    refine zEs_run 2 rfl ?_
    refine zEs_if rfl (fun gz137 => ?_) (fun gz137 => ?_)
    · have z2_ := zF_eq_t gz137
      refine zEs_run 1 rfl ?_
      exact zEs_end rfl rfl (Or.inl ⟨_, ⟨_, rfl⟩, rfl⟩)
    · have z3_ := zF_eq_f gz137
      refine zEs_run 2 rfl ?_
      exact zEs_end rfl rfl (Or.inl ⟨_, ⟨_, rfl⟩, rfl⟩)
  · skip
    refine zEs_run 2 rfl ?_
    refine zEs_if rfl (fun gz150 => ?_) (fun gz150 => ?_)
    · have z5_ := zF_eq_t gz150
      refine zEs_run 1 rfl ?_
      exact zEs_end rfl rfl (Or.inl ⟨_, ⟨_, rfl⟩, rfl⟩)
    · have z6_ := zF_eq_f gz150
      refine zEs_run 2 rfl ?_
      exact zEs_end rfl rfl (Or.inl ⟨_, ⟨_, rfl⟩, rfl⟩)
  · skip
    refine zEs_run 2 rfl ?_
    exact zEs_end rfl rfl (Or.inl ⟨_, ⟨_, rfl⟩, rfl⟩)
  · skip
    refine zEs_run 3 rfl ?_
    exact zEs_end rfl rfl (Or.inl ⟨_, ⟨_, rfl⟩, rfl⟩)
  · skip
    refine zEs_run 3 rfl ?_
    exact zEs_end rfl rfl (Or.inl ⟨_, ⟨_, rfl⟩, rfl⟩)
  · skip
    refine zEs_run 3 rfl ?_
    exact zEs_end rfl rfl (Or.inl ⟨_, ⟨_, rfl⟩, rfl⟩)
  · skip
    refine zEs_run 2 rfl ?_
    refine zEs_ci rfl rfl (x_28 17 41 40 rfl rfl hL) (fun E hE => by cases hE) (fun v7 => ?_)
    exact zEs_end rfl rfl (Or.inl ⟨_, ⟨_, rfl⟩, rfl⟩)
  · skip
    refine zEs_run 2 rfl ?_
    refine zEs_ci rfl rfl (x_28 18 43 42 rfl rfl hL) (fun E hE => by cases hE) (fun v8 => ?_)
    exact zEs_end rfl rfl (Or.inl ⟨_, ⟨_, rfl⟩, rfl⟩)
  · skip
    refine zEs_run 4 rfl ?_
    exact zEs_end rfl rfl (Or.inl ⟨_, ⟨_, rfl⟩, rfl⟩)
  · skip
    refine zEs_run 4 rfl ?_
    exact zEs_end rfl rfl (Or.inl ⟨_, ⟨_, rfl⟩, rfl⟩)
  · skip
    refine zEs_run 3 rfl ?_
    exact zEs_end rfl rfl (Or.inl ⟨_, ⟨_, rfl⟩, rfl⟩)
  · skip
    refine zEs_run 2 rfl ?_
    exact zEs_end rfl rfl (Or.inl ⟨_, ⟨_, rfl⟩, rfl⟩)
theorem kn_69 (hL : zaL a) {x1 : Int32} (hx1 : 2 ≤ x1.toInt ∧ x1.toInt ≤ 3) : zMs xs (D + 4) 69 [.ref 0, .int x1] (zx s a T) nc ns (zPr zRi [] (zx s a T) nc ns) := by
  obtain ⟨hx1l, hx1u⟩ := hx1
  have hzz := zero_z
  refine ⟨_, rfl, ?_⟩
  have c21 : zEs xs (D + 4) 69 21 [some (.ref 0), some (.int x1)] [] (zx s a T) nc ns (zPr zRi [] (zx s a T) nc ns) := by
    refine zEs_run 3 rfl ?_
    refine zEs_ci rfl rfl (k_15 hL) (fun E hE => by cases hE) (fun v1 => ?_)
    exact zEs_end rfl rfl (Or.inl ⟨_, ⟨_, rfl⟩, rfl⟩)
  refine zEs_run 2 rfl ?_
  refine zEs_icmp rfl (fun gz2 => ?_) (fun gz2 => ?_)
  · have z3_ := zF_eq_t gz2
    have y3_3 : ((Int32.ofInt 2)).toInt = 2 := by decide
    exact c21 
  · have z4_ := zF_eq_f gz2
    have y4_6 : ((Int32.ofInt 2)).toInt = 2 := by decide
    refine zEs_run 2 rfl ?_
    refine zEs_icmp rfl (fun gz7 => ?_) (fun gz7 => ?_)
    · have z6_ := zF_eq_t gz7
      have y6_3 : ((Int32.ofInt 3)).toInt = 3 := by decide
      exact c21 
    · have z7_ := zF_eq_f gz7
      have y7_6 : ((Int32.ofInt 3)).toInt = 3 := by decide
      exfalso
      omega
theorem kn_73 (hL : zaL a) {x1 : Int32} {x2 : Int32} (hx1 : 0 ≤ x1.toInt ∧ x1.toInt ≤ 1) : zMs xs (D + 4) 73 [.ref 0, .int x1, .int x2] (zx s a T) nc ns (zPr zRi [] (zx s a T) nc ns) := by
  obtain ⟨hx1l, hx1u⟩ := hx1
  have hzz := zero_z
  refine ⟨_, rfl, ?_⟩
  have c6 : ∀ (n6 : Nat) (i6_3 : Int32) (o6_4 : Option Value) (hz6 : 0 ≤ (i6_3).toInt), (((Int32.ofInt 4)).toInt + 1 - (i6_3).toInt).toNat < n6 → zEs xs (D + 4) 73 6 [some (.ref 0), some (.int x1), some (.int x2), some (.int i6_3), o6_4] [] (zx s a T) nc ns (zPr zRi [] (zx s a T) nc ns) := by
    intro n6
    induction n6 with
    | zero =>
      intro i6_3 o6_4 hz6 hn6
      exact absurd hn6 (Nat.not_lt_zero _)
    | succ n6 ih6 =>
      intro i6_3 o6_4 hz6 hn6
      refine zEs_run 2 rfl ?_
      refine zEs_icmp rfl (fun g6 => ?_) (fun g6 => ?_)
      · skip
        refine zEs_run 1 rfl ?_
        refine zEs_if rfl (fun gz46 => ?_) (fun gz46 => ?_)
        · have z2_ := zF_eq_t gz46
          refine zEs_run 1 rfl ?_
          exact zEs_end rfl rfl (Or.inl ⟨_, ⟨_, rfl⟩, rfl⟩)
        · have z3_ := zF_eq_f gz46
          refine zEs_run 2 rfl ?_
          exact zEs_end rfl rfl (Or.inl ⟨_, ⟨_, rfl⟩, rfl⟩)
      · skip
        have g6 : ¬ (Int32.ofInt 4) < i6_3 := g6
        have z6 := zF_gt_f g6
        have y6 : ((Int32.ofInt 4)).toInt = 4 := by decide
        refine zEs_run 4 rfl ?_
        refine zEs_ci rfl rfl (k_32 hL) (fun E hE => by cases hE) (fun v4 => ?_)
        refine zEs_run 3 rfl ?_
        refine zEs_icmp rfl (fun gz25 => ?_) (fun gz25 => ?_)
        · have z6_ := zF_eq_t gz25
          have y6_3 : ((Int32.ofInt (-1))).toInt = -1 := by decide
          refine zEs_run 2 rfl ?_
          exact ih6 _ (some (.int _)) (by rw [zinc_le (by omega) (by decide) (by decide)]; omega) (Nat.lt_of_lt_of_le (zdec_le g6 (Int.le_refl _) (by decide) (by decide) (by decide)) (Nat.le_of_lt_succ hn6))
        · have z7_ := zF_eq_f gz25
          have y7_7 : ((Int32.ofInt (-1))).toInt = -1 := by decide
          refine zEs_run 1 rfl ?_
          refine zEs_if rfl (fun gz29 => ?_) (fun gz29 => ?_)
          · have z9_ := zF_eq_t gz29
            refine zEs_run 1 rfl ?_
            exact zEs_end rfl rfl (Or.inl ⟨_, ⟨_, rfl⟩, rfl⟩)
          · have z10_ := zF_eq_f gz29
            refine zEs_run 2 rfl ?_
            exact zEs_end rfl rfl (Or.inl ⟨_, ⟨_, rfl⟩, rfl⟩)
  refine zEs_run 1 rfl ?_
  refine zEs_cv rfl rfl (kn_83 hL ⟨by omega, by omega⟩) (fun E hE => by cases hE) ?_
  refine zEs_run 2 rfl ?_
  exact c6 _ _ (none) (by decide) (Nat.lt_succ_self _)
theorem kn_78 (hL : zaL a) {x1 : Int32} (hx1 : 0 ≤ x1.toInt ∧ x1.toInt ≤ 1) : zMs xs (D + 4) 78 [.ref 0, .int x1] (zx s a T) nc ns (zPr zRi [] (zx s a T) nc ns) := by
  obtain ⟨hx1l, hx1u⟩ := hx1
  have hzz := zero_z
  refine ⟨_, rfl, ?_⟩
  have c28 : ∀ (n28 : Nat) (i28_2 : Int32) (i28_3 : Int32) (i28_4 : Int32) (i28_5 : Int32) (o28_6 : Option Value) (o28_7 : Option Value) (o28_8 : Option Value) (hz28 : 0 ≤ (i28_5).toInt), (((Int8.ofInt 8).toInt32).toInt - (i28_5).toInt).toNat < n28 → zEs xs (D + 4) 78 28 [some (.ref 0), some (.int x1), some (.int i28_2), some (.int i28_3), some (.int i28_4), some (.int i28_5), o28_6, o28_7, o28_8] [] (zx s a T) nc ns (zPr zRi [] (zx s a T) nc ns) := by
    intro n28
    induction n28 with
    | zero =>
      intro i28_2 i28_3 i28_4 i28_5 o28_6 o28_7 o28_8 hz28 hn28
      exact absurd hn28 (Nat.not_lt_zero _)
    | succ n28 ih28 =>
      intro i28_2 i28_3 i28_4 i28_5 o28_6 o28_7 o28_8 hz28 hn28
      refine zEs_run 2 rfl ?_
      refine zEs_icmp rfl (fun g28 => ?_) (fun g28 => ?_)
      · skip
        refine zEs_run 1 rfl ?_
        exact zEs_end rfl rfl (Or.inl ⟨_, ⟨_, rfl⟩, rfl⟩)
      · skip
        have g28 : ¬ (Int8.ofInt 8).toInt32 ≤ i28_5 := g28
        have z28 := zF_ge_f g28
        have y28 : ((Int8.ofInt 8).toInt32).toInt = 8 := by decide
        have c97 : ∀ (i97_2 : Int32) (i97_3 : Int32) (i97_4 : Int32) (i97_6 : Int32) (i97_7 : Int32) (i97_8 : Int32), zEs xs (D + 4) 78 97 [some (.ref 0), some (.int x1), some (.int i97_2), some (.int i97_3), some (.int i97_4), some (.int i28_5), some (.int i97_6), some (.int i97_7), some (.int i97_8)] [] (zx s a T) nc ns (zPr zRi [] (zx s a T) nc ns) := by
          intro i97_2 i97_3 i97_4 i97_6 i97_7 i97_8
          refine zEs_run 2 rfl ?_
          exact ih28 _ _ _ _ (some (.int _)) (some (.int _)) (some (.int _)) (by rw [zinc_z (Int32.not_le.mp g28)]; omega) (Nat.lt_of_lt_of_le (zdec g28) (Nat.le_of_lt_succ hn28))
        have c87 : ∀ (i87_6 : Int32) (i87_7 : Int32) (i87_8 : Int32), zEs xs (D + 4) 78 87 [some (.ref 0), some (.int x1), some (.int i28_2), some (.int i28_3), some (.int i28_4), some (.int i28_5), some (.int i87_6), some (.int i87_7), some (.int i87_8)] [] (zx s a T) nc ns (zPr zRi [] (zx s a T) nc ns) := by
          intro i87_6 i87_7 i87_8
          refine zEs_run 6 rfl ?_
          exact c97 _ _ _ _ _ _
        refine zEs_run 3 rfl ?_
        refine zEs_ci rfl rfl (k_88 hL) (fun E hE => by cases hE) (fun v1 => ?_)
        refine zEs_ci rfl rfl (k_90 hL) (fun E hE => by cases hE) (fun v2 => ?_)
        refine zEs_run 3 rfl ?_
        refine zEs_ci rfl rfl (k_100 hL) (fun E hE => by cases hE) (fun v3 => ?_)
        refine zEs_run 3 rfl ?_
        refine zEs_ci rfl rfl (k_99 hL) (fun E hE => by cases hE) (fun v4 => ?_)
        refine zEs_run 3 rfl ?_
        refine zEs_icmp rfl (fun gz66 => ?_) (fun gz66 => ?_)
        · have z6_ := zF_gt_t gz66
          exact c87 _ _ _
        · have z7_ := zF_gt_f gz66
          refine zEs_run 1 rfl ?_
          refine zEs_if rfl (fun gz71 => ?_) (fun gz71 => ?_)
          · have z9_ := zF_le_t gz71
            exact c97 _ _ _ _ _ _
          · have z10_ := zF_le_f gz71
            refine zEs_run 2 rfl ?_
            refine zEs_icmp rfl (fun gz77 => ?_) (fun gz77 => ?_)
            · have z12_ := zF_ne_t gz77
              exact c97 _ _ _ _ _ _
            · have z13_ := zF_ne_f gz77
              refine zEs_run 2 rfl ?_
              refine zEs_icmp rfl (fun gz84 => ?_) (fun gz84 => ?_)
              · have z15_ := zF_le_t gz84
                exact c97 _ _ _ _ _ _
              · have z16_ := zF_le_f gz84
                exact c87 _ _ _
  refine zEs_run 1 rfl ?_
  refine zEs_cv rfl rfl (kn_83 hL ⟨by omega, by omega⟩) (fun E hE => by cases hE) ?_
  refine zEs_run 3 rfl ?_
  refine zEs_ci rfl rfl (x_25 16 39 38 rfl rfl hL) (fun E hE => by cases hE) (fun v18 => ?_)
  refine zEs_run 1 rfl ?_
  refine zEs_icmp rfl (fun gz13 => ?_) (fun gz13 => ?_)
  · have z20_ := zF_lt_t gz13
    have y20_3 : ((Int32.ofInt 2)).toInt = 2 := by decide
    refine zEs_run 8 rfl ?_
    exact c28 _ _ _ _ _ (none) (none) (none) (by decide) (Nat.lt_succ_self _)
  · have z21_ := zF_lt_f gz13
    have y21_7 : ((Int32.ofInt 2)).toInt = 2 := by decide
    refine zEs_run 1 rfl ?_
    exact zEs_end rfl rfl (Or.inl ⟨_, ⟨_, rfl⟩, rfl⟩)
theorem kn_71 (hL : zaL a) {x1 : Int32} {x2 : Int32} {x3 : Int32} (hx1 : 0 ≤ x1.toInt ∧ x1.toInt ≤ 1) (hx2 : 0 ≤ x2.toInt ∧ x2.toInt ≤ 9) (hx3 : 0 ≤ x3.toInt ∧ x3.toInt ≤ 4) : zMs xs (D + 4) 71 [.ref 0, .int x1, .int x2, .int x3] (zx s a T) nc ns (zPr zRi [] (zx s a T) nc ns) := by
  obtain ⟨hx1l, hx1u⟩ := hx1
  obtain ⟨hx2l, hx2u⟩ := hx2
  obtain ⟨hx3l, hx3u⟩ := hx3
  have hzz := zero_z
  refine ⟨_, rfl, ?_⟩
  refine zEs_run 1 rfl ?_
  refine zEs_cv rfl rfl (kn_83 hL ⟨by omega, by omega⟩) (fun E hE => by cases hE) ?_
  refine zEs_run 1 rfl ?_
  refine zEs_if rfl (fun gz5 => ?_) (fun gz5 => ?_)
  · have z3_ := zF_lt_t gz5
    exfalso
    omega
  · have z4_ := zF_lt_f gz5
    refine zEs_run 2 rfl ?_
    refine zEs_icmp rfl (fun gz11 => ?_) (fun gz11 => ?_)
    · have z6_ := zF_lt_t gz11
      have y6_3 : ((Int8.ofInt 10).toInt32).toInt = 10 := by decide
      refine zEs_run 7 rfl ?_
      refine zEs_tabN [68, 81, 88, 109, 116] rfl (by decide) (by decide) (by omega) (by omega) (List.forall_mem_cons.mpr ⟨?_, List.forall_mem_cons.mpr ⟨?_, List.forall_mem_cons.mpr ⟨?_, List.forall_mem_cons.mpr ⟨?_, List.forall_mem_cons.mpr ⟨?_, fun _ h => absurd h List.not_mem_nil⟩⟩⟩⟩⟩)
      · skip
        refine zEs_run 4 rfl ?_
        refine zEs_ci rfl rfl (x_25 3 10 9 rfl rfl hL) (fun E hE => by cases hE) (fun v7 => ?_)
        exact zEs_end rfl rfl (Or.inl ⟨_, ⟨_, rfl⟩, rfl⟩)
      · skip
        refine zEs_run 3 rfl ?_
        refine zEs_ci rfl rfl (k_93 hL) (fun E hE => by cases hE) (fun v8 => ?_)
        exact zEs_end rfl rfl (Or.inl ⟨_, ⟨_, rfl⟩, rfl⟩)
      · skip
        refine zEs_run 7 rfl ?_
        refine zEs_ci rfl rfl (x_25 4 12 11 rfl rfl hL) (fun E hE => by cases hE) (fun v9 => ?_)
        refine zEs_run 1 rfl ?_
        exact zEs_end rfl rfl (Or.inl ⟨_, ⟨_, rfl⟩, rfl⟩)
      · skip
        refine zEs_run 2 rfl ?_
        refine zEs_ci rfl rfl (k_99 hL) (fun E hE => by cases hE) (fun v10 => ?_)
        exact zEs_end rfl rfl (Or.inl ⟨_, ⟨_, rfl⟩, rfl⟩)
      · skip
        refine zEs_run 2 rfl ?_
        refine zEs_ci rfl rfl (k_100 hL) (fun E hE => by cases hE) (fun v11 => ?_)
        exact zEs_end rfl rfl (Or.inl ⟨_, ⟨_, rfl⟩, rfl⟩)
    · have z12_ := zF_lt_f gz11
      have y12_28 : ((Int8.ofInt 10).toInt32).toInt = 10 := by decide
      exfalso
      omega
theorem kn_70 (hL : zaL a) {x1 : Int32} {x2 : Int32} (hx1 : 0 ≤ x1.toInt ∧ x1.toInt ≤ 127) (hx2 : 0 ≤ x2.toInt ∧ x2.toInt ≤ 6) : zMs xs (D + 4) 70 [.ref 0, .int x1, .int x2] (zx s a T) nc ns (zPr zRi [] (zx s a T) nc ns) := by
  obtain ⟨hx1l, hx1u⟩ := hx1
  obtain ⟨hx2l, hx2u⟩ := hx2
  have hzz := zero_z
  refine ⟨_, rfl, ?_⟩
  refine zEs_run 1 rfl ?_
  refine zEs_cv rfl rfl (kn_82 hL ⟨by omega, by omega⟩) (fun E hE => by cases hE) ?_
  refine zEs_run 2 rfl ?_
  refine zEs_ci rfl rfl (k_91 hL) (fun E hE => by cases hE) (fun v2 => ?_)
  refine zEs_run 2 rfl ?_
  refine zEs_tabN [52, 58, 71, 80, 89, 101, 116] rfl (by decide) (by decide) (by omega) (by omega) (List.forall_mem_cons.mpr ⟨?_, List.forall_mem_cons.mpr ⟨?_, List.forall_mem_cons.mpr ⟨?_, List.forall_mem_cons.mpr ⟨?_, List.forall_mem_cons.mpr ⟨?_, List.forall_mem_cons.mpr ⟨?_, List.forall_mem_cons.mpr ⟨?_, fun _ h => absurd h List.not_mem_nil⟩⟩⟩⟩⟩⟩⟩)
  · skip
    refine zEs_run 2 rfl ?_
    refine zEs_ci rfl rfl (k_92 hL) (fun E hE => by cases hE) (fun v3 => ?_)
    exact zEs_end rfl rfl (Or.inl ⟨_, ⟨_, rfl⟩, rfl⟩)
  · skip
    refine zEs_run 4 rfl ?_
    refine zEs_ci rfl rfl (k_92 hL) (fun E hE => by cases hE) (fun v4 => ?_)
    refine zEs_ci rfl rfl (k_11 hL) (fun E hE => by cases hE) (fun v5 => ?_)
    exact zEs_end rfl rfl (Or.inl ⟨_, ⟨_, rfl⟩, rfl⟩)
  · skip
    refine zEs_run 3 rfl ?_
    refine zEs_ci rfl rfl (x_25 17 41 40 rfl rfl hL) (fun E hE => by cases hE) (fun v6 => ?_)
    exact zEs_end rfl rfl (Or.inl ⟨_, ⟨_, rfl⟩, rfl⟩)
  · skip
    refine zEs_run 3 rfl ?_
    refine zEs_ci rfl rfl (x_25 18 43 42 rfl rfl hL) (fun E hE => by cases hE) (fun v7 => ?_)
    exact zEs_end rfl rfl (Or.inl ⟨_, ⟨_, rfl⟩, rfl⟩)
  · skip
    refine zEs_run 5 rfl ?_
    refine zEs_ci rfl rfl (x_25 15 37 36 rfl rfl hL) (fun E hE => by cases hE) (fun v8 => ?_)
    exact zEs_end rfl rfl (Or.inl ⟨_, ⟨_, rfl⟩, rfl⟩)
  · skip
    refine zEs_run 7 rfl ?_
    refine zEs_ci rfl rfl (k_23_15 hL) (fun E hE => by cases hE) (fun v9 => ?_)
    exact zEs_end rfl rfl (Or.inl ⟨_, ⟨_, rfl⟩, rfl⟩)
  · skip
    refine zEs_run 7 rfl ?_
    refine zEs_ci rfl rfl (k_23_22 hL) (fun E hE => by cases hE) (fun v10 => ?_)
    exact zEs_end rfl rfl (Or.inl ⟨_, ⟨_, rfl⟩, rfl⟩)
theorem kn_77 (hL : zaL a) {x1 : Int32} (hx1 : 0 ≤ x1.toInt ∧ x1.toInt ≤ 127) : zMs xs (D + 5) 77 [.ref 0, .int x1] (zx s a T) nc ns (zPr zRi [] (zx s a T) nc ns) := by
  obtain ⟨hx1l, hx1u⟩ := hx1
  have hzz := zero_z
  refine ⟨_, rfl, ?_⟩
  refine zEs_run 1 rfl ?_
  refine zEs_cv rfl rfl (kn_82 hL ⟨by omega, by omega⟩) (fun E hE => by cases hE) ?_
  refine zEs_run 2 rfl ?_
  refine zEs_cb rfl rfl (k_96 hL) (fun E hE => by cases hE) (fun v2 hb2 => ?_)
  refine zEs_if rfl (fun gz9 => ?_) (fun gz9 => ?_)
  · have z4_ := zF_eq_t gz9
    refine zEs_run 2 rfl ?_
    refine zEs_ci rfl rfl (k_97 hL) (fun E hE => by cases hE) (fun v5 => ?_)
    refine zEs_run 2 rfl ?_
    refine zEs_ci rfl rfl (k_89 hL) (fun E hE => by cases hE) (fun v6 => ?_)
    refine zEs_run 3 rfl ?_
    refine zEs_icmp rfl (fun gz28 => ?_) (fun gz28 => ?_)
    · have z8_ := zF_ne_t gz28
      have y8_3 : ((Int32.ofInt (-1))).toInt = -1 := by decide
      refine zEs_run 1 rfl ?_
      exact zEs_end rfl rfl (Or.inl ⟨_, ⟨_, rfl⟩, rfl⟩)
    · have z9_ := zF_ne_f gz28
      have y9_7 : ((Int32.ofInt (-1))).toInt = -1 := by decide
      refine zEs_run 2 rfl ?_
      refine zEs_if rfl (fun gz35 => ?_) (fun gz35 => ?_)
      · have z11_ := zF_eq_t gz35
        refine zEs_run 1 rfl ?_
        exact zEs_end rfl rfl (Or.inl ⟨_, ⟨_, rfl⟩, rfl⟩)
      · have z12_ := zF_eq_f gz35
        refine zEs_run 2 rfl ?_
        refine zEs_cb rfl rfl (k_96 hL) (fun E hE => by cases hE) (fun v13 hb13 => ?_)
        refine zEs_if rfl (fun gz43 => ?_) (fun gz43 => ?_)
        · have z15_ := zF_ne_t gz43
          refine zEs_run 1 rfl ?_
          exact zEs_end rfl rfl (Or.inl ⟨_, ⟨_, rfl⟩, rfl⟩)
        · have z16_ := zF_ne_f gz43
          refine zEs_run 2 rfl ?_
          refine zEs_ci rfl rfl (k_97 hL) (fun E hE => by cases hE) (fun v17 => ?_)
          refine zEs_run 2 rfl ?_
          exact zEs_end rfl rfl (Or.inl ⟨_, ⟨_, rfl⟩, rfl⟩)
  · have z18_ := zF_eq_f gz9
    refine zEs_run 1 rfl ?_
    exact zEs_end rfl rfl (Or.inl ⟨_, ⟨_, rfl⟩, rfl⟩)
theorem kn_72 (hL : zaL a) {x1 : Int32} {x2 : Int32} (hx1 : 0 ≤ x1.toInt ∧ x1.toInt < (s 11).toInt) (hx2 : 0 ≤ x2.toInt ∧ x2.toInt ≤ 2) : zMs xs (D + 1) 72 [.ref 0, .int x1, .int x2] (zx s a T) nc ns (zPr zRi [] (zx s a T) nc ns) := by
  obtain ⟨hx1l, hx1u⟩ := hx1
  obtain ⟨hx2l, hx2u⟩ := hx2
  have hzz := zero_z
  refine ⟨_, rfl, ?_⟩
  refine zEs_run 1 rfl ?_
  refine zEs_if rfl (fun gz1 => ?_) (fun gz1 => ?_)
  · have z2_ := zF_lt_t gz1
    exfalso
    omega
  · have z3_ := zF_lt_f gz1
    refine zEs_run 4 rfl ?_
    refine zEs_icmp rfl (fun gz12 => ?_) (fun gz12 => ?_)
    · have z5_ := zF_lt_t gz12
      refine zEs_run 1 rfl ?_
      refine zEs_tabN [52, 64, 76] rfl (by decide) (by decide) (by omega) (by omega) (List.forall_mem_cons.mpr ⟨?_, List.forall_mem_cons.mpr ⟨?_, List.forall_mem_cons.mpr ⟨?_, fun _ h => absurd h List.not_mem_nil⟩⟩⟩)
      · skip
        refine zEs_run 4 rfl ?_
        refine zEs_ci rfl rfl (x_25 12 31 30 rfl rfl hL) (fun E hE => by cases hE) (fun v6 => ?_)
        exact zEs_end rfl rfl (Or.inl ⟨_, ⟨_, rfl⟩, rfl⟩)
      · skip
        refine zEs_run 4 rfl ?_
        refine zEs_ci rfl rfl (x_25 13 33 32 rfl rfl hL) (fun E hE => by cases hE) (fun v7 => ?_)
        exact zEs_end rfl rfl (Or.inl ⟨_, ⟨_, rfl⟩, rfl⟩)
      · skip
        refine zEs_run 4 rfl ?_
        refine zEs_ci rfl rfl (x_25 14 35 34 rfl rfl hL) (fun E hE => by cases hE) (fun v8 => ?_)
        exact zEs_end rfl rfl (Or.inl ⟨_, ⟨_, rfl⟩, rfl⟩)
    · have z9_ := zF_lt_f gz12
      exfalso
      omega
end ZK
