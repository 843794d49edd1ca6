/-! digest of the reference: word for word. Written by wip/v3/gendig.py. -/
set_option maxRecDepth 20000
section ZRG
variable {S0 : zSt} {M : zRt} {X : zXt} {kq : Nat × Nat × List Value} {xs : List Int32} {N : Nat} {nc ns : Nat} {P : zO → Prop} {d0 : Int64}
def zmbd (M : zRt) (k : Nat) : Int32 := v171 (Int32.ofNat k) M
def zmc9 (M : zRt) (k : Nat) : Int32 := zgt M.2.2.2 (Int32.ofNat k)
def zmn9 (b : Int32) (M : zRt) (l w : Nat) : Int32 := v163 (b * (Int8.ofInt 10).toInt32 + Int32.ofNat l) (Int32.ofNat w) M
def zmbk (M : zRt) (b : Int32) : Int64 → Int64 := zbk (u169_1 b (Int32.ofInt 0) M) (u169_1 b (Int32.ofInt 1) M) (v179 b M) (v173 b M) (zmn9 b M)
def zmB (M : zRt) (k : Nat) : Int64 → Int64 := zmbk M (Int32.ofNat k)
def zmw (w : Int32) (M : zRt) (k : Nat) : Int32 := v159 (Int32.ofNat k) w M
def zmrd (M : zRt) (k : Nat) : Int32 := v177 (Int32.ofNat k) M
def zmE (M : zRt) (e w : Nat) : Int32 := zgt ((M.2.2.1 2).getD (Int32.toNatClampNeg (Int32.ofNat e)) []) (Int32.ofNat w)
def V188 (M : zRt) : Int64 := zdgv (zmbd M) (zmc9 M) (Int32.ofNat M.2.2.2.length).toInt.toNat (v156 (Int32.ofInt 2) M) (v156 (Int32.ofInt 3) M) (zmB M) (zmw (Int32.ofInt 0) M) (zmw (Int32.ofInt 2) M) (zmrd M) (zmE M) (Int32.ofNat (M.2.2.1 2).length).toInt.toNat (v183 z20 M) (if v186 M = ((0 : Int32)) then (Int32.ofInt 0).toInt64 else (Int32.ofInt 1).toInt64)

theorem l188a {N0 : Nat} (K : ∀ (X : zXt) (nc ns : Nat), zUX kq X M.2.2 → zpE xs N0 188 36 [some (.ref 44), some (.long (zD1 (zmbd M) 18 d0)), none, some (.int (Int32.ofNat 18)), none, none, none] [] (zy S0 M X) nc ns P) : ∀ (N k : Nat) (X : zXt) (nc ns : Nat), N ≤ N0 → k ≤ 18 → zUX kq X M.2.2 → zpE xs N 188 11 [some (.ref 44), some (.long (zD1 (zmbd M) k d0)), none, some (.int (Int32.ofNat k)), none, none, none] [] (zy S0 M X) nc ns P
  | 0, _, _, _, _, _, _, _ => zpE_0
  | N + 1, k, X, nc, ns, hN, hk, hX => by
    refine zpE_run1 1 (L' := [some (.ref 44), some (.long (zD1 (zmbd M) k d0)), none, some (.int (Int32.ofNat k)), none, none, none]) (st' := [.int ((Int8.ofInt 17).toInt32), .int (Int32.ofNat k)]) rfl ?_
    have e17 : ((Int8.ofInt 17).toInt32).toInt = 17 := by decide
    refine zpE_icmp rfl (fun q => ?_) (fun q => ?_)
    · have z := zF_gt_t q
      rw [e17, zofI (by omega)] at z
      obtain rfl : k = 18 := by omega
      exact zpE_le (by omega) (K _ _ _ hX)
    · have z := zF_gt_f q
      rw [e17, zofI (by omega)] at z
      refine zpE_run 5 (L' := [some (.ref 44), some (.long (zD1 (zmbd M) k d0)), none, some (.int (Int32.ofNat k)), none, none, none]) (st' := [.int (Int32.ofNat k), .ref 44, .long (zD1 (zmbd M) k d0 * Int64.ofNat 31)]) rfl ?_
      refine zpE_call rfl rfl (f_171 (M := M) (x1 := Int32.ofNat k) hX) (fun v hh nc1 ns1 q8 => ?_) (fun E hh nc1 ns1 q8 => by obtain ⟨_, _, q8, _⟩ := q8; cases q8)
      obtain ⟨X2, hX2, q8, q9⟩ := q8
      cases q8
      cases q9
      refine zpE_run 5 (L' := [some (.ref 44), some (.long (zmx (zD1 (zmbd M) k d0) (zmbd M k).toInt64)), none, some (.int (Int32.ofNat k + Int32.ofInt 1)), none, none, none]) (st' := []) rfl ?_
      have G := fun nc ns => l188a K N (k + 1) X2 nc ns (by omega) (by omega) hX2
      rw [← zof1] at G
      exact G _ _
theorem l188b {N0 : Nat} (hX : zUX kq X M.2.2) (K : ∀ (o6 : Option Value) (nc ns : Nat), zpE xs N0 188 77 [some (.ref 44), some (.long (zD1 (zmc9 M) (Int32.ofNat M.2.2.2.length).toInt.toNat d0)), none, some (.ref (X.1 9)), some (.int (Int32.ofNat M.2.2.2.length)), some (.int (Int32.ofNat (Int32.ofNat M.2.2.2.length).toInt.toNat)), o6] [] (zy S0 M X) nc ns P) : ∀ (N k : Nat) (o6 : Option Value) (nc ns : Nat), N ≤ N0 → k ≤ (Int32.ofNat M.2.2.2.length).toInt.toNat → zpE xs N 188 48 [some (.ref 44), some (.long (zD1 (zmc9 M) k d0)), none, some (.ref (X.1 9)), some (.int (Int32.ofNat M.2.2.2.length)), some (.int (Int32.ofNat k)), o6] [] (zy S0 M X) nc ns P
  | 0, _, _, _, _, _, _ => zpE_0
  | N + 1, k, o6, nc, ns, hN, hk => by
    refine zpE_run1 1 (L' := [some (.ref 44), some (.long (zD1 (zmc9 M) k d0)), none, some (.ref (X.1 9)), some (.int (Int32.ofNat M.2.2.2.length)), some (.int (Int32.ofNat k)), o6]) (st' := [.int (Int32.ofNat M.2.2.2.length), .int (Int32.ofNat k)]) rfl ?_
    refine zpE_icmp rfl (fun q => ?_) (fun q => ?_)
    · have e := zlp_out (Int.not_lt.mpr (zF_ge_t q)) hk
      rw [e]
      exact zpE_le (by omega) (K _ _ _)
    · have hk2 := zlp_in (zF_ge_f q) hk
      refine zpE_run 2 (L' := [some (.ref 44), some (.long (zD1 (zmc9 M) k d0)), none, some (.ref (X.1 9)), some (.int (Int32.ofNat M.2.2.2.length)), some (.int (Int32.ofNat k)), o6]) (st' := [.int (Int32.ofNat k), .ref (X.1 9)]) rfl ?_
      refine zpE_aly rfl (zUX_c hX) (fun _ _ => ?_)
      refine zpE_gen (fun nc ns => ?_)
      refine zpE_run 10 (L' := [some (.ref 44), some (.long (zmx (zD1 (zmc9 M) k d0) (zmc9 M k).toInt64)), none, some (.ref (X.1 9)), some (.int (Int32.ofNat M.2.2.2.length)), some (.int (Int32.ofNat k + Int32.ofInt 1)), some (.int (zmc9 M k))]) (st' := []) rfl ?_
      have G := fun o6 nc ns => l188b hX K N (k + 1) o6 nc ns (by omega) hk2
      rw [← zof1] at G
      exact G _ _ _
theorem l188i {b : Int32} {l N0 : Nat} {o6 : Option Value} (hX : zUX kq X M.2.2) (K : ∀ (nc ns : Nat), zpE xs N0 188 214 [some (.ref 44), some (.long (zD1 (zmn9 b M l) 5 d0)), none, some (.int (b)), some (.int (Int32.ofNat l)), some (.int (Int32.ofNat 5)), o6] [] (zy S0 M X) nc ns P) : ∀ (N k nc ns : Nat), N ≤ N0 → k ≤ 5 → zpE xs N 188 181 [some (.ref 44), some (.long (zD1 (zmn9 b M l) k d0)), none, some (.int (b)), some (.int (Int32.ofNat l)), some (.int (Int32.ofNat k)), o6] [] (zy S0 M X) nc ns P
  | 0, _, _, _, _, _ => zpE_0
  | N + 1, k, nc, ns, hN, hk => by
    refine zpE_run1 1 (L' := [some (.ref 44), some (.long (zD1 (zmn9 b M l) k d0)), none, some (.int (b)), some (.int (Int32.ofNat l)), some (.int (Int32.ofNat k)), o6]) (st' := [.int (Int32.ofInt 4), .int (Int32.ofNat k)]) rfl ?_
    have e4 : (Int32.ofInt 4).toInt = 4 := by decide
    refine zpE_icmp rfl (fun q => ?_) (fun q => ?_)
    · have z := zF_gt_t q
      rw [e4, zofI (by omega)] at z
      obtain rfl : k = 5 := by omega
      exact zpE_le (by omega) (K _ _)
    · have z := zF_gt_f q
      rw [e4, zofI (by omega)] at z
      refine zpE_run 10 (L' := [some (.ref 44), some (.long (zD1 (zmn9 b M l) k d0)), none, some (.int (b)), some (.int (Int32.ofNat l)), some (.int (Int32.ofNat k)), o6]) (st' := [.int (Int32.ofNat k), .int (b * (Int8.ofInt 10).toInt32 + Int32.ofNat l), .ref 44, .long (zD1 (zmn9 b M l) k d0 * Int64.ofNat 31)]) rfl ?_
      refine zpE_call rfl rfl (f_163 (M := M) (x1 := b * (Int8.ofInt 10).toInt32 + Int32.ofNat l) (x2 := Int32.ofNat k) hX) (fun v hh nc1 ns1 q8 => ?_) (fun E hh nc1 ns1 q8 => by cases q8.1)
      obtain ⟨q8, q9⟩ := q8
      cases q8
      cases q9
      refine zpE_run 5 (L' := [some (.ref 44), some (.long (zmx (zD1 (zmn9 b M l) k d0) (zmn9 b M l k).toInt64)), none, some (.int (b)), some (.int (Int32.ofNat l)), some (.int (Int32.ofNat k + Int32.ofInt 1)), o6]) (st' := []) rfl ?_
      have G := fun nc ns => l188i hX K N (k + 1) nc ns (by omega) (by omega)
      rw [← zof1] at G
      exact G _ _
theorem l188o {b : Int32} {N0 : Nat} {o6 : Option Value} (hX : zUX kq X M.2.2) (K : ∀ (o5 : Option Value) (nc ns : Nat), zpE xs N0 188 220 [some (.ref 44), some (.long (zD2 (zmn9 b M) 5 10 d0)), none, some (.int (b)), some (.int (Int32.ofNat 10)), o5, o6] [] (zy S0 M X) nc ns P) : ∀ (N k : Nat) (o5 : Option Value) (nc ns : Nat), N ≤ N0 → k ≤ 10 → zpE xs N 188 171 [some (.ref 44), some (.long (zD2 (zmn9 b M) 5 k d0)), none, some (.int (b)), some (.int (Int32.ofNat k)), o5, o6] [] (zy S0 M X) nc ns P
  | 0, _, _, _, _, _, _ => zpE_0
  | N + 1, k, o5, nc, ns, hN, hk => by
    refine zpE_run1 1 (L' := [some (.ref 44), some (.long (zD2 (zmn9 b M) 5 k d0)), none, some (.int (b)), some (.int (Int32.ofNat k)), o5, o6]) (st' := [.int ((Int8.ofInt 10).toInt32), .int (Int32.ofNat k)]) rfl ?_
    refine zpE_icmp rfl (fun q => ?_) (fun q => ?_)
    · obtain rfl := zk_out (n := 10) (by decide) (by decide) hk (zF_ge_t q)
      exact zpE_le (by omega) (K _ _ _)
    · have hk2 := zk_in (n := 10) (by decide) (by decide) hk (zF_ge_f q)
      refine zpE_run 2 (L' := [some (.ref 44), some (.long (zD2 (zmn9 b M) 5 k d0)), none, some (.int (b)), some (.int (Int32.ofNat k)), some (.int (Int32.ofNat 0)), o6]) (st' := []) rfl ?_
      refine l188i (N0 := N) (l := k) (d0 := zD2 (zmn9 b M) 5 k d0) hX (fun nc ns => ?_) N 0 _ _ (Nat.le_refl _) (Nat.zero_le _)
      refine zpE_run 2 (L' := [some (.ref 44), some (.long (zD1 (zmn9 b M k) 5 (zD2 (zmn9 b M) 5 k d0))), none, some (.int (b)), some (.int (Int32.ofNat k + Int32.ofInt 1)), some (.int (Int32.ofNat 5)), o6]) (st' := []) rfl ?_
      have G := fun o5 nc ns => l188o hX K N (k + 1) o5 nc ns (by omega) hk2
      rw [← zof1] at G
      exact G _ _ _
theorem l188c {N0 : Nat} {o6 : Option Value} (hX : zUX kq X M.2.2) (K : ∀ (o4 o5 : Option Value) (nc ns : Nat), zpE xs N0 188 226 [some (.ref 44), some (.long (zDB (zmB M) 2 d0)), none, some (.int (Int32.ofNat 2)), o4, o5, o6] [] (zy S0 M X) nc ns P) : ∀ (N k : Nat) (o4 o5 : Option Value) (nc ns : Nat), N ≤ N0 → k ≤ 2 → zpE xs N 188 105 [some (.ref 44), some (.long (zDB (zmB M) k d0)), none, some (.int (Int32.ofNat k)), o4, o5, o6] [] (zy S0 M X) nc ns P
  | 0, _, _, _, _, _, _, _ => zpE_0
  | N + 1, k, o4, o5, nc, ns, hN, hk => by
    refine zpE_run1 1 (L' := [some (.ref 44), some (.long (zDB (zmB M) k d0)), none, some (.int (Int32.ofNat k)), o4, o5, o6]) (st' := [.int (Int32.ofInt 2), .int (Int32.ofNat k)]) rfl ?_
    refine zpE_icmp rfl (fun q => ?_) (fun q => ?_)
    · obtain rfl := zk_out (n := 2) (by decide) (by decide) hk (zF_ge_t q)
      exact zpE_le (by omega) (K _ _ _ _)
    · have hk2 := zk_in (n := 2) (by decide) (by decide) hk (zF_ge_f q)
      have hb : ¬ v112 (Int32.ofNat k) (Int32.ofInt 0) (Int32.ofInt 1) M = 0 := fun z => v112_1.mp z (by
        rw [zofI (by omega), show (Int32.ofInt 0).toInt = 0 by decide, show (Int32.ofInt 1).toInt = 1 by decide]
        omega)
      have G := fun o4 o5 nc ns => l188c hX K N (k + 1) o4 o5 nc ns (by omega) hk2
      have eG : zDB (zmB M) (k + 1) d0 = zmbk M (Int32.ofNat k) (zDB (zmB M) k d0) := rfl
      rw [← zof1, eG] at G
      generalize zDB (zmB M) k d0 = u at G ⊢
      refine zpE_run 6 (L' := [some (.ref 44), some (.long (u)), none, some (.int (Int32.ofNat k)), o4, o5, o6]) (st' := [.int (Int32.ofInt 0), .int (Int32.ofNat k), .ref 44, .long (u * Int64.ofNat 31)]) rfl ?_
      refine zpE_call rfl rfl (f_169 (M := M) (x1 := Int32.ofNat k) (x2 := Int32.ofInt 0) hX) (fun v hh nc1 ns1 q8 => ?_) (fun E hh nc1 ns1 q8 => by cases q8.1)
      obtain ⟨q8, q9⟩ := q8
      cases q8
      cases q9
      refine zpE_run 3 (L' := [some (.ref 44), some (.long (zmx (u) ((u169_1 (Int32.ofNat k) (Int32.ofInt 0) M).toInt64))), none, some (.int (Int32.ofNat k)), o4, o5, o6]) (st' := []) rfl ?_
      obtain ⟨u1, hu1⟩ : ∃ z, z = zmx (u) ((u169_1 (Int32.ofNat k) (Int32.ofInt 0) M).toInt64) := ⟨_, rfl⟩
      rw [← hu1]
      refine zpE_run 6 (L' := [some (.ref 44), some (.long (u1)), none, some (.int (Int32.ofNat k)), o4, o5, o6]) (st' := [.int (Int32.ofInt 1), .int (Int32.ofNat k), .ref 44, .long (u1 * Int64.ofNat 31)]) rfl ?_
      refine zpE_call rfl rfl (f_169 (M := M) (x1 := Int32.ofNat k) (x2 := Int32.ofInt 1) hX) (fun v hh nc1 ns1 q8 => ?_) (fun E hh nc1 ns1 q8 => by cases q8.1)
      obtain ⟨q8, q9⟩ := q8
      cases q8
      cases q9
      refine zpE_run 3 (L' := [some (.ref 44), some (.long (zmx (u1) ((u169_1 (Int32.ofNat k) (Int32.ofInt 1) M).toInt64))), none, some (.int (Int32.ofNat k)), o4, o5, o6]) (st' := []) rfl ?_
      obtain ⟨u2, hu2⟩ : ∃ z, z = zmx (u1) ((u169_1 (Int32.ofNat k) (Int32.ofInt 1) M).toInt64) := ⟨_, rfl⟩
      rw [← hu2]
      refine zpE_run 5 (L' := [some (.ref 44), some (.long (u2)), none, some (.int (Int32.ofNat k)), o4, o5, o6]) (st' := [.int (Int32.ofNat k), .ref 44, .long (u2 * Int64.ofNat 31)]) rfl ?_
      refine zpE_call rfl rfl (f_179 (M := M) (x1 := Int32.ofNat k) hX) (fun v hh nc1 ns1 q8 => ?_) (fun E hh nc1 ns1 q8 => by cases q8.1)
      obtain ⟨q8, q9⟩ := q8
      cases q8
      cases q9
      refine zpE_run 3 (L' := [some (.ref 44), some (.long (zmx (u2) ((v179 (Int32.ofNat k) M).toInt64))), none, some (.int (Int32.ofNat k)), o4, o5, o6]) (st' := []) rfl ?_
      obtain ⟨u3, hu3⟩ : ∃ z, z = zmx (u2) ((v179 (Int32.ofNat k) M).toInt64) := ⟨_, rfl⟩
      rw [← hu3]
      refine zpE_run 6 (L' := [some (.ref 44), some (.long (u3)), none, some (.int (Int32.ofNat k)), o4, o5, o6]) (st' := [.int (Int32.ofNat k), .ref 44, .double (UInt64.ofNat 4634204016564240384), .long (u3 * Int64.ofNat 31)]) rfl ?_
      refine zpE_call rfl rfl (f_173 (M := M) (x1 := Int32.ofNat k) hb hX) (fun v hh nc1 ns1 q8 => ?_) (fun E hh nc1 ns1 q8 => by cases q8.1)
      obtain ⟨q8, q9⟩ := q8
      cases q8
      cases q9
      refine zpE_dmul rfl ?_
      refine zpE_run 5 (L' := [some (.ref 44), some (.long (zmx (u3) (FP.d2l (FP.dmul (UInt64.ofNat 4634204016564240384) (v173 (Int32.ofNat k) M))))), none, some (.int (Int32.ofNat k)), some (.int (Int32.ofNat 0)), o5, o6]) (st' := []) rfl ?_
      obtain ⟨u4, hu4⟩ : ∃ z, z = zmx (u3) (FP.d2l (FP.dmul (UInt64.ofNat 4634204016564240384) (v173 (Int32.ofNat k) M))) := ⟨_, rfl⟩
      rw [← hu4]
      have ev : zmbk M (Int32.ofNat k) u = zD2 (zmn9 (Int32.ofNat k) M) 5 10 u4 := by
        rw [hu4, hu3, hu2, hu1]
        rfl
      rw [ev] at G
      refine l188o (N0 := N) (b := Int32.ofNat k) (d0 := u4) hX (fun o5 nc ns => ?_) N 0 _ _ _ (Nat.le_refl _) (Nat.zero_le _)
      refine zpE_run 2 (L' := [some (.ref 44), some (.long (zD2 (zmn9 (Int32.ofNat k) M) 5 10 u4)), none, some (.int (Int32.ofNat k + Int32.ofInt 1)), some (.int (Int32.ofNat 10)), o5, o6]) (st' := []) rfl ?_
      exact G _ _ _ _
theorem l188d {N0 : Nat} {o4 o5 o6 : Option Value} (hX : zUX kq X M.2.2) (K : ∀ (nc ns : Nat), zpE xs N0 188 282 [some (.ref 44), some (.long (zD3 (zmw (Int32.ofInt 0) M) (zmw (Int32.ofInt 2) M) (zmrd M) 128 d0)), none, some (.int (Int32.ofNat 128)), o4, o5, o6] [] (zy S0 M X) nc ns P) : ∀ (N k nc ns : Nat), N ≤ N0 → k ≤ 128 → zpE xs N 188 228 [some (.ref 44), some (.long (zD3 (zmw (Int32.ofInt 0) M) (zmw (Int32.ofInt 2) M) (zmrd M) k d0)), none, some (.int (Int32.ofNat k)), o4, o5, o6] [] (zy S0 M X) nc ns P
  | 0, _, _, _, _, _ => zpE_0
  | N + 1, k, nc, ns, hN, hk => by
    refine zpE_run1 1 (L' := [some (.ref 44), some (.long (zD3 (zmw (Int32.ofInt 0) M) (zmw (Int32.ofInt 2) M) (zmrd M) k d0)), none, some (.int (Int32.ofNat k)), o4, o5, o6]) (st' := [.int ((Int16.ofInt 128).toInt32), .int (Int32.ofNat k)]) rfl ?_
    refine zpE_icmp rfl (fun q => ?_) (fun q => ?_)
    · obtain rfl := zk_out (n := 128) (by decide) (by decide) hk (zF_ge_t q)
      exact zpE_le (by omega) (K _ _)
    · have hk2 := zk_in (n := 128) (by decide) (by decide) hk (zF_ge_f q)
      have G := fun nc ns => l188d hX K N (k + 1) nc ns (by omega) hk2
      have eG : zD3 (zmw (Int32.ofInt 0) M) (zmw (Int32.ofInt 2) M) (zmrd M) (k + 1) d0 = zmx (zmx (zmx (zD3 (zmw (Int32.ofInt 0) M) (zmw (Int32.ofInt 2) M) (zmrd M) k d0) (zmw (Int32.ofInt 0) M k).toInt64) (zmw (Int32.ofInt 2) M k).toInt64) (zmrd M k).toInt64 := rfl
      rw [← zof1, eG] at G
      generalize zD3 (zmw (Int32.ofInt 0) M) (zmw (Int32.ofInt 2) M) (zmrd M) k d0 = u at G ⊢
      refine zpE_run 6 (L' := [some (.ref 44), some (.long (u)), none, some (.int (Int32.ofNat k)), o4, o5, o6]) (st' := [.int (Int32.ofInt 0), .int (Int32.ofNat k), .ref 44, .long (u * Int64.ofNat 31)]) rfl ?_
      refine zpE_call rfl rfl (f_159 (M := M) (x1 := Int32.ofNat k) (x2 := Int32.ofInt 0) hX) (fun v hh nc1 ns1 q8 => ?_) (fun E hh nc1 ns1 q8 => by cases q8.1)
      obtain ⟨q8, q9⟩ := q8
      cases q8
      cases q9
      refine zpE_run 3 (L' := [some (.ref 44), some (.long (zmx (u) ((zmw (Int32.ofInt 0) M k).toInt64))), none, some (.int (Int32.ofNat k)), o4, o5, o6]) (st' := []) rfl ?_
      obtain ⟨u1, hu1⟩ : ∃ z, z = zmx (u) ((zmw (Int32.ofInt 0) M k).toInt64) := ⟨_, rfl⟩
      rw [← hu1]
      refine zpE_run 6 (L' := [some (.ref 44), some (.long (u1)), none, some (.int (Int32.ofNat k)), o4, o5, o6]) (st' := [.int (Int32.ofInt 2), .int (Int32.ofNat k), .ref 44, .long (u1 * Int64.ofNat 31)]) rfl ?_
      refine zpE_call rfl rfl (f_159 (M := M) (x1 := Int32.ofNat k) (x2 := Int32.ofInt 2) hX) (fun v hh nc1 ns1 q8 => ?_) (fun E hh nc1 ns1 q8 => by cases q8.1)
      obtain ⟨q8, q9⟩ := q8
      cases q8
      cases q9
      refine zpE_run 3 (L' := [some (.ref 44), some (.long (zmx (u1) ((zmw (Int32.ofInt 2) M k).toInt64))), none, some (.int (Int32.ofNat k)), o4, o5, o6]) (st' := []) rfl ?_
      obtain ⟨u2, hu2⟩ : ∃ z, z = zmx (u1) ((zmw (Int32.ofInt 2) M k).toInt64) := ⟨_, rfl⟩
      rw [← hu2]
      refine zpE_run 5 (L' := [some (.ref 44), some (.long (u2)), none, some (.int (Int32.ofNat k)), o4, o5, o6]) (st' := [.int (Int32.ofNat k), .ref 44, .long (u2 * Int64.ofNat 31)]) rfl ?_
      refine zpE_call rfl rfl (f_177 (M := M) (x1 := Int32.ofNat k) hX) (fun v hh nc1 ns1 q8 => ?_) (fun E hh nc1 ns1 q8 => by cases q8.1)
      obtain ⟨q8, q9⟩ := q8
      cases q8
      cases q9
      refine zpE_run 5 (L' := [some (.ref 44), some (.long (zmx u2 (zmrd M k).toInt64)), none, some (.int (Int32.ofNat k + Int32.ofInt 1)), o4, o5, o6]) (st' := []) rfl ?_
      rw [← hu1, ← hu2] at G
      exact G _ _
theorem l188f {l N0 : Nat} {o5 o6 : Option Value} (hX : zUX kq X M.2.2) (hl : ¬ Int32.ofNat l < 0 ∧ (Int32.toNatClampNeg (Int32.ofNat l)) < (M.2.2.1 2).length) (K : ∀ (nc ns : Nat), zpE xs N0 188 336 [some (.ref 44), some (.long (zD1 (zmE M l) 3 d0)), none, some (.int (Int32.ofNat l)), some (.int (Int32.ofNat 3)), o5, o6] [] (zy S0 M X) nc ns P) : ∀ (N k nc ns : Nat), N ≤ N0 → k ≤ 3 → zpE xs N 188 300 [some (.ref 44), some (.long (zD1 (zmE M l) k d0)), none, some (.int (Int32.ofNat l)), some (.int (Int32.ofNat k)), o5, o6] [] (zy S0 M X) nc ns P
  | 0, _, _, _, _, _ => zpE_0
  | N + 1, k, nc, ns, hN, hk => by
    refine zpE_run1 1 (L' := [some (.ref 44), some (.long (zD1 (zmE M l) k d0)), none, some (.int (Int32.ofNat l)), some (.int (Int32.ofNat k)), o5, o6]) (st' := [.int (Int32.ofInt 2), .int (Int32.ofNat k)]) rfl ?_
    have e2 : (Int32.ofInt 2).toInt = 2 := by decide
    refine zpE_icmp rfl (fun q => ?_) (fun q => ?_)
    · have z := zF_gt_t q
      rw [e2, zofI (by omega)] at z
      obtain rfl : k = 3 := by omega
      exact zpE_le (by omega) (K _ _)
    · have z := zF_gt_f q
      rw [e2, zofI (by omega)] at z
      refine zpE_run 6 (L' := [some (.ref 44), some (.long (zD1 (zmE M l) k d0)), none, some (.int (Int32.ofNat l)), some (.int (Int32.ofNat k)), o5, o6]) (st' := [.int (Int32.ofNat l), .ref (X.1 2), .long (zD1 (zmE M l) k d0 * Int64.ofNat 31)]) rfl ?_
      obtain ⟨vs3, lc3⟩ := zUX_lc (S0 := S0) (M := M) (i := 2) (by decide) hX
      refine zpE_call rfl (show zcallV 1 10 239 321 (.int (Int32.ofNat l) :: .ref (X.1 2) :: _) (zy S0 M X) = _ from zcallV_eq rfl lc3 (Nat.le_of_ble_eq_true rfl)) (zul_239 (i := 2) (j := Int32.ofNat l) (by decide) hX hl) (fun v hh nc1 ns1 q8 => ?_) (fun E hh nc1 ns1 q8 => by cases q8)
      cases q8
      refine zpE_chk rfl (zUX_e hX hl) ?_
      refine zpE_run 1 (L' := [some (.ref 44), some (.long (zD1 (zmE M l) k d0)), none, some (.int (Int32.ofNat l)), some (.int (Int32.ofNat k)), o5, o6]) (st' := [.int (Int32.ofNat k), .ref (zel X 2 (Int32.ofNat l)), .long (zD1 (zmE M l) k d0 * Int64.ofNat 31)]) rfl ?_
      refine zpE_aly rfl (zUX_e hX hl) (fun _ _ => ?_)
      refine zpE_gen (fun nc ns => ?_)
      refine zpE_run 5 (L' := [some (.ref 44), some (.long (zmx (zD1 (zmE M l) k d0) (zmE M l k).toInt64)), none, some (.int (Int32.ofNat l)), some (.int (Int32.ofNat k + Int32.ofInt 1)), o5, o6]) (st' := []) rfl ?_
      have G := fun nc ns => l188f hX hl K N (k + 1) nc ns (by omega) (by omega)
      rw [← zof1] at G
      exact G _ _
theorem l188e {N0 : Nat} {o5 o6 : Option Value} (hX : zUX kq X M.2.2) (K : ∀ (o4 : Option Value) (nc ns : Nat), zpE xs N0 188 342 [some (.ref 44), some (.long (zD2 (zmE M) 3 (Int32.ofNat (M.2.2.1 2).length).toInt.toNat d0)), none, some (.int (Int32.ofNat (Int32.ofNat (M.2.2.1 2).length).toInt.toNat)), o4, o5, o6] [] (zy S0 M X) nc ns P) : ∀ (N k : Nat) (o4 : Option Value) (nc ns : Nat), N ≤ N0 → k ≤ (Int32.ofNat (M.2.2.1 2).length).toInt.toNat → zpE xs N 188 284 [some (.ref 44), some (.long (zD2 (zmE M) 3 k d0)), none, some (.int (Int32.ofNat k)), o4, o5, o6] [] (zy S0 M X) nc ns P
  | 0, _, _, _, _, _, _ => zpE_0
  | N + 1, k, o4, nc, ns, hN, hk => by
    refine zpE_run1 2 (L' := [some (.ref 44), some (.long (zD2 (zmE M) 3 k d0)), none, some (.int (Int32.ofNat k)), o4, o5, o6]) (st' := [.ref (X.1 2), .int (Int32.ofNat k)]) rfl ?_
    obtain ⟨vs1, lc1⟩ := zUX_lc (S0 := S0) (M := M) (i := 2) (by decide) hX
    refine zpE_call rfl (show zcallV 0 10 243 294 (.ref (X.1 2) :: _) (zy S0 M X) = _ from zcallV_eq rfl lc1 (Nat.le_of_ble_eq_true rfl)) (zul_243 (i := 2) (by decide) hX) (fun v hh nc1 ns1 q8 => ?_) (fun E hh nc1 ns1 q8 => by cases q8)
    cases q8
    refine zpE_icmp rfl (fun q => ?_) (fun q => ?_)
    · have e := zlp_out (Int.not_lt.mpr (zF_ge_t q)) hk
      rw [e]
      exact zpE_le (by omega) (K _ _ _)
    · have hl := zlp_rg (i := 2) (by decide) hX (zF_ge_f q) hk
      have hk2 := zlp_in (zF_ge_f q) hk
      refine zpE_run 2 (L' := [some (.ref 44), some (.long (zD2 (zmE M) 3 k d0)), none, some (.int (Int32.ofNat k)), some (.int (Int32.ofNat 0)), o5, o6]) (st' := []) rfl ?_
      refine l188f (N0 := N) (l := k) (d0 := zD2 (zmE M) 3 k d0) hX hl (fun nc ns => ?_) N 0 _ _ (Nat.le_refl _) (Nat.zero_le _)
      refine zpE_run 2 (L' := [some (.ref 44), some (.long (zD1 (zmE M k) 3 (zD2 (zmE M) 3 k d0))), none, some (.int (Int32.ofNat k + Int32.ofInt 1)), some (.int (Int32.ofNat 3)), o5, o6]) (st' := []) rfl ?_
      have G := fun o4 nc ns => l188e hX K N (k + 1) o4 nc ns (by omega) hk2
      rw [← zof1] at G
      exact G _ _ _
def zMg (v : Int64) (S0 : zSt) (M : zRt) (kq : Nat × Nat × List Value) : zO → Prop := fun o => o.1 = .inl (some (.long v)) ∧ ∃ X, zUX kq X M.2.2 ∧ o.2.1 = zy S0 M X
theorem l188g {o3 o4 o5 o6 : Option Value} (hX : zUX kq X M.2.2) (hs : 0 ≤ (M.1 4).toInt ∧ (M.1 4).toInt ≤ 5000) : zpE xs N 188 342 [some (.ref 44), some (.long (d0)), none, o3, o4, o5, o6] [] (zy S0 M X) nc ns (zMg (zmx (zmx d0 (v183 z20 M).toInt64) (if v186 M = ((0 : Int32)) then (Int32.ofInt 0).toInt64 else (Int32.ofInt 1).toInt64)) S0 M kq) := by
  refine zpE_run 5 (L' := [some (.ref 44), some (.long (d0)), none, o3, o4, o5, o6]) (st' := [.int z20, .ref 44, .long (d0 * Int64.ofNat 31)]) rfl ?_
  refine zpE_call rfl rfl (f_183 (M := M) (x1 := z20) hX hs ⟨by decide, by decide⟩) (fun v hh nc1 ns1 q8 => ?_) (fun E hh nc1 ns1 q8 => by cases q8.1)
  obtain ⟨q8, q9⟩ := q8
  cases q8
  cases q9
  refine zpE_run 7 (L' := [some (.ref 44), some (.long (zmx d0 (v183 z20 M).toInt64)), none, o3, o4, o5, o6]) (st' := [.ref 44, .long ((zmx d0 (v183 z20 M).toInt64) * Int64.ofNat 31)]) rfl ?_
  obtain ⟨d1, h1⟩ : ∃ z, z = zmx d0 (v183 z20 M).toInt64 := ⟨_, rfl⟩
  rw [← h1]
  refine zpE_call rfl rfl (f_186 (M := M) hX) (fun v hh nc1 ns1 q8 => ?_) (fun E hh nc1 ns1 q8 => by cases q8.1)
  obtain ⟨q8, q9⟩ := q8
  cases q8
  cases q9
  refine zpE_if rfl (fun q => ?_) (fun q => ?_)
  · rw [if_pos (zF_e1 q)]
    refine zpE_run 3 (st' := [.long (zmx d1 (Int32.ofInt 0).toInt64)]) rfl ?_
    exact zpE_end rfl rfl ⟨rfl, X, hX, rfl⟩
  · rw [if_neg (zF_e0 q)]
    refine zpE_run 4 (st' := [.long (zmx d1 (Int32.ofInt 1).toInt64)]) rfl ?_
    exact zpE_end rfl rfl ⟨rfl, X, hX, rfl⟩
theorem f_188w (hX : zUX kq X M.2.2) (hs : 0 ≤ (M.1 4).toInt ∧ (M.1 4).toInt ≤ 5000) : zpE xs N 188 11 [some (.ref 44), some (.long (Int64.ofNat 58281)), none, some (.int (Int32.ofNat 0)), none, none, none] [] (zy S0 M X) nc ns (zMg (V188 M) S0 M kq) := by
  refine l188a (N0 := N) (d0 := Int64.ofNat 58281) (fun X nc ns hX => ?_) N 0 X _ _ (Nat.le_refl _) (Nat.zero_le _) hX
  obtain ⟨d1, h1⟩ : ∃ d1, d1 = zD1 (zmbd M) 18 (Int64.ofNat 58281) := ⟨_, rfl⟩
  rw [← h1]
  refine zpE_run 4 (L' := [some (.ref 44), some (.long (d1)), none, some (.ref (X.1 9)), none, none, none]) (st' := [.ref (X.1 9)]) rfl ?_
  refine zpE_alen rfl (zUX_c hX) (by decide) ?_
  rw [List.length_map]
  refine zpE_run 3 (L' := [some (.ref 44), some (.long (d1)), none, some (.ref (X.1 9)), some (.int (Int32.ofNat M.2.2.2.length)), some (.int (Int32.ofNat 0)), none]) (st' := []) rfl ?_
  refine l188b (N0 := N) (d0 := d1) hX (fun o6 nc ns => ?_) N 0 _ _ _ (Nat.le_refl _) (Nat.zero_le _)
  obtain ⟨d2, h2⟩ : ∃ d2, d2 = zD1 (zmc9 M) (Int32.ofNat M.2.2.2.length).toInt.toNat d1 := ⟨_, rfl⟩
  rw [← h2]
  generalize Int32.ofNat (Int32.ofNat M.2.2.2.length).toInt.toNat = w2
  obtain ⟨w3, hw3⟩ : ∃ w3, w3 = Int32.ofNat M.2.2.2.length := ⟨_, rfl⟩
  rw [← hw3]
  refine zpE_run 5 (L' := [some (.ref 44), some (.long (d2)), none, some (.ref (X.1 9)), some (.int (w3)), some (.int (w2)), o6]) (st' := [.int (Int32.ofInt 2), .ref 44, .long (d2 * Int64.ofNat 31)]) rfl ?_
  refine zpE_call rfl rfl (f_156 (M := M) (x1 := Int32.ofInt 2) hX) (fun v hh nc1 ns1 q8 => ?_) (fun E hh nc1 ns1 q8 => by cases q8.1)
  obtain ⟨q8, q9⟩ := q8
  cases q8
  cases q9
  refine zpE_run 8 (L' := [some (.ref 44), some (.long (zmx d2 (v156 (Int32.ofInt 2) M).toInt64)), none, some (.ref (X.1 9)), some (.int (w3)), some (.int (w2)), o6]) (st' := [.int (Int32.ofInt 3), .ref 44, .long ((zmx d2 (v156 (Int32.ofInt 2) M).toInt64) * Int64.ofNat 31)]) rfl ?_
  obtain ⟨d3, h3⟩ : ∃ z, z = zmx d2 (v156 (Int32.ofInt 2) M).toInt64 := ⟨_, rfl⟩
  rw [← h3]
  refine zpE_call rfl rfl (f_156 (M := M) (x1 := Int32.ofInt 3) hX) (fun v hh nc1 ns1 q8 => ?_) (fun E hh nc1 ns1 q8 => by cases q8.1)
  obtain ⟨q8, q9⟩ := q8
  cases q8
  cases q9
  refine zpE_run 5 (L' := [some (.ref 44), some (.long (zmx d3 (v156 (Int32.ofInt 3) M).toInt64)), none, some (.int (Int32.ofNat 0)), some (.int (w3)), some (.int (w2)), o6]) (st' := []) rfl ?_
  obtain ⟨d4, h4⟩ : ∃ z, z = zmx d3 (v156 (Int32.ofInt 3) M).toInt64 := ⟨_, rfl⟩
  rw [← h4]
  refine l188c (N0 := N) (d0 := d4) hX (fun o4 o5 nc ns => ?_) N 0 _ _ _ _ (Nat.le_refl _) (Nat.zero_le _)
  obtain ⟨d5, h5⟩ : ∃ d5, d5 = zDB (zmB M) 2 d4 := ⟨_, rfl⟩
  rw [← h5]
  refine zpE_run 2 (L' := [some (.ref 44), some (.long (d5)), none, some (.int (Int32.ofNat 0)), o4, o5, o6]) (st' := []) rfl ?_
  refine l188d (N0 := N) (d0 := d5) hX (fun nc ns => ?_) N 0 _ _ (Nat.le_refl _) (Nat.zero_le _)
  obtain ⟨d6, h6⟩ : ∃ d6, d6 = zD3 (zmw (Int32.ofInt 0) M) (zmw (Int32.ofInt 2) M) (zmrd M) 128 d5 := ⟨_, rfl⟩
  rw [← h6]
  refine zpE_run 2 (L' := [some (.ref 44), some (.long (d6)), none, some (.int (Int32.ofNat 0)), o4, o5, o6]) (st' := []) rfl ?_
  refine l188e (N0 := N) (d0 := d6) hX (fun o4 nc ns => ?_) N 0 _ _ _ (Nat.le_refl _) (Nat.zero_le _)
  obtain ⟨d7, h7⟩ : ∃ d7, d7 = zD2 (zmE M) 3 (Int32.ofNat (M.2.2.1 2).length).toInt.toNat d6 := ⟨_, rfl⟩
  rw [← h7]
  have ev : V188 M = zmx (zmx d7 (v183 z20 M).toInt64) (if v186 M = ((0 : Int32)) then (Int32.ofInt 0).toInt64 else (Int32.ofInt 1).toInt64) := by
    rw [h7, h6, h5, h4, h3, h2, h1]
    rfl
  rw [ev]
  exact l188g hX hs
theorem f_188v (hX : zUX kq X M.2.2) (hs : 0 ≤ (M.1 4).toInt ∧ (M.1 4).toInt ≤ 5000) : zpM xs N 188 [.ref 44] (zy S0 M X) nc ns (zMg (V188 (zmS M 0 (Int32.ofInt 0))) S0 (zmS M 0 (Int32.ofInt 0)) kq) := by
  intro L0 e
  cases e
  refine zpE_run 3 (st' := []) (h' := zy S0 (zmS M 0 (Int32.ofInt 0)) X) rfl ?_
  refine zpE_run 4 (L' := [some (.ref 44), some (.long (Int64.ofNat 58281)), none, some (.int (Int32.ofNat 0)), none, none, none]) (st' := []) rfl ?_
  exact f_188w (M := zmS M 0 (Int32.ofInt 0)) hX hs
end ZRG
