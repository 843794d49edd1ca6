/-! What the law draws. -/
section ZDR
variable {xs : List Int32} {D nc ns n m : Nat} {h : zH}
theorem zdiv9 (hn : n < 2147483648) (hm : m < 2147483648) : Int32.ofNat n / Int32.ofNat m = Int32.ofNat (n / m) := by
  have l := Nat.div_le_self n m
  refine Int32.toInt_inj.mp ?_
  rw [Int32.toInt_div, zofI hn, zofI hm, zofI (by omega), Int.tdiv_eq_ediv_of_nonneg (by omega), ← Int.natCast_ediv]
  generalize n / m = q at l ⊢
  rw [Int.bmod_def]
  split <;> omega
theorem zrem9 (hn : n < 2147483648) (hm : m < 2147483648) : Int32.ofNat n - Int32.ofNat n / Int32.ofNat m * Int32.ofNat m = Int32.ofNat (n % m) := by
  rw [zdiv9 hn hm, ← Int32.ofNat_mul]
  have e2 : Int32.ofNat n = Int32.ofNat (n % m) + Int32.ofNat (n / m * m) := by
    rw [← Int32.ofNat_add]
    congr 1
    have := Nat.mod_add_div n m
    rw [Nat.mul_comm] at this
    exact this.symm
  rw [e2, Int32.add_sub_cancel]
theorem zofT {x : Int32} (h0 : 0 ≤ x.toInt) : x = Int32.ofNat x.toInt.toNat ∧ x.toInt.toNat < 2147483648 := by
  have l := Int32.toInt_lt x
  have l2 : x.toInt.toNat < 2147483648 := by omega
  refine ⟨Int32.toInt_inj.mp ?_, l2⟩
  rw [zofI l2]
  omega
theorem zEs_idiv {y pc nx k yy m c : Nat} {L : zL} {P : zO → Prop} {x z : Int32} {r : List Value} (h1 : zat (zmc y) pc = some (.idiv, nx, k, yy, m, c)) (hz : ¬ z = 0) (g : zEs xs D y nx L (.int (x / z) :: r) h nc ns P) : zEs xs D y pc L (.int z :: .int x :: r) h nc ns P :=
  zEs_step (dc := 0) (ds := 0) h1 (show zdiv (fun x y => x / y) nx L (.int z :: .int x :: r) h = some (.inl (nx, L, .int (x / z) :: r, h, 0, 0)) from if_neg hz) g
theorem zm_247 {x : Int32} (hm : 1 ≤ m) (hm2 : m < 1000) : zMs xs D 247 [.int x, .int (Int32.ofNat m)] h nc ns (fun o => ∃ y, y < m ∧ o = (.inl (some (.int (Int32.ofNat y))), h, nc, ns)) := by
  refine ⟨_, rfl, ?_⟩
  refine zEs_run 4 (L' := [some (.int x), some (.int (Int32.ofNat m))]) (st' := [.int (Int32.ofNat m), .int (x &&& Int32.ofNat 2147483647)]) rfl ?_
  refine zEs_irem rfl (fun z => ?_) ?_
  · have e := congrArg Int32.toInt z
    rw [zofI (by omega), show (0 : Int32).toInt = 0 by decide] at e
    omega
  · obtain ⟨q1, q2⟩ := zofT (zand_nn (x := x) (m := Int32.ofNat 2147483647) (by decide)).1
    refine zEs_end rfl rfl ⟨(x &&& Int32.ofNat 2147483647).toInt.toNat % m, Nat.mod_lt _ (by omega), ?_⟩
    have e : x &&& Int32.ofNat 2147483647 = Int32.ofNat (x &&& Int32.ofNat 2147483647).toInt.toNat := q1
    have e2 := zrem9 (n := (x &&& Int32.ofNat 2147483647).toInt.toNat) (m := m) q2 (by omega)
    rw [← e] at e2
    show (Sum.inl (some (Value.int ((x &&& Int32.ofNat 2147483647) - (x &&& Int32.ofNat 2147483647) / Int32.ofNat m * Int32.ofNat m))), h, nc + 0, ns + 0) = _
    rw [e2]
    rfl
theorem zm_248 (hN : xs.length ≤ 100000) (hn : n < 1000) : zMs xs D 248 [.retAddr 0, .int (Int32.ofNat n)] h nc ns (fun o => ∃ y : Int32, o = (.inl (some (.int y)), h, nc, ns)) := by
  refine ⟨_, rfl, ?_⟩
  refine zEs_run 3 (L' := [some (.retAddr 0), some (.int (Int32.ofNat n))]) (st' := [.int (Int32.ofNat xs.length), .int (Int32.ofNat n)]) rfl ?_
  refine zEs_icmp rfl (fun _ => ?_) (fun g => ?_)
  · refine zEs_run 5 (L' := [some (.retAddr 0), some (.int (Int32.ofNat n))]) (st' := [.int (Int32.ofNat 790386105 * (Int32.ofNat n + Int32.ofInt 3))]) rfl ?_
    exact zEs_end rfl rfl ⟨_, rfl⟩
  · have g := zF_ge_f g
    rw [zofI (by omega), zofI (by omega)] at g
    have hl : n < xs.length := by omega
    have k0 : ¬ Int32.ofNat n < 0 := fun z => by
      have z := Int32.lt_iff_toInt_lt.mp z
      rw [zofI (by omega), show (0 : Int32).toInt = 0 by decide] at z
      omega
    have kn : (Int32.ofNat n).toNatClampNeg = n := by
      show (Int32.ofNat n).toInt.toNat = n
      rw [zofI (by omega)]
      omega
    refine zEs_run 2 (L' := [some (.retAddr 0), some (.int (Int32.ofNat n))]) (st' := [.int (Int32.ofNat n), .retAddr 0]) rfl ?_
    have e2 : zstep zcf xs 8 .iaload 9 0 0 0 0 [some (.retAddr 0), some (.int (Int32.ofNat n))] [.int (Int32.ofNat n), .retAddr 0] h = zgo 9 [some (.retAddr 0), some (.int (Int32.ofNat n))] [.int xs[n]] h := by
      show (if Int32.ofNat n < 0 then none else match xs[(Int32.ofNat n).toNatClampNeg]? with
        | some z => zgo 9 [some (.retAddr 0), some (.int (Int32.ofNat n))] [.int z] h
        | none => none) = _
      rw [if_neg k0, kn, List.getElem?_eq_getElem hl]
    refine zEs_step (dc := 0) (ds := 0) rfl e2 ?_
    refine zEs_run 1 (L' := [some (.retAddr 0), some (.int (Int32.ofNat n))]) (st' := [.int xs[n]]) rfl ?_
    exact zEs_end rfl rfl ⟨_, rfl⟩
theorem zm_249 (hN : xs.length ≤ 100000) (hn : n < 1000) (hm : 1 ≤ m) (hm2 : m < 1000) : zMs xs 1 249 [.retAddr 0, .int (Int32.ofNat n), .int (Int32.ofNat m)] h nc ns (fun o => ∃ y, y < m ∧ o = (.inl (some (.int (Int32.ofNat y))), h, nc, ns)) := by
  refine ⟨_, rfl, ?_⟩
  refine zEs_run 3 (L' := [some (.retAddr 0), some (.int (Int32.ofNat n)), some (.int (Int32.ofNat m))]) (st' := [.int (Int32.ofInt 24), .int (Int32.ofNat n), .retAddr 0]) rfl ?_
  refine zEs_irem rfl (by decide) ?_
  rw [show Int32.ofInt 24 = Int32.ofNat 24 from rfl, zrem9 (by omega) (by decide)]
  refine zEs_callG (D := 0) rfl rfl (zm_248 hN (by omega)) (fun v h1 nc1 ns1 q => ?_) (fun E h1 nc1 ns1 q => ?_)
  · obtain ⟨y, q⟩ := q
    cases q
    refine zEs_run 2 (L' := [some (.retAddr 0), some (.int (Int32.ofNat n)), some (.int (Int32.ofNat m))]) (st' := [.int (Int32.ofInt 24), .int (Int32.ofNat n), .int y]) rfl ?_
    refine zEs_idiv rfl (by decide) ?_
    refine zEs_run 1 (L' := [some (.retAddr 0), some (.int (Int32.ofNat n)), some (.int (Int32.ofNat m))]) (st' := [.int (Int32.ofInt 8), .int (Int32.ofNat n / Int32.ofInt 24), .int y]) rfl ?_
    refine zEs_irem rfl (by decide) ?_
    refine zEs_run 6 (L' := [some (.retAddr 0), some (.int (Int32.ofNat n)), some (.int (Int32.ofNat m))]) (st' := [.int (Int32.ofNat m), .int ((y >>> ((Int32.ofNat n / Int32.ofInt 24 - Int32.ofNat n / Int32.ofInt 24 / Int32.ofInt 8 * Int32.ofInt 8) &&& 31)) + Int32.ofInt 499 * Int32.ofNat n)]) rfl ?_
    refine zEs_callG (D := 0) rfl rfl (zm_247 hm hm2) (fun v h1 nc1 ns1 q => ?_) (fun E h1 nc1 ns1 q => ?_)
    · obtain ⟨y2, l, q⟩ := q
      cases q
      exact zEs_end rfl rfl ⟨y2, l, rfl⟩
    · obtain ⟨y2, l, q⟩ := q
      cases q
  · obtain ⟨y, q⟩ := q
    cases q
end ZDR
