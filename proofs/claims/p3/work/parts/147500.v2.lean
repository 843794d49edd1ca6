/-! How many data columns there are, word for word. -/
section ZCD
variable {xs : List Int32} {g : zG} {lg : Nat} {h : zH} {D nc ns : Nat}
def zush (x y : Int32) : Int32 := (x.toUInt32 >>> (y.toUInt32 &&& Int32.toUInt32 31)).toInt32
/-- the JDK's bitCount -/
def zbca (x : Int32) : Int32 := x - (zush x (Int32.ofInt 1) &&& Int32.ofNat 1431655765)
def zbcb (a : Int32) : Int32 := (a &&& Int32.ofNat 858993459) + (zush a (Int32.ofInt 2) &&& Int32.ofNat 858993459)
def zbcc (b : Int32) : Int32 := (b + zush b (Int32.ofInt 4)) &&& Int32.ofNat 252645135
def zbcd (c : Int32) : Int32 := c + zush c (Int8.ofInt 8).toInt32
def zbce (d : Int32) : Int32 := d + zush d (Int8.ofInt 16).toInt32
def zbc (x : Int32) : Int32 := zbce (zbcd (zbcc (zbcb (zbca x)))) &&& (Int8.ofInt 63).toInt32
theorem t_229 {x : Int32} : zMs xs D 229 [.int x] h nc ns (fun o => o = (.inl (some (.int (zbc x))), h, nc, ns)) := by
  refine ⟨_, rfl, ?_⟩
  refine zEs_run 8 (L' := [some (.int (zbca x))]) rfl ?_
  refine zEs_run 10 (L' := [some (.int (zbcb (zbca x)))]) rfl ?_
  refine zEs_run 8 (L' := [some (.int (zbcc (zbcb (zbca x))))]) rfl ?_
  refine zEs_run 6 (L' := [some (.int (zbcd (zbcc (zbcb (zbca x)))))]) rfl ?_
  refine zEs_run 6 (L' := [some (.int (zbce (zbcd (zbcc (zbcb (zbca x))))))]) rfl ?_
  refine zEs_run 3 (st' := [.int (zbc x)]) rfl ?_
  exact zEs_end rfl rfl rfl
/-- how many bits of a number are 1 -/
def zwt : Nat → Nat → Nat
  | 0, _ => 0
  | f + 1, n => n % 2 + zwt f (n / 2)
theorem zbc_wt : ∀ n, n < 64 → (zbc (Int32.ofNat n)) = Int32.ofNat (zwt 6 n) := by
  have e : (List.range 64).all (fun n => decide (zbc (Int32.ofNat n) = Int32.ofNat (zwt 6 n))) = true := by decide +kernel
  exact fun n hn => of_decide_eq_true (List.all_eq_true.mp e n (List.mem_range.mpr hn))
/-- whether a number is the column of a data bit -/
def zdc (n : Nat) : Bool := decide (3 ≤ zwt 6 n) && decide (zwt 6 n % 2 = 1)
theorem t_1 {n : Nat} (hn : n < 64) : zMs xs (D + 1) 1 [.int (Int32.ofNat n)] h nc ns (fun o => o = (.inl (some (.int (if zdc n then 1 else 0))), h, nc, ns)) := by
  refine ⟨_, rfl, zEs_run 1 rfl ?_⟩
  refine zEs_callG rfl rfl (t_229 (x := Int32.ofNat n)) (fun v h9 nc1 ns1 q => ?_) (fun E h9 nc1 ns1 q => by cases q)
  cases q
  rw [zbc_wt n hn]
  have hw : ∀ n, n < 64 → zwt 6 n < 7 := by
    have e : (List.range 64).all (fun n => decide (zwt 6 n < 7)) = true := by decide +kernel
    exact fun n hn => of_decide_eq_true (List.all_eq_true.mp e n (List.mem_range.mpr hn))
  have hw := hw n hn
  have e : zdc n = (decide (3 ≤ zwt 6 n) && decide (zwt 6 n % 2 = 1)) := rfl
  generalize zwt 6 n = w at *
  have hc : w = 0 ∨ w = 1 ∨ w = 2 ∨ w = 3 ∨ w = 4 ∨ w = 5 ∨ w = 6 := by omega
  rw [e]
  rcases hc with rfl | rfl | rfl | rfl | rfl | rfl | rfl
  · exact zEs_run 5 rfl (zEs_end rfl rfl rfl)
  · exact zEs_run 5 rfl (zEs_end rfl rfl rfl)
  · exact zEs_run 5 rfl (zEs_end rfl rfl rfl)
  · exact zEs_run 11 rfl (zEs_end rfl rfl rfl)
  · exact zEs_run 10 rfl (zEs_end rfl rfl rfl)
  · exact zEs_run 11 rfl (zEs_end rfl rfl rfl)
  · exact zEs_run 10 rfl (zEs_end rfl rfl rfl)
end ZCD
section ZCE
variable {xs : List Int32} {g : zG} {lg : Nat} {h : zH} {D nc ns : Nat}
/-- how many numbers below n are columns of data bits -/
def zct : Nat → Nat
  | 0 => 0
  | n + 1 => zct n + (if zdc n then 1 else 0)
theorem zof1 (a : Nat) : Int32.ofNat a + Int32.ofInt 1 = Int32.ofNat (a + 1) := by
  rw [Int32.ofNat_add]
  rfl
theorem zofI {a : Nat} (h : a < 2147483648) : (Int32.ofNat a).toInt = (a : Int) := Int32.toInt_ofNat_of_lt h
theorem t_2 {r : Int32} {N : Nat} (hN : N ≤ 64) (hs : Int32.ofInt 1 <<< (r &&& 31) = Int32.ofNat N) : ∀ (m n : Nat), n ≤ N → N - n < m → zEs xs (D + 2) 2 4 [some (.int r), some (.int (Int32.ofNat (zct n))), some (.int (Int32.ofNat n))] [] h nc ns (fun o => o = (.inl (some (.int (Int32.ofNat (zct N)))), h, nc, ns))
  | 0, _, _, hm => absurd hm (Nat.not_lt_zero _)
  | m + 1, n, hn, hm => by
    refine zEs_run 4 (st' := [.int (Int32.ofInt 1 <<< (r &&& 31)), .int (Int32.ofNat n)]) rfl ?_
    rw [hs]
    refine zEs_icmp rfl (fun q => ?_) (fun q => ?_)
    · have z := zF_ge_t q
      rw [zofI (by omega), zofI (by omega)] at z
      obtain rfl : n = N := by omega
      exact zEs_run 1 rfl (zEs_end rfl rfl rfl)
    · have z := zF_ge_f q
      rw [zofI (by omega), zofI (by omega)] at z
      refine zEs_run 1 rfl ?_
      refine zEs_callG rfl rfl (t_1 (D := D) (n := n) (by omega)) (fun v h9 nc1 ns1 q => ?_) (fun E h9 nc1 ns1 q => by cases q)
      cases q
      have e := zof1 n
      have K := t_2 hN hs m (n + 1) (by omega) (by omega)
      rw [← zof1] at K
      show zEs xs (D + 2) 2 15 [some (.int r), some (.int (Int32.ofNat (zct n))), some (.int (Int32.ofNat n))] [.int (if zdc n = true then 1 else 0)] _ _ _ _
      have ez : zct (n + 1) = zct n + (if zdc n then 1 else 0) := rfl
      cases hz : zdc n with
      | true =>
        rw [hz] at ez
        rw [ez] at K
        refine zEs_if rfl (fun q9 => ?_) (fun _ => ?_)
        · exact absurd (zF_eq_t q9) (by decide)
        · refine zEs_run 3 rfl ?_
          rw [show Int32.ofNat (zct n) + Int32.ofInt 1 = Int32.ofNat (zct n + 1) from zof1 _]
          exact K
      | false =>
        rw [hz] at ez
        rw [ez] at K
        refine zEs_if rfl (fun _ => ?_) (fun q9 => ?_)
        · exact zEs_run 2 rfl K
        · exact absurd rfl (zF_eq_f q9)
end ZCE
section ZCF
variable {xs : List Int32} {g : zG} {lg : Nat} {h : zH} {D nc ns : Nat}
theorem zwt_0 : ∀ f, zwt f 0 = 0
  | 0 => rfl
  | f + 1 => by
    show 0 % 2 + zwt f (0 / 2) = 0
    rw [Nat.zero_div, zwt_0 f]
theorem zhalf : ∀ n, n < 64 → Int32.ofNat n / Int32.ofInt 2 = Int32.ofNat (n / 2) ∧ Int32.ofNat n - Int32.ofNat n / Int32.ofInt 2 * Int32.ofInt 2 = Int32.ofNat (n % 2) := by
  have e : (List.range 64).all (fun n => decide (Int32.ofNat n / Int32.ofInt 2 = Int32.ofNat (n / 2) ∧ Int32.ofNat n - Int32.ofNat n / Int32.ofInt 2 * Int32.ofInt 2 = Int32.ofNat (n % 2))) = true := by decide +kernel
  exact fun n hn => of_decide_eq_true (List.all_eq_true.mp e n (List.mem_range.mpr hn))
theorem lt_114 {s : Int32} : ∀ (f n m : Nat), n < 64 → n < 2 ^ f → zEs xs D 114 4 [some (.int s), some (.int (Int32.ofNat m)), some (.int (Int32.ofNat n))] [] h nc ns (fun o => o = (.inl (some (.int (Int32.ofNat (m + zwt f n)))), h, nc, ns)) := by
  intro f
  induction f with
  | zero =>
    intro n m h1 h2
    obtain rfl : n = 0 := by simp at h2; exact h2
    refine zEs_run 1 rfl ?_
    refine zEs_if rfl (fun _ => ?_) (fun q => ?_)
    · exact zEs_run 1 rfl (zEs_end rfl rfl rfl)
    · exact absurd (zF_le_f q) (by decide)
  | succ f ih =>
    intro n m h1 h2
    refine zEs_run 1 rfl ?_
    refine zEs_if rfl (fun q => ?_) (fun q => ?_)
    · have z := zF_le_t q
      rw [zofI (by omega)] at z
      have z0 : (0 : Int32).toInt = 0 := by decide
      obtain rfl : n = 0 := by omega
      rw [zwt_0]
      exact zEs_run 1 rfl (zEs_end rfl rfl rfl)
    · obtain ⟨e1, e2⟩ := zhalf n h1
      have K := ih (n / 2) (m + n % 2) (by omega) (by rw [Nat.pow_succ] at h2; omega)
      rw [Nat.add_assoc] at K
      rw [Int32.ofNat_add, ← e2, ← e1] at K
      exact zEs_run 11 rfl K
theorem t_114 {n : Nat} (hn : n < 64) : zMs xs D 114 [.int (Int32.ofNat n)] h nc ns (fun o => o = (.inl (some (.int (Int32.ofNat (zwt 6 n)))), h, nc, ns)) := by
  refine ⟨_, rfl, zEs_run 4 rfl ?_⟩
  have K := lt_114 (xs := xs) (h := h) (D := D) (nc := nc) (ns := ns) (s := Int32.ofNat n) 6 n 0 hn hn
  rw [Nat.zero_add] at K
  exact K
theorem zwt_7 : ∀ n, n < 64 → zwt 6 n < 7 := by
  have e : (List.range 64).all (fun n => decide (zwt 6 n < 7)) = true := by decide +kernel
  exact fun n hn => of_decide_eq_true (List.all_eq_true.mp e n (List.mem_range.mpr hn))
/-- the reference's count -/
theorem t_115 {r : Int32} {N : Nat} (hN : N ≤ 64) (hs : Int32.ofInt 1 <<< (r &&& 31) = Int32.ofNat N) : ∀ (m n : Nat), n ≤ N → N - n < m → zEs xs (D + 1) 115 4 [some (.int r), some (.int (Int32.ofNat (zct n))), some (.int (Int32.ofNat n))] [] h nc ns (fun o => o = (.inl (some (.int (Int32.ofNat (zct N)))), h, nc, ns))
  | 0, _, _, hm => absurd hm (Nat.not_lt_zero _)
  | m + 1, n, hn, hm => by
    refine zEs_run 4 (st' := [.int (Int32.ofInt 1 <<< (r &&& 31)), .int (Int32.ofNat n)]) rfl ?_
    rw [hs]
    refine zEs_icmp rfl (fun q => ?_) (fun q => ?_)
    · have z := zF_ge_t q
      rw [zofI (by omega), zofI (by omega)] at z
      obtain rfl : n = N := by omega
      exact zEs_run 1 rfl (zEs_end rfl rfl rfl)
    · have z := zF_ge_f q
      rw [zofI (by omega), zofI (by omega)] at z
      have K := t_115 hN hs m (n + 1) (by omega) (by omega)
      rw [← zof1] at K
      have hw := zwt_7 n (by omega)
      have ez : zct (n + 1) = zct n + (if zdc n then 1 else 0) := rfl
      have ed : zdc n = (decide (3 ≤ zwt 6 n) && decide (zwt 6 n % 2 = 1)) := rfl
      have J1 : (3 ≤ zwt 6 n ∧ zwt 6 n % 2 = 1) → zEs xs (D + 1) 115 35 [some (.int r), some (.int (Int32.ofNat (zct n))), some (.int (Int32.ofNat n))] [.int (Int32.ofInt 1), .int (Int32.ofNat (zct n))] h nc ns (fun o => o = (.inl (some (.int (Int32.ofNat (zct N)))), h, nc, ns)) := by
        intro k
        rw [show zdc n = true by rw [ed, decide_eq_true k.1, decide_eq_true k.2]; rfl, if_pos rfl] at ez
        rw [ez, ← zof1] at K
        exact zEs_run 4 rfl K
      have J0 : ¬ (3 ≤ zwt 6 n ∧ zwt 6 n % 2 = 1) → zEs xs (D + 1) 115 34 [some (.int r), some (.int (Int32.ofNat (zct n))), some (.int (Int32.ofNat n))] [.int (Int32.ofNat (zct n))] h nc ns (fun o => o = (.inl (some (.int (Int32.ofNat (zct N)))), h, nc, ns)) := by
        intro k
        rw [show zdc n = false by
          rw [ed]
          cases hb : (decide (3 ≤ zwt 6 n) && decide (zwt 6 n % 2 = 1)) with
          | false => rfl
          | true =>
            rw [Bool.and_eq_true, decide_eq_true_eq, decide_eq_true_eq] at hb
            exact absurd hb k] at ez
        rw [ez] at K
        have e0 : Int32.ofNat (zct n) = Int32.ofNat (zct n) + Int32.ofInt 0 := (Int32.add_zero _).symm
        rw [show zct n + (if (false : Bool) = true then 1 else 0) = zct n from rfl, e0] at K
        exact zEs_run 5 rfl K
      refine zEs_run 2 rfl ?_
      refine zEs_callG rfl rfl (t_114 (D := D) (n := n) (by omega)) (fun v h9 nc1 ns1 q => ?_) (fun E h9 nc1 ns1 q => by cases q)
      cases q
      have z1 := (zhalf (zwt 6 n) (by omega)).2
      refine zEs_run 3 (st' := [.int (Int32.ofInt 1), .int (Int32.ofNat (zwt 6 n) - Int32.ofNat (zwt 6 n) / Int32.ofInt 2 * Int32.ofInt 2), .int (Int32.ofNat (zct n))]) rfl ?_
      rw [z1]
      have i1 : (Int32.ofInt 1).toInt = 1 := by decide
      have i3 : (Int32.ofInt 3).toInt = 3 := by decide
      refine zEs_icmp rfl (fun q9 => ?_) (fun q9 => ?_)
      · have z := zF_ne_t q9
        rw [zofI (by omega), i1] at z
        exact J0 (by omega)
      · have z := zF_ne_f q9
        rw [zofI (by omega), i1] at z
        refine zEs_run 1 rfl ?_
        refine zEs_callG rfl rfl (t_114 (D := D) (n := n) (by omega)) (fun v h9 nc1 ns1 q => ?_) (fun E h9 nc1 ns1 q => by cases q)
        cases q
        refine zEs_run 1 rfl ?_
        refine zEs_icmp rfl (fun q8 => ?_) (fun q8 => ?_)
        · have z8 := zF_lt_t q8
          rw [zofI (by omega), i3] at z8
          exact J0 (by omega)
        · have z8 := zF_lt_f q8
          rw [zofI (by omega), i3] at z8
          exact zEs_run 2 rfl (J1 (by omega))
/-- how many columns there are for r check bits -/
def zdm (r : Int32) : Int32 := if r = 4 then 4 else if r = 5 then 11 else 26
theorem zdm_ok {r : Int32} (h4 : 4 ≤ r.toInt) (h6 : r.toInt ≤ 6) : ∃ N : Nat, N ≤ 64 ∧ 1 ≤ N ∧ Int32.ofInt 1 <<< (r &&& 31) = Int32.ofNat N ∧ Int32.ofNat (zct N) = zdm r := by
  have e4 : (4 : Int32).toInt = 4 := by decide
  have e5 : (5 : Int32).toInt = 5 := by decide
  have e6 : (6 : Int32).toInt = 6 := by decide
  rcases (show r.toInt = 4 ∨ r.toInt = 5 ∨ r.toInt = 6 by omega) with k | k | k
  · obtain rfl : r = 4 := Int32.toInt_inj.mp (by omega)
    exact ⟨16, by decide, by decide, by decide, by decide +kernel⟩
  · obtain rfl : r = 5 := Int32.toInt_inj.mp (by omega)
    exact ⟨32, by decide, by decide, by decide, by decide +kernel⟩
  · obtain rfl : r = 6 := Int32.toInt_inj.mp (by omega)
    exact ⟨64, by decide, by decide, by decide, by decide +kernel⟩
theorem x_2 {r : Int32} (h4 : 4 ≤ r.toInt) (h6 : r.toInt ≤ 6) : zMs xs (D + 2) 2 [.int r] h nc ns (fun o => o = (.inl (some (.int (zdm r))), h, nc, ns)) := by
  obtain ⟨N, n1, n2, n3, n4⟩ := zdm_ok h4 h6
  refine ⟨_, rfl, zEs_run 4 rfl ?_⟩
  rw [← n4]
  exact t_2 n1 n3 65 1 n2 (by omega)
theorem x_115 {r : Int32} (h4 : 4 ≤ r.toInt) (h6 : r.toInt ≤ 6) : zMs xs (D + 1) 115 [.int r] h nc ns (fun o => o = (.inl (some (.int (zdm r))), h, nc, ns)) := by
  obtain ⟨N, n1, n2, n3, n4⟩ := zdm_ok h4 h6
  refine ⟨_, rfl, zEs_run 4 rfl ?_⟩
  rw [← n4]
  exact t_115 n1 n3 65 1 n2 (by omega)
end ZCF
