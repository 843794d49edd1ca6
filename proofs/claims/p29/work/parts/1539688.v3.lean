section ZQ2
variable {xs : List Int32} {N : Nat} {S : zSt} {M : zRt} {X : zXt} {q : Nat} {vs : List Value} {nc ns : Nat}
def zrP_69 (r : Option Value ⊕ Nat) : Prop := (∃ x : Int32, r = .inl (some (.int x))) ∨ r = .inr 0
theorem rs_69 {x1 : Int32} : (∃ x : Int32, R69 x1 S = .inl (some (.int x))) ∨ R69 x1 S = .inr 0 := by
  show zrP_69 (R69 x1 S)
  unfold R69
  repeat' first | refine zifP (P := zrP_69) ?_ ?_ | exact Or.inl ⟨_, rfl⟩ | exact Or.inr (rfl)
abbrev kc_203 : Nat → Int32 := fun E => if E = 0 then Int32.ofInt 1 else 0
theorem Fe_69 {x1 : Int32} : F69 x1 S = S := by
  unfold F69
  repeat' first | refine zifP (P := fun r => r = S) ?_ ?_ | exact rfl
theorem pw_203 {x1 : Int32} (HL : zaL S.2) (hX : zUX (q, 6, vs) X M.2.2) (ho : zOu vs) : zpM xs N 203 [.ref 0, .int x1, .ref q] (zy S M X) nc ns (zNq (zWy q (R69 x1 S) (F69 x1 S) M kc_203)) := by
  intro L0 e
  cases e
  refine zpE_run 3 (L' := [some (.ref 0), some (.int x1), some (.ref q), none]) (st' := [.int x1, .ref 0, .ref q]) rfl ?_
  refine zpE_call rfl rfl (e_69 (S := S) (x1 := x1) HL) (fun v h1 nc1 ns1 q8 => ?_) (fun E h1 nc1 ns1 q8 => ?_)
  · obtain ⟨q8, q9⟩ := q8
    cases q9
    rcases rs_69 (S := S) (x1 := x1) with ⟨x, hx⟩ | hx
    · rw [hx] at q8
      cases q8
      refine zpE_run 1 (L' := [some (.ref 0), some (.int x1), some (.ref q), none]) (st' := [.long x.toInt64, .ref q]) (h' := zy (F69 x1 S) M X) rfl ?_
      obtain ⟨b1, b2, b3⟩ := zOu_0 (a := x.toInt64) ho
      refine zpE_putb (h' := zy (F69 x1 S) M (X.1, X.2.1, X.2.2.set (q - 73) (6, vs.set 0 (.long x.toInt64)))) rfl (zUX_q (S := F69 x1 S) (M := M) hX) rfl (zy_out (M := M) hX.2.2.2.1) (fun _ => ?_)
      refine zpE_gen (fun nc ns => ?_)
      exact zpE_run 2 rfl (zpE_end rfl rfl (fun v hv => by
        cases hv
        exact ⟨_, _, _, rfl, rfl, zUX_out hX, b1, Or.inl ⟨x, hx, by decide, b2⟩⟩))
    · rw [hx] at q8
      cases q8
  · obtain ⟨q8, q9⟩ := q8
    cases q9
    rcases rs_69 (S := S) (x1 := x1) with ⟨x, hx⟩ | hx
    · rw [hx] at q8
      cases q8
    · rw [hx] at q8
      cases q8
      refine ⟨fun z => absurd z (by decide), fun pc2 L2 e9 => ?_⟩
      obtain ⟨L3, e3⟩ : ∃ L3, zcatch 203 3 0 [some (.ref 0), some (.int x1), some (.ref q), none] = some (14, L3) := ⟨_, rfl⟩
      rw [show zcatch 203 3 0 _ = some (14, L3) from e3] at e9
      cases e9
      exact zpE_run 1 rfl (zpE_end rfl rfl (fun v hv => by
        cases hv
        exact ⟨_, _, _, rfl, rfl, hX, ho, Or.inr ⟨0, hx, by decide⟩⟩))
end ZQ2
/-! fooled: of both. -/
section ZL3Z
variable {S S' : zSt} {M M' : zRt} {u v w x x1 : Int32} {n a b k m s i : Nat}
/-- bits -/
theorem zbit {x : Int32} {c : Nat} (hc : c < 16) : ((x >>> (Int32.ofNat c &&& 31)) &&& Int32.ofInt 1 = Int32.ofInt 1) ↔ x.toBitVec.getLsbD c = true := by
  have e : ((Int32.ofNat c &&& 31).toBitVec.smod 32).toNat = c := by
    have z : (List.range 16).all (fun c => decide (((Int32.ofNat c &&& 31).toBitVec.smod 32).toNat = c)) = true := by decide +kernel
    exact of_decide_eq_true (List.all_eq_true.mp z c (List.mem_range.mpr hc))
  have h1 : ((x >>> (Int32.ofNat c &&& 31)) &&& Int32.ofInt 1).toBitVec = (x.toBitVec.sshiftRight c) &&& 1#32 := by
    rw [Int32.toBitVec_and, Int32.toBitVec_shiftRight]
    show (x.toBitVec.sshiftRight ((Int32.ofNat c &&& 31).toBitVec.smod 32).toNat) &&& _ = _
    rw [e]
    rfl
  have h2 : (Int32.ofInt 1).toBitVec = 1#32 := by decide
  rw [← Int32.toBitVec_inj, h1, h2]
  have h3 : (x.toBitVec.sshiftRight c).getLsbD 0 = x.toBitVec.getLsbD c := by
    rw [BitVec.getLsbD_sshiftRight, if_pos (by omega), Nat.add_zero]
    rfl
  constructor
  · intro h
    have h : (x.toBitVec.sshiftRight c &&& 1#32).getLsbD 0 = (1#32).getLsbD 0 := congrArg (fun b => b.getLsbD 0) h
    have o : (1#32).getLsbD 0 = true := by decide
    rw [BitVec.getLsbD_and, h3, o, Bool.and_true] at h
    exact h
  · intro h
    refine BitVec.eq_of_getLsbD_eq (fun i hi => ?_)
    rw [BitVec.getLsbD_and]
    by_cases i0 : i = 0
    · rw [i0, h3, h]
      rfl
    · have z : (1#32).getLsbD i = false := by
        rw [BitVec.getLsbD_one]
        simp [i0]
      rw [z, Bool.and_false]
theorem zbt_n {c : Nat} (hc : c < 16) : zbt (Int32.ofNat n) c = n.testBit c := by
  have e : (Int32.ofNat n).toBitVec = BitVec.ofNat 32 n := rfl
  have z := zbit (x := Int32.ofNat n) hc
  rw [e, BitVec.getLsbD_ofNat, show decide (c < 32) = true from decide_eq_true (by omega), Bool.true_and] at z
  unfold zbt
  by_cases q : n.testBit c = true
  · rw [q]
    exact decide_eq_true (z.mpr q)
  · rw [Bool.eq_false_iff.mpr q]
    exact decide_eq_false (fun y => q (z.mp y))
/-- counts -/
def zpct : Nat → Nat → Nat
  | 0, _ => 0
  | i + 1, n => zpct i n + (if n.testBit i = true then 1 else 0)
def zsy (c : Nat → Nat) : Nat → Nat → Nat
  | 0, _ => 0
  | i + 1, n => if n.testBit i = true then zsy c i n ^^^ c i else zsy c i n
def zcnu (p : Nat → Bool) : Nat → Nat
  | 0 => 0
  | k + 1 => zcnu p k + (if p k = true then 1 else 0)
def zTt (c : Nat → Nat) (P : Nat → Bool) : Nat → Nat → Nat → Nat
  | 0, 0, s => if P s = true then 1 else 0
  | 0, _ + 1, _ => 0
  | i + 1, 0, s => zTt c P i 0 s
  | i + 1, m + 1, s => zTt c P i (m + 1) s + zTt c P i m (s ^^^ c i)
theorem zcn9_a {p : Nat → Bool} {a : Nat} : ∀ b, zcnu p (a + b) = zcnu p a + zcnu (fun n => p (a + n)) b
  | 0 => rfl
  | b + 1 => by
    show zcnu p (a + b) + (if p (a + b) = true then 1 else 0) = zcnu p a + (zcnu (fun n => p (a + n)) b + (if p (a + b) = true then 1 else 0))
    rw [zcn9_a b, Nat.add_assoc]
theorem zcn9_c {p q : Nat → Bool} : ∀ k, (∀ n, n < k → p n = q n) → zcnu p k = zcnu q k
  | 0, _ => rfl
  | k + 1, h => by
    show zcnu p k + (if p k = true then 1 else 0) = zcnu q k + (if q k = true then 1 else 0)
    rw [zcn9_c k (fun n hn => h n (by omega)), h k (by omega)]
theorem zcn9_0 {p : Nat → Bool} : ∀ k, (∀ n, n < k → p n = false) → zcnu p k = 0
  | 0, _ => rfl
  | k + 1, h => by
    show zcnu p k + (if p k = true then 1 else 0) = 0
    rw [zcn9_0 k (fun n hn => h n (by omega)), h k (by omega)]
    rfl
theorem zpc_a {n i : Nat} : ∀ j, j ≤ i → zpct j (2 ^ i + n) = zpct j n
  | 0, _ => rfl
  | j + 1, h => by
    show zpct j (2 ^ i + n) + _ = zpct j n + _
    rw [zpc_a j (by omega), Nat.testBit_two_pow_add_gt (by omega)]
theorem zsy_a {c : Nat → Nat} {n i : Nat} : ∀ j, j ≤ i → zsy c j (2 ^ i + n) = zsy c j n
  | 0, _ => rfl
  | j + 1, h => by
    show (if (2 ^ i + n).testBit j = true then zsy c j (2 ^ i + n) ^^^ c j else zsy c j (2 ^ i + n)) = if n.testBit j = true then zsy c j n ^^^ c j else zsy c j n
    rw [zsy_a j (by omega), Nat.testBit_two_pow_add_gt (by omega)]
theorem zcn9_T {c : Nat → Nat} {P : Nat → Bool} : ∀ i m s, zcnu (fun n => decide (zpct i n = m) && P (s ^^^ zsy c i n)) (2 ^ i) = zTt c P i m s
  | 0, 0, s => by
    show 0 + (if (decide ((0 : Nat) = 0) && P (s ^^^ 0)) = true then 1 else 0) = if P s = true then 1 else 0
    rw [Nat.xor_zero, Nat.zero_add]
    rfl
  | 0, m + 1, s => by
    show 0 + (if (decide ((0 : Nat) = m + 1) && P (s ^^^ 0)) = true then 1 else 0) = 0
    rw [decide_eq_false (by omega : ¬ (0 : Nat) = m + 1)]
    rfl
  | i + 1, m, s => by
    rw [Nat.pow_succ, Nat.mul_two, zcn9_a]
    have e1 : zcnu (fun n => decide (zpct (i + 1) n = m) && P (s ^^^ zsy c (i + 1) n)) (2 ^ i) = zcnu (fun n => decide (zpct i n = m) && P (s ^^^ zsy c i n)) (2 ^ i) := zcn9_c _ (fun n hn => by
      have t : n.testBit i = false := Nat.testBit_lt_two_pow hn
      have t1 : zpct (i + 1) n = zpct i n := by
        show zpct i n + (if n.testBit i = true then 1 else 0) = _
        rw [t]
        rfl
      have t2 : zsy c (i + 1) n = zsy c i n := if_neg (by rw [t]; exact Bool.false_ne_true)
      show (decide (zpct (i + 1) n = m) && P (s ^^^ zsy c (i + 1) n)) = _
      rw [t1, t2])
    have t0 : ∀ n, n < 2 ^ i → zpct (i + 1) (2 ^ i + n) = zpct i n + 1 ∧ zsy c (i + 1) (2 ^ i + n) = zsy c i n ^^^ c i := fun n hn => by
      have t : (2 ^ i + n).testBit i = true := by
        rw [Nat.testBit_two_pow_add_eq, Nat.testBit_lt_two_pow hn]
        rfl
      refine ⟨?_, ?_⟩
      · show zpct i (2 ^ i + n) + (if (2 ^ i + n).testBit i = true then 1 else 0) = _
        rw [t, zpc_a i (Nat.le_refl _)]
        rfl
      · show (if (2 ^ i + n).testBit i = true then zsy c i (2 ^ i + n) ^^^ c i else zsy c i (2 ^ i + n)) = _
        rw [t, zsy_a i (Nat.le_refl _)]
        rfl
    rw [e1, zcn9_T i m s]
    cases m with
    | zero =>
      rw [zcn9_0 _ (fun n hn => by
        show (decide (zpct (i + 1) (2 ^ i + n) = 0) && P (s ^^^ zsy c (i + 1) (2 ^ i + n))) = false
        rw [(t0 n hn).1, decide_eq_false (by omega : ¬ zpct i n + 1 = 0)]
        rfl)]
      rfl
    | succ m =>
      rw [zcn9_c (q := fun n => decide (zpct i n = m) && P ((s ^^^ c i) ^^^ zsy c i n)) _ (fun n hn => by
        show (decide (zpct (i + 1) (2 ^ i + n) = m + 1) && P (s ^^^ zsy c (i + 1) (2 ^ i + n))) = (decide (zpct i n = m) && P ((s ^^^ c i) ^^^ zsy c i n))
        rw [(t0 n hn).1, (t0 n hn).2, Nat.xor_assoc, Nat.xor_comm (c i)]
        congr 1
        by_cases q : zpct i n = m
        · rw [decide_eq_true q, decide_eq_true (by omega : zpct i n + 1 = m + 1)]
        · rw [decide_eq_false q, decide_eq_false (by omega : ¬ zpct i n + 1 = m + 1)])]
      rw [zcn9_T i m (s ^^^ c i)]
      rfl
theorem zpc_h {n : Nat} : ∀ i, zpct (i + 1) n = n % 2 + zpct i (n / 2)
  | 0 => by
    show 0 + (if n.testBit 0 = true then 1 else 0) = n % 2 + 0
    rw [Nat.testBit_zero]
    by_cases q : n % 2 = 1
    · rw [if_pos (decide_eq_true q)]
      omega
    · rw [if_neg (fun z => q (of_decide_eq_true z))]
      omega
  | i + 1 => by
    show zpct (i + 1) n + (if n.testBit (i + 1) = true then 1 else 0) = n % 2 + (zpct i (n / 2) + (if (n / 2).testBit i = true then 1 else 0))
    rw [zpc_h i, Nat.testBit_succ, Nat.add_assoc]
theorem zwt_pc : ∀ i f n, n < 2 ^ i → i ≤ f → zwt f n = zpct i n
  | 0, f, n, h, _ => by
    obtain rfl : n = 0 := by simp at h; exact h
    exact zwt_0 f
  | i + 1, 0, _, _, h => absurd h (by omega)
  | i + 1, f + 1, n, h, hf => by
    rw [zpc_h]
    show n % 2 + zwt f (n / 2) = _
    rw [zwt_pc i f (n / 2) (by rw [Nat.pow_succ] at h; omega) (by omega)]
theorem zhlf9 {n : Nat} (h : n < 2147483648) : zqtd (Int32.ofNat n) (Int32.ofInt 2) = Int32.ofNat (n / 2) ∧ zrmd (Int32.ofNat n) (Int32.ofInt 2) = Int32.ofNat (n % 2) := by
  have e : zqtd (Int32.ofNat n) (Int32.ofInt 2) = Int32.ofNat (n / 2) := by
    refine Int32.toInt_inj.mp ?_
    rw [zq2, zof_0 h, zof_0 (by omega), Int.tdiv_eq_ediv_of_nonneg (by omega)]
    omega
  refine ⟨e, ?_⟩
  show Int32.ofNat n - zqtd (Int32.ofNat n) (Int32.ofInt 2) * Int32.ofInt 2 = _
  rw [e, show Int32.ofInt 2 = Int32.ofNat 2 from rfl, ← Int32.ofNat_mul]
  have e2 : Int32.ofNat n = Int32.ofNat (n % 2) + Int32.ofNat (n / 2 * 2) := by
    rw [← Int32.ofNat_add]
    congr 1
    omega
  rw [e2, Int32.add_sub_cancel]
theorem zwg_n : ∀ f n (a : Int32), n < 2147483648 → zwg f a (Int32.ofNat n) = a + Int32.ofNat (zwt f n)
  | 0, n, a, _ => (Int32.add_zero a).symm
  | f + 1, n, a, h => by
    by_cases q : n = 0
    · subst q
      rw [zwt_0, zwg_0 (n := Int32.ofNat 0) (by decide)]
      exact (Int32.add_zero a).symm
    · have e : zwg (f + 1) a (Int32.ofNat n) = zwg f (a + zrmd (Int32.ofNat n) (Int32.ofInt 2)) (zqtd (Int32.ofNat n) (Int32.ofInt 2)) := if_neg (by
        rw [zof_0 h, show (0 : Int32).toInt = 0 by decide]
        omega)
      rw [e, (zhlf9 h).1, (zhlf9 h).2, zwg_n f (n / 2) _ (by omega), Int32.add_assoc, ← Int32.ofNat_add]
      rfl
/-- the columns, as numbers -/
def zcNs : List ((Nat × Nat) × List Nat) := [((4, 4), [7, 11, 13, 14, 1, 2, 4, 8]), ((4, 5), [7, 11, 13, 14, 1, 2, 4, 8, 16]), ((5, 5), [7, 11, 13, 14, 19, 1, 2, 4, 8, 16]), ((6, 5), [7, 11, 13, 14, 19, 21, 1, 2, 4, 8, 16]), ((7, 5), [7, 11, 13, 14, 19, 21, 22, 1, 2, 4, 8, 16]), ((8, 5), [7, 11, 13, 14, 19, 21, 22, 25, 1, 2, 4, 8, 16]), ((9, 5), [7, 11, 13, 14, 19, 21, 22, 25, 26, 1, 2, 4, 8, 16]), ((10, 5), [7, 11, 13, 14, 19, 21, 22, 25, 26, 28, 1, 2, 4, 8, 16]), ((4, 6), [7, 11, 13, 14, 1, 2, 4, 8, 16, 32]), ((5, 6), [7, 11, 13, 14, 19, 1, 2, 4, 8, 16, 32]), ((6, 6), [7, 11, 13, 14, 19, 21, 1, 2, 4, 8, 16, 32]), ((7, 6), [7, 11, 13, 14, 19, 21, 22, 1, 2, 4, 8, 16, 32]), ((8, 6), [7, 11, 13, 14, 19, 21, 22, 25, 1, 2, 4, 8, 16, 32]), ((9, 6), [7, 11, 13, 14, 19, 21, 22, 25, 26, 1, 2, 4, 8, 16, 32]), ((10, 6), [7, 11, 13, 14, 19, 21, 22, 25, 26, 28, 1, 2, 4, 8, 16, 32])]
theorem zcN_tab : ∀ q ∈ zcds, ∃ l : List Nat, (q, l) ∈ zcNs ∧ zcol q.1 q.2 = l.map Int32.ofNat ∧ l.length = q.1 + q.2 := by
  have e : zcds.all (fun q => zcNs.any (fun e => decide (e.1 = q ∧ zcol q.1 q.2 = e.2.map Int32.ofNat ∧ e.2.length = q.1 + q.2))) = true := by decide +kernel
  intro q hq
  obtain ⟨e9, h1, h2⟩ := List.any_eq_true.mp (List.all_eq_true.mp e q hq)
  obtain ⟨rfl, h3, h4⟩ := of_decide_eq_true h2
  exact ⟨e9.2, h1, h3, h4⟩
def zPl (l : List Nat) (s : Nat) : Bool := decide (s ≠ 0) && l.contains s
def zk9 (c : List Int32) (x : Int32) : Int32 := if x = 0 then 0 else if zfn c x 0 = Int32.ofInt (-1) then 2 else 1
theorem zPl_r : ∀ e ∈ zcNs, ∀ s, s < 64 → (zk9 (e.2.map Int32.ofNat) (Int32.ofNat s) = Int32.ofInt 1 ↔ zPl e.2 s = true) ∧ ((0 : Int32).toInt < (ztn (e.2.map Int32.ofNat) (Int32.ofNat s)).toInt ↔ zPl e.2 s = true) := by
  have e : zcNs.all (fun e => (List.range 64).all (fun s => decide ((zk9 (e.2.map Int32.ofNat) (Int32.ofNat s) = Int32.ofInt 1 ↔ zPl e.2 s = true) ∧ ((0 : Int32).toInt < (ztn (e.2.map Int32.ofNat) (Int32.ofNat s)).toInt ↔ zPl e.2 s = true)))) = true := by decide +kernel
  exact fun q hq s hs => of_decide_eq_true (List.all_eq_true.mp (List.all_eq_true.mp e q hq) s (List.mem_range.mpr hs))
theorem zcN_64 : ∀ e ∈ zcNs, (∀ j, e.2.getD j 0 < 64) ∧ e.2.length ≤ 16 := by
  have e : zcNs.all (fun e => e.2.all (fun x => decide (x < 64)) && decide (e.2.length ≤ 16)) = true := by decide +kernel
  intro q hq
  have z := List.all_eq_true.mp e q hq
  rw [Bool.and_eq_true] at z
  refine ⟨fun j => ?_, of_decide_eq_true z.2⟩
  rw [List.getD_eq_getElem?_getD]
  by_cases h : j < q.2.length
  · rw [List.getElem?_eq_getElem h]
    exact of_decide_eq_true (List.all_eq_true.mp z.1 _ (List.getElem_mem h))
  · rw [List.getElem?_eq_none (by omega)]
    decide
theorem zxor64 {a b : Nat} (ha : a < 64) (hb : b < 64) : Int32.ofNat a ^^^ Int32.ofNat b = Int32.ofNat (a ^^^ b) ∧ a ^^^ b < 64 := by
  refine ⟨?_, Nat.xor_lt_two_pow (n := 6) ha hb⟩
  have e : (List.range 64).all (fun n => (List.range 64).all (fun m => decide (Int32.ofNat n ^^^ Int32.ofNat m = Int32.ofNat (n ^^^ m)))) = true := by decide +kernel
  exact of_decide_eq_true (List.all_eq_true.mp (List.all_eq_true.mp e a (List.mem_range.mpr ha)) b (List.mem_range.mpr hb))
/-- the reference's sum -/
theorem zsy_n {l : List Nat} (hl : ∀ j, l.getD j 0 < 64) : ∀ k, k ≤ 16 → zsyn (zcm (l.map Int32.ofNat)) (Int32.ofNat n) k = Int32.ofNat (zsy (fun j => l.getD j 0) k n) ∧ zsy (fun j => l.getD j 0) k n < 64
  | 0, _ => ⟨rfl, show 0 < 64 by decide⟩
  | k + 1, hk => by
    obtain ⟨e, h⟩ := zsy_n hl k (by omega)
    have ec : zcm (l.map Int32.ofNat) k = Int32.ofNat (l.getD k 0) := by
      show (l.map Int32.ofNat).getD k 0 = _
      rw [List.getD_eq_getElem?_getD, List.getD_eq_getElem?_getD, List.getElem?_map]
      cases l[k]? <;> rfl
    obtain ⟨x1, x2⟩ := zxor64 h (hl k)
    show (if zbt (Int32.ofNat n) k = true then zsyn (zcm (l.map Int32.ofNat)) (Int32.ofNat n) k ^^^ zcm (l.map Int32.ofNat) k else zsyn (zcm (l.map Int32.ofNat)) (Int32.ofNat n) k) = Int32.ofNat (if n.testBit k = true then zsy (fun j => l.getD j 0) k n ^^^ l.getD k 0 else zsy (fun j => l.getD j 0) k n) ∧ (if n.testBit k = true then zsy (fun j => l.getD j 0) k n ^^^ l.getD k 0 else zsy (fun j => l.getD j 0) k n) < 64
    rw [zbt_n (by omega), e, ec, x1]
    by_cases q : n.testBit k = true
    · rw [if_pos q, if_pos q]
      exact ⟨rfl, x2⟩
    · rw [if_neg q, if_neg q]
      exact ⟨rfl, h⟩
theorem zw156_9 {p : Nat → Bool} (hp : ∀ k, k < b → p k = decide (zwg 31 (Int32.ofInt 0) (Int32.ofNat k) = x1 ∧ zkd M.2.2.2 (Int32.ofNat k) = Int32.ofInt 1)) : ∀ k, k ≤ b → w156 x1 M (Int32.ofInt 0) k = Int32.ofNat (zcnu p k)
  | 0, _ => rfl
  | k + 1, hk => by
    show d156 x1 M k (w156 x1 M (Int32.ofInt 0) k) = Int32.ofNat (zcnu p k + (if p k = true then 1 else 0))
    rw [zw156_9 hp k (by omega), hp k (by omega)]
    unfold d156
    by_cases q1 : zwg 31 (Int32.ofInt 0) (Int32.ofNat k) = x1
    · by_cases q2 : zkd M.2.2.2 (Int32.ofNat k) = Int32.ofInt 1
      · rw [if_pos q1, if_pos q2, if_pos (decide_eq_true ⟨q1, q2⟩), zof1]
      · rw [if_pos q1, if_neg q2, if_neg (fun z => q2 (of_decide_eq_true z).2), zad0]
        first | done | rfl
    · rw [if_neg q1, if_neg (fun z => q1 (of_decide_eq_true z).1), zad0]
      first | done | rfl
theorem zv156 {l : List Nat} {q : Nat × Nat} (hq : (q, l) ∈ zcNs) (hc : M.2.2.2 = l.map Int32.ofNat) (hW : (Int32.ofInt 1 <<< ((M.1 1 + M.1 2) &&& 31)).toInt.toNat = 2 ^ l.length) (hm : m < 1000) : v156 (Int32.ofNat m) M = Int32.ofNat (zTt (fun j => l.getD j 0) (zPl l) l.length m 0) := by
  obtain ⟨h64, h16⟩ := zcN_64 _ hq
  have h64 : ∀ j, l.getD j 0 < 64 := h64
  have h16 : l.length ≤ 16 := h16
  unfold v156 y156
  rw [hW, ← zcn9_T]
  refine zw156_9 (b := 2 ^ l.length) (fun n hn => ?_) _ (Nat.le_refl _)
  have hp16 : 2 ^ l.length ≤ 2 ^ 16 := Nat.pow_le_pow_right (by decide) h16
  have e1 : zwg 31 (Int32.ofInt 0) (Int32.ofNat n) = Int32.ofNat (zpct l.length n) := by
    rw [zwg_n 31 n _ (by omega), zwt_pc l.length 31 n hn (by omega)]
    exact Int32.zero_add _
  have hpc : ∀ i n, zpct i n ≤ i := fun i => by
    induction i with
    | zero => exact fun _ => Nat.le_refl _
    | succ i ih =>
      intro n
      have := ih n
      show zpct i n + (if n.testBit i = true then 1 else 0) ≤ _
      split <;> omega
  have := hpc l.length n
  obtain ⟨e2, e3⟩ := zsy_n (n := n) h64 l.length h16
  have e4 : zkd M.2.2.2 (Int32.ofNat n) = zk9 (l.map Int32.ofNat) (Int32.ofNat (zsy (fun j => l.getD j 0) l.length n)) := by
    rw [hc, ← e2]
    show zk9 (l.map Int32.ofNat) (zsyn (zcm (l.map Int32.ofNat)) (Int32.ofNat n) (l.map Int32.ofNat).length) = _
    rw [List.length_map]
  have e5 := (zPl_r _ hq _ e3).1
  show (decide (zpct l.length n = m) && zPl l (0 ^^^ zsy (fun j => l.getD j 0) l.length n)) = decide (zwg 31 (Int32.ofInt 0) (Int32.ofNat n) = Int32.ofNat m ∧ zkd M.2.2.2 (Int32.ofNat n) = Int32.ofInt 1)
  rw [e1, e4, Nat.zero_xor]
  by_cases q1 : zpct l.length n = m
  · rw [decide_eq_true q1, Bool.true_and]
    by_cases q2 : zPl l (zsy (fun j => l.getD j 0) l.length n) = true
    · rw [q2]
      exact (decide_eq_true ⟨by rw [q1], e5.mpr q2⟩).symm
    · rw [Bool.eq_false_iff.mpr q2]
      exact (decide_eq_false (fun z => q2 (e5.mp z.2))).symm
  · rw [decide_eq_false q1, Bool.false_and]
    exact (decide_eq_false (fun z => q1 ((zof_l (by omega) hm).mp z.1))).symm
/-- the class's sum -/
def nQ16 (l : List Nat) (s : Nat) : Nat → Nat → Nat → Nat
  | 0, _, u => u
  | m + 1, k, u => nQ16 l s m (k + 1) (u + (if zPl l (s ^^^ l.getD k 0) = true then 1 else 0))
def nQ15 (l : List Nat) (three : Bool) (a : Nat) : Nat → Nat → Nat → Nat
  | 0, _, u => u
  | m + 1, k, u => nQ15 l three a m (k + 1) (u + (if three = true then nQ16 l (l.getD a 0 ^^^ l.getD k 0) (l.length - (k + 1)) (k + 1) 0 else if zPl l (l.getD a 0 ^^^ l.getD k 0) = true then 1 else 0))
def nW15 (l : List Nat) (three : Bool) : Nat → Nat
  | 0 => 0
  | a + 1 => nQ15 l three a (l.length - (a + 1)) (a + 1) (nW15 l three a)
theorem nW_T : ∀ e ∈ zcNs, nW15 e.2 false e.2.length = zTt (fun j => e.2.getD j 0) (zPl e.2) e.2.length 2 0 ∧ nW15 e.2 true e.2.length = zTt (fun j => e.2.getD j 0) (zPl e.2) e.2.length 3 0 := by
  have e : zcNs.all (fun e => decide (nW15 e.2 false e.2.length = zTt (fun j => e.2.getD j 0) (zPl e.2) e.2.length 2 0 ∧ nW15 e.2 true e.2.length = zTt (fun j => e.2.getD j 0) (zPl e.2) e.2.length 3 0)) = true := by decide +kernel
  exact fun q hq => of_decide_eq_true (List.all_eq_true.mp e q hq)
theorem nQ16_i {l : List Nat} (hc : ∀ j, j < l.length → zgt (S.2 0) (Int32.ofNat j) = Int32.ofNat (l.getD j 0)) (hl : ∀ j, l.getD j 0 < 64) (h17 : ∀ s, s < 64 → V17 (Int32.ofNat s) S = Int32.ofNat (if zPl l s = true then 1 else 0)) (hs : s < 64) : ∀ m k u, k + m = l.length → Q16 (Int32.ofNat s) x1 S m k (Int32.ofNat u) = Int32.ofNat (nQ16 l s m k u)
  | 0, _, _, _ => rfl
  | m + 1, k, u, h => by
    obtain ⟨y1, y2⟩ := zxor64 hs (hl k)
    show Q16 (Int32.ofNat s) x1 S m (k + 1) (Int32.ofNat u + V17 (Int32.ofNat s ^^^ zgt (S.2 0) (Int32.ofNat k)) S) = _
    rw [hc k (by omega), y1, h17 _ y2, ← Int32.ofNat_add]
    exact nQ16_i hc hl h17 hs m (k + 1) _ (by omega)
theorem nQ15_i {l : List Nat} {t : Bool} (hn : (S.1 2).toInt.toNat = l.length) (hc : ∀ j, j < l.length → zgt (S.2 0) (Int32.ofNat j) = Int32.ofNat (l.getD j 0)) (hl : ∀ j, l.getD j 0 < 64) (h17 : ∀ s, s < 64 → V17 (Int32.ofNat s) S = Int32.ofNat (if zPl l s = true then 1 else 0)) (ht : x1 = Int32.ofInt 2 ↔ t = false) (ha : a < l.length) : ∀ m k u, k + m = l.length → Q15i x1 a S m k (Int32.ofNat u) = Int32.ofNat (nQ15 l t a m k u)
  | 0, _, _, _ => rfl
  | m + 1, k, u, h => by
    obtain ⟨y1, y2⟩ := zxor64 (hl a) (hl k)
    have e : Q15i x1 a S (m + 1) k (Int32.ofNat u) = if x1 = (Int32.ofInt 2) then (Q15i x1 a S m (k + 1) (Int32.ofNat u + (V17 ((zgt (S.2 0) (Int32.ofNat a)) ^^^ (zgt (S.2 0) ((Int32.ofNat k)))) S))) else (Q15i x1 a S m (k + 1) (Int32.ofNat u + (V16 ((zgt (S.2 0) (Int32.ofNat a)) ^^^ (zgt (S.2 0) ((Int32.ofNat k)))) (k + 1) S))) := rfl
    rw [e, hc a ha, hc k (by omega), y1, h17 _ y2]
    have e2 : V16 (Int32.ofNat (l.getD a 0 ^^^ l.getD k 0)) (k + 1) S = Int32.ofNat (nQ16 l (l.getD a 0 ^^^ l.getD k 0) (l.length - (k + 1)) (k + 1) 0) := by
      unfold V16
      rw [hn]
      exact nQ16_i hc hl h17 y2 _ _ 0 (by omega)
    rw [e2]
    show _ = Int32.ofNat (nQ15 l t a m (k + 1) (u + (if t = true then nQ16 l (l.getD a 0 ^^^ l.getD k 0) (l.length - (k + 1)) (k + 1) 0 else if zPl l (l.getD a 0 ^^^ l.getD k 0) = true then 1 else 0)))
    rw [← Int32.ofNat_add, ← Int32.ofNat_add]
    cases t with
    | false =>
      rw [if_pos (ht.mpr rfl), if_neg Bool.false_ne_true]
      exact nQ15_i hn hc hl h17 ht ha m (k + 1) _ (by omega)
    | true =>
      rw [if_neg (fun z => absurd (ht.mp z) (by decide)), if_pos rfl]
      exact nQ15_i hn hc hl h17 ht ha m (k + 1) _ (by omega)
theorem nW15_i {l : List Nat} {t : Bool} (hn : (S.1 2).toInt.toNat = l.length) (hc : ∀ j, j < l.length → zgt (S.2 0) (Int32.ofNat j) = Int32.ofNat (l.getD j 0)) (hl : ∀ j, l.getD j 0 < 64) (h17 : ∀ s, s < 64 → V17 (Int32.ofNat s) S = Int32.ofNat (if zPl l s = true then 1 else 0)) (ht : x1 = Int32.ofInt 2 ↔ t = false) : ∀ a, a ≤ l.length → W15 x1 S a = Int32.ofNat (nW15 l t a)
  | 0, _ => rfl
  | a + 1, h => by
    show Q15i x1 a S ((S.1 2).toInt.toNat - (a + 1)) (a + 1) (W15 x1 S a) = _
    rw [nW15_i hn hc hl h17 ht a (by omega), hn]
    exact nQ15_i hn hc hl h17 ht (by omega) _ _ _ (by omega)
theorem zV15_9 (h : zE S M) : V15 (Int32.ofInt 2) S = v156 (Int32.ofInt 2) M ∧ V15 (Int32.ofInt 3) S = v156 (Int32.ofInt 3) M := by
  obtain ⟨k, r, c1, c2, c3, c4, c5⟩ := zE_co h
  obtain ⟨b1, b2, b3, b4, b5⟩ := zcds_kr _ c1.1
  obtain ⟨l, l1, l2, l3⟩ := zcN_tab _ c1.1
  have b2 : k ≤ 10 := b2
  have b4 : r ≤ 6 := b4
  have l2 : zcol k r = l.map Int32.ofNat := l2
  have l3 : l.length = k + r := l3
  obtain ⟨h64, h16⟩ := zcN_64 _ l1
  obtain ⟨q1, q2, q3, q4, ⟨t, q5⟩, q6⟩ := c1
  have hn : (S.1 2).toInt.toNat = l.length := by
    rw [q4, zof_0 (by omega), l3]
    omega
  have hc : ∀ j, j < l.length → zgt (S.2 0) (Int32.ofNat j) = Int32.ofNat (l.getD j 0) := fun j hj => by
    rw [q5, l2, zgt_n (by omega), List.getD_eq_getElem?_getD, List.getD_eq_getElem?_getD, List.getElem?_append_left (by rw [List.length_map]; exact hj), List.getElem?_map, List.getElem?_eq_getElem hj]
    rfl
  have h17 : ∀ s, s < 64 → V17 (Int32.ofNat s) S = Int32.ofNat (if zPl l s = true then 1 else 0) := fun s hs => by
    have e1 : zgt (S.2 1) (Int32.ofNat s) = ztn (l.map Int32.ofNat) (Int32.ofNat s) := by
      rw [q6, ← l2]
      exact zcds_tn _ q1 s hs
    have e2 := (zPl_r _ l1 s hs).2
    unfold V17
    rw [e1]
    by_cases p : zPl l s = true
    · rw [if_pos (e2.mpr p), if_pos p]
      rfl
    · rw [if_neg (fun z => p (e2.mp z)), if_neg p]
      rfl
  have hW : (Int32.ofInt 1 <<< ((M.1 1 + M.1 2) &&& 31)).toInt.toNat = 2 ^ l.length := by
    rw [c2, c3, ← Int32.ofNat_add, l3]
    have e : (List.range 17).all (fun w => decide ((Int32.ofInt 1 <<< (Int32.ofNat w &&& 31)).toInt.toNat = 2 ^ w)) = true := by decide +kernel
    exact of_decide_eq_true (List.all_eq_true.mp e (k + r) (List.mem_range.mpr (by omega)))
  obtain ⟨t2, t3⟩ := nW_T _ l1
  have hcM : M.2.2.2 = l.map Int32.ofNat := c4.trans l2
  refine ⟨?_, ?_⟩
  · unfold V15
    rw [hn, nW15_i (t := false) hn hc h64 h17 ⟨fun _ => rfl, fun _ => rfl⟩ _ (Nat.le_refl _), show Int32.ofInt 2 = Int32.ofNat 2 from rfl, zv156 l1 hcM hW (by decide)]
    exact congrArg Int32.ofNat t2
  · unfold V15
    rw [hn, nW15_i (t := true) hn hc h64 h17 ⟨fun z => absurd z (by decide), fun z => absurd z (by decide)⟩ _ (Nat.le_refl _), show Int32.ofInt 3 = Int32.ofNat 3 from rfl, zv156 l1 hcM hW (by decide)]
    exact congrArg Int32.ofNat t3
theorem zM_69 (h : zE S M) : zE (F69 x1 S) (r157 x1 M) ∧ zAn (R69 x1 S) (v157 x1 M) ((r157 x1 M).1 0) kc_203 := by
  have h0 : zE S (zmS M 0 (Int32.ofInt 0)) := zE_0 h
  have z2 : (Int32.ofInt 2).toInt = 2 := by decide
  have z3 : (Int32.ofInt 3).toInt = 3 := by decide
  rw [Fe_69]
  by_cases r1 : 2 ≤ x1.toInt ∧ x1.toInt ≤ 3
  · have n1 : ¬ v112 x1 (Int32.ofInt 2) (Int32.ofInt 3) (zmS M 0 (Int32.ofInt 0)) = 0 := fun z => v112_1.mp z (by rw [z2, z3]; exact r1)
    have hr : r157 x1 M = zmS M 0 (Int32.ofInt 0) := if_neg n1
    have hv : v157 x1 M = v156 x1 (zmS M 0 (Int32.ofInt 0)) := if_neg n1
    have key : R69 x1 S = .inl (some (.int (v156 x1 (zmS M 0 (Int32.ofInt 0))))) := by
      obtain ⟨k2, k3⟩ := zV15_9 h0
      rcases (show x1.toInt = 2 ∨ x1.toInt = 3 by omega) with k | k
      · obtain rfl : x1 = Int32.ofInt 2 := Int32.toInt_inj.mp (k.trans (by decide))
        rw [← k2]
        exact if_pos rfl
      · obtain rfl : x1 = Int32.ofInt 3 := Int32.toInt_inj.mp (k.trans (by decide))
        rw [← k3]
        exact (if_neg (by decide)).trans (if_pos rfl)
    rw [hr, hv]
    exact ⟨h0, Or.inl ⟨_, key, rfl, zM00⟩⟩
  · have n1 : v112 x1 (Int32.ofInt 2) (Int32.ofInt 3) (zmS M 0 (Int32.ofInt 0)) = 0 := v112_1.mpr (by rw [z2, z3]; exact r1)
    have hR : R69 x1 S = .inr 0 := (if_neg (fun z => r1 (by rw [z, z2]; omega))).trans (if_neg (fun z => r1 (by rw [z, z3]; omega)))
    have hr : r157 x1 M = r111 (Int32.ofInt 1) (zmS M 0 (Int32.ofInt 0)) := if_pos n1
    rw [hR, hr]
    exact ⟨zE_0 h0, Or.inr ⟨0, rfl, show Int32.ofInt 1 = kc_203 0 by decide⟩⟩
theorem zZ_69 (h : zZ S M) : zZ (F69 x1 S) (r157 x1 M) := by
  have z := (zM_69 (x1 := x1) h.2.2).1
  rw [Fe_69] at z ⊢
  exact ⟨zA0_fr (W := []) (V := []) fm_rf gr_157 (by decide) h.1, zSp_fr (W := []) (V := []) fm_rf gr_157 (by decide) h.2.1, z⟩
theorem zC9_69 (h : zZ S M) : zAn (R69 x1 S) (v157 x1 M) ((r157 x1 M).1 0) kc_203 := (zM_69 h.2.2).2
end ZL3Z
