/-! what law3aa wants of fooled's and isSound's texts -/
section ZAB_law3z
variable {S S' : zSt} {M M' : zRt} {u v w x x1 : Int32} {n a b k m s i : Nat}
theorem zbit {x : Int32} {c : Nat} (hc : c < 16) : ((x >>> (Int32.ofNat c &&& 31)) &&& Int32.ofInt 1 = Int32.ofInt 1) ↔ x.toBitVec.getLsbD c = true := by
  have e : ((Int32.ofNat c &&& 31).toBitVec.smod 32).toNat = c := by
    have z : (List.range 16).all (fun c => decide (((Int32.ofNat c &&& 31).toBitVec.smod 32).toNat = c)) = true := by decide +kernel
    exact of_decide_eq_true (List.all_eq_true.mp z c (List.mem_range.mpr hc))
  have h1 : ((x >>> (Int32.ofNat c &&& 31)) &&& Int32.ofInt 1).toBitVec = (x.toBitVec.sshiftRight c) &&& 1#32 := by
    rw [Int32.toBitVec_and, Int32.toBitVec_shiftRight]
    show (x.toBitVec.sshiftRight ((Int32.ofNat c &&& 31).toBitVec.smod 32).toNat) &&& _ = _
    rw [e]
    rfl
  have h2 : (Int32.ofInt 1).toBitVec = 1#32 := by decide
  rw [← Int32.toBitVec_inj, h1, h2]
  have h3 : (x.toBitVec.sshiftRight c).getLsbD 0 = x.toBitVec.getLsbD c := by
    rw [BitVec.getLsbD_sshiftRight, if_pos (by omega), Nat.add_zero]
    rfl
  constructor
  · intro h
    have h : (x.toBitVec.sshiftRight c &&& 1#32).getLsbD 0 = (1#32).getLsbD 0 := congrArg (fun b => b.getLsbD 0) h
    have o : (1#32).getLsbD 0 = true := by decide
    rw [BitVec.getLsbD_and, h3, o, Bool.and_true] at h
    exact h
  · intro h
    refine BitVec.eq_of_getLsbD_eq (fun i hi => ?_)
    rw [BitVec.getLsbD_and]
    by_cases i0 : i = 0
    · rw [i0, h3, h]
      rfl
    · have z : (1#32).getLsbD i = false := by
        rw [BitVec.getLsbD_one]
        simp [i0]
      rw [z, Bool.and_false]
end ZAB_law3z
section ZAB_law3v
variable {S S' : zSt} {M M' : zRt} {u v w x x1 : Int32} {n a b k m l p : Nat}
def zlv (S : zSt) (c : Int32) (j : Nat) : Nat → Option Bool
  | 0 => none
  | k + 1 => if zgt (S.2 6) (Int32.ofNat k) = c ∧ (zgt (S.2 7) (Int32.ofNat k)).toBitVec.getLsbD j = true then some (decide (zgt (S.2 8) (Int32.ofNat k) = Int32.ofInt 1)) else zlv S c j k
theorem zmskb {c j : Nat} (hc : c < 16) (hj : j < 32) : (Int32.ofInt 1 <<< (Int32.ofNat c &&& 31)).toBitVec.getLsbD j = decide (j = c) ∧ ((Int32.ofInt 1 <<< (Int32.ofNat c &&& 31)) ^^^ (Int32.ofInt (-1))).toBitVec.getLsbD j = !decide (j = c) := by
  have e : (List.range 16).all (fun c => (List.range 32).all (fun j => decide ((Int32.ofInt 1 <<< (Int32.ofNat c &&& 31)).toBitVec.getLsbD j = decide (j = c) ∧ ((Int32.ofInt 1 <<< (Int32.ofNat c &&& 31)) ^^^ (Int32.ofInt (-1))).toBitVec.getLsbD j = !decide (j = c)))) = true := by decide +kernel
  exact of_decide_eq_true (List.all_eq_true.mp (List.all_eq_true.mp e c (List.mem_range.mpr hc)) j (List.mem_range.mpr hj))
theorem zW42_b (h : zFq (S.1 9) (S.2 6) (S.2 7) (S.2 8) (M.2.2.1 0)) {j : Nat} (hj : j < 32) {y : Int32} : ∀ k, k ≤ (M.2.2.1 0).length → (W42 x y S w k).toBitVec.getLsbD j = (zlv S x j k).getD (w.toBitVec.getLsbD j)
  | 0, _ => rfl
  | k + 1, hk => by
    have ih := zW42_b h hj (y := y) k (by omega)
    have h24 := h.2.1
    show (D42 x y S k (W42 x y S w k)).toBitVec.getLsbD j = (if zgt (S.2 6) (Int32.ofNat k) = x ∧ (zgt (S.2 7) (Int32.ofNat k)).toBitVec.getLsbD j = true then some (decide (zgt (S.2 8) (Int32.ofNat k) = Int32.ofInt 1)) else zlv S x j k).getD _
    obtain ⟨U, hU⟩ : ∃ U, U = W42 x y S w k := ⟨_, rfl⟩
    rw [← hU] at ih ⊢
    obtain ⟨a, b, c, d, e0, ha, hb, hc, e4, e5, e6⟩ := h.2.2.2 k _ (List.getElem?_eq_getElem (by omega))
    obtain ⟨m1, m2⟩ := zmskb hc hj
    unfold D42
    rw [e4, e5, e6, m1]
    by_cases q : Int32.ofNat (a * 8 + b) = x
    · rw [if_pos q]
      by_cases t : j = c
      · have qc : Int32.ofNat (a * 8 + b) = x ∧ decide (j = c) = true := ⟨q, decide_eq_true t⟩
        rw [if_pos qc]
        by_cases v1 : d = Int32.ofInt 1
        · rw [if_pos v1, Int32.toBitVec_or, BitVec.getLsbD_or, m1, decide_eq_true t, Bool.or_true, decide_eq_true v1]
          rfl
        · rw [if_neg v1, Int32.toBitVec_and, BitVec.getLsbD_and, m2, decide_eq_true t, decide_eq_false v1]
          exact Bool.and_false _
      · have qn : ¬ (Int32.ofNat (a * 8 + b) = x ∧ decide (j = c) = true) := fun z => t (of_decide_eq_true z.2)
        rw [if_neg qn, ← ih]
        by_cases v1 : d = Int32.ofInt 1
        · rw [if_pos v1, Int32.toBitVec_or, BitVec.getLsbD_or, m1, decide_eq_false t, Bool.or_false]
        · rw [if_neg v1, Int32.toBitVec_and, BitVec.getLsbD_and, m2, decide_eq_false t]
          exact Bool.and_true _
    · have qn : ¬ (Int32.ofNat (a * 8 + b) = x ∧ decide (j = c) = true) := fun z => q z.1
      rw [if_neg q, if_neg qn, ih]
end ZAB_law3v
section ZAB_law3v2
variable {S S' : zSt} {M M' : zRt} {u v w x x1 : Int32} {n a b k m l p j : Nat}
def zRbt (S : zSt) (x : Int32) (j i : Nat) : Prop := zgt (S.2 6) (Int32.ofNat i) = x ∧ (zgt (S.2 7) (Int32.ofNat i)).toBitVec.getLsbD j = true
theorem zlv_s : ∀ n, (zlv S x j n = none ∧ ∀ i, i < n → ¬ zRbt S x j i) ∨ (∃ i, i < n ∧ zRbt S x j i ∧ zlv S x j n = some (decide (zgt (S.2 8) (Int32.ofNat i) = Int32.ofInt 1)) ∧ ∀ t, i < t → t < n → ¬ zRbt S x j t)
  | 0 => Or.inl ⟨rfl, fun i hi => absurd hi (Nat.not_lt_zero _)⟩
  | n + 1 => by
    have e : zlv S x j (n + 1) = if zgt (S.2 6) (Int32.ofNat n) = x ∧ (zgt (S.2 7) (Int32.ofNat n)).toBitVec.getLsbD j = true then some (decide (zgt (S.2 8) (Int32.ofNat n) = Int32.ofInt 1)) else zlv S x j n := rfl
    by_cases q : zRbt S x j n
    · exact Or.inr ⟨n, by omega, q, e.trans (if_pos q), fun t t1 t2 => absurd t2 (by omega)⟩
    · have e9 : zlv S x j (n + 1) = zlv S x j n := e.trans (if_neg q)
      rw [e9]
      rcases zlv_s n with ⟨y1, y2⟩ | ⟨i, y1, y2, y3, y4⟩
      · refine Or.inl ⟨y1, fun i hi => ?_⟩
        by_cases z : i = n
        · rw [z]
          exact q
        · exact y2 i (by omega)
      · refine Or.inr ⟨i, by omega, y2, y3, fun t t1 t2 => ?_⟩
        by_cases z : t = n
        · rw [z]
          exact q
        · exact y4 t t1 (by omega)
def zse (M : zRt) (k i : Nat) : Int32 := zgt ((M.2.2.1 0).getD (Int32.toNatClampNeg (Int32.ofNat k)) []) (Int32.ofNat i)
theorem zse_f (h : zE S M) (hk : k < (M.2.2.1 0).length) : ∃ (A B C : Nat) (d : Int32), A < 20 ∧ B < 8 ∧ C < 16 ∧ zgt (S.2 6) (Int32.ofNat k) = Int32.ofNat (A * 8 + B) ∧ zgt (S.2 7) (Int32.ofNat k) = Int32.ofInt 1 <<< (Int32.ofNat C &&& 31) ∧ zgt (S.2 8) (Int32.ofNat k) = d ∧ zse M k 0 = Int32.ofNat A ∧ zse M k 1 = Int32.ofNat B ∧ zse M k 2 = Int32.ofNat C ∧ zse M k 3 = d := by
  have hq := h.1.2.1.2.1
  have h24 := hq.2.1
  obtain ⟨a, b, c, d, e0, ha, hb, hc, e4, e5, e6⟩ := hq.2.2.2 k _ (List.getElem?_eq_getElem hk)
  have eg : (M.2.2.1 0).getD (Int32.toNatClampNeg (Int32.ofNat k)) [] = [Int32.ofNat a, Int32.ofNat b, Int32.ofNat c, d] := by
    rw [zcl_of (by omega), List.getD_eq_getElem?_getD, List.getElem?_eq_getElem hk, ← e0]
    rfl
  unfold zse
  rw [eg]
  exact ⟨a, b, c, d, ha, hb, hc, e4, e5, e6, rfl, rfl, rfl, rfl⟩
end ZAB_law3v2
/-! wouldLeak: of both. -/
section ZL3AA
variable {S S' : zSt} {M M' : zRt} {u v w x x1 x2 : Int32} {n a b k m l p j : Nat} {r : List Int32}
/-- what the row of the leaked ones has no part in -/
theorem z5_f (hr : r.length = (S.2 5).length) : zfrm [] [5] (z5 S r) S := by
  refine ⟨fun _ _ => rfl, fun i hi => if_neg (fun z => hi (List.mem_singleton.mpr z)), fun i => ?_⟩
  show (if i = 5 then r else S.2 i).length = _
  split
  · next z =>
    rw [z]
    exact hr
  · rfl
theorem z5_n {i : Nat} (hi : i ≠ 5) : (z5 S r).2 i = S.2 i := if_neg hi
theorem z5_5 : (z5 S r).2 5 = r := by
  show (if (5 : Nat) = 5 then r else S.2 5) = r
  exact if_pos rfl
theorem z5_1 : (z5 S r).1 = S.1 := rfl
theorem z5_49 : V49 x1 x2 (z5 S r) = V49 x1 x2 S := by
  unfold V49
  rw [V42_cg (S := S) (S' := z5 S r) rfl (z5_n (by decide)) (z5_n (by decide)) (z5_n (by decide)), z5_n (by decide)]
theorem z5_50q : ∀ m k u, Q50 x1 x2 (z5 S r) m k u = Q50 x1 x2 S m k u
  | 0, _, _ => rfl
  | m + 1, k, u => by
    have e : ∀ S : zSt, Q50 x1 x2 S (m + 1) k u = if (((Int32.ofNat k)) - u).toInt < (zgt (S.2 11) x1).toInt then (if (V47 ((Int32.ofNat k)) S) = ((0 : Int32)) then (Q50 x1 x2 S m (k + 1) u) else (Q50 x1 x2 S m (k + 1) ((Int32.ofNat k)))) else ((Int32.ofInt 1)) := fun _ => rfl
    rw [e, e, z5_50q m, z5_50q m, z5_n (by decide), show V47 (Int32.ofNat k) (z5 S r) = V47 (Int32.ofNat k) S from rfl]
theorem z5_50 : V50 x1 x2 (z5 S r) = V50 x1 x2 S := by
  unfold V50
  rw [z5_50q, z5_n (by decide), z5_n (by decide)]
  rfl
/-- an entry of what is weak, of both -/
def zwk9 (M : zRt) (k i : Nat) : Int32 := zgt ((M.2.2.1 1).getD (Int32.toNatClampNeg (Int32.ofNat k)) []) (Int32.ofInt i)
theorem zwe_f (h : zE S M) (hk : k < (M.2.2.1 1).length) : ∃ (A B C : Nat) (d : Int32), A < 20 ∧ B < 8 ∧ C < 16 ∧ zgt (S.2 9) (Int32.ofNat k) = Int32.ofNat (A * 8 + B) ∧ zgt (S.2 10) (Int32.ofNat k) = Int32.ofInt 1 <<< (Int32.ofNat C &&& 31) ∧ zgt (S.2 11) (Int32.ofNat k) = d ∧ zwk9 M k 0 = Int32.ofNat A ∧ zwk9 M k 1 = Int32.ofNat B ∧ zwk9 M k 2 = Int32.ofNat C ∧ zwk9 M k 3 = d := by
  have hq := h.1.2.1.2.2
  have h24 := hq.2.1
  obtain ⟨a, b, c, d, e0, ha, hb, hc, e4, e5, e6⟩ := hq.2.2.2 k _ (List.getElem?_eq_getElem hk)
  have eg : (M.2.2.1 1).getD (Int32.toNatClampNeg (Int32.ofNat k)) [] = [Int32.ofNat a, Int32.ofNat b, Int32.ofNat c, d] := by
    rw [zcl_of (by omega), List.getD_eq_getElem?_getD, List.getElem?_eq_getElem hk, ← e0]
    rfl
  unfold zwk9
  rw [eg]
  exact ⟨a, b, c, d, ha, hb, hc, e4, e5, e6, rfl, rfl, rfl, rfl⟩
theorem zbm0 {C : Nat} (hC : C < 16) : (x &&& (Int32.ofInt 1 <<< (Int32.ofNat C &&& 31)) = ((0 : Int32))) ↔ x.toBitVec.getLsbD C = false := by
  have m := fun j hj => (zmskb (c := C) (j := j) hC hj).1
  constructor
  · intro h
    have h := congrArg (fun y : Int32 => y.toBitVec.getLsbD C) h
    simp only [Int32.toBitVec_and, BitVec.getLsbD_and] at h
    rw [m C (by omega), decide_eq_true rfl, Bool.and_true] at h
    rw [h]
    exact BitVec.getLsbD_zero
  · intro h
    refine Int32.toBitVec_inj.mp (BitVec.eq_of_getLsbD_eq (fun i hi => ?_))
    rw [Int32.toBitVec_and, BitVec.getLsbD_and, m i hi]
    have z : ((0 : Int32).toBitVec).getLsbD i = false := BitVec.getLsbD_zero
    rw [z]
    by_cases y : i = C
    · rw [y, h]
      rfl
    · rw [decide_eq_false y, Bool.and_false]
/-- the reference: stuck is one of the list -/
theorem zq181 {A B C : Nat} (h0 : zwk9 M a 0 = Int32.ofNat A) (h1 : zwk9 M a 1 = Int32.ofNat B) (h2 : zwk9 M a 2 = Int32.ofNat C) : ∀ m k, (q181 (Int32.ofNat a) M m k = Int32.ofInt 1 ∧ ∃ t, k ≤ t ∧ t < k + m ∧ zse M t 0 = Int32.ofNat A ∧ zse M t 1 = Int32.ofNat B ∧ zse M t 2 = Int32.ofNat C) ∨ (q181 (Int32.ofNat a) M m k = Int32.ofInt 0 ∧ ∀ t, k ≤ t → t < k + m → ¬ (zse M t 0 = Int32.ofNat A ∧ zse M t 1 = Int32.ofNat B ∧ zse M t 2 = Int32.ofNat C))
  | 0, k => Or.inr ⟨rfl, fun t t1 t2 => absurd t2 (by omega)⟩
  | m + 1, k => by
    have e : q181 (Int32.ofNat a) M (m + 1) k = if zse M k 0 = zwk9 M a 0 then (if zse M k 1 = zwk9 M a 1 then (if zse M k 2 = zwk9 M a 2 then ((Int32.ofInt 1)) else (q181 (Int32.ofNat a) M m (k + 1))) else (q181 (Int32.ofNat a) M m (k + 1))) else (q181 (Int32.ofNat a) M m (k + 1)) := rfl
    rw [h0, h1, h2] at e
    by_cases q : zse M k 0 = Int32.ofNat A ∧ zse M k 1 = Int32.ofNat B ∧ zse M k 2 = Int32.ofNat C
    · exact Or.inl ⟨e.trans ((if_pos q.1).trans ((if_pos q.2.1).trans (if_pos q.2.2))), k, Nat.le_refl _, by omega, q⟩
    · have e9 : q181 (Int32.ofNat a) M (m + 1) k = q181 (Int32.ofNat a) M m (k + 1) := by
        rw [e]
        by_cases q0 : zse M k 0 = Int32.ofNat A
        · by_cases q1 : zse M k 1 = Int32.ofNat B
          · rw [if_pos q0, if_pos q1, if_neg (fun z => q ⟨q0, q1, z⟩)]
          · rw [if_pos q0, if_neg q1]
        · rw [if_neg q0]
      rw [e9]
      rcases zq181 h0 h1 h2 m (k + 1) with ⟨y1, t, y2, y3, y4⟩ | ⟨y1, y2⟩
      · exact Or.inl ⟨y1, t, by omega, by omega, y4⟩
      · refine Or.inr ⟨y1, fun t t1 t2 => ?_⟩
        by_cases z : t = k
        · rw [z]
          exact q
        · exact y2 t (by omega) (by omega)
/-- a bit that leaks, of both -/
def zLc (x1 : Int32) (S : zSt) (k : Nat) : Prop := ¬ V49 (zgt (S.2 9) (Int32.ofNat k)) (zgt (S.2 10) (Int32.ofNat k)) S = ((0 : Int32)) ∧ ¬ V50 (Int32.ofNat k) x1 S = ((0 : Int32))
theorem zQ50r (h : zE S M) (hk : zgt (S.2 11) (Int32.ofNat n) = zwk9 M n 3) : ∀ m k u, Q50 (Int32.ofNat n) x1 S m k u = q182 (Int32.ofNat n) x1 M m k u
  | 0, _, _ => rfl
  | m + 1, k, u => by
    obtain ⟨⟨s1, s2⟩, -⟩ := zE_s h
    have e1 : Q50 (Int32.ofNat n) x1 S (m + 1) k u = if (((Int32.ofNat k)) - u).toInt < (zgt (S.2 11) (Int32.ofNat n)).toInt then (if (V47 ((Int32.ofNat k)) S) = ((0 : Int32)) then (Q50 (Int32.ofNat n) x1 S m (k + 1) u) else (Q50 (Int32.ofNat n) x1 S m (k + 1) ((Int32.ofNat k)))) else ((Int32.ofInt 1)) := rfl
    have e2 : q182 (Int32.ofNat n) x1 M (m + 1) k u = if (((Int32.ofNat k)) - u).toInt < (zwk9 M n 3).toInt then (if (zrmd ((Int32.ofNat k)) (M.1 5)) = ((0 : Int32)) then (q182 (Int32.ofNat n) x1 M m (k + 1) ((Int32.ofNat k))) else (q182 (Int32.ofNat n) x1 M m (k + 1) u)) else ((Int32.ofInt 1)) := rfl
    have p5 : (0 : Int32).toInt < (S.1 5).toInt := by
      rw [zero_z]
      omega
    have e47 : V47 (Int32.ofNat k) S = if zrmd (Int32.ofNat k) (S.1 5) = 0 then Int32.ofInt 1 else Int32.ofInt 0 := if_pos p5
    rw [e1, e2, hk, zQ50r h hk m, zQ50r h hk m, e47, s1]
    have n00 : Int32.ofInt 0 = ((0 : Int32)) := by decide
    have n10 : ¬ Int32.ofInt 1 = ((0 : Int32)) := by decide
    by_cases q : zrmd (Int32.ofNat k) (M.1 5) = 0
    · rw [if_pos q, if_pos q, if_neg n10]
    · rw [if_neg q, if_neg q, if_pos n00]
theorem zqr160 {n : Nat} (h : n < 160) : zqtd (Int32.ofNat n) (Int32.ofInt 8) = Int32.ofNat (n / 8) := by
  have e : (List.range 160).all (fun n => decide (zqtd (Int32.ofNat n) (Int32.ofInt 8) = Int32.ofNat (n / 8))) = true := by decide +kernel
  exact of_decide_eq_true (List.all_eq_true.mp e n (List.mem_range.mpr h))
theorem zE_182 (h : zE S M) (hk : n < (M.2.2.1 1).length) : (¬ v182 (Int32.ofNat n) x1 M = ((0 : Int32))) ↔ zLc x1 S n := by
  obtain ⟨A, B, C, d, hA, hB, hC, f1, f2, f3, g0, g1, g2, g3⟩ := zwe_f h hk
  have hq := h.1.2.1.2.1
  have h24 := hq.2.1
  have cn := zE_c h
  have sk := (zE_sk h).1 A B hA hB
  have e50 : V50 (Int32.ofNat n) x1 S = q182 (Int32.ofNat n) x1 M x1.toInt.toNat ((M.1 4).toInt.toNat + 1) (zgt (M.2.1 21) (Int32.ofNat A)) := by
    unfold V50
    rw [f1, zqr160 (by omega), show (A * 8 + B) / 8 = A by omega, zE_tk h, cn.2.1.1]
    exact zQ50r h (f3.trans g3.symm) _ _ _
  have ev : v182 (Int32.ofNat n) x1 M = if v113 (zgt (M.2.1 A) (Int32.ofNat B)) (Int32.ofNat C) M = ((0 : Int32)) then Int32.ofInt 0 else if v181 (Int32.ofNat n) M = ((0 : Int32)) then V50 (Int32.ofNat n) x1 S else Int32.ofInt 0 := by
    have e : v182 (Int32.ofNat n) x1 M = if v113 (zgt (M.2.1 (Int32.toNatClampNeg (zwk9 M n 0))) (zwk9 M n 1)) (zwk9 M n 2) M = ((0 : Int32)) then Int32.ofInt 0 else if v181 (Int32.ofNat n) M = ((0 : Int32)) then q182 (Int32.ofNat n) x1 M x1.toInt.toNat ((M.1 4).toInt.toNat + 1) (zgt (M.2.1 21) (zwk9 M n 0)) else Int32.ofInt 0 := rfl
    rw [e, g0, g1, g2, zcl_of (by omega), e50]
  have n00 : Int32.ofInt 0 = ((0 : Int32)) := by decide
  have n10 : ¬ Int32.ofInt 1 = ((0 : Int32)) := by decide
  -- the word's bit
  obtain ⟨W, hW⟩ : ∃ W, W = zgt (S.2 2) (Int32.ofNat (A * 8 + B)) := ⟨_, rfl⟩
  have eW : zgt (M.2.1 A) (Int32.ofNat B) = W := by
    rw [hW]
    exact ((zE_w h).2.2 A B hA hB).symm
  rw [← hW] at sk
  have e113 : v113 W (Int32.ofNat C) M = if W.toBitVec.getLsbD C = true then Int32.ofInt 1 else Int32.ofInt 0 := by
    unfold v113
    by_cases y : W.toBitVec.getLsbD C = true
    · rw [if_pos y, if_pos ((zbit hC).mpr y)]
    · rw [if_neg y, if_neg (fun z => y ((zbit hC).mp z))]
  have e9 : (Int32.ofNat (M.2.2.1 0).length).toInt.toNat = (M.2.2.1 0).length := by
    rw [zof_0 (by omega)]
    omega
  have e42 : ∀ w : Int32, (V42 (Int32.ofNat (A * 8 + B)) w S).toBitVec.getLsbD C = (zlv S (Int32.ofNat (A * 8 + B)) C (M.2.2.1 0).length).getD (w.toBitVec.getLsbD C) := fun w => by
    unfold V42 Y42
    rw [hq.1, e9]
    exact zW42_b hq (by omega) _ (Nat.le_refl _)
  have e49 : V49 (zgt (S.2 9) (Int32.ofNat n)) (zgt (S.2 10) (Int32.ofNat n)) S = if W &&& (Int32.ofInt 1 <<< (Int32.ofNat C &&& 31)) = ((0 : Int32)) then Int32.ofInt 0 else if V42 (Int32.ofNat (A * 8 + B)) (W &&& ((Int32.ofInt 1 <<< (Int32.ofNat C &&& 31)) ^^^ (Int32.ofInt (-1)))) S &&& (Int32.ofInt 1 <<< (Int32.ofNat C &&& 31)) = ((0 : Int32)) then Int32.ofInt 1 else Int32.ofInt 0 := by
    rw [f1, f2, hW]
    rfl
  unfold zLc
  rw [ev, eW, e113, e49]
  by_cases y : W.toBitVec.getLsbD C = true
  · have nW : ¬ W &&& (Int32.ofInt 1 <<< (Int32.ofNat C &&& 31)) = ((0 : Int32)) := fun z => by
      rw [(zbm0 hC).mp z] at y
      cases y
    rw [if_pos y, if_neg n10, if_neg nW]
    have eb : (W &&& ((Int32.ofInt 1 <<< (Int32.ofNat C &&& 31)) ^^^ (Int32.ofInt (-1)))).toBitVec.getLsbD C = false := by
      rw [Int32.toBitVec_and, BitVec.getLsbD_and, (zmskb hC (show C < 32 by omega)).2, decide_eq_true rfl]
      exact Bool.and_false _
    have e5 := e42 (W &&& ((Int32.ofInt 1 <<< (Int32.ofNat C &&& 31)) ^^^ (Int32.ofInt (-1))))
    have e6 := e42 W
    rw [eb] at e5
    rw [sk, y] at e6
    have st : ∀ t, t < (M.2.2.1 0).length → (zRbt S (Int32.ofNat (A * 8 + B)) C t ↔ (zse M t 0 = Int32.ofNat A ∧ zse M t 1 = Int32.ofNat B ∧ zse M t 2 = Int32.ofNat C)) := fun t ht => by
      obtain ⟨A2, B2, C2, d2, a1, a2, a3, k1, k2, k3, m0, m1, m2, m3⟩ := zse_f h ht
      unfold zRbt
      rw [k1, k2, m0, m1, m2, (zmskb a3 (show C < 32 by omega)).1]
      refine ⟨fun z => ?_, fun z => ?_⟩
      · obtain ⟨z1, z2⟩ := (zFe_ne a1 a2 hA hB).mp z.1
        have z3 := of_decide_eq_true z.2
        exact ⟨by rw [z1], by rw [z2], by rw [z3]⟩
      · obtain ⟨z1, z2, z3⟩ := z
        have z1 := (zof_l (by omega) (by omega)).mp z1
        have z2 := (zof_l (by omega) (by omega)).mp z2
        have z3 := (zof_l (by omega) (by omega)).mp z3
        exact ⟨by rw [z1, z2], decide_eq_true z3.symm⟩
    have e181 : v181 (Int32.ofNat n) M = q181 (Int32.ofNat n) M (M.2.2.1 0).length 0 := by
      unfold v181
      rw [e9]
    rcases zq181 (M := M) (a := n) g0 g1 g2 (M.2.2.1 0).length 0 with ⟨y1, t, y2, y3, y4⟩ | ⟨y1, y2⟩
    · -- it is stuck
      rw [e181, y1, if_neg n10]
      have Rt := (st t (by omega)).mpr y4
      rcases zlv_s (S := S) (x := Int32.ofNat (A * 8 + B)) (j := C) (M.2.2.1 0).length with ⟨c1, c2⟩ | ⟨i, c1, c2, c3, c4⟩
      · exact absurd Rt (c2 t (by omega))
      · rw [c3] at e5 e6
        have ed : decide (zgt (S.2 8) (Int32.ofNat i) = Int32.ofInt 1) = true := e6.symm
        rw [ed] at e5
        rw [if_neg (fun z => by
          have z := (zbm0 hC).mp z
          rw [e5] at z
          cases z)]
        exact ⟨fun z => absurd n00 z, fun z => absurd n00 z.1⟩
    · rw [e181, y1, if_pos n00]
      rcases zlv_s (S := S) (x := Int32.ofNat (A * 8 + B)) (j := C) (M.2.2.1 0).length with ⟨c1, c2⟩ | ⟨i, c1, c2, c3, c4⟩
      · rw [c1] at e5
        rw [if_pos ((zbm0 hC).mpr e5)]
        exact ⟨fun z => ⟨n10, z⟩, fun z => z.2⟩
      · exact absurd ((st i c1).mp c2) (y2 i (Nat.zero_le _) (by omega))
  · rw [if_neg y, if_pos n00, if_pos ((zbm0 hC).mpr (Bool.eq_false_iff.mpr y))]
    exact ⟨fun z => absurd n00 z, fun z => absurd n00 z.1⟩
/-- the reference: new, or told before -/
theorem zp183_0 : ∀ m k, p183 x1 a M m k ((0 : Int32)) = ((0 : Int32))
  | 0, _ => rfl
  | _ + 1, _ => if_pos rfl
def zsw3 (M : zRt) (t a : Nat) : Prop := zwk9 M t 0 = zwk9 M a 0 ∧ zwk9 M t 1 = zwk9 M a 1 ∧ zwk9 M t 2 = zwk9 M a 2
theorem zv184 : ¬ v184 (Int32.ofNat k) (Int32.ofNat a) M = ((0 : Int32)) ↔ zsw3 M k a := by
  have n00 : Int32.ofInt 0 = ((0 : Int32)) := by decide
  have n10 : ¬ Int32.ofInt 1 = ((0 : Int32)) := by decide
  have e : v184 (Int32.ofNat k) (Int32.ofNat a) M = if zwk9 M k 0 = zwk9 M a 0 then (if zwk9 M k 1 = zwk9 M a 1 then (if zwk9 M k 2 = zwk9 M a 2 then ((Int32.ofInt 1)) else ((Int32.ofInt 0))) else ((Int32.ofInt 0))) else ((Int32.ofInt 0)) := rfl
  unfold zsw3
  rw [e]
  by_cases q0 : zwk9 M k 0 = zwk9 M a 0
  · by_cases q1 : zwk9 M k 1 = zwk9 M a 1
    · by_cases q2 : zwk9 M k 2 = zwk9 M a 2
      · rw [if_pos q0, if_pos q1, if_pos q2]
        exact ⟨fun _ => ⟨q0, q1, q2⟩, fun _ => n10⟩
      · rw [if_pos q0, if_pos q1, if_neg q2]
        exact ⟨fun z => absurd n00 z, fun z => absurd z.2.2 q2⟩
    · rw [if_pos q0, if_neg q1]
      exact ⟨fun z => absurd n00 z, fun z => absurd z.2.1 q1⟩
  · rw [if_neg q0]
    exact ⟨fun z => absurd n00 z, fun z => absurd z.1 q0⟩
theorem zp183 : ∀ m k u, (¬ p183 x1 a M m k u = ((0 : Int32))) ↔ (¬ u = ((0 : Int32)) ∧ ∀ t, k ≤ t → t < k + m → ¬ (zsw3 M t a ∧ ¬ v182 (Int32.ofNat t) x1 M = ((0 : Int32))))
  | 0, k, u => ⟨fun z => ⟨z, fun t t1 t2 => absurd t2 (by omega)⟩, fun z => z.1⟩
  | m + 1, k, u => by
    have e : p183 x1 a M (m + 1) k u = if u = ((0 : Int32)) then u else (if (v184 ((Int32.ofNat k)) (Int32.ofNat a) M) = ((0 : Int32)) then (p183 x1 a M m (k + 1) (Int32.ofInt 1)) else (if (v182 ((Int32.ofNat k)) x1 M) = ((0 : Int32)) then (p183 x1 a M m (k + 1) (Int32.ofInt 1)) else (p183 x1 a M m (k + 1) (Int32.ofInt 0)))) := rfl
    have n00 : Int32.ofInt 0 = ((0 : Int32)) := by decide
    have n10 : ¬ Int32.ofInt 1 = ((0 : Int32)) := by decide
    rw [e]
    by_cases q : u = ((0 : Int32))
    · rw [if_pos q]
      exact ⟨fun z => absurd q z, fun z => absurd q z.1⟩
    · rw [if_neg q]
      by_cases y : zsw3 M k a ∧ ¬ v182 (Int32.ofNat k) x1 M = ((0 : Int32))
      · rw [if_neg (zv184.mpr y.1), if_neg y.2, n00, zp183_0]
        exact ⟨fun z => absurd rfl z, fun z => absurd y (z.2 k (Nat.le_refl _) (by omega))⟩
      · have e9 : (if (v184 ((Int32.ofNat k)) (Int32.ofNat a) M) = ((0 : Int32)) then (p183 x1 a M m (k + 1) (Int32.ofInt 1)) else (if (v182 ((Int32.ofNat k)) x1 M) = ((0 : Int32)) then (p183 x1 a M m (k + 1) (Int32.ofInt 1)) else (p183 x1 a M m (k + 1) (Int32.ofInt 0)))) = p183 x1 a M m (k + 1) (Int32.ofInt 1) := by
          by_cases z : v184 (Int32.ofNat k) (Int32.ofNat a) M = ((0 : Int32))
          · rw [if_pos z]
          · rw [if_neg z, if_pos (Classical.byContradiction (fun t => y ⟨zv184.mp z, t⟩))]
        rw [e9, zp183 m (k + 1) (Int32.ofInt 1)]
        refine ⟨fun z => ⟨q, fun t t1 t2 => ?_⟩, fun z => ⟨n10, fun t t1 t2 => z.2 t (by omega) (by omega)⟩⟩
        by_cases g : t = k
        · rw [g]
          exact y
        · exact z.2 t (by omega) (by omega)
/-- how many, of both -/
theorem zE_48l (h : zE S M) (h5 : (S.2 5).length = 160) : ∀ k, k ≤ (M.2.2.1 1).length → (W48 x1 S (Int32.ofInt 0, List.replicate (S.2 5).length (Int32.ofInt 0)) k).1 = w183 x1 M k ∧ ∀ A B C : Nat, A < 20 → B < 8 → C < 16 → ((zgt (W48 x1 S (Int32.ofInt 0, List.replicate (S.2 5).length (Int32.ofInt 0)) k).2 (Int32.ofNat (A * 8 + B))).toBitVec.getLsbD C = true ↔ ∃ t, t < k ∧ zwk9 M t 0 = Int32.ofNat A ∧ zwk9 M t 1 = Int32.ofNat B ∧ zwk9 M t 2 = Int32.ofNat C ∧ zLc x1 S t)
  | 0, _ => by
    refine ⟨rfl, fun A B C hA hB hC => ⟨fun z => ?_, fun ⟨t, t1, _⟩ => absurd t1 (Nat.not_lt_zero _)⟩⟩
    have e : zgt (List.replicate (S.2 5).length (Int32.ofInt 0)) (Int32.ofNat (A * 8 + B)) = Int32.ofInt 0 := by
      rw [zgt_n (by omega), List.getD_eq_getElem?_getD, List.getElem?_replicate, if_pos (by omega)]
      rfl
    have z9 : (zgt (List.replicate (S.2 5).length (Int32.ofInt 0)) (Int32.ofNat (A * 8 + B))).toBitVec.getLsbD C = true := z
    rw [e] at z9
    have z8 : (Int32.ofInt 0).toBitVec.getLsbD C = false := by
      rw [show (Int32.ofInt 0).toBitVec = 0#32 by decide]
      exact BitVec.getLsbD_zero
    rw [z8] at z9
    cases z9
  | k + 1, hk => by
    obtain ⟨i1, i2⟩ := zE_48l h h5 k (by omega)
    obtain ⟨U, hU⟩ : ∃ U, U = W48 x1 S (Int32.ofInt 0, List.replicate (S.2 5).length (Int32.ofInt 0)) k := ⟨_, rfl⟩
    have lU : U.2.length = 160 := by
      rw [hU, W48_n]
      show (List.replicate (S.2 5).length (Int32.ofInt 0)).length = 160
      rw [List.length_replicate]
      exact h5
    have eS : W48 x1 S (Int32.ofInt 0, List.replicate (S.2 5).length (Int32.ofInt 0)) (k + 1) = D48 x1 S k U := by
      rw [hU]
      rfl
    rw [eS]
    rw [← hU] at i1 i2
    obtain ⟨A, B, C, d, hA, hB, hC, f1, f2, f3, g0, g1, g2, g3⟩ := zwe_f h (k := k) (by omega)
    have e1 : (z5 S U.2).2 9 = S.2 9 := z5_n (by decide)
    have e2 : (z5 S U.2).2 10 = S.2 10 := z5_n (by decide)
    have e3 : (z5 S U.2).2 5 = U.2 := z5_5
    have sw : ∀ t, (zsw3 M t k ↔ (zwk9 M t 0 = Int32.ofNat A ∧ zwk9 M t 1 = Int32.ofNat B ∧ zwk9 M t 2 = Int32.ofNat C)) := fun t => by
      unfold zsw3
      rw [g0, g1, g2]
    have eD : D48 x1 S k U = if zgt U.2 (Int32.ofNat (A * 8 + B)) &&& (Int32.ofInt 1 <<< (Int32.ofNat C &&& 31)) = ((0 : Int32)) then (if V49 (zgt (S.2 9) (Int32.ofNat k)) (zgt (S.2 10) (Int32.ofNat k)) S = ((0 : Int32)) then U else if V50 (Int32.ofNat k) x1 S = ((0 : Int32)) then U else (U.1 + Int32.ofInt 1, zst U.2 (Int32.ofNat (A * 8 + B)) (zgt U.2 (Int32.ofNat (A * 8 + B)) ||| (Int32.ofInt 1 <<< (Int32.ofNat C &&& 31))))) else U := by
      unfold D48
      rw [e1, e2, e3, z5_49, z5_50, f1, f2]
    have ew : w183 x1 M (k + 1) = if p183 x1 k M k 0 (v182 (Int32.ofNat k) x1 M) = ((0 : Int32)) then w183 x1 M k + Int32.ofInt 0 else w183 x1 M k + Int32.ofInt 1 := rfl
    have ep := zp183 (x1 := x1) (a := k) (M := M) k 0 (v182 (Int32.ofNat k) x1 M)
    have eL := zE_182 (x1 := x1) h (n := k) (by omega)
    -- counted already
    by_cases c : zgt U.2 (Int32.ofNat (A * 8 + B)) &&& (Int32.ofInt 1 <<< (Int32.ofNat C &&& 31)) = ((0 : Int32))
    · have cb := (zbm0 hC).mp c
      have cn : ∀ t, t < k → ¬ (zsw3 M t k ∧ zLc x1 S t) := fun t ht z => by
        obtain ⟨z1, z2, z3⟩ := (sw t).mp z.1
        have y := (i2 A B C hA hB hC).mpr ⟨t, ht, z1, z2, z3, z.2⟩
        rw [cb] at y
        cases y
      by_cases L : zLc x1 S k
      · have eN : D48 x1 S k U = (U.1 + Int32.ofInt 1, zst U.2 (Int32.ofNat (A * 8 + B)) (zgt U.2 (Int32.ofNat (A * 8 + B)) ||| (Int32.ofInt 1 <<< (Int32.ofNat C &&& 31)))) := eD.trans ((if_pos c).trans ((if_neg L.1).trans (if_neg L.2)))
        have np : ¬ p183 x1 k M k 0 (v182 (Int32.ofNat k) x1 M) = ((0 : Int32)) := ep.mpr ⟨eL.mpr L, fun t t1 t2 z => cn t (by omega) ⟨z.1, (zE_182 h (by omega)).mp z.2⟩⟩
        rw [eN, ew, if_neg np, ← i1]
        refine ⟨rfl, fun A2 B2 C2 hA2 hB2 hC2 => ?_⟩
        show (zgt (zst U.2 (Int32.ofNat (A * 8 + B)) (zgt U.2 (Int32.ofNat (A * 8 + B)) ||| (Int32.ofInt 1 <<< (Int32.ofNat C &&& 31)))) (Int32.ofNat (A2 * 8 + B2))).toBitVec.getLsbD C2 = true ↔ _
        by_cases q : A2 * 8 + B2 = A * 8 + B
        · have qa : A2 = A := by omega
          have qb : B2 = B := by omega
          subst qa qb
          rw [zgt_eq9 (by rw [lU]; omega) (by omega), Int32.toBitVec_or, BitVec.getLsbD_or, (zmskb hC (show C2 < 32 by omega)).1, Bool.or_eq_true, decide_eq_true_eq, i2 A2 B2 C2 hA hB hC2]
          refine ⟨fun z => ?_, fun ⟨t, t1, t2, t3, t4, t5⟩ => ?_⟩
          · rcases z with ⟨t, t1, t2⟩ | z
            · exact ⟨t, by omega, t2⟩
            · exact ⟨k, by omega, g0, g1, by rw [g2, z], L⟩
          · by_cases y : t = k
            · rw [y, g2] at t4
              have := (zof_l (by omega) (by omega)).mp t4
              exact Or.inr this.symm
            · exact Or.inl ⟨t, by omega, t2, t3, t4, t5⟩
        · rw [zgt_ne9 (by omega) (by omega) q, i2 A2 B2 C2 hA2 hB2 hC2]
          refine ⟨fun ⟨t, t1, t2⟩ => ⟨t, by omega, t2⟩, fun ⟨t, t1, t2, t3, t4, t5⟩ => ?_⟩
          by_cases y : t = k
          · rw [y, g0] at t2
            rw [y, g1] at t3
            have := (zof_l (by omega) (by omega)).mp t2
            have := (zof_l (by omega) (by omega)).mp t3
            omega
          · exact ⟨t, by omega, t2, t3, t4, t5⟩
      · have eN : D48 x1 S k U = U := by
          rw [eD, if_pos c]
          by_cases q : V49 (zgt (S.2 9) (Int32.ofNat k)) (zgt (S.2 10) (Int32.ofNat k)) S = ((0 : Int32))
          · rw [if_pos q]
          · rw [if_neg q, if_pos (Classical.byContradiction (fun t => L ⟨q, t⟩))]
        have np : p183 x1 k M k 0 (v182 (Int32.ofNat k) x1 M) = ((0 : Int32)) := Classical.byContradiction (fun t => L (eL.mp (ep.mp t).1))
        rw [eN, ew, if_pos np, zad0, ← i1]
        refine ⟨rfl, fun A2 B2 C2 hA2 hB2 hC2 => ?_⟩
        rw [i2 A2 B2 C2 hA2 hB2 hC2]
        refine ⟨fun ⟨t, t1, t2⟩ => ⟨t, by omega, t2⟩, fun ⟨t, t1, t2, t3, t4, t5⟩ => ?_⟩
        by_cases y : t = k
        · rw [y] at t5
          exact absurd t5 L
        · exact ⟨t, by omega, t2, t3, t4, t5⟩
    · have cb : (zgt U.2 (Int32.ofNat (A * 8 + B))).toBitVec.getLsbD C = true := Classical.byContradiction (fun t => c ((zbm0 hC).mpr (Bool.eq_false_iff.mpr t)))
      obtain ⟨t0, t1, t2, t3, t4, t5⟩ := (i2 A B C hA hB hC).mp cb
      have np : p183 x1 k M k 0 (v182 (Int32.ofNat k) x1 M) = ((0 : Int32)) := Classical.byContradiction (fun t => (ep.mp t).2 t0 (Nat.zero_le _) (by omega) ⟨(sw t0).mpr ⟨t2, t3, t4⟩, (zE_182 h (by omega)).mpr t5⟩)
      rw [eD, if_neg c, ew, if_pos np, zad0, ← i1]
      refine ⟨rfl, fun A2 B2 C2 hA2 hB2 hC2 => ?_⟩
      rw [i2 A2 B2 C2 hA2 hB2 hC2]
      refine ⟨fun ⟨t, t1, t2⟩ => ⟨t, by omega, t2⟩, fun ⟨t, s1, s2, s3, s4, s5⟩ => ?_⟩
      by_cases y : t = k
      · rw [y, g0] at s2
        rw [y, g1] at s3
        rw [y, g2] at s4
        exact ⟨t0, t1, t2.trans s2, t3.trans s3, t4.trans s4, t5⟩
      · exact ⟨t, by omega, s2, s3, s4, s5⟩
end ZL3AA
