/-! isSound: of both. -/
section ZL3V9
variable {S S' : zSt} {M M' : zRt} {u v w x x1 : Int32} {n a b k m l p : Nat}
def zal (ok : Nat → Bool) : Nat → Nat → Bool
  | 0, _ => true
  | m + 1, k => ok k && zal ok m (k + 1)
theorem zal_c {p q : Nat → Bool} : ∀ m k, (∀ j, k ≤ j → j < k + m → p j = q j) → zal p m k = zal q m k
  | 0, _, _ => rfl
  | m + 1, k, h => by
    show (p k && zal p m (k + 1)) = (q k && zal q m (k + 1))
    rw [h k (Nat.le_refl _) (by omega), zal_c m (k + 1) (fun j j1 j2 => h j (by omega) (by omega))]
theorem zal_t {p : Nat → Bool} : ∀ m k, zal p m k = true ↔ ∀ j, k ≤ j → j < k + m → p j = true
  | 0, k => ⟨fun _ j h1 h2 => absurd h2 (by omega), fun _ => rfl⟩
  | m + 1, k => by
    show (p k && zal p m (k + 1)) = true ↔ _
    rw [Bool.and_eq_true, zal_t m (k + 1)]
    refine ⟨fun z j h1 h2 => ?_, fun z => ⟨z k (Nat.le_refl _) (by omega), fun j h1 h2 => z j (by omega) (by omega)⟩⟩
    by_cases y : j = k
    · rw [y]
      exact z.1
    · exact z.2 j (by omega) (by omega)
theorem zals {ok : Nat → Bool} {V A Z : Int32} {c : Prop} [Decidable c] (hc : ok k = decide c) (ih : V = if zal ok m (k + 1) = true then A else Z) : (if c then V else Z) = if zal ok (m + 1) k = true then A else Z := by
  show _ = if (ok k && zal ok m (k + 1)) = true then A else Z
  rw [hc]
  by_cases y : c
  · rw [if_pos y, decide_eq_true y, Bool.true_and]
    exact ih
  · rw [if_neg y, decide_eq_false y, Bool.false_and]
    exact (if_neg Bool.false_ne_true).symm
theorem zaln {ok : Nat → Bool} {V A Z : Int32} {c : Prop} [Decidable c] (hc : ok k = decide (¬ c)) (ih : V = if zal ok m (k + 1) = true then A else Z) : (if c then Z else V) = if zal ok (m + 1) k = true then A else Z := by
  rw [← zals hc ih]
  by_cases y : c
  · rw [if_pos y, if_neg (fun z => z y)]
  · rw [if_neg y, if_pos y]
/-- counts -/
def zokD (l : List Int32) (k : Nat) : Bool := decide (¬ (zgt l (Int32.ofNat k)).toInt < ((0 : Int32)).toInt)
def zokB (S : zSt) (k : Nat) : Bool := decide (V42 (zgt (S.2 6) (Int32.ofNat k)) (zgt (S.2 2) (zgt (S.2 6) (Int32.ofNat k))) S = zgt (S.2 2) (zgt (S.2 6) (Int32.ofNat k)))
theorem zQ51b : ∀ m k, Q51b S m k = if zal (zokB S) m k = true then Int32.ofInt 1 else Int32.ofInt 0
  | 0, _ => (if_pos rfl).symm
  | m + 1, k => zals (ok := zokB S) rfl (zQ51b m (k + 1))
theorem zQ51a : ∀ m k, Q51a S m k = if zal (zokD (S.2 3)) m k = true then Q51b S (S.1 9).toInt.toNat 0 else Int32.ofInt 0
  | 0, _ => (if_pos rfl).symm
  | m + 1, k => zaln (ok := zokD (S.2 3)) rfl (zQ51a m (k + 1))
theorem zq186d : ∀ m k, q186d M m k = if zal (zokD (M.2.1 20)) m k = true then t186 M else Int32.ofInt 0
  | 0, _ => (if_pos rfl).symm
  | m + 1, k => zaln (ok := zokD (M.2.1 20)) rfl (zq186d m (k + 1))
/-- lines -/
def zokC (S : zSt) (k : Nat) : Bool := decide (V93 (zqtd (Int32.ofNat k) (Int32.ofInt 8)) (zgt (S.2 15) (Int32.ofNat k)) S = zrmd (Int32.ofNat k) (Int32.ofInt 8))
theorem zQ94 : ∀ m k, Q94 S m k = if zal (zokC S) m k = true then Int32.ofInt 1 else Int32.ofInt 0
  | 0, _ => (if_pos rfl).symm
  | m + 1, k => zals (ok := zokC S) rfl (zQ94 m (k + 1))
def zokP (M : zRt) (k : Nat) : Bool := p186c k M (Int32.ofNat k).toInt.toNat 0
theorem zq186c : ∀ m k, q186c M m k = if zal (zokP M) m k = true then v186d M else Int32.ofInt 0
  | 0, _ => (if_pos rfl).symm
  | m + 1, k => zals (ok := zokP M) (by
    show p186c k M (Int32.ofNat k).toInt.toNat 0 = decide (p186c k M (Int32.ofNat k).toInt.toNat 0 = true)
    cases p186c k M (Int32.ofNat k).toInt.toNat 0 <;> rfl) (zq186c m (k + 1))
theorem zp186c : ∀ m k, p186c a M m k = true ↔ ∀ j, k ≤ j → j < k + m → ¬ zgt (M.2.1 22) (Int32.ofNat a) = zgt (M.2.1 22) (Int32.ofNat j)
  | 0, k => ⟨fun _ j h1 h2 => absurd h2 (by omega), fun _ => rfl⟩
  | m + 1, k => by
    show (if (zgt (M.2.1 22) (Int32.ofNat a)) = (zgt (M.2.1 22) ((Int32.ofNat k))) then false else (p186c a M m (k + 1))) = true ↔ _
    by_cases q : zgt (M.2.1 22) (Int32.ofNat a) = zgt (M.2.1 22) (Int32.ofNat k)
    · rw [if_pos q]
      exact ⟨fun z => (by cases z), fun z => absurd q (z k (Nat.le_refl _) (by omega))⟩
    · rw [if_neg q, zp186c m (k + 1)]
      refine ⟨fun z j h1 h2 => ?_, fun z j h1 h2 => z j (by omega) (by omega)⟩
      by_cases y : j = k
      · rw [y]
        exact q
      · exact z j (by omega) (by omega)
theorem zq162f : ∀ m k j, k ≤ j → j < k + m → zgt (M.2.1 22) (Int32.ofNat j) = x → ∃ i, k ≤ i ∧ i ≤ j ∧ zgt (M.2.1 22) (Int32.ofNat i) = x ∧ (∀ t, k ≤ t → t < i → ¬ zgt (M.2.1 22) (Int32.ofNat t) = x) ∧ q162 x M m k = zrmd (Int32.ofNat i) (Int32.ofInt 8)
  | 0, k, j, h1, h2, _ => absurd h2 (by omega)
  | m + 1, k, j, h1, h2, h3 => by
    have e : q162 x M (m + 1) k = if zgt (M.2.1 22) (Int32.ofNat k) = x then zrmd (Int32.ofNat k) (Int32.ofInt 8) else q162 x M m (k + 1) := rfl
    by_cases q : zgt (M.2.1 22) (Int32.ofNat k) = x
    · exact ⟨k, Nat.le_refl _, h1, q, fun t t1 t2 => absurd t2 (by omega), e.trans (if_pos q)⟩
    · have ne : j ≠ k := fun z => q (by rw [← z]; exact h3)
      obtain ⟨i, i1, i2, i3, i4, i5⟩ := zq162f m (k + 1) j (by omega) (by omega) h3
      refine ⟨i, by omega, i2, i3, fun t t1 t2 => ?_, e.trans ((if_neg q).trans i5)⟩
      by_cases y : t = k
      · rw [y]
        exact q
      · exact i4 t (by omega) t2
theorem zokCP (h : zE S M) (hk : k < 16) : zokC S k = zokP M k := by
  obtain ⟨q, hq, g1, g2⟩ := h.1.2.2.2.2 k hk
  obtain ⟨r1, r2, r3⟩ := zqr (show k < 128 by omega)
  have e : V93 (zqtd (Int32.ofNat k) (Int32.ofInt 8)) (zgt (S.2 15) (Int32.ofNat k)) S = v162 (Int32.ofNat (k / 8 * 10 + q)) M := by
    rw [r1, g1]
    exact zE_93 h (by omega) hq
  have e16 : (Int32.ofNat (M.2.1 22).length).toInt.toNat = 16 := by
    rw [h.1.2.2.2.1]
    decide
  have ev : v162 (Int32.ofNat (k / 8 * 10 + q)) M = q162 (Int32.ofNat (k / 8 * 10 + q)) M 16 0 := by
    unfold v162
    rw [e16]
  obtain ⟨i, i1, i2, i3, i4, i5⟩ := zq162f (M := M) (x := Int32.ofNat (k / 8 * 10 + q)) 16 0 k (Nat.zero_le _) (by omega) g2
  have ei : k / 8 = i / 8 := by
    obtain ⟨q2, hq2, f1, f2⟩ := h.1.2.2.2.2 i (by omega)
    rw [f2] at i3
    have := (zof_l (by omega) (by omega)).mp i3
    omega
  have lhs : zokC S k = decide (i = k) := by
    have z : (V93 (zqtd (Int32.ofNat k) (Int32.ofInt 8)) (zgt (S.2 15) (Int32.ofNat k)) S = zrmd (Int32.ofNat k) (Int32.ofInt 8)) ↔ i = k := by
      rw [e, ev, i5, r3, (zqr (show i < 128 by omega)).2.2]
      refine ⟨fun y => ?_, fun y => by rw [y]⟩
      have := (zof_l (by omega) (by omega)).mp y
      omega
    unfold zokC
    by_cases y : i = k
    · rw [decide_eq_true y]
      exact decide_eq_true (z.mpr y)
    · rw [decide_eq_false y]
      exact decide_eq_false (fun t => y (z.mp t))
  have ek : (Int32.ofNat k).toInt.toNat = k := by
    rw [zof_0 (by omega)]
    omega
  rw [lhs]
  unfold zokP
  rw [ek]
  have z := zp186c (a := k) (M := M) k 0
  by_cases y : i = k
  · rw [decide_eq_true y]
    refine (z.mpr (fun j j1 j2 t => i4 j (Nat.zero_le _) (by omega) ?_)).symm
    rw [← t]
    exact g2
  · rw [decide_eq_false y]
    refine (Bool.eq_false_iff.mpr (fun t => z.mp t i (Nat.zero_le _) (by omega) ?_)).symm
    rw [i3]
    exact g2
/-- columns -/
def zokQ (S : zSt) (a : Nat) : Bool := decide (¬ zrmd (zbc (zgt (S.2 0) (Int32.ofNat a))) (Int32.ofInt 2) = ((0 : Int32))) && Q18i a S ((S.1 2).toInt.toNat - (a + 1)) (a + 1)
theorem zQ18 : ∀ m k, Q18 S m k = if zal (zokQ S) m k = true then Int32.ofInt 1 else Int32.ofInt 0
  | 0, _ => (if_pos rfl).symm
  | m + 1, k => by
    have ih := zQ18 m (k + 1)
    have e : Q18 S (m + 1) k = if zrmd (zbc (zgt (S.2 0) (Int32.ofNat k))) (Int32.ofInt 2) = ((0 : Int32)) then Int32.ofInt 0 else if Q18i k S ((S.1 2).toInt.toNat - (k + 1)) (k + 1) = true then Q18 S m (k + 1) else Int32.ofInt 0 := rfl
    rw [e]
    show _ = if (zokQ S k && zal (zokQ S) m (k + 1)) = true then Int32.ofInt 1 else Int32.ofInt 0
    unfold zokQ
    by_cases q : zrmd (zbc (zgt (S.2 0) (Int32.ofNat k))) (Int32.ofInt 2) = ((0 : Int32))
    · rw [if_pos q, decide_eq_false (fun z => z q), Bool.false_and, Bool.false_and, if_neg Bool.false_ne_true]
    · rw [if_neg q, decide_eq_true q, Bool.true_and]
      by_cases y : Q18i k S ((S.1 2).toInt.toNat - (k + 1)) (k + 1) = true
      · rw [if_pos y, y, Bool.true_and]
        exact ih
      · rw [if_neg y, Bool.eq_false_iff.mpr y, Bool.false_and, if_neg Bool.false_ne_true]
def zokR (M : zRt) (a : Nat) : Bool := decide (¬ zrmd (zwg 31 (Int32.ofInt 0) (zgt M.2.2.2 (Int32.ofNat a))) (Int32.ofInt 2) = ((0 : Int32))) && p186a a M (Int32.ofNat a).toInt.toNat 0
theorem zq186a : ∀ m k, q186a M m k = if zal (zokR M) m k = true then v186b M else Int32.ofInt 0
  | 0, _ => (if_pos rfl).symm
  | m + 1, k => by
    have ih := zq186a m (k + 1)
    have e : q186a M (m + 1) k = if (zrmd (zwg 31 (Int32.ofInt 0) (zgt M.2.2.2 ((Int32.ofNat k)))) (Int32.ofInt 2)) = ((0 : Int32)) then ((Int32.ofInt 0)) else (if p186a k M (Int32.ofNat k).toInt.toNat 0 = true then q186a M m (k + 1) else Int32.ofInt 0) := rfl
    rw [e]
    show _ = if (zokR M k && zal (zokR M) m (k + 1)) = true then v186b M else Int32.ofInt 0
    unfold zokR
    by_cases q : zrmd (zwg 31 (Int32.ofInt 0) (zgt M.2.2.2 (Int32.ofNat k))) (Int32.ofInt 2) = ((0 : Int32))
    · rw [if_pos q, decide_eq_false (fun z => z q), Bool.false_and, Bool.false_and, if_neg Bool.false_ne_true]
    · rw [if_neg q, decide_eq_true q, Bool.true_and]
      by_cases y : p186a k M (Int32.ofNat k).toInt.toNat 0 = true
      · rw [if_pos y, y, Bool.true_and]
        exact ih
      · rw [if_neg y, Bool.eq_false_iff.mpr y, Bool.false_and, if_neg Bool.false_ne_true]
theorem zQ18i : ∀ m k, (∀ j, k ≤ j → j < k + m → ¬ zgt (S.2 0) (Int32.ofNat a) = zgt (S.2 0) (Int32.ofNat j)) → Q18i a S m k = true
  | 0, _, _ => rfl
  | m + 1, k, h => (if_neg (h k (Nat.le_refl _) (by omega))).trans (zQ18i m (k + 1) (fun j j1 j2 => h j (by omega) (by omega)))
theorem zp186a : ∀ m k, (∀ j, k ≤ j → j < k + m → ¬ zgt M.2.2.2 (Int32.ofNat a) = zgt M.2.2.2 (Int32.ofNat j)) → p186a a M m k = true
  | 0, _, _ => rfl
  | m + 1, k, h => (if_neg (h k (Nat.le_refl _) (by omega))).trans (zp186a m (k + 1) (fun j j1 j2 => h j (by omega) (by omega)))
theorem zcN_d : ∀ e ∈ zcNs, ∀ a, a < e.2.length → (¬ zrmd (zbc (Int32.ofNat (e.2.getD a 0))) (Int32.ofInt 2) = ((0 : Int32)) ∧ ¬ zrmd (zwg 31 (Int32.ofInt 0) (Int32.ofNat (e.2.getD a 0))) (Int32.ofInt 2) = ((0 : Int32))) ∧ ∀ b, b < e.2.length → e.2.getD a 0 = e.2.getD b 0 → a = b := by
  have e : zcNs.all (fun e => (List.range e.2.length).all (fun a => decide (¬ zrmd (zbc (Int32.ofNat (e.2.getD a 0))) (Int32.ofInt 2) = ((0 : Int32)) ∧ ¬ zrmd (zwg 31 (Int32.ofInt 0) (Int32.ofNat (e.2.getD a 0))) (Int32.ofInt 2) = ((0 : Int32))) && (List.range e.2.length).all (fun b => decide (e.2.getD a 0 = e.2.getD b 0 → a = b)))) = true := by decide +kernel
  intro q hq a ha
  have z := List.all_eq_true.mp (List.all_eq_true.mp e q hq) a (List.mem_range.mpr ha)
  rw [Bool.and_eq_true] at z
  exact ⟨of_decide_eq_true z.1, fun b hb => of_decide_eq_true (List.all_eq_true.mp z.2 b (List.mem_range.mpr hb))⟩
theorem zE_col (h : zE S M) : V18 S = Int32.ofInt 1 ∧ v186 M = v186b M := by
  obtain ⟨k, r, c1, c2, c3, c4, c5⟩ := zE_co h
  obtain ⟨b1, b2, b3, b4, b5⟩ := zcds_kr _ c1.1
  obtain ⟨l, l1, l2, l3⟩ := zcN_tab _ c1.1
  have b2 : k ≤ 10 := b2
  have b4 : r ≤ 6 := b4
  have l2 : zcol k r = l.map Int32.ofNat := l2
  have l3 : l.length = k + r := l3
  obtain ⟨h64, h16⟩ := zcN_64 _ l1
  have h64 : ∀ j, l.getD j 0 < 64 := h64
  have hd := zcN_d _ l1
  obtain ⟨q1, q2, q3, q4, ⟨t, q5⟩, q6⟩ := c1
  have hn : (S.1 2).toInt.toNat = l.length := by
    rw [q4, zof_0 (by omega), l3]
    omega
  have hm : ∀ j, j < l.length → zgt (l.map Int32.ofNat) (Int32.ofNat j) = Int32.ofNat (l.getD j 0) := fun j hj => by
    rw [zgt_n (by omega), List.getD_eq_getElem?_getD, List.getD_eq_getElem?_getD, List.getElem?_map, List.getElem?_eq_getElem hj]
    rfl
  have hc : ∀ j, j < l.length → zgt (S.2 0) (Int32.ofNat j) = Int32.ofNat (l.getD j 0) := fun j hj => by
    rw [q5, l2, zgt_n (by omega), List.getD_eq_getElem?_getD, List.getD_eq_getElem?_getD, List.getElem?_append_left (by rw [List.length_map]; exact hj), List.getElem?_map, List.getElem?_eq_getElem hj]
    rfl
  have hcM : ∀ j, j < l.length → zgt M.2.2.2 (Int32.ofNat j) = Int32.ofNat (l.getD j 0) := fun j hj => by
    rw [c4.trans l2]
    exact hm j hj
  have dif : ∀ i j, i < l.length → j < l.length → i ≠ j → ¬ Int32.ofNat (l.getD i 0) = Int32.ofNat (l.getD j 0) := fun i j hi hj ne z => by
    have y1 := h64 i
    have y2 := h64 j
    have z9 := (zof_l (a := l.getD i 0) (l := l.getD j 0) (by omega) (by omega)).mp z
    exact ne ((hd i hi).2 j hj z9)
  refine ⟨?_, ?_⟩
  · unfold V18
    rw [hn, zQ18, if_pos ((zal_t _ _).mpr (fun j j1 j2 => ?_))]
    have hj : j < l.length := by omega
    unfold zokQ
    rw [hc j hj, decide_eq_true (hd j hj).1.1, Bool.true_and, hn]
    refine zQ18i _ _ (fun i i1 i2 => ?_)
    rw [hc j hj, hc i (by omega)]
    exact dif j i hj (by omega) (by omega)
  · have e2 : (Int32.ofNat M.2.2.2.length).toInt.toNat = l.length := by
      rw [c4, l2, List.length_map, zof_0 (by omega)]
      omega
    unfold v186
    rw [e2, zq186a, if_pos ((zal_t _ _).mpr (fun j j1 j2 => ?_))]
    have hj : j < l.length := by omega
    have ej : (Int32.ofNat j).toInt.toNat = j := by
      rw [zof_0 (by omega)]
      omega
    unfold zokR
    rw [hcM j hj, decide_eq_true (hd j hj).1.2, Bool.true_and, ej]
    refine zp186a _ _ (fun i i1 i2 => ?_)
    rw [hcM j hj, hcM i (by omega)]
    exact dif j i hj (by omega) (by omega)
/-- what is stuck: the last of a bit -/
def zlv (S : zSt) (c : Int32) (j : Nat) : Nat → Option Bool
  | 0 => none
  | k + 1 => if zgt (S.2 6) (Int32.ofNat k) = c ∧ (zgt (S.2 7) (Int32.ofNat k)).toBitVec.getLsbD j = true then some (decide (zgt (S.2 8) (Int32.ofNat k) = Int32.ofInt 1)) else zlv S c j k
theorem zmskb {c j : Nat} (hc : c < 16) (hj : j < 32) : (Int32.ofInt 1 <<< (Int32.ofNat c &&& 31)).toBitVec.getLsbD j = decide (j = c) ∧ ((Int32.ofInt 1 <<< (Int32.ofNat c &&& 31)) ^^^ (Int32.ofInt (-1))).toBitVec.getLsbD j = !decide (j = c) := by
  have e : (List.range 16).all (fun c => (List.range 32).all (fun j => decide ((Int32.ofInt 1 <<< (Int32.ofNat c &&& 31)).toBitVec.getLsbD j = decide (j = c) ∧ ((Int32.ofInt 1 <<< (Int32.ofNat c &&& 31)) ^^^ (Int32.ofInt (-1))).toBitVec.getLsbD j = !decide (j = c)))) = true := by decide +kernel
  exact of_decide_eq_true (List.all_eq_true.mp (List.all_eq_true.mp e c (List.mem_range.mpr hc)) j (List.mem_range.mpr hj))
theorem zW42_b (h : zFq (S.1 9) (S.2 6) (S.2 7) (S.2 8) (M.2.2.1 0)) {j : Nat} (hj : j < 32) {y : Int32} : ∀ k, k ≤ (M.2.2.1 0).length → (W42 x y S w k).toBitVec.getLsbD j = (zlv S x j k).getD (w.toBitVec.getLsbD j)
  | 0, _ => rfl
  | k + 1, hk => by
    have ih := zW42_b h hj (y := y) k (by omega)
    have h24 := h.2.1
    show (D42 x y S k (W42 x y S w k)).toBitVec.getLsbD j = (if zgt (S.2 6) (Int32.ofNat k) = x ∧ (zgt (S.2 7) (Int32.ofNat k)).toBitVec.getLsbD j = true then some (decide (zgt (S.2 8) (Int32.ofNat k) = Int32.ofInt 1)) else zlv S x j k).getD _
    obtain ⟨U, hU⟩ : ∃ U, U = W42 x y S w k := ⟨_, rfl⟩
    rw [← hU] at ih ⊢
    obtain ⟨a, b, c, d, e0, ha, hb, hc, e4, e5, e6⟩ := h.2.2.2 k _ (List.getElem?_eq_getElem (by omega))
    obtain ⟨m1, m2⟩ := zmskb hc hj
    unfold D42
    rw [e4, e5, e6, m1]
    by_cases q : Int32.ofNat (a * 8 + b) = x
    · rw [if_pos q]
      by_cases t : j = c
      · have qc : Int32.ofNat (a * 8 + b) = x ∧ decide (j = c) = true := ⟨q, decide_eq_true t⟩
        rw [if_pos qc]
        by_cases v1 : d = Int32.ofInt 1
        · rw [if_pos v1, Int32.toBitVec_or, BitVec.getLsbD_or, m1, decide_eq_true t, Bool.or_true, decide_eq_true v1]
          rfl
        · rw [if_neg v1, Int32.toBitVec_and, BitVec.getLsbD_and, m2, decide_eq_true t, decide_eq_false v1]
          exact Bool.and_false _
      · have qn : ¬ (Int32.ofNat (a * 8 + b) = x ∧ decide (j = c) = true) := fun z => t (of_decide_eq_true z.2)
        rw [if_neg qn, ← ih]
        by_cases v1 : d = Int32.ofInt 1
        · rw [if_pos v1, Int32.toBitVec_or, BitVec.getLsbD_or, m1, decide_eq_false t, Bool.or_false]
        · rw [if_neg v1, Int32.toBitVec_and, BitVec.getLsbD_and, m2, decide_eq_false t]
          exact Bool.and_true _
    · have qn : ¬ (Int32.ofNat (a * 8 + b) = x ∧ decide (j = c) = true) := fun z => q z.1
      rw [if_neg q, if_neg qn, ih]
end ZL3V9
section ZL3V8
variable {S S' : zSt} {M M' : zRt} {u v w x x1 : Int32} {n a b k m l p j : Nat}
def zRbt (S : zSt) (x : Int32) (j i : Nat) : Prop := zgt (S.2 6) (Int32.ofNat i) = x ∧ (zgt (S.2 7) (Int32.ofNat i)).toBitVec.getLsbD j = true
theorem zlv_s : ∀ n, (zlv S x j n = none ∧ ∀ i, i < n → ¬ zRbt S x j i) ∨ (∃ i, i < n ∧ zRbt S x j i ∧ zlv S x j n = some (decide (zgt (S.2 8) (Int32.ofNat i) = Int32.ofInt 1)) ∧ ∀ t, i < t → t < n → ¬ zRbt S x j t)
  | 0 => Or.inl ⟨rfl, fun i hi => absurd hi (Nat.not_lt_zero _)⟩
  | n + 1 => by
    have e : zlv S x j (n + 1) = if zgt (S.2 6) (Int32.ofNat n) = x ∧ (zgt (S.2 7) (Int32.ofNat n)).toBitVec.getLsbD j = true then some (decide (zgt (S.2 8) (Int32.ofNat n) = Int32.ofInt 1)) else zlv S x j n := rfl
    by_cases q : zRbt S x j n
    · exact Or.inr ⟨n, by omega, q, e.trans (if_pos q), fun t t1 t2 => absurd t2 (by omega)⟩
    · have e9 : zlv S x j (n + 1) = zlv S x j n := e.trans (if_neg q)
      rw [e9]
      rcases zlv_s n with ⟨y1, y2⟩ | ⟨i, y1, y2, y3, y4⟩
      · refine Or.inl ⟨y1, fun i hi => ?_⟩
        by_cases z : i = n
        · rw [z]
          exact q
        · exact y2 i (by omega)
      · refine Or.inr ⟨i, by omega, y2, y3, fun t t1 t2 => ?_⟩
        by_cases z : t = n
        · rw [z]
          exact q
        · exact y4 t t1 (by omega)
/-- the reference's: the last of a bit -/
def zse (M : zRt) (k i : Nat) : Int32 := zgt ((M.2.2.1 0).getD (Int32.toNatClampNeg (Int32.ofNat k)) []) (Int32.ofNat i)
def zsm3 (M : zRt) (a t : Nat) : Prop := zse M t 0 = zse M a 0 ∧ zse M t 1 = zse M a 1 ∧ zse M t 2 = zse M a 2
theorem zp186b_e : p186b a M (m + 1) k u = if zse M k 0 = zse M a 0 then (if zse M k 1 = zse M a 1 then (if zse M k 2 = zse M a 2 then (p186b a M m (k + 1) (u &&& (Int32.ofInt 0))) else (p186b a M m (k + 1) (u &&& (Int32.ofInt 1)))) else (p186b a M m (k + 1) (u &&& (Int32.ofInt 1)))) else (p186b a M m (k + 1) (u &&& (Int32.ofInt 1))) := rfl
theorem zand00 : Int32.ofInt 0 &&& Int32.ofInt 0 = Int32.ofInt 0 ∧ Int32.ofInt 0 &&& Int32.ofInt 1 = Int32.ofInt 0 ∧ Int32.ofInt 1 &&& Int32.ofInt 0 = Int32.ofInt 0 ∧ Int32.ofInt 1 &&& Int32.ofInt 1 = Int32.ofInt 1 := by decide
theorem zp186b_0 : ∀ m k, p186b a M m k (Int32.ofInt 0) = Int32.ofInt 0
  | 0, _ => rfl
  | m + 1, k => by
    obtain ⟨y1, y2, -, -⟩ := zand00
    rw [zp186b_e, y1, y2, zp186b_0 m (k + 1)]
    split
    · split
      · split <;> rfl
      · rfl
    · rfl
theorem zp186b_1 : ∀ m k, (∀ t, k ≤ t → t < k + m → ¬ zsm3 M a t) → p186b a M m k (Int32.ofInt 1) = Int32.ofInt 1
  | 0, _, _ => rfl
  | m + 1, k, h => by
    obtain ⟨-, -, y3, y4⟩ := zand00
    have q := h k (Nat.le_refl _) (by omega)
    rw [zp186b_e, y3, y4, zp186b_1 m (k + 1) (fun t t1 t2 => h t (by omega) (by omega))]
    by_cases q0 : zse M k 0 = zse M a 0
    · by_cases q1 : zse M k 1 = zse M a 1
      · rw [if_pos q0, if_pos q1, if_neg (fun z => q ⟨q0, q1, z⟩)]
      · rw [if_pos q0, if_neg q1]
    · rw [if_neg q0]
theorem zp186b_2 : ∀ m k t, k ≤ t → t < k + m → zsm3 M a t → p186b a M m k (Int32.ofInt 1) = Int32.ofInt 0
  | 0, k, t, h1, h2, _ => absurd h2 (by omega)
  | m + 1, k, t, h1, h2, h3 => by
    obtain ⟨-, -, y3, y4⟩ := zand00
    rw [zp186b_e, y3, y4, zp186b_0 m (k + 1)]
    by_cases y : t = k
    · rw [y] at h3
      rw [if_pos h3.1, if_pos h3.2.1, if_pos h3.2.2]
    · rw [zp186b_2 m (k + 1) t (by omega) (by omega) h3]
      split
      · split
        · split <;> rfl
        · rfl
      · rfl
/-- an entry of what is stuck, of both -/
theorem zse_f (h : zE S M) (hk : k < (M.2.2.1 0).length) : ∃ (A B C : Nat) (d : Int32), A < 20 ∧ B < 8 ∧ C < 16 ∧ zgt (S.2 6) (Int32.ofNat k) = Int32.ofNat (A * 8 + B) ∧ zgt (S.2 7) (Int32.ofNat k) = Int32.ofInt 1 <<< (Int32.ofNat C &&& 31) ∧ zgt (S.2 8) (Int32.ofNat k) = d ∧ zse M k 0 = Int32.ofNat A ∧ zse M k 1 = Int32.ofNat B ∧ zse M k 2 = Int32.ofNat C ∧ zse M k 3 = d := by
  have hq := h.1.2.1.2.1
  have h24 := hq.2.1
  obtain ⟨a, b, c, d, e0, ha, hb, hc, e4, e5, e6⟩ := hq.2.2.2 k _ (List.getElem?_eq_getElem hk)
  have eg : (M.2.2.1 0).getD (Int32.toNatClampNeg (Int32.ofNat k)) [] = [Int32.ofNat a, Int32.ofNat b, Int32.ofNat c, d] := by
    rw [zcl_of (by omega), List.getD_eq_getElem?_getD, List.getElem?_eq_getElem hk, ← e0]
    rfl
  unfold zse
  rw [eg]
  exact ⟨a, b, c, d, ha, hb, hc, e4, e5, e6, rfl, rfl, rfl, rfl⟩
def zhs (M : zRt) (k : Nat) : Int32 := v113 (zgt (M.2.1 (Int32.toNatClampNeg (zse M k 0))) (zse M k 1)) (zse M k 2) M
def zPlb (M : zRt) (k : Nat) : Int32 := p186b k M ((Int32.ofNat (M.2.2.1 0).length).toInt.toNat - (k + 1)) (k + 1) (Int32.ofInt 1)
def zokS (M : zRt) (k : Nat) : Bool := decide (zPlb M k = ((0 : Int32)) ∨ (if zse M k 3 = Int32.ofInt 1 then zhs M k = Int32.ofInt 1 else zhs M k = Int32.ofInt 0))
theorem zq186b : ∀ m k, q186b M m k = if zal (zokS M) m k = true then v186c M else Int32.ofInt 0
  | 0, _ => (if_pos rfl).symm
  | m + 1, k => by
    have ih := zq186b m (k + 1)
    have e : q186b M (m + 1) k = if zPlb M k = ((0 : Int32)) then (q186b M m (k + 1)) else (if zse M k 3 = (Int32.ofInt 1) then (if zhs M k = (Int32.ofInt 1) then (q186b M m (k + 1)) else ((Int32.ofInt 0))) else (if zhs M k = (Int32.ofInt 0) then (q186b M m (k + 1)) else ((Int32.ofInt 0)))) := rfl
    rw [e, ← zals (c := zPlb M k = ((0 : Int32)) ∨ (if zse M k 3 = Int32.ofInt 1 then zhs M k = Int32.ofInt 1 else zhs M k = Int32.ofInt 0)) rfl ih]
    by_cases q : zPlb M k = ((0 : Int32))
    · rw [if_pos q, if_pos (Or.inl q)]
    · rw [if_neg q]
      by_cases y : zse M k 3 = Int32.ofInt 1
      · by_cases z : zhs M k = Int32.ofInt 1
        · rw [if_pos y, if_pos z, if_pos (Or.inr (by rw [if_pos y]; exact z))]
        · rw [if_pos y, if_neg z, if_neg (fun t => t.elim q (fun t => z (by rw [if_pos y] at t; exact t)))]
      · by_cases z : zhs M k = Int32.ofInt 0
        · rw [if_neg y, if_pos z, if_pos (Or.inr (by rw [if_neg y]; exact z))]
        · rw [if_neg y, if_neg z, if_neg (fun t => t.elim q (fun t => z (by rw [if_neg y] at t; exact t)))]
theorem zE_stk (h : zE S M) : zal (zokB S) (M.2.2.1 0).length 0 = zal (zokS M) (M.2.2.1 0).length 0 := by
  have hq := h.1.2.1.2.1
  have h24 := hq.2.1
  obtain ⟨n, hn⟩ : ∃ n, n = (M.2.2.1 0).length := ⟨_, rfl⟩
  have e9 : (Int32.ofNat (M.2.2.1 0).length).toInt.toNat = n := by
    rw [zof_0 (by omega), hn]
    omega
  -- the bit of a word
  have hw : ∀ A B C : Nat, A < 20 → B < 8 → C < 16 → (v113 (zgt (M.2.1 (Int32.toNatClampNeg (Int32.ofNat A))) (Int32.ofNat B)) (Int32.ofNat C) M = if (zgt (S.2 2) (Int32.ofNat (A * 8 + B))).toBitVec.getLsbD C = true then Int32.ofInt 1 else Int32.ofInt 0) := fun A B C hA hB hC => by
    rw [(zE_w h).2.2 A B hA hB, zcl_of (by omega)]
    unfold v113
    by_cases y : (zgt (M.2.1 A) (Int32.ofNat B)).toBitVec.getLsbD C = true
    · rw [if_pos y, if_pos ((zbit hC).mpr y)]
    · rw [if_neg y, if_neg (fun z => y ((zbit hC).mp z))]
  -- the same bit
  have sm : ∀ i t, i < n → t < n → ∀ A B C : Nat, A < 20 → B < 8 → C < 16 → zse M i 0 = Int32.ofNat A → zse M i 1 = Int32.ofNat B → zse M i 2 = Int32.ofNat C → (zRbt S (Int32.ofNat (A * 8 + B)) C t ↔ zsm3 M i t) := fun i t hi ht A B C hA hB hC i0 i1 i2 => by
    obtain ⟨A2, B2, C2, d2, a1, a2, a3, f1, f2, f3, g0, g1, g2, g3⟩ := zse_f h (k := t) (by omega)
    unfold zRbt zsm3
    rw [f1, f2, g0, g1, g2, i0, i1, i2, (zmskb a3 (show C < 32 by omega)).1]
    refine ⟨fun z => ?_, fun z => ?_⟩
    · obtain ⟨z1, z2⟩ := (zFe_ne a1 a2 hA hB).mp z.1
      have z3 := of_decide_eq_true z.2
      exact ⟨by rw [z1], by rw [z2], by rw [z3]⟩
    · obtain ⟨z1, z2, z3⟩ := z
      have z1 := (zof_l (by omega) (by omega)).mp z1
      have z2 := (zof_l (by omega) (by omega)).mp z2
      have z3 := (zof_l (by omega) (by omega)).mp z3
      exact ⟨by rw [z1, z2], decide_eq_true z3.symm⟩
  -- what the reference asks of an entry
  have rf : ∀ i, i < n → ∀ A B C : Nat, ∀ d : Int32, A < 20 → B < 8 → C < 16 → zse M i 0 = Int32.ofNat A → zse M i 1 = Int32.ofNat B → zse M i 2 = Int32.ofNat C → zse M i 3 = d → (zokS M i = true ↔ ((∀ t, i < t → t < n → ¬ zsm3 M i t) → (zgt (S.2 2) (Int32.ofNat (A * 8 + B))).toBitVec.getLsbD C = decide (d = Int32.ofInt 1))) := fun i hi A B C d hA hB hC i0 i1 i2 i3 => by
    have eh : zhs M i = if (zgt (S.2 2) (Int32.ofNat (A * 8 + B))).toBitVec.getLsbD C = true then Int32.ofInt 1 else Int32.ofInt 0 := by
      unfold zhs
      rw [i0, i1, i2]
      exact hw A B C hA hB hC
    have d10 : ¬ Int32.ofInt 1 = Int32.ofInt 0 := by decide
    by_cases L : ∀ t, i < t → t < n → ¬ zsm3 M i t
    · have eP : zPlb M i = Int32.ofInt 1 := by
        unfold zPlb
        rw [e9]
        exact zp186b_1 _ _ (fun t t1 t2 => L t (by omega) (by omega))
      have nP : ¬ zPlb M i = ((0 : Int32)) := by
        rw [eP]
        decide
      have e2 : zokS M i = decide (if d = Int32.ofInt 1 then zhs M i = Int32.ofInt 1 else zhs M i = Int32.ofInt 0) := by
        unfold zokS
        rw [i3]
        by_cases y : (if d = Int32.ofInt 1 then zhs M i = Int32.ofInt 1 else zhs M i = Int32.ofInt 0)
        · rw [decide_eq_true y]
          exact decide_eq_true (Or.inr y)
        · rw [decide_eq_false y]
          exact decide_eq_false (fun t => t.elim nP y)
      rw [e2, eh, decide_eq_true_eq]
      by_cases y : d = Int32.ofInt 1
      · rw [if_pos y, decide_eq_true y]
        by_cases z : (zgt (S.2 2) (Int32.ofNat (A * 8 + B))).toBitVec.getLsbD C = true
        · rw [if_pos z]
          exact ⟨fun _ _ => z, fun _ => rfl⟩
        · rw [if_neg z]
          exact ⟨fun t => absurd t.symm d10, fun t => absurd (t L) z⟩
      · rw [if_neg y, decide_eq_false y]
        by_cases z : (zgt (S.2 2) (Int32.ofNat (A * 8 + B))).toBitVec.getLsbD C = true
        · rw [if_pos z]
          exact ⟨fun t => absurd t d10, fun t => absurd ((t L).symm.trans z) Bool.false_ne_true⟩
        · rw [if_neg z]
          exact ⟨fun _ _ => Bool.eq_false_iff.mpr z, fun _ => rfl⟩
    · refine ⟨fun _ t => absurd t L, fun _ => ?_⟩
      obtain ⟨t, ht⟩ := Classical.not_forall.mp L
      obtain ⟨t1, ht⟩ := Classical.not_imp.mp ht
      obtain ⟨t2, ht⟩ := Classical.not_imp.mp ht
      have eP : zPlb M i = ((0 : Int32)) := by
        unfold zPlb
        rw [e9]
        exact (zp186b_2 _ _ t (by omega) (by omega) (Classical.not_not.mp ht)).trans (by decide)
      exact decide_eq_true (Or.inl eP)
  -- the class's
  have cl : ∀ k, k < n → (zokB S k = true ↔ ∀ j, j < 32 → (zlv S (zgt (S.2 6) (Int32.ofNat k)) j n).getD ((zgt (S.2 2) (zgt (S.2 6) (Int32.ofNat k))).toBitVec.getLsbD j) = (zgt (S.2 2) (zgt (S.2 6) (Int32.ofNat k))).toBitVec.getLsbD j) := fun k hk => by
    have eb : ∀ j, j < 32 → (V42 (zgt (S.2 6) (Int32.ofNat k)) (zgt (S.2 2) (zgt (S.2 6) (Int32.ofNat k))) S).toBitVec.getLsbD j = (zlv S (zgt (S.2 6) (Int32.ofNat k)) j n).getD ((zgt (S.2 2) (zgt (S.2 6) (Int32.ofNat k))).toBitVec.getLsbD j) := fun j hj => by
      unfold V42 Y42
      rw [hq.1, e9, hn]
      exact zW42_b hq hj _ (Nat.le_refl _)
    unfold zokB
    rw [decide_eq_true_eq]
    refine ⟨fun z j hj => ?_, fun z => ?_⟩
    · rw [← eb j hj, z]
    · refine Int32.toBitVec_inj.mp (BitVec.eq_of_getLsbD_eq (fun j hj => ?_))
      rw [eb j hj]
      exact z j hj
  rw [← hn]
  refine Bool.eq_iff_iff.mpr ?_
  rw [zal_t, zal_t]
  refine ⟨fun z i i1 i2 => ?_, fun z k k1 k2 => ?_⟩
  · have hi : i < n := by omega
    obtain ⟨A, B, C, d, hA, hB, hC, f1, f2, f3, g0, g1, g2, g3⟩ := zse_f h (k := i) (by omega)
    refine (rf i hi A B C d hA hB hC g0 g1 g2 g3).mpr (fun L => ?_)
    have y := (cl i hi).mp (z i i1 i2) C (by omega)
    rw [f1] at y
    have Ri : zRbt S (Int32.ofNat (A * 8 + B)) C i := ⟨f1, by rw [f2, (zmskb hC (show C < 32 by omega)).1]; exact decide_eq_true rfl⟩
    rcases zlv_s (S := S) (x := Int32.ofNat (A * 8 + B)) (j := C) n with ⟨y1, y2⟩ | ⟨t, y1, y2, y3, y4⟩
    · exact absurd Ri (y2 i hi)
    · have ti : t = i := by
        rcases Nat.lt_trichotomy t i with g | g | g
        · exact absurd Ri (y4 i g hi)
        · exact g
        · exact absurd ((sm i t hi y1 A B C hA hB hC g0 g1 g2).mp y2) (L t g y1)
      rw [y3, ti, f3] at y
      exact y.symm
  · have hk : k < n := by omega
    refine (cl k hk).mpr (fun j hj => ?_)
    rcases zlv_s (S := S) (x := zgt (S.2 6) (Int32.ofNat k)) (j := j) n with ⟨y1, y2⟩ | ⟨t, y1, y2, y3, y4⟩
    · rw [y1]
      rfl
    · obtain ⟨A, B, C, d, hA, hB, hC, f1, f2, f3, g0, g1, g2, g3⟩ := zse_f h (k := t) (by omega)
      have r2 := y2.2
      rw [f2, (zmskb hC hj).1] at r2
      have jC := of_decide_eq_true r2
      have cc : Int32.ofNat (A * 8 + B) = zgt (S.2 6) (Int32.ofNat k) := f1.symm.trans y2.1
      have o := (rf t y1 A B C d hA hB hC g0 g1 g2 g3).mp (z t (Nat.zero_le _) (by omega)) (fun t9 t1 t2 q => by
        refine y4 t9 t1 t2 ?_
        rw [← cc, jC]
        exact (sm t t9 y1 t2 A B C hA hB hC g0 g1 g2).mpr q)
      rw [y3, f3, ← cc, jC, o]
      rfl
theorem zE_80 (h : zE S M) : V80 S = v186 M := by
  obtain ⟨a1, a2⟩ := zE_col h
  obtain ⟨g1, g2, g3, g4⟩ := zE_lg h
  have hq := h.1.2.1.2.1
  have h24 := hq.2.1
  have e9 : (Int32.ofNat (M.2.2.1 0).length).toInt.toNat = (M.2.2.1 0).length := by
    rw [zof_0 (by omega)]
    omega
  have b1 : v186b M = if zal (zokS M) (M.2.2.1 0).length 0 = true then v186c M else Int32.ofInt 0 := by
    unfold v186b
    rw [e9]
    exact zq186b _ _
  have c1 : v186c M = if zal (zokP M) 16 0 = true then v186d M else Int32.ofInt 0 := by
    unfold v186c
    rw [h.1.2.2.2.1, show (Int32.ofNat 16).toInt.toNat = 16 by decide]
    exact zq186c _ _
  have cn := zE_c h
  have l20 : (M.2.1 20).length = 20 := by
    rw [← cn.1.1]
    exact cn.1.2
  have d1 : v186d M = if zal (zokD (S.2 3)) 20 0 = true then t186 M else Int32.ofInt 0 := by
    unfold v186d
    rw [l20, show (Int32.ofNat 20).toInt.toNat = 20 by decide, cn.1.1]
    exact zq186d _ _
  have b2 : V51 S = if zal (zokD (S.2 3)) 20 0 = true then (if zal (zokS M) (M.2.2.1 0).length 0 = true then Int32.ofInt 1 else Int32.ofInt 0) else Int32.ofInt 0 := by
    unfold V51
    rw [zQ51a, zQ51b, hq.1, e9, zE_stk h]
  have c2 : V94 S = if zal (zokP M) 16 0 = true then Int32.ofInt 1 else Int32.ofInt 0 := by
    unfold V94
    rw [show (Int32.ofInt 16).toInt.toNat = 16 by decide, zQ94, zal_c 16 0 (fun j _ j2 => zokCP h (by omega))]
  have t2 : V38 S = t186 M := by
    obtain ⟨s1, s2, s3, s4, s5, s6⟩ := zE_s h
    unfold V38 t186
    rw [g1, s5, s6]
  have ht : t186 M = Int32.ofInt 1 ∨ t186 M = Int32.ofInt 0 := by
    unfold t186
    split
    · exact Or.inr rfl
    · split
      · exact Or.inr rfl
      · exact Or.inl rfl
  have n10 : ¬ Int32.ofInt 1 = ((0 : Int32)) := by decide
  have n00 : Int32.ofInt 0 = ((0 : Int32)) := by decide
  rw [a2, b1, c1, d1]
  unfold V80
  rw [a1, b2, c2, t2, if_neg n10]
  by_cases q1 : zal (zokS M) (M.2.2.1 0).length 0 = true
  · rw [if_pos q1, if_pos q1]
    by_cases q2 : zal (zokP M) 16 0 = true
    · rw [if_pos q2, if_pos q2]
      by_cases q3 : zal (zokD (S.2 3)) 20 0 = true
      · rw [if_pos q3, if_pos q3, if_neg n10, if_neg n10]
        rcases ht with t | t
        · rw [t, if_neg n10]
        · rw [t, if_pos n00]
      · rw [if_neg q3, if_neg q3, if_pos n00]
    · rw [if_neg q2, if_neg q2, if_pos n00]
      split
      · split <;> rfl
      · rfl
  · rw [if_neg q1, if_neg q1]
    by_cases q3 : zal (zokD (S.2 3)) 20 0 = true
    · rw [if_pos q3, if_pos n00]
    · rw [if_neg q3, if_pos n00]
theorem zE_187 (h : zE S M) : V80 S = v187 M ∧ zE S (r187 M) := ⟨zE_80 (zE_0 h), zE_0 h⟩
end ZL3V8
