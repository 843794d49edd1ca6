/-! What is told at once and one by one: of the model. -/
section ZQA
variable {M A B C : zRt} {n m k a b : Nat} {x x1 x2 x3 x4 x5 y v : Int32}
theorem zad_ti {a b : Int32} (h1 : -2147483648 ≤ a.toInt + b.toInt) (h2 : a.toInt + b.toInt < 2147483648) : (a + b).toInt = a.toInt + b.toInt := by
  rw [Int32.toInt_add, Int.bmod_def]
  split <;> omega
theorem zst_gt {l : List Int32} {i v j : Int32} : zgt (zst l i v) j = v ∨ zgt (zst l i v) j = zgt l j := by
  by_cases hj : j < 0
  · refine Or.inr ?_
    unfold zgt
    rw [if_pos hj, if_pos hj]
  · by_cases hi : i < 0
    · refine Or.inr ?_
      unfold zst
      rw [if_pos hi]
    · have e0 : zgt (zst l i v) j = (l.set i.toNatClampNeg v).getD j.toNatClampNeg 0 := by
        unfold zgt zst
        rw [if_neg hi, if_neg hj]
      have e1 : zgt l j = l.getD j.toNatClampNeg 0 := by
        unfold zgt
        rw [if_neg hj]
      rw [e0, e1, List.getD_eq_getElem?_getD, List.getD_eq_getElem?_getD]
      by_cases e : i.toNatClampNeg = j.toNatClampNeg
      · by_cases q : i.toNatClampNeg < l.length
        · refine Or.inl ?_
          rw [← e, List.getElem?_set_self q]
          rfl
        · refine Or.inr ?_
          rw [List.set_eq_of_length_le (by omega)]
      · refine Or.inr ?_
        rw [List.getElem?_set_ne e]
def zit (f : zRt → zRt) : Nat → zRt → zRt
  | 0, M => M
  | n + 1, M => f (zit f n M)
theorem z00_id (h : M.1 0 = 0) : zmS M 0 (Int32.ofInt 0) = M := by
  have e : zup M.1 0 (Int32.ofInt 0) = M.1 := by
    funext j
    show (if j = 0 then Int32.ofInt 0 else M.1 j) = M.1 j
    by_cases z : j = 0
    · rw [if_pos z, z, h]
      decide
    · rw [if_neg z]
  show (zup M.1 0 (Int32.ofInt 0), M.2) = M
  rw [e]
theorem w150_it {u : zRt} : ∀ k, w150 x M u k = zit r137 k u
  | 0 => rfl
  | k + 1 => by
    show r137 (w150 x M u k) = r137 (zit r137 k u)
    rw [w150_it k]
theorem w145_it {l : Int32} {u : zRt} : ∀ k, w145 x1 x2 x3 l M u k = zit (r129 l) k u
  | 0 => rfl
  | k + 1 => by
    show r129 l (w145 x1 x2 x3 l M u k) = r129 l (zit (r129 l) k u)
    rw [w145_it k]
theorem it137_fr : ∀ k, zfrM [4, 10, 14, 15] [0, 1, 2, 3, 4, 5, 6, 7, 8, 9, 10, 11, 12, 13, 14, 15, 16, 17, 18, 19, 20, 21, 24] [2] (zit r137 k M) M
  | 0 => gm_rf
  | k + 1 => gm_tr gr_137 (it137_fr k)
theorem it129_fr {l : Int32} : ∀ k, zfrM [11, 12] [0, 1, 2, 3, 4, 5, 6, 7, 8, 9, 10, 11, 12, 13, 14, 15, 16, 17, 18, 19, 20, 21] [] (zit (r129 l) k M) M
  | 0 => gm_rf
  | k + 1 => gm_tr gr_129 (it129_fr k)
theorem r137_t : (r137 M).1 4 = M.1 4 + Int32.ofInt 1 := by
  have e : (r137 M).1 4 = (q137 (r135 (zmS M 4 (M.1 4 + Int32.ofInt 1)))).1 4 := gr_136.1 4 (by decide)
  rw [e, gr_q137.1 4 List.not_mem_nil, gr_135.1 4 List.not_mem_nil]
  rfl
theorem it137_t (h0 : 0 ≤ (M.1 4).toInt) : ∀ k : Nat, (M.1 4).toInt + k ≤ 100000 → ((zit r137 k M).1 4).toInt = (M.1 4).toInt + k
  | 0, _ => by
    show (M.1 4).toInt = _
    omega
  | k + 1, h => by
    have ih := it137_t h0 k (by omega)
    show ((r137 (zit r137 k M)).1 4).toInt = _
    rw [r137_t]
    have e := zad_ti (a := (zit r137 k M).1 4) (b := Int32.ofInt 1) (by rw [ih, show (Int32.ofInt 1).toInt = 1 by decide]; omega) (by rw [ih, show (Int32.ofInt 1).toInt = 1 by decide]; omega)
    rw [e, ih, show (Int32.ofInt 1).toInt = 1 by decide]
    omega
/-- pass, many ticks -/
theorem z150_it (hx : 1 ≤ n) (hn : n ≤ 100) (h0 : 0 ≤ (M.1 4).toInt) (ht : (M.1 4).toInt + n ≤ 2000) : r150 (Int32.ofNat n) M = zit r137 n (zmS M 0 (Int32.ofInt 0)) ∧ v150 (Int32.ofNat n) M = (zit r137 n (zmS M 0 (Int32.ofInt 0))).1 4 := by
  have en : (Int32.ofNat n).toInt = n := zofI (by omega)
  have n1 : ¬ v112 (Int32.ofNat n) (Int32.ofInt 1) (Int32.ofInt 100) (zmS M 0 (Int32.ofInt 0)) = 0 := fun z => v112_1.mp z (by
    rw [en, show (Int32.ofInt 1).toInt = 1 by decide, show (Int32.ofInt 100).toInt = 100 by decide]
    omega)
  have n2 : ¬ (Int32.ofInt 2000).toInt < (((zmS M 0 (Int32.ofInt 0)).1 4) + Int32.ofNat n).toInt := by
    have e := zad_ti (a := M.1 4) (b := Int32.ofNat n) (by rw [en]; omega) (by rw [en]; omega)
    show ¬ (Int32.ofInt 2000).toInt < (M.1 4 + Int32.ofNat n).toInt
    rw [e, en, show (Int32.ofInt 2000).toInt = 2000 by decide]
    omega
  have ek : (Int32.ofNat n).toInt.toNat = n := by omega
  have hr : r150 (Int32.ofNat n) M = x150 (Int32.ofNat n) M (w150 (Int32.ofNat n) M (zmS M 0 (Int32.ofInt 0)) (Int32.ofNat n).toInt.toNat) := (if_neg n1).trans (if_neg n2)
  have hv : v150 (Int32.ofNat n) M = y150 (Int32.ofNat n) M (w150 (Int32.ofNat n) M (zmS M 0 (Int32.ofInt 0)) (Int32.ofNat n).toInt.toNat) := (if_neg n1).trans (if_neg n2)
  rw [hr, hv, w150_it, ek]
  exact ⟨rfl, rfl⟩
/-- one tick more -/
theorem z150_1 (hk : (M.1 4).toInt + (k + 1) ≤ 2000) (h0 : 0 ≤ (M.1 4).toInt) (hM : M.1 0 = 0) : r150 (Int32.ofInt 1) (zit r137 k M) = zit r137 (k + 1) M := by
  have f := it137_fr (M := M) k
  have t := it137_t h0 k (by omega)
  have e := (z150_it (M := zit r137 k M) (n := 1) (by decide) (by decide) (by rw [t]; omega) (by rw [t]; omega)).1
  rw [z00_id ((f.1 0 (by decide)).trans hM)] at e
  exact e
/-- hammer, many times -/
theorem z145_it (ha : a < 2) (hb : b < 8) (hx : 1 ≤ n) (hn : n ≤ 100) : r145 (Int32.ofNat a) (Int32.ofNat b) (Int32.ofNat n) M = zit (r129 (zgt (M.2.1 22) (Int32.ofNat a * Int32.ofInt 8 + Int32.ofNat b))) n (zmS M 0 (Int32.ofInt 0)) ∧ v145 (Int32.ofNat a) (Int32.ofNat b) (Int32.ofNat n) M = zgt ((zit (r129 (zgt (M.2.1 22) (Int32.ofNat a * Int32.ofInt 8 + Int32.ofNat b))) n (zmS M 0 (Int32.ofInt 0))).2.1 20) (zgt (M.2.1 22) (Int32.ofNat a * Int32.ofInt 8 + Int32.ofNat b)) := by
  have en : (Int32.ofNat n).toInt = n := zofI (by omega)
  have n1 : ¬ v112 (Int32.ofNat a) (Int32.ofInt 0) (Int32.ofInt 1) (zmS M 0 (Int32.ofInt 0)) = 0 := zn112 (n := 1) (by omega) (by decide) (by decide)
  have n2 : ¬ v112 (Int32.ofNat b) (Int32.ofInt 0) (Int32.ofInt 7) (zmS M 0 (Int32.ofInt 0)) = 0 := zn112 (n := 7) (by omega) (by decide) (by decide)
  have n3 : ¬ v112 (Int32.ofNat n) (Int32.ofInt 1) (Int32.ofInt 100) (zmS M 0 (Int32.ofInt 0)) = 0 := fun z => v112_1.mp z (by
    rw [en, show (Int32.ofInt 1).toInt = 1 by decide, show (Int32.ofInt 100).toInt = 100 by decide]
    omega)
  have ek : (Int32.ofNat n).toInt.toNat = n := by omega
  obtain ⟨l, hl⟩ : ∃ l, l = zgt (M.2.1 22) (Int32.ofNat a * Int32.ofInt 8 + Int32.ofNat b) := ⟨_, rfl⟩
  have hr : r145 (Int32.ofNat a) (Int32.ofNat b) (Int32.ofNat n) M = x145 (Int32.ofNat a) (Int32.ofNat b) (Int32.ofNat n) l M (w145 (Int32.ofNat a) (Int32.ofNat b) (Int32.ofNat n) l M (zmS M 0 (Int32.ofInt 0)) (Int32.ofNat n).toInt.toNat) := by
    rw [hl]
    exact ((if_neg n1).trans (if_neg n2)).trans (if_neg n3)
  have hv : v145 (Int32.ofNat a) (Int32.ofNat b) (Int32.ofNat n) M = y145 (Int32.ofNat a) (Int32.ofNat b) (Int32.ofNat n) l M (w145 (Int32.ofNat a) (Int32.ofNat b) (Int32.ofNat n) l M (zmS M 0 (Int32.ofInt 0)) (Int32.ofNat n).toInt.toNat) := by
    rw [hl]
    exact ((if_neg n1).trans (if_neg n2)).trans (if_neg n3)
  rw [hr, hv, ← hl, w145_it, ek]
  exact ⟨rfl, rfl⟩
theorem z145_1 {l : Int32} (ha : a < 2) (hb : b < 8) (hl : l = zgt (M.2.1 22) (Int32.ofNat a * Int32.ofInt 8 + Int32.ofNat b)) (hM : M.1 0 = 0) : r145 (Int32.ofNat a) (Int32.ofNat b) (Int32.ofInt 1) (zit (r129 l) k M) = zit (r129 l) (k + 1) M ∧ v145 (Int32.ofNat a) (Int32.ofNat b) (Int32.ofInt 1) (zit (r129 l) k M) = zgt ((zit (r129 l) (k + 1) M).2.1 20) l := by
  have f := it129_fr (M := M) (l := l) k
  have e := z145_it (M := zit (r129 l) k M) (n := 1) ha hb (by decide) (by decide)
  rw [f.2.1 22 (by decide), ← hl, z00_id ((f.1 0 (by decide)).trans hM)] at e
  exact e
end ZQA
/-! Bounds that grow by so much a call at most: counts, and what was logged ever. -/
section ZQB
variable {M A B C : zRt} {n m k a b : Nat} {x x1 x2 x3 x4 x5 y v : Int32}
def zLb (M : zRt) (b : Nat) : Prop := 0 ≤ (M.1 14).toInt ∧ 0 ≤ (M.1 15).toInt ∧ (M.1 14).toInt + (M.1 15).toInt ≤ b ∧ ((M.2.2.1 2).length : Int) ≤ (M.1 14).toInt + (M.1 15).toInt ∧ ∀ j, 0 ≤ (zgt (M.2.1 20) j).toInt ∧ (zgt (M.2.1 20) j).toInt ≤ b
def zNb (n : Nat) (B A : zRt) : Prop := ∀ b : Nat, b + n ≤ 1000000 → zLb A b → zLb B (b + n)
theorem zLb_mo (h : zLb M a) (hb : a ≤ b) : zLb M b := ⟨h.1, h.2.1, by have := h.2.2.1; omega, h.2.2.2.1, fun j => ⟨(h.2.2.2.2 j).1, by have := (h.2.2.2.2 j).2; omega⟩⟩
theorem nb_rf : zNb n M M := fun b _ h => zLb_mo h (by omega)
theorem nb_tr (h1 : zNb n C B) (h2 : zNb m B A) : zNb (m + n) C A := fun b hb h => by
  have := h1 (b + m) (by omega) (h2 b (by omega) h)
  rw [← Nat.add_assoc]
  exact this
theorem nb_mo (h : zNb n B A) (hm : n ≤ m) : zNb m B A := fun b hb g => zLb_mo (h b (by omega) g) (by omega)
theorem nb_ite {c : Prop} [Decidable c] (h1 : zNb n A M) (h2 : zNb n B M) : zNb n (if c then A else B) M := by
  split
  · exact h1
  · exact h2
theorem nb_fr {W V Y : List Nat} (f : zfrM W V Y B A) (k : (14 ∉ W ∧ 15 ∉ W) ∧ 20 ∉ V ∧ 2 ∉ Y) : zNb 0 B A := fun b _ h => by
  obtain ⟨⟨k1, k2⟩, k3, k4⟩ := k
  unfold zLb
  rw [f.1 14 k1, f.1 15 k2, f.2.1 20 k3, f.2.2.2.1 2 k4]
  exact h
theorem nb_c {W V Y : List Nat} (h : zNb n A M) (f : zfrM W V Y B A) (k : (14 ∉ W ∧ 15 ∉ W) ∧ 20 ∉ V ∧ 2 ∉ Y) : zNb n B M := nb_tr (nb_fr f k) h
theorem nb_W (h : zNb n A M) : zNb n (zmW A 24 x y) M := nb_c h (gm_W (k := 24)) (by decide)
theorem nb_S10 (h : zNb n A M) : zNb n (zmS A 10 y) M := nb_c h (gm_S (k := 10)) (by decide)
theorem nb_S4 (h : zNb n A M) : zNb n (zmS A 4 y) M := nb_c h (gm_S (k := 4)) (by decide)
theorem nb_S0 (h : zNb n A M) : zNb n (zmS A 0 y) M := nb_c h (gm_S (k := 0)) (by decide)
theorem nb_111 (h : zNb n A M) : zNb n (r111 x A) M := nb_c h gr_111 (by decide)
theorem nb_127 (h : zNb n A M) : zNb n (r127 x y A) M := nb_c h gr_127 (by decide)
theorem nb_135 (h : zNb n A M) : zNb n (r135 A) M := nb_c h gr_135 (by decide)
/-- a note -/
theorem nb_130a : zNb 1 (r130 x y M) M := by
  intro b hb h
  have f := gr_130 (x1 := x) (x2 := y) (M := M)
  obtain ⟨h1, h2, h3, h4, h5⟩ := h
  have k5 : ∀ j, 0 ≤ (zgt ((r130 x y M).2.1 20) j).toInt ∧ (zgt ((r130 x y M).2.1 20) j).toInt ≤ ((b + 1 : Nat) : Int) := fun j => by
    rw [f.2.1 20 List.not_mem_nil]
    have := h5 j
    omega
  have i0 : (Int32.ofInt 0).toInt = 0 := by decide
  have i1 : (Int32.ofInt 1).toInt = 1 := by decide
  have a0 : M.1 14 + Int32.ofInt 0 = M.1 14 := zad0
  have b0 : M.1 15 + Int32.ofInt 0 = M.1 15 := zad0
  have a1 : (M.1 14 + Int32.ofInt 1).toInt = (M.1 14).toInt + 1 := by
    rw [zad_ti (by rw [i1]; omega) (by rw [i1]; omega), i1]
  have b1 : (M.1 15 + Int32.ofInt 1).toInt = (M.1 15).toInt + 1 := by
    rw [zad_ti (by rw [i1]; omega) (by rw [i1]; omega), i1]
  have key : ∃ u w : Int32, (u = M.1 14 ∧ w.toInt = (M.1 15).toInt + 1 ∨ u.toInt = (M.1 14).toInt + 1 ∧ w = M.1 15) ∧ (r130 x y M).1 14 = u ∧ (r130 x y M).1 15 = w ∧ ((r130 x y M).2.2.1 2).length ≤ (M.2.2.1 2).length + 1 := by
    have ll : ∀ e : List Int32, (M.2.2.1 2 ++ [e]).length ≤ (M.2.2.1 2).length + 1 := fun e => by simp
    unfold r130
    by_cases q : y = Int32.ofInt (-1)
    · rw [if_pos q, if_pos q]
      refine ⟨M.1 14, M.1 15 + Int32.ofInt 1, Or.inl ⟨rfl, b1⟩, ?_⟩
      split
      · exact ⟨a0, rfl, ll _⟩
      · exact ⟨a0, rfl, Nat.le_succ _⟩
    · rw [if_neg q, if_neg q]
      refine ⟨M.1 14 + Int32.ofInt 1, M.1 15, Or.inr ⟨a1, rfl⟩, ?_⟩
      split
      · exact ⟨rfl, b0, ll _⟩
      · exact ⟨rfl, b0, Nat.le_succ _⟩
  obtain ⟨u, w, hk, e1, e2, e3⟩ := key
  refine ⟨?_, ?_, ?_, ?_, k5⟩
  · rw [e1]
    rcases hk with ⟨rfl, _⟩ | ⟨z, _⟩
    · exact h1
    · omega
  · rw [e2]
    rcases hk with ⟨_, z⟩ | ⟨_, rfl⟩
    · omega
    · exact h2
  · rw [e1, e2]
    rcases hk with ⟨rfl, z⟩ | ⟨z, rfl⟩
    · omega
    · omega
  · rw [e1, e2]
    rcases hk with ⟨rfl, z⟩ | ⟨z, rfl⟩
    · omega
    · omega
theorem nb_130 (h : zNb n A M) : zNb (n + 1) (r130 x y A) M := nb_tr nb_130a h
/-- a line is opened -/
theorem nb_129a : zNb 1 (r129 x M) M := by
  intro b hb h
  obtain ⟨h1, h2, h3, h4, h5⟩ := h
  have q : zLb (q129 x M) (b + 1) := by
    have f := gr_q129 (x1 := x) (M := M)
    refine ⟨?_, ?_, ?_, ?_, fun j => ?_⟩
    · rw [f.1 14 List.not_mem_nil]
      exact h1
    · rw [f.1 15 List.not_mem_nil]
      exact h2
    · rw [f.1 14 List.not_mem_nil, f.1 15 List.not_mem_nil]
      omega
    · rw [f.1 14 List.not_mem_nil, f.1 15 List.not_mem_nil, f.2.2.2.1 2 List.not_mem_nil]
      exact h4
    · have e : (q129 x M).2.1 20 = zst (M.2.1 20) x (zgt (M.2.1 20) x + Int32.ofInt 1) := rfl
      rw [e]
      have i1 : (Int32.ofInt 1).toInt = 1 := by decide
      have hx := h5 x
      have e1 : (zgt (M.2.1 20) x + Int32.ofInt 1).toInt = (zgt (M.2.1 20) x).toInt + 1 := by
        rw [zad_ti (by rw [i1]; omega) (by rw [i1]; omega), i1]
      rcases zst_gt (l := M.2.1 20) (i := x) (v := zgt (M.2.1 20) x + Int32.ofInt 1) (j := j) with z | z
      · rw [z, e1]
        omega
      · rw [z]
        have := h5 j
        omega
  have t : ∀ {y : Int32} {A : zRt}, zLb A (b + 1) → zLb (t129 x y A) (b + 1) := fun {y A} g => nb_fr (gr_t129 (x1 := x) (b := y) (M := A)) (by decide) (b + 1) (by omega) g
  unfold r129
  split
  · exact t (t q)
  · exact q
theorem nb_129 (h : zNb n A M) : zNb (n + 1) (r129 x A) M := nb_tr nb_129a h
theorem nb_133a : zNb 1 (r133 x M) M := by
  unfold r133
  exact (nb_ite nb_rf (nb_ite (nb_ite (nb_130 nb_rf) (nb_127 (nb_130 nb_rf))) nb_rf))
theorem nb_133 (h : zNb n A M) : zNb (n + 1) (r133 x A) M := nb_tr nb_133a h
theorem nb_134 : zNb 10 (r134 x M) M := by
  unfold r134
  exact (nb_ite (nb_ite (nb_ite (nb_W (nb_130 (nb_133 (nb_129 nb_rf)))) (nb_ite (nb_ite (nb_ite (nb_W (nb_133 (nb_129 (nb_130 (nb_133 (nb_129 nb_rf)))))) (nb_W (nb_127 (nb_133 (nb_129 (nb_130 (nb_133 (nb_129 nb_rf)))))))) (nb_W (nb_129 (nb_130 (nb_133 (nb_129 nb_rf)))))) (nb_W (nb_130 (nb_133 (nb_129 nb_rf)))))) (nb_133 (nb_129 nb_rf))) (nb_ite (nb_W (nb_129 nb_rf)) (nb_ite (nb_ite (nb_ite (nb_W (nb_133 (nb_129 (nb_129 nb_rf)))) (nb_W (nb_127 (nb_133 (nb_129 (nb_129 nb_rf)))))) (nb_W (nb_129 (nb_129 nb_rf)))) (nb_W (nb_129 nb_rf)))))
theorem nb_132 (h : zNb n A M) : zNb (n + 1) (r132 x y A) M := by
  unfold r132
  exact nb_W (nb_127 (nb_129 h))
theorem nb_140 : zNb 10 (r140 x y M) M := by
  unfold r140
  exact (nb_ite (nb_111 (nb_S0 nb_rf)) (nb_ite (nb_111 (nb_S0 nb_rf)) (nb_ite (nb_ite (nb_132 (nb_S0 nb_rf)) (nb_ite (nb_132 (nb_132 (nb_S0 nb_rf))) (nb_132 (nb_S0 nb_rf)))) (nb_111 (nb_S0 nb_rf)))))
theorem nb_141 : zNb 10 (r141 x M) M := by
  unfold r141
  exact (nb_ite (nb_111 (nb_S0 nb_rf)) (nb_ite (show zNb (0 + 10) _ M from nb_tr nb_134 (nb_S0 (nb_rf (n := 0)))) (nb_111 (nb_S0 nb_rf))))
theorem nb_142 : zNb 0 (r142 x y M) M := nb_fr gr_142 (by decide)
theorem nb_143 : zNb 0 (r143 x1 x2 x3 M) M := nb_fr gr_143 (by decide)
theorem nb_144 : zNb 0 (r144 x1 x2 x3 M) M := nb_fr gr_144 (by decide)
theorem nb_146 : zNb 0 (r146 x1 x2 x3 x4 x5 M) M := nb_fr gr_146 (by decide)
theorem nb_i129 {l : Int32} : ∀ k, zNb k (zit (r129 l) k M) M
  | 0 => nb_rf
  | k + 1 => nb_129 (nb_i129 k)
theorem nb_d136 {u : zRt} : zNb 1 (d136 M k u) u := by
  unfold d136
  exact (nb_ite (nb_ite (nb_ite (nb_S10 nb_rf) (nb_ite (nb_127 (nb_130 (nb_S10 nb_rf))) (nb_W (nb_130 (nb_S10 nb_rf))))) (nb_S10 nb_rf)) (nb_S10 nb_rf))
theorem nb_w136 {u : zRt} : ∀ k, zNb k (w136 M u k) u
  | 0 => nb_rf
  | k + 1 => nb_tr nb_d136 (nb_w136 k)
theorem nb_136 (h : (M.1 7).toInt ≤ 8) : zNb 8 (r136 M) M := nb_mo (nb_w136 (M.1 7).toInt.toNat) (by omega)
theorem nb_w137 : ∀ k, zNb 0 (w137 M k) M
  | 0 => nb_rf
  | k + 1 => fun b hb h => by
    obtain ⟨h1, h2, h3, h4, h5⟩ := nb_w137 k b hb h
    refine ⟨h1, h2, h3, h4, fun j => ?_⟩
    have e : (w137 M (k + 1)).2.1 20 = zst ((w137 M k).2.1 20) (Int32.ofNat k) (Int32.ofInt 0) := rfl
    rw [e]
    rcases zst_gt (l := (w137 M k).2.1 20) (i := Int32.ofNat k) (v := Int32.ofInt 0) (j := j) with z | z
    · rw [z, show (Int32.ofInt 0).toInt = 0 by decide]
      omega
    · rw [z]
      exact h5 j
theorem nb_137 (h : (M.1 7).toInt ≤ 8) : zNb 8 (r137 M) M := by
  have q : zNb 0 (q137 (r135 (zmS M 4 (M.1 4 + Int32.ofInt 1)))) M := by
    unfold q137
    exact nb_ite (show zNb (0 + 0) _ M from nb_tr (nb_w137 20) (nb_135 (nb_S4 (nb_rf (n := 0))))) (nb_135 (nb_S4 nb_rf))
  have e7 : ((q137 (r135 (zmS M 4 (M.1 4 + Int32.ofInt 1)))).1 7).toInt ≤ 8 := by
    rw [gr_q137.1 7 List.not_mem_nil, gr_135.1 7 List.not_mem_nil]
    exact h
  have t := nb_tr (nb_136 e7) q
  exact t
theorem nb_i137 (h : (M.1 7).toInt ≤ 8) : ∀ k, zNb (8 * k) (zit r137 k M) M
  | 0 => nb_rf
  | k + 1 => by
    have e7 : ((zit r137 k M).1 7).toInt ≤ 8 := by
      rw [(it137_fr k).1 7 (by decide)]
      exact h
    show zNb (8 * k + 8) _ _
    exact nb_tr (nb_137 e7) (nb_i137 h k)
end ZQB
