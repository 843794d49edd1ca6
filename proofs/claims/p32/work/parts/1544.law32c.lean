/-! The model between two calls of the law, and what it answers then. -/
theorem zand_nn {x m : Int32} (hm : 0 ≤ m.toInt) : 0 ≤ (x &&& m).toInt ∧ (x &&& m).toInt ≤ m.toInt := by
  have key : ∀ b : BitVec 32, 0 ≤ b.toInt → b.toNat < 2147483648 ∧ b.toInt = b.toNat := fun b hb => by
    have l := b.isLt
    rw [BitVec.toInt_eq_toNat_cond] at hb ⊢
    split at hb
    · rename_i q
      rw [if_pos q]
      omega
    · omega
  obtain ⟨k1, k2⟩ := key m.toBitVec hm
  have e : (x &&& m).toBitVec.toNat = x.toBitVec.toNat &&& m.toBitVec.toNat := rfl
  have le : (x &&& m).toBitVec.toNat ≤ m.toBitVec.toNat := by
    rw [e]
    exact Nat.and_le_right
  have e2 : (x &&& m).toBitVec.toInt = (x &&& m).toBitVec.toNat := by
    rw [BitVec.toInt_eq_toNat_cond, if_pos (by omega)]
  have g1 : (x &&& m).toInt = (x &&& m).toBitVec.toInt := rfl
  have g2 : m.toInt = m.toBitVec.toInt := rfl
  rw [g1, g2, e2, k2]
  omega
section ZMI
variable {S : zSt} {M M' A : zRt} {n m k t b p : Nat} {x x1 x2 x3 : Int32} {W V Y : List Nat}
def zr22 : List Int32 := [0, 1, 2, 3, 4, 5, 6, 7, 10, 11, 12, 13, 14, 15, 16, 17]
def zMI (M : zRt) (t b : Nat) : Prop := M.1 0 = 0 ∧ (M.1 1 = Int32.ofNat 8 ∧ M.1 2 = Int32.ofNat 5) ∧ (0 ≤ (M.1 4).toInt ∧ (M.1 4).toInt ≤ t) ∧ (M.1 7).toInt ≤ 8 ∧ (∀ j, zgt (M.2.1 25) j = 0) ∧ M.2.1 22 = zr22 ∧ zLb M b
theorem zMI_s (f : zfrM W V Y M' M) (k1 : (1 ∉ W ∧ 2 ∉ W) ∧ 4 ∉ W ∧ 7 ∉ W) (k2 : 22 ∉ V ∧ 25 ∉ V) (t0 : M'.1 0 = 0) (q : zNb n M' M) (hb : b + n ≤ 1000000) (h : zMI M t b) : zMI M' t (b + n) := by
  obtain ⟨-, ⟨h1, h2⟩, h3, h4, h5, h6, h7⟩ := h
  refine ⟨t0, ⟨(f.1 1 k1.1.1).trans h1, (f.1 2 k1.1.2).trans h2⟩, ?_, ?_, ?_, ?_, q b hb h7⟩
  · rw [f.1 4 k1.2.1]
    exact h3
  · rw [f.1 7 k1.2.2]
    exact h4
  · rw [f.2.1 25 k2.2]
    exact h5
  · rw [f.2.1 22 k2.1]
    exact h6
theorem zMI_mo {t' b' : Nat} (ht : t ≤ t') (hb : b ≤ b') (h : zMI M t b) : zMI M t' b' := ⟨h.1, h.2.1, ⟨h.2.2.1.1, by have := h.2.2.1.2; omega⟩, h.2.2.2.1, h.2.2.2.2.1, h.2.2.2.2.2.1, zLb_mo h.2.2.2.2.2.2 hb⟩
theorem zt0 : (zmS M 0 (Int32.ofInt 0)).1 0 = 0 := rfl
theorem zn138 (hn : n < 128) : ¬ v138 (Int32.ofNat n) (zmS M 0 (Int32.ofInt 0)) = 0 := zn112 (n := 127) (by omega) (by decide) (by decide)
theorem zn112g {lo hi : Int32} (h1 : lo.toInt ≤ x.toInt) (h2 : x.toInt ≤ hi.toInt) : ¬ v112 x lo hi A = 0 := fun z => v112_1.mp z ⟨h1, h2⟩
theorem zt_140 (h : zMI M t b) (hn : n < 128) (hm : m ≤ 255) : (r140 (Int32.ofNat n) (Int32.ofNat m) M).1 0 = 0 := by
  have n2 : ¬ v112 (Int32.ofNat m) (Int32.ofInt 0) (((Int32.ofInt 1) <<< (((zmS M 0 (Int32.ofInt 0)).1 1) &&& 31)) - (Int32.ofInt 1)) (zmS M 0 (Int32.ofInt 0)) = 0 := by
    have e : (zmS M 0 (Int32.ofInt 0)).1 1 = Int32.ofNat 8 := h.2.1.1
    rw [e]
    exact zn112 (n := 255) (by omega) (by decide) (by decide)
  have n3 : zgt ((zmS M 0 (Int32.ofInt 0)).2.1 25) (Int32.ofNat n) = 0 := h.2.2.2.2.1 _
  have e : r140 (Int32.ofNat n) (Int32.ofNat m) M = _ := (if_neg (zn138 hn)).trans ((if_neg n2).trans (if_pos n3))
  rw [e]
  split
  · exact (gr_132.1 0 (by decide)).trans zt0
  · split
    · exact (gr_132.1 0 (by decide)).trans ((gr_132.1 0 (by decide)).trans zt0)
    · exact (gr_132.1 0 (by decide)).trans zt0
theorem zt_141 (h : zMI M t b) (hn : n < 128) : (r141 (Int32.ofNat n) M).1 0 = 0 := by
  have n3 : zgt ((zmS M 0 (Int32.ofInt 0)).2.1 25) (Int32.ofNat n) = 0 := h.2.2.2.2.1 _
  have e : r141 (Int32.ofNat n) M = _ := (if_neg (zn138 hn)).trans (if_pos n3)
  rw [e]
  exact (gr_134.1 0 (by decide)).trans zt0
theorem zbit9 : ∀ t, t < 13 → 1 ≤ (Int32.ofInt 1 <<< (Int32.ofNat t &&& 31)).toInt ∧ (Int32.ofInt 1 <<< (Int32.ofNat t &&& 31)).toInt ≤ 8191 := fun t ht => of_decide_eq_true (List.all_eq_true.mp (show (List.range 13).all (fun t => decide (1 ≤ (Int32.ofInt 1 <<< (Int32.ofNat t &&& 31)).toInt ∧ (Int32.ofInt 1 <<< (Int32.ofNat t &&& 31)).toInt ≤ 8191)) = true by decide +kernel) t (List.mem_range.mpr ht))
theorem zt_142 (h : zMI M t b) (hn : n < 128) (hp : p < 13) : (r142 (Int32.ofNat n) (Int32.ofInt 1 <<< (Int32.ofNat p &&& 31)) M).1 0 = 0 := by
  have n2 : ¬ v112 (Int32.ofInt 1 <<< (Int32.ofNat p &&& 31)) (Int32.ofInt 1) (((Int32.ofInt 1) <<< (((zmS M 0 (Int32.ofInt 0)).1 1 + (zmS M 0 (Int32.ofInt 0)).1 2) &&& 31)) - (Int32.ofInt 1)) (zmS M 0 (Int32.ofInt 0)) = 0 := by
    have e : (zmS M 0 (Int32.ofInt 0)).1 1 = Int32.ofNat 8 := h.2.1.1
    have e2 : (zmS M 0 (Int32.ofInt 0)).1 2 = Int32.ofNat 5 := h.2.1.2
    rw [e, e2, show (Int32.ofInt 1 <<< ((Int32.ofNat 8 + Int32.ofNat 5) &&& 31)) - Int32.ofInt 1 = Int32.ofInt 8191 by decide]
    have z := zbit9 p hp
    exact zn112g (by rw [show (Int32.ofInt 1).toInt = 1 by decide]; exact z.1) (by rw [show (Int32.ofInt 8191).toInt = 8191 by decide]; exact z.2)
  have e : r142 (Int32.ofNat n) (Int32.ofInt 1 <<< (Int32.ofNat p &&& 31)) M = _ := (if_neg (zn138 hn)).trans (if_neg n2)
  rw [e]
  exact (gr_127.1 0 (by decide)).trans zt0
theorem zn_bit (h : zMI M t b) (hp : p < 13) : ¬ v112 (Int32.ofNat p) (Int32.ofInt 0) (((zmS M 0 (Int32.ofInt 0)).1 1 + (zmS M 0 (Int32.ofInt 0)).1 2) - (Int32.ofInt 1)) (zmS M 0 (Int32.ofInt 0)) = 0 := by
  have e : (zmS M 0 (Int32.ofInt 0)).1 1 = Int32.ofNat 8 := h.2.1.1
  have e2 : (zmS M 0 (Int32.ofInt 0)).1 2 = Int32.ofNat 5 := h.2.1.2
  rw [e, e2]
  exact zn112 (n := 12) (by omega) (by decide) (by decide)
theorem zn_24 {l : Nat} (h : (Int32.ofNat l).toInt < 24) : ¬ Int32.ofNat l = Int32.ofInt 24 := fun z => by
  rw [z, show (Int32.ofInt 24).toInt = 24 by decide] at h
  omega
theorem zt_143 (h : zMI M t b) (hn : n < 128) (hp : p < 13) (hl : (Int32.ofNat (M.2.2.1 0).length).toInt < 24) : (r143 (Int32.ofNat n) (Int32.ofNat p) x3 M).1 0 = 0 := by
  have n3 : ¬ Int32.ofNat ((zmS M 0 (Int32.ofInt 0)).2.2.1 0).length = Int32.ofInt 24 := zn_24 hl
  have e : r143 (Int32.ofNat n) (Int32.ofNat p) x3 M = _ := (if_neg (zn138 hn)).trans ((if_neg (zn_bit h hp)).trans (if_neg n3))
  rw [e]
  split
  · exact (gr_127.1 0 (by decide)).trans (zt0 (M := M))
  · exact (gr_127.1 0 (by decide)).trans (zt0 (M := M))
theorem zt_144 (h : zMI M t b) (hn : n < 128) (hp : p < 13) (hm : 1 ≤ m) (hm2 : m ≤ 30) (hl : (Int32.ofNat (M.2.2.1 1).length).toInt < 24) : (r144 (Int32.ofNat n) (Int32.ofNat p) (Int32.ofNat m) M).1 0 = 0 := by
  have n4 : ¬ Int32.ofNat ((zmS M 0 (Int32.ofInt 0)).2.2.1 1).length = Int32.ofInt 24 := zn_24 hl
  have em : (Int32.ofNat m).toInt = m := zofI (by omega)
  have n3 : ¬ v112 (Int32.ofNat m) (Int32.ofInt 1) (Int32.ofInt 60) (zmS M 0 (Int32.ofInt 0)) = 0 := zn112g (by rw [em, show (Int32.ofInt 1).toInt = 1 by decide]; omega) (by rw [em, show (Int32.ofInt 60).toInt = 60 by decide]; omega)
  have e : r144 (Int32.ofNat n) (Int32.ofNat p) (Int32.ofNat m) M = _ := (if_neg (zn138 hn)).trans ((if_neg (zn_bit h hp)).trans ((if_neg n3).trans (if_neg n4)))
  rw [e]
  exact zt0 (M := M)
theorem zt_146 {x4 x5 : Int32} {a c d : Nat} (ha : 1 ≤ a ∧ a ≤ 100) (hc : 2 ≤ c ∧ c ≤ 100) (hd : d ≤ 8) : r146 (Int32.ofNat a) (Int32.ofNat c) (Int32.ofNat d) x4 x5 M = zmS (zmS (zmS (zmS (zmS (zmS M 0 (Int32.ofInt 0)) 5 (Int32.ofNat a)) 6 (Int32.ofNat c)) 7 (Int32.ofNat d)) 8 x4) 9 x5 := by
  have ea : (Int32.ofNat a).toInt = a := zofI (by omega)
  have ec : (Int32.ofNat c).toInt = c := zofI (by omega)
  have n1 : ¬ v112 (Int32.ofNat a) (Int32.ofInt 1) (Int32.ofInt 100) (zmS M 0 (Int32.ofInt 0)) = 0 := zn112g (by rw [ea, show (Int32.ofInt 1).toInt = 1 by decide]; omega) (by rw [ea, show (Int32.ofInt 100).toInt = 100 by decide]; omega)
  have n2 : ¬ v112 (Int32.ofNat c) (Int32.ofInt 2) (Int32.ofInt 100) (zmS M 0 (Int32.ofInt 0)) = 0 := zn112g (by rw [ec, show (Int32.ofInt 2).toInt = 2 by decide]; omega) (by rw [ec, show (Int32.ofInt 100).toInt = 100 by decide]; omega)
  have n3 : ¬ v112 (Int32.ofNat d) (Int32.ofInt 0) (Int32.ofInt 8) (zmS M 0 (Int32.ofInt 0)) = 0 := zn112 (n := 8) hd (by decide) (by decide)
  exact (if_neg n1).trans ((if_neg n2).trans (if_neg n3))
theorem zMI_146 {x4 x5 : Int32} {a c d : Nat} (ha : 1 ≤ a ∧ a ≤ 100) (hc : 2 ≤ c ∧ c ≤ 100) (hd : d ≤ 8) (h : zMI M t b) : (r146 (Int32.ofNat a) (Int32.ofNat c) (Int32.ofNat d) x4 x5 M).1 0 = 0 ∧ zMI (r146 (Int32.ofNat a) (Int32.ofNat c) (Int32.ofNat d) x4 x5 M) t b := by
  rw [zt_146 ha hc hd]
  have ed : (Int32.ofNat d).toInt = d := zofI (by omega)
  refine ⟨rfl, rfl, h.2.1, h.2.2.1, ?_, h.2.2.2.2⟩
  show (Int32.ofNat d).toInt ≤ 8
  omega
/-- a pass, tick by tick -/
theorem zMI_it (h : zMI M t b) (ht : t + k ≤ 2000) (hb : b + 8 * k ≤ 1000000) : zMI (zit r137 k (zmS M 0 (Int32.ofInt 0))) (t + k) (b + 8 * k) := by
  have h0 : zMI (zmS M 0 (Int32.ofInt 0)) t b := ⟨rfl, h.2⟩
  obtain ⟨-, ⟨h1, h2⟩, h3, h4, h5, h6, h7⟩ := h0
  have f := it137_fr (M := zmS M 0 (Int32.ofInt 0)) k
  have et := it137_t h3.1 k (by omega)
  refine ⟨(f.1 0 (by decide)).trans zt0, ⟨(f.1 1 (by decide)).trans h1, (f.1 2 (by decide)).trans h2⟩, ?_, ?_, ?_, ?_, nb_i137 h4 k b hb h7⟩
  · rw [et]
    omega
  · rw [f.1 7 (by decide)]
    exact h4
  · rw [f.2.1 25 (by decide)]
    exact h5
  · rw [f.2.1 22 (by decide)]
    exact h6
/-- a hammering, time by time -/
theorem zMI_ih {l : Int32} (h : zMI M t b) (hb : b + k ≤ 1000000) : zMI (zit (r129 l) k (zmS M 0 (Int32.ofInt 0))) t (b + k) := zMI_s (it129_fr k) (by decide) (by decide) (((it129_fr k).1 0 (by decide)).trans zt0) (nb_i129 k) hb ⟨rfl, h.2⟩
theorem zMI_54 (h : zMI M t b) (hn : n < 128) (hm : m ≤ 255) (hb : b ≤ 900000) : zMI (r140 (Int32.ofNat n) (Int32.ofNat m) M) t (b + 10) := zMI_s gr_140 (by decide) (by decide) (zt_140 h hn hm) nb_140 (by omega) h
theorem zMI_55 (h : zMI M t b) (hn : n < 128) (hb : b ≤ 900000) : zMI (r141 (Int32.ofNat n) M) t (b + 10) := zMI_s gr_141 (by decide) (by decide) (zt_141 h hn) nb_141 (by omega) h
theorem zMI_56 (h : zMI M t b) (t0 : (r142 x1 x2 M).1 0 = 0) (hb : b ≤ 900000) : zMI (r142 x1 x2 M) t (b + 0) := zMI_s gr_142 (by decide) (by decide) t0 nb_142 (by omega) h
theorem zMI_57 (h : zMI M t b) (t0 : (r143 x1 x2 x3 M).1 0 = 0) (hb : b ≤ 900000) : zMI (r143 x1 x2 x3 M) t (b + 0) := zMI_s gr_143 (by decide) (by decide) t0 nb_143 (by omega) h
theorem zMI_58 (h : zMI M t b) (t0 : (r144 x1 x2 x3 M).1 0 = 0) (hb : b ≤ 900000) : zMI (r144 x1 x2 x3 M) t (b + 0) := zMI_s gr_144 (by decide) (by decide) t0 nb_144 (by omega) h
theorem zv172 (hi : x.toInt = (k : Int)) (hk : k ≤ 17) : v172 x M = v171 x (zmS M 0 (Int32.ofInt 0)) := if_neg (zn112g (by rw [hi, show (Int32.ofInt 0).toInt = 0 by decide]; omega) (by rw [hi, show (Int32.ofInt 17).toInt = 17 by decide]; omega))
theorem zv172_14 : v172 (Int32.ofInt 14) M = Int32.ofNat (M.2.2.1 0).length := by
  rw [zv172 (k := 14) (by decide) (by decide)]
  unfold v171
  split <;> split <;> rfl
theorem zv172_15 : v172 (Int32.ofInt 15) M = Int32.ofNat (M.2.2.1 1).length := by
  rw [zv172 (k := 15) (by decide) (by decide)]
  unfold v171
  split <;> split <;> rfl
theorem zv172_0 : v172 (Int32.ofInt 0) M = M.1 4 := by
  rw [zv172 (k := 0) (by decide) (by decide)]
  unfold v171
  split <;> split <;> rfl
theorem zv176_ge (h : A.1 1 = Int32.ofNat 8) : -1 ≤ (v176 x A).toInt := by
  unfold v176
  split
  · split
    · decide
    · have z : 0 ≤ (zdo A.2.2.2 (A.1 1) (v125 x A)).toInt := by
        rw [h]
        exact (zand_nn (by decide)).1
      omega
  · decide
theorem zv178_ge (h : zMI M t b) (hn : n < 128) : -1 ≤ (v178 (Int32.ofNat n) M).toInt := by
  have e : v178 (Int32.ofNat n) M = v177 (Int32.ofNat n) (zmS M 0 (Int32.ofInt 0)) := if_neg (zn138 hn)
  have h1 : (zmS M 0 (Int32.ofInt 0)).1 1 = Int32.ofNat 8 := h.2.1.1
  have n3 : zgt ((zmS M 0 (Int32.ofInt 0)).2.1 25) (Int32.ofNat n) = 0 := h.2.2.2.2.1 _
  rw [e]
  unfold v177
  rw [if_pos n3]
  split
  · split
    · exact zv176_ge h1
    · split
      · exact zv176_ge h1
      · exact zv176_ge h1
  · exact zv176_ge h1
theorem zw183_b : ∀ a : Nat, a ≤ 1000 → 0 ≤ (w183 x M a).toInt ∧ (w183 x M a).toInt ≤ a
  | 0, _ => by
    show 0 ≤ (Int32.ofInt 0).toInt ∧ (Int32.ofInt 0).toInt ≤ _
    rw [show (Int32.ofInt 0).toInt = 0 by decide]
    omega
  | a + 1, h => by
    have ih := zw183_b a (by omega)
    have i0 : (Int32.ofInt 0).toInt = 0 := by decide
    have i1 : (Int32.ofInt 1).toInt = 1 := by decide
    have e : w183 x M (a + 1) = if p183 x a M a 0 (v182 (Int32.ofNat a) x M) = ((0 : Int32)) then w183 x M a + Int32.ofInt 0 else w183 x M a + Int32.ofInt 1 := rfl
    rw [e]
    split
    · rw [zad_ti (by rw [i0]; omega) (by rw [i0]; omega), i0]
      omega
    · rw [zad_ti (by rw [i1]; omega) (by rw [i1]; omega), i1]
      omega
theorem zv185_le (hl : (M.2.2.1 1).length ≤ 24) : (v185 (Int32.ofInt 9) M).toInt ≤ 24 := by
  have n1 : ¬ v112 (Int32.ofInt 9) (Int32.ofInt 1) (Int32.ofInt 100) (zmS M 0 (Int32.ofInt 0)) = 0 := zn112g (by decide) (by decide)
  have e : v185 (Int32.ofInt 9) M = v183 (Int32.ofInt 9) (zmS M 0 (Int32.ofInt 0)) := if_neg n1
  have z := (zw183_b (x := Int32.ofInt 9) (M := zmS M 0 (Int32.ofInt 0)) (M.2.2.1 1).length (by omega)).2
  rw [e]
  show (w183 (Int32.ofInt 9) (zmS M 0 (Int32.ofInt 0)) (M.2.2.1 1).length).toInt ≤ 24
  omega
theorem zq179_b : ∀ (m k : Nat) (wa : Int32), q179 x M m k wa = wa ∨ q179 x M m k wa = Int32.ofInt (-1) ∨ ∃ j, k ≤ j ∧ j < k + m ∧ q179 x M m k wa = Int32.ofNat j
  | 0, _, _ => Or.inl rfl
  | m + 1, k, wa => by
    have A : q179 x M m (k + 1) wa = wa ∨ q179 x M m (k + 1) wa = Int32.ofInt (-1) ∨ ∃ j, k ≤ j ∧ j < k + (m + 1) ∧ q179 x M m (k + 1) wa = Int32.ofNat j := (zq179_b m (k + 1) wa).imp id (fun z => z.imp id (fun ⟨j, a, b, c⟩ => ⟨j, by omega, by omega, c⟩))
    have B : q179 x M m (k + 1) (Int32.ofNat k) = wa ∨ q179 x M m (k + 1) (Int32.ofNat k) = Int32.ofInt (-1) ∨ ∃ j, k ≤ j ∧ j < k + (m + 1) ∧ q179 x M m (k + 1) (Int32.ofNat k) = Int32.ofNat j := Or.inr ((zq179_b m (k + 1) (Int32.ofNat k)).elim (fun z => Or.inr ⟨k, by omega, by omega, z⟩) (fun z => z.imp id (fun ⟨j, a, b, c⟩ => ⟨j, by omega, by omega, c⟩)))
    have C : ∀ y : Int32, y = Int32.ofInt (-1) → y = wa ∨ y = Int32.ofInt (-1) ∨ ∃ j, k ≤ j ∧ j < k + (m + 1) ∧ y = Int32.ofNat j := fun y z => Or.inr (Or.inl z)
    have e : q179 x M (m + 1) k wa = if (zgt (M.2.1 23) x).toInt < (Int32.ofInt 2).toInt then (if (v161 (zgt (M.2.1 22) ((x * (Int32.ofInt 8)) + ((Int32.ofNat k)))) M) = ((0 : Int32)) then (q179 x M m (k + 1) wa) else (if wa = (Int32.ofInt (-1)) then (if wa = (Int32.ofInt (-1)) then (q179 x M m (k + 1) ((Int32.ofNat k))) else (if (v161 (Int32.ofInt 0) M).toInt < (v161 (zgt (M.2.1 22) ((x * (Int32.ofInt 8)) + ((Int32.ofNat k)))) M).toInt then (q179 x M m (k + 1) ((Int32.ofNat k))) else (if (v161 (zgt (M.2.1 22) ((x * (Int32.ofInt 8)) + ((Int32.ofNat k)))) M) = (v161 (Int32.ofInt 0) M) then (if (v158_0 (Int32.ofInt 0) (Int32.ofInt (-1)) M).toInt < (v158_0 (zgt (M.2.1 22) ((x * (Int32.ofInt 8)) + ((Int32.ofNat k)))) (Int32.ofInt (-1)) M).toInt then (q179 x M m (k + 1) ((Int32.ofNat k))) else (q179 x M m (k + 1) wa)) else (q179 x M m (k + 1) wa)))) else (if wa = (Int32.ofInt (-1)) then (q179 x M m (k + 1) ((Int32.ofNat k))) else (if (v161 (zgt (M.2.1 22) ((x * (Int32.ofInt 8)) + wa)) M).toInt < (v161 (zgt (M.2.1 22) ((x * (Int32.ofInt 8)) + ((Int32.ofNat k)))) M).toInt then (q179 x M m (k + 1) ((Int32.ofNat k))) else (if (v161 (zgt (M.2.1 22) ((x * (Int32.ofInt 8)) + ((Int32.ofNat k)))) M) = (v161 (zgt (M.2.1 22) ((x * (Int32.ofInt 8)) + wa)) M) then (if (v158_0 (zgt (M.2.1 22) ((x * (Int32.ofInt 8)) + wa)) (Int32.ofInt (-1)) M).toInt < (v158_0 (zgt (M.2.1 22) ((x * (Int32.ofInt 8)) + ((Int32.ofNat k)))) (Int32.ofInt (-1)) M).toInt then (q179 x M m (k + 1) ((Int32.ofNat k))) else (q179 x M m (k + 1) wa)) else (q179 x M m (k + 1) wa)))))) else wa := rfl
    have key : ∀ P : Int32 → Prop, P (q179 x M m (k + 1) wa) → P (q179 x M m (k + 1) (Int32.ofNat k)) → P (Int32.ofInt (-1)) → P wa → P (if (zgt (M.2.1 23) x).toInt < (Int32.ofInt 2).toInt then (if (v161 (zgt (M.2.1 22) ((x * (Int32.ofInt 8)) + ((Int32.ofNat k)))) M) = ((0 : Int32)) then (q179 x M m (k + 1) wa) else (if wa = (Int32.ofInt (-1)) then (if wa = (Int32.ofInt (-1)) then (q179 x M m (k + 1) ((Int32.ofNat k))) else (if (v161 (Int32.ofInt 0) M).toInt < (v161 (zgt (M.2.1 22) ((x * (Int32.ofInt 8)) + ((Int32.ofNat k)))) M).toInt then (q179 x M m (k + 1) ((Int32.ofNat k))) else (if (v161 (zgt (M.2.1 22) ((x * (Int32.ofInt 8)) + ((Int32.ofNat k)))) M) = (v161 (Int32.ofInt 0) M) then (if (v158_0 (Int32.ofInt 0) (Int32.ofInt (-1)) M).toInt < (v158_0 (zgt (M.2.1 22) ((x * (Int32.ofInt 8)) + ((Int32.ofNat k)))) (Int32.ofInt (-1)) M).toInt then (q179 x M m (k + 1) ((Int32.ofNat k))) else (q179 x M m (k + 1) wa)) else (q179 x M m (k + 1) wa)))) else (if wa = (Int32.ofInt (-1)) then (q179 x M m (k + 1) ((Int32.ofNat k))) else (if (v161 (zgt (M.2.1 22) ((x * (Int32.ofInt 8)) + wa)) M).toInt < (v161 (zgt (M.2.1 22) ((x * (Int32.ofInt 8)) + ((Int32.ofNat k)))) M).toInt then (q179 x M m (k + 1) ((Int32.ofNat k))) else (if (v161 (zgt (M.2.1 22) ((x * (Int32.ofInt 8)) + ((Int32.ofNat k)))) M) = (v161 (zgt (M.2.1 22) ((x * (Int32.ofInt 8)) + wa)) M) then (if (v158_0 (zgt (M.2.1 22) ((x * (Int32.ofInt 8)) + wa)) (Int32.ofInt (-1)) M).toInt < (v158_0 (zgt (M.2.1 22) ((x * (Int32.ofInt 8)) + ((Int32.ofNat k)))) (Int32.ofInt (-1)) M).toInt then (q179 x M m (k + 1) ((Int32.ofNat k))) else (q179 x M m (k + 1) wa)) else (q179 x M m (k + 1) wa)))))) else wa) := fun P A B C E => by
      repeat' (first | exact A | exact B | exact C | exact E | split)
    rw [e]
    exact key (fun y => y = wa ∨ y = Int32.ofInt (-1) ∨ ∃ j, k ≤ j ∧ j < k + (m + 1) ∧ y = Int32.ofNat j) A B (C _ rfl) (Or.inl rfl)
theorem zv180_le (hb : p < 2) : (v180 (Int32.ofNat p) M).toInt ≤ 7 := by
  have n1 : ¬ v112 (Int32.ofNat p) (Int32.ofInt 0) (Int32.ofInt 1) (zmS M 0 (Int32.ofInt 0)) = 0 := zn112 (n := 1) (by omega) (by decide) (by decide)
  have e : v180 (Int32.ofNat p) M = v179 (Int32.ofNat p) (zmS M 0 (Int32.ofInt 0)) := if_neg n1
  rw [e]
  unfold v179
  rcases zq179_b (x := Int32.ofNat p) (M := zmS M 0 (Int32.ofInt 0)) (Int32.ofInt 8).toInt.toNat 0 (Int32.ofInt (-1)) with z | z | ⟨j, -, h2, z⟩
  · rw [z]
    decide
  · rw [z]
    decide
  · have h2 : j < 0 + 8 := h2
    rw [z, zofI (by omega)]
    omega
/-- everything is sound -/
theorem zV80_1 (h : zE S M) (g : zMI M t b) (hb : b ≤ 900000) : V80 S = Int32.ofInt 1 := by
  obtain ⟨g1, g2, g3, g4, g5, g6, g7⟩ := g
  have l1 : V18 S = Int32.ofInt 1 := (zE_col h).1
  have l2 : V51 S = Int32.ofInt 1 := by
    show Q51a S 20 0 = _
    have e3 : S.2 3 = M.2.1 20 := (zE_c h).1.1
    have a1 : zal (zokD (S.2 3)) 20 0 = true := (zal_t 20 0).mpr (fun j _ _ => by
      refine decide_eq_true (fun z => ?_)
      rw [e3, show (0 : Int32).toInt = 0 by decide] at z
      have := (g7.2.2.2.2 (Int32.ofNat j)).1
      omega)
    rw [zQ51a, if_pos a1, zQ51b]
    have hq := h.1.2.1.2.1
    have h24 := hq.2.1
    have hn : (S.1 9).toInt.toNat = (M.2.2.1 0).length := by
      rw [hq.1, zofI (by omega)]
      omega
    have a2 : zal (zokB S) (S.1 9).toInt.toNat 0 = true := (zal_t _ 0).mpr (fun j _ hj => by
      obtain ⟨P, Q, C, d, q1, q2, q3, q4, q5⟩ := zse_f h (k := j) (by omega)
      refine decide_eq_true ?_
      rw [q4]
      exact (zE_sk h).1 P Q q1 q2)
    rw [if_pos a2]
  have l3 : V38 S = Int32.ofInt 1 := by
    have c1 : S.1 11 = Int32.ofNat (M.2.2.1 2).length := (zE_lg h).1
    have c2 : (M.2.2.1 2).length ≤ 40 := (zE_lg h).2.1
    have c3 : S.1 12 = M.1 14 := (zE_s h).2.2.2.2.1
    have c4 : S.1 13 = M.1 15 := (zE_s h).2.2.2.2.2
    have n1 : ¬ (Int32.ofInt 40).toInt < (S.1 11).toInt := by
      rw [c1, zofI (by omega), show (Int32.ofInt 40).toInt = 40 by decide]
      omega
    have n2 : ¬ ((S.1 12) + (S.1 13)).toInt < (S.1 11).toInt := by
      obtain ⟨u1, u2, u3, u4, -⟩ := g7
      rw [c1, c3, c4, zad_ti (by omega) (by omega), zofI (by omega)]
      omega
    exact (if_neg n1).trans (if_neg n2)
  have l4 : V94 S = Int32.ofInt 1 := by
    have e : V94 S = Q94 S 16 0 := rfl
    rw [e, zQ94]
    have a : zal (zokC S) 16 0 = true := (zal_t 16 0).mpr (fun j _ hj => by
      rw [zokCP h (by omega)]
      have en : (Int32.ofNat j).toInt.toNat = j := by
        rw [zofI (by omega)]
        omega
      show p186c j M (Int32.ofNat j).toInt.toNat 0 = true
      rw [en]
      refine (zp186c j 0).mpr (fun i _ hi z => ?_)
      rw [g6] at z
      have d : (List.range 16).all (fun j => (List.range 16).all (fun i => decide (i < j → ¬ zgt zr22 (Int32.ofNat j) = zgt zr22 (Int32.ofNat i)))) = true := by decide +kernel
      exact of_decide_eq_true (List.all_eq_true.mp (List.all_eq_true.mp d j (List.mem_range.mpr (by omega))) i (List.mem_range.mpr (by omega))) (by omega) z)
    rw [if_pos a]
  have n0 : ∀ {y : Int32}, y = Int32.ofInt 1 → ¬ y = 0 := fun e z => by
    rw [e] at z
    exact absurd z (by decide)
  exact (if_neg (n0 l1)).trans ((if_neg (n0 l2)).trans ((if_neg (n0 l3)).trans (if_neg (n0 l4))))
end ZMI
