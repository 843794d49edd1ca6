/-! No run of pure code, nor of one that stores into rows of ints, changes how long a cell is. Written by wip/v3/genlen.py. -/
section ZQI5
variable {xs : List Int32} {h h' : zH} {L L' : zL} {st st' : List Value} {D y m nc ns k n c nx pc pc' : Nat} {i : Instr} {dc ds : Nat} {fs : List Nat}
end ZQI5
section ZQL5
variable {xs : List Int32} {N : Nat} {h : zH} {nc ns : Nat}
end ZQL5
section ZQ2
variable {xs : List Int32} {N : Nat} {S : zSt} {M : zRt} {X : zXt} {q : Nat} {vs : List Value} {nc ns : Nat}
def zrP_79 (r : Option Value ⊕ Nat) : Prop := (∃ x : Int32, r = .inl (some (.int x))) ∨ r = .inr 0
theorem rs_79 {x1 : Int32} : (∃ x : Int32, R79 x1 S = .inl (some (.int x))) ∨ R79 x1 S = .inr 0 := by
  show zrP_79 (R79 x1 S)
  unfold R79
  repeat' first | refine zifP (P := zrP_79) ?_ ?_ | exact Or.inl ⟨_, rfl⟩ | exact Or.inr (rfl)
abbrev kc_213 : Nat → Int32 := fun E => if E = 0 then Int32.ofInt 1 else 0
end ZQ2
/-! wouldLeak: the answers, and how long the row of the leaked ones is. -/
section ZL3AB
variable {S S' : zSt} {M M' : zRt} {x1 : Int32} {q n : Nat}
theorem zM_79 (h : zE S M) (ht : 0 ≤ (S.1 4).toInt ∧ (S.1 4).toInt ≤ 5000) : zAn (R79 x1 S) (v185 x1 M) ((r185 x1 M).1 0) kc_213 := by
  have h0 : zE S (zmS M 0 (Int32.ofInt 0)) := zE_0 h
  have z1 : (Int32.ofInt 1).toInt = 1 := by decide
  have z100 : (Int32.ofInt 100).toInt = 100 := by decide
  have hq := h0.1.2.1.2.2
  have h24 := hq.2.1
  by_cases r1 : 1 ≤ x1.toInt ∧ x1.toInt ≤ 100
  · have c : C85 x1 S = true := by
      unfold C85
      rw [z1, z100, if_neg (by omega), if_neg (by omega)]
    have n1 : ¬ v112 x1 (Int32.ofInt 1) (Int32.ofInt 100) (zmS M 0 (Int32.ofInt 0)) = 0 := fun z => v112_1.mp z (by rw [z1, z100]; exact r1)
    have hr : r185 x1 M = zmS M 0 (Int32.ofInt 0) := if_neg n1
    have hv : v185 x1 M = v183 x1 (zmS M 0 (Int32.ofInt 0)) := if_neg n1
    have key : R79 x1 S = .inl (some (.int (v183 x1 (zmS M 0 (Int32.ofInt 0))))) := by
      have e9 : (S.1 10).toInt.toNat = ((zmS M 0 (Int32.ofInt 0)).2.2.1 1).length := by
        rw [hq.1, zof_0 (by omega)]
        omega
      have e8 : V48 x1 S = v183 x1 (zmS M 0 (Int32.ofInt 0)) := by
        unfold V48 v183
        rw [e9]
        exact (zE_48l h0 (zE_sk h0).2 _ (Nat.le_refl _)).1
      rw [← e8]
      exact if_pos c
    rw [hr, hv]
    exact Or.inl ⟨_, key, rfl, zM00⟩
  · have nc : ¬ C85 x1 S = true := fun z => r1 (C85_9 z)
    have n1 : v112 x1 (Int32.ofInt 1) (Int32.ofInt 100) (zmS M 0 (Int32.ofInt 0)) = 0 := v112_1.mpr (by rw [z1, z100]; exact r1)
    have hR : R79 x1 S = .inr 0 := if_neg nc
    have hr : r185 x1 M = r111 (Int32.ofInt 1) (zmS M 0 (Int32.ofInt 0)) := if_pos n1
    rw [hR, hr]
    exact Or.inr ⟨0, rfl, show Int32.ofInt 1 = kc_213 0 by decide⟩
end ZL3AB
