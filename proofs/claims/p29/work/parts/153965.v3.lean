/-! write, ray, hammer, run, retire, clear, call: of both. -/
section ZL3N
variable {S S' U : zSt} {M M' B : zRt} {u v w x x1 x2 x3 x4 x5 : Int32} {n : Nat}
/-- one and the same answer, or one and the same exception -/
def zAn (R : Option Value ⊕ Nat) (v t : Int32) (kc : Nat → Int32) : Prop := (∃ x, R = .inl (some (.int x)) ∧ v = x ∧ t = 0) ∨ (∃ E, R = .inr E ∧ t = kc E)
theorem zM00 : (zmS M 0 (Int32.ofInt 0)).1 0 = 0 := (show Int32.ofInt 0 = 0 by decide)
theorem C86_ok : C86 x S = true ↔ 0 ≤ x.toInt ∧ x.toInt ≤ (zdma S.1).toInt := by
  unfold C86
  rw [zero_z]
  by_cases a : x.toInt < 0
  · rw [if_pos a]
    exact ⟨fun z => (by cases z), fun z => by omega⟩
  · rw [if_neg a]
    by_cases b : (zdma S.1).toInt < x.toInt
    · rw [if_pos b]
      exact ⟨fun z => (by cases z), fun z => by omega⟩
    · rw [if_neg b]
      exact ⟨fun _ => by omega, fun _ => rfl⟩
theorem V96_ok : V96 x S = 0 ↔ zgt (S.2 18) x = 0 := by
  unfold V96
  by_cases a : zgt (S.2 18) x = 0
  · rw [if_pos a]
    exact ⟨fun _ => a, fun _ => by decide⟩
  · rw [if_neg a]
    exact ⟨fun z => absurd z (by decide), fun z => absurd z a⟩
theorem V95_ok : V95 x S = 0 ↔ zgt (S.2 17) x = 0 := by
  unfold V95
  by_cases a : zgt (S.2 17) x = 0
  · rw [if_pos a]
    exact ⟨fun _ => a, fun _ => by decide⟩
  · rw [if_neg a]
    exact ⟨fun z => absurd z (by decide), fun z => absurd z a⟩
theorem C87_ok : C87 x S = true ↔ zgt (S.2 18) x = 0 := by
  unfold C87
  rw [← V96_ok]
  by_cases a : V96 x S = 0
  · rw [if_pos a]
    exact ⟨fun _ => a, fun _ => rfl⟩
  · rw [if_neg a]
    exact ⟨fun z => (by cases z), fun z => absurd z a⟩
theorem zV89 (hn : n < 128) : V89 (Int32.ofNat n) S = Int32.ofNat ((n + 64) % 128) ∧ v131 (Int32.ofNat n) M = Int32.ofNat ((n + 64) % 128) := by
  have e : (List.range 128).all (fun n => decide ((if (Int32.ofNat n).toInt < (Int32.ofInt 64).toInt then Int32.ofNat n + Int32.ofInt 64 else Int32.ofNat n - Int32.ofInt 64) = Int32.ofNat ((n + 64) % 128) ∧ zrmd (Int32.ofNat n + Int32.ofInt 64) (Int32.ofInt 128) = Int32.ofNat ((n + 64) % 128))) = true := by decide +kernel
  exact of_decide_eq_true (List.all_eq_true.mp e n (List.mem_range.mpr hn))
theorem zE_18 (h : zE S M) : M.2.1 25 = S.2 18 := h.1.1.2.1.symm
theorem zE_17 (h : zE S M) : M.2.1 24 = S.2 17 := (zE_c h).2.2.1.symm
/-- a word is replaced, written -/
theorem zE_102 (h : zE S M) (hn : n < 128) : zE (F102 (Int32.ofNat n) x S) (zmW (r127 (Int32.ofNat n) (x ||| (zsm M.2.2.2 x <<< (M.1 1 &&& 31))) M) 24 (Int32.ofNat n) (Int32.ofInt 0)) := by
  unfold F102
  rw [zE_en h]
  exact zE_po (zE_at h hn) (Or.inl (by decide))
theorem zE_101 (h : zE S M) (hn : n < 128) : zE (F101 (Int32.ofNat n) x S) (r132 (Int32.ofNat n) x M) := by
  unfold F101 r132
  exact zE_102 (zE_op h hn) hn
theorem zM_54 (h : zE S M) : zE (F54 x1 x2 S) (r140 x1 x2 M) ∧ zAn (R54 x1 x2 S) (v140 x1 x2 M) ((r140 x1 x2 M).1 0) kc_190 := by
  have h0 : zE S (zmS M 0 (Int32.ofInt 0)) := zE_0 h
  have z0 : (Int32.ofInt 0).toInt = 0 := by decide
  have z127 : (Int32.ofInt 127).toInt = 127 := by decide
  by_cases r1 : 0 ≤ x1.toInt ∧ x1.toInt ≤ 127
  · have c := C82_ok (S := S).mpr r1
    have n1 : ¬ v138 x1 (zmS M 0 (Int32.ofInt 0)) = 0 := fun z => v112_1.mp z (by rw [z0, z127]; exact r1)
    obtain ⟨n, rfl, hn⟩ := znat r1.1
    have hn : n < 128 := by omega
    obtain ⟨k, r, c1, c2, c3, c4, c5⟩ := zE_co h0
    have bd : zdma S.1 = Int32.ofInt 1 <<< ((zmS M 0 (Int32.ofInt 0)).1 1 &&& 31) - Int32.ofInt 1 := by
      rw [c2]
      exact (zRC_bd c1).1
    by_cases r2 : 0 ≤ x2.toInt ∧ x2.toInt ≤ (zdma S.1).toInt
    · have d : C86 x2 S = true := C86_ok.mpr r2
      have n2 : ¬ v112 x2 (Int32.ofInt 0) (Int32.ofInt 1 <<< ((zmS M 0 (Int32.ofInt 0)).1 1 &&& 31) - Int32.ofInt 1) (zmS M 0 (Int32.ofInt 0)) = 0 := fun z => v112_1.mp z (by rw [z0, ← bd]; exact r2)
      by_cases r3 : zgt (S.2 18) (Int32.ofNat n) = 0
      · have g : C87 (Int32.ofNat n) S = true := C87_ok.mpr r3
        have n3 : zgt ((zmS M 0 (Int32.ofInt 0)).2.1 25) (Int32.ofNat n) = 0 := by
          rw [zE_18 h0]
          exact r3
        have A := zE_101 (x := x2) h0 hn
        have t0 : (r132 (Int32.ofNat n) x2 (zmS M 0 (Int32.ofInt 0))).1 0 = 0 := (gr_132.1 0 (by decide)).trans zM00
        have wa := zE_wd A hn
        have m9 := (zE_s A).2.2.1.2.2
        by_cases r4 : (F101 (Int32.ofNat n) x2 S).1 16 = 0
        · have r5 : (r132 (Int32.ofNat n) x2 (zmS M 0 (Int32.ofInt 0))).1 9 = 0 := m9 ▸ r4
          have hF : F54 (Int32.ofNat n) x2 S = F101 (Int32.ofNat n) x2 S := (if_pos c).trans ((if_pos d).trans ((if_pos g).trans (if_pos r4)))
          have hR : R54 (Int32.ofNat n) x2 S = .inl (some (.int (V92 (Int32.ofNat n) (F101 (Int32.ofNat n) x2 S)))) := (if_pos c).trans ((if_pos d).trans ((if_pos g).trans (if_pos r4)))
          have hr : r140 (Int32.ofNat n) x2 M = r132 (Int32.ofNat n) x2 (zmS M 0 (Int32.ofInt 0)) := (if_neg n1).trans ((if_neg n2).trans ((if_pos n3).trans (if_pos r5)))
          have hv : v140 (Int32.ofNat n) x2 M = v125 (Int32.ofNat n) (r132 (Int32.ofNat n) x2 (zmS M 0 (Int32.ofInt 0))) := (if_neg n1).trans ((if_neg n2).trans ((if_pos n3).trans (if_pos r5)))
          rw [hF, hR, hr, hv]
          exact ⟨A, Or.inl ⟨_, rfl, wa.symm, t0⟩⟩
        · have r5 : ¬ (r132 (Int32.ofNat n) x2 (zmS M 0 (Int32.ofInt 0))).1 9 = 0 := m9 ▸ r4
          obtain ⟨w1, -⟩ := zV89 (S := F101 (Int32.ofNat n) x2 S) (M := M) hn
          obtain ⟨-, w2⟩ := zV89 (S := S) (M := r132 (Int32.ofNat n) x2 (zmS M 0 (Int32.ofInt 0))) hn
          have e18 := zE_18 A
          by_cases r6 : zgt ((F101 (Int32.ofNat n) x2 S).2 18) (Int32.ofNat ((n + 64) % 128)) = 0
          · have q1 : V96 (V89 (Int32.ofNat n) (F101 (Int32.ofNat n) x2 S)) (F101 (Int32.ofNat n) x2 S) = 0 := by
              rw [w1]
              exact V96_ok.mpr r6
            have q2 : zgt ((r132 (Int32.ofNat n) x2 (zmS M 0 (Int32.ofInt 0))).2.1 25) (v131 (Int32.ofNat n) (r132 (Int32.ofNat n) x2 (zmS M 0 (Int32.ofInt 0)))) = 0 := by
              rw [w2, e18]
              exact r6
            have hF : F54 (Int32.ofNat n) x2 S = F101 (V89 (Int32.ofNat n) (F101 (Int32.ofNat n) x2 S)) x2 (F101 (Int32.ofNat n) x2 S) := (if_pos c).trans ((if_pos d).trans ((if_pos g).trans ((if_neg r4).trans (if_pos q1))))
            have hR : R54 (Int32.ofNat n) x2 S = .inl (some (.int (V92 (Int32.ofNat n) (F101 (V89 (Int32.ofNat n) (F101 (Int32.ofNat n) x2 S)) x2 (F101 (Int32.ofNat n) x2 S))))) := (if_pos c).trans ((if_pos d).trans ((if_pos g).trans ((if_neg r4).trans (if_pos q1))))
            have hr : r140 (Int32.ofNat n) x2 M = r132 (v131 (Int32.ofNat n) (r132 (Int32.ofNat n) x2 (zmS M 0 (Int32.ofInt 0)))) x2 (r132 (Int32.ofNat n) x2 (zmS M 0 (Int32.ofInt 0))) := (if_neg n1).trans ((if_neg n2).trans ((if_pos n3).trans ((if_neg r5).trans (if_pos q2))))
            have hv : v140 (Int32.ofNat n) x2 M = v125 (Int32.ofNat n) (r132 (v131 (Int32.ofNat n) (r132 (Int32.ofNat n) x2 (zmS M 0 (Int32.ofInt 0)))) x2 (r132 (Int32.ofNat n) x2 (zmS M 0 (Int32.ofInt 0)))) := (if_neg n1).trans ((if_neg n2).trans ((if_pos n3).trans ((if_neg r5).trans (if_pos q2))))
            rw [hF, hR, hr, hv, w1, w2]
            have A2 := zE_101 (n := (n + 64) % 128) (x := x2) A (by omega)
            exact ⟨A2, Or.inl ⟨_, rfl, (zE_wd A2 hn).symm, (gr_132.1 0 (by decide)).trans t0⟩⟩
          · have q1 : ¬ V96 (V89 (Int32.ofNat n) (F101 (Int32.ofNat n) x2 S)) (F101 (Int32.ofNat n) x2 S) = 0 := by
              rw [w1]
              exact fun z => r6 (V96_ok.mp z)
            have q2 : ¬ zgt ((r132 (Int32.ofNat n) x2 (zmS M 0 (Int32.ofInt 0))).2.1 25) (v131 (Int32.ofNat n) (r132 (Int32.ofNat n) x2 (zmS M 0 (Int32.ofInt 0)))) = 0 := by
              rw [w2, e18]
              exact r6
            have hF : F54 (Int32.ofNat n) x2 S = F101 (Int32.ofNat n) x2 S := (if_pos c).trans ((if_pos d).trans ((if_pos g).trans ((if_neg r4).trans (if_neg q1))))
            have hR : R54 (Int32.ofNat n) x2 S = .inl (some (.int (V92 (Int32.ofNat n) (F101 (Int32.ofNat n) x2 S)))) := (if_pos c).trans ((if_pos d).trans ((if_pos g).trans ((if_neg r4).trans (if_neg q1))))
            have hr : r140 (Int32.ofNat n) x2 M = r132 (Int32.ofNat n) x2 (zmS M 0 (Int32.ofInt 0)) := (if_neg n1).trans ((if_neg n2).trans ((if_pos n3).trans ((if_neg r5).trans (if_neg q2))))
            have hv : v140 (Int32.ofNat n) x2 M = v125 (Int32.ofNat n) (r132 (Int32.ofNat n) x2 (zmS M 0 (Int32.ofInt 0))) := (if_neg n1).trans ((if_neg n2).trans ((if_pos n3).trans ((if_neg r5).trans (if_neg q2))))
            rw [hF, hR, hr, hv]
            exact ⟨A, Or.inl ⟨_, rfl, wa.symm, t0⟩⟩
      · have g : ¬ C87 (Int32.ofNat n) S = true := fun z => r3 (C87_ok.mp z)
        have n3 : ¬ zgt ((zmS M 0 (Int32.ofInt 0)).2.1 25) (Int32.ofNat n) = 0 := by
          rw [zE_18 h0]
          exact r3
        have hF : F54 (Int32.ofNat n) x2 S = S := (if_pos c).trans ((if_pos d).trans (if_neg g))
        have hR : R54 (Int32.ofNat n) x2 S = .inr 2 := (if_pos c).trans ((if_pos d).trans (if_neg g))
        have hr : r140 (Int32.ofNat n) x2 M = r111 (Int32.ofInt 3) (zmS M 0 (Int32.ofInt 0)) := (if_neg n1).trans ((if_neg n2).trans (if_neg n3))
        rw [hF, hR, hr]
        exact ⟨zE_0 h0, Or.inr ⟨2, rfl, show Int32.ofInt 3 = kc_190 2 by decide⟩⟩
    · have d : ¬ C86 x2 S = true := fun z => r2 (C86_ok.mp z)
      have n2 : v112 x2 (Int32.ofInt 0) (Int32.ofInt 1 <<< ((zmS M 0 (Int32.ofInt 0)).1 1 &&& 31) - Int32.ofInt 1) (zmS M 0 (Int32.ofInt 0)) = 0 := v112_1.mpr (by rw [z0, ← bd]; exact r2)
      have hF : F54 (Int32.ofNat n) x2 S = S := (if_pos c).trans (if_neg d)
      have hR : R54 (Int32.ofNat n) x2 S = .inr 0 := (if_pos c).trans (if_neg d)
      have hr : r140 (Int32.ofNat n) x2 M = r111 (Int32.ofInt 2) (zmS M 0 (Int32.ofInt 0)) := (if_neg n1).trans (if_pos n2)
      rw [hF, hR, hr]
      exact ⟨zE_0 h0, Or.inr ⟨0, rfl, show Int32.ofInt 2 = kc_190 0 by decide⟩⟩
  · have nc : ¬ C82 x1 S = true := fun z => r1 (C82_ok.mp z)
    have n1 : v138 x1 (zmS M 0 (Int32.ofInt 0)) = 0 := v112_1.mpr (by rw [z0, z127]; exact r1)
    have hF : F54 x1 x2 S = S := if_neg nc
    have hR : R54 x1 x2 S = .inr 1 := if_neg nc
    have hr : r140 x1 x2 M = r111 (Int32.ofInt 1) (zmS M 0 (Int32.ofInt 0)) := if_pos n1
    rw [hF, hR, hr]
    exact ⟨zE_0 h0, Or.inr ⟨1, rfl, show Int32.ofInt 1 = kc_190 1 by decide⟩⟩
/-- ray, of both -/
theorem zM_56 (h : zE S M) : zE (F56 x1 x2 S) (r142 x1 x2 M) ∧ zAn (R56 x1 x2 S) (v142 x1 x2 M) ((r142 x1 x2 M).1 0) kc_192 := by
  have h0 : zE S (zmS M 0 (Int32.ofInt 0)) := zE_0 h
  have z0 : (Int32.ofInt 0).toInt = 0 := by decide
  have z1 : (Int32.ofInt 1).toInt = 1 := by decide
  have z127 : (Int32.ofInt 127).toInt = 127 := by decide
  by_cases r1 : 0 ≤ x1.toInt ∧ x1.toInt ≤ 127
  · have c := C82_ok (S := S).mpr r1
    have n1 : ¬ v138 x1 (zmS M 0 (Int32.ofInt 0)) = 0 := fun z => v112_1.mp z (by rw [z0, z127]; exact r1)
    obtain ⟨n, rfl, hn⟩ := znat r1.1
    have hn : n < 128 := by omega
    obtain ⟨k, r, c1, c2, c3, c4, c5⟩ := zE_co h0
    have bd : (V5 S).toInt = (Int32.ofInt 1 <<< (((zmS M 0 (Int32.ofInt 0)).1 1 + (zmS M 0 (Int32.ofInt 0)).1 2) &&& 31) - Int32.ofInt 1).toInt + 1 := by
      rw [c2, c3]
      exact (zRC_bd c1).2.2
    by_cases r2 : 1 ≤ x2.toInt ∧ x2.toInt < (V5 S).toInt
    · have d1 : ¬ x2.toInt < (Int32.ofInt 1).toInt := by omega
      have n2 : ¬ v112 x2 (Int32.ofInt 1) (Int32.ofInt 1 <<< (((zmS M 0 (Int32.ofInt 0)).1 1 + (zmS M 0 (Int32.ofInt 0)).1 2) &&& 31) - Int32.ofInt 1) (zmS M 0 (Int32.ofInt 0)) = 0 := fun z => v112_1.mp z (by rw [z1]; omega)
      have hF : F56 (Int32.ofNat n) x2 S = F41 (V91 (Int32.ofNat n) S) (V92 (Int32.ofNat n) S ^^^ x2) S := (if_pos c).trans ((if_neg d1).trans (if_pos r2.2))
      have hR : R56 (Int32.ofNat n) x2 S = .inl (some (.int (V92 (Int32.ofNat n) (F41 (V91 (Int32.ofNat n) S) (V92 (Int32.ofNat n) S ^^^ x2) S)))) := (if_pos c).trans ((if_neg d1).trans (if_pos r2.2))
      have hr : r142 (Int32.ofNat n) x2 M = r127 (Int32.ofNat n) (v125 (Int32.ofNat n) (zmS M 0 (Int32.ofInt 0)) ^^^ x2) (zmS M 0 (Int32.ofInt 0)) := (if_neg n1).trans (if_neg n2)
      have hv : v142 (Int32.ofNat n) x2 M = v125 (Int32.ofNat n) (r127 (Int32.ofNat n) (v125 (Int32.ofNat n) (zmS M 0 (Int32.ofInt 0)) ^^^ x2) (zmS M 0 (Int32.ofInt 0))) := (if_neg n1).trans (if_neg n2)
      rw [hF, hR, hr, hv, zE_wd h0 hn]
      have A := zE_at (w := v125 (Int32.ofNat n) (zmS M 0 (Int32.ofInt 0)) ^^^ x2) h0 hn
      exact ⟨A, Or.inl ⟨_, rfl, (zE_wd A hn).symm, (gr_127.1 0 (by decide)).trans zM00⟩⟩
    · have n2 : v112 x2 (Int32.ofInt 1) (Int32.ofInt 1 <<< (((zmS M 0 (Int32.ofInt 0)).1 1 + (zmS M 0 (Int32.ofInt 0)).1 2) &&& 31) - Int32.ofInt 1) (zmS M 0 (Int32.ofInt 0)) = 0 := v112_1.mpr (by rw [z1]; omega)
      have hr : r142 (Int32.ofNat n) x2 M = r111 (Int32.ofInt 2) (zmS M 0 (Int32.ofInt 0)) := (if_neg n1).trans (if_pos n2)
      have hR : R56 (Int32.ofNat n) x2 S = .inr 0 ∧ F56 (Int32.ofNat n) x2 S = S := by
        by_cases z : x2.toInt < (Int32.ofInt 1).toInt
        · exact ⟨(if_pos c).trans (if_pos z), (if_pos c).trans (if_pos z)⟩
        · have z2 : ¬ x2.toInt < (V5 S).toInt := by omega
          exact ⟨(if_pos c).trans ((if_neg z).trans (if_neg z2)), (if_pos c).trans ((if_neg z).trans (if_neg z2))⟩
      rw [hR.1, hR.2, hr]
      exact ⟨zE_0 h0, Or.inr ⟨0, rfl, show Int32.ofInt 2 = kc_192 0 by decide⟩⟩
  · have nc : ¬ C82 x1 S = true := fun z => r1 (C82_ok.mp z)
    have n1 : v138 x1 (zmS M 0 (Int32.ofInt 0)) = 0 := v112_1.mpr (by rw [z0, z127]; exact r1)
    have hF : F56 x1 x2 S = S := if_neg nc
    have hR : R56 x1 x2 S = .inr 1 := if_neg nc
    have hr : r142 x1 x2 M = r111 (Int32.ofInt 1) (zmS M 0 (Int32.ofInt 0)) := if_pos n1
    rw [hF, hR, hr]
    exact ⟨zE_0 h0, Or.inr ⟨1, rfl, show Int32.ofInt 1 = kc_192 1 by decide⟩⟩
/-- hammer, of both -/
theorem zE_59l {l : Nat} (h : zE S M) (hl : l < 20) : ∀ k, zE (W59 x1 x2 x3 (Int32.ofNat l) S' S k) (w145 x4 x5 x (Int32.ofNat l) M' M k)
  | 0 => h
  | k + 1 => zE_43 (zE_59l h hl k) hl
theorem zM_59 (h : zE S M) : zE (F59 x1 x2 x3 S) (r145 x1 x2 x3 M) ∧ zAn (R59 x1 x2 x3 S) (v145 x1 x2 x3 M) ((r145 x1 x2 x3 M).1 0) kc_195 := by
  have h0 : zE S (zmS M 0 (Int32.ofInt 0)) := zE_0 h
  have z0 : (Int32.ofInt 0).toInt = 0 := by decide
  have z1 : (Int32.ofInt 1).toInt = 1 := by decide
  have z7 : (Int32.ofInt 7).toInt = 7 := by decide
  have z100 : (Int32.ofInt 100).toInt = 100 := by decide
  by_cases r1 : (0 ≤ x1.toInt ∧ x1.toInt ≤ 1) ∧ (0 ≤ x2.toInt ∧ x2.toInt ≤ 7)
  · have c := C84_ok (S := S).mpr r1
    have n1 : ¬ v112 x1 (Int32.ofInt 0) (Int32.ofInt 1) (zmS M 0 (Int32.ofInt 0)) = 0 := fun z => v112_1.mp z (by rw [z0, z1]; exact r1.1)
    have n2 : ¬ v112 x2 (Int32.ofInt 0) (Int32.ofInt 7) (zmS M 0 (Int32.ofInt 0)) = 0 := fun z => v112_1.mp z (by rw [z0, z7]; exact r1.2)
    by_cases r2 : 1 ≤ x3.toInt ∧ x3.toInt ≤ 100
    · have d1 : ¬ x3.toInt < (Int32.ofInt 1).toInt := by omega
      have d2 : ¬ (Int32.ofInt 100).toInt < x3.toInt := by omega
      have n3 : ¬ v112 x3 (Int32.ofInt 1) (Int32.ofInt 100) (zmS M 0 (Int32.ofInt 0)) = 0 := fun z => v112_1.mp z (by rw [z1, z100]; exact r2)
      obtain ⟨a, rfl, ha⟩ := znat r1.1.1
      obtain ⟨b, rfl, hb⟩ := znat r1.2.1
      have e88 : V88 (Int32.ofNat a) (Int32.ofNat b) S = Int32.ofNat (a * 64 + b * 8) := by
        unfold V88
        rw [show Int32.ofInt 64 = Int32.ofNat 64 from rfl, show Int32.ofInt 8 = Int32.ofNat 8 from rfl, ← Int32.ofNat_mul, ← Int32.ofNat_mul, ← Int32.ofNat_add]
      have e8 : Int32.ofNat a * Int32.ofInt 8 + Int32.ofNat b = Int32.ofNat (a * 8 + b) := by
        rw [show Int32.ofInt 8 = Int32.ofNat 8 from rfl, ← Int32.ofNat_mul, ← Int32.ofNat_add]
      have hm : a * 64 + b * 8 < 128 := by omega
      obtain ⟨l, p, hl, hp, e1, e2, e3, e4⟩ := zcel h0 hm
      have e5 : zgt ((zmS M 0 (Int32.ofInt 0)).2.1 22) (Int32.ofNat a * Int32.ofInt 8 + Int32.ofNat b) = Int32.ofNat l := by
        rw [← e1, e8]
        unfold v124
        rw [(zqr hm).1]
        congr 2
        omega
      have A := zE_59l (x1 := Int32.ofNat a) (x2 := Int32.ofNat b) (x3 := x3) (x4 := Int32.ofNat a) (x5 := Int32.ofNat b) (x := x3) (S' := S) (M' := M) h0 hl x3.toInt.toNat
      have hF : F59 (Int32.ofNat a) (Int32.ofNat b) x3 S = W59 (Int32.ofNat a) (Int32.ofNat b) x3 (V90 (V88 (Int32.ofNat a) (Int32.ofNat b) S) S) S S x3.toInt.toNat := (if_pos c).trans ((if_neg d1).trans (if_neg d2))
      have hR : R59 (Int32.ofNat a) (Int32.ofNat b) x3 S = .inl (some (.int (zgt ((W59 (Int32.ofNat a) (Int32.ofNat b) x3 (V90 (V88 (Int32.ofNat a) (Int32.ofNat b) S) S) S S x3.toInt.toNat).2 3) (V90 (V88 (Int32.ofNat a) (Int32.ofNat b) S) S)))) := (if_pos c).trans ((if_neg d1).trans (if_neg d2))
      have hr : r145 (Int32.ofNat a) (Int32.ofNat b) x3 M = w145 (Int32.ofNat a) (Int32.ofNat b) x3 (zgt ((zmS M 0 (Int32.ofInt 0)).2.1 22) (Int32.ofNat a * Int32.ofInt 8 + Int32.ofNat b)) M (zmS M 0 (Int32.ofInt 0)) x3.toInt.toNat := (if_neg n1).trans ((if_neg n2).trans (if_neg n3))
      have hv : v145 (Int32.ofNat a) (Int32.ofNat b) x3 M = zgt ((w145 (Int32.ofNat a) (Int32.ofNat b) x3 (zgt ((zmS M 0 (Int32.ofInt 0)).2.1 22) (Int32.ofNat a * Int32.ofInt 8 + Int32.ofNat b)) M (zmS M 0 (Int32.ofInt 0)) x3.toInt.toNat).2.1 20) (zgt ((zmS M 0 (Int32.ofInt 0)).2.1 22) (Int32.ofNat a * Int32.ofInt 8 + Int32.ofNat b)) := (if_neg n1).trans ((if_neg n2).trans (if_neg n3))
      rw [hF, hR, hr, hv, e88, e4, e5]
      exact ⟨A, Or.inl ⟨_, rfl, by rw [(zE_c A).1.1], ((gr_w145 _).1 0 (by decide)).trans zM00⟩⟩
    · have n3 : v112 x3 (Int32.ofInt 1) (Int32.ofInt 100) (zmS M 0 (Int32.ofInt 0)) = 0 := v112_1.mpr (by rw [z1, z100]; exact r2)
      have hr : r145 x1 x2 x3 M = r111 (Int32.ofInt 2) (zmS M 0 (Int32.ofInt 0)) := (if_neg n1).trans ((if_neg n2).trans (if_pos n3))
      have hR : R59 x1 x2 x3 S = .inr 0 ∧ F59 x1 x2 x3 S = S := by
        by_cases z : x3.toInt < (Int32.ofInt 1).toInt
        · exact ⟨(if_pos c).trans (if_pos z), (if_pos c).trans (if_pos z)⟩
        · have z2 : (Int32.ofInt 100).toInt < x3.toInt := by omega
          exact ⟨(if_pos c).trans ((if_neg z).trans (if_pos z2)), (if_pos c).trans ((if_neg z).trans (if_pos z2))⟩
      rw [hR.1, hR.2, hr]
      exact ⟨zE_0 h0, Or.inr ⟨0, rfl, show Int32.ofInt 2 = kc_195 0 by decide⟩⟩
  · have nc : ¬ C84 x1 x2 S = true := fun z => r1 (C84_ok.mp z)
    have hF : F59 x1 x2 x3 S = S := if_neg nc
    have hR : R59 x1 x2 x3 S = .inr 1 := if_neg nc
    have hr : r145 x1 x2 x3 M = r111 (Int32.ofInt 1) (zmS M 0 (Int32.ofInt 0)) := by
      by_cases a : 0 ≤ x1.toInt ∧ x1.toInt ≤ 1
      · exact (if_neg (fun z => v112_1.mp z (by rw [z0, z1]; exact a))).trans (if_pos (v112_1.mpr (by rw [z0, z7]; exact fun b => r1 ⟨a, b⟩)))
      · exact if_pos (v112_1.mpr (by rw [z0, z1]; exact a))
    rw [hF, hR, hr]
    exact ⟨zE_0 h0, Or.inr ⟨1, rfl, show Int32.ofInt 1 = kc_195 1 by decide⟩⟩
end ZL3N
/-! read, of both. -/
section ZL3O
variable {S S' A : zSt} {M M' B : zRt} {u v w x x1 x2 x3 : Int32} {n t : Nat}
/-- what the other bank tells, the reference's -/
def zT9 (x1 : Int32) (C : zRt) : zRt := if (C.1 9) = ((0 : Int32)) then zmW C 24 x1 (Int32.ofInt 1) else if (zgt (C.2.1 25) (v131 x1 C)) = ((0 : Int32)) then (if (zgt ((r129 (v124 (v131 x1 C) C) C).2.1 24) (v131 x1 C)) = ((0 : Int32)) then (if (v133 (v131 x1 C) (r129 (v124 (v131 x1 C) C) C)) = (Int32.ofInt (-1)) then zmW (r133 (v131 x1 C) (r129 (v124 (v131 x1 C) C) C)) 24 x1 (Int32.ofInt 1) else zmW (r127 x1 ((v133 (v131 x1 C) (r129 (v124 (v131 x1 C) C) C)) ||| (zsm (r133 (v131 x1 C) (r129 (v124 (v131 x1 C) C) C)).2.2.2 (v133 (v131 x1 C) (r129 (v124 (v131 x1 C) C) C)) <<< ((r133 (v131 x1 C) (r129 (v124 (v131 x1 C) C) C)).1 1 &&& 31))) (r133 (v131 x1 C) (r129 (v124 (v131 x1 C) C) C))) 24 x1 (Int32.ofInt 0)) else zmW (r129 (v124 (v131 x1 C) C) C) 24 x1 (Int32.ofInt 1)) else zmW C 24 x1 (Int32.ofInt 1)
def zT9v (x1 : Int32) (C : zRt) : Int32 := if (C.1 9) = ((0 : Int32)) then Int32.ofInt (-1) else if (zgt (C.2.1 25) (v131 x1 C)) = ((0 : Int32)) then (if (zgt ((r129 (v124 (v131 x1 C) C) C).2.1 24) (v131 x1 C)) = ((0 : Int32)) then (if (v133 (v131 x1 C) (r129 (v124 (v131 x1 C) C) C)) = (Int32.ofInt (-1)) then Int32.ofInt (-1) else v133 (v131 x1 C) (r129 (v124 (v131 x1 C) C) C)) else Int32.ofInt (-1)) else Int32.ofInt (-1)
theorem r134_e : r134 x1 M = if (zgt ((r129 (v124 x1 M) M).2.1 24) x1) = ((0 : Int32)) then (if (v133 x1 (r129 (v124 x1 M) M)) = (Int32.ofInt (-1)) then zT9 x1 (r130 x1 (Int32.ofInt (-1)) (r133 x1 (r129 (v124 x1 M) M))) else r133 x1 (r129 (v124 x1 M) M)) else zT9 x1 (r129 (v124 x1 M) M) := rfl
theorem v134_e : v134 x1 M = if (zgt ((r129 (v124 x1 M) M).2.1 24) x1) = ((0 : Int32)) then (if (v133 x1 (r129 (v124 x1 M) M)) = (Int32.ofInt (-1)) then zT9v x1 (r130 x1 (Int32.ofInt (-1)) (r133 x1 (r129 (v124 x1 M) M))) else v133 x1 (r129 (v124 x1 M) M)) else zT9v x1 (r129 (v124 x1 M) M) := rfl
theorem zE_133 (h : zE S M) (hn : n < 128) : (v133 (Int32.ofNat n) M = Int32.ofInt (-1) ∧ zda S.1 S.2 (V92 (Int32.ofNat n) S) = Int32.ofInt (-1) ∧ r133 (Int32.ofNat n) M = M ∧ ∀ x2, zE (F103 (Int32.ofNat n) x2 S) (r130 (Int32.ofNat n) (Int32.ofInt (-1)) M)) ∨ (¬ v133 (Int32.ofNat n) M = Int32.ofInt (-1) ∧ zda S.1 S.2 (V92 (Int32.ofNat n) S) = v133 (Int32.ofNat n) M ∧ zE (F103 (Int32.ofNat n) (S.1 15) S) (r133 (Int32.ofNat n) M)) := by
  have hd := zE_da (w := V92 (Int32.ofNat n) S) h
  rw [zE_wd h hn] at hd ⊢
  have dn := zE_dn (w := v125 (Int32.ofNat n) M) h
  rcases zE_103 h hn with ⟨-, k0, hF⟩ | ⟨-, k1, hz, hnz⟩ | ⟨-, k2, -, hE⟩
  · have n2 : ¬ zkd M.2.2.2 (v125 (Int32.ofNat n) M) = Int32.ofInt 2 := by
      rw [k0]
      decide
    have n1 : ¬ zkd M.2.2.2 (v125 (Int32.ofNat n) M) = Int32.ofInt 1 := by
      rw [k0]
      decide
    have hv : v133 (Int32.ofNat n) M = zdo M.2.2.2 (M.1 1) (v125 (Int32.ofNat n) M) := (if_neg n2).trans (if_neg n1)
    have hr : r133 (Int32.ofNat n) M = M := (if_neg n2).trans (if_neg n1)
    rw [if_neg n2] at hd
    refine Or.inr ⟨by rw [hv]; exact dn, by rw [hv]; exact hd, ?_⟩
    rw [hF, hr]
    exact h
  · have n2 : ¬ zkd M.2.2.2 (v125 (Int32.ofNat n) M) = Int32.ofInt 2 := by
      rw [k1]
      decide
    have n1 : zkd M.2.2.2 (v125 (Int32.ofNat n) M) = Int32.ofInt 1 := by
      rw [k1]
      decide
    have g := gr_130 (x1 := Int32.ofNat n) (x2 := zbm9 M.2.2.2 (v125 (Int32.ofNat n) M)) (M := M)
    have g8 := g.1 8 (by decide)
    have g1 := g.1 1 (by decide)
    have g9 := g.2.2.2.2 (by decide)
    have m8 : S.1 15 = M.1 8 := (zE_s h).2.2.1.2.1
    rw [if_neg n2] at hd
    by_cases r : S.1 15 = 0
    · have r8 : (r130 (Int32.ofNat n) (zbm9 M.2.2.2 (v125 (Int32.ofNat n) M)) M).1 8 = 0 := by
        rw [g8, ← m8]
        exact r
      have hv : v133 (Int32.ofNat n) M = zdo M.2.2.2 (M.1 1) (v125 (Int32.ofNat n) M) := by
        refine (if_neg n2).trans ((if_pos n1).trans ((if_pos r8).trans ?_))
        rw [g9, g1]
      have hr : r133 (Int32.ofNat n) M = r130 (Int32.ofNat n) (zbm9 M.2.2.2 (v125 (Int32.ofNat n) M)) M := (if_neg n2).trans ((if_pos n1).trans (if_pos r8))
      refine Or.inr ⟨by rw [hv]; exact dn, by rw [hv]; exact hd, ?_⟩
      rw [hr, r]
      exact hz
    · have r8 : ¬ (r130 (Int32.ofNat n) (zbm9 M.2.2.2 (v125 (Int32.ofNat n) M)) M).1 8 = 0 := by
        rw [g8, ← m8]
        exact r
      have hr : r133 (Int32.ofNat n) M = r127 (Int32.ofNat n) (zme M.2.2.2 (v125 (Int32.ofNat n) M)) (r130 (Int32.ofNat n) (zbm9 M.2.2.2 (v125 (Int32.ofNat n) M)) M) := by
        refine (if_neg n2).trans ((if_pos n1).trans ((if_neg r8).trans ?_))
        rw [g9]
      have hv : v133 (Int32.ofNat n) M = zdo M.2.2.2 (M.1 1) (v125 (Int32.ofNat n) M) := by
        refine (if_neg n2).trans ((if_pos n1).trans ((if_neg r8).trans ?_))
        rw [rl_127, g9, gr_127.1 1 (by decide), g1]
      refine Or.inr ⟨by rw [hv]; exact dn, by rw [hv]; exact hd, ?_⟩
      rw [hr]
      exact hnz _ r
  · have n2 : zkd M.2.2.2 (v125 (Int32.ofNat n) M) = Int32.ofInt 2 := by
      rw [k2]
      decide
    rw [if_pos n2] at hd
    exact Or.inl ⟨if_pos n2, hd, if_pos n2, hE⟩
theorem zE_104b (h : zE A B) (hn : n < 128) (ht : t < 128) : zE (if V97 (Int32.ofNat t) A = Int32.ofInt (-1) then zsR A 17 (Int32.ofNat n) (Int32.ofInt 1) else F102 (Int32.ofNat n) (V97 (Int32.ofNat t) A) (F103 (Int32.ofNat t) (A.1 15) A)) (if (zgt (B.2.1 24) (Int32.ofNat t)) = ((0 : Int32)) then (if (v133 (Int32.ofNat t) B) = (Int32.ofInt (-1)) then zmW (r133 (Int32.ofNat t) B) 24 (Int32.ofNat n) (Int32.ofInt 1) else zmW (r127 (Int32.ofNat n) ((v133 (Int32.ofNat t) B) ||| (zsm (r133 (Int32.ofNat t) B).2.2.2 (v133 (Int32.ofNat t) B) <<< ((r133 (Int32.ofNat t) B).1 1 &&& 31))) (r133 (Int32.ofNat t) B)) 24 (Int32.ofNat n) (Int32.ofInt 0)) else zmW B 24 (Int32.ofNat n) (Int32.ofInt 1)) ∧ (if V97 (Int32.ofNat t) A = Int32.ofInt (-1) then Int32.ofInt (-1) else V97 (Int32.ofNat t) A) = (if (zgt (B.2.1 24) (Int32.ofNat t)) = ((0 : Int32)) then (if (v133 (Int32.ofNat t) B) = (Int32.ofInt (-1)) then Int32.ofInt (-1) else v133 (Int32.ofNat t) B) else Int32.ofInt (-1)) := by
  by_cases e : zgt (A.2 17) (Int32.ofNat t) = 0
  · have q3 : zgt (B.2.1 24) (Int32.ofNat t) = 0 := by
      rw [zE_17 h]
      exact e
    have v97 : V97 (Int32.ofNat t) A = zda A.1 A.2 (V92 (Int32.ofNat t) A) := if_pos (V95_ok.mpr e)
    rw [if_pos q3, if_pos q3, v97]
    rcases zE_133 h ht with ⟨g1, g2, g3, -⟩ | ⟨g1, g2, g3⟩
    · rw [if_pos g2, if_pos g2, if_pos g1, if_pos g1, g3]
      exact ⟨zE_po h (Or.inr (by decide)), rfl⟩
    · have g4 : ¬ zda A.1 A.2 (V92 (Int32.ofNat t) A) = Int32.ofInt (-1) := by
        rw [g2]
        exact g1
      rw [if_neg g4, if_neg g4, if_neg g1, if_neg g1, g2]
      exact ⟨zE_102 g3 hn, rfl⟩
  · have q3 : ¬ zgt (B.2.1 24) (Int32.ofNat t) = 0 := by
      rw [zE_17 h]
      exact e
    have v97 : V97 (Int32.ofNat t) A = Int32.ofInt (-1) := if_neg (fun z => e (V95_ok.mp z))
    rw [if_neg q3, if_neg q3, if_pos v97, if_pos v97]
    exact ⟨zE_po h (Or.inr (by decide)), rfl⟩
theorem zE_104 (h : zE S M) (hn : n < 128) : zE (F104 (Int32.ofNat n) S) (zT9 (Int32.ofNat n) M) ∧ V104 (Int32.ofNat n) S = zT9v (Int32.ofNat n) M := by
  have m9 : S.1 16 = M.1 9 := (zE_s h).2.2.1.2.2
  obtain ⟨w1, w2⟩ := zV89 (S := S) (M := M) hn
  have ht : (n + 64) % 128 < 128 := Nat.mod_lt _ (by decide)
  by_cases a : S.1 16 = 0
  · have a2 : M.1 9 = 0 := m9 ▸ a
    have hF : F104 (Int32.ofNat n) S = zsR S 17 (Int32.ofNat n) (Int32.ofInt 1) := if_pos a
    have hV : V104 (Int32.ofNat n) S = Int32.ofInt (-1) := if_pos a
    have hr : zT9 (Int32.ofNat n) M = zmW M 24 (Int32.ofNat n) (Int32.ofInt 1) := if_pos a2
    have hv : zT9v (Int32.ofNat n) M = Int32.ofInt (-1) := if_pos a2
    rw [hF, hV, hr, hv]
    exact ⟨zE_po h (Or.inr (by decide)), rfl⟩
  · have a2 : ¬ M.1 9 = 0 := m9 ▸ a
    by_cases b : zgt (S.2 18) (Int32.ofNat ((n + 64) % 128)) = 0
    · have q1 : V96 (V89 (Int32.ofNat n) S) S = 0 := by
        rw [w1]
        exact V96_ok.mpr b
      have q2 : zgt (M.2.1 25) (v131 (Int32.ofNat n) M) = 0 := by
        rw [w2, zE_18 h]
        exact b
      have hF : F104 (Int32.ofNat n) S = _ := (if_neg a).trans (if_pos q1)
      have hV : V104 (Int32.ofNat n) S = _ := (if_neg a).trans (if_pos q1)
      have hr : zT9 (Int32.ofNat n) M = _ := (if_neg a2).trans (if_pos q2)
      have hv : zT9v (Int32.ofNat n) M = _ := (if_neg a2).trans (if_pos q2)
      rw [hF, hV, hr, hv, w1, w2]
      exact zE_104b (zE_op h ht) hn ht
    · have q1 : ¬ V96 (V89 (Int32.ofNat n) S) S = 0 := by
        rw [w1]
        exact fun z => b (V96_ok.mp z)
      have q2 : ¬ zgt (M.2.1 25) (v131 (Int32.ofNat n) M) = 0 := by
        rw [w2, zE_18 h]
        exact b
      have hF : F104 (Int32.ofNat n) S = zsR S 17 (Int32.ofNat n) (Int32.ofInt 1) := (if_neg a).trans (if_neg q1)
      have hV : V104 (Int32.ofNat n) S = Int32.ofInt (-1) := (if_neg a).trans (if_neg q1)
      have hr : zT9 (Int32.ofNat n) M = zmW M 24 (Int32.ofNat n) (Int32.ofInt 1) := (if_neg a2).trans (if_neg q2)
      have hv : zT9v (Int32.ofNat n) M = Int32.ofInt (-1) := (if_neg a2).trans (if_neg q2)
      rw [hF, hV, hr, hv]
      exact ⟨zE_po h (Or.inr (by decide)), rfl⟩
theorem zM_55 (h : zE S M) : zE (F55 x1 S) (r141 x1 M) ∧ zAn (R55 x1 S) (v141 x1 M) ((r141 x1 M).1 0) kc_191 := by
  have h0 : zE S (zmS M 0 (Int32.ofInt 0)) := zE_0 h
  have z0 : (Int32.ofInt 0).toInt = 0 := by decide
  have z127 : (Int32.ofInt 127).toInt = 127 := by decide
  by_cases r1 : 0 ≤ x1.toInt ∧ x1.toInt ≤ 127
  · have c := C82_ok (S := S).mpr r1
    have n1 : ¬ v138 x1 (zmS M 0 (Int32.ofInt 0)) = 0 := fun z => v112_1.mp z (by rw [z0, z127]; exact r1)
    obtain ⟨n, rfl, hn⟩ := znat r1.1
    have hn : n < 128 := by omega
    by_cases r3 : zgt (S.2 18) (Int32.ofNat n) = 0
    · have g : C87 (Int32.ofNat n) S = true := C87_ok.mpr r3
      have n3 : zgt ((zmS M 0 (Int32.ofInt 0)).2.1 25) (Int32.ofNat n) = 0 := by
        rw [zE_18 h0]
        exact r3
      have hr : r141 (Int32.ofNat n) M = r134 (Int32.ofNat n) (zmS M 0 (Int32.ofInt 0)) := (if_neg n1).trans (if_pos n3)
      have hv : v141 (Int32.ofNat n) M = v134 (Int32.ofNat n) (zmS M 0 (Int32.ofInt 0)) := (if_neg n1).trans (if_pos n3)
      have ht : (r141 (Int32.ofNat n) M).1 0 = 0 := by
        rw [hr]
        exact (gr_134.1 0 (by decide)).trans zM00
      rw [ht, hr, hv, r134_e, v134_e]
      have A := zE_op h0 hn
      obtain ⟨K, hK⟩ : ∃ K, K = F43 (V90 (Int32.ofNat n) S) S := ⟨_, rfl⟩
      obtain ⟨B, hB⟩ : ∃ B, B = r129 (v124 (Int32.ofNat n) (zmS M 0 (Int32.ofInt 0))) (zmS M 0 (Int32.ofInt 0)) := ⟨_, rfl⟩
      rw [← hK, ← hB] at A
      rw [← hB]
      by_cases e : zgt (K.2 17) (Int32.ofNat n) = 0
      · have q0 : V95 (Int32.ofNat n) K = 0 := V95_ok.mpr e
        have q3 : zgt (B.2.1 24) (Int32.ofNat n) = 0 := by
          rw [zE_17 A]
          exact e
        have v97 : V97 (Int32.ofNat n) K = zda K.1 K.2 (V92 (Int32.ofNat n) K) := if_pos q0
        rw [if_pos q3, if_pos q3]
        rcases zE_133 A hn with ⟨g1, g2, g3, g4⟩ | ⟨g1, g2, g3⟩
        · have q4 : V97 (Int32.ofNat n) K = Int32.ofInt (-1) := v97.trans g2
          have hF : F55 (Int32.ofNat n) S = F104 (Int32.ofNat n) (F103 (Int32.ofNat n) (K.1 15) K) := by
            rw [hK] at q0 q4 ⊢
            exact (if_pos c).trans ((if_pos g).trans ((if_pos q0).trans (if_pos q4)))
          have hR : R55 (Int32.ofNat n) S = .inl (some (.int (V104 (Int32.ofNat n) (F103 (Int32.ofNat n) (K.1 15) K)))) := by
            rw [hK] at q0 q4 ⊢
            exact (if_pos c).trans ((if_pos g).trans ((if_pos q0).trans (if_pos q4)))
          rw [if_pos g1, if_pos g1, g3, hF, hR]
          obtain ⟨p1, p2⟩ := zE_104 (g4 (K.1 15)) hn
          exact ⟨p1, Or.inl ⟨_, rfl, p2.symm, rfl⟩⟩
        · have q4 : ¬ V97 (Int32.ofNat n) K = Int32.ofInt (-1) := by
            rw [v97, g2]
            exact g1
          have hF : F55 (Int32.ofNat n) S = F103 (Int32.ofNat n) (K.1 15) K := by
            rw [hK] at q0 q4 ⊢
            exact (if_pos c).trans ((if_pos g).trans ((if_pos q0).trans (if_neg q4)))
          have hR : R55 (Int32.ofNat n) S = .inl (some (.int (V97 (Int32.ofNat n) K))) := by
            rw [hK] at q0 q4 ⊢
            exact (if_pos c).trans ((if_pos g).trans ((if_pos q0).trans (if_neg q4)))
          rw [if_neg g1, if_neg g1, hF, hR]
          exact ⟨g3, Or.inl ⟨_, rfl, (v97.trans g2).symm, rfl⟩⟩
      · have q0 : ¬ V95 (Int32.ofNat n) K = 0 := fun z => e (V95_ok.mp z)
        have q3 : ¬ zgt (B.2.1 24) (Int32.ofNat n) = 0 := by
          rw [zE_17 A]
          exact e
        have q4 : V97 (Int32.ofNat n) K = Int32.ofInt (-1) := if_neg q0
        have hF : F55 (Int32.ofNat n) S = F104 (Int32.ofNat n) K := by
          rw [hK] at q0 q4 ⊢
          exact (if_pos c).trans ((if_pos g).trans ((if_neg q0).trans (if_pos q4)))
        have hR : R55 (Int32.ofNat n) S = .inl (some (.int (V104 (Int32.ofNat n) K))) := by
          rw [hK] at q0 q4 ⊢
          exact (if_pos c).trans ((if_pos g).trans ((if_neg q0).trans (if_pos q4)))
        rw [if_neg q3, if_neg q3, hF, hR]
        obtain ⟨p1, p2⟩ := zE_104 A hn
        exact ⟨p1, Or.inl ⟨_, rfl, p2.symm, rfl⟩⟩
    · have g : ¬ C87 (Int32.ofNat n) S = true := fun z => r3 (C87_ok.mp z)
      have n3 : ¬ zgt ((zmS M 0 (Int32.ofInt 0)).2.1 25) (Int32.ofNat n) = 0 := by
        rw [zE_18 h0]
        exact r3
      have hF : F55 (Int32.ofNat n) S = S := (if_pos c).trans (if_neg g)
      have hR : R55 (Int32.ofNat n) S = .inr 2 := (if_pos c).trans (if_neg g)
      have hr : r141 (Int32.ofNat n) M = r111 (Int32.ofInt 2) (zmS M 0 (Int32.ofInt 0)) := (if_neg n1).trans (if_neg n3)
      rw [hF, hR, hr]
      exact ⟨zE_0 h0, Or.inr ⟨2, rfl, show Int32.ofInt 2 = kc_191 2 by decide⟩⟩
  · have nc : ¬ C82 x1 S = true := fun z => r1 (C82_ok.mp z)
    have n1 : v138 x1 (zmS M 0 (Int32.ofInt 0)) = 0 := v112_1.mpr (by rw [z0, z127]; exact r1)
    have hF : F55 x1 S = S := if_neg nc
    have hR : R55 x1 S = .inr 1 := if_neg nc
    have hr : r141 x1 M = r111 (Int32.ofInt 1) (zmS M 0 (Int32.ofInt 0)) := if_pos n1
    rw [hF, hR, hr]
    exact ⟨zE_0 h0, Or.inr ⟨1, rfl, show Int32.ofInt 1 = kc_191 1 by decide⟩⟩
end ZL3O
