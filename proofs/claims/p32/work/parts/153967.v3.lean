/-! spare, of both. -/
section ZL3R
variable {S S' A u : zSt} {M M' B U : zRt} {v w x x1 x2 x3 : Int32} {n t l p : Nat}
end ZL3R
/-! code, of both; a new object, of both. -/
section ZL3S
variable {S S' S1 A u : zSt} {M M' B U : zRt} {v w x x1 x2 x3 : Int32} {n t l p k r : Nat}
/-- what code does in the class -/
theorem zF40_e (hW : n ≤ 16) {l0 l1 : List (List Int32)} (q0 : zFq (S.1 9) (S.2 6) (S.2 7) (S.2 8) l0) (q1 : zFq (S.1 10) (S.2 9) (S.2 10) (S.2 11) l1) : ∃ C : zSt, zfrm [3, 9, 10] [6, 7, 8, 9, 10, 11] C S ∧ C.1 3 = Int32.ofNat n ∧ zFq (C.1 9) (C.2 6) (C.2 7) (C.2 8) (zflt (Int32.ofNat n) l0 l0.length) ∧ F40 (Int32.ofNat n) S = W40 (Int32.ofNat n) (zsF C 3 (Int32.ofInt 0)) (zsF C 3 (Int32.ofInt 0)) (Int32.ofInt 160).toInt.toNat := by
  have p0 := zFq_F2215 (S := zsS S 3 (Int32.ofNat n)) hW q0
  have f0 := fr_F22_15 (x1 := Int32.ofNat n) (S := zsS S 3 (Int32.ofNat n))
  obtain ⟨B, hB⟩ : ∃ B, B = F22_15 (Int32.ofNat n) (zsS S 3 (Int32.ofNat n)) := ⟨_, rfl⟩
  rw [← hB] at p0 f0
  have b3 : B.1 3 = Int32.ofNat n := (f0.1 3 (by decide)).trans rfl
  have f1 := fr_F22_22 (x1 := Int32.ofNat n) (S := B)
  obtain ⟨C, hC⟩ : ∃ C, C = F22_22 (Int32.ofNat n) B := ⟨_, rfl⟩
  rw [← hC] at f1
  refine ⟨C, fm_c f1 (fm_c f0 (fm_c fm_S fm_rf (by decide) (by decide)) (by decide) (by decide)) (by decide) (by decide), (f1.1 3 (by decide)).trans b3, ?_, ?_⟩
  · rw [f1.1 9 (by decide), f1.2.1 6 (by decide), f1.2.1 7 (by decide), f1.2.1 8 (by decide)]
    exact p0
  · have a3 : (zsS S 3 (Int32.ofNat n)).1 3 = Int32.ofNat n := rfl
    unfold F40 X40
    rw [a3, ← hB, b3, ← hC]
end ZL3S
/-! All that is alike, kept by every call. -/
section ZL3T
variable {S S' S1 : zSt} {M M' : zRt} {W V W2 V2 Y2 : List Nat} {x1 x2 x3 x4 x5 : Int32}
def zZ (S : zSt) (M : zRt) : Prop := zA0 S M ∧ zSp S M ∧ zE S M
theorem zZ_54 (h : zZ S M) : zZ (F54 x1 x2 S) (r140 x1 x2 M) := ⟨zA0_54 h.1, zSp_fr fr_F54 gr_140 (by decide) h.2.1, (zM_54 h.2.2).1⟩
theorem zZ_55 (h : zZ S M) : zZ (F55 x1 S) (r141 x1 M) := ⟨zA0_55 h.1, zSp_fr fr_F55 gr_141 (by decide) h.2.1, (zM_55 h.2.2).1⟩
theorem zZ_56 (h : zZ S M) : zZ (F56 x1 x2 S) (r142 x1 x2 M) := ⟨zA0_56 h.1, zSp_fr fr_F56 gr_142 (by decide) h.2.1, (zM_56 h.2.2).1⟩
theorem zZ_57 (h : zZ S M) : zZ (F57 x1 x2 x3 S) (r143 x1 x2 x3 M) := ⟨zA0_57 h.1, zSp_fr fr_F57 gr_143 (by decide) h.2.1, zE_57 h.2.2⟩
theorem zZ_58 (h : zZ S M) : zZ (F58 x1 x2 x3 S) (r144 x1 x2 x3 M) := ⟨zA0_58 h.1, zSp_fr fr_F58 gr_144 (by decide) h.2.1, zE_58 h.2.2⟩
theorem zZ_59 (h : zZ S M) : zZ (F59 x1 x2 x3 S) (r145 x1 x2 x3 M) := ⟨zA0_59 h.1, zSp_fr fr_F59 gr_145 (by decide) h.2.1, (zM_59 h.2.2).1⟩
theorem zZ_60 (h : zZ S M) : zZ (F60 x1 x2 x3 x4 x5 S) (r146 x1 x2 x3 x4 x5 M) := ⟨zA0_60 h.1, zSp_fr fr_F60 gr_146 (by decide) h.2.1, (zM_60 h.2.2).1⟩
theorem zZ_63 (h : zZ S M) : zZ (F63 x1 S) (r150 x1 M) := ⟨(zN_63 h.1).1, (zE_63 h.2.2 h.2.1).2, (zE_63 h.2.2 h.2.1).1⟩
theorem zZ_0 {t : Int32} (h : zZ S M) : zZ S (zmS M 0 t) := ⟨zA0_0 h.1, h.2.1, zE_0 h.2.2⟩
theorem zZ_fr (f : zfrm W V S' S) (g : zfrM W2 V2 Y2 M' M) (k1 : 4 ∉ W ∧ 4 ∉ W2) (k2 : 17 ∉ W ∧ 10 ∉ W2) (k3 : (∀ j ∈ [2, 9, 10], j ∉ W) ∧ ∀ j ∈ [6, 7, 8, 9, 10, 11, 15, 16, 18], j ∉ V) (k4 : (1 ∉ W2 ∧ 2 ∉ W2) ∧ (22 ∉ V2 ∧ 23 ∉ V2 ∧ 25 ∉ V2) ∧ 0 ∉ Y2 ∧ 1 ∉ Y2) (k5 : (∀ j ∈ [0, 1, 2, 3, 4, 5, 6, 7, 8, 9, 11, 12, 13, 14, 15, 16, 18], j ∉ W) ∧ ∀ j ∈ [0, 1, 2, 3, 4, 6, 7, 8, 12, 13, 14, 17], j ∉ V) (k6 : (∀ j ∈ [1, 2, 4, 5, 6, 7, 8, 9, 11, 12, 13, 14, 15], j ∉ W2) ∧ (∀ j ∈ [0, 1, 2, 3, 4, 5, 6, 7, 8, 9, 10, 11, 12, 13, 14, 15, 16, 17, 18, 19, 20, 21, 24], j ∉ V2) ∧ 2 ∉ Y2 ∧ 9 ∉ Y2) (h : zZ S M) : zZ S' M' := ⟨zA0_fr f g k1 h.1, zSp_fr f g k2 h.2.1, zB3_fr f g k3 k4 h.2.2.1, zX9_fr f g k5 k6 h.2.2.2⟩
end ZL3T
