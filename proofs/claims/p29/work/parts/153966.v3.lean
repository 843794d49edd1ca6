/-! run, retire, clear, call, stick, weak: of both. -/
section ZL3P
variable {S S' A : zSt} {M M' B : zRt} {W V W2 V2 Y2 : List Nat} {u v w x x1 x2 x3 x4 x5 d : Int32} {n t : Nat}
/-- run -/
theorem zM_60 (h : zE S M) : zE (F60 x1 x2 x3 x4 x5 S) (r146 x1 x2 x3 x4 x5 M) ∧ zAn (R60 x1 x2 x3 x4 x5 S) (v146 x1 x2 x3 x4 x5 M) ((r146 x1 x2 x3 x4 x5 M).1 0) kc_196 := by
  have h0 : zE S (zmS M 0 (Int32.ofInt 0)) := zE_0 h
  have z0 : (Int32.ofInt 0).toInt = 0 := by decide
  have z1 : (Int32.ofInt 1).toInt = 1 := by decide
  have z2 : (Int32.ofInt 2).toInt = 2 := by decide
  have z8 : (Int32.ofInt 8).toInt = 8 := by decide
  have z100 : (Int32.ofInt 100).toInt = 100 := by decide
  by_cases r1 : 1 ≤ x1.toInt ∧ x1.toInt ≤ 100
  · have a1 : ¬ x1.toInt < (Int32.ofInt 1).toInt := by omega
    have a2 : ¬ (Int32.ofInt 100).toInt < x1.toInt := by omega
    have n1 : ¬ v112 x1 (Int32.ofInt 1) (Int32.ofInt 100) (zmS M 0 (Int32.ofInt 0)) = 0 := fun z => v112_1.mp z (by rw [z1, z100]; exact r1)
    by_cases r2 : 2 ≤ x2.toInt ∧ x2.toInt ≤ 100
    · have a3 : ¬ x2.toInt < (Int32.ofInt 2).toInt := by omega
      have a4 : ¬ (Int32.ofInt 100).toInt < x2.toInt := by omega
      have n2 : ¬ v112 x2 (Int32.ofInt 2) (Int32.ofInt 100) (zmS M 0 (Int32.ofInt 0)) = 0 := fun z => v112_1.mp z (by rw [z2, z100]; exact r2)
      by_cases r3 : 0 ≤ x3.toInt ∧ x3.toInt ≤ 8
      · have a5 : ¬ x3.toInt < ((0 : Int32)).toInt := by
          rw [zero_z]
          omega
        have a6 : ¬ (Int32.ofInt 8).toInt < x3.toInt := by omega
        have n3 : ¬ v112 x3 (Int32.ofInt 0) (Int32.ofInt 8) (zmS M 0 (Int32.ofInt 0)) = 0 := fun z => v112_1.mp z (by rw [z0, z8]; exact r3)
        have hF : F60 x1 x2 x3 x4 x5 S = zsS (zsS (zsS (zsS (zsS S 5 x1) 6 x2) 14 x3) 15 x4) 16 x5 := (if_neg a1).trans ((if_neg a2).trans ((if_neg a3).trans ((if_neg a4).trans ((if_neg a5).trans (if_neg a6)))))
        have hR : R60 x1 x2 x3 x4 x5 S = .inl (some (.int (S.1 14))) := (if_neg a1).trans ((if_neg a2).trans ((if_neg a3).trans ((if_neg a4).trans ((if_neg a5).trans (if_neg a6)))))
        have hr : r146 x1 x2 x3 x4 x5 M = zmS (zmS (zmS (zmS (zmS (zmS M 0 (Int32.ofInt 0)) 5 x1) 6 x2) 7 x3) 8 x4) 9 x5 := (if_neg n1).trans ((if_neg n2).trans (if_neg n3))
        have hv : v146 x1 x2 x3 x4 x5 M = (zmS M 0 (Int32.ofInt 0)).1 7 := (if_neg n1).trans ((if_neg n2).trans (if_neg n3))
        have f := fr_F60 (x1 := x1) (x2 := x2) (x3 := x3) (x4 := x4) (x5 := x5) (S := S)
        have g := gr_146 (x1 := x1) (x2 := x2) (x3 := x3) (x4 := x4) (x5 := x5) (M := M)
        obtain ⟨h1, ht, h2, h3, h4, h5, h6, h7⟩ := h
        have m7 := h4.2.2.1.1
        refine ⟨⟨zB3_fr f g (by decide) (by decide) h1, zTk_fr f g (by decide) ht, zWd_fr f g (by decide) h2, zCn_fr f g (by decide) h3, ?_, zDr_fr f g (by decide) h5, zCo_fr f g (by decide) h6, zLg_fr f g (by decide) h7⟩, Or.inl ⟨_, hR, ?_, ?_⟩⟩
        · rw [hF, hr]
          obtain ⟨b1, b2, b3, b4, b5, b6⟩ := h4
          exact ⟨⟨rfl, r1.1⟩, ⟨rfl, (show 1 ≤ x2.toInt by omega)⟩, ⟨rfl, rfl, rfl⟩, b4, b5, b6⟩
        · rw [hv]
          exact m7.symm
        · rw [hr]
          exact (show Int32.ofInt 0 = 0 by decide)
      · have n3 : v112 x3 (Int32.ofInt 0) (Int32.ofInt 8) (zmS M 0 (Int32.ofInt 0)) = 0 := v112_1.mpr (by rw [z0, z8]; exact r3)
        have hr : r146 x1 x2 x3 x4 x5 M = r111 (Int32.ofInt 1) (zmS M 0 (Int32.ofInt 0)) := (if_neg n1).trans ((if_neg n2).trans (if_pos n3))
        have hR : R60 x1 x2 x3 x4 x5 S = .inr 0 ∧ F60 x1 x2 x3 x4 x5 S = S := by
          by_cases z : x3.toInt < ((0 : Int32)).toInt
          · exact ⟨(if_neg a1).trans ((if_neg a2).trans ((if_neg a3).trans ((if_neg a4).trans (if_pos z)))), (if_neg a1).trans ((if_neg a2).trans ((if_neg a3).trans ((if_neg a4).trans (if_pos z))))⟩
          · have y : (Int32.ofInt 8).toInt < x3.toInt := by
              rw [zero_z] at z
              omega
            exact ⟨(if_neg a1).trans ((if_neg a2).trans ((if_neg a3).trans ((if_neg a4).trans ((if_neg z).trans (if_pos y))))), (if_neg a1).trans ((if_neg a2).trans ((if_neg a3).trans ((if_neg a4).trans ((if_neg z).trans (if_pos y)))))⟩
        rw [hR.1, hR.2, hr]
        exact ⟨zE_0 h0, Or.inr ⟨0, rfl, show Int32.ofInt 1 = kc_196 0 by decide⟩⟩
    · have n2 : v112 x2 (Int32.ofInt 2) (Int32.ofInt 100) (zmS M 0 (Int32.ofInt 0)) = 0 := v112_1.mpr (by rw [z2, z100]; exact r2)
      have hr : r146 x1 x2 x3 x4 x5 M = r111 (Int32.ofInt 1) (zmS M 0 (Int32.ofInt 0)) := (if_neg n1).trans (if_pos n2)
      have hR : R60 x1 x2 x3 x4 x5 S = .inr 0 ∧ F60 x1 x2 x3 x4 x5 S = S := by
        by_cases z : x2.toInt < (Int32.ofInt 2).toInt
        · exact ⟨(if_neg a1).trans ((if_neg a2).trans (if_pos z)), (if_neg a1).trans ((if_neg a2).trans (if_pos z))⟩
        · have y : (Int32.ofInt 100).toInt < x2.toInt := by omega
          exact ⟨(if_neg a1).trans ((if_neg a2).trans ((if_neg z).trans (if_pos y))), (if_neg a1).trans ((if_neg a2).trans ((if_neg z).trans (if_pos y)))⟩
      rw [hR.1, hR.2, hr]
      exact ⟨zE_0 h0, Or.inr ⟨0, rfl, show Int32.ofInt 1 = kc_196 0 by decide⟩⟩
  · have n1 : v112 x1 (Int32.ofInt 1) (Int32.ofInt 100) (zmS M 0 (Int32.ofInt 0)) = 0 := v112_1.mpr (by rw [z1, z100]; exact r1)
    have hr : r146 x1 x2 x3 x4 x5 M = r111 (Int32.ofInt 1) (zmS M 0 (Int32.ofInt 0)) := if_pos n1
    have hR : R60 x1 x2 x3 x4 x5 S = .inr 0 ∧ F60 x1 x2 x3 x4 x5 S = S := by
      by_cases z : x1.toInt < (Int32.ofInt 1).toInt
      · exact ⟨if_pos z, if_pos z⟩
      · have y : (Int32.ofInt 100).toInt < x1.toInt := by omega
        exact ⟨(if_neg z).trans (if_pos y), (if_neg z).trans (if_pos y)⟩
    rw [hR.1, hR.2, hr]
    exact ⟨zE_0 h0, Or.inr ⟨0, rfl, show Int32.ofInt 1 = kc_196 0 by decide⟩⟩
theorem zX9_fr (f : zfrm W V S' S) (g : zfrM W2 V2 Y2 M' M) (k1 : (∀ j ∈ [0, 1, 2, 3, 4, 5, 6, 7, 8, 11, 12, 13, 14, 15, 16, 18], j ∉ W) ∧ ∀ j ∈ [0, 1, 2, 3, 4, 12, 13, 14, 17], j ∉ V) (k2 : (∀ j ∈ [1, 2, 4, 5, 6, 7, 8, 9, 11, 12, 13, 14, 15], j ∉ W2) ∧ (∀ j ∈ [0, 1, 2, 3, 4, 5, 6, 7, 8, 9, 10, 11, 12, 13, 14, 15, 16, 17, 18, 19, 20, 21, 24], j ∉ V2) ∧ 2 ∉ Y2 ∧ 9 ∉ Y2) (h : zX9 S M) : zX9 S' M' := by
  obtain ⟨a, b⟩ := k1
  obtain ⟨c, e, e1, e2⟩ := k2
  obtain ⟨ht, h2, h3, h4, h5, h6, h7⟩ := h
  refine ⟨zTk_fr f g ⟨a 4 (by decide), c 4 (by decide)⟩ ht, zWd_fr f g ⟨b 2 (by decide), fun l hl => e l (by
    have z : ∀ l ∈ List.range 20, l ∈ [0, 1, 2, 3, 4, 5, 6, 7, 8, 9, 10, 11, 12, 13, 14, 15, 16, 17, 18, 19, 20, 21, 24] := by decide
    exact z l hl)⟩ h2, zCn_fr f g ⟨⟨b 3 (by decide), b 4 (by decide), b 17 (by decide)⟩, e 20 (by decide), e 21 (by decide), e 24 (by decide)⟩ h3, zSc_fr f g ⟨fun j hj => a j ?_, fun j hj => c j ?_⟩ h4, zDr_fr f g ⟨a 7 (by decide), a 8 (by decide), c 11 (by decide), c 12 (by decide)⟩ h5, zCo_fr f g ⟨fun j hj => a j ?_, ⟨b 0 (by decide), b 1 (by decide)⟩, c 1 (by decide), c 2 (by decide), e2⟩ h6, zLg_fr f g ⟨a 11 (by decide), ⟨b 12 (by decide), b 13 (by decide), b 14 (by decide)⟩, e1⟩ h7⟩
  · have z : ∀ j ∈ [5, 6, 12, 13, 14, 15, 16, 18], j ∈ [0, 1, 2, 3, 4, 5, 6, 7, 8, 11, 12, 13, 14, 15, 16, 18] := by decide
    exact z j hj
  · have z : ∀ j ∈ [5, 6, 7, 8, 9, 13, 14, 15], j ∈ [1, 2, 4, 5, 6, 7, 8, 9, 11, 12, 13, 14, 15] := by decide
    exact z j hj
  · have z : ∀ j ∈ [0, 1, 2, 3], j ∈ [0, 1, 2, 3, 4, 5, 6, 7, 8, 11, 12, 13, 14, 15, 16, 18] := by decide
    exact z j hj
/-- retire -/
theorem zE_62 (hx : x2 = 0 ∨ x2 = 1) (ha : zA0 S M) (h : zE S M) : zE (F62 x1 x2 S) (r148 x1 x2 M) := ⟨⟨(zM_62 hx ⟨ha, h.1.1⟩).1.2, zCtw_fr fr_F62 gr_148 (by decide) h.1.2.1, zLn_fr fr_F62 gr_148 (by decide) h.1.2.2⟩, zX9_fr fr_F62 gr_148 (by decide) (by decide) h.2⟩
/-- weak -/
theorem zE_58 (h : zE S M) : zE (F58 x1 x2 x3 S) (r144 x1 x2 x3 M) := ⟨⟨zBr_fr fr_F58 gr_144 (by decide) h.1.1, (zM_58 h.1.2.1 h.1.2.2).1, zLn_fr fr_F58 gr_144 (by decide) h.1.2.2⟩, zX9_fr fr_F58 gr_144 (by decide) (by decide) h.2⟩
/-- clear -/
theorem zE_64 (h : zE S M) : zE (F64 S) (r151 M) := by
  obtain ⟨h1, ht, h2, h3, h4, h5, h6, h7⟩ := h
  have f := fr_F64 (S := S)
  have g := gr_151 (M := M)
  refine ⟨zB3_fr f g (by decide) (by decide) h1, zTk_fr f g (by decide) ht, zWd_fr f g (by decide) h2, zCn_fr f g (by decide) h3, zSc_fr f g (by decide) h4, zDr_fr f g (by decide) h5, zCo_fr f g (by decide) h6, ?_⟩
  obtain ⟨-, -, b, -⟩ := h7
  have e2 : (r151 M).2.2.1 2 = [] := rfl
  have e11 : (F64 S).1 11 = Int32.ofInt 0 := rfl
  refine ⟨?_, ?_, ?_, fun k e hk => ?_⟩
  · rw [e11, e2]
    decide
  · rw [e2]
    decide
  · rw [f.2.1 12 (by decide), f.2.1 13 (by decide), f.2.1 14 (by decide)]
    exact b
  · rw [e2] at hk
    cases hk
/-- call -/
theorem zE_65 (h : zE S M) : zE (F65 S) (r152 M) := by
  obtain ⟨h1, ht, h2, h3, h4, h5, h6, h7⟩ := h
  have f := fr_F65 (S := S)
  have g := gr_152 (M := M)
  refine ⟨zB3_fr f g (by decide) (by decide) h1, zTk_fr f g (by decide) ht, zWd_fr f g (by decide) h2, zCn_fr f g (by decide) h3, ?_, zDr_fr f g (by decide) h5, zCo_fr f g (by decide) h6, zLg_fr f g (by decide) h7⟩
  obtain ⟨b1, b2, b3, b4, b5⟩ := h4
  refine ⟨b1, b2, b3, ?_, b5⟩
  show S.1 18 + Int32.ofInt 1 = M.1 13 + Int32.ofInt 1
  rw [b4]
/-- a stuck cell is told -/
theorem zE_21 (h : zE S M) (hn : n < 128) (h4 : (M.2.2.1 0).length < 24) (c5 : V20_15 S = 0) (hq : t < 16) : zE (F21_15 (V91 (Int32.ofNat n) S) (Int32.ofInt 1 <<< (Int32.ofNat t &&& 31)) d S) (zmLs M 0 (M.2.2.1 0 ++ [[v124 (Int32.ofNat n) M, zrmd (Int32.ofNat n) (Int32.ofInt 8), Int32.ofNat t, d]])) := by
  obtain ⟨a, p, ha, hp, g1, g2, g3, -⟩ := zcel h hn
  obtain ⟨f1, f2, f3, f4⟩ := F21_ok15 (a := V91 (Int32.ofNat n) S) (b := Int32.ofInt 1 <<< (Int32.ofNat t &&& 31)) (c := d) c5
  have f := fr_F21_15 (x1 := V91 (Int32.ofNat n) S) (x2 := Int32.ofInt 1 <<< (Int32.ofNat t &&& 31)) (x3 := d) (S := S)
  have g : zfrM [] [] [0] (zmLs M 0 (M.2.2.1 0 ++ [[v124 (Int32.ofNat n) M, zrmd (Int32.ofNat n) (Int32.ofInt 8), Int32.ofNat t, d]])) M := gm_L
  obtain ⟨⟨b1, ⟨b2, b3, b4⟩, b5⟩, hX⟩ := h
  refine ⟨⟨zBr_fr f g (by decide) b1, ⟨?_, ?_, ?_⟩, zLn_fr f g (by decide) b5⟩, zX9_fr f g (by decide) (by decide) hX⟩
  · rw [f.1 2 (by decide)]
    exact b2
  · have e : (zmLs M 0 (M.2.2.1 0 ++ [[v124 (Int32.ofNat n) M, zrmd (Int32.ofNat n) (Int32.ofInt 8), Int32.ofNat t, d]])).2.2.1 0 = M.2.2.1 0 ++ [[Int32.ofNat a, Int32.ofNat p, Int32.ofNat t, d]] := by
      rw [← g1, ← g2]
      rfl
    rw [f1, f2, f3, f4, e, g3]
    exact zFq_push b3 h4 ha hp hq
  · rw [f.1 10 (by decide), f.2.1 9 (by decide), f.2.1 10 (by decide), f.2.1 11 (by decide), g.2.2.2.1 1 (by decide)]
    exact b4
theorem zE_57b (h : zE S M) (hn : n < 128) (h4 : (M.2.2.1 0).length < 24) (c5 : V20_15 S = 0) (hq : t < 16) : zE (F41 (V91 (Int32.ofNat n) (F21_15 (V91 (Int32.ofNat n) S) (Int32.ofInt 1 <<< (Int32.ofNat t &&& 31)) d S)) (V92 (Int32.ofNat n) (F21_15 (V91 (Int32.ofNat n) S) (Int32.ofInt 1 <<< (Int32.ofNat t &&& 31)) d S)) (F21_15 (V91 (Int32.ofNat n) S) (Int32.ofInt 1 <<< (Int32.ofNat t &&& 31)) d S)) (r127 (Int32.ofNat n) (v125 (Int32.ofNat n) (zmLs M 0 (M.2.2.1 0 ++ [[v124 (Int32.ofNat n) M, zrmd (Int32.ofNat n) (Int32.ofInt 8), Int32.ofNat t, d]]))) (zmLs M 0 (M.2.2.1 0 ++ [[v124 (Int32.ofNat n) M, zrmd (Int32.ofNat n) (Int32.ofInt 8), Int32.ofNat t, d]]))) := by
  have A := zE_21 (d := d) h hn h4 c5 hq
  rw [zE_wd A hn]
  exact zE_at A hn
theorem zE_57 (h : zE S M) : zE (F57 x1 x2 x3 S) (r143 x1 x2 x3 M) := by
  have h0 : zE S (zmS M 0 (Int32.ofInt 0)) := zE_0 h
  obtain ⟨⟨k, r, kr, k1, k2, k3⟩, q0, q1⟩ := h.1.2.1
  have b := zcds_kr _ kr
  have hk := b.2.1
  have hr := b.2.2.2.1
  have hw := zcds_w _ kr
  simp only at hk hr hw
  have e0 : (Int32.ofInt 0).toInt = 0 := by decide
  have e127 : (Int32.ofInt 127).toInt = 127 := by decide
  have ew : ((zmS M 0 (Int32.ofInt 0)).1 1 + (zmS M 0 (Int32.ofInt 0)).1 2 - Int32.ofInt 1).toInt = ((k + r : Nat) : Int) - 1 := by
    show (M.1 1 + M.1 2 - Int32.ofInt 1).toInt = _
    rw [k1, k2]
    exact hw
  by_cases r1 : 0 ≤ x1.toInt ∧ x1.toInt ≤ 127
  · have c := C82_ok (S := S).mpr r1
    have n1 : ¬ v138 x1 (zmS M 0 (Int32.ofInt 0)) = 0 := fun z => v112_1.mp z (by rw [e0, e127]; exact r1)
    by_cases r2 : 0 ≤ x2.toInt ∧ x2.toInt < (k + r : Nat)
    · have c2 : ¬ V7 x2 S = 0 := fun z => (zV7 k3 (by omega)).mp z r2
      have n2 : ¬ v112 x2 (Int32.ofInt 0) ((zmS M 0 (Int32.ofInt 0)).1 1 + (zmS M 0 (Int32.ofInt 0)).1 2 - Int32.ofInt 1) (zmS M 0 (Int32.ofInt 0)) = 0 := fun z => v112_1.mp z (by rw [e0, ew]; omega)
      have hl := q0.2.1
      by_cases r4 : (M.2.2.1 0).length < 24
      · have c5 : V20_15 S = 0 := (V20_ok15 q0.1 hl).mpr r4
        have n4 : ¬ Int32.ofNat ((zmS M 0 (Int32.ofInt 0)).2.2.1 0).length = Int32.ofInt 24 := fun z => by
          have : (M.2.2.1 0).length = 24 := (zof24 hl).mp z
          omega
        obtain ⟨n, rfl, hn⟩ := znat r1.1
        obtain ⟨t, rfl, ht⟩ := znat r2.1
        by_cases d0 : x3 = 0
        · have hF := (show F57 (Int32.ofNat n) (Int32.ofNat t) x3 S = _ from (if_pos c).trans ((if_neg c2).trans ((if_pos c5).trans (if_pos d0))))
          have hr9 := (show r143 (Int32.ofNat n) (Int32.ofNat t) x3 M = _ from (if_neg n1).trans ((if_neg n2).trans ((if_neg n4).trans (if_pos d0))))
          rw [hF, hr9]
          exact zE_57b h0 (by omega) r4 c5 (by omega)
        · have hF := (show F57 (Int32.ofNat n) (Int32.ofNat t) x3 S = _ from (if_pos c).trans ((if_neg c2).trans ((if_pos c5).trans (if_neg d0))))
          have hr9 := (show r143 (Int32.ofNat n) (Int32.ofNat t) x3 M = _ from (if_neg n1).trans ((if_neg n2).trans ((if_neg n4).trans (if_neg d0))))
          rw [hF, hr9]
          exact zE_57b h0 (by omega) r4 c5 (by omega)
      · have c5 : ¬ V20_15 S = 0 := fun z => r4 ((V20_ok15 q0.1 hl).mp z)
        have n4 : Int32.ofNat ((zmS M 0 (Int32.ofInt 0)).2.2.1 0).length = Int32.ofInt 24 := (zof24 hl).mpr (by omega)
        have hF : F57 x1 x2 x3 S = S := (if_pos c).trans ((if_neg c2).trans (if_neg c5))
        have hr9 : r143 x1 x2 x3 M = r111 (Int32.ofInt 3) (zmS M 0 (Int32.ofInt 0)) := (if_neg n1).trans ((if_neg n2).trans (if_pos n4))
        rw [hF, hr9]
        exact zE_0 h0
    · have c2 : V7 x2 S = 0 := (zV7 k3 (by omega)).mpr r2
      have hF : F57 x1 x2 x3 S = S := (if_pos c).trans (if_pos c2)
      have hr9 : r143 x1 x2 x3 M = r111 (Int32.ofInt 2) (zmS M 0 (Int32.ofInt 0)) := (if_neg n1).trans (if_pos (v112_1.mpr (by rw [e0, ew]; omega)))
      rw [hF, hr9]
      exact zE_0 h0
  · have nc : ¬ C82 x1 S = true := fun z => r1 (C82_ok.mp z)
    have hF : F57 x1 x2 x3 S = S := if_neg nc
    have hr9 : r143 x1 x2 x3 M = r111 (Int32.ofInt 1) (zmS M 0 (Int32.ofInt 0)) := if_pos (v112_1.mpr (by rw [e0, e127]; exact r1))
    rw [hF, hr9]
    exact zE_0 h0
end ZL3P
/-! pass, of both. -/
section ZL3Q
variable {S S' A u : zSt} {M M' B U : zRt} {v w x x1 x2 x3 : Int32} {n t : Nat}
theorem zq160 {a b : Nat} (ha : a < 20) (hb : b < 8) : zqtd (Int32.ofNat (a * 8 + b)) (Int32.ofInt 8) = Int32.ofNat a := by
  have e : (List.range 160).all (fun n => zqtd (Int32.ofNat n) (Int32.ofInt 8) == Int32.ofNat (n / 8)) = true := by decide +kernel
  have z := eq_of_beq (List.all_eq_true.mp e (a * 8 + b) (List.mem_range.mpr (by omega)))
  rw [z, show (a * 8 + b) / 8 = a by omega]
/-- weak cells leak -/
theorem zE_46l (h : zE S M) : ∀ k, k ≤ (M.2.2.1 1).length → zE (W46 S' S k) (w135 M' M k)
  | 0, _ => h
  | k + 1, hk => by
    have hE := zE_46l h k (by omega)
    show zE (D46 S' k (W46 S' S k)) (d135 M' k (w135 M' M k))
    have el : (w135 M' M k).2.2.1 1 = M.2.2.1 1 := (gr_w135 k).2.2.2.1 1 List.not_mem_nil
    obtain ⟨u, hu⟩ : ∃ u, u = W46 S' S k := ⟨_, rfl⟩
    obtain ⟨U, hU⟩ : ∃ U, U = w135 M' M k := ⟨_, rfl⟩
    rw [← hu, ← hU] at hE ⊢
    rw [← hU] at el
    have hq := hE.1.2.1.2.2
    have h24 := hq.2.1
    rw [← el] at hk
    obtain ⟨a, b, c, d, e0, ha, hb, hc, e4, e5, e6⟩ := hq.2.2.2 k _ (List.getElem?_eq_getElem (by omega))
    have eg : (U.2.2.1 1).getD (Int32.toNatClampNeg (Int32.ofNat k)) [] = [Int32.ofNat a, Int32.ofNat b, Int32.ofNat c, d] := by
      rw [zcl_of (by omega), List.getD_eq_getElem?_getD, List.getElem?_eq_getElem (by omega), ← e0]
      rfl
    unfold D46 d135
    rw [eg, e4, e5, e6, zq160 ha hb]
    rw [show zgt [Int32.ofNat a, Int32.ofNat b, Int32.ofNat c, d] (Int32.ofInt 0) = Int32.ofNat a from rfl, show zgt [Int32.ofNat a, Int32.ofNat b, Int32.ofNat c, d] (Int32.ofInt 1) = Int32.ofNat b from rfl, show zgt [Int32.ofNat a, Int32.ofNat b, Int32.ofNat c, d] (Int32.ofInt 2) = Int32.ofNat c from rfl, show zgt [Int32.ofNat a, Int32.ofNat b, Int32.ofNat c, d] (Int32.ofInt 3) = d from rfl]
    rw [zcl_of (by omega), (zE_w hE).2.2 a b ha hb, (zE_c hE).2.1.1, zE_tk hE]
    by_cases q : (U.1 4 - zgt (U.2.1 21) (Int32.ofNat a)).toInt < d.toInt
    · rw [if_pos q, if_pos q]
      exact hE
    · rw [if_neg q, if_neg q]
      exact zE_put hE ha hb
/-- all is refreshed -/
theorem zst_rp {l : List Int32} {v : Int32} {k : Nat} (hl : l.length = 20) (hk : k < 20) : zst (List.replicate k v ++ l.drop k) (Int32.ofNat k) v = List.replicate (k + 1) v ++ l.drop (k + 1) := by
  rw [zst_in9 (by omega), List.set_append_right _ _ (by rw [List.length_replicate]; omega), List.length_replicate, Nat.sub_self, List.drop_eq_getElem_cons (by omega : k < l.length), List.set_cons_zero, List.replicate_succ', List.append_assoc]
  rfl
theorem w137_r (h20 : (M.2.1 20).length = 20) (h21 : (M.2.1 21).length = 20) : ∀ k, k ≤ 20 → (w137 M k).2.1 20 = List.replicate k (Int32.ofInt 0) ++ (M.2.1 20).drop k ∧ (w137 M k).2.1 21 = List.replicate k (M.1 4) ++ (M.2.1 21).drop k ∧ (w137 M k).1 4 = M.1 4
  | 0, _ => ⟨rfl, rfl, rfl⟩
  | k + 1, hk => by
    obtain ⟨i1, i2, i3⟩ := w137_r h20 h21 k (by omega)
    have e20 : (w137 M (k + 1)).2.1 20 = zst ((w137 M k).2.1 20) (Int32.ofNat k) (Int32.ofInt 0) := rfl
    have e21 : (w137 M (k + 1)).2.1 21 = zst ((w137 M k).2.1 21) (Int32.ofNat k) ((w137 M k).1 4) := rfl
    have e4 : (w137 M (k + 1)).1 4 = (w137 M k).1 4 := rfl
    rw [e20, e21, e4, i1, i2, i3, zst_rp h20 (by omega), zst_rp h21 (by omega)]
    exact ⟨rfl, rfl, rfl⟩
theorem zE_rf (h : zE S M) : zE (if (V47 (S.1 4) S) = ((0 : Int32)) then S else (zsF (zsF S 3 (Int32.ofInt 0)) 4 ((zsF S 3 (Int32.ofInt 0)).1 4))) (q137 M) := by
  have s5 := (zE_s h).1
  have t4 := zE_tk h
  have p5 : (0 : Int32).toInt < (S.1 5).toInt := by
    rw [zero_z]
    omega
  have e47 : V47 (S.1 4) S = if zrmd (S.1 4) (S.1 5) = 0 then Int32.ofInt 1 else Int32.ofInt 0 := if_pos p5
  unfold q137
  rw [e47, ← t4, ← s5.1]
  by_cases q : zrmd (S.1 4) (S.1 5) = 0
  · rw [if_pos q, if_pos q, if_neg (by decide)]
    obtain ⟨h1, ht, h2, h3, h4, h5, h6, h7⟩ := h
    have f : zfrm [] [3, 4] (zsF (zsF S 3 (Int32.ofInt 0)) 4 ((zsF S 3 (Int32.ofInt 0)).1 4)) S := fm_c fm_F (fm_c fm_F fm_rf (by decide) (by decide)) (by decide) (by decide)
    have g := gr_w137 (M := M) 20
    refine ⟨zB3_fr f g (by decide) (by decide) h1, zTk_fr f g (by decide) ht, zWd_fr f g (by decide) h2, ?_, zSc_fr f g (by decide) h4, zDr_fr f g (by decide) h5, zCo_fr f g (by decide) h6, zLg_fr f g (by decide) h7⟩
    obtain ⟨⟨a1, a2⟩, ⟨a3, a4⟩, a5⟩ := h3
    obtain ⟨r1, r2, -⟩ := w137_r (M := M) (by rw [← a1]; exact a2) (by rw [← a3]; exact a4) 20 (Nat.le_refl _)
    have p3 : (zsF (zsF S 3 (Int32.ofInt 0)) 4 ((zsF S 3 (Int32.ofInt 0)).1 4)).2 3 = List.replicate (S.2 3).length (Int32.ofInt 0) := rfl
    have p4 : (zsF (zsF S 3 (Int32.ofInt 0)) 4 ((zsF S 3 (Int32.ofInt 0)).1 4)).2 4 = List.replicate (S.2 4).length (S.1 4) := rfl
    have p17 : (zsF (zsF S 3 (Int32.ofInt 0)) 4 ((zsF S 3 (Int32.ofInt 0)).1 4)).2 17 = S.2 17 := rfl
    unfold zCn
    rw [r1, r2, p3, p4, p17, g.2.1 24 (by decide), a2, a4, ← a1, ← a3, List.drop_eq_nil_of_le (by omega), List.drop_eq_nil_of_le (by omega), List.append_nil, List.append_nil, ← t4]
    exact ⟨⟨rfl, List.length_replicate⟩, ⟨rfl, List.length_replicate⟩, a5⟩
  · rw [if_neg q, if_neg q, if_pos (by decide)]
    exact h
theorem zE_46 (h : zE S M) : zE (F46 S) (q137 (r135 (zmS M 4 (M.1 4 + Int32.ofInt 1)))) := by
  have t4 := zE_tk h
  have h1 : zE (zsS S 4 (S.1 4 + Int32.ofInt 1)) (zmS M 4 (M.1 4 + Int32.ofInt 1)) := by
    obtain ⟨h1, ht, h2, h3, h4, h5, h6, h7⟩ := h
    have f : zfrm [4] [] (zsS S 4 (S.1 4 + Int32.ofInt 1)) S := fm_S
    have g : zfrM [4] [] [] (zmS M 4 (M.1 4 + Int32.ofInt 1)) M := gm_S
    refine ⟨zB3_fr f g (by decide) (by decide) h1, ?_, zWd_fr f g (by decide) h2, zCn_fr f g (by decide) h3, zSc_fr f g (by decide) h4, zDr_fr f g (by decide) h5, zCo_fr f g (by decide) h6, zLg_fr f g (by decide) h7⟩
    show S.1 4 + Int32.ofInt 1 = M.1 4 + Int32.ofInt 1
    rw [t4]
  have hq := h1.1.2.1.2.2
  have e10 : ((zsS S 4 (S.1 4 + Int32.ofInt 1)).1 10).toInt.toNat = ((zmS M 4 (M.1 4 + Int32.ofInt 1)).2.2.1 1).length := by
    have := hq.2.1
    rw [hq.1, zof_0 (by omega)]
    omega
  have el : (Int32.ofNat ((zmS M 4 (M.1 4 + Int32.ofInt 1)).2.2.1 1).length).toInt.toNat = ((zmS M 4 (M.1 4 + Int32.ofInt 1)).2.2.1 1).length := by
    have := hq.2.1
    rw [zof_0 (by omega)]
    omega
  unfold F46 X46 r135 x135
  rw [e10, el]
  exact zE_rf (zE_46l h1 _ (Nat.le_refl _))
/-- the patrol, a step -/
theorem zE_fr17 {s t : Int32} (h : zE S M) : zE (zsS S 17 s) (zmS M 10 t) := ⟨zB3_fr (fm_S (k := 17)) (gm_S (k := 10)) (by decide) (by decide) h.1, zX9_fr (fm_S (k := 17)) (gm_S (k := 10)) (by decide) (by decide) h.2⟩
theorem zE_fr10 {t : Int32} (h : zE S M) : zE S (zmS M 10 t) := ⟨zB3_fr (W := []) (V := []) fm_rf (gm_S (k := 10)) (by decide) (by decide) h.1, zX9_fr (W := []) (V := []) fm_rf (gm_S (k := 10)) (by decide) (by decide) h.2⟩
theorem zE_fr18 {s : Int32} (h : zE S M) : zE (zsS S 17 s) M := ⟨zB3_fr (W2 := []) (V2 := []) (Y2 := []) (fm_S (k := 17)) gm_rf (by decide) (by decide) h.1, zX9_fr (W2 := []) (V2 := []) (Y2 := []) (fm_S (k := 17)) gm_rf (by decide) (by decide) h.2⟩
theorem zE_105d {k : Nat} (h : zE S M) (hp : zSp S M) : zE (D105 S' k S) (d136 M' k M) ∧ zSp (D105 S' k S) (d136 M' k M) := by
  obtain ⟨e17, p0, p1⟩ := hp
  obtain ⟨n, hn, hn1⟩ := znat p0
  have hn2 : n < 128 := by omega
  have e10 : M.1 10 = Int32.ofNat n := e17.symm.trans hn
  have en : zrmd (Int32.ofNat n + Int32.ofInt 1) (Int32.ofInt 128) = Int32.ofNat ((n + 1) % 128) := by
    have e : (List.range 128).all (fun n => zrmd (Int32.ofNat n + Int32.ofInt 1) (Int32.ofInt 128) == Int32.ofNat ((n + 1) % 128)) = true := by decide +kernel
    exact eq_of_beq (List.all_eq_true.mp e n (List.mem_range.mpr hn2))
  have sp : ∀ {G : zSt} {H : zRt}, G.1 17 = Int32.ofNat ((n + 1) % 128) → H.1 10 = Int32.ofNat ((n + 1) % 128) → zSp G H := by
    intro G H g1 g2
    refine ⟨g1.trans g2.symm, ?_⟩
    rw [g1, zof_0 (by omega)]
    omega
  have hZ : zE S (zmS M 10 (Int32.ofNat ((n + 1) % 128))) := zE_fr10 h
  obtain ⟨Z, hZe⟩ : ∃ Z, Z = zmS M 10 (Int32.ofNat ((n + 1) % 128)) := ⟨_, rfl⟩
  have z10 : Z.1 10 = Int32.ofNat ((n + 1) % 128) := by
    rw [hZe]
    rfl
  unfold D105 d136
  rw [hn, e10, en, ← hZe]
  rw [← hZe] at hZ
  have e24 : zgt (Z.2.1 24) (Int32.ofNat n) = zgt (S.2 17) (Int32.ofNat n) := by rw [zE_17 hZ]
  have e25 : zgt (Z.2.1 25) (Int32.ofNat n) = zgt (S.2 18) (Int32.ofNat n) := by rw [zE_18 hZ]
  rw [e24, e25]
  by_cases a : zgt (S.2 17) (Int32.ofNat n) = 0
  · rw [if_pos (V95_ok.mpr a), if_pos a]
    by_cases b : zgt (S.2 18) (Int32.ofNat n) = 0
    · rw [if_pos (V96_ok.mpr b), if_pos b]
      have v97 : V97 (Int32.ofNat n) S = zda S.1 S.2 (V92 (Int32.ofNat n) S) := if_pos (V95_ok.mpr a)
      have hd := zE_da (w := V92 (Int32.ofNat n) S) hZ
      rw [zE_wd hZ hn2] at hd
      rw [v97]
      have dn := zE_dn (w := v125 (Int32.ofNat n) Z) hZ
      rcases zE_103 hZ hn2 with ⟨-, k0, hF⟩ | ⟨-, k1, hz, hnz⟩ | ⟨-, k2, hb9, hE⟩
      · have n2 : ¬ zkd Z.2.2.2 (v125 (Int32.ofNat n) Z) = Int32.ofInt 2 := by
          rw [k0]
          decide
        rw [if_neg n2] at hd
        rw [zE_wd hZ hn2, hd, if_neg dn, if_pos k0, hF]
        exact ⟨zE_fr18 (zE_p0 hZ (by omega) a), sp rfl z10⟩
      · have n2 : ¬ zkd Z.2.2.2 (v125 (Int32.ofNat n) Z) = Int32.ofInt 2 := by
          rw [k1]
          decide
        have n0 : ¬ zkd Z.2.2.2 (v125 (Int32.ofNat n) Z) = 0 := by
          rw [k1]
          decide
        have n1 : zkd Z.2.2.2 (v125 (Int32.ofNat n) Z) = Int32.ofInt 1 := by
          rw [k1]
          decide
        rw [if_neg n2] at hd
        have g := gr_130 (x1 := Int32.ofNat n) (x2 := zbm9 Z.2.2.2 (v125 (Int32.ofNat n) Z)) (M := Z)
        have hh := hnz (Int32.ofInt 1) (by decide)
        have h17 : zgt ((F103 (Int32.ofNat n) (Int32.ofInt 1) S).2 17) (Int32.ofNat n) = Int32.ofInt 0 := by
          rw [fr_F103.2.1 17 (by decide), a]
          decide
        rw [zE_wd hZ hn2, hd, if_neg dn, if_neg n0, if_pos n1, g.2.2.2.2 (by decide)]
        exact ⟨zE_fr18 (zE_p0 hh (by omega) h17), sp rfl ((gr_127.1 10 (by decide)).trans ((g.1 10 (by decide)).trans z10))⟩
      · have n2 : zkd Z.2.2.2 (v125 (Int32.ofNat n) Z) = Int32.ofInt 2 := by
          rw [k2]
          decide
        have n0 : ¬ zkd Z.2.2.2 (v125 (Int32.ofNat n) Z) = 0 := by
          rw [k2]
          decide
        have n1 : ¬ zkd Z.2.2.2 (v125 (Int32.ofNat n) Z) = Int32.ofInt 1 := by
          rw [k2]
          decide
        rw [if_pos n2] at hd
        have hh := hE (Int32.ofInt 1)
        have g := gr_130 (x1 := Int32.ofNat n) (x2 := Int32.ofInt (-1)) (M := Z)
        rw [zE_wd hZ hn2, hd, if_pos rfl, if_neg n0, if_neg n1, hb9]
        exact ⟨zE_fr18 (zE_po hh (Or.inr (by decide))), sp rfl ((g.1 10 (by decide)).trans z10)⟩
    · rw [if_neg (fun z => b (V96_ok.mp z)), if_neg b]
      exact ⟨zE_fr18 hZ, sp rfl z10⟩
  · rw [if_neg (fun z => a (V95_ok.mp z)), if_neg a]
    exact ⟨zE_fr18 hZ, sp rfl z10⟩
theorem zE_105l (h : zE S M) (hp : zSp S M) : ∀ k, zE (W105 S' S k) (w136 M' M k) ∧ zSp (W105 S' S k) (w136 M' M k)
  | 0 => ⟨h, hp⟩
  | k + 1 => zE_105d (zE_105l h hp k).1 (zE_105l h hp k).2
theorem zE_105 (h : zE S M) (hp : zSp S M) : zE (F105 S) (r136 M) ∧ zSp (F105 S) (r136 M) := by
  unfold F105 X105 r136 x136
  rw [(zE_s h).2.2.1.1]
  exact zE_105l h hp _
theorem zE_tick (h : zE S M) (hp : zSp S M) : zE (F105 (F46 S)) (r137 M) ∧ zSp (F105 (F46 S)) (r137 M) := by
  have g : zfrM [4] [0, 1, 2, 3, 4, 5, 6, 7, 8, 9, 10, 11, 12, 13, 14, 15, 16, 17, 18, 19, 20, 21] [] (q137 (r135 (zmS M 4 (M.1 4 + Int32.ofInt 1)))) M := gm_c gr_q137 (gm_c gr_135 (gm_c gm_S gm_rf (by decide) (by decide) (by decide)) (by decide) (by decide) (by decide)) (by decide) (by decide) (by decide)
  unfold r137
  exact zE_105 (zE_46 h) (zSp_fr fr_F46 g (by decide) hp)
theorem zE_63l (h : zE S M) (hp : zSp S M) : ∀ k, zE (W63 x1 S' S k) (w150 x2 M' M k) ∧ zSp (W63 x1 S' S k) (w150 x2 M' M k)
  | 0 => ⟨h, hp⟩
  | k + 1 => zE_tick (zE_63l h hp k).1 (zE_63l h hp k).2
theorem zE_63 (h : zE S M) (hp : zSp S M) : zE (F63 x1 S) (r150 x1 M) ∧ zSp (F63 x1 S) (r150 x1 M) := by
  have h0 : zE S (zmS M 0 (Int32.ofInt 0)) := zE_0 h
  have t4 : S.1 4 = (zmS M 0 (Int32.ofInt 0)).1 4 := zE_tk h
  have hp0 : ∀ t : Int32, zSp S (zmS M 0 t) := fun t => hp
  have hp1 : ∀ t : Int32, zSp S (zmS (zmS M 0 (Int32.ofInt 0)) 0 t) := fun t => hp
  have e1 : (Int32.ofInt 1).toInt = 1 := by decide
  have e100 : (Int32.ofInt 100).toInt = 100 := by decide
  by_cases r1 : 1 ≤ x1.toInt ∧ x1.toInt ≤ 100
  · have c := C85_ok (S := S).mpr r1
    have nv : ¬ v112 x1 (Int32.ofInt 1) (Int32.ofInt 100) (zmS M 0 (Int32.ofInt 0)) = 0 := fun z => v112_1.mp z (by rw [e1, e100]; exact r1)
    by_cases t : (Int32.ofInt 2000).toInt < (S.1 4 + x1).toInt
    · have t2 : (Int32.ofInt 2000).toInt < ((zmS M 0 (Int32.ofInt 0)).1 4 + x1).toInt := by
        rw [← t4]
        exact t
      have hF : F63 x1 S = S := (if_pos c).trans (if_pos t)
      have hr : r150 x1 M = r111 (Int32.ofInt 2) (zmS M 0 (Int32.ofInt 0)) := (if_neg nv).trans (if_pos t2)
      rw [hF, hr]
      exact ⟨zE_0 h0, hp1 _⟩
    · have t2 : ¬ (Int32.ofInt 2000).toInt < ((zmS M 0 (Int32.ofInt 0)).1 4 + x1).toInt := by
        rw [← t4]
        exact t
      have hF : F63 x1 S = W63 x1 S S x1.toInt.toNat := (if_pos c).trans (if_neg t)
      have hr : r150 x1 M = w150 x1 M (zmS M 0 (Int32.ofInt 0)) x1.toInt.toNat := (if_neg nv).trans (if_neg t2)
      rw [hF, hr]
      exact zE_63l h0 (hp0 _) _
  · have nc : ¬ C85 x1 S = true := fun z => r1 (C85_ok.mp z)
    have pv : v112 x1 (Int32.ofInt 1) (Int32.ofInt 100) (zmS M 0 (Int32.ofInt 0)) = 0 := v112_1.mpr (by rw [e1, e100]; exact r1)
    have hF : F63 x1 S = S := if_neg nc
    have hr : r150 x1 M = r111 (Int32.ofInt 1) (zmS M 0 (Int32.ofInt 0)) := if_pos pv
    rw [hF, hr]
    exact ⟨zE_0 h0, hp1 _⟩
end ZL3Q
