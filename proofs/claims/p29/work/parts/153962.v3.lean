/-! Where a row lies: the class's cell and the reference's line and place. -/
section ZL3F
variable {S S' S1 : zSt} {M M' : zRt} {W V W2 V2 Y2 : List Nat} {x1 : Int32}
def zLn (S : zSt) (M : zRt) : Prop := (S.2 15).length = 16 ∧ (M.2.1 22).length = 16 ∧ ∀ j, j < 16 → ∃ a : Nat, a < 10 ∧ zgt (S.2 15) (Int32.ofNat j) = Int32.ofNat a ∧ zgt (M.2.1 22) (Int32.ofNat j) = Int32.ofNat (j / 8 * 10 + a)
theorem zLn_fr (f : zfrm W V S' S) (g : zfrM W2 V2 Y2 M' M) (hk : 15 ∉ V ∧ 22 ∉ V2) (h : zLn S M) : zLn S' M' := by
  unfold zLn
  rw [f.2.1 15 hk.1, g.2.1 22 hk.2]
  exact h
theorem zqr {n : Nat} (h : n < 128) : zqtd (Int32.ofNat n) (Int32.ofInt 8) = Int32.ofNat (n / 8) ∧ zqtd (Int32.ofNat n) (Int32.ofInt 64) = Int32.ofNat (n / 64) ∧ zrmd (Int32.ofNat n) (Int32.ofInt 8) = Int32.ofNat (n % 8) := by
  have e : (List.range 128).all (fun n => (zqtd (Int32.ofNat n) (Int32.ofInt 8) == Int32.ofNat (n / 8)) && ((zqtd (Int32.ofNat n) (Int32.ofInt 64) == Int32.ofNat (n / 64)) && (zrmd (Int32.ofNat n) (Int32.ofInt 8) == Int32.ofNat (n % 8)))) = true := by decide +kernel
  have z := List.all_eq_true.mp e n (List.mem_range.mpr h)
  simp only [Bool.and_eq_true] at z
  exact ⟨eq_of_beq z.1, eq_of_beq z.2.1, eq_of_beq z.2.2⟩
theorem znat {x : Int32} (h : 0 ≤ x.toInt) : ∃ n : Nat, x = Int32.ofNat n ∧ (n : Int) = x.toInt := by
  have := Int32.toInt_lt x
  refine ⟨x.toInt.toNat, Int32.toInt_inj.mp ?_, by omega⟩
  rw [zof_0 (by omega)]
  omega
theorem zcell (h : zLn S M) (h0 : 0 ≤ x1.toInt ∧ x1.toInt ≤ 127) : ∃ a b : Nat, a < 20 ∧ b < 8 ∧ v124 x1 M = Int32.ofNat a ∧ zrmd x1 (Int32.ofInt 8) = Int32.ofNat b ∧ V91 x1 S = Int32.ofNat (a * 8 + b) := by
  obtain ⟨n, rfl, hn⟩ := znat h0.1
  have hn : n < 128 := by omega
  obtain ⟨q1, q2, q3⟩ := zqr hn
  obtain ⟨a, ha, g1, g2⟩ := h.2.2 (n / 8) (by omega)
  refine ⟨n / 8 / 8 * 10 + a, n % 8, by omega, by omega, ?_, q3, ?_⟩
  · unfold v124
    rw [q1]
    exact g2
  · unfold V91 V90
    rw [q1, q2, q3, g1, show Int32.ofInt 10 = Int32.ofNat 10 from rfl, show Int32.ofInt 8 = Int32.ofNat 8 from rfl, ← Int32.ofNat_mul, ← Int32.ofNat_add, ← Int32.ofNat_mul, ← Int32.ofNat_add, show n / 64 = n / 8 / 8 by omega]
end ZL3F
/-! weak, of both. -/
section ZL3G
variable {S : zSt} {M : zRt} {x1 x2 x3 : Int32}
theorem zcds_w : ∀ q ∈ zcds, (Int32.ofNat q.1 + Int32.ofNat q.2 - Int32.ofInt 1).toInt = ((q.1 + q.2 : Nat) : Int) - 1 := by decide +kernel
theorem zV7 {w : Nat} (e : S.1 2 = Int32.ofNat w) (hw : w ≤ 16) : V7 x2 S = 0 ↔ ¬ (0 ≤ x2.toInt ∧ x2.toInt < w) := by
  have e0 : ((0 : Int32)).toInt = 0 := by decide
  unfold V7
  rw [e, zof_0 (by omega), e0]
  split
  · next z => exact ⟨fun _ k => by omega, fun _ => by decide⟩
  · next z =>
    split
    · next z2 => exact ⟨fun k => absurd k (by decide), fun k => absurd ⟨by omega, z2⟩ k⟩
    · next z2 => exact ⟨fun _ k => by omega, fun _ => by decide⟩
theorem zof24 {n : Nat} (h : n ≤ 24) : Int32.ofNat n = Int32.ofInt 24 ↔ n = 24 := by
  constructor
  · intro e
    have e := congrArg Int32.toInt e
    rw [zof_0 (by omega), show (Int32.ofInt 24).toInt = 24 by decide] at e
    omega
  · rintro rfl
    rfl
theorem zM_58 (hc : zCtw S M) (hn : zLn S M) : zCtw (F58 x1 x2 x3 S) (r144 x1 x2 x3 M) ∧ ((∃ v, R58 x1 x2 x3 S = .inl (some (.int v)) ∧ v144 x1 x2 x3 M = v ∧ (r144 x1 x2 x3 M).1 0 = 0) ∨ (∃ E, R58 x1 x2 x3 S = .inr E ∧ (r144 x1 x2 x3 M).1 0 = kc_194 E)) := by
  have hcc := hc
  obtain ⟨⟨k, r, kr, k1, k2, k3⟩, h0, h1⟩ := hc
  have b := zcds_kr _ kr
  have hk := b.2.1
  have hr := b.2.2.2.1
  have hw := zcds_w _ kr
  simp only at hk hr hw
  have e0 : (Int32.ofInt 0).toInt = 0 := by decide
  have e1 : (Int32.ofInt 1).toInt = 1 := by decide
  have e60 : (Int32.ofInt 60).toInt = 60 := by decide
  have e127 : (Int32.ofInt 127).toInt = 127 := by decide
  have ew : ((zmS M 0 (Int32.ofInt 0)).1 1 + (zmS M 0 (Int32.ofInt 0)).1 2 - Int32.ofInt 1).toInt = ((k + r : Nat) : Int) - 1 := by
    show (M.1 1 + M.1 2 - Int32.ofInt 1).toInt = _
    rw [k1, k2]
    exact hw
  have X : ∀ t : Int32, zCtw S (zmS (zmS M 0 (Int32.ofInt 0)) 0 t) := fun t => hcc
  by_cases r1 : 0 ≤ x1.toInt ∧ x1.toInt ≤ 127
  · have c := C82_ok (S := S).mpr r1
    have n1 : ¬ v138 x1 (zmS M 0 (Int32.ofInt 0)) = 0 := fun z => v112_1.mp z (by rw [e0, e127]; exact r1)
    by_cases r2 : 0 ≤ x2.toInt ∧ x2.toInt < (k + r : Nat)
    · have c2 : ¬ V7 x2 S = 0 := fun z => (zV7 k3 (by omega)).mp z r2
      have n2 : ¬ v112 x2 (Int32.ofInt 0) ((zmS M 0 (Int32.ofInt 0)).1 1 + (zmS M 0 (Int32.ofInt 0)).1 2 - Int32.ofInt 1) (zmS M 0 (Int32.ofInt 0)) = 0 := fun z => v112_1.mp z (by rw [e0, ew]; omega)
      by_cases r3 : 1 ≤ x3.toInt ∧ x3.toInt ≤ 60
      · have c3 : ¬ x3.toInt < (Int32.ofInt 1).toInt := by omega
        have c4 : ¬ (Int32.ofInt 60).toInt < x3.toInt := by omega
        have n3 : ¬ v112 x3 (Int32.ofInt 1) (Int32.ofInt 60) (zmS M 0 (Int32.ofInt 0)) = 0 := fun z => v112_1.mp z (by rw [e1, e60]; exact r3)
        have hl := h1.2.1
        by_cases r4 : (M.2.2.1 1).length < 24
        · have c5 : V20_22 S = 0 := (V20_ok22 h1.1 hl).mpr r4
          have n4 : ¬ Int32.ofNat ((zmS M 0 (Int32.ofInt 0)).2.2.1 1).length = Int32.ofInt 24 := fun z => by
            have : (M.2.2.1 1).length = 24 := (zof24 hl).mp z
            omega
          obtain ⟨a, p, ha, hp, g1, g2, g3⟩ := zcell hn r1
          obtain ⟨q, rfl, hq⟩ := znat r2.1
          obtain ⟨f1, f2, f3, f4⟩ := F21_ok22 (a := V91 x1 S) (b := Int32.ofInt 1 <<< (Int32.ofNat q &&& 31)) (c := x3) c5
          have hF : F58 x1 (Int32.ofNat q) x3 S = F21_22 (V91 x1 S) (Int32.ofInt 1 <<< (Int32.ofNat q &&& 31)) x3 S := by
            unfold F58
            rw [if_pos c, if_neg c2, if_neg c3, if_neg c4, if_pos c5]
          have hR : R58 x1 (Int32.ofNat q) x3 S = .inl (some (.int (S.1 10 + Int32.ofInt 1))) := by
            unfold R58
            rw [if_pos c, if_neg c2, if_neg c3, if_neg c4, if_pos c5, f1]
          have hr9 : r144 x1 (Int32.ofNat q) x3 M = zmLs (zmS M 0 (Int32.ofInt 0)) 1 ((zmS M 0 (Int32.ofInt 0)).2.2.1 1 ++ [[v124 x1 (zmS M 0 (Int32.ofInt 0)), zrmd x1 (Int32.ofInt 8), Int32.ofNat q, x3]]) := (if_neg n1).trans ((if_neg n2).trans ((if_neg n3).trans (if_neg n4)))
          have hv : v144 x1 (Int32.ofNat q) x3 M = Int32.ofNat ((zmLs (zmS M 0 (Int32.ofInt 0)) 1 ((zmS M 0 (Int32.ofInt 0)).2.2.1 1 ++ [[v124 x1 (zmS M 0 (Int32.ofInt 0)), zrmd x1 (Int32.ofInt 8), Int32.ofNat q, x3]])).2.2.1 1).length := (if_neg n1).trans ((if_neg n2).trans ((if_neg n3).trans (if_neg n4)))
          have fr := fr_F21_22 (x1 := V91 x1 S) (x2 := Int32.ofInt 1 <<< (Int32.ofNat q &&& 31)) (x3 := x3) (S := S)
          have el : (zmLs (zmS M 0 (Int32.ofInt 0)) 1 ((zmS M 0 (Int32.ofInt 0)).2.2.1 1 ++ [[v124 x1 (zmS M 0 (Int32.ofInt 0)), zrmd x1 (Int32.ofInt 8), Int32.ofNat q, x3]])).2.2.1 1 = M.2.2.1 1 ++ [[Int32.ofNat a, Int32.ofNat p, Int32.ofNat q, x3]] := by
            rw [← g1, ← g2]
            rfl
          have ps := zFq_push (d := x3) h1 r4 ha hp (show q < 16 by omega)
          refine ⟨?_, Or.inl ⟨_, hR, ?_, ?_⟩⟩
          · rw [hF, hr9]
            refine ⟨⟨k, r, kr, k1, k2, (fr.1 2 (by decide)).trans k3⟩, ?_, ?_⟩
            · rw [fr.1 9 (by decide), fr.2.1 6 (by decide), fr.2.1 7 (by decide), fr.2.1 8 (by decide)]
              exact h0
            · rw [f1, f2, f3, f4, el, g3]
              exact ps
          · rw [hv, el]
            exact ps.1.symm
          · rw [hr9]
            rfl
        · have c5 : ¬ V20_22 S = 0 := fun z => r4 ((V20_ok22 h1.1 hl).mp z)
          have n4 : Int32.ofNat ((zmS M 0 (Int32.ofInt 0)).2.2.1 1).length = Int32.ofInt 24 := (zof24 hl).mpr (by omega)
          have hR : R58 x1 x2 x3 S = .inr 2 := by
            unfold R58
            rw [if_pos c, if_neg c2, if_neg c3, if_neg c4, if_neg c5]
          have hF : F58 x1 x2 x3 S = S := by
            unfold F58
            rw [if_pos c, if_neg c2, if_neg c3, if_neg c4, if_neg c5]
          have hr9 : r144 x1 x2 x3 M = r111 (Int32.ofInt 3) (zmS M 0 (Int32.ofInt 0)) := (if_neg n1).trans ((if_neg n2).trans ((if_neg n3).trans (if_pos n4)))
          rw [hF, hr9]
          exact ⟨X _, Or.inr ⟨2, hR, show Int32.ofInt 3 = kc_194 2 by decide⟩⟩
      · have hR : R58 x1 x2 x3 S = .inr 0 ∧ F58 x1 x2 x3 S = S := by
          unfold R58 F58
          rw [if_pos c, if_pos c, if_neg c2, if_neg c2]
          by_cases z : x3.toInt < (Int32.ofInt 1).toInt
          · rw [if_pos z, if_pos z]
            exact ⟨rfl, rfl⟩
          · rw [if_neg z, if_neg z, if_pos (by omega), if_pos (by omega)]
            exact ⟨rfl, rfl⟩
        have hr9 : r144 x1 x2 x3 M = r111 (Int32.ofInt 2) (zmS M 0 (Int32.ofInt 0)) := (if_neg n1).trans ((if_neg n2).trans (if_pos (v112_1.mpr (by rw [e1, e60]; exact r3))))
        rw [hR.2, hr9]
        exact ⟨X _, Or.inr ⟨0, hR.1, show Int32.ofInt 2 = kc_194 0 by decide⟩⟩
    · have c2 : V7 x2 S = 0 := (zV7 k3 (by omega)).mpr r2
      have hR : R58 x1 x2 x3 S = .inr 0 ∧ F58 x1 x2 x3 S = S := by
        unfold R58 F58
        rw [if_pos c, if_pos c, if_pos c2, if_pos c2]
        exact ⟨rfl, rfl⟩
      have hr9 : r144 x1 x2 x3 M = r111 (Int32.ofInt 2) (zmS M 0 (Int32.ofInt 0)) := (if_neg n1).trans (if_pos (v112_1.mpr (by rw [e0, ew]; omega)))
      rw [hR.2, hr9]
      exact ⟨X _, Or.inr ⟨0, hR.1, show Int32.ofInt 2 = kc_194 0 by decide⟩⟩
  · have nc : ¬ C82 x1 S = true := fun z => r1 (C82_ok.mp z)
    have hR : R58 x1 x2 x3 S = .inr 1 ∧ F58 x1 x2 x3 S = S := by
      unfold R58 F58
      rw [if_neg nc, if_neg nc]
      exact ⟨rfl, rfl⟩
    have hr9 : r144 x1 x2 x3 M = r111 (Int32.ofInt 1) (zmS M 0 (Int32.ofInt 0)) := if_pos (v112_1.mpr (by rw [e0, e127]; exact r1))
    rw [hR.2, hr9]
    exact ⟨X _, Or.inr ⟨1, hR.1, show Int32.ofInt 1 = kc_194 1 by decide⟩⟩
end ZL3G
/-! stick, of both. -/
section ZL3H
variable {S : zSt} {M : zRt} {x1 x2 x3 : Int32}
theorem zP57 {d : Int32} (hc : zCtw S M) (hn : zLn S M) (r1 : 0 ≤ x1.toInt ∧ x1.toInt ≤ 127) (r4 : (M.2.2.1 0).length < 24) (c5 : V20_15 S = 0) (r2 : 0 ≤ x2.toInt ∧ x2.toInt < 16) : (∀ u v w : Int32, zCtw (F41 u v (F21_15 (V91 x1 S) (Int32.ofInt 1 <<< (x2 &&& 31)) d S)) (r127 x1 w (zmLs (zmS M 0 (Int32.ofInt 0)) 0 ((zmS M 0 (Int32.ofInt 0)).2.2.1 0 ++ [[v124 x1 (zmS M 0 (Int32.ofInt 0)), zrmd x1 (Int32.ofInt 8), x2, d]])))) ∧ (∀ u v w : Int32, (F41 u v (F21_15 (V91 x1 S) (Int32.ofInt 1 <<< (x2 &&& 31)) d S)).1 9 = Int32.ofNat ((r127 x1 w (zmLs (zmS M 0 (Int32.ofInt 0)) 0 ((zmS M 0 (Int32.ofInt 0)).2.2.1 0 ++ [[v124 x1 (zmS M 0 (Int32.ofInt 0)), zrmd x1 (Int32.ofInt 8), x2, d]]))).2.2.1 0).length) ∧ ∀ w : Int32, (r127 x1 w (zmLs (zmS M 0 (Int32.ofInt 0)) 0 ((zmS M 0 (Int32.ofInt 0)).2.2.1 0 ++ [[v124 x1 (zmS M 0 (Int32.ofInt 0)), zrmd x1 (Int32.ofInt 8), x2, d]]))).1 0 = 0 := by
  obtain ⟨⟨k, r, kr, k1, k2, k3⟩, h0, h1⟩ := hc
  obtain ⟨a, p, ha, hp, g1, g2, g3⟩ := zcell hn r1
  obtain ⟨q, rfl, hq⟩ := znat r2.1
  obtain ⟨f1, f2, f3, f4⟩ := F21_ok15 (a := V91 x1 S) (b := Int32.ofInt 1 <<< (Int32.ofNat q &&& 31)) (c := d) c5
  have fr := fr_F21_15 (x1 := V91 x1 S) (x2 := Int32.ofInt 1 <<< (Int32.ofNat q &&& 31)) (x3 := d) (S := S)
  have el : (zmLs (zmS M 0 (Int32.ofInt 0)) 0 ((zmS M 0 (Int32.ofInt 0)).2.2.1 0 ++ [[v124 x1 (zmS M 0 (Int32.ofInt 0)), zrmd x1 (Int32.ofInt 8), Int32.ofNat q, d]])).2.2.1 0 = M.2.2.1 0 ++ [[Int32.ofNat a, Int32.ofNat p, Int32.ofNat q, d]] := by
    rw [← g1, ← g2]
    rfl
  have ps := zFq_push (d := d) h0 r4 ha hp (show q < 16 by omega)
  obtain ⟨Z, hZ⟩ : ∃ Z, Z = zmLs (zmS M 0 (Int32.ofInt 0)) 0 ((zmS M 0 (Int32.ofInt 0)).2.2.1 0 ++ [[v124 x1 (zmS M 0 (Int32.ofInt 0)), zrmd x1 (Int32.ofInt 8), Int32.ofNat q, d]]) := ⟨_, rfl⟩
  have z1 : Z.1 = (zmS M 0 (Int32.ofInt 0)).1 := by rw [hZ]
  have z2 : Z.2.2.1 1 = M.2.2.1 1 := by
    rw [hZ]
    rfl
  rw [← hZ] at el ⊢
  have B : zCtw (F21_15 (V91 x1 S) (Int32.ofInt 1 <<< (Int32.ofNat q &&& 31)) d S) Z := by
    refine ⟨⟨k, r, kr, ?_, ?_, (fr.1 2 (by decide)).trans k3⟩, ?_, ?_⟩
    · rw [z1]
      exact k1
    · rw [z1]
      exact k2
    · rw [f1, f2, f3, f4, el, g3]
      exact ps
    · rw [fr.1 10 (by decide), fr.2.1 9 (by decide), fr.2.1 10 (by decide), fr.2.1 11 (by decide), z2]
      exact h1
  refine ⟨fun u v w => zCtw_fr fr_F41 gr_127 (by decide) B, fun u v w => ?_, fun w => ?_⟩
  · rw [fr_F41.1 9 (by decide), rl_127, f1, el]
    exact ps.1
  · rw [gr_127.1 0 (by decide), z1]
    rfl
theorem zM_57 (hc : zCtw S M) (hn : zLn S M) : zCtw (F57 x1 x2 x3 S) (r143 x1 x2 x3 M) ∧ ((∃ v, R57 x1 x2 x3 S = .inl (some (.int v)) ∧ v143 x1 x2 x3 M = v ∧ (r143 x1 x2 x3 M).1 0 = 0) ∨ (∃ E, R57 x1 x2 x3 S = .inr E ∧ (r143 x1 x2 x3 M).1 0 = kc_193 E)) := by
  have hcc := hc
  obtain ⟨⟨k, r, kr, k1, k2, k3⟩, h0, h1⟩ := hc
  have b := zcds_kr _ kr
  have hk := b.2.1
  have hr := b.2.2.2.1
  have hw := zcds_w _ kr
  simp only at hk hr hw
  have e0 : (Int32.ofInt 0).toInt = 0 := by decide
  have e1 : (Int32.ofInt 1).toInt = 1 := by decide
  have e60 : (Int32.ofInt 60).toInt = 60 := by decide
  have e127 : (Int32.ofInt 127).toInt = 127 := by decide
  have ew : ((zmS M 0 (Int32.ofInt 0)).1 1 + (zmS M 0 (Int32.ofInt 0)).1 2 - Int32.ofInt 1).toInt = ((k + r : Nat) : Int) - 1 := by
    show (M.1 1 + M.1 2 - Int32.ofInt 1).toInt = _
    rw [k1, k2]
    exact hw
  have X : ∀ t : Int32, zCtw S (zmS (zmS M 0 (Int32.ofInt 0)) 0 t) := fun t => hcc
  by_cases r1 : 0 ≤ x1.toInt ∧ x1.toInt ≤ 127
  · have c := C82_ok (S := S).mpr r1
    have n1 : ¬ v138 x1 (zmS M 0 (Int32.ofInt 0)) = 0 := fun z => v112_1.mp z (by rw [e0, e127]; exact r1)
    by_cases r2 : 0 ≤ x2.toInt ∧ x2.toInt < (k + r : Nat)
    · have c2 : ¬ V7 x2 S = 0 := fun z => (zV7 k3 (by omega)).mp z r2
      have n2 : ¬ v112 x2 (Int32.ofInt 0) ((zmS M 0 (Int32.ofInt 0)).1 1 + (zmS M 0 (Int32.ofInt 0)).1 2 - Int32.ofInt 1) (zmS M 0 (Int32.ofInt 0)) = 0 := fun z => v112_1.mp z (by rw [e0, ew]; omega)
      have hl := h0.2.1
      by_cases r4 : (M.2.2.1 0).length < 24
      · have c5 : V20_15 S = 0 := (V20_ok15 h0.1 hl).mpr r4
        have n4 : ¬ Int32.ofNat ((zmS M 0 (Int32.ofInt 0)).2.2.1 0).length = Int32.ofInt 24 := fun z => by
          have : (M.2.2.1 0).length = 24 := (zof24 hl).mp z
          omega
        by_cases d0 : x3 = 0
        · obtain ⟨g1, g2, g3⟩ := zP57 (d := Int32.ofInt 0) hcc hn r1 r4 c5 ⟨r2.1, by omega⟩ (x2 := x2)
          have hF : F57 x1 x2 x3 S = F41 (V91 x1 (F21_15 (V91 x1 S) ((Int32.ofInt 1) <<< (x2 &&& 31)) (Int32.ofInt 0) S)) (V92 x1 (F21_15 (V91 x1 S) ((Int32.ofInt 1) <<< (x2 &&& 31)) (Int32.ofInt 0) S)) (F21_15 (V91 x1 S) ((Int32.ofInt 1) <<< (x2 &&& 31)) (Int32.ofInt 0) S) := (if_pos c).trans ((if_neg c2).trans ((if_pos c5).trans (if_pos d0)))
          have hR : R57 x1 x2 x3 S = .inl (some (.int ((F57 x1 x2 x3 S).1 9))) := by
            rw [hF]
            exact (if_pos c).trans ((if_neg c2).trans ((if_pos c5).trans (if_pos d0)))
          have hr9 := (show r143 x1 x2 x3 M = _ from (if_neg n1).trans ((if_neg n2).trans ((if_neg n4).trans (if_pos d0))))
          have hv : v143 x1 x2 x3 M = Int32.ofNat ((r143 x1 x2 x3 M).2.2.1 0).length := by
            rw [hr9]
            exact (if_neg n1).trans ((if_neg n2).trans ((if_neg n4).trans (if_pos d0)))
          refine ⟨?_, Or.inl ⟨_, hR, ?_, ?_⟩⟩
          · rw [hF, hr9]
            exact g1 _ _ _
          · rw [hv, hF, hr9]
            exact (g2 _ _ _).symm
          · rw [hr9]
            exact g3 _
        · obtain ⟨g1, g2, g3⟩ := zP57 (d := Int32.ofInt 1) hcc hn r1 r4 c5 ⟨r2.1, by omega⟩ (x2 := x2)
          have hF : F57 x1 x2 x3 S = F41 (V91 x1 (F21_15 (V91 x1 S) ((Int32.ofInt 1) <<< (x2 &&& 31)) (Int32.ofInt 1) S)) (V92 x1 (F21_15 (V91 x1 S) ((Int32.ofInt 1) <<< (x2 &&& 31)) (Int32.ofInt 1) S)) (F21_15 (V91 x1 S) ((Int32.ofInt 1) <<< (x2 &&& 31)) (Int32.ofInt 1) S) := (if_pos c).trans ((if_neg c2).trans ((if_pos c5).trans (if_neg d0)))
          have hR : R57 x1 x2 x3 S = .inl (some (.int ((F57 x1 x2 x3 S).1 9))) := by
            rw [hF]
            exact (if_pos c).trans ((if_neg c2).trans ((if_pos c5).trans (if_neg d0)))
          have hr9 := (show r143 x1 x2 x3 M = _ from (if_neg n1).trans ((if_neg n2).trans ((if_neg n4).trans (if_neg d0))))
          have hv : v143 x1 x2 x3 M = Int32.ofNat ((r143 x1 x2 x3 M).2.2.1 0).length := by
            rw [hr9]
            exact (if_neg n1).trans ((if_neg n2).trans ((if_neg n4).trans (if_neg d0)))
          refine ⟨?_, Or.inl ⟨_, hR, ?_, ?_⟩⟩
          · rw [hF, hr9]
            exact g1 _ _ _
          · rw [hv, hF, hr9]
            exact (g2 _ _ _).symm
          · rw [hr9]
            exact g3 _
      · have c5 : ¬ V20_15 S = 0 := fun z => r4 ((V20_ok15 h0.1 hl).mp z)
        have n4 : Int32.ofNat ((zmS M 0 (Int32.ofInt 0)).2.2.1 0).length = Int32.ofInt 24 := (zof24 hl).mpr (by omega)
        have hR : R57 x1 x2 x3 S = .inr 2 := by
          unfold R57
          rw [if_pos c, if_neg c2, if_neg c5]
        have hF : F57 x1 x2 x3 S = S := by
          unfold F57
          rw [if_pos c, if_neg c2, if_neg c5]
        have hr9 : r143 x1 x2 x3 M = r111 (Int32.ofInt 3) (zmS M 0 (Int32.ofInt 0)) := (if_neg n1).trans ((if_neg n2).trans (if_pos n4))
        rw [hF, hr9]
        exact ⟨X _, Or.inr ⟨2, hR, show Int32.ofInt 3 = kc_193 2 by decide⟩⟩
    · have c2 : V7 x2 S = 0 := (zV7 k3 (by omega)).mpr r2
      have hR : R57 x1 x2 x3 S = .inr 0 ∧ F57 x1 x2 x3 S = S := by
        unfold R57 F57
        rw [if_pos c, if_pos c, if_pos c2, if_pos c2]
        exact ⟨rfl, rfl⟩
      have hr9 : r143 x1 x2 x3 M = r111 (Int32.ofInt 2) (zmS M 0 (Int32.ofInt 0)) := (if_neg n1).trans (if_pos (v112_1.mpr (by rw [e0, ew]; omega)))
      rw [hR.2, hr9]
      exact ⟨X _, Or.inr ⟨0, hR.1, show Int32.ofInt 2 = kc_193 0 by decide⟩⟩
  · have nc : ¬ C82 x1 S = true := fun z => r1 (C82_ok.mp z)
    have hR : R57 x1 x2 x3 S = .inr 1 ∧ F57 x1 x2 x3 S = S := by
      unfold R57 F57
      rw [if_neg nc, if_neg nc]
      exact ⟨rfl, rfl⟩
    have hr9 : r143 x1 x2 x3 M = r111 (Int32.ofInt 1) (zmS M 0 (Int32.ofInt 0)) := if_pos (v112_1.mpr (by rw [e0, e127]; exact r1))
    rw [hR.2, hr9]
    exact ⟨X _, Or.inr ⟨1, hR.1, show Int32.ofInt 1 = kc_193 1 by decide⟩⟩
end ZL3H
/-! The rows' lines under spare. -/
section ZL3I
variable {S : zSt} {M : zRt} {x1 x2 : Int32}
theorem zup_28 {f : Nat → List Int32} {l l' : List Int32} : zup (zup f 23 l) 22 l' 22 = l' := by
  unfold zup
  rw [if_pos rfl]
theorem r147_22 (n1 : ¬ v112 x1 (Int32.ofInt 0) (Int32.ofInt 1) (zmS M 0 (Int32.ofInt 0)) = 0) (n2 : ¬ v112 x2 (Int32.ofInt 0) (Int32.ofInt 7) (zmS M 0 (Int32.ofInt 0)) = 0) (t : ¬ zgt (M.2.1 23) x1 = Int32.ofInt 2) : (r147 x1 x2 M).2.1 22 = zst (M.2.1 22) (x1 * Int32.ofInt 8 + x2) (x1 * Int32.ofInt 10 + Int32.ofInt 8 + zgt (M.2.1 23) x1) := by
  obtain ⟨b, e1⟩ : ∃ b : Int32, r147 x1 x2 M = x147 x1 x2 (x1 * Int32.ofInt 8 + x2) b (x1 * Int32.ofInt 10 + Int32.ofInt 8 + zgt ((zmS M 0 (Int32.ofInt 0)).2.1 23) x1) M (w147 x1 x2 (x1 * Int32.ofInt 8 + x2) b (x1 * Int32.ofInt 10 + Int32.ofInt 8 + zgt ((zmS M 0 (Int32.ofInt 0)).2.1 23) x1) M (zmW (zmW (zmS M 0 (Int32.ofInt 0)) 23 x1 ((zgt ((zmS M 0 (Int32.ofInt 0)).2.1 23) x1) + (Int32.ofInt 1))) 22 (x1 * Int32.ofInt 8 + x2) (x1 * Int32.ofInt 10 + Int32.ofInt 8 + zgt ((zmS M 0 (Int32.ofInt 0)).2.1 23) x1)) (Int32.ofInt 8).toInt.toNat) := ⟨_, (if_neg n1).trans ((if_neg n2).trans (if_neg t))⟩
  rw [e1, gr_x147.2.1 22 (by decide), (gr_w147 _).2.1 22 (by decide)]
  exact zup_28 (f := M.2.1) (l := zst (M.2.1 23) x1 (zgt (M.2.1 23) x1 + Int32.ofInt 1)) (l' := zst (M.2.1 22) (x1 * Int32.ofInt 8 + x2) (x1 * Int32.ofInt 10 + Int32.ofInt 8 + zgt (M.2.1 23) x1))
theorem zup_n9 {f : Nat → List Int32} {l : List Int32} : zup f 16 l 15 = f 15 := by
  unfold zup
  rw [if_neg (by decide)]
theorem zsR_15 {G : zSt} {k v : Int32} : (zsR G 16 k v).2 15 = G.2 15 := zup_n9 (f := G.2) (l := zst (G.2 16) k v)
theorem X106_15 {a b c d e : Int32} {u : zSt} : (X106 a b c d e S u).2 15 = zst (u.2 15) ((a * (Int32.ofInt 8)) + b) c := by
  unfold X106
  exact (show zup u.2 15 (zst (u.2 15) ((a * (Int32.ofInt 8)) + b) c) 15 = _ from if_pos rfl)
theorem F106_15 {x3 v : Int32} {k : Int32} : (zsR (F106 x1 x2 x3 S) 16 k v).2 15 = zst (S.2 15) (x1 * Int32.ofInt 8 + x2) x3 := by
  rw [zsR_15]
  unfold F106
  rw [X106_15, (fr_W106 _).2.1 15 (by decide)]
theorem zLn_61 (h : zAl S M) (hn : zLn S M) : zLn (F61 x1 x2 S) (r147 x1 x2 M) := by
  obtain ⟨-, ⟨c1, c2, c3⟩, -⟩ := h
  have e0 : (Int32.ofInt 0).toInt = 0 := by decide
  have e1 : (Int32.ofInt 1).toInt = 1 := by decide
  have e2 : (Int32.ofInt 2).toInt = 2 := by decide
  have e7 : (Int32.ofInt 7).toInt = 7 := by decide
  by_cases r1 : (0 ≤ x1.toInt ∧ x1.toInt ≤ 1) ∧ (0 ≤ x2.toInt ∧ x2.toInt ≤ 7)
  · have c := C84_ok (S := S).mpr r1
    have n1 : ¬ v112 x1 (Int32.ofInt 0) (Int32.ofInt 1) (zmS M 0 (Int32.ofInt 0)) = 0 := fun z => v112_1.mp z (by rw [e0, e1]; exact r1.1)
    have n2 : ¬ v112 x2 (Int32.ofInt 0) (Int32.ofInt 7) (zmS M 0 (Int32.ofInt 0)) = 0 := fun z => v112_1.mp z (by rw [e0, e7]; exact r1.2)
    have hm := c3 _ (zgt_mem9 (l := S.2 16) r1.1.1 (by rw [c2]; omega))
    by_cases t : zgt (S.2 16) x1 = Int32.ofInt 2
    · have nt : ¬ (zgt (S.2 16) x1).toInt < (Int32.ofInt 2).toInt := by
        rw [t]
        omega
      have hF : F61 x1 x2 S = S := (if_pos c).trans (if_neg nt)
      have hr : r147 x1 x2 M = r111 (Int32.ofInt 2) (zmS M 0 (Int32.ofInt 0)) := (if_neg n1).trans ((if_neg n2).trans (if_pos (by
        show zgt (M.2.1 23) x1 = _
        rw [← c1]
        exact t)))
      rw [hF, hr]
      exact hn
    · have lt : (zgt (S.2 16) x1).toInt < (Int32.ofInt 2).toInt := by
        rw [e2]
        have : (zgt (S.2 16) x1).toInt ≠ 2 := fun z => t (Int32.toInt_inj.mp (z.trans e2.symm))
        omega
      have q22 := r147_22 (M := M) n1 n2 (by rw [← c1]; exact t)
      rw [← c1] at q22
      have q15 : (F61 x1 x2 S).2 15 = zst (S.2 15) (x1 * Int32.ofInt 8 + x2) (Int32.ofInt 8 + zgt (S.2 16) x1) := by
        have hF : F61 x1 x2 S = zsR (F106 x1 x2 (Int32.ofInt 8 + zgt (S.2 16) x1) S) 16 x1 (zgt (S.2 16) x1 + Int32.ofInt 1) := (if_pos c).trans (if_pos lt)
        rw [hF]
        exact F106_15
      obtain ⟨n, rfl, hn1⟩ := znat r1.1.1
      obtain ⟨p, rfl, hp⟩ := znat r1.2.1
      obtain ⟨u, hu, hu1⟩ := znat hm.1
      rw [e2] at lt
      rw [hu] at q22 q15
      have ej : Int32.ofNat n * Int32.ofInt 8 + Int32.ofNat p = Int32.ofNat (n * 8 + p) := by
        rw [show Int32.ofInt 8 = Int32.ofNat 8 from rfl, ← Int32.ofNat_mul, ← Int32.ofNat_add]
      have ea : Int32.ofInt 8 + Int32.ofNat u = Int32.ofNat (8 + u) := by
        rw [show Int32.ofInt 8 = Int32.ofNat 8 from rfl, ← Int32.ofNat_add]
      have eb : Int32.ofNat n * Int32.ofInt 10 + Int32.ofInt 8 + Int32.ofNat u = Int32.ofNat (n * 10 + 8 + u) := by
        rw [show Int32.ofInt 8 = Int32.ofNat 8 from rfl, show Int32.ofInt 10 = Int32.ofNat 10 from rfl, ← Int32.ofNat_mul, ← Int32.ofNat_add, ← Int32.ofNat_add]
      rw [ej, ea] at q15
      rw [ej, eb] at q22
      refine ⟨by rw [q15, zst_ln9]; exact hn.1, by rw [q22, zst_ln9]; exact hn.2.1, fun j hj => ?_⟩
      rw [q15, q22]
      by_cases je : j = n * 8 + p
      · subst je
        refine ⟨8 + u, by omega, zgt_eq9 (by rw [hn.1]; omega) (by omega), ?_⟩
        rw [zgt_eq9 (by rw [hn.2.1]; omega) (by omega)]
        congr 1
        omega
      · rw [zgt_ne9 (by omega) (by omega) je, zgt_ne9 (by omega) (by omega) je]
        exact hn.2.2 j hj
  · have nc : ¬ C84 x1 x2 S = true := fun z => r1 (C84_ok.mp z)
    have hF : F61 x1 x2 S = S := if_neg nc
    have hr : r147 x1 x2 M = r111 (Int32.ofInt 1) (zmS M 0 (Int32.ofInt 0)) := by
      by_cases a : 0 ≤ x1.toInt ∧ x1.toInt ≤ 1
      · exact (if_neg (fun z => v112_1.mp z (by rw [e0, e1]; exact a))).trans (if_pos (v112_1.mpr (by rw [e0, e7]; exact fun b => r1 ⟨a, b⟩)))
      · exact if_pos (v112_1.mpr (by rw [e0, e1]; exact a))
    rw [hF, hr]
    exact hn
end ZL3I
