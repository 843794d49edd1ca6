/-! spare, of both. -/
section ZL3R
variable {S S' A u : zSt} {M M' B U : zRt} {v w x x1 x2 x3 : Int32} {n t l p : Nat}
theorem w126_24 {a b c u0 j y : Int32} : ∀ k, w126 a b c (zmW M 24 j y) u0 k = w126 a b c M u0 k
  | 0 => rfl
  | k + 1 => by
    show d126 a b c (zmW M 24 j y) k (w126 a b c (zmW M 24 j y) u0 k) = d126 a b c M k (w126 a b c M u0 k)
    rw [w126_24 k]
    rfl
theorem r126_24 {c j y : Int32} {b : Int32} (hl : l < 20) : r126 (Int32.ofNat l) b c (zmW M 24 j y) = zmW (r126 (Int32.ofNat l) b c M) 24 j y := by
  unfold r126 x126 zmR
  rw [w126_24, zcl_of (by omega), if_pos hl, if_pos hl]
  refine Prod.ext rfl (Prod.ext (funext fun q => ?_) rfl)
  show (if q = l then zst (if l = 24 then zst (M.2.1 24) j y else M.2.1 l) b _ else if q = 24 then zst (M.2.1 24) j y else M.2.1 q) = (if q = 24 then zst (if 24 = l then zst (M.2.1 l) b _ else M.2.1 24) j y else if q = l then zst (M.2.1 l) b _ else M.2.1 q)
  rw [if_neg (by omega : ¬ l = 24), if_neg (by omega : ¬ 24 = l)]
  by_cases q1 : q = l
  · rw [if_pos q1, if_neg (by omega), if_pos q1]
  · rw [if_neg q1]
    by_cases q2 : q = 24
    · rw [if_pos q2, if_pos q2]
    · rw [if_neg q2, if_neg q2, if_neg q1]
theorem zX_p0r (h : zX9 S M) (hn : n < 1000) (hv : zgt (M.2.1 24) (Int32.ofNat n) = v) : zX9 S (zmW M 24 (Int32.ofNat n) v) := by
  obtain ⟨ht, h2, h3, h4, h5, h6, h7⟩ := h
  have f : zfrm [] [] S S := fm_rf
  have g : zfrM [] [24] [] (zmW M 24 (Int32.ofNat n) v) M := gm_W
  refine ⟨zTk_fr f g (by decide) ht, zWd_fr f g (by decide) h2, ?_, zSc_fr f g (by decide) h4, zDr_fr f g (by decide) h5, zCo_fr f g (by decide) h6, zLg_fr f g (by decide) h7⟩
  have q24 : (zmW M 24 (Int32.ofNat n) v).2.1 24 = M.2.1 24 := by
    show (if (24 : Nat) = 24 then zst (M.2.1 24) (Int32.ofNat n) v else M.2.1 24) = _
    rw [if_pos rfl, ← hv]
    exact zst_sf hn
  unfold zCn
  rw [g.2.1 20 (by decide), g.2.1 21 (by decide), q24]
  exact h3
theorem zor0 {x : Int32} : x ||| Int32.ofInt 0 = x := Int32.or_zero
theorem zxo0 {x : Int32} : x ^^^ Int32.ofInt 0 = x := Int32.xor_zero
/-- the loop over the places -/
theorem zX_106l {a b q L : Nat} {l3 l4 l5 m4 m5 : Int32} {M9 U0 : zRt} {S9 : zSt} (ha : a < 2) (hb : b < 8) (hq : q < 10) (hL : L < 20) (g1 : zgt (S.2 15) (Int32.ofNat (a * 8 + b)) = Int32.ofNat q) (e4 : l4 = Int32.ofNat (a * 64 + b * 8)) (e5 : l5 = Int32.ofNat (L * 8)) (k3 : l3 = Int32.ofNat (a * 8 + b)) (k4 : m4 = Int32.ofNat (a * 10 + q)) (k5 : m5 = Int32.ofNat L) (hs : zFq (S.1 9) (S.2 6) (S.2 7) (S.2 8) (U0.2.2.1 0)) (h : zX9 S U0) : ∀ k, k ≤ 8 → zX9 (W106 x1 x2 x3 l4 l5 S9 S k) (w147 x1 x2 l3 m4 m5 M9 U0 k)
  | 0, _ => h
  | k + 1, hk => by
    have hX : zX9 (W106 x1 x2 x3 l4 l5 S9 S k) (w147 x1 x2 l3 m4 m5 M9 U0 k) := zX_106l ha hb hq hL g1 e4 e5 k3 k4 k5 hs h k (by omega)
    show zX9 (D106 x1 x2 x3 l4 l5 S9 k (W106 x1 x2 x3 l4 l5 S9 S k)) (d147 x1 x2 l3 m4 m5 M9 k (w147 x1 x2 l3 m4 m5 M9 U0 k))
    have fu := fr_W106 (x1 := x1) (x2 := x2) (x3 := x3) (l4 := l4) (l5 := l5) (S := S9) (u0 := S) k
    have gu := gr_w147 (x1 := x1) (x2 := x2) (l3 := l3) (l4 := m4) (l5 := m5) (M := M9) (u0 := U0) k
    obtain ⟨u, hu⟩ : ∃ u, u = W106 x1 x2 x3 l4 l5 S9 S k := ⟨_, rfl⟩
    obtain ⟨U, hU⟩ : ∃ U, U = w147 x1 x2 l3 m4 m5 M9 U0 k := ⟨_, rfl⟩
    rw [← hu, ← hU] at hX ⊢
    rw [← hu] at fu
    rw [← hU] at gu
    have hst : zFq (u.1 9) (u.2 6) (u.2 7) (u.2 8) (U.2.2.1 0) := by
      rw [fu.1 9 (by decide), fu.2.1 6 (by decide), fu.2.1 7 (by decide), fu.2.1 8 (by decide), gu.2.2.2.1 0 (by decide)]
      exact hs
    have hn : a * 64 + b * 8 + k < 128 := by omega
    have en : l4 + Int32.ofNat k = Int32.ofNat (a * 64 + b * 8 + k) := by
      rw [e4, ← Int32.ofNat_add]
    have en2 : l3 * Int32.ofInt 8 + Int32.ofNat k = Int32.ofNat (a * 64 + b * 8 + k) := by
      rw [k3, show Int32.ofInt 8 = Int32.ofNat 8 from rfl, ← Int32.ofNat_mul, ← Int32.ofNat_add]
      congr 1
      omega
    have ec : l5 + Int32.ofNat k = Int32.ofNat (L * 8 + k) := by
      rw [e5, ← Int32.ofNat_add]
    obtain ⟨q1, q2, q3⟩ := zqr hn
    have e91 : V91 (Int32.ofNat (a * 64 + b * 8 + k)) u = Int32.ofNat ((a * 10 + q) * 8 + k) := by
      unfold V91 V90
      rw [q1, q2, q3, fu.2.1 15 (by decide), show (a * 64 + b * 8 + k) / 8 = a * 8 + b by omega, g1, show Int32.ofInt 10 = Int32.ofNat 10 from rfl, show Int32.ofInt 8 = Int32.ofNat 8 from rfl, ← Int32.ofNat_mul, ← Int32.ofNat_add, ← Int32.ofNat_mul, ← Int32.ofNat_add]
      congr 1
      omega
    have ew : V92 (Int32.ofNat (a * 64 + b * 8 + k)) u = zgt (U.2.1 (a * 10 + q)) (Int32.ofNat k) := by
      unfold V92
      rw [e91]
      exact hX.2.1.2.2 (a * 10 + q) k (by omega) (by omega)
    have hm := zC_me (w := zgt (U.2.1 (a * 10 + q)) (Int32.ofNat k)) hX.2.2.2.2.2.1
    have h24 : U.2.1 24 = u.2 17 := hX.2.2.1.2.2.1.symm
    have p01 : zgt (u.2 17) (Int32.ofNat (a * 64 + b * 8 + k)) = 0 ∨ zgt (u.2 17) (Int32.ofNat (a * 64 + b * 8 + k)) = 1 := by
      have z := hX.2.2.1.2.2.2
      exact z.2 _ (zgt_mem9 (by rw [zof_0 (by omega)]; omega) (by rw [zof_0 (by omega), z.1]; omega))
    unfold D106 d147
    rw [en, en2, ec, ew, k4, k5, zcl_of (by omega), rl_126]
    obtain ⟨w, hw⟩ : ∃ w, w = zgt (U.2.1 (a * 10 + q)) (Int32.ofNat k) := ⟨_, rfl⟩
    rw [← hw] at hm ⊢
    have r24 : ∀ c : Int32, (r126 (Int32.ofNat L) (Int32.ofNat k) c U).2.1 24 = u.2 17 := fun c => (gr_126.2.1 24 (by decide)).trans h24
    rw [r24]
    rcases zC_3 (w := w) hX.2.2.2.2.2.1 with ⟨a1, a2⟩ | ⟨j, hj, a1, a2, -⟩ | ⟨a1, a2, -⟩
    · have n2 : ¬ zkd U.2.2.2 w = Int32.ofInt 2 := by
        rw [a2]
        decide
      have n1 : ¬ zkd U.2.2.2 w = Int32.ofInt 1 := by
        rw [a2]
        decide
      have m1 : ¬ ztu u.1 u.2 w = Int32.ofInt (-1) := by
        rw [a1]
        decide
      rw [if_neg n1] at hm
      rw [if_neg m1, if_neg n2, a1, hm, zor0, show w ^^^ (0 : Int32) = w from Int32.xor_zero]
      refine zX_p0r (zX_put hst hX hL (by omega)) (by omega) ?_
      rw [r24]
    · have z := zsh16 j hj
      have n2 : ¬ zkd U.2.2.2 w = Int32.ofInt 2 := by
        rw [a2]
        decide
      have n1 : zkd U.2.2.2 w = Int32.ofInt 1 := by
        rw [a2]
        decide
      have m1 : ¬ ztu u.1 u.2 w = Int32.ofInt (-1) := by
        rw [a1]
        exact z.2.1
      rw [if_pos n1] at hm
      rw [if_neg m1, if_neg n2, hm, zor0]
      refine zX_p0r (zX_put hst hX hL (by omega)) (by omega) ?_
      rw [r24]
    · have n2 : zkd U.2.2.2 w = Int32.ofInt 2 := by
        rw [a2]
        decide
      have n1 : ¬ zkd U.2.2.2 w = Int32.ofInt 1 := by
        rw [a2]
        decide
      rw [if_neg n1] at hm
      have o1 : zgt (u.2 17) (Int32.ofNat (a * 64 + b * 8 + k)) ||| Int32.ofInt 1 = Int32.ofInt 1 := by
        rcases p01 with y | y <;> rw [y] <;> decide
      rw [if_pos a1, if_pos n2, hm, o1, zxo0, ← r126_24 hL]
      refine zX_put (S := zsR u 17 (Int32.ofNat (a * 64 + b * 8 + k)) (Int32.ofInt 1)) (M := zmW U 24 (Int32.ofNat (a * 64 + b * 8 + k)) (Int32.ofInt 1)) ?_ (zX_po hX (Or.inr (by decide))) hL (by omega)
      exact hst
theorem zX_61 (h : zE S M) : zX9 (F61 x1 x2 S) (r147 x1 x2 M) := by
  have h0 : zE S (zmS M 0 (Int32.ofInt 0)) := zE_0 h
  obtain ⟨c1, c2, c3⟩ := h.1.1.1
  have e0 : (Int32.ofInt 0).toInt = 0 := by decide
  have e1 : (Int32.ofInt 1).toInt = 1 := by decide
  have e2 : (Int32.ofInt 2).toInt = 2 := by decide
  have e7 : (Int32.ofInt 7).toInt = 7 := by decide
  by_cases r1 : (0 ≤ x1.toInt ∧ x1.toInt ≤ 1) ∧ (0 ≤ x2.toInt ∧ x2.toInt ≤ 7)
  · have c := C84_ok (S := S).mpr r1
    have n1 : ¬ v112 x1 (Int32.ofInt 0) (Int32.ofInt 1) (zmS M 0 (Int32.ofInt 0)) = 0 := fun z => v112_1.mp z (by rw [e0, e1]; exact r1.1)
    have n2 : ¬ v112 x2 (Int32.ofInt 0) (Int32.ofInt 7) (zmS M 0 (Int32.ofInt 0)) = 0 := fun z => v112_1.mp z (by rw [e0, e7]; exact r1.2)
    have hm := c3 _ (zgt_mem9 (l := S.2 16) r1.1.1 (by rw [c2]; omega))
    have e23 : (zmS M 0 (Int32.ofInt 0)).2.1 23 = S.2 16 := c1.symm
    by_cases t : zgt (S.2 16) x1 = Int32.ofInt 2
    · have nt : ¬ (zgt (S.2 16) x1).toInt < (Int32.ofInt 2).toInt := by
        rw [t]
        omega
      have hF : F61 x1 x2 S = S := (if_pos c).trans (if_neg nt)
      have hr : r147 x1 x2 M = r111 (Int32.ofInt 2) (zmS M 0 (Int32.ofInt 0)) := (if_neg n1).trans ((if_neg n2).trans (if_pos (by
        rw [e23]
        exact t)))
      rw [hF, hr]
      exact (zE_0 h0).2
    · have lt : (zgt (S.2 16) x1).toInt < (Int32.ofInt 2).toInt := by
        rw [e2]
        have : (zgt (S.2 16) x1).toInt ≠ 2 := fun z => t (Int32.toInt_inj.mp (z.trans e2.symm))
        omega
      have hF : F61 x1 x2 S = zsR (F106 x1 x2 (Int32.ofInt 8 + zgt (S.2 16) x1) S) 16 x1 (zgt (S.2 16) x1 + Int32.ofInt 1) := (if_pos c).trans (if_pos lt)
      have hr := (show r147 x1 x2 M = _ from (if_neg n1).trans ((if_neg n2).trans (if_neg (by
        rw [e23]
        exact t))))
      rw [hF, hr, e23]
      obtain ⟨a, rfl, ha⟩ := znat r1.1.1
      obtain ⟨b, rfl, hb⟩ := znat r1.2.1
      obtain ⟨y, hy, hy1⟩ := znat hm.1
      rw [e2] at lt
      rw [hy]
      obtain ⟨q, hq, g1, g2⟩ := h0.1.2.2.2.2 (a * 8 + b) (by omega)
      have e8 : Int32.ofNat a * Int32.ofInt 8 + Int32.ofNat b = Int32.ofNat (a * 8 + b) := by
        rw [show Int32.ofInt 8 = Int32.ofNat 8 from rfl, ← Int32.ofNat_mul, ← Int32.ofNat_add]
      have e88 : V88 (Int32.ofNat a) (Int32.ofNat b) S = Int32.ofNat (a * 64 + b * 8) := by
        unfold V88
        rw [show Int32.ofInt 64 = Int32.ofNat 64 from rfl, show Int32.ofInt 8 = Int32.ofNat 8 from rfl, ← Int32.ofNat_mul, ← Int32.ofNat_mul, ← Int32.ofNat_add]
      have e5 : (Int32.ofNat a * Int32.ofInt 10 + (Int32.ofInt 8 + Int32.ofNat y)) * Int32.ofInt 8 = Int32.ofNat ((a * 10 + 8 + y) * 8) := by
        rw [show Int32.ofInt 8 = Int32.ofNat 8 from rfl, show Int32.ofInt 10 = Int32.ofNat 10 from rfl, ← Int32.ofNat_mul, ← Int32.ofNat_add, ← Int32.ofNat_add, ← Int32.ofNat_mul]
        congr 1
        omega
      have m5 : Int32.ofNat a * Int32.ofInt 10 + Int32.ofInt 8 + Int32.ofNat y = Int32.ofNat (a * 10 + 8 + y) := by
        rw [show Int32.ofInt 8 = Int32.ofNat 8 from rfl, show Int32.ofInt 10 = Int32.ofNat 10 from rfl, ← Int32.ofNat_mul, ← Int32.ofNat_add, ← Int32.ofNat_add]
      have m4 : zgt ((zmS M 0 (Int32.ofInt 0)).2.1 22) (Int32.ofNat a * Int32.ofInt 8 + Int32.ofNat b) = Int32.ofNat (a * 10 + q) := by
        rw [e8, g2]
        congr 1
        omega
      rw [m4]
      obtain ⟨U0, hU0⟩ : ∃ U0, U0 = zmW (zmW (zmS M 0 (Int32.ofInt 0)) 23 (Int32.ofNat a) (Int32.ofNat y + Int32.ofInt 1)) 22 (Int32.ofNat a * Int32.ofInt 8 + Int32.ofNat b) (Int32.ofNat a * Int32.ofInt 10 + Int32.ofInt 8 + Int32.ofNat y) := ⟨_, rfl⟩
      rw [← hU0]
      have gU : zfrM [] [22, 23] [] U0 (zmS M 0 (Int32.ofInt 0)) := by
        rw [hU0]
        exact gm_c gm_W (gm_c gm_W gm_rf (by decide) (by decide) (by decide)) (by decide) (by decide) (by decide)
      have hX0 : zX9 S U0 := zX9_fr (W := []) (V := []) fm_rf gU (by decide) (by decide) h0.2
      have hs : zFq (S.1 9) (S.2 6) (S.2 7) (S.2 8) (U0.2.2.1 0) := by
        rw [gU.2.2.2.1 0 List.not_mem_nil]
        exact h0.1.2.1.2.1
      have hX := zX_106l (x1 := Int32.ofNat a) (x2 := Int32.ofNat b) (x3 := Int32.ofInt 8 + Int32.ofNat y) (l4 := V88 (Int32.ofNat a) (Int32.ofNat b) S) (l5 := (Int32.ofNat a * Int32.ofInt 10 + (Int32.ofInt 8 + Int32.ofNat y)) * Int32.ofInt 8) (l3 := Int32.ofNat a * Int32.ofInt 8 + Int32.ofNat b) (m4 := Int32.ofNat (a * 10 + q)) (m5 := Int32.ofNat a * Int32.ofInt 10 + Int32.ofInt 8 + Int32.ofNat y) (L := a * 10 + 8 + y) (S9 := S) (M9 := M) (by omega) (by omega) hq (by omega) g1 e88 e5 e8 rfl m5 hs hX0 (Int32.ofInt 8).toInt.toNat (by decide)
      have f : zfrm [] [15, 16] (zsR (F106 (Int32.ofNat a) (Int32.ofNat b) (Int32.ofInt 8 + Int32.ofNat y) S) 16 (Int32.ofNat a) (Int32.ofNat y + Int32.ofInt 1)) (W106 (Int32.ofNat a) (Int32.ofNat b) (Int32.ofInt 8 + Int32.ofNat y) (V88 (Int32.ofNat a) (Int32.ofNat b) S) ((Int32.ofNat a * Int32.ofInt 10 + (Int32.ofInt 8 + Int32.ofNat y)) * Int32.ofInt 8) S S (Int32.ofInt 8).toInt.toNat) := by
        unfold F106
        exact fm_c fm_R (fm_c fr_X106 fm_rf (by decide) (by decide)) (by decide) (by decide)
      exact zX9_fr (W2 := []) (V2 := []) (Y2 := []) f gm_rf (by decide) (by decide) hX
  · have nc : ¬ C84 x1 x2 S = true := fun z => r1 (C84_ok.mp z)
    have hF : F61 x1 x2 S = S := if_neg nc
    have hr : r147 x1 x2 M = r111 (Int32.ofInt 1) (zmS M 0 (Int32.ofInt 0)) := by
      by_cases a : 0 ≤ x1.toInt ∧ x1.toInt ≤ 1
      · exact (if_neg (fun z => v112_1.mp z (by rw [e0, e1]; exact a))).trans (if_pos (v112_1.mpr (by rw [e0, e7]; exact fun b => r1 ⟨a, b⟩)))
      · exact if_pos (v112_1.mpr (by rw [e0, e1]; exact a))
    rw [hF, hr]
    exact (zE_0 h0).2
theorem zE_61 (ha : zA0 S M) (h : zE S M) : zE (F61 x1 x2 S) (r147 x1 x2 M) := ⟨⟨(zM_61 ⟨ha, h.1.1⟩).1.2, zCtw_fr fr_F61 gr_147 (by decide) h.1.2.1, zLn_61 ⟨ha, h.1.1⟩ h.1.2.2⟩, zX_61 h⟩
end ZL3R
/-! code, of both; a new object, of both. -/
section ZL3S
variable {S S' S1 A u : zSt} {M M' B U : zRt} {v w x x1 x2 x3 : Int32} {n t l p k r : Nat}
/-- the reference's loops over the words -/
theorem zWd_i (hl : l < 20) {u U} (hq : zFq (u.1 9) (u.2 6) (u.2 7) (u.2 8) (U.2.2.1 0)) (h : zWd u U) {f : Nat → zSt} (f0 : f 0 = u) (fs : ∀ k, f (k + 1) = F41 (Int32.ofNat (l * 8 + k)) (Int32.ofInt 0) (f k)) : ∀ k, k ≤ 8 → zWd (f k) (w139i (Int32.ofNat l) U k) ∧ zfrm [] [2] (f k) u
  | 0, _ => by
    rw [f0]
    exact ⟨h, fm_rf⟩
  | k + 1, hk => by
    obtain ⟨i1, i2⟩ := zWd_i hl hq h f0 fs k (by omega)
    rw [fs k]
    refine ⟨?_, fm_tr fr_F41 i2⟩
    refine zWd_put ?_ i1 hl (by omega)
    rw [i2.1 9 (by decide), i2.2.1 6 (by decide), i2.2.1 7 (by decide), i2.2.1 8 (by decide), (gr_w139i k).2.2.2.1 0 (by decide)]
    exact hq
theorem zWd_o {u : zSt} {U : zRt} (hq : zFq (u.1 9) (u.2 6) (u.2 7) (u.2 8) (U.2.2.1 0)) (h : zWd u U) {f : Nat → zSt} (f0 : f 0 = u) (fs : ∀ k, f (k + 1) = F41 (Int32.ofNat k) (Int32.ofInt 0) (f k)) : ∀ l, l ≤ 20 → zWd (f (l * 8)) (w139o U l) ∧ zfrm [] [2] (f (l * 8)) u
  | 0, _ => by
    rw [show 0 * 8 = 0 from rfl, f0]
    exact ⟨h, fm_rf⟩
  | l + 1, hl => by
    obtain ⟨i1, i2⟩ := zWd_o hq h f0 fs l (by omega)
    have g : zfrM [] [20] [] (zmW (w139o U l) 20 (Int32.ofNat l) (Int32.ofInt 0)) (w139o U l) := gm_W
    have h2 : zWd (f (l * 8)) (zmW (w139o U l) 20 (Int32.ofNat l) (Int32.ofInt 0)) := zWd_fr (W := []) (V := []) fm_rf g (by decide) i1
    obtain ⟨j1, j2⟩ := zWd_i (l := l) (by omega) (u := f (l * 8)) (U := zmW (w139o U l) 20 (Int32.ofNat l) (Int32.ofInt 0)) (by
      rw [i2.1 9 (by decide), i2.2.1 6 (by decide), i2.2.1 7 (by decide), i2.2.1 8 (by decide), g.2.2.2.1 0 (by decide), (gr_w139o l).2.2.2.1 0 (by decide)]
      exact hq) h2 (f := fun k => f (l * 8 + k)) rfl (fun k => fs (l * 8 + k)) 8 (Nat.le_refl _)
    rw [show (l + 1) * 8 = l * 8 + 8 by omega]
    exact ⟨j1, fm_tr j2 i2⟩
theorem w139i_20 {x : Int32} : ∀ k, (w139i x M k).2.1 20 = M.2.1 20
  | 0 => rfl
  | k + 1 => (gr_126.2.1 20 (by decide)).trans (w139i_20 k)
theorem w139i_24 {x : Int32} : ∀ k, (w139i x M k).2.1 24 = M.2.1 24
  | 0 => rfl
  | k + 1 => (gr_126.2.1 24 (by decide)).trans (w139i_24 k)
theorem w139o_20 (h20 : (M.2.1 20).length = 20) : ∀ k, k ≤ 20 → (w139o M k).2.1 20 = List.replicate k (Int32.ofInt 0) ++ (M.2.1 20).drop k
  | 0, _ => rfl
  | k + 1, hk => by
    have e : (w139o M (k + 1)).2.1 20 = zst ((w139o M k).2.1 20) (Int32.ofNat k) (Int32.ofInt 0) := w139i_20 8
    rw [e, w139o_20 h20 k (by omega), zst_rp h20 (by omega)]
theorem w139o_24 : ∀ k, (w139o M k).2.1 24 = M.2.1 24
  | 0 => rfl
  | k + 1 => (w139i_24 8).trans (w139o_24 k)
theorem zst_rq {l : List Int32} {v : Int32} {k : Nat} (hl : l.length = 128) (hk : k < 128) : zst (List.replicate k v ++ l.drop k) (Int32.ofNat k) v = List.replicate (k + 1) v ++ l.drop (k + 1) := by
  rw [zst_in9 (by omega), List.set_append_right _ _ (by rw [List.length_replicate]; omega), List.length_replicate, Nat.sub_self, List.drop_eq_getElem_cons (by omega : k < l.length), List.set_cons_zero, List.replicate_succ', List.append_assoc]
  rfl
theorem w139p_24 (h24 : (M.2.1 24).length = 128) : ∀ k, k ≤ 128 → (w139p M k).2.1 24 = List.replicate k (Int32.ofInt 0) ++ (M.2.1 24).drop k
  | 0, _ => rfl
  | k + 1, hk => by
    have e : (w139p M (k + 1)).2.1 24 = zst ((w139p M k).2.1 24) (Int32.ofNat k) (Int32.ofInt 0) := rfl
    rw [e, w139p_24 h24 k (by omega), zst_rq h24 (by omega)]
/-- what code does in the class -/
theorem zF40_e (hW : n ≤ 16) {l0 l1 : List (List Int32)} (q0 : zFq (S.1 9) (S.2 6) (S.2 7) (S.2 8) l0) (q1 : zFq (S.1 10) (S.2 9) (S.2 10) (S.2 11) l1) : ∃ C : zSt, zfrm [3, 9, 10] [6, 7, 8, 9, 10, 11] C S ∧ C.1 3 = Int32.ofNat n ∧ zFq (C.1 9) (C.2 6) (C.2 7) (C.2 8) (zflt (Int32.ofNat n) l0 l0.length) ∧ F40 (Int32.ofNat n) S = W40 (Int32.ofNat n) (zsF C 3 (Int32.ofInt 0)) (zsF C 3 (Int32.ofInt 0)) (Int32.ofInt 160).toInt.toNat := by
  have p0 := zFq_F2215 (S := zsS S 3 (Int32.ofNat n)) hW q0
  have f0 := fr_F22_15 (x1 := Int32.ofNat n) (S := zsS S 3 (Int32.ofNat n))
  obtain ⟨B, hB⟩ : ∃ B, B = F22_15 (Int32.ofNat n) (zsS S 3 (Int32.ofNat n)) := ⟨_, rfl⟩
  rw [← hB] at p0 f0
  have b3 : B.1 3 = Int32.ofNat n := (f0.1 3 (by decide)).trans rfl
  have f1 := fr_F22_22 (x1 := Int32.ofNat n) (S := B)
  obtain ⟨C, hC⟩ : ∃ C, C = F22_22 (Int32.ofNat n) B := ⟨_, rfl⟩
  rw [← hC] at f1
  refine ⟨C, fm_c f1 (fm_c f0 (fm_c fm_S fm_rf (by decide) (by decide)) (by decide) (by decide)) (by decide) (by decide), (f1.1 3 (by decide)).trans b3, ?_, ?_⟩
  · rw [f1.1 9 (by decide), f1.2.1 6 (by decide), f1.2.1 7 (by decide), f1.2.1 8 (by decide)]
    exact p0
  · have a3 : (zsS S 3 (Int32.ofNat n)).1 3 = Int32.ofNat n := rfl
    unfold F40 X40
    rw [a3, ← hB, b3, ← hC]
theorem zX_53 (mk : zMk S S1 k r) (hc : (k, r) ∈ zcds) (h : zE S M) : zX9 (F53t S1) (r139 k r M) := by
  have b := zcds_kr _ hc
  have hk := b.2.1
  have hr := b.2.2.2.1
  simp only at hk hr
  obtain ⟨m1, m2, m3, m4, m5⟩ := mk
  have s0 : S1.1 0 = Int32.ofNat k := by
    rw [m1]
    rfl
  have s1 : S1.1 1 = Int32.ofNat r := by
    rw [m1]
    rfl
  have s2 : S1.1 2 = Int32.ofNat (k + r) := by
    rw [m1]
    rfl
  have sj : ∀ j, j ≠ 0 → j ≠ 1 → j ≠ 2 → S1.1 j = S.1 j := fun j j0 j1 j2 => by
    rw [m1]
    exact (zup_n j2).trans ((zup_n j1).trans (zup_n j0))
  obtain ⟨⟨-, ⟨-, q0, q1⟩, -⟩, ht, h2, h3, h4, h5, h6, h7⟩ := h
  obtain ⟨C, fC, c3, qC, eF⟩ := zF40_e (S := S1) (n := k + r) (by omega) (l0 := M.2.2.1 0) (l1 := M.2.2.1 1) (by
    rw [sj 9 (by decide) (by decide) (by decide), m5 6 (by decide) (by decide), m5 7 (by decide) (by decide), m5 8 (by decide) (by decide)]
    exact q0) (by
    rw [sj 10 (by decide) (by decide) (by decide), m5 9 (by decide) (by decide), m5 10 (by decide) (by decide), m5 11 (by decide) (by decide)]
    exact q1)
  obtain ⟨D, hD⟩ : ∃ D, D = zsF C 3 (Int32.ofInt 0) := ⟨_, rfl⟩
  have fD : zfrm [] [3] D C := by
    rw [hD]
    exact fm_F
  have d3 : D.2 3 = List.replicate (C.2 3).length (Int32.ofInt 0) := by
    rw [hD]
    rfl
  rw [← hD] at eF
  have e160 : (Int32.ofInt 160).toInt.toNat = 20 * 8 := by decide
  rw [e160] at eF
  obtain ⟨P, hP⟩ : ∃ P, P = w139p (q139 k r M) 128 := ⟨_, rfl⟩
  have gP : zfrM [] [24] [] P (q139 k r M) := by
    rw [hP]
    exact gr_w139p (M := q139 k r M) 128
  have gR : zfrM [] [0, 1, 2, 3, 4, 5, 6, 7, 8, 9, 10, 11, 12, 13, 14, 15, 16, 17, 18, 19, 20] [] (r139 k r M) P := by
    rw [hP]
    exact gr_w139o (M := w139p (q139 k r M) 128) 20
  have eR : r139 k r M = w139o P 20 := by
    rw [hP]
    rfl
  have pw : ∀ j, j ≠ 24 → P.2.1 j = M.2.1 j := fun j hj => gP.2.1 j (fun z => hj (List.mem_singleton.mp z))
  have dw : ∀ j, j ∉ [0, 1, 3, 6, 7, 8, 9, 10, 11] → D.2 j = S.2 j := fun j hj => (fD.2.1 j (fun z => hj (by rw [List.mem_singleton.mp z]; decide))).trans ((fC.2.1 j (fun z => hj (by
    have y : ∀ i ∈ [6, 7, 8, 9, 10, 11], i ∈ [0, 1, 3, 6, 7, 8, 9, 10, 11] := by decide
    exact y j z))).trans (m5 j (fun z => hj (by rw [z]; decide)) (fun z => hj (by rw [z]; decide))))
  have hwD : zWd D P := by
    obtain ⟨w1, w2, w3⟩ := h2
    refine ⟨by rw [dw 2 (by decide)]; exact w1, fun l hl => by rw [pw l (by omega)]; exact w2 l hl, fun l p hl hp => ?_⟩
    rw [dw 2 (by decide), pw l (by omega)]
    exact w3 l p hl hp
  have qD : zFq (D.1 9) (D.2 6) (D.2 7) (D.2 8) (P.2.2.1 0) := by
    rw [fD.1 9 (by decide), fD.2.1 6 (by decide), fD.2.1 7 (by decide), fD.2.1 8 (by decide), gP.2.2.2.1 0 (by decide)]
    show zFq _ _ _ _ (zflt (Int32.ofNat k + Int32.ofNat r) (M.2.2.1 0) (M.2.2.1 0).length)
    rw [← Int32.ofNat_add]
    exact qC
  obtain ⟨hw, fW⟩ := zWd_o qD hwD (f := fun j => W40 (Int32.ofNat (k + r)) D D j) rfl (fun _ => rfl) 20 (Nat.le_refl _)
  rw [← eR] at hw
  have fG : zfrm [11] [17] (F53t S1) (W40 (Int32.ofNat (k + r)) D D (20 * 8)) := by
    unfold F53t
    rw [s2, eF]
    exact fm_c fr_F30 (fm_c fm_F fm_rf (by decide) (by decide)) (by decide) (by decide)
  have g17 : (F53t S1).2 17 = List.replicate 128 (Int32.ofInt 0) := by
    have z : (F53t S1).2 17 = List.replicate ((F40 (S1.1 2) S1).2 17).length (Int32.ofInt 0) := by
      unfold F53t
      obtain ⟨Q, hQ⟩ : ∃ Q, Q = F40 (S1.1 2) S1 := ⟨_, rfl⟩
      rw [← hQ]
      rfl
    rw [z, s2, eF, fW.2.2 17, dw 17 (by decide), h3.2.2.2.1]
  have g11 : (F53t S1).1 11 = Int32.ofInt 0 := rfl
  have gd1 : ∀ j, j ∉ [3, 9, 10, 11] → (F53t S1).1 j = S1.1 j := fun j hj => (fG.1 j (fun z => hj (by rw [List.mem_singleton.mp z]; decide))).trans ((fW.1 j List.not_mem_nil).trans ((fD.1 j List.not_mem_nil).trans (fC.1 j (fun z => hj (by
    have y : ∀ i ∈ [3, 9, 10], i ∈ [3, 9, 10, 11] := by decide
    exact y j z)))))
  have a1 : ∀ j, j ∉ [0, 1, 2, 3, 9, 10, 11] → (F53t S1).1 j = S.1 j := fun j hj => (gd1 j (fun z => hj (by
    have y : ∀ i ∈ [3, 9, 10, 11], i ∈ [0, 1, 2, 3, 9, 10, 11] := by decide
    exact y j z))).trans (sj j (fun z => hj (by rw [z]; decide)) (fun z => hj (by rw [z]; decide)) (fun z => hj (by rw [z]; decide)))
  have gd2 : ∀ j, j ∉ [2, 17] → (F53t S1).2 j = D.2 j := fun j hj => (fG.2.1 j (fun z => hj (by rw [List.mem_singleton.mp z]; decide))).trans (fW.2.1 j (fun z => hj (by rw [List.mem_singleton.mp z]; decide)))
  have a2 : ∀ j, j ∉ [0, 1, 2, 3, 6, 7, 8, 9, 10, 11, 17] → (F53t S1).2 j = S.2 j := fun j hj => (gd2 j (fun z => hj (by
    have y : ∀ i ∈ [2, 17], i ∈ [0, 1, 2, 3, 6, 7, 8, 9, 10, 11, 17] := by decide
    exact y j z))).trans (dw j (fun z => hj (by
    have y : ∀ i ∈ [0, 1, 3, 6, 7, 8, 9, 10, 11], i ∈ [0, 1, 2, 3, 6, 7, 8, 9, 10, 11, 17] := by decide
    exact y j z)))
  have b1 : ∀ j, j ∉ [0, 1, 2] → (r139 k r M).1 j = M.1 j := fun j hj => (gR.1 j List.not_mem_nil).trans ((gP.1 j List.not_mem_nil).trans ((zup_n (fun z => hj (by rw [z]; decide))).trans ((zup_n (fun z => hj (by rw [z]; decide))).trans (zup_n (fun z => hj (by rw [z]; decide))))))
  have b21 : (r139 k r M).2.1 21 = M.2.1 21 := (gR.2.1 21 (by decide)).trans (pw 21 (by decide))
  have b20 : (r139 k r M).2.1 20 = List.replicate 20 (Int32.ofInt 0) := by
    have z20 : (P.2.1 20).length = 20 := by
      rw [pw 20 (by decide), ← h3.1.1]
      exact h3.1.2
    rw [eR, w139o_20 z20 20 (Nat.le_refl _), List.drop_eq_nil_of_le (by omega), List.append_nil]
  have b24 : (r139 k r M).2.1 24 = List.replicate 128 (Int32.ofInt 0) := by
    have z24 : ((q139 k r M).2.1 24).length = 128 := by
      show (M.2.1 24).length = 128
      rw [← h3.2.2.1]
      exact h3.2.2.2.1
    rw [eR, w139o_24, hP, w139p_24 z24 128 (Nat.le_refl _), List.drop_eq_nil_of_le (by omega), List.append_nil]
  have b3 : (r139 k r M).2.2 = (q139 k r M).2.2 := (gm_l gR).trans (gm_l gP)
  have g3 : (F53t S1).2 3 = List.replicate 20 (Int32.ofInt 0) := by
    rw [gd2 3 (by decide), d3, fC.2.2 3, m5 3 (by decide) (by decide), h3.1.2]
  refine ⟨?_, ?_, ?_, ?_, ?_, ?_, ?_⟩
  · show (F53t S1).1 4 = (r139 k r M).1 4
    rw [a1 4 (by decide), b1 4 (by decide)]
    exact ht
  · exact zWd_fr (W2 := []) (V2 := []) (Y2 := []) fG gm_rf (by decide) hw
  · unfold zCn
    rw [g3, b20, a2 4 (by decide), b21, g17, b24]
    exact ⟨⟨rfl, List.length_replicate⟩, h3.2.1, rfl, List.length_replicate, fun x hx => Or.inl ((List.eq_of_mem_replicate hx).trans (by decide))⟩
  · unfold zSc
    rw [a1 5 (by decide), a1 6 (by decide), a1 14 (by decide), a1 15 (by decide), a1 16 (by decide), a1 18 (by decide), a1 12 (by decide), a1 13 (by decide), b1 5 (by decide), b1 6 (by decide), b1 7 (by decide), b1 8 (by decide), b1 9 (by decide), b1 13 (by decide), b1 14 (by decide), b1 15 (by decide)]
    exact h4
  · unfold zDr
    rw [a1 7 (by decide), a1 8 (by decide), b1 11 (by decide), b1 12 (by decide)]
    exact h5
  · refine ⟨k, r, ⟨hc, (gd1 0 (by decide)).trans s0, (gd1 1 (by decide)).trans s1, (gd1 2 (by decide)).trans s2, ?_, ?_⟩, ?_, ?_, ?_, ?_⟩
    · rw [gd2 0 (by decide), fD.2.1 0 (by decide), fC.2.1 0 (by decide)]
      exact m2
    · rw [gd2 1 (by decide), fD.2.1 1 (by decide), fC.2.1 1 (by decide)]
      exact m4
    · exact (gR.1 1 List.not_mem_nil).trans ((gP.1 1 List.not_mem_nil).trans rfl)
    · exact (gR.1 2 List.not_mem_nil).trans ((gP.1 2 List.not_mem_nil).trans rfl)
    · rw [b3]
      rfl
    · rw [gd1 2 (by decide), s2, fG.1 3 (by decide), fW.1 3 List.not_mem_nil, fD.1 3 List.not_mem_nil, c3]
  · have e2 : (r139 k r M).2.2.1 2 = [] := by
      rw [b3]
      rfl
    refine ⟨?_, ?_, ?_, fun j e hj => ?_⟩
    · rw [g11, e2]
      decide
    · rw [e2]
      decide
    · rw [a2 12 (by decide), a2 13 (by decide), a2 14 (by decide)]
      exact h7.2.2.1
    · rw [e2] at hj
      cases hj
theorem zE_53 (ha : zA0 S M) (mk : zMk S S1 k r) (hc : (k, r) ∈ zcds) (h : zE S M) : zE (F53t S1) (r139 k r M) := by
  have hm : zAm S M := ⟨⟨ha, h.1.1⟩, h.1.2.1, h.1.2.2⟩
  have z := zAm_53 hc mk hm
  exact ⟨⟨z.1.2, z.2.1, z.2.2⟩, zX_53 mk hc h⟩
end ZL3S
/-! All that is alike, kept by every call. -/
section ZL3T
variable {S S' S1 : zSt} {M M' : zRt} {W V W2 V2 Y2 : List Nat} {x1 x2 x3 x4 x5 : Int32}
def zZ (S : zSt) (M : zRt) : Prop := zA0 S M ∧ zSp S M ∧ zE S M
theorem zZ_54 (h : zZ S M) : zZ (F54 x1 x2 S) (r140 x1 x2 M) := ⟨zA0_54 h.1, zSp_fr fr_F54 gr_140 (by decide) h.2.1, (zM_54 h.2.2).1⟩
theorem zZ_55 (h : zZ S M) : zZ (F55 x1 S) (r141 x1 M) := ⟨zA0_55 h.1, zSp_fr fr_F55 gr_141 (by decide) h.2.1, (zM_55 h.2.2).1⟩
theorem zZ_56 (h : zZ S M) : zZ (F56 x1 x2 S) (r142 x1 x2 M) := ⟨zA0_56 h.1, zSp_fr fr_F56 gr_142 (by decide) h.2.1, (zM_56 h.2.2).1⟩
theorem zZ_57 (h : zZ S M) : zZ (F57 x1 x2 x3 S) (r143 x1 x2 x3 M) := ⟨zA0_57 h.1, zSp_fr fr_F57 gr_143 (by decide) h.2.1, zE_57 h.2.2⟩
theorem zZ_58 (h : zZ S M) : zZ (F58 x1 x2 x3 S) (r144 x1 x2 x3 M) := ⟨zA0_58 h.1, zSp_fr fr_F58 gr_144 (by decide) h.2.1, zE_58 h.2.2⟩
theorem zZ_59 (h : zZ S M) : zZ (F59 x1 x2 x3 S) (r145 x1 x2 x3 M) := ⟨zA0_59 h.1, zSp_fr fr_F59 gr_145 (by decide) h.2.1, (zM_59 h.2.2).1⟩
theorem zZ_60 (h : zZ S M) : zZ (F60 x1 x2 x3 x4 x5 S) (r146 x1 x2 x3 x4 x5 M) := ⟨zA0_60 h.1, zSp_fr fr_F60 gr_146 (by decide) h.2.1, (zM_60 h.2.2).1⟩
theorem zZ_61 (h : zZ S M) : zZ (F61 x1 x2 S) (r147 x1 x2 M) := ⟨zA0_61 h.1, zSp_fr fr_F61 gr_147 (by decide) h.2.1, zE_61 h.1 h.2.2⟩
theorem zZ_62 (hx : x2 = 0 ∨ x2 = 1) (h : zZ S M) : zZ (F62 x1 x2 S) (r148 x1 x2 M) := ⟨zA0_62 h.1, zSp_fr fr_F62 gr_148 (by decide) h.2.1, zE_62 hx h.1 h.2.2⟩
theorem zZ_63 (h : zZ S M) : zZ (F63 x1 S) (r150 x1 M) := ⟨(zN_63 h.1).1, (zE_63 h.2.2 h.2.1).2, (zE_63 h.2.2 h.2.1).1⟩
theorem zZ_64 (h : zZ S M) : zZ (F64 S) (r151 M) := ⟨zA0_64 h.1, zSp_fr fr_F64 gr_151 (by decide) h.2.1, zE_64 h.2.2⟩
theorem zZ_65 (h : zZ S M) : zZ (F65 S) (r152 M) := ⟨zA0_65 h.1, zSp_fr fr_F65 gr_152 (by decide) h.2.1, zE_65 h.2.2⟩
theorem zZ_0 {t : Int32} (h : zZ S M) : zZ S (zmS M 0 t) := ⟨zA0_0 h.1, h.2.1, zE_0 h.2.2⟩
theorem zZ_fr (f : zfrm W V S' S) (g : zfrM W2 V2 Y2 M' M) (k1 : 4 ∉ W ∧ 4 ∉ W2) (k2 : 17 ∉ W ∧ 10 ∉ W2) (k3 : (∀ j ∈ [2, 9, 10], j ∉ W) ∧ ∀ j ∈ [6, 7, 8, 9, 10, 11, 15, 16, 18], j ∉ V) (k4 : (1 ∉ W2 ∧ 2 ∉ W2) ∧ (22 ∉ V2 ∧ 23 ∉ V2 ∧ 25 ∉ V2) ∧ 0 ∉ Y2 ∧ 1 ∉ Y2) (k5 : (∀ j ∈ [0, 1, 2, 3, 4, 5, 6, 7, 8, 11, 12, 13, 14, 15, 16, 18], j ∉ W) ∧ ∀ j ∈ [0, 1, 2, 3, 4, 12, 13, 14, 17], j ∉ V) (k6 : (∀ j ∈ [1, 2, 4, 5, 6, 7, 8, 9, 11, 12, 13, 14, 15], j ∉ W2) ∧ (∀ j ∈ [0, 1, 2, 3, 4, 5, 6, 7, 8, 9, 10, 11, 12, 13, 14, 15, 16, 17, 18, 19, 20, 21, 24], j ∉ V2) ∧ 2 ∉ Y2 ∧ 9 ∉ Y2) (h : zZ S M) : zZ S' M' := ⟨zA0_fr f g k1 h.1, zSp_fr f g k2 h.2.1, zB3_fr f g k3 k4 h.2.2.1, zX9_fr f g k5 k6 h.2.2.2⟩
theorem zZ_172 (h : zZ S M) : zZ S (r172 x1 M) := zZ_fr (W := []) (V := []) fm_rf gr_172 (by decide) (by decide) (by decide) (by decide) (by decide) (by decide) h
theorem zZ_5 (f : zfr [] [5] S.1 S.2 S'.1 S'.2) (h : zZ S M) : zZ S' M := by
  have e1 : ∀ j, S'.1 j = S.1 j := fun j => f.1 j List.not_mem_nil
  have e2 : ∀ j, j ≠ 5 → S'.2 j = S.2 j := fun j hj => f.2.1 j (fun z => hj (List.mem_singleton.mp z))
  obtain ⟨⟨⟨a1, a2, a3⟩, a4⟩, a5, ⟨⟨b1, b2⟩, ⟨c1, c2, c3⟩, d1⟩, k1, k2, k3, k4, k5, k6, k7⟩ := h
  refine ⟨⟨⟨?_, ?_, a3⟩, ?_⟩, ?_, ⟨?_, ?_, ?_⟩, ?_, ?_, ?_, ?_, ?_, ?_, ?_⟩
  · rw [e2 0 (by decide)]
    exact a1
  · rw [e2 1 (by decide)]
    exact a2
  · rw [e1 4]
    exact a4
  · unfold zSp
    rw [e1 17]
    exact a5
  · unfold zBr
    rw [e2 16 (by decide), e2 18 (by decide)]
    exact ⟨b1, b2⟩
  · unfold zCtw
    rw [e1 2, e1 9, e1 10, e2 6 (by decide), e2 7 (by decide), e2 8 (by decide), e2 9 (by decide), e2 10 (by decide), e2 11 (by decide)]
    exact ⟨c1, c2, c3⟩
  · unfold zLn
    rw [e2 15 (by decide)]
    exact d1
  · unfold zTk
    rw [e1 4]
    exact k1
  · unfold zWd
    rw [e2 2 (by decide)]
    exact k2
  · unfold zCn
    rw [e2 3 (by decide), e2 4 (by decide), e2 17 (by decide)]
    exact k3
  · unfold zSc
    rw [e1 5, e1 6, e1 14, e1 15, e1 16, e1 18, e1 12, e1 13]
    exact k4
  · unfold zDr
    rw [e1 7, e1 8]
    exact k5
  · obtain ⟨k, r, g1, g2⟩ := k6
    refine ⟨k, r, ?_, by rw [e1 3, e1 2]; exact g2⟩
    unfold zRC
    rw [e1 0, e1 1, e1 2, e2 0 (by decide), e2 1 (by decide)]
    exact g1
  · unfold zLg zLe
    rw [e1 11, e2 12 (by decide), e2 13 (by decide), e2 14 (by decide)]
    exact k7
theorem zZ_53 {k r : Nat} (hc : (k, r) ∈ zcds) (mk : zMk S S1 k r) (h : zZ S M) : zZ (F53t S1) (r139 k r M) := by
  refine ⟨zA0_53 mk h.1, ?_, zE_53 h.1 mk hc h.2.2⟩
  obtain ⟨m1, m2, m3, m4, m5⟩ := mk
  have f : zfrm [2, 3, 9, 10, 11] [2, 3, 6, 7, 8, 9, 10, 11, 17] (F53t S1) S1 := by
    unfold F53t
    exact fm_c fr_F30 (fm_c fm_F (fm_c fr_F40 fm_rf (by decide) (by decide)) (by decide) (by decide)) (by decide) (by decide)
  have g : zfrM [] [0, 1, 2, 3, 4, 5, 6, 7, 8, 9, 10, 11, 12, 13, 14, 15, 16, 17, 18, 19, 20, 24] [] (r139 k r M) (q139 k r M) := by
    unfold r139
    exact gm_tr (gm_mo (gr_w139o 20) (by decide) (by decide) (by decide)) (gm_mo (gr_w139p 128) (by decide) (by decide) (by decide))
  refine zSp_fr (S := S1) (M := q139 k r M) f g (by decide) ?_
  unfold zSp
  rw [m1]
  exact h.2.1
end ZL3T
