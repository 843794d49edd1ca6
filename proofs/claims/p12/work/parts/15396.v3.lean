/-! What the class and the reference have alike between two calls: the tick. -/
section ZL3
variable {S S' : zSt} {M M' : zRt} {W V W2 V2 Y2 : List Nat} {x1 x2 x3 x4 x5 : Int32}
def zAl (S : zSt) (M : zRt) : Prop := ((S.2 0).length = 16 ∧ (S.2 1).length = 64 ∧ (M.2.1 20).length = 20) ∧ (S.1 4 = M.1 4 ∧ 0 ≤ (S.1 4).toInt ∧ (S.1 4).toInt ≤ 2000)
theorem zAl_fr (f : zfrm W V S' S) (g : zfrM W2 V2 Y2 M' M) (hk : 4 ∉ W ∧ 4 ∉ W2) (h : zAl S M) : zAl S' M' := by
  obtain ⟨k1, k4⟩ := hk
  obtain ⟨⟨a1, a2, a3⟩, b⟩ := h
  refine ⟨⟨(f.2.2 0).trans a1, (f.2.2 1).trans a2, (g.2.2.1 20).trans a3⟩, ?_⟩
  rw [f.1 4 k1, g.1 4 k4]
  exact b
theorem zAl_0 {t : Int32} (h : zAl S M) : zAl S (zmS M 0 t) := zAl_fr (W := []) (V := []) fm_rf (gm_S (k := 0)) (by decide) h
theorem zAl_54 (h : zAl S M) : zAl (F54 x1 x2 S) (r140 x1 x2 M) := zAl_fr fr_F54 gr_140 (by decide) h
theorem zAl_55 (h : zAl S M) : zAl (F55 x1 S) (r141 x1 M) := zAl_fr fr_F55 gr_141 (by decide) h
theorem zAl_56 (h : zAl S M) : zAl (F56 x1 x2 S) (r142 x1 x2 M) := zAl_fr fr_F56 gr_142 (by decide) h
theorem zAl_57 (h : zAl S M) : zAl (F57 x1 x2 x3 S) (r143 x1 x2 x3 M) := zAl_fr fr_F57 gr_143 (by decide) h
theorem zAl_58 (h : zAl S M) : zAl (F58 x1 x2 x3 S) (r144 x1 x2 x3 M) := zAl_fr fr_F58 gr_144 (by decide) h
theorem zAl_59 (h : zAl S M) : zAl (F59 x1 x2 x3 S) (r145 x1 x2 x3 M) := zAl_fr fr_F59 gr_145 (by decide) h
theorem zAl_60 (h : zAl S M) : zAl (F60 x1 x2 x3 x4 x5 S) (r146 x1 x2 x3 x4 x5 M) := zAl_fr fr_F60 gr_146 (by decide) h
theorem zAl_61 (h : zAl S M) : zAl (F61 x1 x2 S) (r147 x1 x2 M) := zAl_fr fr_F61 gr_147 (by decide) h
theorem zAl_62 (h : zAl S M) : zAl (F62 x1 x2 S) (r148 x1 x2 M) := zAl_fr fr_F62 gr_148 (by decide) h
theorem zAl_64 (h : zAl S M) : zAl (F64 S) (r151 M) := zAl_fr fr_F64 gr_151 (by decide) h
theorem zAl_65 (h : zAl S M) : zAl (F65 S) (r152 M) := zAl_fr fr_F65 gr_152 (by decide) h
theorem v112_1 {a b c : Int32} {M : zRt} : v112 a b c M = 0 ↔ ¬ (b.toInt ≤ a.toInt ∧ a.toInt ≤ c.toInt) := by
  unfold v112
  split
  · next z => exact ⟨fun _ k => by omega, fun _ => by decide⟩
  · next z =>
    split
    · next z2 => exact ⟨fun _ k => by omega, fun _ => by decide⟩
    · next z2 => exact ⟨fun k => absurd k (by decide), fun k => absurd ⟨by omega, by omega⟩ k⟩
theorem C85_ok : C85 x1 S = true ↔ 1 ≤ x1.toInt ∧ x1.toInt ≤ 100 := by
  have e0 : (Int32.ofInt 1).toInt = 1 := by decide
  have e2 : (Int32.ofInt 100).toInt = 100 := by decide
  unfold C85
  rw [e0, e2]
  by_cases a : x1.toInt < 1
  · rw [if_pos a]
    exact ⟨fun z => (by cases z), fun z => by omega⟩
  · rw [if_neg a]
    by_cases b : 100 < x1.toInt
    · rw [if_pos b]
      exact ⟨fun z => (by cases z), fun z => by omega⟩
    · rw [if_neg b]
      exact ⟨fun _ => by omega, fun _ => rfl⟩
/-- a tick, of both -/
theorem k_tick : (F105 (F46 S)).1 4 = S.1 4 + Int32.ofInt 1 := by
  rw [fr_F105.1 4 (by decide)]
  unfold F46
  rw [fr_X46.1 4 (by decide), (fr_W46 _).1 4 (by decide)]
  rfl
theorem r_tick : (r137 M).1 4 = M.1 4 + Int32.ofInt 1 := by
  unfold r137
  rw [gr_136.1 4 (by decide), gr_q137.1 4 (by decide), gr_135.1 4 (by decide)]
  rfl
theorem k_ticks {S9 : zSt} : ∀ k, (W63 x1 S9 S k).1 4 = S.1 4 + Int32.ofNat k
  | 0 => (Int32.add_zero _).symm
  | k + 1 => by
    show (D63 x1 S9 k (W63 x1 S9 S k)).1 4 = _
    unfold D63
    rw [k_tick, k_ticks k, Int32.add_assoc, zof1]
theorem r_ticks {M9 : zRt} : ∀ k, (w150 x1 M9 M k).1 4 = M.1 4 + Int32.ofNat k
  | 0 => (Int32.add_zero _).symm
  | k + 1 => by
    show (d150 x1 M9 k (w150 x1 M9 M k)).1 4 = _
    unfold d150
    rw [r_tick, r_ticks k, Int32.add_assoc, zof1]
/-- pass, of both -/
theorem zM_63 (h : zAl S M) : zAl (F63 x1 S) (r150 x1 M) ∧ ((∃ v, R63 x1 S = .inl (some (.int v)) ∧ v150 x1 M = v ∧ (r150 x1 M).1 0 = 0) ∨ (∃ E, R63 x1 S = .inr E ∧ (r150 x1 M).1 0 = kc_199 E)) := by
  have hh := h
  obtain ⟨⟨a1, a2, a3⟩, b1, b2, b3⟩ := h
  have e1 : (Int32.ofInt 1).toInt = 1 := by decide
  have e100 : (Int32.ofInt 100).toInt = 100 := by decide
  have e2000 : (Int32.ofInt 2000).toInt = 2000 := by decide
  have m4 : (zmS M 0 (Int32.ofInt 0)).1 4 = S.1 4 := b1.symm
  by_cases r1 : 1 ≤ x1.toInt ∧ x1.toInt ≤ 100
  · have c := C85_ok (S := S).mpr r1
    have nv : ¬ v112 x1 (Int32.ofInt 1) (Int32.ofInt 100) (zmS M 0 (Int32.ofInt 0)) = 0 := fun z => v112_1.mp z (by rw [e1, e100]; exact r1)
    by_cases t : (Int32.ofInt 2000).toInt < (S.1 4 + x1).toInt
    · have hR : R63 x1 S = .inr 2 := by
        unfold R63
        rw [if_pos c, if_pos t]
      have hF : F63 x1 S = S := by
        unfold F63
        rw [if_pos c, if_pos t]
      have hr : r150 x1 M = r111 (Int32.ofInt 2) (zmS M 0 (Int32.ofInt 0)) := by
        unfold r150
        rw [if_neg nv, m4, if_pos t]
      rw [hF, hr]
      exact ⟨zAl_0 (zAl_0 hh), Or.inr ⟨2, hR, show Int32.ofInt 2 = kc_199 2 by decide⟩⟩
    · have hR : R63 x1 S = .inl (some (.int (Y63 x1 S (W63 x1 S S x1.toInt.toNat)))) := by
        unfold R63
        rw [if_pos c, if_neg t]
      have hF : F63 x1 S = X63 x1 S (W63 x1 S S x1.toInt.toNat) := by
        unfold F63
        rw [if_pos c, if_neg t]
      have hr : r150 x1 M = x150 x1 M (w150 x1 M (zmS M 0 (Int32.ofInt 0)) x1.toInt.toNat) := by
        unfold r150
        rw [if_neg nv, m4, if_neg t]
      have hv : v150 x1 M = y150 x1 M (w150 x1 M (zmS M 0 (Int32.ofInt 0)) x1.toInt.toNat) := by
        unfold v150
        rw [if_neg nv, m4, if_neg t]
      have ex : Int32.ofNat x1.toInt.toNat = x1 := Int32.toInt_inj.mp (by rw [zofI (by omega)]; omega)
      have k1 : (W63 x1 S S x1.toInt.toNat).1 4 = S.1 4 + x1 := (k_ticks _).trans (by rw [ex])
      have k2 : (w150 x1 M (zmS M 0 (Int32.ofInt 0)) x1.toInt.toNat).1 4 = S.1 4 + x1 := (r_ticks _).trans (by rw [ex, m4])
      have k0 : (w150 x1 M (zmS M 0 (Int32.ofInt 0)) x1.toInt.toNat).1 0 = Int32.ofInt 0 := (gr_w150 _).1 0 (by decide)
      have sm : (S.1 4 + x1).toInt = (S.1 4).toInt + x1.toInt := by
        have := Int32.toInt_add (S.1 4) x1
        rw [zbm (by omega) (by omega)] at this
        exact this
      rw [hF, hr]
      refine ⟨⟨⟨?_, ?_, ?_⟩, ?_, ?_, ?_⟩, Or.inl ⟨_, hR, ?_, ?_⟩⟩
      · show ((W63 x1 S S x1.toInt.toNat).2 0).length = 16
        rw [(fr_W63 _).2.2 0]
        exact a1
      · show ((W63 x1 S S x1.toInt.toNat).2 1).length = 64
        rw [(fr_W63 _).2.2 1]
        exact a2
      · show ((w150 x1 M (zmS M 0 (Int32.ofInt 0)) x1.toInt.toNat).2.1 20).length = 20
        rw [(gr_w150 _).2.2.1 20]
        exact a3
      · show (W63 x1 S S x1.toInt.toNat).1 4 = (w150 x1 M (zmS M 0 (Int32.ofInt 0)) x1.toInt.toNat).1 4
        rw [k1, k2]
      · show 0 ≤ ((W63 x1 S S x1.toInt.toNat).1 4).toInt
        rw [k1]
        omega
      · show ((W63 x1 S S x1.toInt.toNat).1 4).toInt ≤ 2000
        rw [k1]
        omega
      · rw [hv]
        show (w150 x1 M (zmS M 0 (Int32.ofInt 0)) x1.toInt.toNat).1 4 = (W63 x1 S S x1.toInt.toNat).1 4
        rw [k1, k2]
      · show (w150 x1 M (zmS M 0 (Int32.ofInt 0)) x1.toInt.toNat).1 0 = 0
        rw [k0]
        decide
  · have nc : ¬ C85 x1 S = true := fun z => r1 (C85_ok.mp z)
    have pv : v112 x1 (Int32.ofInt 1) (Int32.ofInt 100) (zmS M 0 (Int32.ofInt 0)) = 0 := v112_1.mpr (by rw [e1, e100]; exact r1)
    have hR : R63 x1 S = .inr 0 := by
      unfold R63
      rw [if_neg nc]
    have hF : F63 x1 S = S := by
      unfold F63
      rw [if_neg nc]
    have hr : r150 x1 M = r111 (Int32.ofInt 1) (zmS M 0 (Int32.ofInt 0)) := by
      unfold r150
      rw [if_pos pv]
    rw [hF, hr]
    exact ⟨zAl_0 (zAl_0 hh), Or.inr ⟨0, hR, show Int32.ofInt 1 = kc_199 0 by decide⟩⟩
/-- code, of both -/
theorem zAl_53 {S1 : zSt} {k r : Nat} (mk : zMk S S1 k r) (h : zAl S M) : zAl (F53t S1) (r139 k r M) := by
  obtain ⟨⟨a1, a2, a3⟩, b⟩ := h
  obtain ⟨m1, m2, m3, m4, m5⟩ := mk
  have f : zfrm [2, 3, 9, 10, 11] [2, 3, 6, 7, 8, 9, 10, 11, 17] (F53t S1) S1 := by
    unfold F53t
    exact fm_c fr_F30 (fm_c fm_F (fm_c fr_F40 fm_rf (by decide) (by decide)) (by decide) (by decide)) (by decide) (by decide)
  have g : zfrM [] [0, 1, 2, 3, 4, 5, 6, 7, 8, 9, 10, 11, 12, 13, 14, 15, 16, 17, 18, 19, 20, 24] [] (r139 k r M) (q139 k r M) := by
    unfold r139
    exact gm_tr (gm_mo (gr_w139o 20) (by decide) (by decide) (by decide)) (gm_mo (gr_w139p 128) (by decide) (by decide) (by decide))
  refine ⟨⟨?_, ?_, ?_⟩, ?_⟩
  · rw [f.2.2 0]
    exact m3
  · rw [f.2.2 1, m4, zts_len]
  · rw [g.2.2.1 20]
    exact a3
  · rw [f.1 4 (by decide), g.1 4 (by decide), m1]
    exact b
end ZL3
