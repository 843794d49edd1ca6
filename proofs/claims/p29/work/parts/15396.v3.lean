/-! What the class and the reference have alike between two calls: the tick. -/
section ZL3
variable {S S' : zSt} {M M' : zRt} {W V W2 V2 Y2 : List Nat} {x1 x2 x3 x4 x5 : Int32}
def zA0 (S : zSt) (M : zRt) : Prop := ((S.2 0).length = 16 ∧ (S.2 1).length = 64 ∧ (M.2.1 20).length = 20) ∧ (S.1 4 = M.1 4 ∧ 0 ≤ (S.1 4).toInt ∧ (S.1 4).toInt ≤ 2000)
theorem zA0_fr (f : zfrm W V S' S) (g : zfrM W2 V2 Y2 M' M) (hk : 4 ∉ W ∧ 4 ∉ W2) (h : zA0 S M) : zA0 S' M' := by
  obtain ⟨k1, k4⟩ := hk
  obtain ⟨⟨a1, a2, a3⟩, b⟩ := h
  refine ⟨⟨(f.2.2 0).trans a1, (f.2.2 1).trans a2, (g.2.2.1 20).trans a3⟩, ?_⟩
  rw [f.1 4 k1, g.1 4 k4]
  exact b
theorem zA0_0 {t : Int32} (h : zA0 S M) : zA0 S (zmS M 0 t) := zA0_fr (W := []) (V := []) fm_rf (gm_S (k := 0)) (by decide) h
theorem zA0_54 (h : zA0 S M) : zA0 (F54 x1 x2 S) (r140 x1 x2 M) := zA0_fr fr_F54 gr_140 (by decide) h
theorem zA0_55 (h : zA0 S M) : zA0 (F55 x1 S) (r141 x1 M) := zA0_fr fr_F55 gr_141 (by decide) h
theorem zA0_56 (h : zA0 S M) : zA0 (F56 x1 x2 S) (r142 x1 x2 M) := zA0_fr fr_F56 gr_142 (by decide) h
theorem zA0_57 (h : zA0 S M) : zA0 (F57 x1 x2 x3 S) (r143 x1 x2 x3 M) := zA0_fr fr_F57 gr_143 (by decide) h
theorem zA0_58 (h : zA0 S M) : zA0 (F58 x1 x2 x3 S) (r144 x1 x2 x3 M) := zA0_fr fr_F58 gr_144 (by decide) h
theorem zA0_59 (h : zA0 S M) : zA0 (F59 x1 x2 x3 S) (r145 x1 x2 x3 M) := zA0_fr fr_F59 gr_145 (by decide) h
theorem zA0_60 (h : zA0 S M) : zA0 (F60 x1 x2 x3 x4 x5 S) (r146 x1 x2 x3 x4 x5 M) := zA0_fr fr_F60 gr_146 (by decide) h
theorem zA0_61 (h : zA0 S M) : zA0 (F61 x1 x2 S) (r147 x1 x2 M) := zA0_fr fr_F61 gr_147 (by decide) h
theorem zA0_62 (h : zA0 S M) : zA0 (F62 x1 x2 S) (r148 x1 x2 M) := zA0_fr fr_F62 gr_148 (by decide) h
theorem zA0_64 (h : zA0 S M) : zA0 (F64 S) (r151 M) := zA0_fr fr_F64 gr_151 (by decide) h
theorem zA0_65 (h : zA0 S M) : zA0 (F65 S) (r152 M) := zA0_fr fr_F65 gr_152 (by decide) h
theorem v112_1 {a b c : Int32} {M : zRt} : v112 a b c M = 0 ↔ ¬ (b.toInt ≤ a.toInt ∧ a.toInt ≤ c.toInt) := by
  unfold v112
  split
  · next z => exact ⟨fun _ k => by omega, fun _ => by decide⟩
  · next z =>
    split
    · next z2 => exact ⟨fun _ k => by omega, fun _ => by decide⟩
    · next z2 => exact ⟨fun k => absurd k (by decide), fun k => absurd ⟨by omega, by omega⟩ k⟩
theorem C85_ok : C85 x1 S = true ↔ 1 ≤ x1.toInt ∧ x1.toInt ≤ 100 := by
  have e0 : (Int32.ofInt 1).toInt = 1 := by decide
  have e2 : (Int32.ofInt 100).toInt = 100 := by decide
  unfold C85
  rw [e0, e2]
  by_cases a : x1.toInt < 1
  · rw [if_pos a]
    exact ⟨fun z => (by cases z), fun z => by omega⟩
  · rw [if_neg a]
    by_cases b : 100 < x1.toInt
    · rw [if_pos b]
      exact ⟨fun z => (by cases z), fun z => by omega⟩
    · rw [if_neg b]
      exact ⟨fun _ => by omega, fun _ => rfl⟩
/-- a tick, of both -/
theorem k_tick : (F105 (F46 S)).1 4 = S.1 4 + Int32.ofInt 1 := by
  rw [fr_F105.1 4 (by decide)]
  unfold F46
  rw [fr_X46.1 4 (by decide), (fr_W46 _).1 4 (by decide)]
  rfl
theorem r_tick : (r137 M).1 4 = M.1 4 + Int32.ofInt 1 := by
  unfold r137
  rw [gr_136.1 4 (by decide), gr_q137.1 4 (by decide), gr_135.1 4 (by decide)]
  rfl
theorem k_ticks {S9 : zSt} : ∀ k, (W63 x1 S9 S k).1 4 = S.1 4 + Int32.ofNat k
  | 0 => (Int32.add_zero _).symm
  | k + 1 => by
    show (D63 x1 S9 k (W63 x1 S9 S k)).1 4 = _
    unfold D63
    rw [k_tick, k_ticks k, Int32.add_assoc, zof1]
theorem r_ticks {M9 : zRt} : ∀ k, (w150 x1 M9 M k).1 4 = M.1 4 + Int32.ofNat k
  | 0 => (Int32.add_zero _).symm
  | k + 1 => by
    show (d150 x1 M9 k (w150 x1 M9 M k)).1 4 = _
    unfold d150
    rw [r_tick, r_ticks k, Int32.add_assoc, zof1]
/-- pass, of both -/
theorem zN_63 (h : zA0 S M) : zA0 (F63 x1 S) (r150 x1 M) ∧ ((∃ v, R63 x1 S = .inl (some (.int v)) ∧ v150 x1 M = v ∧ (r150 x1 M).1 0 = 0) ∨ (∃ E, R63 x1 S = .inr E ∧ (r150 x1 M).1 0 = kc_199 E)) := by
  have hh := h
  obtain ⟨⟨a1, a2, a3⟩, b1, b2, b3⟩ := h
  have e1 : (Int32.ofInt 1).toInt = 1 := by decide
  have e100 : (Int32.ofInt 100).toInt = 100 := by decide
  have e2000 : (Int32.ofInt 2000).toInt = 2000 := by decide
  have m4 : (zmS M 0 (Int32.ofInt 0)).1 4 = S.1 4 := b1.symm
  by_cases r1 : 1 ≤ x1.toInt ∧ x1.toInt ≤ 100
  · have c := C85_ok (S := S).mpr r1
    have nv : ¬ v112 x1 (Int32.ofInt 1) (Int32.ofInt 100) (zmS M 0 (Int32.ofInt 0)) = 0 := fun z => v112_1.mp z (by rw [e1, e100]; exact r1)
    by_cases t : (Int32.ofInt 2000).toInt < (S.1 4 + x1).toInt
    · have hR : R63 x1 S = .inr 2 := by
        unfold R63
        rw [if_pos c, if_pos t]
      have hF : F63 x1 S = S := by
        unfold F63
        rw [if_pos c, if_pos t]
      have hr : r150 x1 M = r111 (Int32.ofInt 2) (zmS M 0 (Int32.ofInt 0)) := by
        unfold r150
        rw [if_neg nv, m4, if_pos t]
      rw [hF, hr]
      exact ⟨zA0_0 (zA0_0 hh), Or.inr ⟨2, hR, show Int32.ofInt 2 = kc_199 2 by decide⟩⟩
    · have hR : R63 x1 S = .inl (some (.int (Y63 x1 S (W63 x1 S S x1.toInt.toNat)))) := by
        unfold R63
        rw [if_pos c, if_neg t]
      have hF : F63 x1 S = X63 x1 S (W63 x1 S S x1.toInt.toNat) := by
        unfold F63
        rw [if_pos c, if_neg t]
      have hr : r150 x1 M = x150 x1 M (w150 x1 M (zmS M 0 (Int32.ofInt 0)) x1.toInt.toNat) := by
        unfold r150
        rw [if_neg nv, m4, if_neg t]
      have hv : v150 x1 M = y150 x1 M (w150 x1 M (zmS M 0 (Int32.ofInt 0)) x1.toInt.toNat) := by
        unfold v150
        rw [if_neg nv, m4, if_neg t]
      have ex : Int32.ofNat x1.toInt.toNat = x1 := Int32.toInt_inj.mp (by rw [zofI (by omega)]; omega)
      have k1 : (W63 x1 S S x1.toInt.toNat).1 4 = S.1 4 + x1 := (k_ticks _).trans (by rw [ex])
      have k2 : (w150 x1 M (zmS M 0 (Int32.ofInt 0)) x1.toInt.toNat).1 4 = S.1 4 + x1 := (r_ticks _).trans (by rw [ex, m4])
      have k0 : (w150 x1 M (zmS M 0 (Int32.ofInt 0)) x1.toInt.toNat).1 0 = Int32.ofInt 0 := (gr_w150 _).1 0 (by decide)
      have sm : (S.1 4 + x1).toInt = (S.1 4).toInt + x1.toInt := by
        have := Int32.toInt_add (S.1 4) x1
        rw [zbm (by omega) (by omega)] at this
        exact this
      rw [hF, hr]
      refine ⟨⟨⟨?_, ?_, ?_⟩, ?_, ?_, ?_⟩, Or.inl ⟨_, hR, ?_, ?_⟩⟩
      · show ((W63 x1 S S x1.toInt.toNat).2 0).length = 16
        rw [(fr_W63 _).2.2 0]
        exact a1
      · show ((W63 x1 S S x1.toInt.toNat).2 1).length = 64
        rw [(fr_W63 _).2.2 1]
        exact a2
      · show ((w150 x1 M (zmS M 0 (Int32.ofInt 0)) x1.toInt.toNat).2.1 20).length = 20
        rw [(gr_w150 _).2.2.1 20]
        exact a3
      · show (W63 x1 S S x1.toInt.toNat).1 4 = (w150 x1 M (zmS M 0 (Int32.ofInt 0)) x1.toInt.toNat).1 4
        rw [k1, k2]
      · show 0 ≤ ((W63 x1 S S x1.toInt.toNat).1 4).toInt
        rw [k1]
        omega
      · show ((W63 x1 S S x1.toInt.toNat).1 4).toInt ≤ 2000
        rw [k1]
        omega
      · rw [hv]
        show (w150 x1 M (zmS M 0 (Int32.ofInt 0)) x1.toInt.toNat).1 4 = (W63 x1 S S x1.toInt.toNat).1 4
        rw [k1, k2]
      · show (w150 x1 M (zmS M 0 (Int32.ofInt 0)) x1.toInt.toNat).1 0 = 0
        rw [k0]
        decide
  · have nc : ¬ C85 x1 S = true := fun z => r1 (C85_ok.mp z)
    have pv : v112 x1 (Int32.ofInt 1) (Int32.ofInt 100) (zmS M 0 (Int32.ofInt 0)) = 0 := v112_1.mpr (by rw [e1, e100]; exact r1)
    have hR : R63 x1 S = .inr 0 := by
      unfold R63
      rw [if_neg nc]
    have hF : F63 x1 S = S := by
      unfold F63
      rw [if_neg nc]
    have hr : r150 x1 M = r111 (Int32.ofInt 1) (zmS M 0 (Int32.ofInt 0)) := by
      unfold r150
      rw [if_pos pv]
    rw [hF, hr]
    exact ⟨zA0_0 (zA0_0 hh), Or.inr ⟨0, hR, show Int32.ofInt 1 = kc_199 0 by decide⟩⟩
/-- code, of both -/
theorem zA0_53 {S1 : zSt} {k r : Nat} (mk : zMk S S1 k r) (h : zA0 S M) : zA0 (F53t S1) (r139 k r M) := by
  obtain ⟨⟨a1, a2, a3⟩, b⟩ := h
  obtain ⟨m1, m2, m3, m4, m5⟩ := mk
  have f : zfrm [2, 3, 9, 10, 11] [2, 3, 6, 7, 8, 9, 10, 11, 17] (F53t S1) S1 := by
    unfold F53t
    exact fm_c fr_F30 (fm_c fm_F (fm_c fr_F40 fm_rf (by decide) (by decide)) (by decide) (by decide)) (by decide) (by decide)
  have g : zfrM [] [0, 1, 2, 3, 4, 5, 6, 7, 8, 9, 10, 11, 12, 13, 14, 15, 16, 17, 18, 19, 20, 24] [] (r139 k r M) (q139 k r M) := by
    unfold r139
    exact gm_tr (gm_mo (gr_w139o 20) (by decide) (by decide) (by decide)) (gm_mo (gr_w139p 128) (by decide) (by decide) (by decide))
  refine ⟨⟨?_, ?_, ?_⟩, ?_⟩
  · rw [f.2.2 0]
    exact m3
  · rw [f.2.2 1, m4, zts_len]
  · rw [g.2.2.1 20]
    exact a3
  · rw [f.1 4 (by decide), g.1 4 (by decide), m1]
    exact b
end ZL3
/-! What the class and the reference have alike between two calls: the tick, the spares, the retired lines. -/
section ZL3B
variable {S S' : zSt} {M M' : zRt} {W V W2 V2 Y2 : List Nat} {x1 x2 x3 x4 x5 : Int32}
def zBr (S : zSt) (M : zRt) : Prop := (S.2 16 = M.2.1 23 ∧ (S.2 16).length = 2 ∧ ∀ x ∈ S.2 16, 0 ≤ x.toInt ∧ x.toInt ≤ 2) ∧ (S.2 18 = M.2.1 25 ∧ (S.2 18).length = 128 ∧ ∀ x ∈ S.2 18, x = 0 ∨ x = 1)
theorem zBr_fr (f : zfrm W V S' S) (g : zfrM W2 V2 Y2 M' M) (hk : 16 ∉ V ∧ 18 ∉ V ∧ 23 ∉ V2 ∧ 25 ∉ V2) (h : zBr S M) : zBr S' M' := by
  unfold zBr
  rw [f.2.1 16 hk.1, f.2.1 18 hk.2.1, g.2.1 23 hk.2.2.1, g.2.1 25 hk.2.2.2]
  exact h
def zAl (S : zSt) (M : zRt) : Prop := zA0 S M ∧ zBr S M
theorem zAl_fr (f : zfrm W V S' S) (g : zfrM W2 V2 Y2 M' M) (hk : (4 ∉ W ∧ 4 ∉ W2) ∧ 16 ∉ V ∧ 18 ∉ V ∧ 23 ∉ V2 ∧ 25 ∉ V2) (h : zAl S M) : zAl S' M' := ⟨zA0_fr f g hk.1 h.1, zBr_fr f g hk.2 h.2⟩
theorem zAl_0 {t : Int32} (h : zAl S M) : zAl S (zmS M 0 t) := zAl_fr (W := []) (V := []) fm_rf (gm_S (k := 0)) (by decide) h
theorem zAl_54 (h : zAl S M) : zAl (F54 x1 x2 S) (r140 x1 x2 M) := zAl_fr fr_F54 gr_140 (by decide) h
theorem zAl_55 (h : zAl S M) : zAl (F55 x1 S) (r141 x1 M) := zAl_fr fr_F55 gr_141 (by decide) h
theorem zAl_56 (h : zAl S M) : zAl (F56 x1 x2 S) (r142 x1 x2 M) := zAl_fr fr_F56 gr_142 (by decide) h
theorem zAl_57 (h : zAl S M) : zAl (F57 x1 x2 x3 S) (r143 x1 x2 x3 M) := zAl_fr fr_F57 gr_143 (by decide) h
theorem zAl_58 (h : zAl S M) : zAl (F58 x1 x2 x3 S) (r144 x1 x2 x3 M) := zAl_fr fr_F58 gr_144 (by decide) h
theorem zAl_59 (h : zAl S M) : zAl (F59 x1 x2 x3 S) (r145 x1 x2 x3 M) := zAl_fr fr_F59 gr_145 (by decide) h
theorem zAl_60 (h : zAl S M) : zAl (F60 x1 x2 x3 x4 x5 S) (r146 x1 x2 x3 x4 x5 M) := zAl_fr fr_F60 gr_146 (by decide) h
theorem zAl_64 (h : zAl S M) : zAl (F64 S) (r151 M) := zAl_fr fr_F64 gr_151 (by decide) h
theorem zAl_65 (h : zAl S M) : zAl (F65 S) (r152 M) := zAl_fr fr_F65 gr_152 (by decide) h
theorem zM_63 (h : zAl S M) : zAl (F63 x1 S) (r150 x1 M) ∧ ((∃ v, R63 x1 S = .inl (some (.int v)) ∧ v150 x1 M = v ∧ (r150 x1 M).1 0 = 0) ∨ (∃ E, R63 x1 S = .inr E ∧ (r150 x1 M).1 0 = kc_199 E)) := by
  obtain ⟨a, b⟩ := zN_63 (x1 := x1) h.1
  exact ⟨⟨a, zBr_fr fr_F63 gr_150 (by decide) h.2⟩, b⟩
theorem zAl_63 (h : zAl S M) : zAl (F63 x1 S) (r150 x1 M) := (zM_63 h).1
theorem zAl_53 {S1 : zSt} {k r : Nat} (mk : zMk S S1 k r) (h : zAl S M) : zAl (F53t S1) (r139 k r M) := by
  refine ⟨zA0_53 mk h.1, ?_⟩
  obtain ⟨m1, m2, m3, m4, m5⟩ := mk
  have f : zfrm [2, 3, 9, 10, 11] [2, 3, 6, 7, 8, 9, 10, 11, 17] (F53t S1) S1 := by
    unfold F53t
    exact fm_c fr_F30 (fm_c fm_F (fm_c fr_F40 fm_rf (by decide) (by decide)) (by decide) (by decide)) (by decide) (by decide)
  have g : zfrM [] [0, 1, 2, 3, 4, 5, 6, 7, 8, 9, 10, 11, 12, 13, 14, 15, 16, 17, 18, 19, 20, 24] [] (r139 k r M) (q139 k r M) := by
    unfold r139
    exact gm_tr (gm_mo (gr_w139o 20) (by decide) (by decide) (by decide)) (gm_mo (gr_w139p 128) (by decide) (by decide) (by decide))
  refine zBr_fr (S := S1) (M := q139 k r M) f g (by decide) ?_
  unfold zBr
  rw [m5 16 (by decide) (by decide), m5 18 (by decide) (by decide)]
  exact h.2
theorem zAl_5 (f : zfr [] [5] S.1 S.2 S'.1 S'.2) (h : zAl S M) : zAl S' M := by
  obtain ⟨⟨⟨b1, b2, b3⟩, b⟩, c⟩ := h
  refine ⟨⟨⟨by rw [f.2.1 0 (by decide)]; exact b1, by rw [f.2.1 1 (by decide)]; exact b2, b3⟩, ?_⟩, ?_⟩
  · rw [f.1 4 (by decide)]
    exact b
  · unfold zBr
    rw [f.2.1 16 (by decide), f.2.1 18 (by decide)]
    exact c
theorem C84_ok : C84 x1 x2 S = true ↔ (0 ≤ x1.toInt ∧ x1.toInt ≤ 1) ∧ (0 ≤ x2.toInt ∧ x2.toInt ≤ 7) := by
  have e0 : ((0 : Int32)).toInt = 0 := by decide
  have e2 : (Int32.ofInt 2).toInt = 2 := by decide
  have e8 : (Int32.ofInt 8).toInt = 8 := by decide
  unfold C84 C83
  rw [e0, e2, e8]
  by_cases a : x1.toInt < 0
  · rw [if_pos a, if_neg (by decide)]
    exact ⟨fun z => (by cases z), fun z => by omega⟩
  · rw [if_neg a]
    by_cases b : x1.toInt < 2
    · rw [if_pos b, if_pos rfl]
      by_cases c : x2.toInt < 0
      · rw [if_pos c]
        exact ⟨fun z => (by cases z), fun z => by omega⟩
      · rw [if_neg c]
        by_cases d : x2.toInt < 8
        · rw [if_pos d]
          exact ⟨fun _ => by omega, fun _ => rfl⟩
        · rw [if_neg d]
          exact ⟨fun z => (by cases z), fun z => by omega⟩
    · rw [if_neg b, if_neg (by decide)]
      exact ⟨fun z => (by cases z), fun z => by omega⟩
theorem C82_ok : C82 x1 S = true ↔ 0 ≤ x1.toInt ∧ x1.toInt ≤ 127 := by
  have e0 : ((0 : Int32)).toInt = 0 := by decide
  have e2 : (Int32.ofInt 128).toInt = 128 := by decide
  unfold C82
  rw [e0, e2]
  by_cases a : x1.toInt < 0
  · rw [if_pos a]
    exact ⟨fun z => (by cases z), fun z => by omega⟩
  · rw [if_neg a]
    by_cases b : x1.toInt < 128
    · rw [if_pos b]
      exact ⟨fun _ => by omega, fun _ => rfl⟩
    · rw [if_neg b]
      exact ⟨fun z => (by cases z), fun z => by omega⟩
theorem zin_ge9 {x : Int32} (h : 0 ≤ x.toInt) : ¬ x < 0 ∧ x.toNatClampNeg = x.toInt.toNat := by
  refine ⟨fun z => ?_, rfl⟩
  have z := zlt_z z
  rw [zero_z] at z
  omega
theorem zgt_mem9 {l : List Int32} {x : Int32} (h0 : 0 ≤ x.toInt) (h1 : x.toInt < l.length) : zgt l x ∈ l := by
  obtain ⟨a, b⟩ := zin_ge9 h0
  unfold zgt
  rw [if_neg a, b, List.getD_eq_getElem?_getD, List.getElem?_eq_getElem (by omega)]
  exact List.getElem_mem _
theorem zst_mem9 {l : List Int32} {x v w : Int32} (h : w ∈ zst l x v) : w = v ∨ w ∈ l := by
  unfold zst at h
  split at h
  · exact Or.inr h
  · exact (List.mem_or_eq_of_mem_set h).symm
theorem zst_ln9 {l : List Int32} {x v : Int32} : (zst l x v).length = l.length := by
  unfold zst
  split
  · rfl
  · exact List.length_set
theorem zgt_st9 {l : List Int32} {x v : Int32} (h0 : 0 ≤ x.toInt) (h1 : x.toInt < l.length) : zgt (zst l x v) x = v := by
  obtain ⟨a, b⟩ := zin_ge9 h0
  unfold zgt zst
  rw [if_neg a, if_neg a, b, List.getD_eq_getElem?_getD, List.getElem?_set_self (by omega)]
  rfl
theorem zup_29 {f : Nat → List Int32} {l l' : List Int32} : zup (zup f 23 l) 22 l' 23 = l := by
  unfold zup
  rw [if_neg (by decide), if_pos rfl]
theorem r147_ok (n1 : ¬ v112 x1 (Int32.ofInt 0) (Int32.ofInt 1) (zmS M 0 (Int32.ofInt 0)) = 0) (n2 : ¬ v112 x2 (Int32.ofInt 0) (Int32.ofInt 7) (zmS M 0 (Int32.ofInt 0)) = 0) (t : ¬ zgt ((zmS M 0 (Int32.ofInt 0)).2.1 23) x1 = Int32.ofInt 2) : (r147 x1 x2 M).2.1 23 = zst ((zmS M 0 (Int32.ofInt 0)).2.1 23) x1 (zgt ((zmS M 0 (Int32.ofInt 0)).2.1 23) x1 + Int32.ofInt 1) ∧ v147 x1 x2 M = zgt ((r147 x1 x2 M).2.1 23) x1 ∧ (r147 x1 x2 M).1 0 = Int32.ofInt 0 := by
  obtain ⟨a, b, c, e1, e2⟩ : ∃ a b c : Int32, r147 x1 x2 M = x147 x1 x2 a b c M (w147 x1 x2 a b c M (zmW (zmW (zmS M 0 (Int32.ofInt 0)) 23 x1 ((zgt ((zmS M 0 (Int32.ofInt 0)).2.1 23) x1) + (Int32.ofInt 1))) 22 a c) (Int32.ofInt 8).toInt.toNat) ∧ v147 x1 x2 M = y147 x1 x2 a b c M (w147 x1 x2 a b c M (zmW (zmW (zmS M 0 (Int32.ofInt 0)) 23 x1 ((zgt ((zmS M 0 (Int32.ofInt 0)).2.1 23) x1) + (Int32.ofInt 1))) 22 a c) (Int32.ofInt 8).toInt.toNat) := ⟨_, _, _, (if_neg n1).trans ((if_neg n2).trans (if_neg t)), (if_neg n1).trans ((if_neg n2).trans (if_neg t))⟩
  obtain ⟨Z, hZ⟩ : ∃ Z, Z = w147 x1 x2 a b c M (zmW (zmW (zmS M 0 (Int32.ofInt 0)) 23 x1 ((zgt ((zmS M 0 (Int32.ofInt 0)).2.1 23) x1) + (Int32.ofInt 1))) 22 a c) (Int32.ofInt 8).toInt.toNat := ⟨_, rfl⟩
  have z23 : Z.2.1 23 = zst ((zmS M 0 (Int32.ofInt 0)).2.1 23) x1 (zgt ((zmS M 0 (Int32.ofInt 0)).2.1 23) x1 + Int32.ofInt 1) := by
    rw [hZ, (gr_w147 _).2.1 23 (by decide)]
    exact zup_29 (f := (zmS M 0 (Int32.ofInt 0)).2.1) (l := (zst ((zmS M 0 (Int32.ofInt 0)).2.1 23) x1 (zgt ((zmS M 0 (Int32.ofInt 0)).2.1 23) x1 + Int32.ofInt 1))) (l' := zst (zup (zmS M 0 (Int32.ofInt 0)).2.1 23 (zst ((zmS M 0 (Int32.ofInt 0)).2.1 23) x1 (zgt ((zmS M 0 (Int32.ofInt 0)).2.1 23) x1 + Int32.ofInt 1)) 22) a c)
  have z0 : Z.1 0 = Int32.ofInt 0 := by
    rw [hZ, (gr_w147 _).1 0 (by decide)]
    rfl
  rw [← hZ] at e1 e2
  rw [e1, e2]
  exact ⟨z23, rfl, z0⟩
/-- spare, of both -/
theorem zM_61 (h : zAl S M) : zAl (F61 x1 x2 S) (r147 x1 x2 M) ∧ ((∃ v, R61 x1 x2 S = .inl (some (.int v)) ∧ v147 x1 x2 M = v ∧ (r147 x1 x2 M).1 0 = 0) ∨ (∃ E, R61 x1 x2 S = .inr E ∧ (r147 x1 x2 M).1 0 = kc_197 E)) := by
  have hh := h
  have h0 := zA0_61 (x1 := x1) (x2 := x2) h.1
  obtain ⟨-, ⟨c1, c2, c3⟩, d1, d2, d3⟩ := h
  have e0 : (Int32.ofInt 0).toInt = 0 := by decide
  have e1 : (Int32.ofInt 1).toInt = 1 := by decide
  have e2 : (Int32.ofInt 2).toInt = 2 := by decide
  have e7 : (Int32.ofInt 7).toInt = 7 := by decide
  have m23 : (zmS M 0 (Int32.ofInt 0)).2.1 23 = S.2 16 := c1.symm
  by_cases r1 : (0 ≤ x1.toInt ∧ x1.toInt ≤ 1) ∧ (0 ≤ x2.toInt ∧ x2.toInt ≤ 7)
  · have c := C84_ok (S := S).mpr r1
    have n1 : ¬ v112 x1 (Int32.ofInt 0) (Int32.ofInt 1) (zmS M 0 (Int32.ofInt 0)) = 0 := fun z => v112_1.mp z (by rw [e0, e1]; exact r1.1)
    have n2 : ¬ v112 x2 (Int32.ofInt 0) (Int32.ofInt 7) (zmS M 0 (Int32.ofInt 0)) = 0 := fun z => v112_1.mp z (by rw [e0, e7]; exact r1.2)
    have hm := c3 _ (zgt_mem9 (l := S.2 16) r1.1.1 (by rw [c2]; omega))
    by_cases t : zgt (S.2 16) x1 = Int32.ofInt 2
    · have nt : ¬ (zgt (S.2 16) x1).toInt < (Int32.ofInt 2).toInt := by
        rw [t]
        omega
      have hR : R61 x1 x2 S = .inr 2 := by
        unfold R61
        rw [if_pos c, if_neg nt]
      have hF : F61 x1 x2 S = S := by
        unfold F61
        rw [if_pos c, if_neg nt]
      have hr : r147 x1 x2 M = r111 (Int32.ofInt 2) (zmS M 0 (Int32.ofInt 0)) := by
        unfold r147
        rw [if_neg n1, if_neg n2, m23, if_pos t]
      rw [hF, hr]
      exact ⟨zAl_0 (zAl_0 hh), Or.inr ⟨2, hR, show Int32.ofInt 2 = kc_197 2 by decide⟩⟩
    · have lt : (zgt (S.2 16) x1).toInt < (Int32.ofInt 2).toInt := by
        rw [e2]
        have : (zgt (S.2 16) x1).toInt ≠ 2 := fun z => t (Int32.toInt_inj.mp (z.trans e2.symm))
        omega
      have ad : (zgt (S.2 16) x1 + Int32.ofInt 1).toInt = (zgt (S.2 16) x1).toInt + 1 := by
        have := Int32.toInt_add (zgt (S.2 16) x1) (Int32.ofInt 1)
        rw [e1, zbm (by omega) (by omega)] at this
        exact this
      have hR : R61 x1 x2 S = .inl (some (.int (zgt (S.2 16) x1 + Int32.ofInt 1))) := by
        unfold R61
        rw [if_pos c, if_pos lt]
      have hF : (F61 x1 x2 S).2 16 = zst (S.2 16) x1 (zgt (S.2 16) x1 + Int32.ofInt 1) ∧ (F61 x1 x2 S).2 18 = S.2 18 := by
        refine ⟨?_, fr_F61.2.1 18 (by decide)⟩
        unfold F61
        rw [if_pos c, if_pos lt]
        show zst ((F106 x1 x2 _ S).2 16) x1 _ = _
        rw [fr_F106.2.1 16 (by decide)]
      have hr := r147_ok (x1 := x1) (x2 := x2) n1 n2 (fun z => t (by rw [← m23]; exact z))
      rw [m23] at hr
      refine ⟨⟨h0, ?_⟩, Or.inl ⟨_, hR, ?_, hr.2.2⟩⟩
      · unfold zBr
        rw [hF.1, hF.2, hr.1, gr_147.2.1 25 (by decide)]
        refine ⟨⟨rfl, by rw [zst_ln9]; exact c2, fun x hx => ?_⟩, d1, d2, d3⟩
        rcases zst_mem9 hx with rfl | hx
        · rw [ad]
          omega
        · exact c3 _ hx
      · rw [hr.2.1, hr.1]
        exact zgt_st9 r1.1.1 (by rw [c2]; omega)
  · have nc : ¬ C84 x1 x2 S = true := fun z => r1 (C84_ok.mp z)
    have hR : R61 x1 x2 S = .inr 1 := by
      unfold R61
      rw [if_neg nc]
    have hF : F61 x1 x2 S = S := by
      unfold F61
      rw [if_neg nc]
    have hr : r147 x1 x2 M = r111 (Int32.ofInt 1) (zmS M 0 (Int32.ofInt 0)) := by
      unfold r147
      by_cases a : 0 ≤ x1.toInt ∧ x1.toInt ≤ 1
      · rw [if_neg (fun z => v112_1.mp z (by rw [e0, e1]; exact a)), if_pos (v112_1.mpr (by rw [e0, e7]; exact fun b => r1 ⟨a, b⟩))]
      · rw [if_pos (v112_1.mpr (by rw [e0, e1]; exact a))]
    rw [hF, hr]
    exact ⟨zAl_0 (zAl_0 hh), Or.inr ⟨1, hR, show Int32.ofInt 1 = kc_197 1 by decide⟩⟩
theorem zAl_61 (h : zAl S M) : zAl (F61 x1 x2 S) (r147 x1 x2 M) := (zM_61 h).1
theorem w149_sum {l3 u0 : Int32} (h : ∀ x ∈ M.2.1 25, x = 0 ∨ x = 1) : ∀ k, k ≤ (M.2.1 25).length → (M.2.1 25).length < 2147483648 → w149_72 l3 M u0 k = ((M.2.1 25).take k).foldl (· + ·) u0
  | 0, _, _ => rfl
  | k + 1, hk, hl => by
    show d149_72 l3 M k (w149_72 l3 M u0 k) = _
    rw [w149_sum h k (by omega) hl, List.take_add_one, List.getElem?_eq_getElem (by omega), List.foldl_append]
    have e : zgt (M.2.1 25) (Int32.ofNat k) = (M.2.1 25)[k] := by
      rw [zgt_n (by omega), List.getD_eq_getElem?_getD, List.getElem?_eq_getElem (by omega)]
      rfl
    unfold d149_72
    rw [e]
    have hm := h _ (List.getElem_mem (l := M.2.1 25) (n := k) (by omega))
    show _ = _ + (M.2.1 25)[k]
    rcases hm with z | z
    · rw [z, if_pos rfl]
      rfl
    · rw [z, if_neg (by decide)]
      rfl
theorem v149_sum (h : ∀ x ∈ M.2.1 25, x = 0 ∨ x = 1) (hl : (M.2.1 25).length = 128) : v149_72 M = zsum (M.2.1 25) := by
  unfold v149_72 y149_72
  rw [hl, show ((Int32.ofNat 128).toInt.toNat) = 128 by decide, w149_sum h _ (by omega) (by omega), ← hl, List.take_length]
  rfl
/-- retire, of both -/
theorem zM_62 (hx : x2 = 0 ∨ x2 = 1) (h : zAl S M) : zAl (F62 x1 x2 S) (r148 x1 x2 M) ∧ ((∃ v, R62 x1 x2 S = .inl (some (.int v)) ∧ v148 x1 x2 M = v ∧ (r148 x1 x2 M).1 0 = 0) ∨ (∃ E, R62 x1 x2 S = .inr E ∧ (r148 x1 x2 M).1 0 = kc_198 E)) := by
  have hh := h
  have h0 := zA0_62 (x1 := x1) (x2 := x2) h.1
  obtain ⟨-, ⟨c1, c2, c3⟩, d1, d2, d3⟩ := h
  have e0 : (Int32.ofInt 0).toInt = 0 := by decide
  have e7 : (Int32.ofInt 127).toInt = 127 := by decide
  by_cases r1 : 0 ≤ x1.toInt ∧ x1.toInt ≤ 127
  · have c := C82_ok (S := S).mpr r1
    have n1 : ¬ v138 x1 (zmS M 0 (Int32.ofInt 0)) = 0 := fun z => v112_1.mp z (by rw [e0, e7]; exact r1)
    have hR : R62 x1 x2 S = .inl (some (.int (zsum (zst (S.2 18) x1 x2)))) ∧ F62 x1 x2 S = zsR S 18 x1 x2 := by
      unfold R62 F62
      rw [if_pos c, if_pos c]
      rcases hx with rfl | rfl
      · rw [if_pos rfl, if_pos rfl]
        exact ⟨rfl, rfl⟩
      · rw [if_neg (by decide), if_neg (by decide)]
        exact ⟨rfl, rfl⟩
    have hr : r148 x1 x2 M = zmW (zmS M 0 (Int32.ofInt 0)) 25 x1 x2 := by
      unfold r148
      rw [if_neg n1]
    have hv : v148 x1 x2 M = v149_72 (zmW (zmS M 0 (Int32.ofInt 0)) 25 x1 x2) := by
      unfold v148
      rw [if_neg n1]
    have m25 : (zmW (zmS M 0 (Int32.ofInt 0)) 25 x1 x2).2.1 25 = zst (S.2 18) x1 x2 := by
      show zst (M.2.1 25) x1 x2 = _
      rw [← d1]
    have g3 : ∀ x ∈ zst (S.2 18) x1 x2, x = 0 ∨ x = 1 := fun x hx9 => by
      rcases zst_mem9 hx9 with rfl | hx9
      · exact hx
      · exact d3 _ hx9
    refine ⟨⟨h0, ?_⟩, Or.inl ⟨_, hR.1, ?_, ?_⟩⟩
    · rw [hR.2, hr]
      refine ⟨⟨c1, c2, c3⟩, m25.symm, ?_, g3⟩
      show (zst (S.2 18) x1 x2).length = 128
      rw [zst_ln9]
      exact d2
    · rw [hv, v149_sum (by rw [m25]; exact g3) (by rw [m25, zst_ln9]; exact d2), m25]
    · rw [hr]
      rfl
  · have nc : ¬ C82 x1 S = true := fun z => r1 (C82_ok.mp z)
    have pv : v138 x1 (zmS M 0 (Int32.ofInt 0)) = 0 := v112_1.mpr (by rw [e0, e7]; exact r1)
    have hR : R62 x1 x2 S = .inr 1 := by
      unfold R62
      rw [if_neg nc]
    have hF : F62 x1 x2 S = S := by
      unfold F62
      rw [if_neg nc]
    have hr : r148 x1 x2 M = r111 (Int32.ofInt 1) (zmS M 0 (Int32.ofInt 0)) := by
      unfold r148
      rw [if_pos pv]
    rw [hF, hr]
    exact ⟨zAl_0 (zAl_0 hh), Or.inr ⟨1, hR, show Int32.ofInt 1 = kc_198 1 by decide⟩⟩
theorem zAl_62 (hx : x2 = 0 ∨ x2 = 1) (h : zAl S M) : zAl (F62 x1 x2 S) (r148 x1 x2 M) := (zM_62 hx h).1
end ZL3B
