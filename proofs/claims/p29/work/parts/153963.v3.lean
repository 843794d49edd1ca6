/-! One relation: the tick, the spares, the retired lines, the lists of faults, where the rows lie. -/
section ZL3J
variable {S S' S1 : zSt} {M M' : zRt} {W V W2 V2 Y2 : List Nat} {x1 x2 x3 x4 x5 : Int32}
def zAm (S : zSt) (M : zRt) : Prop := zAl S M ∧ zCtw S M ∧ zLn S M
theorem zAm_54 (h : zAm S M) : zAm (F54 x1 x2 S) (r140 x1 x2 M) := ⟨zAl_54 h.1, zCtw_fr fr_F54 gr_140 (by decide) h.2.1, zLn_fr fr_F54 gr_140 (by decide) h.2.2⟩
theorem zAm_55 (h : zAm S M) : zAm (F55 x1 S) (r141 x1 M) := ⟨zAl_55 h.1, zCtw_fr fr_F55 gr_141 (by decide) h.2.1, zLn_fr fr_F55 gr_141 (by decide) h.2.2⟩
theorem zAm_56 (h : zAm S M) : zAm (F56 x1 x2 S) (r142 x1 x2 M) := ⟨zAl_56 h.1, zCtw_fr fr_F56 gr_142 (by decide) h.2.1, zLn_fr fr_F56 gr_142 (by decide) h.2.2⟩
theorem zAm_59 (h : zAm S M) : zAm (F59 x1 x2 x3 S) (r145 x1 x2 x3 M) := ⟨zAl_59 h.1, zCtw_fr fr_F59 gr_145 (by decide) h.2.1, zLn_fr fr_F59 gr_145 (by decide) h.2.2⟩
theorem zAm_60 (h : zAm S M) : zAm (F60 x1 x2 x3 x4 x5 S) (r146 x1 x2 x3 x4 x5 M) := ⟨zAl_60 h.1, zCtw_fr fr_F60 gr_146 (by decide) h.2.1, zLn_fr fr_F60 gr_146 (by decide) h.2.2⟩
theorem zAm_63 (h : zAm S M) : zAm (F63 x1 S) (r150 x1 M) := ⟨zAl_63 h.1, zCtw_fr fr_F63 gr_150 (by decide) h.2.1, zLn_fr fr_F63 gr_150 (by decide) h.2.2⟩
theorem zAm_64 (h : zAm S M) : zAm (F64 S) (r151 M) := ⟨zAl_64 h.1, zCtw_fr fr_F64 gr_151 (by decide) h.2.1, zLn_fr fr_F64 gr_151 (by decide) h.2.2⟩
theorem zAm_65 (h : zAm S M) : zAm (F65 S) (r152 M) := ⟨zAl_65 h.1, zCtw_fr fr_F65 gr_152 (by decide) h.2.1, zLn_fr fr_F65 gr_152 (by decide) h.2.2⟩
theorem zAm_57 (h : zAm S M) : zAm (F57 x1 x2 x3 S) (r143 x1 x2 x3 M) := ⟨zAl_57 h.1, (zM_57 h.2.1 h.2.2).1, zLn_fr fr_F57 gr_143 (by decide) h.2.2⟩
theorem zAm_58 (h : zAm S M) : zAm (F58 x1 x2 x3 S) (r144 x1 x2 x3 M) := ⟨zAl_58 h.1, (zM_58 h.2.1 h.2.2).1, zLn_fr fr_F58 gr_144 (by decide) h.2.2⟩
theorem zAm_61 (h : zAm S M) : zAm (F61 x1 x2 S) (r147 x1 x2 M) := ⟨zAl_61 h.1, zCtw_fr fr_F61 gr_147 (by decide) h.2.1, zLn_61 h.1 h.2.2⟩
theorem zAm_62 (hx : x2 = 0 ∨ x2 = 1) (h : zAm S M) : zAm (F62 x1 x2 S) (r148 x1 x2 M) := ⟨zAl_62 hx h.1, zCtw_fr fr_F62 gr_148 (by decide) h.2.1, zLn_fr fr_F62 gr_148 (by decide) h.2.2⟩
theorem zAm_fr (f : zfrm W V S' S) (g : zfrM W2 V2 Y2 M' M) (k1 : (4 ∉ W ∧ 4 ∉ W2) ∧ 16 ∉ V ∧ 18 ∉ V ∧ 23 ∉ V2 ∧ 25 ∉ V2) (k2 : (2 ∉ W ∧ 9 ∉ W ∧ 10 ∉ W) ∧ (6 ∉ V ∧ 7 ∉ V ∧ 8 ∉ V ∧ 9 ∉ V ∧ 10 ∉ V ∧ 11 ∉ V) ∧ (1 ∉ W2 ∧ 2 ∉ W2) ∧ 0 ∉ Y2 ∧ 1 ∉ Y2) (k3 : 15 ∉ V ∧ 22 ∉ V2) (h : zAm S M) : zAm S' M' := ⟨zAl_fr f g k1 h.1, zCtw_fr f g k2 h.2.1, zLn_fr f g k3 h.2.2⟩
theorem zAm_0 {t : Int32} (h : zAm S M) : zAm S (zmS M 0 t) := zAm_fr (W := []) (V := []) fm_rf (gm_S (k := 0)) (by decide) (by decide) (by decide) h
theorem zAm_5 (f : zfr [] [5] S.1 S.2 S'.1 S'.2) (h : zAm S M) : zAm S' M := by
  refine ⟨zAl_5 f h.1, ?_, ?_⟩
  · unfold zCtw
    rw [f.1 2 (by decide), f.1 9 (by decide), f.1 10 (by decide), f.2.1 6 (by decide), f.2.1 7 (by decide), f.2.1 8 (by decide), f.2.1 9 (by decide), f.2.1 10 (by decide), f.2.1 11 (by decide)]
    exact h.2.1
  · unfold zLn
    rw [f.2.1 15 (by decide)]
    exact h.2.2
theorem zAm_53 {k r : Nat} (hc : (k, r) ∈ zcds) (mk : zMk S S1 k r) (h : zAm S M) : zAm (F53t S1) (r139 k r M) := by
  refine ⟨zAl_53 mk h.1, zCtw_53 mk hc ?_ ?_ h.2.1, ?_⟩
  · rw [mk.1]
    rfl
  · rw [mk.1]
    exact ⟨rfl, rfl⟩
  · obtain ⟨m1, m2, m3, m4, m5⟩ := mk
    have f : zfrm [2, 3, 9, 10, 11] [2, 3, 6, 7, 8, 9, 10, 11, 17] (F53t S1) S1 := by
      unfold F53t
      exact fm_c fr_F30 (fm_c fm_F (fm_c fr_F40 fm_rf (by decide) (by decide)) (by decide) (by decide)) (by decide) (by decide)
    have g : zfrM [] [0, 1, 2, 3, 4, 5, 6, 7, 8, 9, 10, 11, 12, 13, 14, 15, 16, 17, 18, 19, 20, 24] [] (r139 k r M) (q139 k r M) := by
      unfold r139
      exact gm_tr (gm_mo (gr_w139o 20) (by decide) (by decide) (by decide)) (gm_mo (gr_w139p 128) (by decide) (by decide) (by decide))
    refine zLn_fr (S := S1) (M := q139 k r M) f g (by decide) ?_
    unfold zLn
    rw [m5 15 (by decide) (by decide)]
    exact h.2.2
end ZL3J
/-! Words, counts, poison, draws, the log, the plain ints: what the class and the reference have alike. -/
section ZL3K
variable {S S' : zSt} {M M' : zRt} {W V W2 V2 Y2 : List Nat} {u v w : Int32} {l p : Nat}
/-- the words -/
def zWd (S : zSt) (M : zRt) : Prop := (S.2 2).length = 160 ∧ (∀ l, l < 20 → (M.2.1 l).length = 8) ∧ ∀ l p, l < 20 → p < 8 → zgt (S.2 2) (Int32.ofNat (l * 8 + p)) = zgt (M.2.1 l) (Int32.ofNat p)
theorem zWd_fr (f : zfrm W V S' S) (g : zfrM W2 V2 Y2 M' M) (hk : 2 ∉ V ∧ ∀ l ∈ List.range 20, l ∉ V2) (h : zWd S M) : zWd S' M' := by
  obtain ⟨a, b, c⟩ := h
  refine ⟨by rw [f.2.1 2 hk.1]; exact a, fun l hl => by rw [g.2.1 l (hk.2 l (List.mem_range.mpr hl))]; exact b l hl, fun l p hl hp => ?_⟩
  rw [f.2.1 2 hk.1, g.2.1 l (hk.2 l (List.mem_range.mpr hl))]
  exact c l p hl hp
theorem zWd_st (h : zWd S M) (hl : l < 20) (hp : p < 8) : zWd (zsR S 2 (Int32.ofNat (l * 8 + p)) v) (zmR M (Int32.ofNat l) (Int32.ofNat p) v) := by
  obtain ⟨a, b, c⟩ := h
  have e : zmR M (Int32.ofNat l) (Int32.ofNat p) v = (M.1, zup M.2.1 l (zst (M.2.1 l) (Int32.ofNat p) v), M.2.2) := by
    unfold zmR
    rw [zcl_of (by omega), if_pos hl]
  have e2 : (zsR S 2 (Int32.ofNat (l * 8 + p)) v).2 2 = zst (S.2 2) (Int32.ofNat (l * 8 + p)) v := rfl
  have e3 : (zmR M (Int32.ofNat l) (Int32.ofNat p) v).2.1 l = zst (M.2.1 l) (Int32.ofNat p) v := by
    rw [e]
    exact zup_s
  have e4 : ∀ j, j ≠ l → (zmR M (Int32.ofNat l) (Int32.ofNat p) v).2.1 j = M.2.1 j := fun j hj => by
    rw [e]
    exact zup_n hj
  refine ⟨by rw [e2, zst_ln9]; exact a, fun j hj => ?_, fun j q hj hq => ?_⟩
  · by_cases z : j = l
    · rw [z, e3, zst_ln9]
      exact b l hl
    · rw [e4 j z]
      exact b j hj
  · rw [e2]
    by_cases z : j = l
    · subst z
      rw [e3]
      by_cases z2 : q = p
      · subst z2
        rw [zgt_eq9 (by rw [a]; omega) (by omega), zgt_eq9 (by rw [b j hj]; omega) (by omega)]
      · rw [zgt_ne9 (by omega) (by omega) (by omega), zgt_ne9 (by omega) (by omega) z2]
        exact c j q hj hq
    · rw [e4 j z, zgt_ne9 (by omega) (by omega) (by omega)]
      exact c j q hj hq
/-- the counts, since when, the poison -/
def zCn (S : zSt) (M : zRt) : Prop := (S.2 3 = M.2.1 20 ∧ (S.2 3).length = 20) ∧ (S.2 4 = M.2.1 21 ∧ (S.2 4).length = 20) ∧ (S.2 17 = M.2.1 24 ∧ (S.2 17).length = 128 ∧ ∀ x ∈ S.2 17, x = 0 ∨ x = 1)
theorem zCn_fr (f : zfrm W V S' S) (g : zfrM W2 V2 Y2 M' M) (hk : (3 ∉ V ∧ 4 ∉ V ∧ 17 ∉ V) ∧ 20 ∉ V2 ∧ 21 ∉ V2 ∧ 24 ∉ V2) (h : zCn S M) : zCn S' M' := by
  obtain ⟨⟨a1, a2, a3⟩, b1, b2, b3⟩ := hk
  unfold zCn
  rw [f.2.1 3 a1, f.2.1 4 a2, f.2.1 17 a3, g.2.1 20 b1, g.2.1 21 b2, g.2.1 24 b3]
  exact h
/-- the plain ints -/
def zSc (S : zSt) (M : zRt) : Prop := (S.1 5 = M.1 5 ∧ 1 ≤ (S.1 5).toInt) ∧ (S.1 6 = M.1 6 ∧ 1 ≤ (S.1 6).toInt) ∧ (S.1 14 = M.1 7 ∧ S.1 15 = M.1 8 ∧ S.1 16 = M.1 9) ∧ S.1 18 = M.1 13 ∧ S.1 12 = M.1 14 ∧ S.1 13 = M.1 15
theorem zSc_fr (f : zfrm W V S' S) (g : zfrM W2 V2 Y2 M' M) (hk : (∀ j ∈ [5, 6, 12, 13, 14, 15, 16, 18], j ∉ W) ∧ ∀ j ∈ [5, 6, 7, 8, 9, 13, 14, 15], j ∉ W2) (h : zSc S M) : zSc S' M' := by
  obtain ⟨a, b⟩ := hk
  unfold zSc
  rw [f.1 5 (a 5 (by decide)), f.1 6 (a 6 (by decide)), f.1 12 (a 12 (by decide)), f.1 13 (a 13 (by decide)), f.1 14 (a 14 (by decide)), f.1 15 (a 15 (by decide)), f.1 16 (a 16 (by decide)), f.1 18 (a 18 (by decide)),
    g.1 5 (b 5 (by decide)), g.1 6 (b 6 (by decide)), g.1 7 (b 7 (by decide)), g.1 8 (b 8 (by decide)), g.1 9 (b 9 (by decide)), g.1 13 (b 13 (by decide)), g.1 14 (b 14 (by decide)), g.1 15 (b 15 (by decide))]
  exact h
/-- where the patrol stands -/
def zSp (S : zSt) (M : zRt) : Prop := S.1 17 = M.1 10 ∧ 0 ≤ (S.1 17).toInt ∧ (S.1 17).toInt ≤ 127
theorem zSp_fr (f : zfrm W V S' S) (g : zfrM W2 V2 Y2 M' M) (hk : 17 ∉ W ∧ 10 ∉ W2) (h : zSp S M) : zSp S' M' := by
  unfold zSp
  rw [f.1 17 hk.1, g.1 10 hk.2]
  exact h
/-- what is drawn next -/
def zDr (S : zSt) (M : zRt) : Prop := S.1 8 = M.1 12 ∧ ∃ d : Nat, d < 251 ∧ S.1 7 = Int32.ofNat d ∧ ((M.1 11 = Int32.ofInt (-1) ∧ d = 5) ∨ ∃ e : Nat, e < 251 ∧ M.1 11 = Int32.ofNat e ∧ d = (17 * e + 43) % 251)
theorem zDr_fr (f : zfrm W V S' S) (g : zfrM W2 V2 Y2 M' M) (hk : 7 ∉ W ∧ 8 ∉ W ∧ 11 ∉ W2 ∧ 12 ∉ W2) (h : zDr S M) : zDr S' M' := by
  unfold zDr
  rw [f.1 7 hk.1, f.1 8 hk.2.1, g.1 11 hk.2.2.1, g.1 12 hk.2.2.2]
  exact h
theorem znx {e : Nat} (h : e < 251) : zrmd (Int32.ofInt 17 * Int32.ofNat e + Int32.ofInt 43) (Int32.ofInt 251) = Int32.ofNat ((17 * e + 43) % 251) ∧ ¬ Int32.ofNat e = Int32.ofInt (-1) ∧ zrmd (Int32.ofNat e) (Int32.ofInt 8) = Int32.ofNat (e % 8) := by
  have z : (List.range 251).all (fun e => (zrmd (Int32.ofInt 17 * Int32.ofNat e + Int32.ofInt 43) (Int32.ofInt 251) == Int32.ofNat ((17 * e + 43) % 251)) && (!(Int32.ofNat e == Int32.ofInt (-1)) && (zrmd (Int32.ofNat e) (Int32.ofInt 8) == Int32.ofNat (e % 8)))) = true := by decide +kernel
  have z := List.all_eq_true.mp z e (List.mem_range.mpr h)
  simp only [Bool.and_eq_true, Bool.not_eq_true', beq_eq_false_iff_ne] at z
  exact ⟨eq_of_beq z.1, z.2.1, eq_of_beq z.2.2⟩
theorem zDr_45 (h : zDr S M) : V45 S = v128 M ∧ (∃ d : Nat, d < 251 ∧ V45 S = Int32.ofNat d) ∧ zDr (F45 S) (r128 M) := by
  obtain ⟨h8, d, hd, e7, h11⟩ := h
  obtain ⟨n1, n2, -⟩ := znx hd
  have b1 : (F45 S).1 7 = Int32.ofNat ((17 * d + 43) % 251) := by
    rw [← n1, ← e7]
    rfl
  have b2 : (F45 S).1 8 = S.1 8 + Int32.ofInt 1 := rfl
  have b3 : (17 * d + 43) % 251 < 251 := Nat.mod_lt _ (by decide)
  rcases h11 with ⟨g1, g2⟩ | ⟨e, he, g1, g2⟩
  · have c1 : v128 M = Int32.ofInt 5 := by
      unfold v128
      rw [if_pos g1]
      rfl
    have c2 : r128 M = zmS (zmS M 11 (Int32.ofInt 5)) 12 (M.1 12 + Int32.ofInt 1) := by
      unfold r128
      rw [if_pos g1]
      rfl
    refine ⟨?_, ⟨d, hd, e7⟩, ?_⟩
    · rw [c1]
      show S.1 7 = _
      rw [e7, g2]
      rfl
    · rw [c2]
      refine ⟨?_, _, b3, b1, Or.inr ⟨d, hd, ?_, rfl⟩⟩
      · rw [b2, h8]
        rfl
      · rw [g2]
        rfl
  · obtain ⟨m1, m2, -⟩ := znx he
    have g3 : ¬ M.1 11 = Int32.ofInt (-1) := by
      rw [g1]
      exact m2
    have c0 : zrmd (Int32.ofInt 17 * M.1 11 + Int32.ofInt 43) (Int32.ofInt 251) = Int32.ofNat d := by
      rw [g1, m1, g2]
    have c1 : v128 M = Int32.ofNat d := by
      unfold v128
      rw [if_neg g3]
      exact c0
    have c2 : r128 M = zmS (zmS M 11 (Int32.ofNat d)) 12 (M.1 12 + Int32.ofInt 1) := by
      unfold r128
      rw [if_neg g3, c0]
      rfl
    refine ⟨?_, ⟨d, hd, e7⟩, ?_⟩
    · rw [c1]
      exact e7
    · rw [c2]
      refine ⟨?_, _, b3, b1, Or.inr ⟨d, hd, rfl, rfl⟩⟩
      rw [b2, h8]
      rfl
/-- the code -/
def zCo (S : zSt) (M : zRt) : Prop := ∃ k r : Nat, zRC S.1 S.2 k r ∧ M.1 1 = Int32.ofNat k ∧ M.1 2 = Int32.ofNat r ∧ M.2.2.2 = zcol k r ∧ S.1 3 = S.1 2
theorem zCo_fr (f : zfrm W V S' S) (g : zfrM W2 V2 Y2 M' M) (hk : (∀ j ∈ [0, 1, 2, 3], j ∉ W) ∧ (0 ∉ V ∧ 1 ∉ V) ∧ 1 ∉ W2 ∧ 2 ∉ W2 ∧ 9 ∉ Y2) (h : zCo S M) : zCo S' M' := by
  obtain ⟨a, ⟨b0, b1⟩, c1, c2, c3⟩ := hk
  obtain ⟨k, r, h1, h2, h3, h4, h5⟩ := h
  refine ⟨k, r, ?_, (g.1 1 c1).trans h2, (g.1 2 c2).trans h3, (g.2.2.2.2 c3).trans h4, by rw [f.1 3 (a 3 (by decide)), f.1 2 (a 2 (by decide))]; exact h5⟩
  unfold zRC
  rw [f.1 0 (a 0 (by decide)), f.1 1 (a 1 (by decide)), f.1 2 (a 2 (by decide)), f.2.1 0 b0, f.2.1 1 b1]
  exact h1
/-- the log -/
def zLe (S : zSt) (k : Nat) (e : List Int32) : Prop := ∃ (a : Nat) (b c : Int32), e = [Int32.ofNat a, b, c] ∧ a < 128 ∧ (b = Int32.ofInt (-1) ∨ ∃ j : Nat, j < 16 ∧ b = Int32.ofNat j) ∧ zgt (S.2 12) (Int32.ofNat k) = Int32.ofNat a ∧ zgt (S.2 13) (Int32.ofNat k) = b ∧ zgt (S.2 14) (Int32.ofNat k) = c
def zLg (S : zSt) (M : zRt) : Prop := S.1 11 = Int32.ofNat (M.2.2.1 2).length ∧ (M.2.2.1 2).length ≤ 40 ∧ ((S.2 12).length = 40 ∧ (S.2 13).length = 40 ∧ (S.2 14).length = 40) ∧ ∀ k e, (M.2.2.1 2)[k]? = some e → zLe S k e
theorem zLg_fr (f : zfrm W V S' S) (g : zfrM W2 V2 Y2 M' M) (hk : 11 ∉ W ∧ (12 ∉ V ∧ 13 ∉ V ∧ 14 ∉ V) ∧ 2 ∉ Y2) (h : zLg S M) : zLg S' M' := by
  obtain ⟨a, ⟨b1, b2, b3⟩, c⟩ := hk
  unfold zLg zLe
  rw [f.1 11 a, f.2.1 12 b1, f.2.1 13 b2, f.2.1 14 b3, g.2.2.2.1 2 c]
  exact h
/-- the tick -/
def zTk (S : zSt) (M : zRt) : Prop := S.1 4 = M.1 4
theorem zTk_fr (f : zfrm W V S' S) (g : zfrM W2 V2 Y2 M' M) (hk : 4 ∉ W ∧ 4 ∉ W2) (h : zTk S M) : zTk S' M' := (f.1 4 hk.1).trans (Eq.trans h (g.1 4 hk.2).symm)
def zB3 (S : zSt) (M : zRt) : Prop := zBr S M ∧ zCtw S M ∧ zLn S M
theorem zB3_fr (f : zfrm W V S' S) (g : zfrM W2 V2 Y2 M' M) (k1 : (∀ j ∈ [2, 9, 10], j ∉ W) ∧ ∀ j ∈ [6, 7, 8, 9, 10, 11, 15, 16, 18], j ∉ V) (k2 : (1 ∉ W2 ∧ 2 ∉ W2) ∧ (22 ∉ V2 ∧ 23 ∉ V2 ∧ 25 ∉ V2) ∧ 0 ∉ Y2 ∧ 1 ∉ Y2) (h : zB3 S M) : zB3 S' M' := by
  obtain ⟨a, b⟩ := k1
  obtain ⟨c1, ⟨c2, c3, c4⟩, c5⟩ := k2
  exact ⟨zBr_fr f g ⟨b 16 (by decide), b 18 (by decide), c3, c4⟩ h.1, zCtw_fr f g ⟨⟨a 2 (by decide), a 9 (by decide), a 10 (by decide)⟩, ⟨b 6 (by decide), b 7 (by decide), b 8 (by decide), b 9 (by decide), b 10 (by decide), b 11 (by decide)⟩, c1, c5⟩ h.2.1, zLn_fr f g ⟨b 15 (by decide), c2⟩ h.2.2⟩
/-- all else that is alike -/
def zX9 (S : zSt) (M : zRt) : Prop := zTk S M ∧ zWd S M ∧ zCn S M ∧ zSc S M ∧ zDr S M ∧ zCo S M ∧ zLg S M
def zE (S : zSt) (M : zRt) : Prop := zB3 S M ∧ zX9 S M
theorem zE_0 {t : Int32} (h : zE S M) : zE S (zmS M 0 t) := by
  obtain ⟨h1, ht, h2, h3, h4, h5, h6, h7⟩ := h
  have f : zfrm [] [] S S := fm_rf
  have g : zfrM [0] [] [] (zmS M 0 t) M := gm_S
  exact ⟨zB3_fr f g (by decide) (by decide) h1, zTk_fr f g (by decide) ht, zWd_fr f g (by decide) h2, zCn_fr f g (by decide) h3, zSc_fr f g (by decide) h4, zDr_fr f g (by decide) h5, zCo_fr f g (by decide) h6, zLg_fr f g (by decide) h7⟩
end ZL3K
/-! A put, a bit that is drawn, a line that is opened: of both. -/
section ZL3L
variable {S S' : zSt} {M M' : zRt} {u v w : Int32} {l p : Nat}
theorem zFe_ne {a b l p : Nat} (ha : a < 20) (hb : b < 8) (hl : l < 20) (hp : p < 8) : (Int32.ofNat (a * 8 + b) = Int32.ofNat (l * 8 + p)) ↔ (a = l ∧ b = p) := by
  constructor
  · intro e
    have e := congrArg Int32.toInt e
    rw [zof_0 (by omega), zof_0 (by omega)] at e
    omega
  · rintro ⟨rfl, rfl⟩
    rfl
theorem zof_l {a l : Nat} (ha : a < 1000) (hl : l < 1000) : (Int32.ofNat a = Int32.ofNat l) ↔ a = l := by
  constructor
  · intro e
    have e := congrArg Int32.toInt e
    rw [zof_0 (by omega), zof_0 (by omega)] at e
    omega
  · rintro rfl
    rfl
/-- what is stuck, of both -/
theorem zW42 (h : zFq (S.1 9) (S.2 6) (S.2 7) (S.2 8) (M.2.2.1 0)) (hl : l < 20) (hp : p < 8) : ∀ k, k ≤ (M.2.2.1 0).length → W42 (Int32.ofNat (l * 8 + p)) w S u k = w126 (Int32.ofNat l) (Int32.ofNat p) v M u k
  | 0, _ => rfl
  | k + 1, hk => by
    have ih := zW42 h hl hp k (by omega)
    have h24 := h.2.1
    show D42 _ _ S k (W42 _ _ S u k) = d126 _ _ _ M k (w126 _ _ _ M u k)
    rw [ih]
    obtain ⟨z, hz⟩ : ∃ z, z = w126 (Int32.ofNat l) (Int32.ofNat p) v M u k := ⟨_, rfl⟩
    rw [← hz]
    obtain ⟨a, b, c, d, e0, ha, hb, hc, e4, e5, e6⟩ := h.2.2.2 k _ (List.getElem?_eq_getElem (by omega))
    have eg : (M.2.2.1 0).getD (Int32.toNatClampNeg (Int32.ofNat k)) [] = [Int32.ofNat a, Int32.ofNat b, Int32.ofNat c, d] := by
      rw [zcl_of (by omega), List.getD_eq_getElem?_getD, List.getElem?_eq_getElem (by omega), ← e0]
      rfl
    unfold D42 d126
    rw [eg, e4, e5, e6]
    rw [show zgt [Int32.ofNat a, Int32.ofNat b, Int32.ofNat c, d] (Int32.ofInt 0) = Int32.ofNat a from rfl, show zgt [Int32.ofNat a, Int32.ofNat b, Int32.ofNat c, d] (Int32.ofInt 1) = Int32.ofNat b from rfl, show zgt [Int32.ofNat a, Int32.ofNat b, Int32.ofNat c, d] (Int32.ofInt 2) = Int32.ofNat c from rfl, show zgt [Int32.ofNat a, Int32.ofNat b, Int32.ofNat c, d] (Int32.ofInt 3) = d from rfl]
    by_cases q1 : a = l
    · by_cases q2 : b = p
      · rw [if_pos ((zFe_ne ha hb hl hp).mpr ⟨q1, q2⟩), if_pos ((zof_l (by omega) (by omega)).mpr q1), if_pos ((zof_l (by omega) (by omega)).mpr q2)]
      · rw [if_neg (fun y => q2 ((zFe_ne ha hb hl hp).mp y).2), if_pos ((zof_l (by omega) (by omega)).mpr q1), if_neg (fun y => q2 ((zof_l (by omega) (by omega)).mp y))]
    · rw [if_neg (fun y => q1 ((zFe_ne ha hb hl hp).mp y).1), if_neg (fun y => q1 ((zof_l (by omega) (by omega)).mp y))]
theorem zV42 (h : zFq (S.1 9) (S.2 6) (S.2 7) (S.2 8) (M.2.2.1 0)) (hl : l < 20) (hp : p < 8) : V42 (Int32.ofNat (l * 8 + p)) w S = w126 (Int32.ofNat l) (Int32.ofNat p) w M w (Int32.ofNat (M.2.2.1 0).length).toInt.toNat := by
  have h24 := h.2.1
  unfold V42 Y42
  rw [h.1]
  refine zW42 h hl hp _ ?_
  rw [zof_0 (by omega)]
  omega
theorem zWd_put (hq : zFq (S.1 9) (S.2 6) (S.2 7) (S.2 8) (M.2.2.1 0)) (h : zWd S M) (hl : l < 20) (hp : p < 8) : zWd (F41 (Int32.ofNat (l * 8 + p)) w S) (r126 (Int32.ofNat l) (Int32.ofNat p) w M) := by
  unfold F41 r126 x126
  rw [zV42 hq hl hp]
  exact zWd_st h hl hp
theorem zX_put (hq : zFq (S.1 9) (S.2 6) (S.2 7) (S.2 8) (M.2.2.1 0)) (h : zX9 S M) (hl : l < 20) (hp : p < 8) : zX9 (F41 (Int32.ofNat (l * 8 + p)) w S) (r126 (Int32.ofNat l) (Int32.ofNat p) w M) := by
  obtain ⟨ht, h2, h3, h4, h5, h6, h7⟩ := h
  have f := fr_F41 (x1 := Int32.ofNat (l * 8 + p)) (x2 := w) (S := S)
  have g := gr_126 (x1 := Int32.ofNat l) (x2 := Int32.ofNat p) (x3 := w) (M := M)
  exact ⟨zTk_fr f g (by decide) ht, zWd_put hq h2 hl hp, zCn_fr f g (by decide) h3, zSc_fr f g (by decide) h4, zDr_fr f g (by decide) h5, zCo_fr f g (by decide) h6, zLg_fr f g (by decide) h7⟩
theorem zE_put (h : zE S M) (hl : l < 20) (hp : p < 8) : zE (F41 (Int32.ofNat (l * 8 + p)) w S) (r126 (Int32.ofNat l) (Int32.ofNat p) w M) :=
  ⟨zB3_fr fr_F41 gr_126 (by decide) (by decide) h.1, zX_put h.1.2.1.2.1 h.2 hl hp⟩
theorem zE_45 (h : zE S M) : zE (F45 S) (r128 M) := by
  obtain ⟨h1, ht, h2, h3, h4, h5, h6, h7⟩ := h
  have f := fr_F45 (S := S)
  have g := gr_128 (M := M)
  exact ⟨zB3_fr f g (by decide) (by decide) h1, zTk_fr f g (by decide) ht, zWd_fr f g (by decide) h2, zCn_fr f g (by decide) h3, zSc_fr f g (by decide) h4, (zDr_45 h5).2.2, zCo_fr f g (by decide) h6, zLg_fr f g (by decide) h7⟩
/-- what is said of the parts of it -/
theorem zE_tk (h : zE S M) : S.1 4 = M.1 4 := h.2.1
theorem zE_w (h : zE S M) : zWd S M := h.2.2.1
theorem zE_c (h : zE S M) : zCn S M := h.2.2.2.1
theorem zE_s (h : zE S M) : zSc S M := h.2.2.2.2.1
theorem zE_d (h : zE S M) : zDr S M := h.2.2.2.2.2.1
theorem zE_co (h : zE S M) : zCo S M := h.2.2.2.2.2.2.1
theorem zE_lg (h : zE S M) : zLg S M := h.2.2.2.2.2.2.2
/-- a drawn bit of a line is turned, the reference's -/
def zt9 (x : Int32) (M : zRt) : zRt := r126 x (zrmd (v128 M) (Int32.ofInt 8)) ((zgt ((r128 M).2.1 (Int32.toNatClampNeg x)) (zrmd (v128 M) (Int32.ofInt 8))) ^^^ ((Int32.ofInt 1) <<< ((zrmd (v128 (r128 M)) ((r128 (r128 M)).1 1 + (r128 (r128 M)).1 2)) &&& 31))) (r128 (r128 M))
theorem zE_44 (h : zE S M) (hl : l < 20) : zE (F44 (Int32.ofNat l) S) (zt9 (Int32.ofNat l) M) := by
  obtain ⟨d1, ⟨d, hd, e1⟩, -⟩ := zDr_45 (zE_d h)
  have hB := zE_45 h
  obtain ⟨d2, -, -⟩ := zDr_45 (zE_d hB)
  have hC := zE_45 hB
  obtain ⟨n1, n2, n3⟩ := znx hd
  obtain ⟨k, r, c1, c2, c3, c4, c5⟩ := zE_co hC
  have b := zcds_kr _ c1.1
  have b1 := b.1
  have b2 := b.2.1
  have b4 := b.2.2.2.1
  simp only at b1 b2 b4
  have c6 := c1.2.2.2.1
  have c7 : (r128 (r128 M)).1 1 + (r128 (r128 M)).1 2 = (F45 (F45 S)).1 3 := by
    rw [c2, c3, c5, c6, Int32.ofNat_add]
  have c8 : (0 : Int32).toInt < ((F45 (F45 S)).1 3).toInt := by
    rw [c5, c6, zof_0 (by omega), zero_z]
    omega
  have ew : (F45 (F45 S)).2 2 = S.2 2 := rfl
  have er : (r128 M).2.1 l = M.2.1 l := gr_128.2.1 l List.not_mem_nil
  have e8 : Int32.ofNat l * Int32.ofInt 8 + Int32.ofNat (d % 8) = Int32.ofNat (l * 8 + d % 8) := by
    rw [show Int32.ofInt 8 = Int32.ofNat 8 from rfl, ← Int32.ofNat_mul, ← Int32.ofNat_add]
  unfold F44 zt9
  rw [if_pos c8, c7, ← d2, ← d1, e1, n3, e8, zcl_of (by omega), er, ew, (zE_w h).2.2 l (d % 8) hl (by omega)]
  exact zE_put hC hl (by omega)
theorem zE_q (h : zE S M) (hl : l < 20) : zE (zsR (zsR S 3 (Int32.ofNat l) (zgt (S.2 3) (Int32.ofNat l) + Int32.ofInt 1)) 4 (Int32.ofNat l) (S.1 4)) (q129 (Int32.ofNat l) M) := by
  obtain ⟨h1, ht, h2, h3, h4, h5, h6, h7⟩ := h
  have f : zfrm [] [3, 4] (zsR (zsR S 3 (Int32.ofNat l) (zgt (S.2 3) (Int32.ofNat l) + Int32.ofInt 1)) 4 (Int32.ofNat l) (S.1 4)) S := fm_c fm_R (fm_c fm_R fm_rf (by decide) (by decide)) (by decide) (by decide)
  have g := gr_q129 (x1 := Int32.ofNat l) (M := M)
  refine ⟨zB3_fr f g (by decide) (by decide) h1, zTk_fr f g (by decide) ht, zWd_fr f g (by decide) h2, ?_, zSc_fr f g (by decide) h4, zDr_fr f g (by decide) h5, zCo_fr f g (by decide) h6, zLg_fr f g (by decide) h7⟩
  obtain ⟨⟨a1, a2⟩, ⟨a3, a4⟩, a5⟩ := h3
  have t4 : S.1 4 = M.1 4 := ht
  have q20 : (q129 (Int32.ofNat l) M).2.1 20 = zst (M.2.1 20) (Int32.ofNat l) (zgt (M.2.1 20) (Int32.ofNat l) + Int32.ofInt 1) := rfl
  have q21 : (q129 (Int32.ofNat l) M).2.1 21 = zst (M.2.1 21) (Int32.ofNat l) (M.1 4) := rfl
  have q24 : (q129 (Int32.ofNat l) M).2.1 24 = M.2.1 24 := rfl
  have p3 : (zsR (zsR S 3 (Int32.ofNat l) (zgt (S.2 3) (Int32.ofNat l) + Int32.ofInt 1)) 4 (Int32.ofNat l) (S.1 4)).2 3 = zst (S.2 3) (Int32.ofNat l) (zgt (S.2 3) (Int32.ofNat l) + Int32.ofInt 1) := rfl
  have p4 : (zsR (zsR S 3 (Int32.ofNat l) (zgt (S.2 3) (Int32.ofNat l) + Int32.ofInt 1)) 4 (Int32.ofNat l) (S.1 4)).2 4 = zst (S.2 4) (Int32.ofNat l) (S.1 4) := rfl
  have p17 : (zsR (zsR S 3 (Int32.ofNat l) (zgt (S.2 3) (Int32.ofNat l) + Int32.ofInt 1)) 4 (Int32.ofNat l) (S.1 4)).2 17 = S.2 17 := rfl
  unfold zCn
  rw [q20, q21, q24, p3, p4, p17, zst_ln9, zst_ln9, ← a1, ← a3, ← t4]
  exact ⟨⟨rfl, a2⟩, ⟨rfl, a4⟩, a5⟩
theorem zt_mod {l : Nat} (hl : l < 20) : zrmd (Int32.ofNat l) (Int32.ofInt 10) = Int32.ofNat (l % 10) ∧ (Int32.ofNat (l % 10) + Int32.ofInt (-1)).toInt = ((l % 10 : Nat) : Int) - 1 ∧ (Int32.ofNat (l % 10) + (Int32.ofInt (-1) + Int32.ofInt 2)).toInt = ((l % 10 : Nat) : Int) + 1 := by
  have e : (List.range 20).all (fun l => decide (zrmd (Int32.ofNat l) (Int32.ofInt 10) = Int32.ofNat (l % 10) ∧ (Int32.ofNat (l % 10) + Int32.ofInt (-1)).toInt = ((l % 10 : Nat) : Int) - 1 ∧ (Int32.ofNat (l % 10) + (Int32.ofInt (-1) + Int32.ofInt 2)).toInt = ((l % 10 : Nat) : Int) + 1)) = true := by decide +kernel
  exact of_decide_eq_true (List.all_eq_true.mp e l (List.mem_range.mpr hl))
theorem zt_sub {l : Nat} (hl : l < 20) (h0 : 0 < l) : Int32.ofNat l - Int32.ofInt 1 = Int32.ofNat (l - 1) ∧ Int32.ofNat l + Int32.ofInt (-1) = Int32.ofNat (l - 1) := by
  have e : (List.range 20).all (fun l => decide (0 < l → Int32.ofNat l - Int32.ofInt 1 = Int32.ofNat (l - 1) ∧ Int32.ofNat l + Int32.ofInt (-1) = Int32.ofNat (l - 1))) = true := by decide +kernel
  exact of_decide_eq_true (List.all_eq_true.mp e l (List.mem_range.mpr hl)) h0
/-- both neighbours, the reference's -/
theorem zt_a (hl : l < 20) : t129 (Int32.ofNat l) (Int32.ofInt (-1)) M = if 0 < l % 10 then zt9 (Int32.ofNat (l - 1)) M else M := by
  obtain ⟨e1, e2, -⟩ := zt_mod hl
  have z0 : (Int32.ofInt 0).toInt = 0 := by decide
  have z9 : (Int32.ofInt 9).toInt = 9 := by decide
  by_cases q : 0 < l % 10
  · have q0 : 0 < l := by omega
    have nv : ¬ v112 (zrmd (Int32.ofNat l) (Int32.ofInt 10) + Int32.ofInt (-1)) (Int32.ofInt 0) (Int32.ofInt 9) M = 0 := fun z => v112_1.mp z (by rw [e1, e2, z0, z9]; omega)
    rw [if_pos q, ← (zt_sub hl q0).2]
    exact if_neg nv
  · rw [if_neg q]
    exact if_pos (v112_1.mpr (by rw [e1, e2, z0, z9]; omega))
theorem zt_b (hl : l < 20) : t129 (Int32.ofNat l) (Int32.ofInt (-1) + Int32.ofInt 2) M = if l % 10 < 9 then zt9 (Int32.ofNat (l + 1)) M else M := by
  obtain ⟨e1, -, e2⟩ := zt_mod hl
  have z0 : (Int32.ofInt 0).toInt = 0 := by decide
  have z9 : (Int32.ofInt 9).toInt = 9 := by decide
  by_cases q : l % 10 < 9
  · have nv : ¬ v112 (zrmd (Int32.ofNat l) (Int32.ofInt 10) + (Int32.ofInt (-1) + Int32.ofInt 2)) (Int32.ofInt 0) (Int32.ofInt 9) M = 0 := fun z => v112_1.mp z (by rw [e1, e2, z0, z9]; omega)
    rw [if_pos q, ← zof1, show Int32.ofInt 1 = Int32.ofInt (-1) + Int32.ofInt 2 by decide]
    exact if_neg nv
  · rw [if_neg q]
    exact if_pos (v112_1.mpr (by rw [e1, e2, z0, z9]; omega))
theorem zE_43 (h : zE S M) (hl : l < 20) : zE (F43 (Int32.ofNat l) S) (r129 (Int32.ofNat l) M) := by
  have hq := zE_q h hl
  obtain ⟨e1, -, -⟩ := zt_mod hl
  have z0 : (0 : Int32).toInt = 0 := zero_z
  have z9 : (Int32.ofInt 9).toInt = 9 := by decide
  have c20 : zgt ((q129 (Int32.ofNat l) M).2.1 20) (Int32.ofNat l) = zgt (S.2 3) (Int32.ofNat l) + Int32.ofInt 1 := by
    rw [← (zE_c hq).1.1]
    exact zgt_eq9 (l := S.2 3) (by rw [(zE_c h).1.2]; omega) (by omega)
  have l6 : S.1 6 = M.1 6 := (zE_s h).2.1.1
  have p6 : (0 : Int32).toInt < (S.1 6).toInt := by
    have := (zE_s h).2.1.2
    rw [z0]
    omega
  have x4 : (zsR S 3 (Int32.ofNat l) (zgt (S.2 3) (Int32.ofNat l) + Int32.ofInt 1)).1 4 = S.1 4 := rfl
  have em : (zrmd (Int32.ofNat l) (Int32.ofInt 10)).toInt = ((l % 10 : Nat) : Int) := by
    rw [e1, zof_0 (by omega)]
  obtain ⟨Q, hQ⟩ : ∃ Q, Q = zsR (zsR S 3 (Int32.ofNat l) (zgt (S.2 3) (Int32.ofNat l) + Int32.ofInt 1)) 4 (Int32.ofNat l) (S.1 4) := ⟨_, rfl⟩
  have x6 : Q.1 6 = S.1 6 := by
    rw [hQ]
  unfold F43 r129
  rw [x4, c20, ← hQ, x6, ← l6, if_pos p6]
  rw [← hQ] at hq
  by_cases q : zrmd (zgt (S.2 3) (Int32.ofNat l) + Int32.ofInt 1) (S.1 6) = 0
  · rw [if_pos q, if_pos q, zt_a hl, zt_b hl, em, z0, z9]
    by_cases a : 0 < l % 10
    · have a1 : (0 : Int) < ((l % 10 : Nat) : Int) := by omega
      have hA : zE (F44 (Int32.ofNat l - Int32.ofInt 1) Q) (zt9 (Int32.ofNat (l - 1)) (q129 (Int32.ofNat l) M)) := by
        rw [(zt_sub hl (by omega)).1]
        exact zE_44 hq (by omega)
      rw [if_pos a1, if_pos a]
      by_cases b : l % 10 < 9
      · rw [if_pos (by omega), if_pos b, zof1]
        exact zE_44 hA (by omega)
      · rw [if_neg (by omega), if_neg b]
        exact hA
    · rw [if_neg (by omega), if_neg a, if_pos (by omega), if_pos (by omega), zof1]
      exact zE_44 hq (by omega)
  · rw [if_neg q, if_neg q]
    exact hq
end ZL3L
