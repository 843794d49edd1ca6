/-! The lists of faults: columns of the class, elements of the reference. -/
section ZL3C
variable {n d w : Int32} {ra rb rc : List Int32} {l : List (List Int32)}
def zFe (ra rb rc : List Int32) (k : Nat) (e : List Int32) : Prop := ∃ (a b c : Nat) (d : Int32), e = [Int32.ofNat a, Int32.ofNat b, Int32.ofNat c, d] ∧ a < 20 ∧ b < 8 ∧ c < 16 ∧ zgt ra (Int32.ofNat k) = Int32.ofNat (a * 8 + b) ∧ zgt rb (Int32.ofNat k) = Int32.ofInt 1 <<< (Int32.ofNat c &&& 31) ∧ zgt rc (Int32.ofNat k) = d
def zFq (n : Int32) (ra rb rc : List Int32) (l : List (List Int32)) : Prop := n = Int32.ofNat l.length ∧ l.length ≤ 24 ∧ (ra.length = 24 ∧ rb.length = 24 ∧ rc.length = 24) ∧ ∀ k e, l[k]? = some e → zFe ra rb rc k e
theorem zof_0 {i : Nat} (h : i < 2147483648) : (Int32.ofNat i).toInt = (i : Int) := Int32.toInt_ofNat_of_lt h
theorem zgt_ne9 {l : List Int32} {i j : Nat} {v : Int32} (hi : i < 1000) (hj : j < 1000) (ne : i ≠ j) : zgt (zst l (Int32.ofNat j) v) (Int32.ofNat i) = zgt l (Int32.ofNat i) := by
  obtain ⟨a, b⟩ := zin_ge9 (x := Int32.ofNat j) (by rw [zof_0 (by omega)]; omega)
  rw [zgt_n (by omega), zgt_n (by omega)]
  unfold zst
  rw [if_neg a, b, zof_0 (by omega), List.getD_eq_getElem?_getD, List.getD_eq_getElem?_getD, List.getElem?_set_ne (by omega)]
theorem zgt_eq9 {l : List Int32} {i : Nat} {v : Int32} (hi : i < l.length) (h : i < 1000) : zgt (zst l (Int32.ofNat i) v) (Int32.ofNat i) = v := zgt_st9 (by rw [zof_0 (by omega)]; omega) (by rw [zof_0 (by omega)]; omega)
theorem zFq_push {a b c : Nat} (h : zFq n ra rb rc l) (hl : l.length < 24) (ha : a < 20) (hb : b < 8) (hc : c < 16) : zFq (n + Int32.ofInt 1) (zst ra n (Int32.ofNat (a * 8 + b))) (zst rb n (Int32.ofInt 1 <<< (Int32.ofNat c &&& 31))) (zst rc n d) (l ++ [[Int32.ofNat a, Int32.ofNat b, Int32.ofNat c, d]]) := by
  obtain ⟨rfl, h2, ⟨h3, h4, h5⟩, h6⟩ := h
  refine ⟨by rw [zof1, List.length_append]; rfl, by simp; omega, ⟨by rw [zst_ln9]; exact h3, by rw [zst_ln9]; exact h4, by rw [zst_ln9]; exact h5⟩, fun k e hk => ?_⟩
  by_cases hkl : k < l.length
  · rw [List.getElem?_append_left hkl] at hk
    obtain ⟨a, b, c, d, e0, e1, e2, e3, e4, e5, e6⟩ := h6 k e hk
    exact ⟨a, b, c, d, e0, e1, e2, e3, by rw [zgt_ne9 (by omega) (by omega) (by omega)]; exact e4, by rw [zgt_ne9 (by omega) (by omega) (by omega)]; exact e5, by rw [zgt_ne9 (by omega) (by omega) (by omega)]; exact e6⟩
  · have hk2 := (List.getElem?_eq_some_iff.mp hk).1
    rw [List.length_append] at hk2
    have hk2 : k < l.length + 1 := hk2
    obtain rfl : k = l.length := by omega
    rw [List.getElem?_append_right (Nat.le_refl _), Nat.sub_self] at hk
    cases hk
    exact ⟨a, b, c, d, rfl, ha, hb, hc, zgt_eq9 (by omega) (by omega), zgt_eq9 (by omega) (by omega), zgt_eq9 (by omega) (by omega)⟩
/-- a mask is below the width's when its bit is -/
theorem zmsk {c w : Nat} (hc : c < 16) (hw : w ≤ 16) : (Int32.ofInt 1 <<< (Int32.ofNat c &&& 31)).toInt < (Int32.ofInt 1 <<< (Int32.ofNat w &&& 31)).toInt ↔ (Int32.ofNat c).toInt < (Int32.ofNat w).toInt := by
  have e : (List.range 16).all (fun c => (List.range 17).all (fun w => decide ((Int32.ofInt 1 <<< (Int32.ofNat c &&& 31)).toInt < (Int32.ofInt 1 <<< (Int32.ofNat w &&& 31)).toInt) == decide ((Int32.ofNat c).toInt < (Int32.ofNat w).toInt))) = true := by decide +kernel
  have z := List.all_eq_true.mp (List.all_eq_true.mp e c (List.mem_range.mpr hc)) w (List.mem_range.mpr (by omega))
  have z := eq_of_beq z
  constructor
  · intro k
    rw [decide_eq_true k] at z
    exact of_decide_eq_true z.symm
  · intro k
    rw [decide_eq_true k] at z
    exact of_decide_eq_true z
end ZL3C
/-! The list 15 of faults under code: what is kept. -/
section ZL3D15
variable {S u u0 S0 : zSt} {a b c w told : Int32} {l : List (List Int32)}
theorem F21_ok15 (h : V20_15 u = 0) : (F21_15 a b c u).1 9 = u.1 9 + Int32.ofInt 1 ∧ (F21_15 a b c u).2 6 = zst (u.2 6) (u.1 9) a ∧ (F21_15 a b c u).2 7 = zst (u.2 7) (u.1 9) b ∧ (F21_15 a b c u).2 8 = zst (u.2 8) (u.1 9) c := by
  unfold F21_15
  rw [if_pos h]
  exact ⟨rfl, rfl, rfl, rfl⟩
theorem V20_ok15 {j : Nat} (e : u.1 9 = Int32.ofNat j) (hj : j ≤ 24) : V20_15 u = 0 ↔ j < 24 := by
  have e24 : (Int32.ofInt 24).toInt = 24 := by decide
  unfold V20_15
  rw [e, zof_0 (by omega), e24]
  split
  · next z => exact ⟨fun _ => by omega, fun _ => by decide⟩
  · next z => exact ⟨fun k => absurd k (by decide), fun k => absurd (by omega) z⟩
theorem zFq_flt15 {W : Nat} (hW : W ≤ 16) (h : zFq (S.1 9) (S.2 6) (S.2 7) (S.2 8) l) : ∀ k, k ≤ l.length → zFq ((W22_15 (Int32.ofNat W) told S0 (zsS S 9 (Int32.ofInt 0)) k).1 9) ((W22_15 (Int32.ofNat W) told S0 (zsS S 9 (Int32.ofInt 0)) k).2 6) ((W22_15 (Int32.ofNat W) told S0 (zsS S 9 (Int32.ofInt 0)) k).2 7) ((W22_15 (Int32.ofNat W) told S0 (zsS S 9 (Int32.ofInt 0)) k).2 8) (zflt (Int32.ofNat W) l k) ∧ ∀ i, k ≤ i → i < l.length → zgt ((W22_15 (Int32.ofNat W) told S0 (zsS S 9 (Int32.ofInt 0)) k).2 6) (Int32.ofNat i) = zgt (S.2 6) (Int32.ofNat i) ∧ zgt ((W22_15 (Int32.ofNat W) told S0 (zsS S 9 (Int32.ofInt 0)) k).2 7) (Int32.ofNat i) = zgt (S.2 7) (Int32.ofNat i) ∧ zgt ((W22_15 (Int32.ofNat W) told S0 (zsS S 9 (Int32.ofInt 0)) k).2 8) (Int32.ofNat i) = zgt (S.2 8) (Int32.ofNat i)
  | 0, _ => ⟨⟨rfl, Nat.zero_le _, h.2.2.1, fun k e hk => by cases hk⟩, fun i _ _ => ⟨rfl, rfl, rfl⟩⟩
  | k + 1, hk => by
    obtain ⟨g, g2⟩ := zFq_flt15 hW h k (by omega)
    have hl := h.2.1
    obtain ⟨v1, v2, v3⟩ := g2 k (Nat.le_refl _) (by omega)
    obtain ⟨A, B, C, d, e0, e1, e2, e3, e4, e5, e6⟩ := h.2.2.2 k _ (List.getElem?_eq_getElem (by omega))
    have eg : l.getD k [] = [Int32.ofNat A, Int32.ofNat B, Int32.ofNat C, d] := by
      rw [List.getD_eq_getElem?_getD, List.getElem?_eq_getElem (by omega), ← e0]
      rfl
    show zFq ((D22_15 (Int32.ofNat W) told S0 k (W22_15 (Int32.ofNat W) told S0 (zsS S 9 (Int32.ofInt 0)) k)).1 9) ((D22_15 (Int32.ofNat W) told S0 k (W22_15 (Int32.ofNat W) told S0 (zsS S 9 (Int32.ofInt 0)) k)).2 6) ((D22_15 (Int32.ofNat W) told S0 k (W22_15 (Int32.ofNat W) told S0 (zsS S 9 (Int32.ofInt 0)) k)).2 7) ((D22_15 (Int32.ofNat W) told S0 k (W22_15 (Int32.ofNat W) told S0 (zsS S 9 (Int32.ofInt 0)) k)).2 8) (if (zgt (l.getD k []) (Int32.ofInt 2)).toInt < (Int32.ofNat W).toInt then zflt (Int32.ofNat W) l k ++ [l.getD k []] else zflt (Int32.ofNat W) l k) ∧ ∀ i, k + 1 ≤ i → i < l.length → zgt ((D22_15 (Int32.ofNat W) told S0 k (W22_15 (Int32.ofNat W) told S0 (zsS S 9 (Int32.ofInt 0)) k)).2 6) (Int32.ofNat i) = zgt (S.2 6) (Int32.ofNat i) ∧ zgt ((D22_15 (Int32.ofNat W) told S0 k (W22_15 (Int32.ofNat W) told S0 (zsS S 9 (Int32.ofInt 0)) k)).2 7) (Int32.ofNat i) = zgt (S.2 7) (Int32.ofNat i) ∧ zgt ((D22_15 (Int32.ofNat W) told S0 k (W22_15 (Int32.ofNat W) told S0 (zsS S 9 (Int32.ofInt 0)) k)).2 8) (Int32.ofNat i) = zgt (S.2 8) (Int32.ofNat i)
    obtain ⟨u, hu⟩ : ∃ u, u = W22_15 (Int32.ofNat W) told S0 (zsS S 9 (Int32.ofInt 0)) k := ⟨_, rfl⟩
    rw [← hu] at g g2 v1 v2 v3 ⊢
    have hj := zflt_len (w := Int32.ofNat W) (src := l) k
    rw [eg]
    have e7 : zgt [Int32.ofNat A, Int32.ofNat B, Int32.ofNat C, d] (Int32.ofInt 2) = Int32.ofNat C := rfl
    rw [e7]
    have eq := zmsk e3 hW
    by_cases cd : (Int32.ofNat C).toInt < (Int32.ofNat W).toInt
    · have eD : D22_15 (Int32.ofNat W) told S0 k u = F21_15 (zgt (u.2 6) (Int32.ofNat k)) (zgt (u.2 7) (Int32.ofNat k)) (zgt (u.2 8) (Int32.ofNat k)) u := by
        unfold D22_15
        rw [v2, e5, if_pos (eq.mpr cd)]
      obtain ⟨f1, f2, f3, f4⟩ := F21_ok15 (a := zgt (u.2 6) (Int32.ofNat k)) (b := zgt (u.2 7) (Int32.ofNat k)) (c := zgt (u.2 8) (Int32.ofNat k)) ((V20_ok15 g.1 g.2.1).mpr (by omega))
      rw [if_pos cd, eD, f1, f2, f3, f4]
      refine ⟨?_, fun i i1 i2 => ?_⟩
      · rw [v1, v2, v3, e4, e5, e6]
        exact zFq_push g (by omega) e1 e2 e3
      · obtain ⟨p1, p2, p3⟩ := g2 i (by omega) i2
        rw [g.1, zgt_ne9 (by omega) (by omega) (by omega), zgt_ne9 (by omega) (by omega) (by omega), zgt_ne9 (by omega) (by omega) (by omega)]
        exact ⟨p1, p2, p3⟩
    · have eD : D22_15 (Int32.ofNat W) told S0 k u = u := by
        unfold D22_15
        rw [v2, e5, if_neg (fun z => cd (eq.mp z))]
      rw [if_neg cd, eD]
      exact ⟨g, fun i i1 i2 => g2 i (by omega) i2⟩
theorem zFq_F2215 {W : Nat} (hW : W ≤ 16) (h : zFq (S.1 9) (S.2 6) (S.2 7) (S.2 8) l) : zFq ((F22_15 (Int32.ofNat W) S).1 9) ((F22_15 (Int32.ofNat W) S).2 6) ((F22_15 (Int32.ofNat W) S).2 7) ((F22_15 (Int32.ofNat W) S).2 8) (zflt (Int32.ofNat W) l l.length) := by
  have hl := h.2.1
  have e : (S.1 9).toInt.toNat = l.length := by
    rw [h.1, zof_0 (by omega)]
    omega
  unfold F22_15 X22_15
  rw [e]
  exact (zFq_flt15 hW h l.length (Nat.le_refl _)).1
end ZL3D15
/-! The list 22 of faults under code: what is kept. -/
section ZL3D22
variable {S u u0 S0 : zSt} {a b c w told : Int32} {l : List (List Int32)}
theorem F21_ok22 (h : V20_22 u = 0) : (F21_22 a b c u).1 10 = u.1 10 + Int32.ofInt 1 ∧ (F21_22 a b c u).2 9 = zst (u.2 9) (u.1 10) a ∧ (F21_22 a b c u).2 10 = zst (u.2 10) (u.1 10) b ∧ (F21_22 a b c u).2 11 = zst (u.2 11) (u.1 10) c := by
  unfold F21_22
  rw [if_pos h]
  exact ⟨rfl, rfl, rfl, rfl⟩
theorem V20_ok22 {j : Nat} (e : u.1 10 = Int32.ofNat j) (hj : j ≤ 24) : V20_22 u = 0 ↔ j < 24 := by
  have e24 : (Int32.ofInt 24).toInt = 24 := by decide
  unfold V20_22
  rw [e, zof_0 (by omega), e24]
  split
  · next z => exact ⟨fun _ => by omega, fun _ => by decide⟩
  · next z => exact ⟨fun k => absurd k (by decide), fun k => absurd (by omega) z⟩
theorem zFq_flt22 {W : Nat} (hW : W ≤ 16) (h : zFq (S.1 10) (S.2 9) (S.2 10) (S.2 11) l) : ∀ k, k ≤ l.length → zFq ((W22_22 (Int32.ofNat W) told S0 (zsS S 10 (Int32.ofInt 0)) k).1 10) ((W22_22 (Int32.ofNat W) told S0 (zsS S 10 (Int32.ofInt 0)) k).2 9) ((W22_22 (Int32.ofNat W) told S0 (zsS S 10 (Int32.ofInt 0)) k).2 10) ((W22_22 (Int32.ofNat W) told S0 (zsS S 10 (Int32.ofInt 0)) k).2 11) (zflt (Int32.ofNat W) l k) ∧ ∀ i, k ≤ i → i < l.length → zgt ((W22_22 (Int32.ofNat W) told S0 (zsS S 10 (Int32.ofInt 0)) k).2 9) (Int32.ofNat i) = zgt (S.2 9) (Int32.ofNat i) ∧ zgt ((W22_22 (Int32.ofNat W) told S0 (zsS S 10 (Int32.ofInt 0)) k).2 10) (Int32.ofNat i) = zgt (S.2 10) (Int32.ofNat i) ∧ zgt ((W22_22 (Int32.ofNat W) told S0 (zsS S 10 (Int32.ofInt 0)) k).2 11) (Int32.ofNat i) = zgt (S.2 11) (Int32.ofNat i)
  | 0, _ => ⟨⟨rfl, Nat.zero_le _, h.2.2.1, fun k e hk => by cases hk⟩, fun i _ _ => ⟨rfl, rfl, rfl⟩⟩
  | k + 1, hk => by
    obtain ⟨g, g2⟩ := zFq_flt22 hW h k (by omega)
    have hl := h.2.1
    obtain ⟨v1, v2, v3⟩ := g2 k (Nat.le_refl _) (by omega)
    obtain ⟨A, B, C, d, e0, e1, e2, e3, e4, e5, e6⟩ := h.2.2.2 k _ (List.getElem?_eq_getElem (by omega))
    have eg : l.getD k [] = [Int32.ofNat A, Int32.ofNat B, Int32.ofNat C, d] := by
      rw [List.getD_eq_getElem?_getD, List.getElem?_eq_getElem (by omega), ← e0]
      rfl
    show zFq ((D22_22 (Int32.ofNat W) told S0 k (W22_22 (Int32.ofNat W) told S0 (zsS S 10 (Int32.ofInt 0)) k)).1 10) ((D22_22 (Int32.ofNat W) told S0 k (W22_22 (Int32.ofNat W) told S0 (zsS S 10 (Int32.ofInt 0)) k)).2 9) ((D22_22 (Int32.ofNat W) told S0 k (W22_22 (Int32.ofNat W) told S0 (zsS S 10 (Int32.ofInt 0)) k)).2 10) ((D22_22 (Int32.ofNat W) told S0 k (W22_22 (Int32.ofNat W) told S0 (zsS S 10 (Int32.ofInt 0)) k)).2 11) (if (zgt (l.getD k []) (Int32.ofInt 2)).toInt < (Int32.ofNat W).toInt then zflt (Int32.ofNat W) l k ++ [l.getD k []] else zflt (Int32.ofNat W) l k) ∧ ∀ i, k + 1 ≤ i → i < l.length → zgt ((D22_22 (Int32.ofNat W) told S0 k (W22_22 (Int32.ofNat W) told S0 (zsS S 10 (Int32.ofInt 0)) k)).2 9) (Int32.ofNat i) = zgt (S.2 9) (Int32.ofNat i) ∧ zgt ((D22_22 (Int32.ofNat W) told S0 k (W22_22 (Int32.ofNat W) told S0 (zsS S 10 (Int32.ofInt 0)) k)).2 10) (Int32.ofNat i) = zgt (S.2 10) (Int32.ofNat i) ∧ zgt ((D22_22 (Int32.ofNat W) told S0 k (W22_22 (Int32.ofNat W) told S0 (zsS S 10 (Int32.ofInt 0)) k)).2 11) (Int32.ofNat i) = zgt (S.2 11) (Int32.ofNat i)
    obtain ⟨u, hu⟩ : ∃ u, u = W22_22 (Int32.ofNat W) told S0 (zsS S 10 (Int32.ofInt 0)) k := ⟨_, rfl⟩
    rw [← hu] at g g2 v1 v2 v3 ⊢
    have hj := zflt_len (w := Int32.ofNat W) (src := l) k
    rw [eg]
    have e7 : zgt [Int32.ofNat A, Int32.ofNat B, Int32.ofNat C, d] (Int32.ofInt 2) = Int32.ofNat C := rfl
    rw [e7]
    have eq := zmsk e3 hW
    by_cases cd : (Int32.ofNat C).toInt < (Int32.ofNat W).toInt
    · have eD : D22_22 (Int32.ofNat W) told S0 k u = F21_22 (zgt (u.2 9) (Int32.ofNat k)) (zgt (u.2 10) (Int32.ofNat k)) (zgt (u.2 11) (Int32.ofNat k)) u := by
        unfold D22_22
        rw [v2, e5, if_pos (eq.mpr cd)]
      obtain ⟨f1, f2, f3, f4⟩ := F21_ok22 (a := zgt (u.2 9) (Int32.ofNat k)) (b := zgt (u.2 10) (Int32.ofNat k)) (c := zgt (u.2 11) (Int32.ofNat k)) ((V20_ok22 g.1 g.2.1).mpr (by omega))
      rw [if_pos cd, eD, f1, f2, f3, f4]
      refine ⟨?_, fun i i1 i2 => ?_⟩
      · rw [v1, v2, v3, e4, e5, e6]
        exact zFq_push g (by omega) e1 e2 e3
      · obtain ⟨p1, p2, p3⟩ := g2 i (by omega) i2
        rw [g.1, zgt_ne9 (by omega) (by omega) (by omega), zgt_ne9 (by omega) (by omega) (by omega), zgt_ne9 (by omega) (by omega) (by omega)]
        exact ⟨p1, p2, p3⟩
    · have eD : D22_22 (Int32.ofNat W) told S0 k u = u := by
        unfold D22_22
        rw [v2, e5, if_neg (fun z => cd (eq.mp z))]
      rw [if_neg cd, eD]
      exact ⟨g, fun i i1 i2 => g2 i (by omega) i2⟩
theorem zFq_F2222 {W : Nat} (hW : W ≤ 16) (h : zFq (S.1 10) (S.2 9) (S.2 10) (S.2 11) l) : zFq ((F22_22 (Int32.ofNat W) S).1 10) ((F22_22 (Int32.ofNat W) S).2 9) ((F22_22 (Int32.ofNat W) S).2 10) ((F22_22 (Int32.ofNat W) S).2 11) (zflt (Int32.ofNat W) l l.length) := by
  have hl := h.2.1
  have e : (S.1 10).toInt.toNat = l.length := by
    rw [h.1, zof_0 (by omega)]
    omega
  unfold F22_22 X22_22
  rw [e]
  exact (zFq_flt22 hW h l.length (Nat.le_refl _)).1
end ZL3D22
/-! The lists of faults under code: both lists, of the class as a whole. -/
section ZL3E
variable {S S' S1 : zSt} {M M' : zRt} {W V W2 V2 Y2 : List Nat} {l0 l1 : List (List Int32)}
theorem zFq_F40 {w : Nat} (hW : w ≤ 16) (h0 : zFq (S.1 9) (S.2 6) (S.2 7) (S.2 8) l0) (h1 : zFq (S.1 10) (S.2 9) (S.2 10) (S.2 11) l1) : zFq ((F40 (Int32.ofNat w) S).1 9) ((F40 (Int32.ofNat w) S).2 6) ((F40 (Int32.ofNat w) S).2 7) ((F40 (Int32.ofNat w) S).2 8) (zflt (Int32.ofNat w) l0 l0.length) ∧ zFq ((F40 (Int32.ofNat w) S).1 10) ((F40 (Int32.ofNat w) S).2 9) ((F40 (Int32.ofNat w) S).2 10) ((F40 (Int32.ofNat w) S).2 11) (zflt (Int32.ofNat w) l1 l1.length) := by
  have q0 := zFq_F2215 (S := zsS S 3 (Int32.ofNat w)) hW h0
  have f0 := fr_F22_15 (x1 := Int32.ofNat w) (S := zsS S 3 (Int32.ofNat w))
  obtain ⟨B, hB⟩ : ∃ B, B = F22_15 (Int32.ofNat w) (zsS S 3 (Int32.ofNat w)) := ⟨_, rfl⟩
  rw [← hB] at q0 f0
  have b3 : B.1 3 = Int32.ofNat w := (f0.1 3 (by decide)).trans rfl
  have q1 : zFq ((F22_22 (Int32.ofNat w) B).1 10) ((F22_22 (Int32.ofNat w) B).2 9) ((F22_22 (Int32.ofNat w) B).2 10) ((F22_22 (Int32.ofNat w) B).2 11) (zflt (Int32.ofNat w) l1 l1.length) := by
    refine zFq_F2222 (S := B) hW ?_
    rw [f0.1 10 (by decide), f0.2.1 9 (by decide), f0.2.1 10 (by decide), f0.2.1 11 (by decide)]
    exact h1
  have f1 := fr_F22_22 (x1 := Int32.ofNat w) (S := B)
  obtain ⟨C, hC⟩ : ∃ C, C = F22_22 (Int32.ofNat w) B := ⟨_, rfl⟩
  rw [← hC] at q1 f1
  have f2 : zfrm [] [2, 3] (F40 (Int32.ofNat w) S) C := by
    have e : F40 (Int32.ofNat w) S = X40 (Int32.ofNat w) (zsF C 3 (Int32.ofInt 0)) (W40 (Int32.ofNat w) (zsF C 3 (Int32.ofInt 0)) (zsF C 3 (Int32.ofInt 0)) (Int32.ofInt 160).toInt.toNat) := by
      have a3 : (zsS S 3 (Int32.ofNat w)).1 3 = Int32.ofNat w := rfl
      unfold F40
      rw [a3, ← hB, b3, ← hC]
    rw [e]
    exact fm_c fr_X40 (fm_c (fr_W40 _) (fm_c fm_F fm_rf (by decide) (by decide)) (by decide) (by decide)) (by decide) (by decide)
  rw [f2.1 9 (by decide), f2.1 10 (by decide), f2.2.1 6 (by decide), f2.2.1 7 (by decide), f2.2.1 8 (by decide), f2.2.1 9 (by decide), f2.2.1 10 (by decide), f2.2.1 11 (by decide)]
  refine ⟨?_, q1⟩
  rw [f1.1 9 (by decide), f1.2.1 6 (by decide), f1.2.1 7 (by decide), f1.2.1 8 (by decide)]
  exact q0
/-- the code's numbers and both lists -/
def zCtw (S : zSt) (M : zRt) : Prop := (∃ k r : Nat, (k, r) ∈ zcds ∧ M.1 1 = Int32.ofNat k ∧ M.1 2 = Int32.ofNat r ∧ S.1 2 = Int32.ofNat (k + r)) ∧ zFq (S.1 9) (S.2 6) (S.2 7) (S.2 8) (M.2.2.1 0) ∧ zFq (S.1 10) (S.2 9) (S.2 10) (S.2 11) (M.2.2.1 1)
theorem zCtw_fr (f : zfrm W V S' S) (g : zfrM W2 V2 Y2 M' M) (hk : (2 ∉ W ∧ 9 ∉ W ∧ 10 ∉ W) ∧ (6 ∉ V ∧ 7 ∉ V ∧ 8 ∉ V ∧ 9 ∉ V ∧ 10 ∉ V ∧ 11 ∉ V) ∧ (1 ∉ W2 ∧ 2 ∉ W2) ∧ 0 ∉ Y2 ∧ 1 ∉ Y2) (h : zCtw S M) : zCtw S' M' := by
  obtain ⟨⟨k1, k2, k3⟩, ⟨v1, v2, v3, v4, v5, v6⟩, ⟨w1, w2⟩, y1, y2⟩ := hk
  unfold zCtw
  rw [f.1 2 k1, f.1 9 k2, f.1 10 k3, f.2.1 6 v1, f.2.1 7 v2, f.2.1 8 v3, f.2.1 9 v4, f.2.1 10 v5, f.2.1 11 v6, g.1 1 w1, g.1 2 w2, g.2.2.2.1 0 y1, g.2.2.2.1 1 y2]
  exact h
theorem zCtw_53 {k r : Nat} (mk : zMk S S1 k r) (hc : (k, r) ∈ zcds) (e2 : S1.1 2 = Int32.ofNat (k + r)) (e9 : S1.1 9 = S.1 9 ∧ S1.1 10 = S.1 10) (h : zCtw S M) : zCtw (F53t S1) (r139 k r M) := by
  obtain ⟨m1, m2, m3, m4, m5⟩ := mk
  obtain ⟨-, h0, h1⟩ := h
  have b := zcds_kr _ hc
  have g : zfrM [] [0, 1, 2, 3, 4, 5, 6, 7, 8, 9, 10, 11, 12, 13, 14, 15, 16, 17, 18, 19, 20, 24] [] (r139 k r M) (q139 k r M) := by
    unfold r139
    exact gm_tr (gm_mo (gr_w139o 20) (by decide) (by decide) (by decide)) (gm_mo (gr_w139p 128) (by decide) (by decide) (by decide))
  have f : zfrm [11] [17] (F53t S1) (F40 (S1.1 2) S1) := by
    unfold F53t
    exact fm_c fr_F30 (fm_c fm_F fm_rf (by decide) (by decide)) (by decide) (by decide)
  have hk := b.2.1
  have hr := b.2.2.2.1
  simp only at hk hr
  have q := zFq_F40 (S := S1) (w := k + r) (l0 := M.2.2.1 0) (l1 := M.2.2.1 1) (by omega) (by
    rw [e9.1, m5 6 (by decide) (by decide), m5 7 (by decide) (by decide), m5 8 (by decide) (by decide)]
    exact h0) (by
    rw [e9.2, m5 9 (by decide) (by decide), m5 10 (by decide) (by decide), m5 11 (by decide) (by decide)]
    exact h1)
  rw [← e2] at q
  have z : Int32.ofNat (k + r) = Int32.ofNat k + Int32.ofNat r := Int32.ofNat_add k r
  refine ⟨⟨k, r, hc, (g.1 1 (by decide)).trans rfl, (g.1 2 (by decide)).trans rfl, ?_⟩, ?_, ?_⟩
  · rw [f.1 2 (by decide), fr_F40.1 2 (by decide)]
    exact e2
  · rw [f.1 9 (by decide), f.2.1 6 (by decide), f.2.1 7 (by decide), f.2.1 8 (by decide), g.2.2.2.1 0 (by decide)]
    show zFq _ _ _ _ (zflt (Int32.ofNat k + Int32.ofNat r) (M.2.2.1 0) (M.2.2.1 0).length)
    rw [← z, ← e2]
    exact q.1
  · rw [f.1 10 (by decide), f.2.1 9 (by decide), f.2.1 10 (by decide), f.2.1 11 (by decide), g.2.2.2.1 1 (by decide)]
    show zFq _ _ _ _ (zflt (Int32.ofNat k + Int32.ofNat r) (M.2.2.1 1) (M.2.2.1 1).length)
    rw [← z, ← e2]
    exact q.2
end ZL3E
