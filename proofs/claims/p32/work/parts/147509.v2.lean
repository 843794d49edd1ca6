/-! The class's code and the reference's, side by side. -/
/-- the class's rows tell the columns c of k and r -/
def zRC (s : Nat → Int32) (a : Nat → List Int32) (k r : Nat) : Prop := (k, r) ∈ zcds ∧ s 0 = Int32.ofNat k ∧ s 1 = Int32.ofNat r ∧ s 2 = Int32.ofNat (k + r) ∧ (∃ t, a 0 = zcol k r ++ t) ∧ a 1 = zts (zcol k r) (k + r)
section ZPL
variable {s : Nat → Int32} {a : Nat → List Int32} {k r : Nat} {w : Int32}
theorem zcds_kr : ∀ q ∈ zcds, 4 ≤ q.1 ∧ q.1 ≤ 10 ∧ 4 ≤ q.2 ∧ q.2 ≤ 6 ∧ (zcol q.1 q.2).length = q.1 + q.2 := by
  have e : zcds.all (fun q => decide (4 ≤ q.1 ∧ q.1 ≤ 10 ∧ 4 ≤ q.2 ∧ q.2 ≤ 6 ∧ (zcol q.1 q.2).length = q.1 + q.2)) = true := by decide +kernel
  exact fun q hq => of_decide_eq_true (List.all_eq_true.mp e q hq)
theorem zRC_syn (h : zRC s a k r) : zsyn (zco a) w (zwi s) = zsm (zcol k r) w := by
  obtain ⟨h1, h2, h3, h4, ⟨t, h5⟩, h6⟩ := h
  obtain ⟨b1, b2, b3, b4, b5⟩ := zcds_kr _ h1
  have b5 : (zcol k r).length = k + r := b5
  have b2 : k ≤ 10 := b2
  have b4 : r ≤ 6 := b4
  have e : zwi s = (zcol k r).length := by
    show (s 2).toInt.toNat = _
    rw [h4, zofI (by omega), b5]
    rfl
  rw [e]
  refine zsyn_congr _ (fun j hj => ?_)
  show zgt (a 0) (Int32.ofNat j) = (zcol k r).getD j 0
  rw [zgt_n (by omega), h5, List.getD_eq_getElem?_getD, List.getD_eq_getElem?_getD, List.getElem?_append_left hj]
theorem zRC_lo (h : (k, r) ∈ zcds) : zl64 (zsm (zcol k r) w) := zsyn_l (fun j => zcol_l _ h j) _
theorem zRC_turn (h : zRC s a k r) : ztu s a w = ztn (zcol k r) (zsm (zcol k r) w) := by
  show zgt (a 1) (zsyn (zco a) w (zwi s)) = _
  rw [zRC_syn h]
  obtain ⟨n, hn, e⟩ := zRC_lo (w := w) h.1
  rw [e, h.2.2.2.2.2]
  exact zcds_tn _ h.1 n hn
/-- a column's place is below 16 -/
theorem zfn_lt (x : Int32) : ∀ (c : List Int32) (i : Nat), zfn c x i = Int32.ofInt (-1) ∨ ∃ j, i ≤ j ∧ j < i + c.length ∧ zfn c x i = Int32.ofNat j
  | [], _ => Or.inl rfl
  | y :: c, i => by
    by_cases e : y = x
    · exact Or.inr ⟨i, Nat.le_refl _, by simp, if_pos e⟩
    · have z : zfn (y :: c) x i = zfn c x (i + 1) := if_neg e
      rcases zfn_lt x c (i + 1) with g | ⟨j, g1, g2, g3⟩
      · exact Or.inl (z.trans g)
      · exact Or.inr ⟨j, by omega, by simp; omega, z.trans g3⟩
theorem zsh16 : ∀ j, j < 16 → ¬ Int32.ofInt 1 <<< (Int32.ofNat j &&& 31) = 0 ∧ ¬ Int32.ofInt 1 <<< (Int32.ofNat j &&& 31) = Int32.ofInt (-1) ∧ zbc (Int32.ofInt 1 <<< (Int32.ofNat j &&& 31) - Int32.ofInt 1) = Int32.ofNat j ∧ ¬ Int32.ofNat j = Int32.ofInt (-1) ∧ 0 < Int32.ofInt 1 <<< (Int32.ofNat j &&& 31) := by
  have e : (List.range 16).all (fun j => decide (¬ Int32.ofInt 1 <<< (Int32.ofNat j &&& 31) = 0 ∧ ¬ Int32.ofInt 1 <<< (Int32.ofNat j &&& 31) = Int32.ofInt (-1) ∧ zbc (Int32.ofInt 1 <<< (Int32.ofNat j &&& 31) - Int32.ofInt 1) = Int32.ofNat j ∧ ¬ Int32.ofNat j = Int32.ofInt (-1) ∧ 0 < Int32.ofInt 1 <<< (Int32.ofNat j &&& 31))) = true := by decide +kernel
  exact fun j hj => of_decide_eq_true (List.all_eq_true.mp e j (List.mem_range.mpr hj))
/-- a word's turn, bit and kind: clean, mended or bad -/
theorem zRC_3 (h : zRC s a k r) : (ztu s a w = 0 ∧ zkd (zcol k r) w = 0 ∧ zsm (zcol k r) w = 0) ∨ (∃ j, j < 16 ∧ ztu s a w = Int32.ofInt 1 <<< (Int32.ofNat j &&& 31) ∧ zkd (zcol k r) w = 1 ∧ zbm9 (zcol k r) w = Int32.ofNat j ∧ ¬ zsm (zcol k r) w = 0) ∨ (ztu s a w = Int32.ofInt (-1) ∧ zkd (zcol k r) w = 2 ∧ zbm9 (zcol k r) w = Int32.ofInt (-1) ∧ ¬ zsm (zcol k r) w = 0) := by
  rw [zRC_turn h]
  unfold zkd ztn
  by_cases e : zsm (zcol k r) w = 0
  · exact Or.inl ⟨if_pos e, if_pos e, e⟩
  · rw [if_neg e, if_neg e]
    obtain ⟨b1, b2, b3, b4, b5⟩ := zcds_kr _ h.1
    have b5 : (zcol k r).length = k + r := b5
    have b2 : k ≤ 10 := b2
    have b4 : r ≤ 6 := b4
    rcases zfn_lt (zsm (zcol k r) w) (zcol k r) 0 with g | ⟨j, g1, g2, g3⟩
    · exact Or.inr (Or.inr ⟨if_pos g, if_pos g, g, e⟩)
    · have z := zsh16 j (by omega)
      refine Or.inr (Or.inl ⟨j, by omega, ?_, ?_, g3, e⟩)
      · rw [g3, if_neg z.2.2.2.1]
      · rw [show zbm9 (zcol k r) w = Int32.ofNat j from g3, if_neg z.2.2.2.1]
/-- verdicts -/
theorem zRC_vd (h : zRC s a k r) : zvd (ztu s a w) = zkd (zcol k r) w := by
  rcases zRC_3 (w := w) h with ⟨a1, a2, -⟩ | ⟨j, hj, a1, a2, a3, -⟩ | ⟨a1, a2, a3, -⟩
  · rw [a1, a2]
    decide
  · have z := zsh16 j hj
    rw [a1, a2]
    unfold zvd
    rw [if_neg z.1, if_neg z.2.1]
  · rw [a1, a2]
    decide
/-- bits -/
theorem zRC_bo (h : zRC s a k r) : zbo (ztu s a w) = if zkd (zcol k r) w = Int32.ofInt 1 then zbm9 (zcol k r) w else Int32.ofInt (-1) := by
  rcases zRC_3 (w := w) h with ⟨a1, a2, -⟩ | ⟨j, hj, a1, a2, a3, -⟩ | ⟨a1, a2, a3, -⟩
  · rw [a1, a2, if_neg (by decide)]
    decide
  · have z := zsh16 j hj
    rw [a1, a2, a3, if_pos (by decide)]
    unfold zbo
    rw [if_neg z.1, if_neg z.2.1]
    exact z.2.2.1
  · rw [a1, a2, if_neg (by decide)]
    decide
/-- data -/
theorem zRC_da (h : zRC s a k r) : zda s a w = if zkd (zcol k r) w = Int32.ofInt 2 then Int32.ofInt (-1) else zdo (zcol k r) (Int32.ofNat k) w := by
  have hm : zdma s = Int32.ofInt 1 <<< (Int32.ofNat k &&& 31) - Int32.ofInt 1 := by
    show Int32.ofInt 1 <<< (s 0 &&& 31) - Int32.ofInt 1 = _
    rw [h.2.1]
  unfold zda
  rw [hm]
  show _ = if _ then _ else zme (zcol k r) w &&& _
  unfold zme
  rcases zRC_3 (w := w) h with ⟨a1, a2, -⟩ | ⟨j, hj, a1, a2, a3, -⟩ | ⟨a1, a2, a3, -⟩
  · rw [a1, a2, if_neg (by decide), if_neg (by decide), if_neg (by decide), show w ^^^ (0 : Int32) = w from Int32.xor_zero]
  · have z := zsh16 j hj
    rw [a1, a2, a3, if_neg z.2.1, if_neg (by decide), if_pos (by decide)]
  · rw [a1, a2, if_pos rfl, if_pos (by decide)]
/-- what is mended -/
theorem zRC_me (h : zRC s a k r) : zme (zcol k r) w = if zkd (zcol k r) w = Int32.ofInt 1 then w ^^^ ztu s a w else w := by
  unfold zme
  rcases zRC_3 (w := w) h with ⟨a1, a2, -⟩ | ⟨j, hj, a1, a2, a3, -⟩ | ⟨a1, a2, a3, -⟩
  · rw [a2, if_neg (by decide), if_neg (by decide)]
  · rw [a1, a2, a3]
  · rw [a2, if_neg (by decide), if_neg (by decide)]
end ZPL
