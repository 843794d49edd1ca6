/-! Cells, the log, poison, what a word tells: of both. -/
section ZL3M
variable {S S' A : zSt} {M M' B : zRt} {u v w x1 x2 x3 : Int32} {n a : Nat}
theorem zcel (h : zE S M) (hn : n < 128) : ∃ a b : Nat, a < 20 ∧ b < 8 ∧ v124 (Int32.ofNat n) M = Int32.ofNat a ∧ zrmd (Int32.ofNat n) (Int32.ofInt 8) = Int32.ofNat b ∧ V91 (Int32.ofNat n) S = Int32.ofNat (a * 8 + b) ∧ V90 (Int32.ofNat n) S = Int32.ofNat a := by
  obtain ⟨q1, q2, q3⟩ := zqr hn
  obtain ⟨a, ha, g1, g2⟩ := h.1.2.2.2.2 (n / 8) (by omega)
  have e90 : V90 (Int32.ofNat n) S = Int32.ofNat (n / 8 / 8 * 10 + a) := by
    unfold V90
    rw [q1, q2, g1, show Int32.ofInt 10 = Int32.ofNat 10 from rfl, ← Int32.ofNat_mul, ← Int32.ofNat_add, show n / 64 = n / 8 / 8 by omega]
  refine ⟨n / 8 / 8 * 10 + a, n % 8, by omega, by omega, ?_, q3, ?_, e90⟩
  · unfold v124
    rw [q1]
    exact g2
  · unfold V91
    rw [e90, q3, show Int32.ofInt 8 = Int32.ofNat 8 from rfl, ← Int32.ofNat_mul, ← Int32.ofNat_add]
theorem zE_wd (h : zE S M) (hn : n < 128) : V92 (Int32.ofNat n) S = v125 (Int32.ofNat n) M := by
  obtain ⟨a, b, ha, hb, e1, e2, e3, e4⟩ := zcel h hn
  unfold V92 v125
  rw [e1, e2, e3, zcl_of (by omega)]
  exact (zE_w h).2.2 a b ha hb
theorem zE_at (h : zE S M) (hn : n < 128) : zE (F41 (V91 (Int32.ofNat n) S) w S) (r127 (Int32.ofNat n) w M) := by
  obtain ⟨a, b, ha, hb, e1, e2, e3, e4⟩ := zcel h hn
  unfold r127
  rw [e1, e2, e3]
  exact zE_put h ha hb
theorem zE_op (h : zE S M) (hn : n < 128) : zE (F43 (V90 (Int32.ofNat n) S) S) (r129 (v124 (Int32.ofNat n) M) M) := by
  obtain ⟨a, b, ha, hb, e1, e2, e3, e4⟩ := zcel h hn
  rw [e1, e4]
  exact zE_43 h ha
/-- poison -/
theorem zX_po (h : zX9 S M) (hv : v = 0 ∨ v = 1) : zX9 (zsR S 17 x1 v) (zmW M 24 x1 v) := by
  obtain ⟨ht, h2, h3, h4, h5, h6, h7⟩ := h
  have f : zfrm [] [17] (zsR S 17 x1 v) S := fm_R
  have g : zfrM [] [24] [] (zmW M 24 x1 v) M := gm_W
  refine ⟨zTk_fr f g (by decide) ht, zWd_fr f g (by decide) h2, ?_, zSc_fr f g (by decide) h4, zDr_fr f g (by decide) h5, zCo_fr f g (by decide) h6, zLg_fr f g (by decide) h7⟩
  obtain ⟨a1, a3, a5, a6, a7⟩ := h3
  have p17 : (zsR S 17 x1 v).2 17 = zst (S.2 17) x1 v := rfl
  have q24 : (zmW M 24 x1 v).2.1 24 = zst (M.2.1 24) x1 v := rfl
  unfold zCn
  rw [f.2.1 3 (by decide), f.2.1 4 (by decide), g.2.1 20 (by decide), g.2.1 21 (by decide), p17, q24, a5]
  refine ⟨a1, a3, rfl, by rw [zst_ln9, ← a5]; exact a6, fun x hx => ?_⟩
  rcases zst_mem9 hx with rfl | z
  · exact hv
  · exact a7 x (a5 ▸ z)
theorem zE_po (h : zE S M) (hv : v = 0 ∨ v = 1) : zE (zsR S 17 x1 v) (zmW M 24 x1 v) := ⟨zB3_fr (W := []) (V := [17]) fm_R (gm_W (k := 24)) (by decide) (by decide) h.1, zX_po h.2 hv⟩
/-- poison where there is none -/
theorem zgt_in9 {l : List Int32} {i : Nat} (h : i < 1000) : zgt l (Int32.ofNat i) = l.getD i 0 := zgt_n (by omega)
theorem zst_in9 {l : List Int32} {i : Nat} {v : Int32} (h : i < 1000) : zst l (Int32.ofNat i) v = l.set i v := by
  obtain ⟨a, b⟩ := zin_ge9 (x := Int32.ofNat i) (by rw [zof_0 (by omega)]; omega)
  unfold zst
  rw [if_neg a, b, zof_0 (by omega)]
  rfl
theorem zst_sf {l : List Int32} {i : Nat} (h : i < 1000) : zst l (Int32.ofNat i) (zgt l (Int32.ofNat i)) = l := by
  rw [zst_in9 h, zgt_in9 h, List.getD_eq_getElem?_getD]
  by_cases q : i < l.length
  · rw [List.getElem?_eq_getElem q]
    exact List.set_getElem_self q
  · exact List.set_eq_of_length_le (by omega)
theorem zE_p0 (h : zE S M) (hn : n < 1000) (h0 : zgt (S.2 17) (Int32.ofNat n) = v) : zE (zsR S 17 (Int32.ofNat n) v) M := by
  obtain ⟨h1, ht, h2, h3, h4, h5, h6, h7⟩ := h
  have f : zfrm [] [17] (zsR S 17 (Int32.ofNat n) v) S := fm_R
  have g : zfrM [] [] [] M M := gm_rf
  refine ⟨zB3_fr f g (by decide) (by decide) h1, zTk_fr f g (by decide) ht, zWd_fr f g (by decide) h2, ?_, zSc_fr f g (by decide) h4, zDr_fr f g (by decide) h5, zCo_fr f g (by decide) h6, zLg_fr f g (by decide) h7⟩
  have p17 : (zsR S 17 (Int32.ofNat n) v).2 17 = S.2 17 := by
    show (if (17 : Nat) = 17 then zst (S.2 17) (Int32.ofNat n) v else S.2 17) = _
    rw [if_pos rfl, ← h0]
    exact zst_sf hn
  unfold zCn
  rw [f.2.1 3 (by decide), f.2.1 4 (by decide), p17]
  exact h3
/-- an entry of the log -/
def zpl (x1 x2 x3 : Int32) (A : zSt) : zSt := zsS (zsR (zsR (zsR A 12 (A.1 11) x1) 13 ((zsR A 12 (A.1 11) x1).1 11) x2) 14 ((zsR (zsR A 12 (A.1 11) x1) 13 ((zsR A 12 (A.1 11) x1).1 11) x2).1 11) x3) 11 (((zsR (zsR (zsR A 12 (A.1 11) x1) 13 ((zsR A 12 (A.1 11) x1).1 11) x2) 14 ((zsR (zsR A 12 (A.1 11) x1) 13 ((zsR A 12 (A.1 11) x1).1 11) x2).1 11) x3).1 11) + Int32.ofInt 1)
theorem zLg_push (h : zLg A B) (hl : (B.2.2.1 2).length < 40) (ha : a < 128) (hb : x2 = Int32.ofInt (-1) ∨ ∃ j : Nat, j < 16 ∧ x2 = Int32.ofNat j) : zLg (zpl (Int32.ofNat a) x2 x3 A) (zmLs B 2 (B.2.2.1 2 ++ [[Int32.ofNat a, x2, x3]])) := by
  obtain ⟨e11, l40, ⟨b1, b2, b3⟩, c⟩ := h
  have p11 : (zpl (Int32.ofNat a) x2 x3 A).1 11 = A.1 11 + Int32.ofInt 1 := rfl
  have p12 : (zpl (Int32.ofNat a) x2 x3 A).2 12 = zst (A.2 12) (A.1 11) (Int32.ofNat a) := rfl
  have p13 : (zpl (Int32.ofNat a) x2 x3 A).2 13 = zst (A.2 13) (A.1 11) x2 := rfl
  have p14 : (zpl (Int32.ofNat a) x2 x3 A).2 14 = zst (A.2 14) (A.1 11) x3 := rfl
  have q2 : (zmLs B 2 (B.2.2.1 2 ++ [[Int32.ofNat a, x2, x3]])).2.2.1 2 = B.2.2.1 2 ++ [[Int32.ofNat a, x2, x3]] := rfl
  unfold zLg zLe
  rw [p11, p12, p13, p14, q2, e11, zst_ln9, zst_ln9, zst_ln9, List.length_append]
  refine ⟨zof1 _, hl, ⟨b1, b2, b3⟩, fun k e hk => ?_⟩
  by_cases z : k < (B.2.2.1 2).length
  · rw [List.getElem?_append_left z] at hk
    obtain ⟨a9, b9, c9, d0, d1, d2, d3, d4, d5⟩ := c k e hk
    exact ⟨a9, b9, c9, d0, d1, d2, by rw [zgt_ne9 (by omega) (by omega) (by omega)]; exact d3, by rw [zgt_ne9 (by omega) (by omega) (by omega)]; exact d4, by rw [zgt_ne9 (by omega) (by omega) (by omega)]; exact d5⟩
  · have hk2 := (List.getElem?_eq_some_iff.mp hk).1
    rw [List.length_append] at hk2
    have hk2 : k < (B.2.2.1 2).length + 1 := hk2
    obtain rfl : k = (B.2.2.1 2).length := by omega
    rw [List.getElem?_append_right (Nat.le_refl _), Nat.sub_self] at hk
    cases hk
    exact ⟨a, x2, x3, rfl, ha, hb, zgt_eq9 (by omega) (by omega), zgt_eq9 (by omega) (by omega), zgt_eq9 (by omega) (by omega)⟩
theorem F31_e : F31 x1 x2 x3 S = if x2 = Int32.ofInt (-1) then (if ((zsS S 13 (S.1 13 + Int32.ofInt 1)).1 11).toInt < (Int32.ofInt 40).toInt then zpl x1 x2 x3 (zsS S 13 (S.1 13 + Int32.ofInt 1)) else zsS S 13 (S.1 13 + Int32.ofInt 1)) else (if ((zsS S 12 (S.1 12 + Int32.ofInt 1)).1 11).toInt < (Int32.ofInt 40).toInt then zpl x1 x2 x3 (zsS S 12 (S.1 12 + Int32.ofInt 1)) else zsS S 12 (S.1 12 + Int32.ofInt 1)) := rfl
def zcb (M : zRt) (p q : Int32) : zRt := zmS (zmS M 14 (M.1 14 + p)) 15 ((zmS M 14 (M.1 14 + p)).1 15 + q)
theorem r130_e : r130 x1 x2 M = if x2 = Int32.ofInt (-1) then (if x2 = Int32.ofInt (-1) then (if (Int32.ofNat ((zcb M (Int32.ofInt 0) (Int32.ofInt 1)).2.2.1 2).length).toInt < (Int32.ofInt 40).toInt then zmLs (zcb M (Int32.ofInt 0) (Int32.ofInt 1)) 2 ((zcb M (Int32.ofInt 0) (Int32.ofInt 1)).2.2.1 2 ++ [[x1, x2, (zcb M (Int32.ofInt 0) (Int32.ofInt 1)).1 4]]) else zcb M (Int32.ofInt 0) (Int32.ofInt 1)) else (if (Int32.ofNat ((zcb M (Int32.ofInt 0) (Int32.ofInt 0)).2.2.1 2).length).toInt < (Int32.ofInt 40).toInt then zmLs (zcb M (Int32.ofInt 0) (Int32.ofInt 0)) 2 ((zcb M (Int32.ofInt 0) (Int32.ofInt 0)).2.2.1 2 ++ [[x1, x2, (zcb M (Int32.ofInt 0) (Int32.ofInt 0)).1 4]]) else zcb M (Int32.ofInt 0) (Int32.ofInt 0))) else (if x2 = Int32.ofInt (-1) then (if (Int32.ofNat ((zcb M (Int32.ofInt 1) (Int32.ofInt 1)).2.2.1 2).length).toInt < (Int32.ofInt 40).toInt then zmLs (zcb M (Int32.ofInt 1) (Int32.ofInt 1)) 2 ((zcb M (Int32.ofInt 1) (Int32.ofInt 1)).2.2.1 2 ++ [[x1, x2, (zcb M (Int32.ofInt 1) (Int32.ofInt 1)).1 4]]) else zcb M (Int32.ofInt 1) (Int32.ofInt 1)) else (if (Int32.ofNat ((zcb M (Int32.ofInt 1) (Int32.ofInt 0)).2.2.1 2).length).toInt < (Int32.ofInt 40).toInt then zmLs (zcb M (Int32.ofInt 1) (Int32.ofInt 0)) 2 ((zcb M (Int32.ofInt 1) (Int32.ofInt 0)).2.2.1 2 ++ [[x1, x2, (zcb M (Int32.ofInt 1) (Int32.ofInt 0)).1 4]]) else zcb M (Int32.ofInt 1) (Int32.ofInt 0))) := rfl
theorem zad0 {x : Int32} : x + Int32.ofInt 0 = x := Int32.add_zero x
/-- both logs take an entry -/
theorem zK31 {j : Nat} {p q : Int32} (h4 : S.1 4 = M.1 4) (h7 : zLg S M) (hj : j ≠ 11) (ha : a < 128) (hb : x2 = Int32.ofInt (-1) ∨ ∃ j : Nat, j < 16 ∧ x2 = Int32.ofNat j) : zLg (if ((zsS S j v).1 11).toInt < (Int32.ofInt 40).toInt then zpl (Int32.ofNat a) x2 (S.1 4) (zsS S j v) else zsS S j v) (if (Int32.ofNat ((zcb M p q).2.2.1 2).length).toInt < (Int32.ofInt 40).toInt then zmLs (zcb M p q) 2 ((zcb M p q).2.2.1 2 ++ [[Int32.ofNat a, x2, (zcb M p q).1 4]]) else zcb M p q) := by
  have f : zfrm [j] [] (zsS S j v) S := fm_S
  have g : zfrM [14, 15] [] [] (zcb M p q) M := gm_c gm_S (gm_c gm_S gm_rf (by decide) (by decide) (by decide)) (by decide) (by decide) (by decide)
  have h8 := zLg_fr f g ⟨fun z => hj (List.mem_singleton.mp z).symm, by decide, by decide⟩ h7
  have e40 : (Int32.ofInt 40).toInt = 40 := by decide
  have e4 : (zcb M p q).1 4 = S.1 4 := (g.1 4 (by decide)).trans h4.symm
  rw [h8.1, e40, e4]
  have l := h8.2.1
  rw [zof_0 (by omega)]
  by_cases z : ((zcb M p q).2.2.1 2).length < 40
  · rw [if_pos (by omega), if_pos (by omega)]
    exact zLg_push h8 z ha hb
  · rw [if_neg (by omega), if_neg (by omega)]
    exact h8
theorem zif1 {α β : Type} {f : α → β} {c : Prop} [Decidable c] {p q : α} {b : β} (h1 : f p = b) (h2 : f q = b) : f (if c then p else q) = b := by
  split
  · exact h1
  · exact h2
theorem zE_note (h : zE S M) (ha : a < 128) (hb : x2 = Int32.ofInt (-1) ∨ ∃ j : Nat, j < 16 ∧ x2 = Int32.ofNat j) : zE (F31 (Int32.ofNat a) x2 (S.1 4) S) (r130 (Int32.ofNat a) x2 M) := by
  obtain ⟨h1, ht, h2, h3, h4, h5, h6, h7⟩ := h
  have f := fr_F31 (x1 := Int32.ofNat a) (x2 := x2) (x3 := S.1 4) (S := S)
  have g := gr_130 (x1 := Int32.ofNat a) (x2 := x2) (M := M)
  have t4 : S.1 4 = M.1 4 := ht
  obtain ⟨a1, a2, ⟨a3, a4, a5⟩, a7, a8, a9⟩ := h4
  have K : ((F31 (Int32.ofNat a) x2 (S.1 4) S).1 12 = (r130 (Int32.ofNat a) x2 M).1 14 ∧ (F31 (Int32.ofNat a) x2 (S.1 4) S).1 13 = (r130 (Int32.ofNat a) x2 M).1 15) ∧ zLg (F31 (Int32.ofNat a) x2 (S.1 4) S) (r130 (Int32.ofNat a) x2 M) := by
    by_cases q : x2 = Int32.ofInt (-1)
    · have eF : F31 (Int32.ofNat a) x2 (S.1 4) S = _ := F31_e.trans (if_pos q)
      have eR : r130 (Int32.ofNat a) x2 M = _ := r130_e.trans ((if_pos q).trans (if_pos q))
      rw [eF, eR]
      refine ⟨⟨?_, ?_⟩, zK31 t4 h7 (by decide) ha hb⟩
      · refine Eq.trans (zif1 (f := fun s : zSt => s.1 12) (b := S.1 12) (by rfl) (by rfl)) (Eq.trans ?_ (Eq.symm (zif1 (f := fun m : zRt => m.1 14) (b := M.1 14 + Int32.ofInt 0) (by rfl) (by rfl))))
        rw [zad0]
        exact a8
      · refine Eq.trans (zif1 (f := fun s : zSt => s.1 13) (b := S.1 13 + Int32.ofInt 1) (by rfl) (by rfl)) (Eq.trans ?_ (Eq.symm (zif1 (f := fun m : zRt => m.1 15) (b := M.1 15 + Int32.ofInt 1) (by rfl) (by rfl))))
        rw [a9]
    · have eF : F31 (Int32.ofNat a) x2 (S.1 4) S = _ := F31_e.trans (if_neg q)
      have eR : r130 (Int32.ofNat a) x2 M = _ := r130_e.trans ((if_neg q).trans (if_neg q))
      rw [eF, eR]
      refine ⟨⟨?_, ?_⟩, zK31 t4 h7 (by decide) ha hb⟩
      · refine Eq.trans (zif1 (f := fun s : zSt => s.1 12) (b := S.1 12 + Int32.ofInt 1) (by rfl) (by rfl)) (Eq.trans ?_ (Eq.symm (zif1 (f := fun m : zRt => m.1 14) (b := M.1 14 + Int32.ofInt 1) (by rfl) (by rfl))))
        rw [a8]
      · refine Eq.trans (zif1 (f := fun s : zSt => s.1 13) (b := S.1 13) (by rfl) (by rfl)) (Eq.trans ?_ (Eq.symm (zif1 (f := fun m : zRt => m.1 15) (b := M.1 15 + Int32.ofInt 0) (by rfl) (by rfl))))
        rw [zad0]
        exact a9
  refine ⟨zB3_fr f g (by decide) (by decide) h1, zTk_fr f g (by decide) ht, zWd_fr f g (by decide) h2, zCn_fr f g (by decide) h3, ?_, zDr_fr f g (by decide) h5, zCo_fr f g (by decide) h6, K.2⟩
  unfold zSc
  rw [f.1 5 (by decide), f.1 6 (by decide), f.1 14 (by decide), f.1 15 (by decide), f.1 16 (by decide), f.1 18 (by decide), g.1 5 (by decide), g.1 6 (by decide), g.1 7 (by decide), g.1 8 (by decide), g.1 9 (by decide), g.1 13 (by decide)]
  exact ⟨a1, a2, ⟨a3, a4, a5⟩, a7, K.1.1, K.1.2⟩
/-- what a word tells -/
theorem zC_3 (h : zCo S M) : (ztu S.1 S.2 w = 0 ∧ zkd M.2.2.2 w = 0) ∨ (∃ j, j < 16 ∧ ztu S.1 S.2 w = Int32.ofInt 1 <<< (Int32.ofNat j &&& 31) ∧ zkd M.2.2.2 w = 1 ∧ zbm9 M.2.2.2 w = Int32.ofNat j) ∨ (ztu S.1 S.2 w = Int32.ofInt (-1) ∧ zkd M.2.2.2 w = 2 ∧ zbm9 M.2.2.2 w = Int32.ofInt (-1)) := by
  obtain ⟨k, r, c1, c2, c3, c4, c5⟩ := h
  rw [c4]
  rcases zRC_3 (w := w) c1 with ⟨a1, a2, -⟩ | ⟨j, hj, a1, a2, a3, -⟩ | ⟨a1, a2, a3, -⟩
  · exact Or.inl ⟨a1, a2⟩
  · exact Or.inr (Or.inl ⟨j, hj, a1, a2, a3⟩)
  · exact Or.inr (Or.inr ⟨a1, a2, a3⟩)
theorem zC_me (h : zCo S M) : zme M.2.2.2 w = if zkd M.2.2.2 w = Int32.ofInt 1 then w ^^^ ztu S.1 S.2 w else w := by
  obtain ⟨k, r, c1, c2, c3, c4, c5⟩ := h
  rw [c4]
  exact zRC_me c1
theorem zE_3 (h : zE S M) : (ztu S.1 S.2 w = 0 ∧ zkd M.2.2.2 w = 0) ∨ (∃ j, j < 16 ∧ ztu S.1 S.2 w = Int32.ofInt 1 <<< (Int32.ofNat j &&& 31) ∧ zkd M.2.2.2 w = 1 ∧ zbm9 M.2.2.2 w = Int32.ofNat j) ∨ (ztu S.1 S.2 w = Int32.ofInt (-1) ∧ zkd M.2.2.2 w = 2 ∧ zbm9 M.2.2.2 w = Int32.ofInt (-1)) := zC_3 (zE_co h)
theorem zE_da (h : zE S M) : zda S.1 S.2 w = if zkd M.2.2.2 w = Int32.ofInt 2 then Int32.ofInt (-1) else zdo M.2.2.2 (M.1 1) w := by
  obtain ⟨k, r, c1, c2, c3, c4, c5⟩ := zE_co h
  rw [c4, c2]
  exact zRC_da c1
theorem zE_me (h : zE S M) : zme M.2.2.2 w = if zkd M.2.2.2 w = Int32.ofInt 1 then w ^^^ ztu S.1 S.2 w else w := zC_me (zE_co h)
theorem zE_bo (h : zE S M) : zbo (ztu S.1 S.2 w) = if zkd M.2.2.2 w = Int32.ofInt 1 then zbm9 M.2.2.2 w else Int32.ofInt (-1) := by
  obtain ⟨k, r, c1, c2, c3, c4, c5⟩ := zE_co h
  rw [c4]
  exact zRC_bo c1
theorem zE_en (h : zE S M) : w ||| (zsyn (zco S.2) w (zwi S.1) <<< (S.1 0 &&& 31)) = w ||| (zsm M.2.2.2 w <<< (M.1 1 &&& 31)) := by
  obtain ⟨k, r, c1, c2, c3, c4, c5⟩ := zE_co h
  rw [c4, c2]
  exact zRC_en c1
theorem zE_dn (h : zE S M) : ¬ zdo M.2.2.2 (M.1 1) w = Int32.ofInt (-1) := by
  obtain ⟨k, r, c1, c2, c3, c4, c5⟩ := zE_co h
  have b := (zcds_kr _ c1.1).2.1
  simp only at b
  rw [c2]
  have e : (List.range 11).all (fun k => decide (¬ Int32.ofInt (-1) &&& (Int32.ofInt 1 <<< (Int32.ofNat k &&& 31) - Int32.ofInt 1) = Int32.ofInt (-1))) = true := by decide +kernel
  have e := of_decide_eq_true (List.all_eq_true.mp e k (List.mem_range.mpr (by omega)))
  intro z
  have z2 : zdo M.2.2.2 (Int32.ofNat k) w &&& (Int32.ofInt 1 <<< (Int32.ofNat k &&& 31) - Int32.ofInt 1) = zdo M.2.2.2 (Int32.ofNat k) w := by
    show (zme M.2.2.2 w &&& _) &&& _ = zme M.2.2.2 w &&& _
    rw [Int32.and_assoc, Int32.and_self]
  rw [z] at z2
  exact e z2
/-- a word that isn't clean is told, of both -/
theorem zE_103 (h : zE S M) (hn : n < 128) : (ztu S.1 S.2 (V92 (Int32.ofNat n) S) = 0 ∧ zkd M.2.2.2 (v125 (Int32.ofNat n) M) = 0 ∧ ∀ x2, F103 (Int32.ofNat n) x2 S = S) ∨ (¬ ztu S.1 S.2 (V92 (Int32.ofNat n) S) = Int32.ofInt (-1) ∧ zkd M.2.2.2 (v125 (Int32.ofNat n) M) = 1 ∧ zE (F103 (Int32.ofNat n) 0 S) (r130 (Int32.ofNat n) (zbm9 M.2.2.2 (v125 (Int32.ofNat n) M)) M) ∧ ∀ x2, ¬ x2 = 0 → zE (F103 (Int32.ofNat n) x2 S) (r127 (Int32.ofNat n) (zme M.2.2.2 (v125 (Int32.ofNat n) M)) (r130 (Int32.ofNat n) (zbm9 M.2.2.2 (v125 (Int32.ofNat n) M)) M))) ∨ (ztu S.1 S.2 (V92 (Int32.ofNat n) S) = Int32.ofInt (-1) ∧ zkd M.2.2.2 (v125 (Int32.ofNat n) M) = 2 ∧ zbm9 M.2.2.2 (v125 (Int32.ofNat n) M) = Int32.ofInt (-1) ∧ ∀ x2, zE (F103 (Int32.ofNat n) x2 S) (r130 (Int32.ofNat n) (Int32.ofInt (-1)) M)) := by
  have ew := zE_wd h hn
  have hb := zE_bo (w := V92 (Int32.ofNat n) S) h
  have hm := zE_me (w := V92 (Int32.ofNat n) S) h
  rcases zE_3 (w := V92 (Int32.ofNat n) S) h with ⟨a1, a2⟩ | ⟨j, hj, a1, a2, a3⟩ | ⟨a1, a2, a3⟩
  · refine Or.inl ⟨a1, by rw [← ew]; exact a2, fun x2 => ?_⟩
    unfold F103
    rw [if_pos a1]
  · have z := zsh16 j hj
    have n0 : ¬ ztu S.1 S.2 (V92 (Int32.ofNat n) S) = 0 := by
      rw [a1]
      exact z.1
    have n1 : ¬ ztu S.1 S.2 (V92 (Int32.ofNat n) S) = Int32.ofInt (-1) := by
      rw [a1]
      exact z.2.1
    rw [← ew]
    rw [if_pos (by rw [a2]; decide)] at hb hm
    have N := zE_note (a := n) (x2 := zbm9 M.2.2.2 (V92 (Int32.ofNat n) S)) h hn (Or.inr ⟨j, hj, a3⟩)
    refine Or.inr (Or.inl ⟨n1, a2, ?_, fun x2 hx => ?_⟩)
    · unfold F103
      rw [if_neg n0, if_pos rfl, hb]
      exact N
    · unfold F103
      rw [if_neg n0, if_neg hx, if_neg n1, hb, hm]
      exact zE_at N hn
  · have n0 : ¬ ztu S.1 S.2 (V92 (Int32.ofNat n) S) = 0 := by
      rw [a1]
      decide
    rw [← ew]
    rw [if_neg (by rw [a2]; decide)] at hb
    have N := zE_note (a := n) (x2 := Int32.ofInt (-1)) h hn (Or.inl rfl)
    refine Or.inr (Or.inr ⟨a1, a2, a3, fun x2 => ?_⟩)
    unfold F103
    rw [if_neg n0, hb]
    by_cases hx : x2 = 0
    · rw [if_pos hx]
      exact N
    · rw [if_neg hx, if_pos a1]
      exact N
end ZL3M
