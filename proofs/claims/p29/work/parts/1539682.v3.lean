theorem zifP {α : Type} {c : Prop} [Decidable c] {p q : α} {P : α → Prop} (h1 : P p) (h2 : P q) : P (if c then p else q) := by
  split
  · exact h1
  · exact h2
section ZQ2
variable {xs : List Int32} {N : Nat} {S : zSt} {M : zRt} {X : zXt} {q : Nat} {vs : List Value} {nc ns : Nat}
def zrP_70 (r : Option Value ⊕ Nat) : Prop := (∃ x : Int32, r = .inl (some (.int x))) ∨ r = .inr 1 ∨ r = .inr 0
theorem rs_70 {x1 x2 : Int32} : (∃ x : Int32, R70 x1 x2 S = .inl (some (.int x))) ∨ R70 x1 x2 S = .inr 1 ∨ R70 x1 x2 S = .inr 0 := by
  show zrP_70 (R70 x1 x2 S)
  unfold R70
  repeat' first | refine zifP (P := zrP_70) ?_ ?_ | exact Or.inl ⟨_, rfl⟩ | exact Or.inr (Or.inl (rfl)) | exact Or.inr (Or.inr (rfl))
abbrev kc_204 : Nat → Int32 := fun E => if E = 1 then Int32.ofInt 1 else if E = 0 then Int32.ofInt 2 else 0
theorem Fe_70 {x1 x2 : Int32} : F70 x1 x2 S = S := by
  unfold F70
  repeat' first | refine zifP (P := fun r => r = S) ?_ ?_ | exact rfl
theorem pw_204 {x1 x2 : Int32} (HL : zaL S.2) (hX : zUX (q, 6, vs) X M.2.2) (ho : zOu vs) : zpM xs N 204 [.ref 0, .int x1, .int x2, .ref q] (zy S M X) nc ns (zNq (zWy q (R70 x1 x2 S) (F70 x1 x2 S) M kc_204)) := by
  intro L0 e
  cases e
  refine zpE_run 4 (L' := [some (.ref 0), some (.int x1), some (.int x2), some (.ref q), none]) (st' := [.int x2, .int x1, .ref 0, .ref q]) rfl ?_
  refine zpE_call rfl rfl (e_70 (S := S) (x1 := x1) (x2 := x2) HL) (fun v h1 nc1 ns1 q8 => ?_) (fun E h1 nc1 ns1 q8 => ?_)
  · obtain ⟨q8, q9⟩ := q8
    cases q9
    rcases rs_70 (S := S) (x1 := x1) (x2 := x2) with ⟨x, hx⟩ | hx | hx
    · rw [hx] at q8
      cases q8
      refine zpE_run 1 (L' := [some (.ref 0), some (.int x1), some (.int x2), some (.ref q), none]) (st' := [.long x.toInt64, .ref q]) (h' := zy (F70 x1 x2 S) M X) rfl ?_
      obtain ⟨b1, b2, b3⟩ := zOu_0 (a := x.toInt64) ho
      refine zpE_putb (h' := zy (F70 x1 x2 S) M (X.1, X.2.1, X.2.2.set (q - 73) (6, vs.set 0 (.long x.toInt64)))) rfl (zUX_q (S := F70 x1 x2 S) (M := M) hX) rfl (zy_out (M := M) hX.2.2.2.1) (fun _ => ?_)
      refine zpE_gen (fun nc ns => ?_)
      exact zpE_run 2 rfl (zpE_end rfl rfl (fun v hv => by
        cases hv
        exact ⟨_, _, _, rfl, rfl, zUX_out hX, b1, Or.inl ⟨x, hx, by decide, b2⟩⟩))
    · rw [hx] at q8
      cases q8
    · rw [hx] at q8
      cases q8
  · obtain ⟨q8, q9⟩ := q8
    cases q9
    rcases rs_70 (S := S) (x1 := x1) (x2 := x2) with ⟨x, hx⟩ | hx | hx
    · rw [hx] at q8
      cases q8
    · rw [hx] at q8
      cases q8
      refine ⟨fun z => absurd z (by decide), fun pc2 L2 e9 => ?_⟩
      obtain ⟨L3, e3⟩ : ∃ L3, zcatch 204 4 1 [some (.ref 0), some (.int x1), some (.int x2), some (.ref q), none] = some (16, L3) := ⟨_, rfl⟩
      rw [show zcatch 204 4 1 _ = some (16, L3) from e3] at e9
      cases e9
      exact zpE_run 1 rfl (zpE_end rfl rfl (fun v hv => by
        cases hv
        exact ⟨_, _, _, rfl, rfl, hX, ho, Or.inr ⟨1, hx, by decide⟩⟩))
    · rw [hx] at q8
      cases q8
      refine ⟨fun z => absurd z (by decide), fun pc2 L2 e9 => ?_⟩
      obtain ⟨L3, e3⟩ : ∃ L3, zcatch 204 4 0 [some (.ref 0), some (.int x1), some (.int x2), some (.ref q), none] = some (20, L3) := ⟨_, rfl⟩
      rw [show zcatch 204 4 0 _ = some (20, L3) from e3] at e9
      cases e9
      exact zpE_run 1 rfl (zpE_end rfl rfl (fun v hv => by
        cases hv
        exact ⟨_, _, _, rfl, rfl, hX, ho, Or.inr ⟨0, hx, by decide⟩⟩))
def zrP_72 (r : Option Value ⊕ Nat) : Prop := (∃ x : Int32, r = .inl (some (.int x))) ∨ r = .inr 1 ∨ r = .inr 0
theorem rs_72 {x1 x2 : Int32} : (∃ x : Int32, R72 x1 x2 S = .inl (some (.int x))) ∨ R72 x1 x2 S = .inr 1 ∨ R72 x1 x2 S = .inr 0 := by
  show zrP_72 (R72 x1 x2 S)
  unfold R72
  repeat' first | refine zifP (P := zrP_72) ?_ ?_ | exact Or.inl ⟨_, rfl⟩ | exact Or.inr (Or.inl (rfl)) | exact Or.inr (Or.inr (rfl))
abbrev kc_206 : Nat → Int32 := fun E => if E = 1 then Int32.ofInt 1 else if E = 0 then Int32.ofInt 2 else 0
theorem Fe_72 {x1 x2 : Int32} : F72 x1 x2 S = S := by
  unfold F72
  repeat' first | refine zifP (P := fun r => r = S) ?_ ?_ | exact rfl
theorem pw_206 {x1 x2 : Int32} (HL : zaL S.2) (hX : zUX (q, 6, vs) X M.2.2) (ho : zOu vs) : zpM xs N 206 [.ref 0, .int x1, .int x2, .ref q] (zy S M X) nc ns (zNq (zWy q (R72 x1 x2 S) (F72 x1 x2 S) M kc_206)) := by
  intro L0 e
  cases e
  refine zpE_run 4 (L' := [some (.ref 0), some (.int x1), some (.int x2), some (.ref q), none]) (st' := [.int x2, .int x1, .ref 0, .ref q]) rfl ?_
  refine zpE_call rfl rfl (e_72 (S := S) (x1 := x1) (x2 := x2) HL) (fun v h1 nc1 ns1 q8 => ?_) (fun E h1 nc1 ns1 q8 => ?_)
  · obtain ⟨q8, q9⟩ := q8
    cases q9
    rcases rs_72 (S := S) (x1 := x1) (x2 := x2) with ⟨x, hx⟩ | hx | hx
    · rw [hx] at q8
      cases q8
      refine zpE_run 1 (L' := [some (.ref 0), some (.int x1), some (.int x2), some (.ref q), none]) (st' := [.long x.toInt64, .ref q]) (h' := zy (F72 x1 x2 S) M X) rfl ?_
      obtain ⟨b1, b2, b3⟩ := zOu_0 (a := x.toInt64) ho
      refine zpE_putb (h' := zy (F72 x1 x2 S) M (X.1, X.2.1, X.2.2.set (q - 73) (6, vs.set 0 (.long x.toInt64)))) rfl (zUX_q (S := F72 x1 x2 S) (M := M) hX) rfl (zy_out (M := M) hX.2.2.2.1) (fun _ => ?_)
      refine zpE_gen (fun nc ns => ?_)
      exact zpE_run 2 rfl (zpE_end rfl rfl (fun v hv => by
        cases hv
        exact ⟨_, _, _, rfl, rfl, zUX_out hX, b1, Or.inl ⟨x, hx, by decide, b2⟩⟩))
    · rw [hx] at q8
      cases q8
    · rw [hx] at q8
      cases q8
  · obtain ⟨q8, q9⟩ := q8
    cases q9
    rcases rs_72 (S := S) (x1 := x1) (x2 := x2) with ⟨x, hx⟩ | hx | hx
    · rw [hx] at q8
      cases q8
    · rw [hx] at q8
      cases q8
      refine ⟨fun z => absurd z (by decide), fun pc2 L2 e9 => ?_⟩
      obtain ⟨L3, e3⟩ : ∃ L3, zcatch 206 4 1 [some (.ref 0), some (.int x1), some (.int x2), some (.ref q), none] = some (16, L3) := ⟨_, rfl⟩
      rw [show zcatch 206 4 1 _ = some (16, L3) from e3] at e9
      cases e9
      exact zpE_run 1 rfl (zpE_end rfl rfl (fun v hv => by
        cases hv
        exact ⟨_, _, _, rfl, rfl, hX, ho, Or.inr ⟨1, hx, by decide⟩⟩))
    · rw [hx] at q8
      cases q8
      refine ⟨fun z => absurd z (by decide), fun pc2 L2 e9 => ?_⟩
      obtain ⟨L3, e3⟩ : ∃ L3, zcatch 206 4 0 [some (.ref 0), some (.int x1), some (.int x2), some (.ref q), none] = some (20, L3) := ⟨_, rfl⟩
      rw [show zcatch 206 4 0 _ = some (20, L3) from e3] at e9
      cases e9
      exact zpE_run 1 rfl (zpE_end rfl rfl (fun v hv => by
        cases hv
        exact ⟨_, _, _, rfl, rfl, hX, ho, Or.inr ⟨0, hx, by decide⟩⟩))
def zrP_74 (r : Option Value ⊕ Nat) : Prop := (∃ x : Int32, r = .inl (some (.int x))) ∨ r = .inr 0
theorem rs_74 {x1 : Int32} : (∃ x : Int32, R74 x1 S = .inl (some (.int x))) ∨ R74 x1 S = .inr 0 := by
  show zrP_74 (R74 x1 S)
  unfold R74
  repeat' first | refine zifP (P := zrP_74) ?_ ?_ | exact Or.inl ⟨_, rfl⟩ | exact Or.inr (rfl)
abbrev kc_208 : Nat → Int32 := fun E => if E = 0 then Int32.ofInt 1 else 0
theorem Fe_74 {x1 : Int32} : F74 x1 S = S := by
  unfold F74
  repeat' first | refine zifP (P := fun r => r = S) ?_ ?_ | exact rfl
theorem pw_208 {x1 : Int32} (HL : zaL S.2) (hX : zUX (q, 6, vs) X M.2.2) (ho : zOu vs) : zpM xs N 208 [.ref 0, .int x1, .ref q] (zy S M X) nc ns (zNq (zWy q (R74 x1 S) (F74 x1 S) M kc_208)) := by
  intro L0 e
  cases e
  refine zpE_run 3 (L' := [some (.ref 0), some (.int x1), some (.ref q), none]) (st' := [.int x1, .ref 0, .ref q]) rfl ?_
  refine zpE_call rfl rfl (e_74 (S := S) (x1 := x1) HL) (fun v h1 nc1 ns1 q8 => ?_) (fun E h1 nc1 ns1 q8 => ?_)
  · obtain ⟨q8, q9⟩ := q8
    cases q9
    rcases rs_74 (S := S) (x1 := x1) with ⟨x, hx⟩ | hx
    · rw [hx] at q8
      cases q8
      refine zpE_run 1 (L' := [some (.ref 0), some (.int x1), some (.ref q), none]) (st' := [.long x.toInt64, .ref q]) (h' := zy (F74 x1 S) M X) rfl ?_
      obtain ⟨b1, b2, b3⟩ := zOu_0 (a := x.toInt64) ho
      refine zpE_putb (h' := zy (F74 x1 S) M (X.1, X.2.1, X.2.2.set (q - 73) (6, vs.set 0 (.long x.toInt64)))) rfl (zUX_q (S := F74 x1 S) (M := M) hX) rfl (zy_out (M := M) hX.2.2.2.1) (fun _ => ?_)
      refine zpE_gen (fun nc ns => ?_)
      exact zpE_run 2 rfl (zpE_end rfl rfl (fun v hv => by
        cases hv
        exact ⟨_, _, _, rfl, rfl, zUX_out hX, b1, Or.inl ⟨x, hx, by decide, b2⟩⟩))
    · rw [hx] at q8
      cases q8
  · obtain ⟨q8, q9⟩ := q8
    cases q9
    rcases rs_74 (S := S) (x1 := x1) with ⟨x, hx⟩ | hx
    · rw [hx] at q8
      cases q8
    · rw [hx] at q8
      cases q8
      refine ⟨fun z => absurd z (by decide), fun pc2 L2 e9 => ?_⟩
      obtain ⟨L3, e3⟩ : ∃ L3, zcatch 208 3 0 [some (.ref 0), some (.int x1), some (.ref q), none] = some (14, L3) := ⟨_, rfl⟩
      rw [show zcatch 208 3 0 _ = some (14, L3) from e3] at e9
      cases e9
      exact zpE_run 1 rfl (zpE_end rfl rfl (fun v hv => by
        cases hv
        exact ⟨_, _, _, rfl, rfl, hX, ho, Or.inr ⟨0, hx, by decide⟩⟩))
def zrP_77 (r : Option Value ⊕ Nat) : Prop := (∃ x : Int32, r = .inl (some (.int x))) ∨ r = .inr 1
theorem rs_77 {x1 : Int32} : (∃ x : Int32, R77 x1 S = .inl (some (.int x))) ∨ R77 x1 S = .inr 1 := by
  show zrP_77 (R77 x1 S)
  unfold R77
  repeat' first | refine zifP (P := zrP_77) ?_ ?_ | exact Or.inl ⟨_, rfl⟩ | exact Or.inr (rfl)
abbrev kc_211 : Nat → Int32 := fun E => if E = 1 then Int32.ofInt 1 else 0
theorem Fe_77 {x1 : Int32} : F77 x1 S = S := by
  unfold F77
  repeat' first | refine zifP (P := fun r => r = S) ?_ ?_ | exact rfl
theorem pw_211 {x1 : Int32} (HL : zaL S.2) (hX : zUX (q, 6, vs) X M.2.2) (ho : zOu vs) : zpM xs N 211 [.ref 0, .int x1, .ref q] (zy S M X) nc ns (zNq (zWy q (R77 x1 S) (F77 x1 S) M kc_211)) := by
  intro L0 e
  cases e
  refine zpE_run 3 (L' := [some (.ref 0), some (.int x1), some (.ref q), none]) (st' := [.int x1, .ref 0, .ref q]) rfl ?_
  refine zpE_call rfl rfl (e_77 (S := S) (x1 := x1) HL) (fun v h1 nc1 ns1 q8 => ?_) (fun E h1 nc1 ns1 q8 => ?_)
  · obtain ⟨q8, q9⟩ := q8
    cases q9
    rcases rs_77 (S := S) (x1 := x1) with ⟨x, hx⟩ | hx
    · rw [hx] at q8
      cases q8
      refine zpE_run 1 (L' := [some (.ref 0), some (.int x1), some (.ref q), none]) (st' := [.long x.toInt64, .ref q]) (h' := zy (F77 x1 S) M X) rfl ?_
      obtain ⟨b1, b2, b3⟩ := zOu_0 (a := x.toInt64) ho
      refine zpE_putb (h' := zy (F77 x1 S) M (X.1, X.2.1, X.2.2.set (q - 73) (6, vs.set 0 (.long x.toInt64)))) rfl (zUX_q (S := F77 x1 S) (M := M) hX) rfl (zy_out (M := M) hX.2.2.2.1) (fun _ => ?_)
      refine zpE_gen (fun nc ns => ?_)
      exact zpE_run 2 rfl (zpE_end rfl rfl (fun v hv => by
        cases hv
        exact ⟨_, _, _, rfl, rfl, zUX_out hX, b1, Or.inl ⟨x, hx, by decide, b2⟩⟩))
    · rw [hx] at q8
      cases q8
  · obtain ⟨q8, q9⟩ := q8
    cases q9
    rcases rs_77 (S := S) (x1 := x1) with ⟨x, hx⟩ | hx
    · rw [hx] at q8
      cases q8
    · rw [hx] at q8
      cases q8
      refine ⟨fun z => absurd z (by decide), fun pc2 L2 e9 => ?_⟩
      obtain ⟨L3, e3⟩ : ∃ L3, zcatch 211 3 1 [some (.ref 0), some (.int x1), some (.ref q), none] = some (14, L3) := ⟨_, rfl⟩
      rw [show zcatch 211 3 1 _ = some (14, L3) from e3] at e9
      cases e9
      exact zpE_run 1 rfl (zpE_end rfl rfl (fun v hv => by
        cases hv
        exact ⟨_, _, _, rfl, rfl, hX, ho, Or.inr ⟨1, hx, by decide⟩⟩))
end ZQ2
/-! ofWord, ofEntry, board, wouldRead: of both. -/
section ZL3U
variable {S S' : zSt} {M M' : zRt} {W V W2 V2 Y2 : List Nat} {u v w x x1 x2 x3 : Int32} {n a b : Nat}
theorem zE_vd (h : zE S M) : zvd (ztu S.1 S.2 w) = zkd M.2.2.2 w := by
  obtain ⟨k, r, c1, c2, c3, c4, c5⟩ := zE_co h
  rw [c4]
  exact zRC_vd c1
/-- cells of a list that are counted, of both -/
theorem zcnt15 {lo hi : Nat} (h : zFq (S.1 9) (S.2 6) (S.2 7) (S.2 8) (M.2.2.1 0)) (ha : a < 1000) (hlo : lo < 1000) (hhi : hi < 1000) (hP : ∀ A B : Nat, A < 20 → B < 8 → ((lo ≤ A * 8 + B ∧ A * 8 + B < hi) ↔ (A = a ∧ (x3 = Int32.ofInt (-1) ∨ Int32.ofNat B = x3)))) : ∀ k, k ≤ (M.2.2.1 0).length → W23_15 (Int32.ofNat lo) (Int32.ofNat hi) S u k = w158_0 (Int32.ofNat a) x3 M u k
  | 0, _ => rfl
  | k + 1, hk => by
    have ih := zcnt15 h ha hlo hhi hP k (by omega)
    have h24 := h.2.1
    show D23_15 _ _ S k (W23_15 _ _ S u k) = d158_0 _ _ M k (w158_0 _ _ M u k)
    rw [ih]
    obtain ⟨z, hz⟩ : ∃ z, z = w158_0 (Int32.ofNat a) x3 M u k := ⟨_, rfl⟩
    rw [← hz]
    obtain ⟨A, B, c, d, e0, hA, hB, hc, e4, e5, e6⟩ := h.2.2.2 k _ (List.getElem?_eq_getElem (by omega))
    have eg : (M.2.2.1 0).getD (Int32.toNatClampNeg (Int32.ofNat k)) [] = [Int32.ofNat A, Int32.ofNat B, Int32.ofNat c, d] := by
      rw [zcl_of (by omega), List.getD_eq_getElem?_getD, List.getElem?_eq_getElem (by omega), ← e0]
      rfl
    unfold D23_15 d158_0
    rw [eg, e4, zof_0 (by omega), zof_0 (by omega), zof_0 (by omega)]
    rw [show zgt [Int32.ofNat A, Int32.ofNat B, Int32.ofNat c, d] (Int32.ofInt 0) = Int32.ofNat A from rfl, show zgt [Int32.ofNat A, Int32.ofNat B, Int32.ofNat c, d] (Int32.ofInt 1) = Int32.ofNat B from rfl, zad0]
    have p := hP A B hA hB
    by_cases q : lo ≤ A * 8 + B ∧ A * 8 + B < hi
    · obtain ⟨p1, p2⟩ := p.mp q
      rw [if_neg (by omega), if_pos (by omega), if_pos (by rw [p1])]
      rcases p2 with p2 | p2
      · rw [if_pos p2]
      · by_cases y : x3 = Int32.ofInt (-1)
        · rw [if_pos y]
        · rw [if_neg y, if_pos p2]
    · have l1 : (if ((A * 8 + B : Nat) : Int) < (lo : Int) then z else if ((A * 8 + B : Nat) : Int) < (hi : Int) then z + Int32.ofInt 1 else z) = z := by
        by_cases y : ((A * 8 + B : Nat) : Int) < (lo : Int)
        · rw [if_pos y]
        · rw [if_neg y, if_neg (by omega)]
      rw [l1]
      by_cases y : A = a
      · have n1 : ¬ x3 = Int32.ofInt (-1) := fun t => q (p.mpr ⟨y, Or.inl t⟩)
        have n2 : ¬ Int32.ofNat B = x3 := fun t => q (p.mpr ⟨y, Or.inr t⟩)
        rw [if_pos (by rw [y]), if_neg n1, if_neg n2]
      · rw [if_neg (fun t => y ((zof_l (by omega) ha).mp t))]
theorem zcnt22 {lo hi : Nat} (h : zFq (S.1 10) (S.2 9) (S.2 10) (S.2 11) (M.2.2.1 1)) (ha : a < 1000) (hlo : lo < 1000) (hhi : hi < 1000) (hP : ∀ A B : Nat, A < 20 → B < 8 → ((lo ≤ A * 8 + B ∧ A * 8 + B < hi) ↔ (A = a ∧ (x3 = Int32.ofInt (-1) ∨ Int32.ofNat B = x3)))) : ∀ k, k ≤ (M.2.2.1 1).length → W23_22 (Int32.ofNat lo) (Int32.ofNat hi) S u k = w158_1 (Int32.ofNat a) x3 M u k
  | 0, _ => rfl
  | k + 1, hk => by
    have ih := zcnt22 h ha hlo hhi hP k (by omega)
    have h24 := h.2.1
    show D23_22 _ _ S k (W23_22 _ _ S u k) = d158_1 _ _ M k (w158_1 _ _ M u k)
    rw [ih]
    obtain ⟨z, hz⟩ : ∃ z, z = w158_1 (Int32.ofNat a) x3 M u k := ⟨_, rfl⟩
    rw [← hz]
    obtain ⟨A, B, c, d, e0, hA, hB, hc, e4, e5, e6⟩ := h.2.2.2 k _ (List.getElem?_eq_getElem (by omega))
    have eg : (M.2.2.1 1).getD (Int32.toNatClampNeg (Int32.ofNat k)) [] = [Int32.ofNat A, Int32.ofNat B, Int32.ofNat c, d] := by
      rw [zcl_of (by omega), List.getD_eq_getElem?_getD, List.getElem?_eq_getElem (by omega), ← e0]
      rfl
    unfold D23_22 d158_1
    rw [eg, e4, zof_0 (by omega), zof_0 (by omega), zof_0 (by omega)]
    rw [show zgt [Int32.ofNat A, Int32.ofNat B, Int32.ofNat c, d] (Int32.ofInt 0) = Int32.ofNat A from rfl, show zgt [Int32.ofNat A, Int32.ofNat B, Int32.ofNat c, d] (Int32.ofInt 1) = Int32.ofNat B from rfl, zad0]
    have p := hP A B hA hB
    by_cases q : lo ≤ A * 8 + B ∧ A * 8 + B < hi
    · obtain ⟨p1, p2⟩ := p.mp q
      rw [if_neg (by omega), if_pos (by omega), if_pos (by rw [p1])]
      rcases p2 with p2 | p2
      · rw [if_pos p2]
      · by_cases y : x3 = Int32.ofInt (-1)
        · rw [if_pos y]
        · rw [if_neg y, if_pos p2]
    · have l1 : (if ((A * 8 + B : Nat) : Int) < (lo : Int) then z else if ((A * 8 + B : Nat) : Int) < (hi : Int) then z + Int32.ofInt 1 else z) = z := by
        by_cases y : ((A * 8 + B : Nat) : Int) < (lo : Int)
        · rw [if_pos y]
        · rw [if_neg y, if_neg (by omega)]
      rw [l1]
      by_cases y : A = a
      · have n1 : ¬ x3 = Int32.ofInt (-1) := fun t => q (p.mpr ⟨y, Or.inl t⟩)
        have n2 : ¬ Int32.ofNat B = x3 := fun t => q (p.mpr ⟨y, Or.inr t⟩)
        rw [if_pos (by rw [y]), if_neg n1, if_neg n2]
      · rw [if_neg (fun t => y ((zof_l (by omega) ha).mp t))]
theorem zfl40 {n : Nat} (h : n ≤ 40) : (Int32.ofNat n).toInt.toNat = n := by
  rw [zof_0 (by omega)]
  omega
theorem zV23_15 {lo hi : Nat} (h : zFq (S.1 9) (S.2 6) (S.2 7) (S.2 8) (M.2.2.1 0)) (ha : a < 1000) (hlo : lo < 1000) (hhi : hi < 1000) (hP : ∀ A B : Nat, A < 20 → B < 8 → ((lo ≤ A * 8 + B ∧ A * 8 + B < hi) ↔ (A = a ∧ (x3 = Int32.ofInt (-1) ∨ Int32.ofNat B = x3)))) : V23_15 (Int32.ofNat lo) (Int32.ofNat hi) S = v158_0 (Int32.ofNat a) x3 M := by
  have h24 := h.2.1
  unfold V23_15 Y23_15 v158_0 y158_0
  rw [h.1, zfl40 (by omega)]
  exact zcnt15 h ha hlo hhi hP _ (Nat.le_refl _)
theorem zV23_22 {lo hi : Nat} (h : zFq (S.1 10) (S.2 9) (S.2 10) (S.2 11) (M.2.2.1 1)) (ha : a < 1000) (hlo : lo < 1000) (hhi : hi < 1000) (hP : ∀ A B : Nat, A < 20 → B < 8 → ((lo ≤ A * 8 + B ∧ A * 8 + B < hi) ↔ (A = a ∧ (x3 = Int32.ofInt (-1) ∨ Int32.ofNat B = x3)))) : V23_22 (Int32.ofNat lo) (Int32.ofNat hi) S = v158_1 (Int32.ofNat a) x3 M := by
  have h24 := h.2.1
  unfold V23_22 Y23_22 v158_1 y158_1
  rw [h.1, zfl40 (by omega)]
  exact zcnt22 h ha hlo hhi hP _ (Nat.le_refl _)
/-- a flag, of both -/
theorem zfg {x : Int32} (h : x = 0 ∨ x = 1) : x = if x = ((0 : Int32)) then Int32.ofInt 0 else Int32.ofInt 1 := by
  rcases h with h | h <;> rw [h] <;> decide
theorem zfg17 (h : zE S M) (hn : n < 128) : zgt (S.2 17) (Int32.ofNat n) = 0 ∨ zgt (S.2 17) (Int32.ofNat n) = 1 := by
  have z := (zE_c h).2.2.2
  exact z.2 _ (zgt_mem9 (by rw [zof_0 (by omega)]; omega) (by rw [zof_0 (by omega), z.1]; omega))
theorem zfg18 (h : zE S M) (hn : n < 128) : zgt (S.2 18) (Int32.ofNat n) = 0 ∨ zgt (S.2 18) (Int32.ofNat n) = 1 := by
  have z := h.1.1.2.2
  exact z.2 _ (zgt_mem9 (by rw [zof_0 (by omega)]; omega) (by rw [zof_0 (by omega), z.1]; omega))
theorem zM_70 (h : zE S M) : zE (F70 x1 x2 S) (r160 x1 x2 M) ∧ zAn (R70 x1 x2 S) (v160 x1 x2 M) ((r160 x1 x2 M).1 0) kc_204 := by
  have h0 : zE S (zmS M 0 (Int32.ofInt 0)) := zE_0 h
  have z0 : (Int32.ofInt 0).toInt = 0 := by decide
  have z6 : (Int32.ofInt 6).toInt = 6 := by decide
  have z127 : (Int32.ofInt 127).toInt = 127 := by decide
  rw [Fe_70]
  by_cases r1 : 0 ≤ x1.toInt ∧ x1.toInt ≤ 127
  · have c := C82_ok (S := S).mpr r1
    have n1 : ¬ v138 x1 (zmS M 0 (Int32.ofInt 0)) = 0 := fun z => v112_1.mp z (by rw [z0, z127]; exact r1)
    obtain ⟨n, rfl, hn⟩ := znat r1.1
    have hn : n < 128 := by omega
    by_cases r2 : 0 ≤ x2.toInt ∧ x2.toInt ≤ 6
    · have n2 : ¬ v112 x2 (Int32.ofInt 0) (Int32.ofInt 6) (zmS M 0 (Int32.ofInt 0)) = 0 := fun z => v112_1.mp z (by rw [z0, z6]; exact r2)
      have hr : r160 (Int32.ofNat n) x2 M = zmS M 0 (Int32.ofInt 0) := (if_neg n1).trans (if_neg n2)
      have hv : v160 (Int32.ofNat n) x2 M = v159 (Int32.ofNat n) x2 (zmS M 0 (Int32.ofInt 0)) := (if_neg n1).trans (if_neg n2)
      have key : R70 (Int32.ofNat n) x2 S = .inl (some (.int (v159 (Int32.ofNat n) x2 (zmS M 0 (Int32.ofInt 0))))) := by
        obtain ⟨K, hK⟩ : ∃ K, K = zmS M 0 (Int32.ofInt 0) := ⟨_, rfl⟩
        rw [← hK] at h0 ⊢
        obtain ⟨a, b, ha, hb, e1, e2, e3, e4⟩ := zcel h0 hn
        have eR : R70 (Int32.ofNat n) x2 S = _ := if_pos c
        rw [eR]
        unfold v159
        rcases (show x2.toInt = 0 ∨ x2.toInt = 1 ∨ x2.toInt = 2 ∨ x2.toInt = 3 ∨ x2.toInt = 4 ∨ x2.toInt = 5 ∨ x2.toInt = 6 by omega) with k | k | k | k | k | k | k
        · obtain rfl : x2 = Int32.ofInt 0 := Int32.toInt_inj.mp (k.trans (by decide))
          rw [if_pos rfl, if_pos rfl, zE_wd h0 hn]
        · obtain rfl : x2 = Int32.ofInt 1 := Int32.toInt_inj.mp (k.trans (by decide))
          rw [if_neg (by decide), if_pos rfl, if_neg (by decide), if_pos rfl, zE_wd h0 hn, zE_vd h0]
        · obtain rfl : x2 = Int32.ofInt 2 := Int32.toInt_inj.mp (k.trans (by decide))
          rw [if_neg (by decide), if_neg (by decide), if_pos rfl, if_neg (by decide), if_neg (by decide), if_pos rfl, zE_17 h0, ← zfg (zfg17 h0 hn)]
        · obtain rfl : x2 = Int32.ofInt 3 := Int32.toInt_inj.mp (k.trans (by decide))
          rw [if_neg (by decide), if_neg (by decide), if_neg (by decide), if_pos rfl, if_neg (by decide), if_neg (by decide), if_neg (by decide), if_pos rfl, zE_18 h0, ← zfg (zfg18 h0 hn)]
        · obtain rfl : x2 = Int32.ofInt 4 := Int32.toInt_inj.mp (k.trans (by decide))
          rw [if_neg (by decide), if_neg (by decide), if_neg (by decide), if_neg (by decide), if_pos rfl, if_neg (by decide), if_neg (by decide), if_neg (by decide), if_neg (by decide), if_pos rfl]
          obtain ⟨q1, q2, q3⟩ := zqr hn
          obtain ⟨q, hq, g1, g2⟩ := h0.1.2.2.2.2 (n / 8) (by omega)
          unfold v124
          rw [q1, g1, g2, (zt_mod (by omega)).1]
          congr 4
          omega
        · obtain rfl : x2 = Int32.ofInt 5 := Int32.toInt_inj.mp (k.trans (by decide))
          rw [if_neg (by decide), if_neg (by decide), if_neg (by decide), if_neg (by decide), if_neg (by decide), if_pos rfl, if_neg (by decide), if_neg (by decide), if_neg (by decide), if_neg (by decide), if_neg (by decide), if_pos rfl, e1, e2, e3, zof1]
          rw [zV23_15 (a := a) (x3 := Int32.ofNat b) h0.1.2.1.2.1 (by omega) (by omega) (by omega) (fun A B hA hB => ?_)]
          have nb : ¬ Int32.ofNat b = Int32.ofInt (-1) := (znx (by omega)).2.1
          exact ⟨fun y => ⟨by omega, Or.inr (by rw [show B = b by omega])⟩, fun y => by
            obtain ⟨y1, y2⟩ := y
            have := (zof_l (by omega) (by omega)).mp (y2.resolve_left nb)
            omega⟩
        · obtain rfl : x2 = Int32.ofInt 6 := Int32.toInt_inj.mp (k.trans (by decide))
          rw [if_neg (by decide), if_neg (by decide), if_neg (by decide), if_neg (by decide), if_neg (by decide), if_neg (by decide), if_pos rfl, if_neg (by decide), if_neg (by decide), if_neg (by decide), if_neg (by decide), if_neg (by decide), if_neg (by decide), e1, e2, e3, zof1]
          rw [zV23_22 (a := a) (x3 := Int32.ofNat b) h0.1.2.1.2.2 (by omega) (by omega) (by omega) (fun A B hA hB => ?_)]
          have nb : ¬ Int32.ofNat b = Int32.ofInt (-1) := (znx (by omega)).2.1
          exact ⟨fun y => ⟨by omega, Or.inr (by rw [show B = b by omega])⟩, fun y => by
            obtain ⟨y1, y2⟩ := y
            have := (zof_l (by omega) (by omega)).mp (y2.resolve_left nb)
            omega⟩
      rw [hr, hv]
      exact ⟨h0, Or.inl ⟨_, key, rfl, zM00⟩⟩
    · have n2 : v112 x2 (Int32.ofInt 0) (Int32.ofInt 6) (zmS M 0 (Int32.ofInt 0)) = 0 := v112_1.mpr (by rw [z0, z6]; exact r2)
      have hr : r160 (Int32.ofNat n) x2 M = r111 (Int32.ofInt 2) (zmS M 0 (Int32.ofInt 0)) := (if_neg n1).trans (if_pos n2)
      have nn : ∀ i : Int, 0 ≤ i → i ≤ 6 → ¬ x2 = Int32.ofInt i := fun i i0 i1 z => r2 (by
        have e : (Int32.ofInt i).toInt = i := Int32.toInt_ofInt_of_le (by omega) (by omega)
        rw [z, e]
        exact ⟨i0, i1⟩)
      have hR : R70 (Int32.ofNat n) x2 S = .inr 0 := (if_pos c).trans ((if_neg (nn 0 (by decide) (by decide))).trans ((if_neg (nn 1 (by decide) (by decide))).trans ((if_neg (nn 2 (by decide) (by decide))).trans ((if_neg (nn 3 (by decide) (by decide))).trans ((if_neg (nn 4 (by decide) (by decide))).trans ((if_neg (nn 5 (by decide) (by decide))).trans (if_neg (nn 6 (by decide) (by decide)))))))))
      rw [hR, hr]
      exact ⟨zE_0 h0, Or.inr ⟨0, rfl, show Int32.ofInt 2 = kc_204 0 by decide⟩⟩
  · have nc : ¬ C82 x1 S = true := fun z => r1 (C82_ok.mp z)
    have n1 : v138 x1 (zmS M 0 (Int32.ofInt 0)) = 0 := v112_1.mpr (by rw [z0, z127]; exact r1)
    have hR : R70 x1 x2 S = .inr 1 := if_neg nc
    have hr : r160 x1 x2 M = r111 (Int32.ofInt 1) (zmS M 0 (Int32.ofInt 0)) := if_pos n1
    rw [hR, hr]
    exact ⟨zE_0 h0, Or.inr ⟨1, rfl, show Int32.ofInt 1 = kc_204 1 by decide⟩⟩
/-- ofEntry -/
theorem zM_72 (h : zE S M) : zE (F72 x1 x2 S) (r165 x1 x2 M) ∧ zAn (R72 x1 x2 S) (v165 x1 x2 M) ((r165 x1 x2 M).1 0) kc_206 := by
  have h0 : zE S (zmS M 0 (Int32.ofInt 0)) := zE_0 h
  have z0 : (Int32.ofInt 0).toInt = 0 := by decide
  have z2 : (Int32.ofInt 2).toInt = 2 := by decide
  obtain ⟨g1, g2, g3, g4⟩ := zE_lg h0
  have el := zlnm1 g2
  rw [Fe_72]
  by_cases r1 : 0 ≤ x1.toInt ∧ x1.toInt < ((zmS M 0 (Int32.ofInt 0)).2.2.1 2).length
  · have c1 : ¬ x1.toInt < ((0 : Int32)).toInt := by
      rw [zero_z]
      omega
    have c2 : x1.toInt < (S.1 11).toInt := by
      rw [g1, zof_0 (by omega)]
      exact r1.2
    have n1 : ¬ v112 x1 (Int32.ofInt 0) (Int32.ofNat ((zmS M 0 (Int32.ofInt 0)).2.2.1 2).length - Int32.ofInt 1) (zmS M 0 (Int32.ofInt 0)) = 0 := fun z => v112_1.mp z (by rw [z0, el]; omega)
    obtain ⟨n, rfl, hn⟩ := znat r1.1
    have hn : n < ((zmS M 0 (Int32.ofInt 0)).2.2.1 2).length := by omega
    by_cases r2 : 0 ≤ x2.toInt ∧ x2.toInt ≤ 2
    · have n2 : ¬ v112 x2 (Int32.ofInt 0) (Int32.ofInt 2) (zmS M 0 (Int32.ofInt 0)) = 0 := fun z => v112_1.mp z (by rw [z0, z2]; exact r2)
      have hr : r165 (Int32.ofNat n) x2 M = zmS M 0 (Int32.ofInt 0) := (if_neg n1).trans (if_neg n2)
      have hv : v165 (Int32.ofNat n) x2 M = zgt (((zmS M 0 (Int32.ofInt 0)).2.2.1 2).getD (Int32.toNatClampNeg (Int32.ofNat n)) []) x2 := (if_neg n1).trans (if_neg n2)
      obtain ⟨a, b, c, e0, ha, hb, e1, e2, e3⟩ := g4 n _ (List.getElem?_eq_getElem hn)
      have eg : ((zmS M 0 (Int32.ofInt 0)).2.2.1 2).getD (Int32.toNatClampNeg (Int32.ofNat n)) [] = [Int32.ofNat a, b, c] := by
        rw [zcl_of (by omega), List.getD_eq_getElem?_getD, List.getElem?_eq_getElem hn, ← e0]
        rfl
      rw [eg] at hv
      have key : R72 (Int32.ofNat n) x2 S = .inl (some (.int (zgt [Int32.ofNat a, b, c] x2))) := by
        have eR : R72 (Int32.ofNat n) x2 S = _ := (if_neg c1).trans (if_pos c2)
        rw [eR, e1, e2, e3]
        rcases (show x2.toInt = 0 ∨ x2.toInt = 1 ∨ x2.toInt = 2 by omega) with k | k | k
        · obtain rfl : x2 = Int32.ofInt 0 := Int32.toInt_inj.mp (k.trans (by decide))
          rw [if_pos rfl]
          rfl
        · obtain rfl : x2 = Int32.ofInt 1 := Int32.toInt_inj.mp (k.trans (by decide))
          rw [if_neg (by decide), if_pos rfl]
          rfl
        · obtain rfl : x2 = Int32.ofInt 2 := Int32.toInt_inj.mp (k.trans (by decide))
          rw [if_neg (by decide), if_neg (by decide), if_pos rfl]
          rfl
      rw [hr, hv]
      exact ⟨h0, Or.inl ⟨_, key, rfl, zM00⟩⟩
    · have n2 : v112 x2 (Int32.ofInt 0) (Int32.ofInt 2) (zmS M 0 (Int32.ofInt 0)) = 0 := v112_1.mpr (by rw [z0, z2]; exact r2)
      have hr : r165 (Int32.ofNat n) x2 M = r111 (Int32.ofInt 2) (zmS M 0 (Int32.ofInt 0)) := (if_neg n1).trans (if_pos n2)
      have nn : ∀ i : Int, 0 ≤ i → i ≤ 2 → ¬ x2 = Int32.ofInt i := fun i i0 i1 z => r2 (by
        have e : (Int32.ofInt i).toInt = i := Int32.toInt_ofInt_of_le (by omega) (by omega)
        rw [z, e]
        exact ⟨i0, i1⟩)
      have hR : R72 (Int32.ofNat n) x2 S = .inr 0 := (if_neg c1).trans ((if_pos c2).trans ((if_neg (nn 0 (by decide) (by decide))).trans ((if_neg (nn 1 (by decide) (by decide))).trans (if_neg (nn 2 (by decide) (by decide))))))
      rw [hR, hr]
      exact ⟨zE_0 h0, Or.inr ⟨0, rfl, show Int32.ofInt 2 = kc_206 0 by decide⟩⟩
  · have n1 : v112 x1 (Int32.ofInt 0) (Int32.ofNat ((zmS M 0 (Int32.ofInt 0)).2.2.1 2).length - Int32.ofInt 1) (zmS M 0 (Int32.ofInt 0)) = 0 := v112_1.mpr (by rw [z0, el]; omega)
    have hr : r165 x1 x2 M = r111 (Int32.ofInt 1) (zmS M 0 (Int32.ofInt 0)) := if_pos n1
    have hR : R72 x1 x2 S = .inr 1 := by
      by_cases q : x1.toInt < ((0 : Int32)).toInt
      · exact if_pos q
      · have q2 : ¬ x1.toInt < (S.1 11).toInt := by
          rw [zero_z] at q
          rw [g1, zof_0 (by omega)]
          omega
        exact (if_neg q).trans (if_neg q2)
    rw [hR, hr]
    exact ⟨zE_0 h0, Or.inr ⟨1, rfl, show Int32.ofInt 1 = kc_206 1 by decide⟩⟩
/-- what a word would tell -/
theorem zE_176 (h : zE S M) (hn : n < 128) : V97 (Int32.ofNat n) S = v176 (Int32.ofNat n) M := by
  have hd := zE_da (w := V92 (Int32.ofNat n) S) h
  rw [zE_wd h hn] at hd
  unfold v176
  rw [zE_17 h]
  by_cases q : zgt (S.2 17) (Int32.ofNat n) = 0
  · rw [if_pos q, show V97 (Int32.ofNat n) S = zda S.1 S.2 (V92 (Int32.ofNat n) S) from if_pos (V95_ok.mpr q), zE_wd h hn]
    exact hd
  · rw [if_neg q]
    exact if_neg (fun z => q (V95_ok.mp z))
theorem zM_77 (h : zE S M) : zE (F77 x1 S) (r178 x1 M) ∧ zAn (R77 x1 S) (v178 x1 M) ((r178 x1 M).1 0) kc_211 := by
  have h0 : zE S (zmS M 0 (Int32.ofInt 0)) := zE_0 h
  have z0 : (Int32.ofInt 0).toInt = 0 := by decide
  have z127 : (Int32.ofInt 127).toInt = 127 := by decide
  rw [Fe_77]
  by_cases r1 : 0 ≤ x1.toInt ∧ x1.toInt ≤ 127
  · have c := C82_ok (S := S).mpr r1
    have n1 : ¬ v138 x1 (zmS M 0 (Int32.ofInt 0)) = 0 := fun z => v112_1.mp z (by rw [z0, z127]; exact r1)
    obtain ⟨n, rfl, hn⟩ := znat r1.1
    have hn : n < 128 := by omega
    have hr : r178 (Int32.ofNat n) M = zmS M 0 (Int32.ofInt 0) := if_neg n1
    have hv : v178 (Int32.ofNat n) M = v177 (Int32.ofNat n) (zmS M 0 (Int32.ofInt 0)) := if_neg n1
    have key : R77 (Int32.ofNat n) S = .inl (some (.int (v177 (Int32.ofNat n) (zmS M 0 (Int32.ofInt 0))))) := by
      obtain ⟨K, hK⟩ : ∃ K, K = zmS M 0 (Int32.ofInt 0) := ⟨_, rfl⟩
      rw [← hK] at h0 ⊢
      have eR : R77 (Int32.ofNat n) S = _ := if_pos c
      rw [eR]
      unfold v177
      have ht : (n + 64) % 128 < 128 := Nat.mod_lt _ (by decide)
      obtain ⟨w1, w2⟩ := zV89 (S := S) (M := K) hn
      rw [w1, w2, zE_18 h0, zE_176 h0 hn, zE_176 h0 ht, ← (zE_s h0).2.2.1.2.2]
      by_cases a : zgt (S.2 18) (Int32.ofNat n) = 0
      · rw [if_pos (V96_ok.mpr a), if_pos a]
        by_cases b : v176 (Int32.ofNat n) K = Int32.ofInt (-1)
        · rw [if_pos b, if_pos b]
          by_cases d : S.1 16 = 0
          · rw [if_pos d, if_pos d]
          · rw [if_neg d, if_neg d]
            by_cases e : zgt (S.2 18) (Int32.ofNat ((n + 64) % 128)) = 0
            · rw [if_pos (V96_ok.mpr e), if_pos e]
            · rw [if_neg (fun z => e (V96_ok.mp z)), if_neg e]
        · rw [if_neg b, if_neg b]
      · rw [if_neg (fun z => a (V96_ok.mp z)), if_neg a]
    rw [hr, hv]
    exact ⟨h0, Or.inl ⟨_, key, rfl, zM00⟩⟩
  · have nc : ¬ C82 x1 S = true := fun z => r1 (C82_ok.mp z)
    have n1 : v138 x1 (zmS M 0 (Int32.ofInt 0)) = 0 := v112_1.mpr (by rw [z0, z127]; exact r1)
    have hR : R77 x1 S = .inr 1 := if_neg nc
    have hr : r178 x1 M = r111 (Int32.ofInt 1) (zmS M 0 (Int32.ofInt 0)) := if_pos n1
    rw [hR, hr]
    exact ⟨zE_0 h0, Or.inr ⟨1, rfl, show Int32.ofInt 1 = kc_211 1 by decide⟩⟩
/-- board -/
theorem w149_s71 {l3 u0 : Int32} (h : ∀ x ∈ M.2.1 24, x = 0 ∨ x = 1) : ∀ k, k ≤ (M.2.1 24).length → (M.2.1 24).length < 2147483648 → w149_71 l3 M u0 k = ((M.2.1 24).take k).foldl (· + ·) u0
  | 0, _, _ => rfl
  | k + 1, hk, hl => by
    show d149_71 l3 M k (w149_71 l3 M u0 k) = _
    rw [w149_s71 h k (by omega) hl, List.take_add_one, List.getElem?_eq_getElem (by omega), List.foldl_append]
    have e : zgt (M.2.1 24) (Int32.ofNat k) = (M.2.1 24)[k] := by
      rw [zgt_n (by omega), List.getD_eq_getElem?_getD, List.getElem?_eq_getElem (by omega)]
      rfl
    unfold d149_71
    rw [e]
    have hm := h _ (List.getElem_mem (l := M.2.1 24) (n := k) (by omega))
    show _ = _ + (M.2.1 24)[k]
    rcases hm with z | z
    · rw [z, if_pos rfl]
      rfl
    · rw [z, if_neg (by decide)]
      rfl
theorem v149_s71 (h : ∀ x ∈ M.2.1 24, x = 0 ∨ x = 1) (hl : (M.2.1 24).length = 128) : v149_71 M = zsum (M.2.1 24) := by
  unfold v149_71 y149_71
  rw [hl, show ((Int32.ofNat 128).toInt.toNat) = 128 by decide, w149_s71 h _ (by omega) (by omega), ← hl, List.take_length]
  rfl
theorem zM_74 (hp : zSp S M) (h : zE S M) : zE (F74 x1 S) (r172 x1 M) ∧ zAn (R74 x1 S) (v172 x1 M) ((r172 x1 M).1 0) kc_208 := by
  have h0 : zE S (zmS M 0 (Int32.ofInt 0)) := zE_0 h
  have hp0 : zSp S (zmS M 0 (Int32.ofInt 0)) := hp
  have z0 : (Int32.ofInt 0).toInt = 0 := by decide
  have z17 : (Int32.ofInt 17).toInt = 17 := by decide
  rw [Fe_74]
  by_cases r2 : 0 ≤ x1.toInt ∧ x1.toInt ≤ 17
  · have n2 : ¬ v112 x1 (Int32.ofInt 0) (Int32.ofInt 17) (zmS M 0 (Int32.ofInt 0)) = 0 := fun z => v112_1.mp z (by rw [z0, z17]; exact r2)
    have hr : r172 x1 M = zmS M 0 (Int32.ofInt 0) := if_neg n2
    have hv : v172 x1 M = v171 x1 (zmS M 0 (Int32.ofInt 0)) := if_neg n2
    have key : R74 x1 S = .inl (some (.int (v171 x1 (zmS M 0 (Int32.ofInt 0))))) := by
      obtain ⟨K, hK⟩ : ∃ K, K = zmS M 0 (Int32.ofInt 0) := ⟨_, rfl⟩
      rw [← hK] at h0 hp0 ⊢
      obtain ⟨k, r, c1, c2, c3, c4, c5⟩ := zE_co h0
      obtain ⟨a1, a2, ⟨a3, a4, a5⟩, a6, a7, a8⟩ := zE_s h0
      have b24 := zE_17 h0
      have b25 := zE_18 h0
      have e24 : v149_71 K = zsum (S.2 17) := by
        rw [v149_s71 (by rw [b24]; exact (zE_c h0).2.2.2.2) (by rw [b24]; exact (zE_c h0).2.2.2.1), b24]
      have e25 : v149_72 K = zsum (S.2 18) := by
        rw [v149_sum (by rw [b25]; exact h0.1.1.2.2.2) (by rw [b25]; exact h0.1.1.2.2.1), b25]
      have t4 := zE_tk h0
      have d8 := (zE_d h0).1
      have l0 := h0.1.2.1.2.1.1
      have l1 := h0.1.2.1.2.2.1
      have l2 := (zE_lg h0).1
      unfold v171
      rw [e24, e25, ← t4, ← a1.1, ← a2.1, ← a3, ← a4, ← a5, ← a6, ← a7, ← a8, ← d8, ← l0, ← l1, ← l2, ← hp0.1, c2, c3, ← c1.2.1, ← c1.2.2.1]
      rcases (show x1.toInt = 0 ∨ x1.toInt = 1 ∨ x1.toInt = 2 ∨ x1.toInt = 3 ∨ x1.toInt = 4 ∨ x1.toInt = 5 ∨ x1.toInt = 6 ∨ x1.toInt = 7 ∨ x1.toInt = 8 ∨ x1.toInt = 9 ∨ x1.toInt = 10 ∨ x1.toInt = 11 ∨ x1.toInt = 12 ∨ x1.toInt = 13 ∨ x1.toInt = 14 ∨ x1.toInt = 15 ∨ x1.toInt = 16 ∨ x1.toInt = 17 by omega) with k | k | k | k | k | k | k | k | k | k | k | k | k | k | k | k | k | k
      · obtain rfl : x1 = Int32.ofInt 0 := Int32.toInt_inj.mp (k.trans (by decide))
        unfold R74
        rw [if_pos rfl]
        split <;> split <;> rfl
      · obtain rfl : x1 = Int32.ofInt 1 := Int32.toInt_inj.mp (k.trans (by decide))
        unfold R74
        rw [if_neg (by decide), if_pos rfl]
        split <;> split <;> rfl
      · obtain rfl : x1 = Int32.ofInt 2 := Int32.toInt_inj.mp (k.trans (by decide))
        unfold R74
        rw [if_neg (by decide), if_neg (by decide), if_pos rfl]
        split <;> split <;> rfl
      · obtain rfl : x1 = Int32.ofInt 3 := Int32.toInt_inj.mp (k.trans (by decide))
        unfold R74
        rw [if_neg (by decide), if_neg (by decide), if_neg (by decide), if_pos rfl]
        split <;> split <;> rfl
      · obtain rfl : x1 = Int32.ofInt 4 := Int32.toInt_inj.mp (k.trans (by decide))
        unfold R74
        rw [if_neg (by decide), if_neg (by decide), if_neg (by decide), if_neg (by decide), if_pos rfl]
        split <;> split <;> rfl
      · obtain rfl : x1 = Int32.ofInt 5 := Int32.toInt_inj.mp (k.trans (by decide))
        unfold R74
        rw [if_neg (by decide), if_neg (by decide), if_neg (by decide), if_neg (by decide), if_neg (by decide), if_pos rfl]
        split <;> split <;> rfl
      · obtain rfl : x1 = Int32.ofInt 6 := Int32.toInt_inj.mp (k.trans (by decide))
        unfold R74
        rw [if_neg (by decide), if_neg (by decide), if_neg (by decide), if_neg (by decide), if_neg (by decide), if_neg (by decide), if_pos rfl]
        by_cases d : S.1 15 = 0
        · rw [if_pos d, if_pos d]
          split <;> rfl
        · rw [if_neg d, if_neg d]
          split <;> rfl
      · obtain rfl : x1 = Int32.ofInt 7 := Int32.toInt_inj.mp (k.trans (by decide))
        unfold R74
        rw [if_neg (by decide), if_neg (by decide), if_neg (by decide), if_neg (by decide), if_neg (by decide), if_neg (by decide), if_neg (by decide), if_pos rfl]
        by_cases d : S.1 16 = 0
        · rw [if_pos d, if_pos d, if_pos d]
          split <;> rfl
        · rw [if_neg d, if_neg d, if_neg d]
          split <;> rfl
      · obtain rfl : x1 = Int32.ofInt 8 := Int32.toInt_inj.mp (k.trans (by decide))
        unfold R74
        rw [if_neg (by decide), if_neg (by decide), if_neg (by decide), if_neg (by decide), if_neg (by decide), if_neg (by decide), if_neg (by decide), if_neg (by decide), if_pos rfl]
        split <;> split <;> rfl
      · obtain rfl : x1 = Int32.ofInt 9 := Int32.toInt_inj.mp (k.trans (by decide))
        unfold R74
        rw [if_neg (by decide), if_neg (by decide), if_neg (by decide), if_neg (by decide), if_neg (by decide), if_neg (by decide), if_neg (by decide), if_neg (by decide), if_neg (by decide), if_pos rfl]
        split <;> split <;> rfl
      · obtain rfl : x1 = Int32.ofInt 10 := Int32.toInt_inj.mp (k.trans (by decide))
        unfold R74
        rw [if_neg (by decide), if_neg (by decide), if_neg (by decide), if_neg (by decide), if_neg (by decide), if_neg (by decide), if_neg (by decide), if_neg (by decide), if_neg (by decide), if_neg (by decide), if_pos rfl]
        split <;> split <;> rfl
      · obtain rfl : x1 = Int32.ofInt 11 := Int32.toInt_inj.mp (k.trans (by decide))
        unfold R74
        rw [if_neg (by decide), if_neg (by decide), if_neg (by decide), if_neg (by decide), if_neg (by decide), if_neg (by decide), if_neg (by decide), if_neg (by decide), if_neg (by decide), if_neg (by decide), if_neg (by decide), if_pos rfl]
        split <;> split <;> rfl
      · obtain rfl : x1 = Int32.ofInt 12 := Int32.toInt_inj.mp (k.trans (by decide))
        unfold R74
        rw [if_neg (by decide), if_neg (by decide), if_neg (by decide), if_neg (by decide), if_neg (by decide), if_neg (by decide), if_neg (by decide), if_neg (by decide), if_neg (by decide), if_neg (by decide), if_neg (by decide), if_neg (by decide), if_pos rfl]
        split <;> split <;> rfl
      · obtain rfl : x1 = Int32.ofInt 13 := Int32.toInt_inj.mp (k.trans (by decide))
        unfold R74
        rw [if_neg (by decide), if_neg (by decide), if_neg (by decide), if_neg (by decide), if_neg (by decide), if_neg (by decide), if_neg (by decide), if_neg (by decide), if_neg (by decide), if_neg (by decide), if_neg (by decide), if_neg (by decide), if_neg (by decide), if_pos rfl]
        split <;> split <;> rfl
      · obtain rfl : x1 = Int32.ofInt 14 := Int32.toInt_inj.mp (k.trans (by decide))
        unfold R74
        rw [if_neg (by decide), if_neg (by decide), if_neg (by decide), if_neg (by decide), if_neg (by decide), if_neg (by decide), if_neg (by decide), if_neg (by decide), if_neg (by decide), if_neg (by decide), if_neg (by decide), if_neg (by decide), if_neg (by decide), if_neg (by decide), if_pos rfl]
        split <;> split <;> rfl
      · obtain rfl : x1 = Int32.ofInt 15 := Int32.toInt_inj.mp (k.trans (by decide))
        unfold R74
        rw [if_neg (by decide), if_neg (by decide), if_neg (by decide), if_neg (by decide), if_neg (by decide), if_neg (by decide), if_neg (by decide), if_neg (by decide), if_neg (by decide), if_neg (by decide), if_neg (by decide), if_neg (by decide), if_neg (by decide), if_neg (by decide), if_neg (by decide), if_pos rfl]
        split <;> split <;> rfl
      · obtain rfl : x1 = Int32.ofInt 16 := Int32.toInt_inj.mp (k.trans (by decide))
        unfold R74
        rw [if_neg (by decide), if_neg (by decide), if_neg (by decide), if_neg (by decide), if_neg (by decide), if_neg (by decide), if_neg (by decide), if_neg (by decide), if_neg (by decide), if_neg (by decide), if_neg (by decide), if_neg (by decide), if_neg (by decide), if_neg (by decide), if_neg (by decide), if_neg (by decide), if_pos rfl]
        split <;> split <;> rfl
      · obtain rfl : x1 = Int32.ofInt 17 := Int32.toInt_inj.mp (k.trans (by decide))
        unfold R74
        rw [if_neg (by decide), if_neg (by decide), if_neg (by decide), if_neg (by decide), if_neg (by decide), if_neg (by decide), if_neg (by decide), if_neg (by decide), if_neg (by decide), if_neg (by decide), if_neg (by decide), if_neg (by decide), if_neg (by decide), if_neg (by decide), if_neg (by decide), if_neg (by decide), if_neg (by decide), if_pos rfl]
        split <;> split <;> rfl
    rw [hr, hv]
    exact ⟨h0, Or.inl ⟨_, key, rfl, zM00⟩⟩
  · have n2 : v112 x1 (Int32.ofInt 0) (Int32.ofInt 17) (zmS M 0 (Int32.ofInt 0)) = 0 := v112_1.mpr (by rw [z0, z17]; exact r2)
    have hr : r172 x1 M = r111 (Int32.ofInt 1) (zmS M 0 (Int32.ofInt 0)) := if_pos n2
    have nn : ∀ i : Int, 0 ≤ i → i ≤ 17 → ¬ x1 = Int32.ofInt i := fun i i0 i1 z => r2 (by
      have e : (Int32.ofInt i).toInt = i := Int32.toInt_ofInt_of_le (by omega) (by omega)
      rw [z, e]
      exact ⟨i0, i1⟩)
    have hR : R74 x1 S = .inr 0 := by
      unfold R74
      rw [if_neg (nn 0 (by decide) (by decide)), if_neg (nn 1 (by decide) (by decide)), if_neg (nn 2 (by decide) (by decide)), if_neg (nn 3 (by decide) (by decide)), if_neg (nn 4 (by decide) (by decide)), if_neg (nn 5 (by decide) (by decide)), if_neg (nn 6 (by decide) (by decide)), if_neg (nn 7 (by decide) (by decide)), if_neg (nn 8 (by decide) (by decide)), if_neg (nn 9 (by decide) (by decide)), if_neg (nn 10 (by decide) (by decide)), if_neg (nn 11 (by decide) (by decide)), if_neg (nn 12 (by decide) (by decide)), if_neg (nn 13 (by decide) (by decide)), if_neg (nn 14 (by decide) (by decide)), if_neg (nn 15 (by decide) (by decide)), if_neg (nn 16 (by decide) (by decide)), if_neg (nn 17 (by decide) (by decide))]
    rw [hR, hr]
    exact ⟨zE_0 h0, Or.inr ⟨0, rfl, show Int32.ofInt 1 = kc_208 0 by decide⟩⟩
end ZL3U
section ZL3V
variable {S S' : zSt} {M M' : zRt} {x1 x2 x3 : Int32}
theorem zZ_70 (h : zZ S M) : zZ (F70 x1 x2 S) (r160 x1 x2 M) := by
  have z := (zM_70 (x1 := x1) (x2 := x2) h.2.2).1
  rw [Fe_70] at z ⊢
  exact ⟨zA0_fr (W := []) (V := []) fm_rf gr_160 (by decide) h.1, zSp_fr (W := []) (V := []) fm_rf gr_160 (by decide) h.2.1, z⟩
theorem zC9_70 (h : zZ S M) : zAn (R70 x1 x2 S) (v160 x1 x2 M) ((r160 x1 x2 M).1 0) kc_204 := (zM_70 h.2.2).2
theorem zZ_72 (h : zZ S M) : zZ (F72 x1 x2 S) (r165 x1 x2 M) := by
  have z := (zM_72 (x1 := x1) (x2 := x2) h.2.2).1
  rw [Fe_72] at z ⊢
  exact ⟨zA0_fr (W := []) (V := []) fm_rf gr_165 (by decide) h.1, zSp_fr (W := []) (V := []) fm_rf gr_165 (by decide) h.2.1, z⟩
theorem zC9_72 (h : zZ S M) : zAn (R72 x1 x2 S) (v165 x1 x2 M) ((r165 x1 x2 M).1 0) kc_206 := (zM_72 h.2.2).2
theorem zZ_77 (h : zZ S M) : zZ (F77 x1 S) (r178 x1 M) := by
  have z := (zM_77 (x1 := x1) h.2.2).1
  rw [Fe_77] at z ⊢
  exact ⟨zA0_fr (W := []) (V := []) fm_rf gr_178 (by decide) h.1, zSp_fr (W := []) (V := []) fm_rf gr_178 (by decide) h.2.1, z⟩
theorem zC9_77 (h : zZ S M) : zAn (R77 x1 S) (v178 x1 M) ((r178 x1 M).1 0) kc_211 := (zM_77 h.2.2).2
theorem zZ_74 (h : zZ S M) : zZ (F74 x1 S) (r172 x1 M) := by
  rw [Fe_74]
  exact zZ_172 h
theorem zC9_74 (h : zZ S M) : zAn (R74 x1 S) (v172 x1 M) ((r172 x1 M).1 0) kc_208 := (zM_74 h.2.1 h.2.2).2
end ZL3V
