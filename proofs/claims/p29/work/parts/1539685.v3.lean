section ZQ2
variable {xs : List Int32} {N : Nat} {S : zSt} {M : zRt} {X : zXt} {q : Nat} {vs : List Value} {nc ns : Nat}
def zrP_71 (r : Option Value ⊕ Nat) : Prop := (∃ x : Int32, r = .inl (some (.int x))) ∨ r = .inr 1 ∨ r = .inr 0
theorem rs_71 {x1 x2 x3 : Int32} : (∃ x : Int32, R71 x1 x2 x3 S = .inl (some (.int x))) ∨ R71 x1 x2 x3 S = .inr 1 ∨ R71 x1 x2 x3 S = .inr 0 := by
  show zrP_71 (R71 x1 x2 x3 S)
  unfold R71
  repeat' first | refine zifP (P := zrP_71) ?_ ?_ | exact Or.inl ⟨_, rfl⟩ | exact Or.inr (Or.inl (rfl)) | exact Or.inr (Or.inr (rfl))
abbrev kc_205 : Nat → Int32 := fun E => if E = 1 then Int32.ofInt 1 else if E = 0 then Int32.ofInt 2 else 0
theorem Fe_71 {x1 x2 x3 : Int32} : F71 x1 x2 x3 S = S := by
  unfold F71
  repeat' first | refine zifP (P := fun r => r = S) ?_ ?_ | exact rfl
theorem pw_205 {x1 x2 x3 : Int32} (HL : zaL S.2) (hX : zUX (q, 6, vs) X M.2.2) (ho : zOu vs) : zpM xs N 205 [.ref 0, .int x1, .int x2, .int x3, .ref q] (zy S M X) nc ns (zNq (zWy q (R71 x1 x2 x3 S) (F71 x1 x2 x3 S) M kc_205)) := by
  intro L0 e
  cases e
  refine zpE_run 5 (L' := [some (.ref 0), some (.int x1), some (.int x2), some (.int x3), some (.ref q), none]) (st' := [.int x3, .int x2, .int x1, .ref 0, .ref q]) rfl ?_
  refine zpE_call rfl rfl (e_71 (S := S) (x1 := x1) (x2 := x2) (x3 := x3) HL) (fun v h1 nc1 ns1 q8 => ?_) (fun E h1 nc1 ns1 q8 => ?_)
  · obtain ⟨q8, q9⟩ := q8
    cases q9
    rcases rs_71 (S := S) (x1 := x1) (x2 := x2) (x3 := x3) with ⟨x, hx⟩ | hx | hx
    · rw [hx] at q8
      cases q8
      refine zpE_run 1 (L' := [some (.ref 0), some (.int x1), some (.int x2), some (.int x3), some (.ref q), none]) (st' := [.long x.toInt64, .ref q]) (h' := zy (F71 x1 x2 x3 S) M X) rfl ?_
      obtain ⟨b1, b2, b3⟩ := zOu_0 (a := x.toInt64) ho
      refine zpE_putb (h' := zy (F71 x1 x2 x3 S) M (X.1, X.2.1, X.2.2.set (q - 73) (6, vs.set 0 (.long x.toInt64)))) rfl (zUX_q (S := F71 x1 x2 x3 S) (M := M) hX) rfl (zy_out (M := M) hX.2.2.2.1) (fun _ => ?_)
      refine zpE_gen (fun nc ns => ?_)
      exact zpE_run 2 rfl (zpE_end rfl rfl (fun v hv => by
        cases hv
        exact ⟨_, _, _, rfl, rfl, zUX_out hX, b1, Or.inl ⟨x, hx, by decide, b2⟩⟩))
    · rw [hx] at q8
      cases q8
    · rw [hx] at q8
      cases q8
  · obtain ⟨q8, q9⟩ := q8
    cases q9
    rcases rs_71 (S := S) (x1 := x1) (x2 := x2) (x3 := x3) with ⟨x, hx⟩ | hx | hx
    · rw [hx] at q8
      cases q8
    · rw [hx] at q8
      cases q8
      refine ⟨fun z => absurd z (by decide), fun pc2 L2 e9 => ?_⟩
      obtain ⟨L3, e3⟩ : ∃ L3, zcatch 205 6 1 [some (.ref 0), some (.int x1), some (.int x2), some (.int x3), some (.ref q), none] = some (18, L3) := ⟨_, rfl⟩
      rw [show zcatch 205 6 1 _ = some (18, L3) from e3] at e9
      cases e9
      exact zpE_run 1 rfl (zpE_end rfl rfl (fun v hv => by
        cases hv
        exact ⟨_, _, _, rfl, rfl, hX, ho, Or.inr ⟨1, hx, by decide⟩⟩))
    · rw [hx] at q8
      cases q8
      refine ⟨fun z => absurd z (by decide), fun pc2 L2 e9 => ?_⟩
      obtain ⟨L3, e3⟩ : ∃ L3, zcatch 205 6 0 [some (.ref 0), some (.int x1), some (.int x2), some (.int x3), some (.ref q), none] = some (22, L3) := ⟨_, rfl⟩
      rw [show zcatch 205 6 0 _ = some (22, L3) from e3] at e9
      cases e9
      exact zpE_run 1 rfl (zpE_end rfl rfl (fun v hv => by
        cases hv
        exact ⟨_, _, _, rfl, rfl, hX, ho, Or.inr ⟨0, hx, by decide⟩⟩))
def zrP_78 (r : Option Value ⊕ Nat) : Prop := (∃ x : Int32, r = .inl (some (.int x))) ∨ r = .inr 1
theorem rs_78 {x1 : Int32} : (∃ x : Int32, R78 x1 S = .inl (some (.int x))) ∨ R78 x1 S = .inr 1 := by
  show zrP_78 (R78 x1 S)
  unfold R78
  repeat' first | refine zifP (P := zrP_78) ?_ ?_ | exact Or.inl ⟨_, rfl⟩ | exact Or.inr (rfl)
abbrev kc_212 : Nat → Int32 := fun E => if E = 1 then Int32.ofInt 1 else 0
theorem Fe_78 {x1 : Int32} : F78 x1 S = S := by
  unfold F78
  repeat' first | refine zifP (P := fun r => r = S) ?_ ?_ | exact rfl
theorem pw_212 {x1 : Int32} (HL : zaL S.2) (hX : zUX (q, 6, vs) X M.2.2) (ho : zOu vs) : zpM xs N 212 [.ref 0, .int x1, .ref q] (zy S M X) nc ns (zNq (zWy q (R78 x1 S) (F78 x1 S) M kc_212)) := by
  intro L0 e
  cases e
  refine zpE_run 3 (L' := [some (.ref 0), some (.int x1), some (.ref q), none]) (st' := [.int x1, .ref 0, .ref q]) rfl ?_
  refine zpE_call rfl rfl (e_78 (S := S) (x1 := x1) HL) (fun v h1 nc1 ns1 q8 => ?_) (fun E h1 nc1 ns1 q8 => ?_)
  · obtain ⟨q8, q9⟩ := q8
    cases q9
    rcases rs_78 (S := S) (x1 := x1) with ⟨x, hx⟩ | hx
    · rw [hx] at q8
      cases q8
      refine zpE_run 1 (L' := [some (.ref 0), some (.int x1), some (.ref q), none]) (st' := [.long x.toInt64, .ref q]) (h' := zy (F78 x1 S) M X) rfl ?_
      obtain ⟨b1, b2, b3⟩ := zOu_0 (a := x.toInt64) ho
      refine zpE_putb (h' := zy (F78 x1 S) M (X.1, X.2.1, X.2.2.set (q - 73) (6, vs.set 0 (.long x.toInt64)))) rfl (zUX_q (S := F78 x1 S) (M := M) hX) rfl (zy_out (M := M) hX.2.2.2.1) (fun _ => ?_)
      refine zpE_gen (fun nc ns => ?_)
      exact zpE_run 2 rfl (zpE_end rfl rfl (fun v hv => by
        cases hv
        exact ⟨_, _, _, rfl, rfl, zUX_out hX, b1, Or.inl ⟨x, hx, by decide, b2⟩⟩))
    · rw [hx] at q8
      cases q8
  · obtain ⟨q8, q9⟩ := q8
    cases q9
    rcases rs_78 (S := S) (x1 := x1) with ⟨x, hx⟩ | hx
    · rw [hx] at q8
      cases q8
    · rw [hx] at q8
      cases q8
      refine ⟨fun z => absurd z (by decide), fun pc2 L2 e9 => ?_⟩
      obtain ⟨L3, e3⟩ : ∃ L3, zcatch 212 3 1 [some (.ref 0), some (.int x1), some (.ref q), none] = some (14, L3) := ⟨_, rfl⟩
      rw [show zcatch 212 3 1 _ = some (14, L3) from e3] at e9
      cases e9
      exact zpE_run 1 rfl (zpE_end rfl rfl (fun v hv => by
        cases hv
        exact ⟨_, _, _, rfl, rfl, hX, ho, Or.inr ⟨1, hx, by decide⟩⟩))
end ZQ2
/-! ofLine, wouldSpare: of both. -/
section ZL3W
variable {S S' : zSt} {M M' : zRt} {u v w x x1 x2 x3 : Int32} {n a b l k r : Nat}
theorem C83_ok : C83 x1 S = true ↔ 0 ≤ x1.toInt ∧ x1.toInt ≤ 1 := by
  have e2 : (Int32.ofInt 2).toInt = 2 := by decide
  unfold C83
  rw [zero_z, e2]
  by_cases a : x1.toInt < 0
  · rw [if_pos a]
    exact ⟨fun z => (by cases z), fun z => by omega⟩
  · rw [if_neg a]
    by_cases b : x1.toInt < 2
    · rw [if_pos b]
      exact ⟨fun _ => by omega, fun _ => rfl⟩
    · rw [if_neg b]
      exact ⟨fun z => (by cases z), fun z => by omega⟩
theorem zE_cl (h : zE S M) : (zsyn (zco S.2) w (zwi S.1) = 0) ↔ (zkd M.2.2.2 w = 0) := by
  obtain ⟨k, r, c1, c2, c3, c4, c5⟩ := zE_co h
  rw [zRC_syn c1, c4]
  rcases zRC_3 (w := w) c1 with ⟨a1, a2, a3⟩ | ⟨j, hj, a1, a2, a3, a4⟩ | ⟨a1, a2, a3, a4⟩
  · exact ⟨fun _ => a2, fun _ => a3⟩
  · exact ⟨fun z => absurd z a4, fun z => absurd (a2.symm.trans z) (by decide)⟩
  · exact ⟨fun z => absurd z a4, fun z => absurd (a2.symm.trans z) (by decide)⟩
/-- words of a line that aren't clean -/
theorem zE_W100 (h : zE S M) (hl : l < 20) : ∀ k, k ≤ 8 → W100 (Int32.ofNat l) S u k = w161 (Int32.ofNat l) x M u k
  | 0, _ => rfl
  | k + 1, hk => by
    have ih := zE_W100 h hl k (by omega)
    show D100 _ S k (W100 _ S u k) = d161 _ _ M k (w161 _ _ M u k)
    rw [ih]
    unfold D100 d161
    have ec : Int32.ofNat l * Int32.ofInt 8 + Int32.ofNat k = Int32.ofNat (l * 8 + k) := by
      rw [show Int32.ofInt 8 = Int32.ofNat 8 from rfl, ← Int32.ofNat_mul, ← Int32.ofNat_add]
    rw [ec, (zE_w h).2.2 l k hl (by omega), zcl_of (by omega), zad0]
    by_cases q : zkd M.2.2.2 (zgt (M.2.1 l) (Int32.ofNat k)) = 0
    · rw [if_pos ((zE_cl h).mpr q), if_neg (by decide), if_pos q]
    · rw [if_neg (fun z => q ((zE_cl h).mp z)), if_pos rfl, if_neg q]
theorem zE_100 (h : zE S M) (hl : l < 20) : V100 (Int32.ofNat l) S = v161 (Int32.ofNat l) M := by
  have e8 : (Int32.ofNat (M.2.1 (Int32.toNatClampNeg (Int32.ofNat l))).length).toInt.toNat = 8 := by
    rw [zcl_of (by omega), (zE_w h).2.1 l hl]
    decide
  have e9 : (Int32.ofInt 8).toInt.toNat = 8 := by decide
  unfold V100 Y100 v161 y161
  rw [e8, e9]
  exact zE_W100 h hl 8 (Nat.le_refl _)
/-- stuck cells of a line -/
theorem zE_99 (h : zE S M) (hl : l < 20) : V99 (Int32.ofNat l) S = v158_0 (Int32.ofNat l) (Int32.ofInt (-1)) M := by
  have e1 : Int32.ofNat l * Int32.ofInt 8 = Int32.ofNat (l * 8) := by
    rw [show Int32.ofInt 8 = Int32.ofNat 8 from rfl, ← Int32.ofNat_mul]
  have e2 : Int32.ofNat (l * 8) + Int32.ofInt 8 = Int32.ofNat (l * 8 + 8) := by
    rw [show Int32.ofInt 8 = Int32.ofNat 8 from rfl, ← Int32.ofNat_add]
  unfold V99
  rw [e1, e2]
  exact zV23_15 h.1.2.1.2.1 (by omega) (by omega) (by omega) (fun A B hA hB => ⟨fun y => ⟨by omega, Or.inl rfl⟩, fun y => by
    have := y.1
    omega⟩)
/-- rows that aren't on a line -/
theorem zq162n : ∀ m k, (∀ j, k ≤ j → j < k + m → ¬ zgt (M.2.1 22) (Int32.ofNat j) = x) → q162 x M (m + r) k = q162 x M r (k + m)
  | 0, k, _ => by rw [Nat.zero_add, Nat.add_zero]
  | m + 1, k, h => by
    have e : q162 x M (m + 1 + r) k = q162 x M (m + r + 1) k := by rw [show m + 1 + r = m + r + 1 by omega]
    rw [e]
    show (if zgt (M.2.1 22) (Int32.ofNat k) = x then _ else q162 x M (m + r) (k + 1)) = _
    rw [if_neg (h k (Nat.le_refl _) (by omega)), zq162n m (k + 1) (fun j j1 j2 => h j (by omega) (by omega)), show k + 1 + m = k + (m + 1) by omega]
theorem zQ93 (h : zE S M) (ha : a < 2) (hb : b < 10) (ht : q162 (Int32.ofNat (a * 10 + b)) M r (a * 8 + 8) = Int32.ofInt (-1)) : ∀ m k, k + m = 8 → Q93 (Int32.ofNat a) (Int32.ofNat b) S m k = q162 (Int32.ofNat (a * 10 + b)) M (m + r) (a * 8 + k)
  | 0, k, hk => by
    rw [Nat.zero_add, show a * 8 + k = a * 8 + 8 by omega, ht]
    rfl
  | m + 1, k, hk => by
    have ih := zQ93 h ha hb ht m (k + 1) (by omega)
    have e : q162 (Int32.ofNat (a * 10 + b)) M (m + 1 + r) (a * 8 + k) = q162 (Int32.ofNat (a * 10 + b)) M (m + r + 1) (a * 8 + k) := by rw [show m + 1 + r = m + r + 1 by omega]
    rw [e]
    show (if zgt (S.2 15) (Int32.ofNat a * Int32.ofInt 8 + Int32.ofNat k) = Int32.ofNat b then Int32.ofNat k else Q93 _ _ S m (k + 1)) = (if zgt (M.2.1 22) (Int32.ofNat (a * 8 + k)) = Int32.ofNat (a * 10 + b) then zrmd (Int32.ofNat (a * 8 + k)) (Int32.ofInt 8) else q162 _ M (m + r) (a * 8 + k + 1))
    have ec : Int32.ofNat a * Int32.ofInt 8 + Int32.ofNat k = Int32.ofNat (a * 8 + k) := by
      rw [show Int32.ofInt 8 = Int32.ofNat 8 from rfl, ← Int32.ofNat_mul, ← Int32.ofNat_add]
    obtain ⟨q, hq, g1, g2⟩ := h.1.2.2.2.2 (a * 8 + k) (by omega)
    rw [ec, g1, g2, (zqr (show a * 8 + k < 128 by omega)).2.2, show (a * 8 + k) / 8 = a by omega, show (a * 8 + k) % 8 = k by omega, ih, show a * 8 + (k + 1) = a * 8 + k + 1 by omega]
    by_cases y : q = b
    · rw [if_pos (by rw [y]), if_pos (by rw [y])]
    · rw [if_neg (fun z => y ((zof_l (by omega) (by omega)).mp z)), if_neg (fun z => y (by
        have := (zof_l (by omega) (by omega)).mp z
        omega))]
theorem zE_93 (h : zE S M) (ha : a < 2) (hb : b < 10) : V93 (Int32.ofNat a) (Int32.ofNat b) S = v162 (Int32.ofNat (a * 10 + b)) M := by
  have e8 : (Int32.ofInt 8).toInt.toNat = 8 := by decide
  have e16 : (Int32.ofNat (M.2.1 22).length).toInt.toNat = 16 := by
    rw [h.1.2.2.2.1]
    decide
  have no : ∀ j, j < 16 → ¬ j / 8 = a → ¬ zgt (M.2.1 22) (Int32.ofNat j) = Int32.ofNat (a * 10 + b) := by
    intro j hj ne z
    obtain ⟨q, hq, g1, g2⟩ := h.1.2.2.2.2 j hj
    rw [g2] at z
    have := (zof_l (by omega) (by omega)).mp z
    omega
  unfold V93 v162
  rw [e8, e16]
  rcases (show a = 0 ∨ a = 1 by omega) with rfl | rfl
  · have t : q162 (Int32.ofNat (0 * 10 + b)) M 8 (0 * 8 + 8) = Int32.ofInt (-1) := by
      have z := zq162n (M := M) (x := Int32.ofNat (0 * 10 + b)) (r := 0) 8 8 (fun j j1 j2 => no j (by omega) (by omega))
      exact z
    exact zQ93 h ha hb t 8 0 rfl
  · have t : q162 (Int32.ofNat (1 * 10 + b)) M 0 (1 * 8 + 8) = Int32.ofInt (-1) := rfl
    have z := zq162n (M := M) (x := Int32.ofNat (1 * 10 + b)) (r := 8) 8 0 (fun j j1 j2 => no j (by omega) (by omega))
    rw [show (16 : Nat) = 8 + 8 from rfl, z]
    exact zQ93 h ha hb t 8 0 rfl
theorem zM_71 (h : zE S M) : zE (F71 x1 x2 x3 S) (r164 x1 x2 x3 M) ∧ zAn (R71 x1 x2 x3 S) (v164 x1 x2 x3 M) ((r164 x1 x2 x3 M).1 0) kc_205 := by
  have h0 : zE S (zmS M 0 (Int32.ofInt 0)) := zE_0 h
  have z0 : (Int32.ofInt 0).toInt = 0 := by decide
  have z1 : (Int32.ofInt 1).toInt = 1 := by decide
  have z4 : (Int32.ofInt 4).toInt = 4 := by decide
  have z9 : (Int32.ofInt 9).toInt = 9 := by decide
  have z10 : (Int32.ofInt 10).toInt = 10 := by decide
  rw [Fe_71]
  by_cases r1 : 0 ≤ x1.toInt ∧ x1.toInt ≤ 1
  · have c := C83_ok (S := S).mpr r1
    have n1 : ¬ v112 x1 (Int32.ofInt 0) (Int32.ofInt 1) (zmS M 0 (Int32.ofInt 0)) = 0 := fun z => v112_1.mp z (by rw [z0, z1]; exact r1)
    by_cases r2 : 0 ≤ x2.toInt ∧ x2.toInt ≤ 9
    · have d1 : ¬ x2.toInt < ((0 : Int32)).toInt := by
        rw [zero_z]
        omega
      have d2 : x2.toInt < (Int32.ofInt 10).toInt := by omega
      have n2 : ¬ v112 x2 (Int32.ofInt 0) (Int32.ofInt 9) (zmS M 0 (Int32.ofInt 0)) = 0 := fun z => v112_1.mp z (by rw [z0, z9]; exact r2)
      by_cases r3 : 0 ≤ x3.toInt ∧ x3.toInt ≤ 4
      · have n3 : ¬ v112 x3 (Int32.ofInt 0) (Int32.ofInt 4) (zmS M 0 (Int32.ofInt 0)) = 0 := fun z => v112_1.mp z (by rw [z0, z4]; exact r3)
        have hr : r164 x1 x2 x3 M = zmS M 0 (Int32.ofInt 0) := (if_neg n1).trans ((if_neg n2).trans (if_neg n3))
        have hv : v164 x1 x2 x3 M = v163 (x1 * Int32.ofInt 10 + x2) x3 (zmS M 0 (Int32.ofInt 0)) := (if_neg n1).trans ((if_neg n2).trans (if_neg n3))
        have key : R71 x1 x2 x3 S = .inl (some (.int (v163 (x1 * Int32.ofInt 10 + x2) x3 (zmS M 0 (Int32.ofInt 0))))) := by
          obtain ⟨K, hK⟩ : ∃ K, K = zmS M 0 (Int32.ofInt 0) := ⟨_, rfl⟩
          rw [← hK] at h0 ⊢
          have eR : R71 x1 x2 x3 S = _ := (if_pos c).trans ((if_neg d1).trans (if_pos d2))
          rw [eR]
          obtain ⟨a, rfl, ha⟩ := znat r1.1
          obtain ⟨b, rfl, hb⟩ := znat r2.1
          have el : Int32.ofNat a * Int32.ofInt 10 + Int32.ofNat b = Int32.ofNat (a * 10 + b) := by
            rw [show Int32.ofInt 10 = Int32.ofNat 10 from rfl, ← Int32.ofNat_mul, ← Int32.ofNat_add]
          have hl : a * 10 + b < 20 := by omega
          rw [el]
          unfold v163
          rcases (show x3.toInt = 0 ∨ x3.toInt = 1 ∨ x3.toInt = 2 ∨ x3.toInt = 3 ∨ x3.toInt = 4 by omega) with k | k | k | k | k
          · obtain rfl : x3 = Int32.ofInt 0 := Int32.toInt_inj.mp (k.trans (by decide))
            rw [if_pos rfl, if_pos rfl, (zE_c h0).1.1]
          · obtain rfl : x3 = Int32.ofInt 1 := Int32.toInt_inj.mp (k.trans (by decide))
            rw [if_neg (by decide), if_pos rfl, if_neg (by decide), if_pos rfl, zE_93 h0 (by omega) (by omega)]
          · obtain rfl : x3 = Int32.ofInt 2 := Int32.toInt_inj.mp (k.trans (by decide))
            rw [if_neg (by decide), if_neg (by decide), if_pos rfl, if_neg (by decide), if_neg (by decide), if_pos rfl, zE_tk h0, (zE_c h0).2.1.1]
          · obtain rfl : x3 = Int32.ofInt 3 := Int32.toInt_inj.mp (k.trans (by decide))
            rw [if_neg (by decide), if_neg (by decide), if_neg (by decide), if_pos rfl, if_neg (by decide), if_neg (by decide), if_neg (by decide), if_pos rfl, zE_99 h0 hl]
          · obtain rfl : x3 = Int32.ofInt 4 := Int32.toInt_inj.mp (k.trans (by decide))
            rw [if_neg (by decide), if_neg (by decide), if_neg (by decide), if_neg (by decide), if_pos rfl, if_neg (by decide), if_neg (by decide), if_neg (by decide), if_neg (by decide), zE_100 h0 hl]
        rw [hr, hv]
        exact ⟨h0, Or.inl ⟨_, key, rfl, zM00⟩⟩
      · have n3 : v112 x3 (Int32.ofInt 0) (Int32.ofInt 4) (zmS M 0 (Int32.ofInt 0)) = 0 := v112_1.mpr (by rw [z0, z4]; exact r3)
        have hr : r164 x1 x2 x3 M = r111 (Int32.ofInt 2) (zmS M 0 (Int32.ofInt 0)) := (if_neg n1).trans ((if_neg n2).trans (if_pos n3))
        have nn : ∀ i : Int, 0 ≤ i → i ≤ 4 → ¬ x3 = Int32.ofInt i := fun i i0 i1 z => r3 (by
          have e : (Int32.ofInt i).toInt = i := Int32.toInt_ofInt_of_le (by omega) (by omega)
          rw [z, e]
          exact ⟨i0, i1⟩)
        have hR : R71 x1 x2 x3 S = .inr 0 := (if_pos c).trans ((if_neg d1).trans ((if_pos d2).trans ((if_neg (nn 0 (by decide) (by decide))).trans ((if_neg (nn 1 (by decide) (by decide))).trans ((if_neg (nn 2 (by decide) (by decide))).trans ((if_neg (nn 3 (by decide) (by decide))).trans (if_neg (nn 4 (by decide) (by decide)))))))))
        rw [hR, hr]
        exact ⟨zE_0 h0, Or.inr ⟨0, rfl, show Int32.ofInt 2 = kc_205 0 by decide⟩⟩
    · have n2 : v112 x2 (Int32.ofInt 0) (Int32.ofInt 9) (zmS M 0 (Int32.ofInt 0)) = 0 := v112_1.mpr (by rw [z0, z9]; exact r2)
      have hr : r164 x1 x2 x3 M = r111 (Int32.ofInt 1) (zmS M 0 (Int32.ofInt 0)) := (if_neg n1).trans (if_pos n2)
      have hR : R71 x1 x2 x3 S = .inr 1 := by
        by_cases q : x2.toInt < ((0 : Int32)).toInt
        · exact (if_pos c).trans (if_pos q)
        · have q2 : ¬ x2.toInt < (Int32.ofInt 10).toInt := by
            rw [zero_z] at q
            omega
          exact (if_pos c).trans ((if_neg q).trans (if_neg q2))
      rw [hR, hr]
      exact ⟨zE_0 h0, Or.inr ⟨1, rfl, show Int32.ofInt 1 = kc_205 1 by decide⟩⟩
  · have nc : ¬ C83 x1 S = true := fun z => r1 (C83_ok.mp z)
    have n1 : v112 x1 (Int32.ofInt 0) (Int32.ofInt 1) (zmS M 0 (Int32.ofInt 0)) = 0 := v112_1.mpr (by rw [z0, z1]; exact r1)
    have hR : R71 x1 x2 x3 S = .inr 1 := if_neg nc
    have hr : r164 x1 x2 x3 M = r111 (Int32.ofInt 1) (zmS M 0 (Int32.ofInt 0)) := if_pos n1
    rw [hR, hr]
    exact ⟨zE_0 h0, Or.inr ⟨1, rfl, show Int32.ofInt 1 = kc_205 1 by decide⟩⟩
/-- which row should be spared, of both -/
def zln (M : zRt) (a k : Nat) : Int32 := zgt (M.2.1 22) (Int32.ofNat a * Int32.ofInt 8 + Int32.ofNat k)
def zW8 (M : zRt) (a : Nat) (wa wb wc : Int32) : Prop := (wa = Int32.ofInt (-1) ∧ wb = Int32.ofInt 0 ∧ wc = Int32.ofInt 0) ∨ ∃ j : Nat, j < 8 ∧ wa = Int32.ofNat j ∧ wb = v161 (zln M a j) M ∧ wc = v158_0 (zln M a j) (Int32.ofInt (-1)) M
theorem zcn8 (h : zE S M) (hl : l < 20) : ∃ n : Nat, n ≤ 8 ∧ V100 (Int32.ofNat l) S = Int32.ofNat n := by
  have key : ∀ k, k ≤ 8 → ∃ n : Nat, n ≤ k ∧ W100 (Int32.ofNat l) S (Int32.ofInt 0) k = Int32.ofNat n := by
    intro k
    induction k with
    | zero => exact fun _ => ⟨0, Nat.le_refl _, rfl⟩
    | succ k ih =>
      intro hk
      obtain ⟨n, hn, e⟩ := ih (by omega)
      have e2 : W100 (Int32.ofNat l) S (Int32.ofInt 0) (k + 1) = D100 (Int32.ofNat l) S k (W100 (Int32.ofNat l) S (Int32.ofInt 0) k) := rfl
      rw [e2, e]
      unfold D100
      by_cases q : (if zsyn (zco S.2) (zgt (S.2 2) (Int32.ofNat l * Int32.ofInt 8 + Int32.ofNat k)) (zwi S.1) = 0 then (1 : Int32) else 0) = 0
      · rw [if_pos q, zof1]
        exact ⟨n + 1, by omega, rfl⟩
      · rw [if_neg q]
        exact ⟨n, by omega, rfl⟩
  have e9 : (Int32.ofInt 8).toInt.toNat = 8 := by decide
  unfold V100 Y100
  rw [e9]
  exact key 8 (Nat.le_refl _)
theorem zE_90 (h : zE S M) (ha : a < 2) (hk : k < 8) : ∃ l, l < 20 ∧ zln M a k = Int32.ofNat l ∧ V90 (V88 (Int32.ofNat a) (Int32.ofNat k) S) S = Int32.ofNat l := by
  have e88 : V88 (Int32.ofNat a) (Int32.ofNat k) S = Int32.ofNat (a * 64 + k * 8) := by
    unfold V88
    rw [show Int32.ofInt 64 = Int32.ofNat 64 from rfl, show Int32.ofInt 8 = Int32.ofNat 8 from rfl, ← Int32.ofNat_mul, ← Int32.ofNat_mul, ← Int32.ofNat_add]
  have hm : a * 64 + k * 8 < 128 := by omega
  obtain ⟨l, p, hl, hp, e1, e2, e3, e4⟩ := zcel h hm
  refine ⟨l, hl, ?_, by rw [e88]; exact e4⟩
  rw [← e1]
  unfold v124 zln
  rw [(zqr hm).1, show Int32.ofInt 8 = Int32.ofNat 8 from rfl, ← Int32.ofNat_mul, ← Int32.ofNat_add, show (a * 64 + k * 8) / 8 = a * 8 + k by omega]
theorem zE_78l (h : zE S M) (ha : a < 2) (hs : (zgt (M.2.1 23) (Int32.ofNat a)).toInt < (Int32.ofInt 2).toInt) : ∀ k, k ≤ 8 → zW8 M a (W78 (Int32.ofNat a) S (Int32.ofInt (-1), Int32.ofInt 0, Int32.ofInt 0) k).1 (W78 (Int32.ofNat a) S (Int32.ofInt (-1), Int32.ofInt 0, Int32.ofInt 0) k).2.1 (W78 (Int32.ofNat a) S (Int32.ofInt (-1), Int32.ofInt 0, Int32.ofInt 0) k).2.2 ∧ q179 (Int32.ofNat a) M 8 0 (Int32.ofInt (-1)) = q179 (Int32.ofNat a) M (8 - k) k (W78 (Int32.ofNat a) S (Int32.ofInt (-1), Int32.ofInt 0, Int32.ofInt 0) k).1
  | 0, _ => ⟨Or.inl ⟨rfl, rfl, rfl⟩, rfl⟩
  | k + 1, hk => by
    obtain ⟨i1, i2⟩ := zE_78l h ha hs k (by omega)
    have eW : W78 (Int32.ofNat a) S (Int32.ofInt (-1), Int32.ofInt 0, Int32.ofInt 0) (k + 1) = D78 (Int32.ofNat a) S k (W78 (Int32.ofNat a) S (Int32.ofInt (-1), Int32.ofInt 0, Int32.ofInt 0) k) := rfl
    rw [eW, i2]
    obtain ⟨U, hU⟩ : ∃ U, U = W78 (Int32.ofNat a) S (Int32.ofInt (-1), Int32.ofInt 0, Int32.ofInt 0) k := ⟨_, rfl⟩
    rw [← hU] at i1 ⊢
    obtain ⟨wa, wb, wc⟩ := U
    obtain ⟨m, hm⟩ : ∃ m, 8 - k = m + 1 := ⟨7 - k, by omega⟩
    rw [hm, show 8 - (k + 1) = m by omega]
    obtain ⟨l, hl, e1, e2⟩ := zE_90 h ha (show k < 8 by omega)
    obtain ⟨n, hn, e3⟩ := zcn8 h hl
    have e4 : v161 (zln M a k) M = Int32.ofNat n := by
      rw [e1, ← zE_100 h hl]
      exact e3
    have e5 : V99 (Int32.ofNat l) S = v158_0 (zln M a k) (Int32.ofInt (-1)) M := by
      rw [e1]
      exact zE_99 h hl
    have z0 : (Int32.ofNat 0).toInt = 0 := by decide
    have eD : D78 (Int32.ofNat a) S k (wa, wb, wc) = if wb.toInt < (Int32.ofNat n).toInt then (Int32.ofNat k, Int32.ofNat n, v158_0 (zln M a k) (Int32.ofInt (-1)) M) else (if ((0 : Int32)).toInt < (Int32.ofNat n).toInt then (if Int32.ofNat n = wb then (if wc.toInt < (v158_0 (zln M a k) (Int32.ofInt (-1)) M).toInt then (Int32.ofNat k, Int32.ofNat n, v158_0 (zln M a k) (Int32.ofInt (-1)) M) else (wa, wb, wc)) else (wa, wb, wc)) else (wa, wb, wc)) := by
      unfold D78
      rw [e2, e3, e5]
    have eq : q179 (Int32.ofNat a) M (m + 1) k wa = if Int32.ofNat n = 0 then q179 (Int32.ofNat a) M m (k + 1) wa else (if wa = Int32.ofInt (-1) then q179 (Int32.ofNat a) M m (k + 1) (Int32.ofNat k) else (if (v161 (zgt (M.2.1 22) (Int32.ofNat a * Int32.ofInt 8 + wa)) M).toInt < (Int32.ofNat n).toInt then q179 (Int32.ofNat a) M m (k + 1) (Int32.ofNat k) else (if Int32.ofNat n = v161 (zgt (M.2.1 22) (Int32.ofNat a * Int32.ofInt 8 + wa)) M then (if (v158_0 (zgt (M.2.1 22) (Int32.ofNat a * Int32.ofInt 8 + wa)) (Int32.ofInt (-1)) M).toInt < (v158_0 (zln M a k) (Int32.ofInt (-1)) M).toInt then q179 (Int32.ofNat a) M m (k + 1) (Int32.ofNat k) else q179 (Int32.ofNat a) M m (k + 1) wa) else q179 (Int32.ofNat a) M m (k + 1) wa))) := by
      refine (if_pos hs).trans ?_
      rw [← e4]
      by_cases q : wa = Int32.ofInt (-1)
      · rw [if_pos q, if_pos q, if_pos q]
        rfl
      · rw [if_neg q, if_neg q, if_neg q]
        rfl
    have nw : zW8 M a (Int32.ofNat k) (Int32.ofNat n) (v158_0 (zln M a k) (Int32.ofInt (-1)) M) := Or.inr ⟨k, by omega, rfl, e4.symm, rfl⟩
    have l0 : (Int32.ofNat n).toInt = n := zof_0 (by omega)
    rw [eD, eq, zero_z]
    rcases i1 with ⟨y1, y2, y3⟩ | ⟨j, hj, y1, y2, y3⟩
    · have y1 : wa = Int32.ofInt (-1) := y1
      have y2 : wb = Int32.ofInt 0 := y2
      have y3 : wc = Int32.ofInt 0 := y3
      subst y1 y2 y3
      rw [show (Int32.ofInt 0).toInt = 0 by decide, l0]
      by_cases q : n = 0
      · subst q
        rw [if_neg (by omega), if_neg (by omega), if_pos (by decide)]
        exact ⟨Or.inl ⟨rfl, rfl, rfl⟩, rfl⟩
      · have q2 : ¬ Int32.ofNat n = 0 := fun z => q ((zof_l (l := 0) (by omega) (by omega)).mp z)
        rw [if_pos (by omega), if_neg q2, if_pos rfl]
        exact ⟨nw, rfl⟩
    · have y1 : wa = Int32.ofNat j := y1
      have y2 : wb = v161 (zln M a j) M := y2
      have y3 : wc = v158_0 (zln M a j) (Int32.ofInt (-1)) M := y3
      have old : zW8 M a wa wb wc := Or.inr ⟨j, hj, y1, y2, y3⟩
      have nj : ¬ wa = Int32.ofInt (-1) := by
        rw [y1]
        exact (znx (by omega)).2.1
      obtain ⟨l2, hl2, p1, -⟩ := zE_90 h ha hj
      obtain ⟨n2, hn2, p3⟩ := zcn8 h hl2
      have p4 : wb = Int32.ofNat n2 := by
        rw [y2, p1, ← zE_100 h hl2]
        exact p3
      have eln : zgt (M.2.1 22) (Int32.ofNat a * Int32.ofInt 8 + wa) = zln M a j := by
        rw [y1]
        rfl
      rw [eln, ← y2, ← y3, if_neg nj, l0]
      by_cases q : n = 0
      · have q2 : Int32.ofNat n = 0 := by
          rw [q]
          rfl
        have q3 : ¬ wb.toInt < (n : Int) := by
          rw [p4, zof_0 (by omega)]
          omega
        rw [if_neg q3, if_neg (by omega), if_pos q2]
        exact ⟨old, rfl⟩
      · have q2 : ¬ Int32.ofNat n = 0 := fun z => q ((zof_l (l := 0) (by omega) (by omega)).mp z)
        rw [if_neg q2]
        by_cases t1 : wb.toInt < (n : Int)
        · rw [if_pos t1, if_pos t1]
          exact ⟨nw, rfl⟩
        · rw [if_neg t1, if_neg t1, if_pos (by omega)]
          by_cases t2 : Int32.ofNat n = wb
          · rw [if_pos t2, if_pos t2]
            by_cases t3 : wc.toInt < (v158_0 (zln M a k) (Int32.ofInt (-1)) M).toInt
            · rw [if_pos t3, if_pos t3]
              exact ⟨nw, rfl⟩
            · rw [if_neg t3, if_neg t3]
              exact ⟨old, rfl⟩
          · rw [if_neg t2, if_neg t2]
            exact ⟨old, rfl⟩
theorem zM_78 (h : zE S M) : zE (F78 x1 S) (r180 x1 M) ∧ zAn (R78 x1 S) (v180 x1 M) ((r180 x1 M).1 0) kc_212 := by
  have h0 : zE S (zmS M 0 (Int32.ofInt 0)) := zE_0 h
  have z0 : (Int32.ofInt 0).toInt = 0 := by decide
  have z1 : (Int32.ofInt 1).toInt = 1 := by decide
  rw [Fe_78]
  by_cases r1 : 0 ≤ x1.toInt ∧ x1.toInt ≤ 1
  · have c := C83_ok (S := S).mpr r1
    have n1 : ¬ v112 x1 (Int32.ofInt 0) (Int32.ofInt 1) (zmS M 0 (Int32.ofInt 0)) = 0 := fun z => v112_1.mp z (by rw [z0, z1]; exact r1)
    have hr : r180 x1 M = zmS M 0 (Int32.ofInt 0) := if_neg n1
    have hv : v180 x1 M = v179 x1 (zmS M 0 (Int32.ofInt 0)) := if_neg n1
    have key : R78 x1 S = .inl (some (.int (v179 x1 (zmS M 0 (Int32.ofInt 0))))) := by
      obtain ⟨K, hK⟩ : ∃ K, K = zmS M 0 (Int32.ofInt 0) := ⟨_, rfl⟩
      rw [← hK] at h0 ⊢
      obtain ⟨a, rfl, ha⟩ := znat r1.1
      have ha2 : a < 2 := by omega
      have e16 : S.2 16 = K.2.1 23 := h0.1.1.1.1
      have e8 : (Int32.ofInt 8).toInt.toNat = 8 := by decide
      unfold v179
      rw [e8]
      by_cases t : (zgt (S.2 16) (Int32.ofNat a)).toInt < (Int32.ofInt 2).toInt
      · have hs : (zgt (K.2.1 23) (Int32.ofNat a)).toInt < (Int32.ofInt 2).toInt := by
          rw [← e16]
          exact t
        have eR : R78 (Int32.ofNat a) S = .inl (some (.int (W78 (Int32.ofNat a) S (Int32.ofInt (-1), Int32.ofInt 0, Int32.ofInt 0) (Int32.ofInt 8).toInt.toNat).1)) := (if_pos c).trans (if_pos t)
        rw [eR, e8, (zE_78l h0 ha2 hs 8 (Nat.le_refl _)).2]
        rfl
      · have hs : ¬ (zgt (K.2.1 23) (Int32.ofNat a)).toInt < (Int32.ofInt 2).toInt := by
          rw [← e16]
          exact t
        have eR : R78 (Int32.ofNat a) S = .inl (some (.int (Int32.ofInt (-1)))) := (if_pos c).trans (if_neg t)
        rw [eR]
        have eq : q179 (Int32.ofNat a) K 8 0 (Int32.ofInt (-1)) = Int32.ofInt (-1) := if_neg hs
        rw [eq]
    rw [hr, hv]
    exact ⟨h0, Or.inl ⟨_, key, rfl, zM00⟩⟩
  · have nc : ¬ C83 x1 S = true := fun z => r1 (C83_ok.mp z)
    have n1 : v112 x1 (Int32.ofInt 0) (Int32.ofInt 1) (zmS M 0 (Int32.ofInt 0)) = 0 := v112_1.mpr (by rw [z0, z1]; exact r1)
    have hR : R78 x1 S = .inr 1 := if_neg nc
    have hr : r180 x1 M = r111 (Int32.ofInt 1) (zmS M 0 (Int32.ofInt 0)) := if_pos n1
    rw [hR, hr]
    exact ⟨zE_0 h0, Or.inr ⟨1, rfl, show Int32.ofInt 1 = kc_212 1 by decide⟩⟩
theorem zZ_71 (h : zZ S M) : zZ (F71 x1 x2 x3 S) (r164 x1 x2 x3 M) := by
  have z := (zM_71 (x1 := x1) (x2 := x2) (x3 := x3) h.2.2).1
  rw [Fe_71] at z ⊢
  exact ⟨zA0_fr (W := []) (V := []) fm_rf gr_164 (by decide) h.1, zSp_fr (W := []) (V := []) fm_rf gr_164 (by decide) h.2.1, z⟩
theorem zC9_71 (h : zZ S M) : zAn (R71 x1 x2 x3 S) (v164 x1 x2 x3 M) ((r164 x1 x2 x3 M).1 0) kc_205 := (zM_71 h.2.2).2
theorem zZ_78 (h : zZ S M) : zZ (F78 x1 S) (r180 x1 M) := by
  have z := (zM_78 (x1 := x1) h.2.2).1
  rw [Fe_78] at z ⊢
  exact ⟨zA0_fr (W := []) (V := []) fm_rf gr_180 (by decide) h.1, zSp_fr (W := []) (V := []) fm_rf gr_180 (by decide) h.2.1, z⟩
theorem zC9_78 (h : zZ S M) : zAn (R78 x1 S) (v180 x1 M) ((r180 x1 M).1 0) kc_212 := (zM_78 h.2.2).2
end ZL3W
