theorem zifP {α : Type} {c : Prop} [Decidable c] {p q : α} {P : α → Prop} (h1 : P p) (h2 : P q) : P (if c then p else q) := by
  split
  · exact h1
  · exact h2
section ZQ2
variable {xs : List Int32} {N : Nat} {S : zSt} {M : zRt} {X : zXt} {q : Nat} {vs : List Value} {nc ns : Nat}
def zrP_70 (r : Option Value ⊕ Nat) : Prop := (∃ x : Int32, r = .inl (some (.int x))) ∨ r = .inr 1 ∨ r = .inr 0
theorem rs_70 {x1 x2 : Int32} : (∃ x : Int32, R70 x1 x2 S = .inl (some (.int x))) ∨ R70 x1 x2 S = .inr 1 ∨ R70 x1 x2 S = .inr 0 := by
  show zrP_70 (R70 x1 x2 S)
  unfold R70
  repeat' first | refine zifP (P := zrP_70) ?_ ?_ | exact Or.inl ⟨_, rfl⟩ | exact Or.inr (Or.inl (rfl)) | exact Or.inr (Or.inr (rfl))
abbrev kc_204 : Nat → Int32 := fun E => if E = 1 then Int32.ofInt 1 else if E = 0 then Int32.ofInt 2 else 0
theorem Fe_70 {x1 x2 : Int32} : F70 x1 x2 S = S := by
  unfold F70
  repeat' first | refine zifP (P := fun r => r = S) ?_ ?_ | exact rfl
theorem pw_204 {x1 x2 : Int32} (HL : zaL S.2) (hX : zUX (q, 6, vs) X M.2.2) (ho : zOu vs) : zpM xs N 204 [.ref 0, .int x1, .int x2, .ref q] (zy S M X) nc ns (zNq (zWy q (R70 x1 x2 S) (F70 x1 x2 S) M kc_204)) := by
  intro L0 e
  cases e
  refine zpE_run 4 (L' := [some (.ref 0), some (.int x1), some (.int x2), some (.ref q), none]) (st' := [.int x2, .int x1, .ref 0, .ref q]) rfl ?_
  refine zpE_call rfl rfl (e_70 (S := S) (x1 := x1) (x2 := x2) HL) (fun v h1 nc1 ns1 q8 => ?_) (fun E h1 nc1 ns1 q8 => ?_)
  · obtain ⟨q8, q9⟩ := q8
    cases q9
    rcases rs_70 (S := S) (x1 := x1) (x2 := x2) with ⟨x, hx⟩ | hx | hx
    · rw [hx] at q8
      cases q8
      refine zpE_run 1 (L' := [some (.ref 0), some (.int x1), some (.int x2), some (.ref q), none]) (st' := [.long x.toInt64, .ref q]) (h' := zy (F70 x1 x2 S) M X) rfl ?_
      obtain ⟨b1, b2, b3⟩ := zOu_0 (a := x.toInt64) ho
      refine zpE_putb (h' := zy (F70 x1 x2 S) M (X.1, X.2.1, X.2.2.set (q - 73) (6, vs.set 0 (.long x.toInt64)))) rfl (zUX_q (S := F70 x1 x2 S) (M := M) hX) rfl (zy_out (M := M) hX.2.2.2.1) (fun _ => ?_)
      refine zpE_gen (fun nc ns => ?_)
      exact zpE_run 2 rfl (zpE_end rfl rfl (fun v hv => by
        cases hv
        exact ⟨_, _, _, rfl, rfl, zUX_out hX, b1, Or.inl ⟨x, hx, by decide, b2⟩⟩))
    · rw [hx] at q8
      cases q8
    · rw [hx] at q8
      cases q8
  · obtain ⟨q8, q9⟩ := q8
    cases q9
    rcases rs_70 (S := S) (x1 := x1) (x2 := x2) with ⟨x, hx⟩ | hx | hx
    · rw [hx] at q8
      cases q8
    · rw [hx] at q8
      cases q8
      refine ⟨fun z => absurd z (by decide), fun pc2 L2 e9 => ?_⟩
      obtain ⟨L3, e3⟩ : ∃ L3, zcatch 204 4 1 [some (.ref 0), some (.int x1), some (.int x2), some (.ref q), none] = some (16, L3) := ⟨_, rfl⟩
      rw [show zcatch 204 4 1 _ = some (16, L3) from e3] at e9
      cases e9
      exact zpE_run 1 rfl (zpE_end rfl rfl (fun v hv => by
        cases hv
        exact ⟨_, _, _, rfl, rfl, hX, ho, Or.inr ⟨1, hx, by decide⟩⟩))
    · rw [hx] at q8
      cases q8
      refine ⟨fun z => absurd z (by decide), fun pc2 L2 e9 => ?_⟩
      obtain ⟨L3, e3⟩ : ∃ L3, zcatch 204 4 0 [some (.ref 0), some (.int x1), some (.int x2), some (.ref q), none] = some (20, L3) := ⟨_, rfl⟩
      rw [show zcatch 204 4 0 _ = some (20, L3) from e3] at e9
      cases e9
      exact zpE_run 1 rfl (zpE_end rfl rfl (fun v hv => by
        cases hv
        exact ⟨_, _, _, rfl, rfl, hX, ho, Or.inr ⟨0, hx, by decide⟩⟩))
def zrP_72 (r : Option Value ⊕ Nat) : Prop := (∃ x : Int32, r = .inl (some (.int x))) ∨ r = .inr 1 ∨ r = .inr 0
theorem rs_72 {x1 x2 : Int32} : (∃ x : Int32, R72 x1 x2 S = .inl (some (.int x))) ∨ R72 x1 x2 S = .inr 1 ∨ R72 x1 x2 S = .inr 0 := by
  show zrP_72 (R72 x1 x2 S)
  unfold R72
  repeat' first | refine zifP (P := zrP_72) ?_ ?_ | exact Or.inl ⟨_, rfl⟩ | exact Or.inr (Or.inl (rfl)) | exact Or.inr (Or.inr (rfl))
abbrev kc_206 : Nat → Int32 := fun E => if E = 1 then Int32.ofInt 1 else if E = 0 then Int32.ofInt 2 else 0
theorem Fe_72 {x1 x2 : Int32} : F72 x1 x2 S = S := by
  unfold F72
  repeat' first | refine zifP (P := fun r => r = S) ?_ ?_ | exact rfl
theorem pw_206 {x1 x2 : Int32} (HL : zaL S.2) (hX : zUX (q, 6, vs) X M.2.2) (ho : zOu vs) : zpM xs N 206 [.ref 0, .int x1, .int x2, .ref q] (zy S M X) nc ns (zNq (zWy q (R72 x1 x2 S) (F72 x1 x2 S) M kc_206)) := by
  intro L0 e
  cases e
  refine zpE_run 4 (L' := [some (.ref 0), some (.int x1), some (.int x2), some (.ref q), none]) (st' := [.int x2, .int x1, .ref 0, .ref q]) rfl ?_
  refine zpE_call rfl rfl (e_72 (S := S) (x1 := x1) (x2 := x2) HL) (fun v h1 nc1 ns1 q8 => ?_) (fun E h1 nc1 ns1 q8 => ?_)
  · obtain ⟨q8, q9⟩ := q8
    cases q9
    rcases rs_72 (S := S) (x1 := x1) (x2 := x2) with ⟨x, hx⟩ | hx | hx
    · rw [hx] at q8
      cases q8
      refine zpE_run 1 (L' := [some (.ref 0), some (.int x1), some (.int x2), some (.ref q), none]) (st' := [.long x.toInt64, .ref q]) (h' := zy (F72 x1 x2 S) M X) rfl ?_
      obtain ⟨b1, b2, b3⟩ := zOu_0 (a := x.toInt64) ho
      refine zpE_putb (h' := zy (F72 x1 x2 S) M (X.1, X.2.1, X.2.2.set (q - 73) (6, vs.set 0 (.long x.toInt64)))) rfl (zUX_q (S := F72 x1 x2 S) (M := M) hX) rfl (zy_out (M := M) hX.2.2.2.1) (fun _ => ?_)
      refine zpE_gen (fun nc ns => ?_)
      exact zpE_run 2 rfl (zpE_end rfl rfl (fun v hv => by
        cases hv
        exact ⟨_, _, _, rfl, rfl, zUX_out hX, b1, Or.inl ⟨x, hx, by decide, b2⟩⟩))
    · rw [hx] at q8
      cases q8
    · rw [hx] at q8
      cases q8
  · obtain ⟨q8, q9⟩ := q8
    cases q9
    rcases rs_72 (S := S) (x1 := x1) (x2 := x2) with ⟨x, hx⟩ | hx | hx
    · rw [hx] at q8
      cases q8
    · rw [hx] at q8
      cases q8
      refine ⟨fun z => absurd z (by decide), fun pc2 L2 e9 => ?_⟩
      obtain ⟨L3, e3⟩ : ∃ L3, zcatch 206 4 1 [some (.ref 0), some (.int x1), some (.int x2), some (.ref q), none] = some (16, L3) := ⟨_, rfl⟩
      rw [show zcatch 206 4 1 _ = some (16, L3) from e3] at e9
      cases e9
      exact zpE_run 1 rfl (zpE_end rfl rfl (fun v hv => by
        cases hv
        exact ⟨_, _, _, rfl, rfl, hX, ho, Or.inr ⟨1, hx, by decide⟩⟩))
    · rw [hx] at q8
      cases q8
      refine ⟨fun z => absurd z (by decide), fun pc2 L2 e9 => ?_⟩
      obtain ⟨L3, e3⟩ : ∃ L3, zcatch 206 4 0 [some (.ref 0), some (.int x1), some (.int x2), some (.ref q), none] = some (20, L3) := ⟨_, rfl⟩
      rw [show zcatch 206 4 0 _ = some (20, L3) from e3] at e9
      cases e9
      exact zpE_run 1 rfl (zpE_end rfl rfl (fun v hv => by
        cases hv
        exact ⟨_, _, _, rfl, rfl, hX, ho, Or.inr ⟨0, hx, by decide⟩⟩))
def zrP_74 (r : Option Value ⊕ Nat) : Prop := (∃ x : Int32, r = .inl (some (.int x))) ∨ r = .inr 0
theorem rs_74 {x1 : Int32} : (∃ x : Int32, R74 x1 S = .inl (some (.int x))) ∨ R74 x1 S = .inr 0 := by
  show zrP_74 (R74 x1 S)
  unfold R74
  repeat' first | refine zifP (P := zrP_74) ?_ ?_ | exact Or.inl ⟨_, rfl⟩ | exact Or.inr (rfl)
abbrev kc_208 : Nat → Int32 := fun E => if E = 0 then Int32.ofInt 1 else 0
theorem Fe_74 {x1 : Int32} : F74 x1 S = S := by
  unfold F74
  repeat' first | refine zifP (P := fun r => r = S) ?_ ?_ | exact rfl
theorem pw_208 {x1 : Int32} (HL : zaL S.2) (hX : zUX (q, 6, vs) X M.2.2) (ho : zOu vs) : zpM xs N 208 [.ref 0, .int x1, .ref q] (zy S M X) nc ns (zNq (zWy q (R74 x1 S) (F74 x1 S) M kc_208)) := by
  intro L0 e
  cases e
  refine zpE_run 3 (L' := [some (.ref 0), some (.int x1), some (.ref q), none]) (st' := [.int x1, .ref 0, .ref q]) rfl ?_
  refine zpE_call rfl rfl (e_74 (S := S) (x1 := x1) HL) (fun v h1 nc1 ns1 q8 => ?_) (fun E h1 nc1 ns1 q8 => ?_)
  · obtain ⟨q8, q9⟩ := q8
    cases q9
    rcases rs_74 (S := S) (x1 := x1) with ⟨x, hx⟩ | hx
    · rw [hx] at q8
      cases q8
      refine zpE_run 1 (L' := [some (.ref 0), some (.int x1), some (.ref q), none]) (st' := [.long x.toInt64, .ref q]) (h' := zy (F74 x1 S) M X) rfl ?_
      obtain ⟨b1, b2, b3⟩ := zOu_0 (a := x.toInt64) ho
      refine zpE_putb (h' := zy (F74 x1 S) M (X.1, X.2.1, X.2.2.set (q - 73) (6, vs.set 0 (.long x.toInt64)))) rfl (zUX_q (S := F74 x1 S) (M := M) hX) rfl (zy_out (M := M) hX.2.2.2.1) (fun _ => ?_)
      refine zpE_gen (fun nc ns => ?_)
      exact zpE_run 2 rfl (zpE_end rfl rfl (fun v hv => by
        cases hv
        exact ⟨_, _, _, rfl, rfl, zUX_out hX, b1, Or.inl ⟨x, hx, by decide, b2⟩⟩))
    · rw [hx] at q8
      cases q8
  · obtain ⟨q8, q9⟩ := q8
    cases q9
    rcases rs_74 (S := S) (x1 := x1) with ⟨x, hx⟩ | hx
    · rw [hx] at q8
      cases q8
    · rw [hx] at q8
      cases q8
      refine ⟨fun z => absurd z (by decide), fun pc2 L2 e9 => ?_⟩
      obtain ⟨L3, e3⟩ : ∃ L3, zcatch 208 3 0 [some (.ref 0), some (.int x1), some (.ref q), none] = some (14, L3) := ⟨_, rfl⟩
      rw [show zcatch 208 3 0 _ = some (14, L3) from e3] at e9
      cases e9
      exact zpE_run 1 rfl (zpE_end rfl rfl (fun v hv => by
        cases hv
        exact ⟨_, _, _, rfl, rfl, hX, ho, Or.inr ⟨0, hx, by decide⟩⟩))
def zrP_77 (r : Option Value ⊕ Nat) : Prop := (∃ x : Int32, r = .inl (some (.int x))) ∨ r = .inr 1
theorem rs_77 {x1 : Int32} : (∃ x : Int32, R77 x1 S = .inl (some (.int x))) ∨ R77 x1 S = .inr 1 := by
  show zrP_77 (R77 x1 S)
  unfold R77
  repeat' first | refine zifP (P := zrP_77) ?_ ?_ | exact Or.inl ⟨_, rfl⟩ | exact Or.inr (rfl)
abbrev kc_211 : Nat → Int32 := fun E => if E = 1 then Int32.ofInt 1 else 0
theorem Fe_77 {x1 : Int32} : F77 x1 S = S := by
  unfold F77
  repeat' first | refine zifP (P := fun r => r = S) ?_ ?_ | exact rfl
theorem pw_211 {x1 : Int32} (HL : zaL S.2) (hX : zUX (q, 6, vs) X M.2.2) (ho : zOu vs) : zpM xs N 211 [.ref 0, .int x1, .ref q] (zy S M X) nc ns (zNq (zWy q (R77 x1 S) (F77 x1 S) M kc_211)) := by
  intro L0 e
  cases e
  refine zpE_run 3 (L' := [some (.ref 0), some (.int x1), some (.ref q), none]) (st' := [.int x1, .ref 0, .ref q]) rfl ?_
  refine zpE_call rfl rfl (e_77 (S := S) (x1 := x1) HL) (fun v h1 nc1 ns1 q8 => ?_) (fun E h1 nc1 ns1 q8 => ?_)
  · obtain ⟨q8, q9⟩ := q8
    cases q9
    rcases rs_77 (S := S) (x1 := x1) with ⟨x, hx⟩ | hx
    · rw [hx] at q8
      cases q8
      refine zpE_run 1 (L' := [some (.ref 0), some (.int x1), some (.ref q), none]) (st' := [.long x.toInt64, .ref q]) (h' := zy (F77 x1 S) M X) rfl ?_
      obtain ⟨b1, b2, b3⟩ := zOu_0 (a := x.toInt64) ho
      refine zpE_putb (h' := zy (F77 x1 S) M (X.1, X.2.1, X.2.2.set (q - 73) (6, vs.set 0 (.long x.toInt64)))) rfl (zUX_q (S := F77 x1 S) (M := M) hX) rfl (zy_out (M := M) hX.2.2.2.1) (fun _ => ?_)
      refine zpE_gen (fun nc ns => ?_)
      exact zpE_run 2 rfl (zpE_end rfl rfl (fun v hv => by
        cases hv
        exact ⟨_, _, _, rfl, rfl, zUX_out hX, b1, Or.inl ⟨x, hx, by decide, b2⟩⟩))
    · rw [hx] at q8
      cases q8
  · obtain ⟨q8, q9⟩ := q8
    cases q9
    rcases rs_77 (S := S) (x1 := x1) with ⟨x, hx⟩ | hx
    · rw [hx] at q8
      cases q8
    · rw [hx] at q8
      cases q8
      refine ⟨fun z => absurd z (by decide), fun pc2 L2 e9 => ?_⟩
      obtain ⟨L3, e3⟩ : ∃ L3, zcatch 211 3 1 [some (.ref 0), some (.int x1), some (.ref q), none] = some (14, L3) := ⟨_, rfl⟩
      rw [show zcatch 211 3 1 _ = some (14, L3) from e3] at e9
      cases e9
      exact zpE_run 1 rfl (zpE_end rfl rfl (fun v hv => by
        cases hv
        exact ⟨_, _, _, rfl, rfl, hX, ho, Or.inr ⟨1, hx, by decide⟩⟩))
end ZQ2
section ZQ2
variable {xs : List Int32} {N : Nat} {S : zSt} {M : zRt} {X : zXt} {q : Nat} {vs : List Value} {nc ns : Nat}
def zrP_71 (r : Option Value ⊕ Nat) : Prop := (∃ x : Int32, r = .inl (some (.int x))) ∨ r = .inr 1 ∨ r = .inr 0
theorem rs_71 {x1 x2 x3 : Int32} : (∃ x : Int32, R71 x1 x2 x3 S = .inl (some (.int x))) ∨ R71 x1 x2 x3 S = .inr 1 ∨ R71 x1 x2 x3 S = .inr 0 := by
  show zrP_71 (R71 x1 x2 x3 S)
  unfold R71
  repeat' first | refine zifP (P := zrP_71) ?_ ?_ | exact Or.inl ⟨_, rfl⟩ | exact Or.inr (Or.inl (rfl)) | exact Or.inr (Or.inr (rfl))
abbrev kc_205 : Nat → Int32 := fun E => if E = 1 then Int32.ofInt 1 else if E = 0 then Int32.ofInt 2 else 0
theorem Fe_71 {x1 x2 x3 : Int32} : F71 x1 x2 x3 S = S := by
  unfold F71
  repeat' first | refine zifP (P := fun r => r = S) ?_ ?_ | exact rfl
theorem pw_205 {x1 x2 x3 : Int32} (HL : zaL S.2) (hX : zUX (q, 6, vs) X M.2.2) (ho : zOu vs) : zpM xs N 205 [.ref 0, .int x1, .int x2, .int x3, .ref q] (zy S M X) nc ns (zNq (zWy q (R71 x1 x2 x3 S) (F71 x1 x2 x3 S) M kc_205)) := by
  intro L0 e
  cases e
  refine zpE_run 5 (L' := [some (.ref 0), some (.int x1), some (.int x2), some (.int x3), some (.ref q), none]) (st' := [.int x3, .int x2, .int x1, .ref 0, .ref q]) rfl ?_
  refine zpE_call rfl rfl (e_71 (S := S) (x1 := x1) (x2 := x2) (x3 := x3) HL) (fun v h1 nc1 ns1 q8 => ?_) (fun E h1 nc1 ns1 q8 => ?_)
  · obtain ⟨q8, q9⟩ := q8
    cases q9
    rcases rs_71 (S := S) (x1 := x1) (x2 := x2) (x3 := x3) with ⟨x, hx⟩ | hx | hx
    · rw [hx] at q8
      cases q8
      refine zpE_run 1 (L' := [some (.ref 0), some (.int x1), some (.int x2), some (.int x3), some (.ref q), none]) (st' := [.long x.toInt64, .ref q]) (h' := zy (F71 x1 x2 x3 S) M X) rfl ?_
      obtain ⟨b1, b2, b3⟩ := zOu_0 (a := x.toInt64) ho
      refine zpE_putb (h' := zy (F71 x1 x2 x3 S) M (X.1, X.2.1, X.2.2.set (q - 73) (6, vs.set 0 (.long x.toInt64)))) rfl (zUX_q (S := F71 x1 x2 x3 S) (M := M) hX) rfl (zy_out (M := M) hX.2.2.2.1) (fun _ => ?_)
      refine zpE_gen (fun nc ns => ?_)
      exact zpE_run 2 rfl (zpE_end rfl rfl (fun v hv => by
        cases hv
        exact ⟨_, _, _, rfl, rfl, zUX_out hX, b1, Or.inl ⟨x, hx, by decide, b2⟩⟩))
    · rw [hx] at q8
      cases q8
    · rw [hx] at q8
      cases q8
  · obtain ⟨q8, q9⟩ := q8
    cases q9
    rcases rs_71 (S := S) (x1 := x1) (x2 := x2) (x3 := x3) with ⟨x, hx⟩ | hx | hx
    · rw [hx] at q8
      cases q8
    · rw [hx] at q8
      cases q8
      refine ⟨fun z => absurd z (by decide), fun pc2 L2 e9 => ?_⟩
      obtain ⟨L3, e3⟩ : ∃ L3, zcatch 205 6 1 [some (.ref 0), some (.int x1), some (.int x2), some (.int x3), some (.ref q), none] = some (18, L3) := ⟨_, rfl⟩
      rw [show zcatch 205 6 1 _ = some (18, L3) from e3] at e9
      cases e9
      exact zpE_run 1 rfl (zpE_end rfl rfl (fun v hv => by
        cases hv
        exact ⟨_, _, _, rfl, rfl, hX, ho, Or.inr ⟨1, hx, by decide⟩⟩))
    · rw [hx] at q8
      cases q8
      refine ⟨fun z => absurd z (by decide), fun pc2 L2 e9 => ?_⟩
      obtain ⟨L3, e3⟩ : ∃ L3, zcatch 205 6 0 [some (.ref 0), some (.int x1), some (.int x2), some (.int x3), some (.ref q), none] = some (22, L3) := ⟨_, rfl⟩
      rw [show zcatch 205 6 0 _ = some (22, L3) from e3] at e9
      cases e9
      exact zpE_run 1 rfl (zpE_end rfl rfl (fun v hv => by
        cases hv
        exact ⟨_, _, _, rfl, rfl, hX, ho, Or.inr ⟨0, hx, by decide⟩⟩))
def zrP_78 (r : Option Value ⊕ Nat) : Prop := (∃ x : Int32, r = .inl (some (.int x))) ∨ r = .inr 1
theorem rs_78 {x1 : Int32} : (∃ x : Int32, R78 x1 S = .inl (some (.int x))) ∨ R78 x1 S = .inr 1 := by
  show zrP_78 (R78 x1 S)
  unfold R78
  repeat' first | refine zifP (P := zrP_78) ?_ ?_ | exact Or.inl ⟨_, rfl⟩ | exact Or.inr (rfl)
abbrev kc_212 : Nat → Int32 := fun E => if E = 1 then Int32.ofInt 1 else 0
theorem Fe_78 {x1 : Int32} : F78 x1 S = S := by
  unfold F78
  repeat' first | refine zifP (P := fun r => r = S) ?_ ?_ | exact rfl
theorem pw_212 {x1 : Int32} (HL : zaL S.2) (hX : zUX (q, 6, vs) X M.2.2) (ho : zOu vs) : zpM xs N 212 [.ref 0, .int x1, .ref q] (zy S M X) nc ns (zNq (zWy q (R78 x1 S) (F78 x1 S) M kc_212)) := by
  intro L0 e
  cases e
  refine zpE_run 3 (L' := [some (.ref 0), some (.int x1), some (.ref q), none]) (st' := [.int x1, .ref 0, .ref q]) rfl ?_
  refine zpE_call rfl rfl (e_78 (S := S) (x1 := x1) HL) (fun v h1 nc1 ns1 q8 => ?_) (fun E h1 nc1 ns1 q8 => ?_)
  · obtain ⟨q8, q9⟩ := q8
    cases q9
    rcases rs_78 (S := S) (x1 := x1) with ⟨x, hx⟩ | hx
    · rw [hx] at q8
      cases q8
      refine zpE_run 1 (L' := [some (.ref 0), some (.int x1), some (.ref q), none]) (st' := [.long x.toInt64, .ref q]) (h' := zy (F78 x1 S) M X) rfl ?_
      obtain ⟨b1, b2, b3⟩ := zOu_0 (a := x.toInt64) ho
      refine zpE_putb (h' := zy (F78 x1 S) M (X.1, X.2.1, X.2.2.set (q - 73) (6, vs.set 0 (.long x.toInt64)))) rfl (zUX_q (S := F78 x1 S) (M := M) hX) rfl (zy_out (M := M) hX.2.2.2.1) (fun _ => ?_)
      refine zpE_gen (fun nc ns => ?_)
      exact zpE_run 2 rfl (zpE_end rfl rfl (fun v hv => by
        cases hv
        exact ⟨_, _, _, rfl, rfl, zUX_out hX, b1, Or.inl ⟨x, hx, by decide, b2⟩⟩))
    · rw [hx] at q8
      cases q8
  · obtain ⟨q8, q9⟩ := q8
    cases q9
    rcases rs_78 (S := S) (x1 := x1) with ⟨x, hx⟩ | hx
    · rw [hx] at q8
      cases q8
    · rw [hx] at q8
      cases q8
      refine ⟨fun z => absurd z (by decide), fun pc2 L2 e9 => ?_⟩
      obtain ⟨L3, e3⟩ : ∃ L3, zcatch 212 3 1 [some (.ref 0), some (.int x1), some (.ref q), none] = some (14, L3) := ⟨_, rfl⟩
      rw [show zcatch 212 3 1 _ = some (14, L3) from e3] at e9
      cases e9
      exact zpE_run 1 rfl (zpE_end rfl rfl (fun v hv => by
        cases hv
        exact ⟨_, _, _, rfl, rfl, hX, ho, Or.inr ⟨1, hx, by decide⟩⟩))
end ZQ2
