/-! The law, partly: what a run of it may come to. -/
section ZL1
variable {xs : List Int32} {N : Nat} {S S' : zSt} {M M' : zRt} {X : zXt} {q : Nat} {vs ws : List Value} {nc ns : Nat}
def zOu (vs : List Value) : Prop := ∃ (a : Int64) (b : UInt64) (c : Value), vs = [.long a, .double b, c]
/-- a normal end -/
def zNq (Q : Option Value → zH → Prop) : zO → Prop := fun o => ∀ v, o.1 = .inl v → Q v o.2.1
theorem zUX_q {n : Nat} {kq : Nat × Nat × List Value} (hX : zUN n kq X M.2.2) : (zy S M X)[kq.1]? = some kq.2 := by
  rw [zy_ge hX.2.2.2.1]
  exact hX.2.2.2.2.1
/-- Out's cell changes -/
theorem zUX_out {n : Nat} {L : (Nat → List (List Int32)) × List Int32} (hX : zUN n (q, 6, vs) X L) : zUN n (q, 6, ws) (X.1, X.2.1, X.2.2.set (q - 73) (6, ws)) L := by
  obtain ⟨⟨dq, k1⟩, k2, ⟨k3, k4, k5⟩, k6, k7, k8⟩ := hX
  have k6 : 73 ≤ q := k6
  have k7 : (zfX X)[q]? = some (6, vs) := k7
  have st : ∀ {k : Nat} {c : Nat × List Value}, 73 ≤ k → (zfX X)[k]? = some c → c.1 ≠ 6 → (zfX (X.1, X.2.1, X.2.2.set (q - 73) (6, ws)))[k]? = some c := by
    intro k c hk hc ne
    rw [zfX_set k6 hk (fun z => by
      rw [z, k7] at hc
      cases hc
      exact ne rfl)]
    exact hc
  refine ⟨⟨dq, fun i hi => ?_⟩, fun i hi => ?_, ⟨k3, st k3 k4 (show (100 : Nat) ≠ 6 by decide), k5⟩, k6, ?_, rfl⟩
  · obtain ⟨c1, c2, c3, c4⟩ := k1 i hi
    refine ⟨c1, ?_, c3, c4⟩
    obtain ⟨m, g⟩ := c2
    refine ⟨m, ?_⟩
    revert g c3
    show (∀ q, dq i = some q → 73 ≤ q) → _
    cases dq i with
    | none => exact fun _ g => ⟨g.1, st c1 g.2 (show (10 : Nat) ≠ 6 by decide)⟩
    | some q' =>
      intro c3 g
      obtain ⟨vs, g1, g2, g3⟩ := g
      exact ⟨vs, st c1 g1 (show (10 : Nat) ≠ 6 by decide), st (c3 q' rfl) g2 (show (103 : Nat) ≠ 6 by decide), g3⟩
  · obtain ⟨c1, c2, c3⟩ := k2 i hi
    refine ⟨c1, c2, fun k l z => ?_⟩
    obtain ⟨e, e1, e2, e3⟩ := c3 k l z
    exact ⟨e, e1, e2, st e2 e3 (show (100 : Nat) ≠ 6 by decide)⟩
  · have l2 : (List.replicate 73 ((0 : Nat), ([] : List Value))).length = 73 := rfl
    have hq := (List.getElem?_eq_some_iff.mp k7).1
    have hq : q < (List.replicate 73 ((0 : Nat), ([] : List Value)) ++ X.2.2).length := hq
    rw [List.length_append, l2] at hq
    show (List.replicate 73 _ ++ X.2.2.set (q - 73) (6, ws))[q]? = some (6, ws)
    rw [List.getElem?_append_right (by rw [l2]; exact k6), l2, List.getElem?_set_self (by omega)]
theorem zy_out (hq : 73 ≤ q) : (zy S M X).set q (6, ws) = zy S M (X.1, X.2.1, X.2.2.set (q - 73) (6, ws)) := by
  rw [zy_bs, List.set_append_right _ _ (by rw [zy_bl]; exact hq), zy_bl]
  rfl
/-- what a call of the law's on the class comes to -/
def zWy (q : Nat) (R : Option Value ⊕ Nat) (S' : zSt) (M : zRt) (kc : Nat → Int32) : Option Value → zH → Prop := fun v h => ∃ (k : Int32) (X' : zXt) (ws : List Value), v = some (.int k) ∧ h = zy S' M X' ∧ zUX (q, 6, ws) X' M.2.2 ∧ zOu ws ∧ ((∃ x : Int32, R = .inl (some (.int x)) ∧ k = 0 ∧ ws[0]? = some (.long x.toInt64)) ∨ ∃ E, R = .inr E ∧ k = kc E)
theorem zOu_0 {a : Int64} (h : zOu vs) : zOu (vs.set 0 (.long a)) ∧ (vs.set 0 (.long a))[0]? = some (.long a) ∧ 0 < vs.length := by
  obtain ⟨x, b, c, rfl⟩ := h
  exact ⟨⟨a, b, c, rfl⟩, rfl, Nat.succ_pos _⟩
end ZL1
section ZL2
variable {xs : List Int32} {N : Nat} {S : zSt} {M : zRt} {X : zXt} {q : Nat} {vs : List Value} {nc ns : Nat}
theorem rs_54 {x1 x2 : Int32} : (∃ x : Int32, R54 x1 x2 S = .inl (some (.int x))) ∨ R54 x1 x2 S = .inr 1 ∨ R54 x1 x2 S = .inr 0 ∨ R54 x1 x2 S = .inr 2 := by
  unfold R54
  (repeat' split) <;> first | exact Or.inl ⟨_, rfl⟩ | exact Or.inr (Or.inl rfl) | exact Or.inr (Or.inr (Or.inl rfl)) | exact Or.inr (Or.inr (Or.inr (rfl)))
abbrev kc_190 : Nat → Int32 := fun E => if E = 1 then Int32.ofInt 1 else if E = 0 then Int32.ofInt 2 else if E = 2 then Int32.ofInt 3 else 0
theorem pw_190 {x1 x2 : Int32} (HL : zaL S.2) (hX : zUX (q, 6, vs) X M.2.2) (ho : zOu vs) : zpM xs N 190 [.ref 0, .int x1, .int x2, .ref q] (zy S M X) nc ns (zNq (zWy q (R54 x1 x2 S) (F54 x1 x2 S) M kc_190)) := by
  intro L0 e
  cases e
  refine zpE_run 4 (L' := [some (.ref 0), some (.int x1), some (.int x2), some (.ref q), none]) (st' := [.int x2, .int x1, .ref 0, .ref q]) rfl ?_
  refine zpE_call rfl rfl (e_54 (S := S) (x1 := x1) (x2 := x2) HL) (fun v h1 nc1 ns1 q8 => ?_) (fun E h1 nc1 ns1 q8 => ?_)
  · obtain ⟨q8, q9⟩ := q8
    cases q9
    rcases rs_54 (S := S) (x1 := x1) (x2 := x2) with ⟨x, hx⟩ | hx | hx | hx
    · rw [hx] at q8
      cases q8
      refine zpE_run 1 (L' := [some (.ref 0), some (.int x1), some (.int x2), some (.ref q), none]) (st' := [.long x.toInt64, .ref q]) (h' := zy (F54 x1 x2 S) M X) rfl ?_
      obtain ⟨b1, b2, b3⟩ := zOu_0 (a := x.toInt64) ho
      refine zpE_putb (h' := zy (F54 x1 x2 S) M (X.1, X.2.1, X.2.2.set (q - 73) (6, vs.set 0 (.long x.toInt64)))) rfl (zUX_q (S := F54 x1 x2 S) (M := M) hX) rfl (zy_out (M := M) hX.2.2.2.1) (fun _ => ?_)
      refine zpE_gen (fun nc ns => ?_)
      exact zpE_run 2 rfl (zpE_end rfl rfl (fun v hv => by
        cases hv
        exact ⟨_, _, _, rfl, rfl, zUX_out hX, b1, Or.inl ⟨x, hx, by decide, b2⟩⟩))
    · rw [hx] at q8
      cases q8
    · rw [hx] at q8
      cases q8
    · rw [hx] at q8
      cases q8
  · obtain ⟨q8, q9⟩ := q8
    cases q9
    rcases rs_54 (S := S) (x1 := x1) (x2 := x2) with ⟨x, hx⟩ | hx | hx | hx
    · rw [hx] at q8
      cases q8
    · rw [hx] at q8
      cases q8
      refine ⟨fun z => absurd z (by decide), fun pc2 L2 e9 => ?_⟩
      obtain ⟨L3, e3⟩ : ∃ L3, zcatch 190 4 1 [some (.ref 0), some (.int x1), some (.int x2), some (.ref q), none] = some (16, L3) := ⟨_, rfl⟩
      rw [show zcatch 190 4 1 _ = some (16, L3) from e3] at e9
      cases e9
      exact zpE_run 1 rfl (zpE_end rfl rfl (fun v hv => by
        cases hv
        exact ⟨_, _, _, rfl, rfl, hX, ho, Or.inr ⟨1, hx, by decide⟩⟩))
    · rw [hx] at q8
      cases q8
      refine ⟨fun z => absurd z (by decide), fun pc2 L2 e9 => ?_⟩
      obtain ⟨L3, e3⟩ : ∃ L3, zcatch 190 4 0 [some (.ref 0), some (.int x1), some (.int x2), some (.ref q), none] = some (20, L3) := ⟨_, rfl⟩
      rw [show zcatch 190 4 0 _ = some (20, L3) from e3] at e9
      cases e9
      exact zpE_run 1 rfl (zpE_end rfl rfl (fun v hv => by
        cases hv
        exact ⟨_, _, _, rfl, rfl, hX, ho, Or.inr ⟨0, hx, by decide⟩⟩))
    · rw [hx] at q8
      cases q8
      refine ⟨fun z => absurd z (by decide), fun pc2 L2 e9 => ?_⟩
      obtain ⟨L3, e3⟩ : ∃ L3, zcatch 190 4 2 [some (.ref 0), some (.int x1), some (.int x2), some (.ref q), none] = some (24, L3) := ⟨_, rfl⟩
      rw [show zcatch 190 4 2 _ = some (24, L3) from e3] at e9
      cases e9
      exact zpE_run 1 rfl (zpE_end rfl rfl (fun v hv => by
        cases hv
        exact ⟨_, _, _, rfl, rfl, hX, ho, Or.inr ⟨2, hx, by decide⟩⟩))
theorem rs_55 {x1 : Int32} : (∃ x : Int32, R55 x1 S = .inl (some (.int x))) ∨ R55 x1 S = .inr 1 ∨ R55 x1 S = .inr 2 := by
  unfold R55
  (repeat' split) <;> first | exact Or.inl ⟨_, rfl⟩ | exact Or.inr (Or.inl rfl) | exact Or.inr (Or.inr (rfl))
abbrev kc_191 : Nat → Int32 := fun E => if E = 1 then Int32.ofInt 1 else if E = 2 then Int32.ofInt 2 else 0
theorem pw_191 {x1 : Int32} (HL : zaL S.2) (hX : zUX (q, 6, vs) X M.2.2) (ho : zOu vs) : zpM xs N 191 [.ref 0, .int x1, .ref q] (zy S M X) nc ns (zNq (zWy q (R55 x1 S) (F55 x1 S) M kc_191)) := by
  intro L0 e
  cases e
  refine zpE_run 3 (L' := [some (.ref 0), some (.int x1), some (.ref q), none]) (st' := [.int x1, .ref 0, .ref q]) rfl ?_
  refine zpE_call rfl rfl (e_55 (S := S) (x1 := x1) HL) (fun v h1 nc1 ns1 q8 => ?_) (fun E h1 nc1 ns1 q8 => ?_)
  · obtain ⟨q8, q9⟩ := q8
    cases q9
    rcases rs_55 (S := S) (x1 := x1) with ⟨x, hx⟩ | hx | hx
    · rw [hx] at q8
      cases q8
      refine zpE_run 1 (L' := [some (.ref 0), some (.int x1), some (.ref q), none]) (st' := [.long x.toInt64, .ref q]) (h' := zy (F55 x1 S) M X) rfl ?_
      obtain ⟨b1, b2, b3⟩ := zOu_0 (a := x.toInt64) ho
      refine zpE_putb (h' := zy (F55 x1 S) M (X.1, X.2.1, X.2.2.set (q - 73) (6, vs.set 0 (.long x.toInt64)))) rfl (zUX_q (S := F55 x1 S) (M := M) hX) rfl (zy_out (M := M) hX.2.2.2.1) (fun _ => ?_)
      refine zpE_gen (fun nc ns => ?_)
      exact zpE_run 2 rfl (zpE_end rfl rfl (fun v hv => by
        cases hv
        exact ⟨_, _, _, rfl, rfl, zUX_out hX, b1, Or.inl ⟨x, hx, by decide, b2⟩⟩))
    · rw [hx] at q8
      cases q8
    · rw [hx] at q8
      cases q8
  · obtain ⟨q8, q9⟩ := q8
    cases q9
    rcases rs_55 (S := S) (x1 := x1) with ⟨x, hx⟩ | hx | hx
    · rw [hx] at q8
      cases q8
    · rw [hx] at q8
      cases q8
      refine ⟨fun z => absurd z (by decide), fun pc2 L2 e9 => ?_⟩
      obtain ⟨L3, e3⟩ : ∃ L3, zcatch 191 3 1 [some (.ref 0), some (.int x1), some (.ref q), none] = some (14, L3) := ⟨_, rfl⟩
      rw [show zcatch 191 3 1 _ = some (14, L3) from e3] at e9
      cases e9
      exact zpE_run 1 rfl (zpE_end rfl rfl (fun v hv => by
        cases hv
        exact ⟨_, _, _, rfl, rfl, hX, ho, Or.inr ⟨1, hx, by decide⟩⟩))
    · rw [hx] at q8
      cases q8
      refine ⟨fun z => absurd z (by decide), fun pc2 L2 e9 => ?_⟩
      obtain ⟨L3, e3⟩ : ∃ L3, zcatch 191 3 2 [some (.ref 0), some (.int x1), some (.ref q), none] = some (17, L3) := ⟨_, rfl⟩
      rw [show zcatch 191 3 2 _ = some (17, L3) from e3] at e9
      cases e9
      exact zpE_run 1 rfl (zpE_end rfl rfl (fun v hv => by
        cases hv
        exact ⟨_, _, _, rfl, rfl, hX, ho, Or.inr ⟨2, hx, by decide⟩⟩))
theorem rs_56 {x1 x2 : Int32} : (∃ x : Int32, R56 x1 x2 S = .inl (some (.int x))) ∨ R56 x1 x2 S = .inr 1 ∨ R56 x1 x2 S = .inr 0 := by
  unfold R56
  (repeat' split) <;> first | exact Or.inl ⟨_, rfl⟩ | exact Or.inr (Or.inl rfl) | exact Or.inr (Or.inr (rfl))
abbrev kc_192 : Nat → Int32 := fun E => if E = 1 then Int32.ofInt 1 else if E = 0 then Int32.ofInt 2 else 0
theorem pw_192 {x1 x2 : Int32} (HL : zaL S.2) (hX : zUX (q, 6, vs) X M.2.2) (ho : zOu vs) : zpM xs N 192 [.ref 0, .int x1, .int x2, .ref q] (zy S M X) nc ns (zNq (zWy q (R56 x1 x2 S) (F56 x1 x2 S) M kc_192)) := by
  intro L0 e
  cases e
  refine zpE_run 4 (L' := [some (.ref 0), some (.int x1), some (.int x2), some (.ref q), none]) (st' := [.int x2, .int x1, .ref 0, .ref q]) rfl ?_
  refine zpE_call rfl rfl (e_56 (S := S) (x1 := x1) (x2 := x2) HL) (fun v h1 nc1 ns1 q8 => ?_) (fun E h1 nc1 ns1 q8 => ?_)
  · obtain ⟨q8, q9⟩ := q8
    cases q9
    rcases rs_56 (S := S) (x1 := x1) (x2 := x2) with ⟨x, hx⟩ | hx | hx
    · rw [hx] at q8
      cases q8
      refine zpE_run 1 (L' := [some (.ref 0), some (.int x1), some (.int x2), some (.ref q), none]) (st' := [.long x.toInt64, .ref q]) (h' := zy (F56 x1 x2 S) M X) rfl ?_
      obtain ⟨b1, b2, b3⟩ := zOu_0 (a := x.toInt64) ho
      refine zpE_putb (h' := zy (F56 x1 x2 S) M (X.1, X.2.1, X.2.2.set (q - 73) (6, vs.set 0 (.long x.toInt64)))) rfl (zUX_q (S := F56 x1 x2 S) (M := M) hX) rfl (zy_out (M := M) hX.2.2.2.1) (fun _ => ?_)
      refine zpE_gen (fun nc ns => ?_)
      exact zpE_run 2 rfl (zpE_end rfl rfl (fun v hv => by
        cases hv
        exact ⟨_, _, _, rfl, rfl, zUX_out hX, b1, Or.inl ⟨x, hx, by decide, b2⟩⟩))
    · rw [hx] at q8
      cases q8
    · rw [hx] at q8
      cases q8
  · obtain ⟨q8, q9⟩ := q8
    cases q9
    rcases rs_56 (S := S) (x1 := x1) (x2 := x2) with ⟨x, hx⟩ | hx | hx
    · rw [hx] at q8
      cases q8
    · rw [hx] at q8
      cases q8
      refine ⟨fun z => absurd z (by decide), fun pc2 L2 e9 => ?_⟩
      obtain ⟨L3, e3⟩ : ∃ L3, zcatch 192 4 1 [some (.ref 0), some (.int x1), some (.int x2), some (.ref q), none] = some (16, L3) := ⟨_, rfl⟩
      rw [show zcatch 192 4 1 _ = some (16, L3) from e3] at e9
      cases e9
      exact zpE_run 1 rfl (zpE_end rfl rfl (fun v hv => by
        cases hv
        exact ⟨_, _, _, rfl, rfl, hX, ho, Or.inr ⟨1, hx, by decide⟩⟩))
    · rw [hx] at q8
      cases q8
      refine ⟨fun z => absurd z (by decide), fun pc2 L2 e9 => ?_⟩
      obtain ⟨L3, e3⟩ : ∃ L3, zcatch 192 4 0 [some (.ref 0), some (.int x1), some (.int x2), some (.ref q), none] = some (20, L3) := ⟨_, rfl⟩
      rw [show zcatch 192 4 0 _ = some (20, L3) from e3] at e9
      cases e9
      exact zpE_run 1 rfl (zpE_end rfl rfl (fun v hv => by
        cases hv
        exact ⟨_, _, _, rfl, rfl, hX, ho, Or.inr ⟨0, hx, by decide⟩⟩))
theorem rs_57 {x1 x2 x3 : Int32} : (∃ x : Int32, R57 x1 x2 x3 S = .inl (some (.int x))) ∨ R57 x1 x2 x3 S = .inr 1 ∨ R57 x1 x2 x3 S = .inr 0 ∨ R57 x1 x2 x3 S = .inr 2 := by
  unfold R57
  (repeat' split) <;> first | exact Or.inl ⟨_, rfl⟩ | exact Or.inr (Or.inl rfl) | exact Or.inr (Or.inr (Or.inl rfl)) | exact Or.inr (Or.inr (Or.inr (rfl)))
abbrev kc_193 : Nat → Int32 := fun E => if E = 1 then Int32.ofInt 1 else if E = 0 then Int32.ofInt 2 else if E = 2 then Int32.ofInt 3 else 0
theorem pw_193 {x1 x2 x3 : Int32} (HL : zaL S.2) (hX : zUX (q, 6, vs) X M.2.2) (ho : zOu vs) : zpM xs N 193 [.ref 0, .int x1, .int x2, .int x3, .ref q] (zy S M X) nc ns (zNq (zWy q (R57 x1 x2 x3 S) (F57 x1 x2 x3 S) M kc_193)) := by
  intro L0 e
  cases e
  refine zpE_run 5 (L' := [some (.ref 0), some (.int x1), some (.int x2), some (.int x3), some (.ref q), none]) (st' := [.int x3, .int x2, .int x1, .ref 0, .ref q]) rfl ?_
  refine zpE_call rfl rfl (e_57 (S := S) (x1 := x1) (x2 := x2) (x3 := x3) HL) (fun v h1 nc1 ns1 q8 => ?_) (fun E h1 nc1 ns1 q8 => ?_)
  · obtain ⟨q8, q9⟩ := q8
    cases q9
    rcases rs_57 (S := S) (x1 := x1) (x2 := x2) (x3 := x3) with ⟨x, hx⟩ | hx | hx | hx
    · rw [hx] at q8
      cases q8
      refine zpE_run 1 (L' := [some (.ref 0), some (.int x1), some (.int x2), some (.int x3), some (.ref q), none]) (st' := [.long x.toInt64, .ref q]) (h' := zy (F57 x1 x2 x3 S) M X) rfl ?_
      obtain ⟨b1, b2, b3⟩ := zOu_0 (a := x.toInt64) ho
      refine zpE_putb (h' := zy (F57 x1 x2 x3 S) M (X.1, X.2.1, X.2.2.set (q - 73) (6, vs.set 0 (.long x.toInt64)))) rfl (zUX_q (S := F57 x1 x2 x3 S) (M := M) hX) rfl (zy_out (M := M) hX.2.2.2.1) (fun _ => ?_)
      refine zpE_gen (fun nc ns => ?_)
      exact zpE_run 2 rfl (zpE_end rfl rfl (fun v hv => by
        cases hv
        exact ⟨_, _, _, rfl, rfl, zUX_out hX, b1, Or.inl ⟨x, hx, by decide, b2⟩⟩))
    · rw [hx] at q8
      cases q8
    · rw [hx] at q8
      cases q8
    · rw [hx] at q8
      cases q8
  · obtain ⟨q8, q9⟩ := q8
    cases q9
    rcases rs_57 (S := S) (x1 := x1) (x2 := x2) (x3 := x3) with ⟨x, hx⟩ | hx | hx | hx
    · rw [hx] at q8
      cases q8
    · rw [hx] at q8
      cases q8
      refine ⟨fun z => absurd z (by decide), fun pc2 L2 e9 => ?_⟩
      obtain ⟨L3, e3⟩ : ∃ L3, zcatch 193 6 1 [some (.ref 0), some (.int x1), some (.int x2), some (.int x3), some (.ref q), none] = some (18, L3) := ⟨_, rfl⟩
      rw [show zcatch 193 6 1 _ = some (18, L3) from e3] at e9
      cases e9
      exact zpE_run 1 rfl (zpE_end rfl rfl (fun v hv => by
        cases hv
        exact ⟨_, _, _, rfl, rfl, hX, ho, Or.inr ⟨1, hx, by decide⟩⟩))
    · rw [hx] at q8
      cases q8
      refine ⟨fun z => absurd z (by decide), fun pc2 L2 e9 => ?_⟩
      obtain ⟨L3, e3⟩ : ∃ L3, zcatch 193 6 0 [some (.ref 0), some (.int x1), some (.int x2), some (.int x3), some (.ref q), none] = some (22, L3) := ⟨_, rfl⟩
      rw [show zcatch 193 6 0 _ = some (22, L3) from e3] at e9
      cases e9
      exact zpE_run 1 rfl (zpE_end rfl rfl (fun v hv => by
        cases hv
        exact ⟨_, _, _, rfl, rfl, hX, ho, Or.inr ⟨0, hx, by decide⟩⟩))
    · rw [hx] at q8
      cases q8
      refine ⟨fun z => absurd z (by decide), fun pc2 L2 e9 => ?_⟩
      obtain ⟨L3, e3⟩ : ∃ L3, zcatch 193 6 2 [some (.ref 0), some (.int x1), some (.int x2), some (.int x3), some (.ref q), none] = some (26, L3) := ⟨_, rfl⟩
      rw [show zcatch 193 6 2 _ = some (26, L3) from e3] at e9
      cases e9
      exact zpE_run 1 rfl (zpE_end rfl rfl (fun v hv => by
        cases hv
        exact ⟨_, _, _, rfl, rfl, hX, ho, Or.inr ⟨2, hx, by decide⟩⟩))
theorem rs_58 {x1 x2 x3 : Int32} : (∃ x : Int32, R58 x1 x2 x3 S = .inl (some (.int x))) ∨ R58 x1 x2 x3 S = .inr 1 ∨ R58 x1 x2 x3 S = .inr 0 ∨ R58 x1 x2 x3 S = .inr 2 := by
  unfold R58
  (repeat' split) <;> first | exact Or.inl ⟨_, rfl⟩ | exact Or.inr (Or.inl rfl) | exact Or.inr (Or.inr (Or.inl rfl)) | exact Or.inr (Or.inr (Or.inr (rfl)))
abbrev kc_194 : Nat → Int32 := fun E => if E = 1 then Int32.ofInt 1 else if E = 0 then Int32.ofInt 2 else if E = 2 then Int32.ofInt 3 else 0
theorem pw_194 {x1 x2 x3 : Int32} (HL : zaL S.2) (hX : zUX (q, 6, vs) X M.2.2) (ho : zOu vs) : zpM xs N 194 [.ref 0, .int x1, .int x2, .int x3, .ref q] (zy S M X) nc ns (zNq (zWy q (R58 x1 x2 x3 S) (F58 x1 x2 x3 S) M kc_194)) := by
  intro L0 e
  cases e
  refine zpE_run 5 (L' := [some (.ref 0), some (.int x1), some (.int x2), some (.int x3), some (.ref q), none]) (st' := [.int x3, .int x2, .int x1, .ref 0, .ref q]) rfl ?_
  refine zpE_call rfl rfl (e_58 (S := S) (x1 := x1) (x2 := x2) (x3 := x3) HL) (fun v h1 nc1 ns1 q8 => ?_) (fun E h1 nc1 ns1 q8 => ?_)
  · obtain ⟨q8, q9⟩ := q8
    cases q9
    rcases rs_58 (S := S) (x1 := x1) (x2 := x2) (x3 := x3) with ⟨x, hx⟩ | hx | hx | hx
    · rw [hx] at q8
      cases q8
      refine zpE_run 1 (L' := [some (.ref 0), some (.int x1), some (.int x2), some (.int x3), some (.ref q), none]) (st' := [.long x.toInt64, .ref q]) (h' := zy (F58 x1 x2 x3 S) M X) rfl ?_
      obtain ⟨b1, b2, b3⟩ := zOu_0 (a := x.toInt64) ho
      refine zpE_putb (h' := zy (F58 x1 x2 x3 S) M (X.1, X.2.1, X.2.2.set (q - 73) (6, vs.set 0 (.long x.toInt64)))) rfl (zUX_q (S := F58 x1 x2 x3 S) (M := M) hX) rfl (zy_out (M := M) hX.2.2.2.1) (fun _ => ?_)
      refine zpE_gen (fun nc ns => ?_)
      exact zpE_run 2 rfl (zpE_end rfl rfl (fun v hv => by
        cases hv
        exact ⟨_, _, _, rfl, rfl, zUX_out hX, b1, Or.inl ⟨x, hx, by decide, b2⟩⟩))
    · rw [hx] at q8
      cases q8
    · rw [hx] at q8
      cases q8
    · rw [hx] at q8
      cases q8
  · obtain ⟨q8, q9⟩ := q8
    cases q9
    rcases rs_58 (S := S) (x1 := x1) (x2 := x2) (x3 := x3) with ⟨x, hx⟩ | hx | hx | hx
    · rw [hx] at q8
      cases q8
    · rw [hx] at q8
      cases q8
      refine ⟨fun z => absurd z (by decide), fun pc2 L2 e9 => ?_⟩
      obtain ⟨L3, e3⟩ : ∃ L3, zcatch 194 6 1 [some (.ref 0), some (.int x1), some (.int x2), some (.int x3), some (.ref q), none] = some (18, L3) := ⟨_, rfl⟩
      rw [show zcatch 194 6 1 _ = some (18, L3) from e3] at e9
      cases e9
      exact zpE_run 1 rfl (zpE_end rfl rfl (fun v hv => by
        cases hv
        exact ⟨_, _, _, rfl, rfl, hX, ho, Or.inr ⟨1, hx, by decide⟩⟩))
    · rw [hx] at q8
      cases q8
      refine ⟨fun z => absurd z (by decide), fun pc2 L2 e9 => ?_⟩
      obtain ⟨L3, e3⟩ : ∃ L3, zcatch 194 6 0 [some (.ref 0), some (.int x1), some (.int x2), some (.int x3), some (.ref q), none] = some (22, L3) := ⟨_, rfl⟩
      rw [show zcatch 194 6 0 _ = some (22, L3) from e3] at e9
      cases e9
      exact zpE_run 1 rfl (zpE_end rfl rfl (fun v hv => by
        cases hv
        exact ⟨_, _, _, rfl, rfl, hX, ho, Or.inr ⟨0, hx, by decide⟩⟩))
    · rw [hx] at q8
      cases q8
      refine ⟨fun z => absurd z (by decide), fun pc2 L2 e9 => ?_⟩
      obtain ⟨L3, e3⟩ : ∃ L3, zcatch 194 6 2 [some (.ref 0), some (.int x1), some (.int x2), some (.int x3), some (.ref q), none] = some (26, L3) := ⟨_, rfl⟩
      rw [show zcatch 194 6 2 _ = some (26, L3) from e3] at e9
      cases e9
      exact zpE_run 1 rfl (zpE_end rfl rfl (fun v hv => by
        cases hv
        exact ⟨_, _, _, rfl, rfl, hX, ho, Or.inr ⟨2, hx, by decide⟩⟩))
theorem rs_59 {x1 x2 x3 : Int32} : (∃ x : Int32, R59 x1 x2 x3 S = .inl (some (.int x))) ∨ R59 x1 x2 x3 S = .inr 1 ∨ R59 x1 x2 x3 S = .inr 0 := by
  unfold R59
  (repeat' split) <;> first | exact Or.inl ⟨_, rfl⟩ | exact Or.inr (Or.inl rfl) | exact Or.inr (Or.inr (rfl))
abbrev kc_195 : Nat → Int32 := fun E => if E = 1 then Int32.ofInt 1 else if E = 0 then Int32.ofInt 2 else 0
theorem pw_195 {x1 x2 x3 : Int32} (HL : zaL S.2) (hX : zUX (q, 6, vs) X M.2.2) (ho : zOu vs) : zpM xs N 195 [.ref 0, .int x1, .int x2, .int x3, .ref q] (zy S M X) nc ns (zNq (zWy q (R59 x1 x2 x3 S) (F59 x1 x2 x3 S) M kc_195)) := by
  intro L0 e
  cases e
  refine zpE_run 5 (L' := [some (.ref 0), some (.int x1), some (.int x2), some (.int x3), some (.ref q), none]) (st' := [.int x3, .int x2, .int x1, .ref 0, .ref q]) rfl ?_
  refine zpE_call rfl rfl (e_59 (S := S) (x1 := x1) (x2 := x2) (x3 := x3) HL) (fun v h1 nc1 ns1 q8 => ?_) (fun E h1 nc1 ns1 q8 => ?_)
  · obtain ⟨q8, q9⟩ := q8
    cases q9
    rcases rs_59 (S := S) (x1 := x1) (x2 := x2) (x3 := x3) with ⟨x, hx⟩ | hx | hx
    · rw [hx] at q8
      cases q8
      refine zpE_run 1 (L' := [some (.ref 0), some (.int x1), some (.int x2), some (.int x3), some (.ref q), none]) (st' := [.long x.toInt64, .ref q]) (h' := zy (F59 x1 x2 x3 S) M X) rfl ?_
      obtain ⟨b1, b2, b3⟩ := zOu_0 (a := x.toInt64) ho
      refine zpE_putb (h' := zy (F59 x1 x2 x3 S) M (X.1, X.2.1, X.2.2.set (q - 73) (6, vs.set 0 (.long x.toInt64)))) rfl (zUX_q (S := F59 x1 x2 x3 S) (M := M) hX) rfl (zy_out (M := M) hX.2.2.2.1) (fun _ => ?_)
      refine zpE_gen (fun nc ns => ?_)
      exact zpE_run 2 rfl (zpE_end rfl rfl (fun v hv => by
        cases hv
        exact ⟨_, _, _, rfl, rfl, zUX_out hX, b1, Or.inl ⟨x, hx, by decide, b2⟩⟩))
    · rw [hx] at q8
      cases q8
    · rw [hx] at q8
      cases q8
  · obtain ⟨q8, q9⟩ := q8
    cases q9
    rcases rs_59 (S := S) (x1 := x1) (x2 := x2) (x3 := x3) with ⟨x, hx⟩ | hx | hx
    · rw [hx] at q8
      cases q8
    · rw [hx] at q8
      cases q8
      refine ⟨fun z => absurd z (by decide), fun pc2 L2 e9 => ?_⟩
      obtain ⟨L3, e3⟩ : ∃ L3, zcatch 195 6 1 [some (.ref 0), some (.int x1), some (.int x2), some (.int x3), some (.ref q), none] = some (18, L3) := ⟨_, rfl⟩
      rw [show zcatch 195 6 1 _ = some (18, L3) from e3] at e9
      cases e9
      exact zpE_run 1 rfl (zpE_end rfl rfl (fun v hv => by
        cases hv
        exact ⟨_, _, _, rfl, rfl, hX, ho, Or.inr ⟨1, hx, by decide⟩⟩))
    · rw [hx] at q8
      cases q8
      refine ⟨fun z => absurd z (by decide), fun pc2 L2 e9 => ?_⟩
      obtain ⟨L3, e3⟩ : ∃ L3, zcatch 195 6 0 [some (.ref 0), some (.int x1), some (.int x2), some (.int x3), some (.ref q), none] = some (22, L3) := ⟨_, rfl⟩
      rw [show zcatch 195 6 0 _ = some (22, L3) from e3] at e9
      cases e9
      exact zpE_run 1 rfl (zpE_end rfl rfl (fun v hv => by
        cases hv
        exact ⟨_, _, _, rfl, rfl, hX, ho, Or.inr ⟨0, hx, by decide⟩⟩))
theorem rs_60 {x1 x2 x3 x4 x5 : Int32} : (∃ x : Int32, R60 x1 x2 x3 x4 x5 S = .inl (some (.int x))) ∨ R60 x1 x2 x3 x4 x5 S = .inr 0 := by
  unfold R60
  (repeat' split) <;> first | exact Or.inl ⟨_, rfl⟩ | exact Or.inr (rfl)
abbrev kc_196 : Nat → Int32 := fun E => if E = 0 then Int32.ofInt 1 else 0
theorem pw_196 {x1 x2 x3 x4 x5 : Int32} (HL : zaL S.2) (hX : zUX (q, 6, vs) X M.2.2) (ho : zOu vs) : zpM xs N 196 [.ref 0, .int x1, .int x2, .int x3, .int x4, .int x5, .ref q] (zy S M X) nc ns (zNq (zWy q (R60 x1 x2 x3 x4 x5 S) (F60 x1 x2 x3 x4 x5 S) M kc_196)) := by
  intro L0 e
  cases e
  refine zpE_run 7 (L' := [some (.ref 0), some (.int x1), some (.int x2), some (.int x3), some (.int x4), some (.int x5), some (.ref q), none]) (st' := [.int x5, .int x4, .int x3, .int x2, .int x1, .ref 0, .ref q]) rfl ?_
  refine zpE_call rfl rfl (e_60 (S := S) (x1 := x1) (x2 := x2) (x3 := x3) (x4 := x4) (x5 := x5) HL) (fun v h1 nc1 ns1 q8 => ?_) (fun E h1 nc1 ns1 q8 => ?_)
  · obtain ⟨q8, q9⟩ := q8
    cases q9
    rcases rs_60 (S := S) (x1 := x1) (x2 := x2) (x3 := x3) (x4 := x4) (x5 := x5) with ⟨x, hx⟩ | hx
    · rw [hx] at q8
      cases q8
      refine zpE_run 1 (L' := [some (.ref 0), some (.int x1), some (.int x2), some (.int x3), some (.int x4), some (.int x5), some (.ref q), none]) (st' := [.long x.toInt64, .ref q]) (h' := zy (F60 x1 x2 x3 x4 x5 S) M X) rfl ?_
      obtain ⟨b1, b2, b3⟩ := zOu_0 (a := x.toInt64) ho
      refine zpE_putb (h' := zy (F60 x1 x2 x3 x4 x5 S) M (X.1, X.2.1, X.2.2.set (q - 73) (6, vs.set 0 (.long x.toInt64)))) rfl (zUX_q (S := F60 x1 x2 x3 x4 x5 S) (M := M) hX) rfl (zy_out (M := M) hX.2.2.2.1) (fun _ => ?_)
      refine zpE_gen (fun nc ns => ?_)
      exact zpE_run 2 rfl (zpE_end rfl rfl (fun v hv => by
        cases hv
        exact ⟨_, _, _, rfl, rfl, zUX_out hX, b1, Or.inl ⟨x, hx, by decide, b2⟩⟩))
    · rw [hx] at q8
      cases q8
  · obtain ⟨q8, q9⟩ := q8
    cases q9
    rcases rs_60 (S := S) (x1 := x1) (x2 := x2) (x3 := x3) (x4 := x4) (x5 := x5) with ⟨x, hx⟩ | hx
    · rw [hx] at q8
      cases q8
    · rw [hx] at q8
      cases q8
      refine ⟨fun z => absurd z (by decide), fun pc2 L2 e9 => ?_⟩
      obtain ⟨L3, e3⟩ : ∃ L3, zcatch 196 10 0 [some (.ref 0), some (.int x1), some (.int x2), some (.int x3), some (.int x4), some (.int x5), some (.ref q), none] = some (22, L3) := ⟨_, rfl⟩
      rw [show zcatch 196 10 0 _ = some (22, L3) from e3] at e9
      cases e9
      exact zpE_run 1 rfl (zpE_end rfl rfl (fun v hv => by
        cases hv
        exact ⟨_, _, _, rfl, rfl, hX, ho, Or.inr ⟨0, hx, by decide⟩⟩))
theorem rs_61 {x1 x2 : Int32} : (∃ x : Int32, R61 x1 x2 S = .inl (some (.int x))) ∨ R61 x1 x2 S = .inr 1 ∨ R61 x1 x2 S = .inr 2 := by
  unfold R61
  (repeat' split) <;> first | exact Or.inl ⟨_, rfl⟩ | exact Or.inr (Or.inl rfl) | exact Or.inr (Or.inr (rfl))
abbrev kc_197 : Nat → Int32 := fun E => if E = 1 then Int32.ofInt 1 else if E = 2 then Int32.ofInt 2 else 0
theorem pw_197 {x1 x2 : Int32} (HL : zaL S.2) (hX : zUX (q, 6, vs) X M.2.2) (ho : zOu vs) : zpM xs N 197 [.ref 0, .int x1, .int x2, .ref q] (zy S M X) nc ns (zNq (zWy q (R61 x1 x2 S) (F61 x1 x2 S) M kc_197)) := by
  intro L0 e
  cases e
  refine zpE_run 4 (L' := [some (.ref 0), some (.int x1), some (.int x2), some (.ref q), none]) (st' := [.int x2, .int x1, .ref 0, .ref q]) rfl ?_
  refine zpE_call rfl rfl (e_61 (S := S) (x1 := x1) (x2 := x2) HL) (fun v h1 nc1 ns1 q8 => ?_) (fun E h1 nc1 ns1 q8 => ?_)
  · obtain ⟨q8, q9⟩ := q8
    cases q9
    rcases rs_61 (S := S) (x1 := x1) (x2 := x2) with ⟨x, hx⟩ | hx | hx
    · rw [hx] at q8
      cases q8
      refine zpE_run 1 (L' := [some (.ref 0), some (.int x1), some (.int x2), some (.ref q), none]) (st' := [.long x.toInt64, .ref q]) (h' := zy (F61 x1 x2 S) M X) rfl ?_
      obtain ⟨b1, b2, b3⟩ := zOu_0 (a := x.toInt64) ho
      refine zpE_putb (h' := zy (F61 x1 x2 S) M (X.1, X.2.1, X.2.2.set (q - 73) (6, vs.set 0 (.long x.toInt64)))) rfl (zUX_q (S := F61 x1 x2 S) (M := M) hX) rfl (zy_out (M := M) hX.2.2.2.1) (fun _ => ?_)
      refine zpE_gen (fun nc ns => ?_)
      exact zpE_run 2 rfl (zpE_end rfl rfl (fun v hv => by
        cases hv
        exact ⟨_, _, _, rfl, rfl, zUX_out hX, b1, Or.inl ⟨x, hx, by decide, b2⟩⟩))
    · rw [hx] at q8
      cases q8
    · rw [hx] at q8
      cases q8
  · obtain ⟨q8, q9⟩ := q8
    cases q9
    rcases rs_61 (S := S) (x1 := x1) (x2 := x2) with ⟨x, hx⟩ | hx | hx
    · rw [hx] at q8
      cases q8
    · rw [hx] at q8
      cases q8
      refine ⟨fun z => absurd z (by decide), fun pc2 L2 e9 => ?_⟩
      obtain ⟨L3, e3⟩ : ∃ L3, zcatch 197 4 1 [some (.ref 0), some (.int x1), some (.int x2), some (.ref q), none] = some (16, L3) := ⟨_, rfl⟩
      rw [show zcatch 197 4 1 _ = some (16, L3) from e3] at e9
      cases e9
      exact zpE_run 1 rfl (zpE_end rfl rfl (fun v hv => by
        cases hv
        exact ⟨_, _, _, rfl, rfl, hX, ho, Or.inr ⟨1, hx, by decide⟩⟩))
    · rw [hx] at q8
      cases q8
      refine ⟨fun z => absurd z (by decide), fun pc2 L2 e9 => ?_⟩
      obtain ⟨L3, e3⟩ : ∃ L3, zcatch 197 4 2 [some (.ref 0), some (.int x1), some (.int x2), some (.ref q), none] = some (20, L3) := ⟨_, rfl⟩
      rw [show zcatch 197 4 2 _ = some (20, L3) from e3] at e9
      cases e9
      exact zpE_run 1 rfl (zpE_end rfl rfl (fun v hv => by
        cases hv
        exact ⟨_, _, _, rfl, rfl, hX, ho, Or.inr ⟨2, hx, by decide⟩⟩))
theorem rs_62 {x1 x2 : Int32} : (∃ x : Int32, R62 x1 x2 S = .inl (some (.int x))) ∨ R62 x1 x2 S = .inr 1 := by
  unfold R62
  (repeat' split) <;> first | exact Or.inl ⟨_, rfl⟩ | exact Or.inr (rfl)
abbrev kc_198 : Nat → Int32 := fun E => if E = 1 then Int32.ofInt 1 else 0
theorem pw_198 {x1 x2 : Int32} (HL : zaL S.2) (hX : zUX (q, 6, vs) X M.2.2) (ho : zOu vs) : zpM xs N 198 [.ref 0, .int x1, .int x2, .ref q] (zy S M X) nc ns (zNq (zWy q (R62 x1 x2 S) (F62 x1 x2 S) M kc_198)) := by
  intro L0 e
  cases e
  refine zpE_run 4 (L' := [some (.ref 0), some (.int x1), some (.int x2), some (.ref q), none]) (st' := [.int x2, .int x1, .ref 0, .ref q]) rfl ?_
  refine zpE_call rfl rfl (e_62 (S := S) (x1 := x1) (x2 := x2) HL) (fun v h1 nc1 ns1 q8 => ?_) (fun E h1 nc1 ns1 q8 => ?_)
  · obtain ⟨q8, q9⟩ := q8
    cases q9
    rcases rs_62 (S := S) (x1 := x1) (x2 := x2) with ⟨x, hx⟩ | hx
    · rw [hx] at q8
      cases q8
      refine zpE_run 1 (L' := [some (.ref 0), some (.int x1), some (.int x2), some (.ref q), none]) (st' := [.long x.toInt64, .ref q]) (h' := zy (F62 x1 x2 S) M X) rfl ?_
      obtain ⟨b1, b2, b3⟩ := zOu_0 (a := x.toInt64) ho
      refine zpE_putb (h' := zy (F62 x1 x2 S) M (X.1, X.2.1, X.2.2.set (q - 73) (6, vs.set 0 (.long x.toInt64)))) rfl (zUX_q (S := F62 x1 x2 S) (M := M) hX) rfl (zy_out (M := M) hX.2.2.2.1) (fun _ => ?_)
      refine zpE_gen (fun nc ns => ?_)
      exact zpE_run 2 rfl (zpE_end rfl rfl (fun v hv => by
        cases hv
        exact ⟨_, _, _, rfl, rfl, zUX_out hX, b1, Or.inl ⟨x, hx, by decide, b2⟩⟩))
    · rw [hx] at q8
      cases q8
  · obtain ⟨q8, q9⟩ := q8
    cases q9
    rcases rs_62 (S := S) (x1 := x1) (x2 := x2) with ⟨x, hx⟩ | hx
    · rw [hx] at q8
      cases q8
    · rw [hx] at q8
      cases q8
      refine ⟨fun z => absurd z (by decide), fun pc2 L2 e9 => ?_⟩
      obtain ⟨L3, e3⟩ : ∃ L3, zcatch 198 4 1 [some (.ref 0), some (.int x1), some (.int x2), some (.ref q), none] = some (16, L3) := ⟨_, rfl⟩
      rw [show zcatch 198 4 1 _ = some (16, L3) from e3] at e9
      cases e9
      exact zpE_run 1 rfl (zpE_end rfl rfl (fun v hv => by
        cases hv
        exact ⟨_, _, _, rfl, rfl, hX, ho, Or.inr ⟨1, hx, by decide⟩⟩))
theorem rs_63 {x1 : Int32} : (∃ x : Int32, R63 x1 S = .inl (some (.int x))) ∨ R63 x1 S = .inr 0 ∨ R63 x1 S = .inr 2 := by
  unfold R63
  (repeat' split) <;> first | exact Or.inl ⟨_, rfl⟩ | exact Or.inr (Or.inl rfl) | exact Or.inr (Or.inr (rfl))
abbrev kc_199 : Nat → Int32 := fun E => if E = 0 then Int32.ofInt 1 else if E = 2 then Int32.ofInt 2 else 0
theorem pw_199 {x1 : Int32} (HL : zaL S.2) (hX : zUX (q, 6, vs) X M.2.2) (ho : zOu vs) : zpM xs N 199 [.ref 0, .int x1, .ref q] (zy S M X) nc ns (zNq (zWy q (R63 x1 S) (F63 x1 S) M kc_199)) := by
  intro L0 e
  cases e
  refine zpE_run 3 (L' := [some (.ref 0), some (.int x1), some (.ref q), none]) (st' := [.int x1, .ref 0, .ref q]) rfl ?_
  refine zpE_call rfl rfl (e_63 (S := S) (x1 := x1) HL) (fun v h1 nc1 ns1 q8 => ?_) (fun E h1 nc1 ns1 q8 => ?_)
  · obtain ⟨q8, q9⟩ := q8
    cases q9
    rcases rs_63 (S := S) (x1 := x1) with ⟨x, hx⟩ | hx | hx
    · rw [hx] at q8
      cases q8
      refine zpE_run 1 (L' := [some (.ref 0), some (.int x1), some (.ref q), none]) (st' := [.long x.toInt64, .ref q]) (h' := zy (F63 x1 S) M X) rfl ?_
      obtain ⟨b1, b2, b3⟩ := zOu_0 (a := x.toInt64) ho
      refine zpE_putb (h' := zy (F63 x1 S) M (X.1, X.2.1, X.2.2.set (q - 73) (6, vs.set 0 (.long x.toInt64)))) rfl (zUX_q (S := F63 x1 S) (M := M) hX) rfl (zy_out (M := M) hX.2.2.2.1) (fun _ => ?_)
      refine zpE_gen (fun nc ns => ?_)
      exact zpE_run 2 rfl (zpE_end rfl rfl (fun v hv => by
        cases hv
        exact ⟨_, _, _, rfl, rfl, zUX_out hX, b1, Or.inl ⟨x, hx, by decide, b2⟩⟩))
    · rw [hx] at q8
      cases q8
    · rw [hx] at q8
      cases q8
  · obtain ⟨q8, q9⟩ := q8
    cases q9
    rcases rs_63 (S := S) (x1 := x1) with ⟨x, hx⟩ | hx | hx
    · rw [hx] at q8
      cases q8
    · rw [hx] at q8
      cases q8
      refine ⟨fun z => absurd z (by decide), fun pc2 L2 e9 => ?_⟩
      obtain ⟨L3, e3⟩ : ∃ L3, zcatch 199 3 0 [some (.ref 0), some (.int x1), some (.ref q), none] = some (14, L3) := ⟨_, rfl⟩
      rw [show zcatch 199 3 0 _ = some (14, L3) from e3] at e9
      cases e9
      exact zpE_run 1 rfl (zpE_end rfl rfl (fun v hv => by
        cases hv
        exact ⟨_, _, _, rfl, rfl, hX, ho, Or.inr ⟨0, hx, by decide⟩⟩))
    · rw [hx] at q8
      cases q8
      refine ⟨fun z => absurd z (by decide), fun pc2 L2 e9 => ?_⟩
      obtain ⟨L3, e3⟩ : ∃ L3, zcatch 199 3 2 [some (.ref 0), some (.int x1), some (.ref q), none] = some (17, L3) := ⟨_, rfl⟩
      rw [show zcatch 199 3 2 _ = some (17, L3) from e3] at e9
      cases e9
      exact zpE_run 1 rfl (zpE_end rfl rfl (fun v hv => by
        cases hv
        exact ⟨_, _, _, rfl, rfl, hX, ho, Or.inr ⟨2, hx, by decide⟩⟩))
end ZL2
