section ZQ2
variable {xs : List Int32} {N : Nat} {S : zSt} {M : zRt} {X : zXt} {q : Nat} {vs : List Value} {nc ns : Nat}
def zrP_73 (r : Option Value ⊕ Nat) : Prop := (∃ x : Int32, r = .inl (some (.int x))) ∨ r = .inr 1
theorem rs_73 {x1 x2 : Int32} : (∃ x : Int32, R73 x1 x2 S = .inl (some (.int x))) ∨ R73 x1 x2 S = .inr 1 := by
  show zrP_73 (R73 x1 x2 S)
  unfold R73
  repeat' first | refine zifP (P := zrP_73) ?_ ?_ | exact Or.inl ⟨_, rfl⟩ | exact Or.inr (rfl)
abbrev kc_207 : Nat → Int32 := fun E => if E = 1 then Int32.ofInt 1 else 0
theorem Fe_73 {x1 x2 : Int32} : F73 x1 x2 S = S := by
  unfold F73
  repeat' first | refine zifP (P := fun r => r = S) ?_ ?_ | exact rfl
theorem pw_207 {x1 x2 : Int32} (HL : zaL S.2) (hX : zUX (q, 6, vs) X M.2.2) (ho : zOu vs) : zpM xs N 207 [.ref 0, .int x1, .int x2, .ref q] (zy S M X) nc ns (zNq (zWy q (R73 x1 x2 S) (F73 x1 x2 S) M kc_207)) := by
  intro L0 e
  cases e
  refine zpE_run 4 (L' := [some (.ref 0), some (.int x1), some (.int x2), some (.ref q), none]) (st' := [.int x2, .int x1, .ref 0, .ref q]) rfl ?_
  refine zpE_call rfl rfl (e_73 (S := S) (x1 := x1) (x2 := x2) HL) (fun v h1 nc1 ns1 q8 => ?_) (fun E h1 nc1 ns1 q8 => ?_)
  · obtain ⟨q8, q9⟩ := q8
    cases q9
    rcases rs_73 (S := S) (x1 := x1) (x2 := x2) with ⟨x, hx⟩ | hx
    · rw [hx] at q8
      cases q8
      refine zpE_run 1 (L' := [some (.ref 0), some (.int x1), some (.int x2), some (.ref q), none]) (st' := [.long x.toInt64, .ref q]) (h' := zy (F73 x1 x2 S) M X) rfl ?_
      obtain ⟨b1, b2, b3⟩ := zOu_0 (a := x.toInt64) ho
      refine zpE_putb (h' := zy (F73 x1 x2 S) M (X.1, X.2.1, X.2.2.set (q - 73) (6, vs.set 0 (.long x.toInt64)))) rfl (zUX_q (S := F73 x1 x2 S) (M := M) hX) rfl (zy_out (M := M) hX.2.2.2.1) (fun _ => ?_)
      refine zpE_gen (fun nc ns => ?_)
      exact zpE_run 2 rfl (zpE_end rfl rfl (fun v hv => by
        cases hv
        exact ⟨_, _, _, rfl, rfl, zUX_out hX, b1, Or.inl ⟨x, hx, by decide, b2⟩⟩))
    · rw [hx] at q8
      cases q8
  · obtain ⟨q8, q9⟩ := q8
    cases q9
    rcases rs_73 (S := S) (x1 := x1) (x2 := x2) with ⟨x, hx⟩ | hx
    · rw [hx] at q8
      cases q8
    · rw [hx] at q8
      cases q8
      refine ⟨fun z => absurd z (by decide), fun pc2 L2 e9 => ?_⟩
      obtain ⟨L3, e3⟩ : ∃ L3, zcatch 207 4 1 [some (.ref 0), some (.int x1), some (.int x2), some (.ref q), none] = some (16, L3) := ⟨_, rfl⟩
      rw [show zcatch 207 4 1 _ = some (16, L3) from e3] at e9
      cases e9
      exact zpE_run 1 rfl (zpE_end rfl rfl (fun v hv => by
        cases hv
        exact ⟨_, _, _, rfl, rfl, hX, ho, Or.inr ⟨1, hx, by decide⟩⟩))
end ZQ2
/-! blame: of both. -/
section ZL3Y
variable {S S' : zSt} {M M' : zRt} {u v w x x1 x2 x3 x4 l : Int32} {n a b k m : Nat}
/-- an entry, of both -/
theorem zle9 (h : zE S M) (hk : k < (M.2.2.1 2).length) : ∃ (a : Nat) (b : Int32), a < 128 ∧ zgt (S.2 12) (Int32.ofNat k) = Int32.ofNat a ∧ zgt (S.2 13) (Int32.ofNat k) = b ∧ zgt ((M.2.2.1 2).getD (Int32.toNatClampNeg (Int32.ofNat k)) []) (Int32.ofInt 0) = Int32.ofNat a ∧ zgt ((M.2.2.1 2).getD (Int32.toNatClampNeg (Int32.ofNat k)) []) (Int32.ofInt 1) = b := by
  obtain ⟨g1, g2, g3, g4⟩ := zE_lg h
  obtain ⟨a, b, c, e0, ha, hb, e1, e2, e3⟩ := g4 k _ (List.getElem?_eq_getElem hk)
  have eg : (M.2.2.1 2).getD (Int32.toNatClampNeg (Int32.ofNat k)) [] = [Int32.ofNat a, b, c] := by
    rw [zcl_of (by omega), List.getD_eq_getElem?_getD, List.getElem?_eq_getElem hk, ← e0]
    rfl
  rw [eg]
  exact ⟨a, b, ha, e1, e2, rfl, rfl⟩
theorem zrp9 : ∀ a, a < 128 → zrmd (Int32.ofNat a) (Int32.ofInt 8) = Int32.ofNat (a % 8) ∧ zqtd (zrmd (Int32.ofNat a) (Int32.ofInt 64)) (Int32.ofInt 8) = Int32.ofNat (a / 8 % 8) ∧ zrmd (zqtd (Int32.ofNat a) (Int32.ofInt 8)) (Int32.ofInt 8) = Int32.ofNat (a / 8 % 8) := by
  have e : (List.range 128).all (fun a => decide (zrmd (Int32.ofNat a) (Int32.ofInt 8) = Int32.ofNat (a % 8) ∧ zqtd (zrmd (Int32.ofNat a) (Int32.ofInt 64)) (Int32.ofInt 8) = Int32.ofNat (a / 8 % 8) ∧ zrmd (zqtd (Int32.ofNat a) (Int32.ofInt 8)) (Int32.ofInt 8) = Int32.ofNat (a / 8 % 8))) = true := by decide +kernel
  exact fun a ha => of_decide_eq_true (List.all_eq_true.mp e a (List.mem_range.mpr ha))
theorem zor8 : ∀ n, n < 256 → ∀ i, i < 8 → Int32.ofNat n ||| (Int32.ofInt 1 <<< (Int32.ofNat i &&& 31)) = Int32.ofNat (n ||| 2 ^ i) ∧ n ||| 2 ^ i < 256 := by
  have e : (List.range 256).all (fun n => (List.range 8).all (fun i => decide (Int32.ofNat n ||| (Int32.ofInt 1 <<< (Int32.ofNat i &&& 31)) = Int32.ofNat (n ||| 2 ^ i) ∧ n ||| 2 ^ i < 256))) = true := by decide +kernel
  exact fun n hn i hi => of_decide_eq_true (List.all_eq_true.mp (List.all_eq_true.mp e n (List.mem_range.mpr hn)) i (List.mem_range.mpr hi))
theorem zbw8 : ∀ n, n < 256 → ((zbc (Int32.ofNat n)).toInt < (Int32.ofInt 3).toInt ↔ (zwg 31 (Int32.ofInt 0) (Int32.ofNat n)).toInt < (Int32.ofInt 3).toInt) := by
  have e : (List.range 256).all (fun n => decide ((zbc (Int32.ofNat n)).toInt < (Int32.ofInt 3).toInt ↔ (zwg 31 (Int32.ofInt 0) (Int32.ofNat n)).toInt < (Int32.ofInt 3).toInt)) = true := by decide +kernel
  exact fun n hn => of_decide_eq_true (List.all_eq_true.mp e n (List.mem_range.mpr hn))
theorem z37_9 (h : zE S M) (hk : k < (M.2.2.1 2).length) : V37 x1 (Int32.ofNat k) S = v166 (Int32.ofNat k) x1 M := by
  obtain ⟨a, b, ha, e1, e2, e3, e4⟩ := zle9 h hk
  unfold V37 v166
  rw [e1, e2, e3, e4]
  by_cases p : b = Int32.ofInt (-1)
  · rw [if_pos p]
    by_cases q : zqtd (Int32.ofNat a) (Int32.ofInt 64) = x1
    · rw [if_pos q, if_pos p]
    · rw [if_neg q]
  · rw [if_neg p]
    by_cases q : zqtd (Int32.ofNat a) (Int32.ofInt 64) = x1
    · rw [if_pos q, if_pos q, if_neg p]
    · rw [if_neg q, if_neg q]
theorem d12_9 : ¬ Int32.ofInt 1 = Int32.ofInt 2 := by decide
theorem d21_9 : ¬ Int32.ofInt 2 = Int32.ofInt 1 := by decide
theorem d31_9 : ¬ Int32.ofInt 3 = Int32.ofInt 1 := by decide
theorem d32_9 : ¬ Int32.ofInt 3 = Int32.ofInt 2 := by decide
theorem d10_9 : ¬ Int32.ofInt 1 = (0 : Int32) := by decide
theorem d00_9 : Int32.ofInt 0 = (0 : Int32) := by decide
theorem V34_1 : V34 (Int32.ofInt 1) x1 x2 x3 S = x1 := (if_neg (by decide)).trans (if_neg (by decide))
theorem V34_2 : V34 (Int32.ofInt 2) x1 x2 x3 S = x2 := (if_neg (by decide)).trans (if_pos rfl)
theorem V34_3 : V34 (Int32.ofInt 3) x1 x2 x3 S = x3 := if_pos rfl
theorem zw167b (h : zE S M) : ∀ k, k ≤ (M.2.2.1 2).length → ∃ n, n < 256 ∧ w167 x1 x2 x3 x4 M (Int32.ofInt 0) k = Int32.ofNat n
  | 0, _ => ⟨0, by decide, rfl⟩
  | k + 1, hk => by
    obtain ⟨n, hn, e⟩ := zw167b h k (by omega)
    obtain ⟨a, b, ha, e1, e2, e3, e4⟩ := zle9 h (k := k) (by omega)
    obtain ⟨r1, r2, r3⟩ := zrp9 a ha
    show ∃ n, n < 256 ∧ d167 x1 x2 x3 x4 M k (w167 x1 x2 x3 x4 M (Int32.ofInt 0) k) = Int32.ofNat n
    rw [e]
    unfold d167
    rw [e3, e4, r1, r3]
    repeat' first | refine zifP (P := fun v : Int32 => ∃ n : Nat, n < 256 ∧ v = Int32.ofNat n) ?_ ?_ | exact ⟨n, hn, rfl⟩ | exact ⟨_, (zor8 n hn _ (Nat.mod_lt _ (by decide))).2, (zor8 n hn _ (Nat.mod_lt _ (by decide))).1⟩
theorem zD33_1 (h : zE S M) (hk : k < (M.2.2.1 2).length) : D33 x1 (Int32.ofInt 1) x3 S k u = d167 x1 (Int32.ofInt 1) x3 (Int32.ofInt 1) M k u := by
  obtain ⟨a, b, ha, e1, e2, e3, e4⟩ := zle9 h hk
  obtain ⟨r1, r2, r3⟩ := zrp9 a ha
  have e5 := z37_9 (x1 := x1) h hk
  unfold D33 d167
  rw [e5, e1, e2, e3, e4, r1, r2, r3]
  by_cases p : v166 (Int32.ofNat k) x1 M = ((0 : Int32))
  · rw [if_pos p, if_pos p]
  · rw [if_neg p, if_neg p, V34_1, if_pos (show Int32.ofInt 1 = Int32.ofInt 1 from rfl), if_neg d12_9, if_neg d10_9]
theorem zW33_1 (h : zE S M) : ∀ k, k ≤ (M.2.2.1 2).length → W33 x1 (Int32.ofInt 1) x3 S u k = w167 x1 (Int32.ofInt 1) x3 (Int32.ofInt 1) M u k
  | 0, _ => rfl
  | k + 1, hk => by
    show D33 x1 (Int32.ofInt 1) x3 S k (W33 x1 (Int32.ofInt 1) x3 S u k) = d167 x1 (Int32.ofInt 1) x3 (Int32.ofInt 1) M k (w167 x1 (Int32.ofInt 1) x3 (Int32.ofInt 1) M u k)
    rw [zW33_1 h k (by omega)]
    exact zD33_1 h (by omega)
theorem zG33_1 (h : zE S M) : V33 x1 (Int32.ofInt 1) x3 S = ((0 : Int32)) ↔ (v167 x1 (Int32.ofInt 1) x3 (Int32.ofInt 1) M).toInt < (Int32.ofInt 3).toInt := by
  obtain ⟨g1, g2, g3, g4⟩ := zE_lg h
  unfold V33 v167 Y33 y167
  rw [g1, zfl40 g2, zW33_1 h _ (Nat.le_refl _)]
  obtain ⟨n, hn, e⟩ := zw167b (x1 := x1) (x2 := Int32.ofInt 1) (x3 := x3) (x4 := Int32.ofInt 1) h _ (Nat.le_refl _)
  rw [e]
  have z := zbw8 n hn
  by_cases p : (zbc (Int32.ofNat n)).toInt < (Int32.ofInt 3).toInt
  · rw [if_pos p]
    exact ⟨fun _ => z.mp p, fun _ => by decide⟩
  · rw [if_neg p]
    exact ⟨fun y => absurd y (by decide), fun y => absurd (z.mpr y) p⟩
theorem zD33_2 (h : zE S M) (hk : k < (M.2.2.1 2).length) : D33 x1 (Int32.ofInt 2) x3 S k u = d167 x1 (Int32.ofInt 2) x3 (Int32.ofInt 0) M k u := by
  obtain ⟨a, b, ha, e1, e2, e3, e4⟩ := zle9 h hk
  obtain ⟨r1, r2, r3⟩ := zrp9 a ha
  have e5 := z37_9 (x1 := x1) h hk
  unfold D33 d167
  rw [e5, e1, e2, e3, e4, r1, r2, r3]
  by_cases p : v166 (Int32.ofNat k) x1 M = ((0 : Int32))
  · rw [if_pos p, if_pos p]
  · rw [if_neg p, if_neg p, V34_2, if_neg d21_9, if_pos (show Int32.ofInt 2 = Int32.ofInt 2 from rfl), if_pos (show Int32.ofInt 2 = Int32.ofInt 2 from rfl), if_pos d00_9]
theorem zW33_2 (h : zE S M) : ∀ k, k ≤ (M.2.2.1 2).length → W33 x1 (Int32.ofInt 2) x3 S u k = w167 x1 (Int32.ofInt 2) x3 (Int32.ofInt 0) M u k
  | 0, _ => rfl
  | k + 1, hk => by
    show D33 x1 (Int32.ofInt 2) x3 S k (W33 x1 (Int32.ofInt 2) x3 S u k) = d167 x1 (Int32.ofInt 2) x3 (Int32.ofInt 0) M k (w167 x1 (Int32.ofInt 2) x3 (Int32.ofInt 0) M u k)
    rw [zW33_2 h k (by omega)]
    exact zD33_2 h (by omega)
theorem zG33_2 (h : zE S M) : V33 x1 (Int32.ofInt 2) x3 S = ((0 : Int32)) ↔ (v167 x1 (Int32.ofInt 2) x3 (Int32.ofInt 0) M).toInt < (Int32.ofInt 3).toInt := by
  obtain ⟨g1, g2, g3, g4⟩ := zE_lg h
  unfold V33 v167 Y33 y167
  rw [g1, zfl40 g2, zW33_2 h _ (Nat.le_refl _)]
  obtain ⟨n, hn, e⟩ := zw167b (x1 := x1) (x2 := Int32.ofInt 2) (x3 := x3) (x4 := Int32.ofInt 0) h _ (Nat.le_refl _)
  rw [e]
  have z := zbw8 n hn
  by_cases p : (zbc (Int32.ofNat n)).toInt < (Int32.ofInt 3).toInt
  · rw [if_pos p]
    exact ⟨fun _ => z.mp p, fun _ => by decide⟩
  · rw [if_neg p]
    exact ⟨fun y => absurd y (by decide), fun y => absurd (z.mpr y) p⟩
theorem zD33_3 (h : zE S M) (hk : k < (M.2.2.1 2).length) : D33 x1 (Int32.ofInt 3) x3 S k u = d167 x1 (Int32.ofInt 3) x3 (Int32.ofInt 1) M k u := by
  obtain ⟨a, b, ha, e1, e2, e3, e4⟩ := zle9 h hk
  obtain ⟨r1, r2, r3⟩ := zrp9 a ha
  have e5 := z37_9 (x1 := x1) h hk
  unfold D33 d167
  rw [e5, e1, e2, e3, e4, r1, r2, r3]
  by_cases p : v166 (Int32.ofNat k) x1 M = ((0 : Int32))
  · rw [if_pos p, if_pos p]
  · rw [if_neg p, if_neg p, V34_3, if_neg d31_9, if_neg d32_9, if_neg d32_9, if_neg d10_9]
theorem zW33_3 (h : zE S M) : ∀ k, k ≤ (M.2.2.1 2).length → W33 x1 (Int32.ofInt 3) x3 S u k = w167 x1 (Int32.ofInt 3) x3 (Int32.ofInt 1) M u k
  | 0, _ => rfl
  | k + 1, hk => by
    show D33 x1 (Int32.ofInt 3) x3 S k (W33 x1 (Int32.ofInt 3) x3 S u k) = d167 x1 (Int32.ofInt 3) x3 (Int32.ofInt 1) M k (w167 x1 (Int32.ofInt 3) x3 (Int32.ofInt 1) M u k)
    rw [zW33_3 h k (by omega)]
    exact zD33_3 h (by omega)
theorem zG33_3 (h : zE S M) : V33 x1 (Int32.ofInt 3) x3 S = ((0 : Int32)) ↔ (v167 x1 (Int32.ofInt 3) x3 (Int32.ofInt 1) M).toInt < (Int32.ofInt 3).toInt := by
  obtain ⟨g1, g2, g3, g4⟩ := zE_lg h
  unfold V33 v167 Y33 y167
  rw [g1, zfl40 g2, zW33_3 h _ (Nat.le_refl _)]
  obtain ⟨n, hn, e⟩ := zw167b (x1 := x1) (x2 := Int32.ofInt 3) (x3 := x3) (x4 := Int32.ofInt 1) h _ (Nat.le_refl _)
  rw [e]
  have z := zbw8 n hn
  by_cases p : (zbc (Int32.ofNat n)).toInt < (Int32.ofInt 3).toInt
  · rw [if_pos p]
    exact ⟨fun _ => z.mp p, fun _ => by decide⟩
  · rw [if_neg p]
    exact ⟨fun y => absurd y (by decide), fun y => absurd (z.mpr y) p⟩
def zoN : Option Nat → Int32
  | some j => Int32.ofNat j
  | none => Int32.ofInt (-1)
theorem zQ32_1 (h : zE S M) : ∀ m k, Q32 x1 (Int32.ofInt 1) l S m k = zoN (q169 x1 (Int32.ofInt 1) M m k)
  | 0, _ => rfl
  | m + 1, k => by
    have ih := zQ32_1 h m (k + 1)
    have g := zG33_1 (x1 := x1) (x3 := Int32.ofNat k) h
    have e : q169 x1 (Int32.ofInt 1) M (m + 1) k = if (v167 x1 (Int32.ofInt 1) (Int32.ofNat k) (Int32.ofInt 1) M).toInt < (Int32.ofInt 3).toInt then q169 x1 (Int32.ofInt 1) M m (k + 1) else some k := if_neg (by decide)
    have e2 : Q32 x1 (Int32.ofInt 1) l S (m + 1) k = if V33 x1 (Int32.ofInt 1) (Int32.ofNat k) S = ((0 : Int32)) then Q32 x1 (Int32.ofInt 1) l S m (k + 1) else Int32.ofNat k := rfl
    rw [e, e2]
    by_cases p : V33 x1 (Int32.ofInt 1) (Int32.ofNat k) S = ((0 : Int32))
    · rw [if_pos p, if_pos (g.mp p)]
      exact ih
    · rw [if_neg p, if_neg (fun z => p (g.mpr z))]
      rfl
theorem zQ32_2 (h : zE S M) : ∀ m k, Q32 x1 (Int32.ofInt 2) l S m k = zoN (q169 x1 (Int32.ofInt 2) M m k)
  | 0, _ => rfl
  | m + 1, k => by
    have ih := zQ32_2 h m (k + 1)
    have g := zG33_2 (x1 := x1) (x3 := Int32.ofNat k) h
    have e : q169 x1 (Int32.ofInt 2) M (m + 1) k = if (v167 x1 (Int32.ofInt 2) (Int32.ofNat k) (Int32.ofInt 0) M).toInt < (Int32.ofInt 3).toInt then q169 x1 (Int32.ofInt 2) M m (k + 1) else some k := if_pos rfl
    have e2 : Q32 x1 (Int32.ofInt 2) l S (m + 1) k = if V33 x1 (Int32.ofInt 2) (Int32.ofNat k) S = ((0 : Int32)) then Q32 x1 (Int32.ofInt 2) l S m (k + 1) else Int32.ofNat k := rfl
    rw [e, e2]
    by_cases p : V33 x1 (Int32.ofInt 2) (Int32.ofNat k) S = ((0 : Int32))
    · rw [if_pos p, if_pos (g.mp p)]
      exact ih
    · rw [if_neg p, if_neg (fun z => p (g.mpr z))]
      rfl
theorem zQ32_3 (h : zE S M) : ∀ m k, Q32 x1 (Int32.ofInt 3) l S m k = zoN (q169 x1 (Int32.ofInt 3) M m k)
  | 0, _ => rfl
  | m + 1, k => by
    have ih := zQ32_3 h m (k + 1)
    have g := zG33_3 (x1 := x1) (x3 := Int32.ofNat k) h
    have e : q169 x1 (Int32.ofInt 3) M (m + 1) k = if (v167 x1 (Int32.ofInt 3) (Int32.ofNat k) (Int32.ofInt 1) M).toInt < (Int32.ofInt 3).toInt then q169 x1 (Int32.ofInt 3) M m (k + 1) else some k := if_neg (by decide)
    have e2 : Q32 x1 (Int32.ofInt 3) l S (m + 1) k = if V33 x1 (Int32.ofInt 3) (Int32.ofNat k) S = ((0 : Int32)) then Q32 x1 (Int32.ofInt 3) l S m (k + 1) else Int32.ofNat k := rfl
    rw [e, e2]
    by_cases p : V33 x1 (Int32.ofInt 3) (Int32.ofNat k) S = ((0 : Int32))
    · rw [if_pos p, if_pos (g.mp p)]
      exact ih
    · rw [if_neg p, if_neg (fun z => p (g.mpr z))]
      rfl
theorem zq9lt : ∀ (m k j : Nat), q169 x1 x2 M m k = some j → j < k + m
  | 0, _, _, e => by cases (show none = some _ from e)
  | m + 1, k, j, e => by
    have e9 : (if x2 = (Int32.ofInt 2) then (if (v167 x1 x2 (Int32.ofNat k) (Int32.ofInt 0) M).toInt < (Int32.ofInt 3).toInt then (q169 x1 x2 M m (k + 1)) else (some k)) else (if (v167 x1 x2 (Int32.ofNat k) (Int32.ofInt 1) M).toInt < (Int32.ofInt 3).toInt then (q169 x1 x2 M m (k + 1)) else (some k))) = some j := e
    split at e9 <;> split at e9
    · have := zq9lt m (k + 1) j e9
      omega
    · cases e9
      omega
    · have := zq9lt m (k + 1) j e9
      omega
    · cases e9
      omega
theorem zq9a : ∀ (m1 m2 k : Nat), q169 x1 x2 M (m1 + m2) k = (q169 x1 x2 M m1 k).or (q169 x1 x2 M m2 (k + m1))
  | 0, m2, k => by
    rw [Nat.zero_add]
    rfl
  | m1 + 1, m2, k => by
    have ih := zq9a m1 m2 (k + 1)
    rw [show m1 + 1 + m2 = m1 + m2 + 1 by omega, show k + (m1 + 1) = k + 1 + m1 by omega]
    have e : ∀ m, q169 x1 x2 M (m + 1) k = if x2 = (Int32.ofInt 2) then (if (v167 x1 x2 (Int32.ofNat k) (Int32.ofInt 0) M).toInt < (Int32.ofInt 3).toInt then (q169 x1 x2 M m (k + 1)) else (some k)) else (if (v167 x1 x2 (Int32.ofNat k) (Int32.ofInt 1) M).toInt < (Int32.ofInt 3).toInt then (q169 x1 x2 M m (k + 1)) else (some k)) := fun _ => rfl
    rw [e, e]
    by_cases p : x2 = Int32.ofInt 2
    · rw [if_pos p, if_pos p]
      by_cases q : (v167 x1 x2 (Int32.ofNat k) (Int32.ofInt 0) M).toInt < (Int32.ofInt 3).toInt
      · rw [if_pos q, if_pos q]
        exact ih
      · rw [if_neg q, if_neg q]
        rfl
    · rw [if_neg p, if_neg p]
      by_cases q : (v167 x1 x2 (Int32.ofNat k) (Int32.ofInt 1) M).toInt < (Int32.ofInt 3).toInt
      · rw [if_pos q, if_pos q]
        exact ih
      · rw [if_neg q, if_neg q]
        rfl
theorem zw0_2 (h : zE S M) (hn : 8 ≤ n ∧ n < 100) : ∀ k, k ≤ (M.2.2.1 2).length → w167 x1 (Int32.ofInt 2) (Int32.ofNat n) (Int32.ofInt 0) M (Int32.ofInt 0) k = Int32.ofInt 0
  | 0, _ => rfl
  | k + 1, hk => by
    have ih := zw0_2 h hn k (by omega)
    obtain ⟨a, b, ha, e1, e2, e3, e4⟩ := zle9 h (k := k) (by omega)
    obtain ⟨r1, r2, r3⟩ := zrp9 a ha
    show d167 x1 (Int32.ofInt 2) (Int32.ofNat n) (Int32.ofInt 0) M k (w167 x1 (Int32.ofInt 2) (Int32.ofNat n) (Int32.ofInt 0) M (Int32.ofInt 0) k) = _
    rw [ih]
    unfold d167
    rw [e3, e4, r1, r3]
    by_cases p : v166 (Int32.ofNat k) x1 M = ((0 : Int32))
    · rw [if_pos p]
    · have ne : ¬ Int32.ofNat (a / 8 % 8) = Int32.ofNat n := fun t => by
        have := (zof_l (by omega) (by omega)).mp t
        omega
      rw [if_neg p, if_neg d21_9, if_pos (show Int32.ofInt 2 = Int32.ofInt 2 from rfl), if_neg ne]
theorem zq9n_2 (h : zE S M) : ∀ m k, 8 ≤ k → k + m ≤ 16 → q169 x1 (Int32.ofInt 2) M m k = none
  | 0, _, _, _ => rfl
  | m + 1, k, h1, h2 => by
    obtain ⟨g1, g2, g3, g4⟩ := zE_lg h
    have ih := zq9n_2 h m (k + 1) (by omega) (by omega)
    have e : q169 x1 (Int32.ofInt 2) M (m + 1) k = if (v167 x1 (Int32.ofInt 2) (Int32.ofNat k) (Int32.ofInt 0) M).toInt < (Int32.ofInt 3).toInt then q169 x1 (Int32.ofInt 2) M m (k + 1) else some k := if_pos rfl
    have e2 : v167 x1 (Int32.ofInt 2) (Int32.ofNat k) (Int32.ofInt 0) M = zwg 31 (Int32.ofInt 0) (Int32.ofInt 0) := by
      unfold v167 y167
      rw [zfl40 g2, zw0_2 h ⟨h1, by omega⟩ _ (Nat.le_refl _)]
    rw [e, e2, if_pos (by decide +kernel)]
    exact ih
theorem zw0_3 (h : zE S M) (hn : 8 ≤ n ∧ n < 100) : ∀ k, k ≤ (M.2.2.1 2).length → w167 x1 (Int32.ofInt 3) (Int32.ofNat n) (Int32.ofInt 1) M (Int32.ofInt 0) k = Int32.ofInt 0
  | 0, _ => rfl
  | k + 1, hk => by
    have ih := zw0_3 h hn k (by omega)
    obtain ⟨a, b, ha, e1, e2, e3, e4⟩ := zle9 h (k := k) (by omega)
    obtain ⟨r1, r2, r3⟩ := zrp9 a ha
    show d167 x1 (Int32.ofInt 3) (Int32.ofNat n) (Int32.ofInt 1) M k (w167 x1 (Int32.ofInt 3) (Int32.ofNat n) (Int32.ofInt 1) M (Int32.ofInt 0) k) = _
    rw [ih]
    unfold d167
    rw [e3, e4, r1, r3]
    by_cases p : v166 (Int32.ofNat k) x1 M = ((0 : Int32))
    · rw [if_pos p]
    · have ne : ¬ Int32.ofNat (a % 8) = Int32.ofNat n := fun t => by
        have := (zof_l (by omega) (by omega)).mp t
        omega
      rw [if_neg p, if_neg d31_9, if_neg d32_9, if_neg ne]
theorem zq9n_3 (h : zE S M) : ∀ m k, 8 ≤ k → k + m ≤ 16 → q169 x1 (Int32.ofInt 3) M m k = none
  | 0, _, _, _ => rfl
  | m + 1, k, h1, h2 => by
    obtain ⟨g1, g2, g3, g4⟩ := zE_lg h
    have ih := zq9n_3 h m (k + 1) (by omega) (by omega)
    have e : q169 x1 (Int32.ofInt 3) M (m + 1) k = if (v167 x1 (Int32.ofInt 3) (Int32.ofNat k) (Int32.ofInt 1) M).toInt < (Int32.ofInt 3).toInt then q169 x1 (Int32.ofInt 3) M m (k + 1) else some k := if_neg (by decide)
    have e2 : v167 x1 (Int32.ofInt 3) (Int32.ofNat k) (Int32.ofInt 1) M = zwg 31 (Int32.ofInt 0) (Int32.ofInt 0) := by
      unfold v167 y167
      rw [zfl40 g2, zw0_3 h ⟨h1, by omega⟩ _ (Nat.le_refl _)]
    rw [e, e2, if_pos (by decide +kernel)]
    exact ih
theorem zV32_1 (h : zE S M) : V32 x1 (Int32.ofInt 1) S = zoN (q169 x1 (Int32.ofInt 1) M 16 0) := by
  have e : V32 x1 (Int32.ofInt 1) S = Q32 x1 (Int32.ofInt 1) (Int32.ofInt 16) S (Int32.ofInt 16).toInt.toNat 0 := (if_neg (by decide)).trans (if_pos rfl)
  rw [e, show (Int32.ofInt 16).toInt.toNat = 16 by decide]
  exact zQ32_1 h 16 0
theorem zV32_2 (h : zE S M) : V32 x1 (Int32.ofInt 2) S = zoN (q169 x1 (Int32.ofInt 2) M 16 0) := by
  have e : V32 x1 (Int32.ofInt 2) S = Q32 x1 (Int32.ofInt 2) (Int32.ofInt 8) S (Int32.ofInt 8).toInt.toNat 0 := (if_neg (by decide)).trans (if_neg (by decide))
  have e2 : q169 x1 (Int32.ofInt 2) M 16 0 = q169 x1 (Int32.ofInt 2) M 8 0 := by
    have z := zq9a (x1 := x1) (x2 := Int32.ofInt 2) (M := M) 8 8 0
    rw [zq9n_2 h 8 (0 + 8) (by decide) (by decide)] at z
    refine z.trans ?_
    cases q169 x1 (Int32.ofInt 2) M 8 0 <;> rfl
  rw [e, e2, show (Int32.ofInt 8).toInt.toNat = 8 by decide]
  exact zQ32_2 h 8 0
theorem zV32_3 (h : zE S M) : V32 x1 (Int32.ofInt 3) S = zoN (q169 x1 (Int32.ofInt 3) M 16 0) := by
  have e : V32 x1 (Int32.ofInt 3) S = Q32 x1 (Int32.ofInt 3) (Int32.ofInt 8) S (Int32.ofInt 8).toInt.toNat 0 := (if_neg (by decide)).trans (if_neg (by decide))
  have e2 : q169 x1 (Int32.ofInt 3) M 16 0 = q169 x1 (Int32.ofInt 3) M 8 0 := by
    have z := zq9a (x1 := x1) (x2 := Int32.ofInt 3) (M := M) 8 8 0
    rw [zq9n_3 h 8 (0 + 8) (by decide) (by decide)] at z
    refine z.trans ?_
    cases q169 x1 (Int32.ofInt 3) M 8 0 <;> rfl
  rw [e, e2, show (Int32.ofInt 8).toInt.toNat = 8 by decide]
  exact zQ32_3 h 8 0
/-- the smallest, of those that are good -/
def zmnv (u v : Int32) : Int32 := if u = Int32.ofInt (-1) then v else if v.toInt < u.toInt then v else u
def zwmn (G : Nat → Bool) (f : Nat → Int32) : Nat → Int32
  | 0 => Int32.ofInt (-1)
  | k + 1 => if G k = true then zmnv (zwmn G f k) (f k) else zwmn G f k
theorem zmnv_l : (if u = Int32.ofInt (-1) then v else if v < u then v else u) = zmnv u v := by
  unfold zmnv
  by_cases p : u = Int32.ofInt (-1)
  · rw [if_pos p, if_pos p]
  · rw [if_neg p, if_neg p]
    by_cases q : v.toInt < u.toInt
    · rw [if_pos q, if_pos (Int32.lt_iff_toInt_lt.mpr q)]
    · rw [if_neg q, if_neg (fun z => q (Int32.lt_iff_toInt_lt.mp z))]
theorem zmnv_i : zmnv (zmnv u v) v = zmnv u v := by
  have q : zmnv v v = v := by
    unfold zmnv
    split
    · rfl
    · split <;> rfl
  by_cases p : u = Int32.ofInt (-1)
  · rw [show zmnv u v = v from if_pos p]
    exact q
  · by_cases l : v.toInt < u.toInt
    · rw [show zmnv u v = v from (if_neg p).trans (if_pos l)]
      exact q
    · have e : zmnv u v = u := (if_neg p).trans (if_neg l)
      rw [e, e]
theorem zwmn_s {G : Nat → Bool} {f : Nat → Int32} {n : Nat} (hf : ∀ i, i < n → 0 ≤ (f i).toInt) : ∀ k, k ≤ n → (zwmn G f k = Int32.ofInt (-1) ∧ ∀ i, i < k → ¬ G i = true) ∨ (∃ i, i < k ∧ G i = true ∧ zwmn G f k = f i ∧ ∀ j, j < k → G j = true → (f i).toInt ≤ (f j).toInt)
  | 0, _ => Or.inl ⟨rfl, fun i hi => absurd hi (Nat.not_lt_zero _)⟩
  | k + 1, hk => by
    rcases zwmn_s (G := G) hf k (by omega) with ⟨e, z⟩ | ⟨i, hi, gi, e, z⟩
    · by_cases g : G k = true
      · refine Or.inr ⟨k, by omega, g, (if_pos g).trans (by rw [e]; exact if_pos rfl), fun j hj gj => ?_⟩
        by_cases y : j = k
        · rw [y]
          omega
        · exact absurd gj (z j (by omega))
      · refine Or.inl ⟨(if_neg g).trans e, fun i hi => ?_⟩
        by_cases y : i = k
        · rw [y]
          exact g
        · exact z i (by omega)
    · have ne : ¬ f i = Int32.ofInt (-1) := fun t => by
        have y := hf i (by omega)
        rw [t] at y
        exact absurd y (by decide)
      by_cases g : G k = true
      · by_cases l : (f k).toInt < (f i).toInt
        · refine Or.inr ⟨k, by omega, g, (if_pos g).trans (by rw [e]; exact (if_neg ne).trans (if_pos l)), fun j hj gj => ?_⟩
          by_cases y : j = k
          · rw [y]
            omega
          · have := z j (by omega) gj
            omega
        · refine Or.inr ⟨i, by omega, gi, (if_pos g).trans (by rw [e]; exact (if_neg ne).trans (if_neg l)), fun j hj gj => ?_⟩
          by_cases y : j = k
          · rw [y]
            omega
          · exact z j (by omega) gj
      · refine Or.inr ⟨i, by omega, gi, (if_neg g).trans e, fun j hj gj => ?_⟩
        by_cases y : j = k
        · rw [y] at gj
          exact absurd gj g
        · exact z j (by omega) gj
theorem zwmn_eq {G H : Nat → Bool} {f : Nat → Int32} {n : Nat} (hf : ∀ i, i < n → 0 ≤ (f i).toInt) (a : ∀ i, i < n → G i = true → ∃ j, j < n ∧ H j = true ∧ f j = f i) (b : ∀ i, i < n → H i = true → ∃ j, j < n ∧ G j = true ∧ f j = f i) : zwmn G f n = zwmn H f n := by
  rcases zwmn_s (G := G) hf n (Nat.le_refl _) with ⟨e, z⟩ | ⟨i, hi, gi, e, z⟩
  · rcases zwmn_s (G := H) hf n (Nat.le_refl _) with ⟨e2, z2⟩ | ⟨i2, hi2, gi2, e2, z2⟩
    · exact e.trans e2.symm
    · obtain ⟨j, hj, gj, ej⟩ := b i2 hi2 gi2
      exact absurd gj (z j hj)
  · rcases zwmn_s (G := H) hf n (Nat.le_refl _) with ⟨e2, z2⟩ | ⟨i2, hi2, gi2, e2, z2⟩
    · obtain ⟨j, hj, gj, ej⟩ := a i hi gi
      exact absurd gj (z2 j hj)
    · obtain ⟨j, hj, gj, ej⟩ := a i hi gi
      obtain ⟨j2, hj2, gj2, ej2⟩ := b i2 hi2 gi2
      have y1 := z2 j hj gj
      have y2 := z j2 hj2 gj2
      rw [ej] at y1
      rw [ej2] at y2
      rw [e, e2]
      exact Int32.toInt_inj.mp (by omega)
theorem zwmn_cg {G H : Nat → Bool} {f g : Nat → Int32} {n : Nat} (hf : ∀ i, i < n → f i = g i ∧ G i = H i) : ∀ k, k ≤ n → zwmn G f k = zwmn H g k
  | 0, _ => rfl
  | k + 1, hk => by
    obtain ⟨y1, y2⟩ := hf k (by omega)
    show (if G k = true then zmnv (zwmn G f k) (f k) else zwmn G f k) = (if H k = true then zmnv (zwmn H g k) (g k) else zwmn H g k)
    rw [zwmn_cg hf k (by omega), y1, y2]
/-- the cell that is told again, the class's -/
def zad9 (S : zSt) (i : Nat) : Int32 := zgt (S.2 12) (Int32.ofNat i)
def zGc (x1 : Int32) (S : zSt) (i : Nat) : Bool := decide (¬ V37 x1 (Int32.ofNat i) S = ((0 : Int32)) ∧ ¬ V36 i S = ((0 : Int32)))
theorem zW35_9 : ∀ k, W35 x1 S (Int32.ofInt (-1)) k = zwmn (zGc x1 S) (zad9 S) k
  | 0 => rfl
  | k + 1 => by
    show D35 x1 S k (W35 x1 S (Int32.ofInt (-1)) k) = (if zGc x1 S k = true then zmnv (zwmn (zGc x1 S) (zad9 S) k) (zad9 S k) else zwmn (zGc x1 S) (zad9 S) k)
    rw [zW35_9 k]
    obtain ⟨u, hu⟩ : ∃ u, u = zwmn (zGc x1 S) (zad9 S) k := ⟨_, rfl⟩
    rw [← hu]
    unfold D35 zmnv zad9
    by_cases p : V37 x1 (Int32.ofNat k) S = ((0 : Int32))
    · have d : ¬ zGc x1 S k = true := fun z => (of_decide_eq_true z).1 p
      rw [if_pos p, if_neg d]
      split
      · rfl
      · split <;> rfl
    · by_cases q : V36 k S = ((0 : Int32))
      · have d : ¬ zGc x1 S k = true := fun z => (of_decide_eq_true z).2 q
        rw [if_neg p, if_pos q, if_neg d]
        split
        · rfl
        · split <;> rfl
      · have d : zGc x1 S k = true := decide_eq_true ⟨p, q⟩
        rw [if_neg p, if_neg q, if_pos d]
theorem zQ36_9 : ∀ m k, ¬ Q36 x S m k = ((0 : Int32)) ↔ ∃ j, k ≤ j ∧ j < k + m ∧ zgt (S.2 12) (Int32.ofNat j) = zgt (S.2 12) x ∧ zgt (S.2 13) (Int32.ofNat j) = zgt (S.2 13) x
  | 0, k => ⟨fun z => absurd (show Int32.ofInt 0 = ((0 : Int32)) by decide) z, fun ⟨j, h1, h2, _⟩ => absurd h2 (by omega)⟩
  | m + 1, k => by
    have ih := zQ36_9 m (k + 1)
    have e : Q36 x S (m + 1) k = if (zgt (S.2 12) ((Int32.ofNat k))) = (zgt (S.2 12) x) then (if (zgt (S.2 13) ((Int32.ofNat k))) = (zgt (S.2 13) x) then ((Int32.ofInt 1)) else (Q36 x S m (k + 1))) else (Q36 x S m (k + 1)) := rfl
    rw [e]
    have up : (∃ j, k + 1 ≤ j ∧ j < k + 1 + m ∧ zgt (S.2 12) (Int32.ofNat j) = zgt (S.2 12) x ∧ zgt (S.2 13) (Int32.ofNat j) = zgt (S.2 13) x) → ∃ j, k ≤ j ∧ j < k + (m + 1) ∧ zgt (S.2 12) (Int32.ofNat j) = zgt (S.2 12) x ∧ zgt (S.2 13) (Int32.ofNat j) = zgt (S.2 13) x := fun ⟨j, h1, h2, h3⟩ => ⟨j, by omega, by omega, h3⟩
    by_cases p : zgt (S.2 12) (Int32.ofNat k) = zgt (S.2 12) x
    · rw [if_pos p]
      by_cases q : zgt (S.2 13) (Int32.ofNat k) = zgt (S.2 13) x
      · rw [if_pos q]
        exact ⟨fun _ => ⟨k, Nat.le_refl _, by omega, p, q⟩, fun _ => by decide⟩
      · rw [if_neg q]
        refine ⟨fun z => up (ih.mp z), fun ⟨j, h1, h2, h3, h4⟩ => ih.mpr ⟨j, ?_, by omega, h3, h4⟩⟩
        by_cases y : j = k
        · rw [y] at h4
          exact absurd h4 q
        · omega
    · rw [if_neg p]
      refine ⟨fun z => up (ih.mp z), fun ⟨j, h1, h2, h3, h4⟩ => ih.mpr ⟨j, ?_, by omega, h3, h4⟩⟩
      by_cases y : j = k
      · rw [y] at h3
        exact absurd h3 p
      · omega
/-- the reference's -/
def zar9 (M : zRt) (i : Nat) : Int32 := zgt ((M.2.2.1 2).getD (Int32.toNatClampNeg (Int32.ofNat i)) []) (Int32.ofInt 0)
def zbr9 (M : zRt) (i : Nat) : Int32 := zgt ((M.2.2.1 2).getD (Int32.toNatClampNeg (Int32.ofNat i)) []) (Int32.ofInt 1)
def zsa9 (M : zRt) (a b : Nat) : Bool := decide (zar9 M a = zar9 M b ∧ zbr9 M a = zbr9 M b)
def zHr (x1 : Int32) (M : zRt) (a k : Nat) : Bool := decide (¬ v166 (Int32.ofNat a) x1 M = ((0 : Int32))) && (List.range k).any (zsa9 M a)
theorem zw168i9 : ∀ k, w168i x1 a M u k = if zHr x1 M a k = true then zmnv u (zar9 M a) else u
  | 0 => by
    have d : ¬ zHr x1 M a 0 = true := fun z => by
      rw [zHr, Bool.and_eq_true] at z
      exact absurd (show false = true from z.2) Bool.false_ne_true
    rw [if_neg d]
    rfl
  | k + 1 => by
    have ih := zw168i9 k
    show d168i x1 a M k (w168i x1 a M u k) = _
    have es : (List.range (k + 1)).any (zsa9 M a) = ((List.range k).any (zsa9 M a) || zsa9 M a k) := by
      rw [List.range_succ, List.any_append]
      simp only [List.any_cons, List.any_nil, Bool.or_false]
    obtain ⟨w, hw⟩ : ∃ w, w = w168i x1 a M u k := ⟨_, rfl⟩
    rw [← hw] at ih ⊢
    have ed : d168i x1 a M k w = if v166 (Int32.ofNat a) x1 M = ((0 : Int32)) then w else if zar9 M a = zar9 M k then (if zbr9 M a = zbr9 M k then zmnv w (zar9 M a) else w) else w := by
      rw [← zmnv_l]
      rfl
    rw [ed]
    by_cases p : v166 (Int32.ofNat a) x1 M = ((0 : Int32))
    · have d : ∀ k, ¬ zHr x1 M a k = true := fun k z => by
        rw [zHr, Bool.and_eq_true] at z
        exact of_decide_eq_true z.1 p
      rw [if_pos p, if_neg (d _), ih, if_neg (d _)]
    · have dp : decide (¬ v166 (Int32.ofNat a) x1 M = ((0 : Int32))) = true := decide_eq_true p
      rw [if_neg p]
      have ek : zHr x1 M a k = (List.range k).any (zsa9 M a) := by
        rw [zHr, dp, Bool.true_and]
      have ek1 : zHr x1 M a (k + 1) = ((List.range k).any (zsa9 M a) || zsa9 M a k) := by
        rw [zHr, dp, Bool.true_and, es]
      rw [ek] at ih
      rw [ek1]
      by_cases q : zar9 M a = zar9 M k ∧ zbr9 M a = zbr9 M k
      · have t : zsa9 M a k = true := decide_eq_true q
        rw [if_pos q.1, if_pos q.2, t, Bool.or_true, if_pos rfl, ih]
        by_cases y : (List.range k).any (zsa9 M a) = true
        · rw [if_pos y]
          exact zmnv_i
        · rw [if_neg y]
      · have t : zsa9 M a k = false := decide_eq_false q
        rw [t, Bool.or_false, ← ih]
        by_cases r : zar9 M a = zar9 M k
        · rw [if_pos r, if_neg (fun z => q ⟨r, z⟩)]
        · rw [if_neg r]
theorem zw168_9 : ∀ k, w168 x1 M k = zwmn (fun a => zHr x1 M a a) (zar9 M) k
  | 0 => rfl
  | k + 1 => by
    show w168i x1 k M (w168 x1 M k) k = (if zHr x1 M k k = true then zmnv (zwmn (fun a => zHr x1 M a a) (zar9 M) k) (zar9 M k) else zwmn (fun a => zHr x1 M a a) (zar9 M) k)
    rw [zw168i9, zw168_9 k]
theorem zV35_9 (h : zE S M) : V35 x1 S = v168 x1 M := by
  obtain ⟨g1, g2, g3, g4⟩ := zE_lg h
  obtain ⟨n, hn⟩ : ∃ n, n = (M.2.2.1 2).length := ⟨_, rfl⟩
  have hs : (S.1 11).toInt.toNat = n := by
    rw [g1, zfl40 g2, hn]
  have ev : ∀ i, i < n → zad9 S i = zar9 M i ∧ zgt (S.2 13) (Int32.ofNat i) = zbr9 M i ∧ 0 ≤ (zad9 S i).toInt := fun i hi => by
    obtain ⟨a, b, ha, e1, e2, e3, e4⟩ := zle9 h (k := i) (by omega)
    refine ⟨e1.trans e3.symm, e2.trans e4.symm, ?_⟩
    rw [show zad9 S i = Int32.ofNat a from e1, zof_0 (by omega)]
    omega
  have sm : ∀ i j, i < n → j < n → zad9 S i = zad9 S j → zgt (S.2 13) (Int32.ofNat i) = zgt (S.2 13) (Int32.ofNat j) → V37 x1 (Int32.ofNat i) S = V37 x1 (Int32.ofNat j) S := fun i j _ _ e1 e2 => by
    have e1' : zgt (S.2 12) (Int32.ofNat i) = zgt (S.2 12) (Int32.ofNat j) := e1
    unfold V37
    rw [e1', e2]
  have eL : V35 x1 S = zwmn (zGc x1 S) (zad9 S) n := by
    unfold V35 Y35
    rw [hs]
    exact zW35_9 n
  have eR : v168 x1 M = zwmn (fun a => zHr x1 M a a) (zad9 S) n := by
    unfold v168
    rw [← hn, zw168_9 n]
    exact zwmn_cg (fun i hi => ⟨(ev i hi).1.symm, rfl⟩) n (Nat.le_refl _)
  rw [eL, eR]
  refine zwmn_eq (fun i hi => (ev i hi).2.2) (fun i hi g => ?_) (fun j hj g => ?_)
  · obtain ⟨c1, c2⟩ := of_decide_eq_true g
    have c3 : ¬ Q36 (Int32.ofNat i) S ((S.1 11).toInt.toNat - (i + 1)) (i + 1) = ((0 : Int32)) := c2
    rw [hs] at c3
    obtain ⟨j, h1, h2, h3, h4⟩ := (zQ36_9 _ _).mp c3
    have hj : j < n := by omega
    refine ⟨j, hj, ?_, h3⟩
    show zHr x1 M j j = true
    rw [zHr, Bool.and_eq_true]
    refine ⟨decide_eq_true ?_, List.any_eq_true.mpr ⟨i, List.mem_range.mpr (by omega), decide_eq_true ⟨?_, ?_⟩⟩⟩
    · rw [← z37_9 h (by omega), sm j i hj hi h3 h4]
      exact c1
    · rw [← (ev j hj).1, ← (ev i hi).1]
      exact h3
    · rw [← (ev j hj).2.1, ← (ev i hi).2.1]
      exact h4
  · have g : zHr x1 M j j = true := g
    rw [zHr, Bool.and_eq_true] at g
    have c1 := of_decide_eq_true g.1
    obtain ⟨i, hi, g2⟩ := List.any_eq_true.mp g.2
    have hi := List.mem_range.mp hi
    have c2 := of_decide_eq_true g2
    have hin : i < n := by omega
    have a1 : zad9 S j = zad9 S i := by
      rw [(ev j hj).1, (ev i hin).1]
      exact c2.1
    have a2 : zgt (S.2 13) (Int32.ofNat j) = zgt (S.2 13) (Int32.ofNat i) := by
      rw [(ev j hj).2.1, (ev i hin).2.1]
      exact c2.2
    refine ⟨i, hin, decide_eq_true ⟨?_, ?_⟩, a1.symm⟩
    · rw [← sm j i hj hin a1 a2, z37_9 h (by omega)]
      exact c1
    · show ¬ Q36 (Int32.ofNat i) S ((S.1 11).toInt.toNat - (i + 1)) (i + 1) = ((0 : Int32))
      rw [hs]
      exact (zQ36_9 _ _).mpr ⟨j, by omega, by omega, a1, a2⟩
theorem zst73 {A : Option Nat} {K v V : Int32} {T : Option Value ⊕ Nat} (hT : T = .inl (some (.int v))) (hj : ∀ j, A = some j → j < 16) (h1 : ∀ k, A = some k → V = if x2 = ((0 : Int32)) then K else Int32.ofNat k) (h2 : A = none → V = v) : (if zoN A = Int32.ofInt (-1) then T else (if x2 = ((0 : Int32)) then (.inl (some (.int K))) else (.inl (some (.int (zoN A)))))) = Sum.inl (some (Value.int V)) := by
  cases A with
  | none =>
    rw [h2 rfl]
    exact (if_pos rfl).trans hT
  | some j =>
    have l := hj j rfl
    have ne : ¬ zoN (some j) = Int32.ofInt (-1) := fun t => by
      have t := congrArg Int32.toInt t
      rw [show zoN (some j) = Int32.ofNat j from rfl, zof_0 (by omega), show (Int32.ofInt (-1)).toInt = -1 by decide] at t
      omega
    refine (if_neg ne).trans ?_
    rw [h1 j rfl]
    by_cases p : x2 = ((0 : Int32))
    · rw [if_pos p, if_pos p]
    · rw [if_neg p, if_neg p]
      rfl
theorem zM_73 (h : zE S M) : zE (F73 x1 x2 S) (r170 x1 x2 M) ∧ zAn (R73 x1 x2 S) (v170 x1 x2 M) ((r170 x1 x2 M).1 0) kc_207 := by
  have h0 : zE S (zmS M 0 (Int32.ofInt 0)) := zE_0 h
  have z0 : (Int32.ofInt 0).toInt = 0 := by decide
  have z1 : (Int32.ofInt 1).toInt = 1 := by decide
  rw [Fe_73]
  by_cases r1 : 0 ≤ x1.toInt ∧ x1.toInt ≤ 1
  · have c := C83_ok (S := S).mpr r1
    have n1 : ¬ v112 x1 (Int32.ofInt 0) (Int32.ofInt 1) (zmS M 0 (Int32.ofInt 0)) = 0 := fun z => v112_1.mp z (by rw [z0, z1]; exact r1)
    have hr : r170 x1 x2 M = zmS M 0 (Int32.ofInt 0) := if_neg n1
    have hv : v170 x1 x2 M = u169_1 x1 x2 (zmS M 0 (Int32.ofInt 0)) := if_neg n1
    have key : R73 x1 x2 S = .inl (some (.int (u169_1 x1 x2 (zmS M 0 (Int32.ofInt 0))))) := by
      obtain ⟨K, hK⟩ : ∃ K, K = zmS M 0 (Int32.ofInt 0) := ⟨_, rfl⟩
      rw [← hK] at h0 ⊢
      have q4 : V32 x1 (Int32.ofInt 4) S = v168 x1 K := (if_pos rfl).trans (zV35_9 h0)
      have lt : ∀ b j, q169 x1 b K 16 0 = some j → j < 16 := fun b j e => by
        have := zq9lt 16 0 j e
        omega
      have last : (if v168 x1 K = (Int32.ofInt (-1)) then (if x2 = ((0 : Int32)) then (.inl (some (.int (Int32.ofInt 0)))) else (.inl (some (.int (Int32.ofInt (-1)))))) else (if x2 = ((0 : Int32)) then (.inl (some (.int (Int32.ofInt 4)))) else (.inl (some (.int (v168 x1 K)))))) = (Sum.inl (some (.int (u169_4 x1 x2 K))) : Option Value ⊕ Nat) := by
        unfold u169_4
        by_cases p : x2 = ((0 : Int32))
        · by_cases q : v168 x1 K = Int32.ofInt (-1)
          · rw [if_pos p, if_pos p, if_pos p, if_pos q, if_pos q]
          · rw [if_pos p, if_pos p, if_pos p, if_neg q, if_neg q]
        · by_cases q : v168 x1 K = Int32.ofInt (-1)
          · rw [if_neg p, if_neg p, if_neg p, if_pos q, q]
          · rw [if_neg p, if_neg p, if_neg p, if_neg q]
      have eR : R73 x1 x2 S = _ := if_pos c
      rw [eR, zV32_1 h0, zV32_2 h0, zV32_3 h0, q4]
      exact zst73 (V := u169_1 x1 x2 K) (v := u169_2 x1 x2 K) (zst73 (V := u169_2 x1 x2 K) (v := u169_3 x1 x2 K) (zst73 (V := u169_3 x1 x2 K) (v := u169_4 x1 x2 K) last (lt _) (fun k e => by unfold u169_3; rw [e]) (fun e => by unfold u169_3; rw [e])) (lt _) (fun k e => by unfold u169_2; rw [e]) (fun e => by unfold u169_2; rw [e])) (lt _) (fun k e => by unfold u169_1; rw [e]) (fun e => by unfold u169_1; rw [e])
    rw [hr, hv]
    exact ⟨h0, Or.inl ⟨_, key, rfl, zM00⟩⟩
  · have nc : ¬ C83 x1 S = true := fun z => r1 (C83_ok.mp z)
    have n1 : v112 x1 (Int32.ofInt 0) (Int32.ofInt 1) (zmS M 0 (Int32.ofInt 0)) = 0 := v112_1.mpr (by rw [z0, z1]; exact r1)
    have hR : R73 x1 x2 S = .inr 1 := if_neg nc
    have hr : r170 x1 x2 M = r111 (Int32.ofInt 1) (zmS M 0 (Int32.ofInt 0)) := if_pos n1
    rw [hR, hr]
    exact ⟨zE_0 h0, Or.inr ⟨1, rfl, show Int32.ofInt 1 = kc_207 1 by decide⟩⟩
theorem zZ_73 (h : zZ S M) : zZ (F73 x1 x2 S) (r170 x1 x2 M) := by
  have z := (zM_73 (x1 := x1) (x2 := x2) h.2.2).1
  rw [Fe_73] at z ⊢
  exact ⟨zA0_fr (W := []) (V := []) fm_rf gr_170 (by decide) h.1, zSp_fr (W := []) (V := []) fm_rf gr_170 (by decide) h.2.1, z⟩
theorem zC9_73 (h : zZ S M) : zAn (R73 x1 x2 S) (v170 x1 x2 M) ((r170 x1 x2 M).1 0) kc_207 := (zM_73 h.2.2).2
end ZL3Y
