def zWyd (q : Nat) (R : Option Value ⊕ Nat) (S' : zSt) (M : zRt) (kc : Nat → Int32) : Option Value → zH → Prop := fun v h => ∃ (k : Int32) (X' : zXt) (ws : List Value), v = some (.int k) ∧ h = zy S' M X' ∧ zUX (q, 6, ws) X' M.2.2 ∧ zOu ws ∧ ((∃ x : UInt64, R = .inl (some (.double x)) ∧ k = 0 ∧ ws[1]? = some (.double x)) ∨ ∃ E, R = .inr E ∧ k = kc E)
theorem zOu_1 {vs : List Value} {b : UInt64} (h : zOu vs) : zOu (vs.set 1 (.double b)) ∧ (vs.set 1 (.double b))[1]? = some (.double b) ∧ 1 < vs.length := by
  obtain ⟨x, b2, c, rfl⟩ := h
  exact ⟨⟨x, _, c, rfl⟩, rfl, by show 1 < 3; decide⟩
section ZQ2
variable {xs : List Int32} {N : Nat} {S : zSt} {M : zRt} {X : zXt} {q : Nat} {vs : List Value} {nc ns : Nat}
def zrP_75 (r : Option Value ⊕ Nat) : Prop := (∃ x : UInt64, r = .inl (some (.double x))) ∨ r = .inr 1
theorem rs_75 {x1 : Int32} : (∃ x : UInt64, R75 x1 S = .inl (some (.double x))) ∨ R75 x1 S = .inr 1 := by
  show zrP_75 (R75 x1 S)
  unfold R75
  repeat' first | refine zifP (P := zrP_75) ?_ ?_ | exact Or.inl ⟨_, rfl⟩ | exact Or.inr (rfl)
abbrev kc_209 : Nat → Int32 := fun E => if E = 1 then Int32.ofInt 1 else 0
theorem Fe_75 {x1 : Int32} : F75 x1 S = S := by
  unfold F75
  repeat' first | refine zifP (P := fun r => r = S) ?_ ?_ | exact rfl
theorem pw_209 {x1 : Int32} (HL : zaL S.2) (hX : zUX (q, 6, vs) X M.2.2) (ho : zOu vs) : zpM xs N 209 [.ref 0, .int x1, .ref q] (zy S M X) nc ns (zNq (zWyd q (R75 x1 S) (F75 x1 S) M kc_209)) := by
  intro L0 e
  cases e
  refine zpE_run 3 (L' := [some (.ref 0), some (.int x1), some (.ref q), none]) (st' := [.int x1, .ref 0, .ref q]) rfl ?_
  refine zpE_call rfl rfl (e_75 (S := S) (x1 := x1) HL) (fun v h1 nc1 ns1 q8 => ?_) (fun E h1 nc1 ns1 q8 => ?_)
  · obtain ⟨q8, q9⟩ := q8
    cases q9
    rcases rs_75 (S := S) (x1 := x1) with ⟨x, hx⟩ | hx
    · rw [hx] at q8
      cases q8
      obtain ⟨b1, b2, b3⟩ := zOu_1 (b := x) ho
      refine zpE_putb (h' := zy (F75 x1 S) M (X.1, X.2.1, X.2.2.set (q - 73) (6, vs.set 1 (.double x)))) rfl (zUX_q (S := F75 x1 S) (M := M) hX) rfl (zy_out (M := M) hX.2.2.2.1) (fun _ => ?_)
      refine zpE_gen (fun nc ns => ?_)
      exact zpE_run 2 rfl (zpE_end rfl rfl (fun v hv => by
        cases hv
        exact ⟨_, _, _, rfl, rfl, zUX_out hX, b1, Or.inl ⟨x, hx, by decide, b2⟩⟩))
    · rw [hx] at q8
      cases q8
  · obtain ⟨q8, q9⟩ := q8
    cases q9
    rcases rs_75 (S := S) (x1 := x1) with ⟨x, hx⟩ | hx
    · rw [hx] at q8
      cases q8
    · rw [hx] at q8
      cases q8
      refine ⟨fun z => absurd z (by decide), fun pc2 L2 e9 => ?_⟩
      obtain ⟨L3, e3⟩ : ∃ L3, zcatch 209 3 1 [some (.ref 0), some (.int x1), some (.ref q), none] = some (13, L3) := ⟨_, rfl⟩
      rw [show zcatch 209 3 1 _ = some (13, L3) from e3] at e9
      cases e9
      exact zpE_run 1 rfl (zpE_end rfl rfl (fun v hv => by
        cases hv
        exact ⟨_, _, _, rfl, rfl, hX, ho, Or.inr ⟨1, hx, by decide⟩⟩))
end ZQ2
/-! health: of both. -/
section ZL3X
variable {S S' : zSt} {M M' : zRt} {u v w x x1 x2 x3 : Int32} {n a b l k r : Nat}
theorem zE_75l (h : zE S M) (ha : a < 2) : ∀ k, k ≤ 64 → q173 x M 64 (64 * a) (Int32.ofInt 0) = q173 x M (64 - k) (64 * a + k) (W75 (Int32.ofNat a) S (Int32.ofInt 0) k)
  | 0, _ => rfl
  | k + 1, hk => by
    have ih := zE_75l h ha k (by omega)
    rw [ih]
    have eW : W75 (Int32.ofNat a) S (Int32.ofInt 0) (k + 1) = D75 (Int32.ofNat a) S k (W75 (Int32.ofNat a) S (Int32.ofInt 0) k) := rfl
    rw [eW]
    obtain ⟨U, hU⟩ : ∃ U, U = W75 (Int32.ofNat a) S (Int32.ofInt 0) k := ⟨_, rfl⟩
    rw [← hU]
    obtain ⟨m, hm⟩ : ∃ m, 64 - k = m + 1 := ⟨63 - k, by omega⟩
    rw [hm, show 64 - (k + 1) = m by omega]
    have en : Int32.ofNat a * Int32.ofInt 64 + Int32.ofNat k = Int32.ofNat (64 * a + k) := by
      rw [show Int32.ofInt 64 = Int32.ofNat 64 from rfl, ← Int32.ofNat_mul, ← Int32.ofNat_add, Nat.mul_comm]
    have hn : 64 * a + k < 128 := by omega
    have e24 := zE_17 h
    show (if zkd M.2.2.2 (v125 (Int32.ofNat (64 * a + k)) M) = ((0 : Int32)) then (if zgt (M.2.1 24) (Int32.ofNat (64 * a + k)) = ((0 : Int32)) then q173 x M m (64 * a + k + 1) (U + Int32.ofInt 1) else q173 x M m (64 * a + k + 1) (U + Int32.ofInt 0)) else q173 x M m (64 * a + k + 1) (U + Int32.ofInt 0)) = q173 x M m (64 * a + (k + 1)) (D75 (Int32.ofNat a) S k U)
    unfold D75
    rw [en, zE_wd h hn, e24, zad0, show 64 * a + (k + 1) = 64 * a + k + 1 by omega]
    by_cases p : zgt (S.2 17) (Int32.ofNat (64 * a + k)) = 0
    · rw [if_pos (V95_ok.mpr p), if_pos p]
      by_cases q : zkd M.2.2.2 (v125 (Int32.ofNat (64 * a + k)) M) = 0
      · rw [if_pos q, if_pos ((zE_cl h).mpr q), if_neg (by decide)]
      · rw [if_neg q, if_neg (fun z => q ((zE_cl h).mp z)), if_pos rfl]
    · rw [if_neg (fun z => p (V95_ok.mp z)), if_neg p]
      by_cases q : zkd M.2.2.2 (v125 (Int32.ofNat (64 * a + k)) M) = 0
      · rw [if_pos q]
      · rw [if_neg q]
/-- one and the same answer, a double, or one and the same exception -/
def zAfl (R : Option Value ⊕ Nat) (v : UInt64) (t : Int32) (kc : Nat → Int32) : Prop := (∃ x, R = .inl (some (.double x)) ∧ v = x ∧ t = 0) ∨ (∃ E, R = .inr E ∧ t = kc E)
theorem zM_75 (h : zE S M) : zE (F75 x1 S) (r174 x1 M) ∧ zAfl (R75 x1 S) (v174 x1 M) ((r174 x1 M).1 0) kc_209 := by
  have h0 : zE S (zmS M 0 (Int32.ofInt 0)) := zE_0 h
  have z0 : (Int32.ofInt 0).toInt = 0 := by decide
  have z1 : (Int32.ofInt 1).toInt = 1 := by decide
  rw [Fe_75]
  by_cases r1 : 0 ≤ x1.toInt ∧ x1.toInt ≤ 1
  · have c := C83_ok (S := S).mpr r1
    have n1 : ¬ v112 x1 (Int32.ofInt 0) (Int32.ofInt 1) (zmS M 0 (Int32.ofInt 0)) = 0 := fun z => v112_1.mp z (by rw [z0, z1]; exact r1)
    have hr : r174 x1 M = zmS M 0 (Int32.ofInt 0) := if_neg n1
    have hv : v174 x1 M = v173 x1 (zmS M 0 (Int32.ofInt 0)) := if_neg n1
    have key : R75 x1 S = .inl (some (.double (v173 x1 (zmS M 0 (Int32.ofInt 0))))) := by
      obtain ⟨K, hK⟩ : ∃ K, K = zmS M 0 (Int32.ofInt 0) := ⟨_, rfl⟩
      rw [← hK] at h0 ⊢
      obtain ⟨a, rfl, ha⟩ := znat r1.1
      have e64 : (Int32.ofInt 64).toInt.toNat = 64 := by decide
      have e2 : (Int32.ofInt 64 * Int32.ofNat a).toInt.toNat = 64 * a := by
        rw [show Int32.ofInt 64 = Int32.ofNat 64 from rfl, ← Int32.ofNat_mul, zof_0 (by omega)]
        omega
      have eR : R75 (Int32.ofNat a) S = .inl (some (.double (Y75 (Int32.ofNat a) S (W75 (Int32.ofNat a) S (Int32.ofInt 0) (Int32.ofInt 64).toInt.toNat)))) := if_pos c
      unfold v173
      rw [eR, e64, e2, zE_75l h0 (by omega) 64 (Nat.le_refl _)]
      rfl
    rw [hr, hv]
    exact ⟨h0, Or.inl ⟨_, key, rfl, zM00⟩⟩
  · have nc : ¬ C83 x1 S = true := fun z => r1 (C83_ok.mp z)
    have n1 : v112 x1 (Int32.ofInt 0) (Int32.ofInt 1) (zmS M 0 (Int32.ofInt 0)) = 0 := v112_1.mpr (by rw [z0, z1]; exact r1)
    have hR : R75 x1 S = .inr 1 := if_neg nc
    have hr : r174 x1 M = r111 (Int32.ofInt 1) (zmS M 0 (Int32.ofInt 0)) := if_pos n1
    rw [hR, hr]
    exact ⟨zE_0 h0, Or.inr ⟨1, rfl, show Int32.ofInt 1 = kc_209 1 by decide⟩⟩
theorem zZ_75 (h : zZ S M) : zZ (F75 x1 S) (r174 x1 M) := by
  have z := (zM_75 (x1 := x1) h.2.2).1
  rw [Fe_75] at z ⊢
  exact ⟨zA0_fr (W := []) (V := []) fm_rf gr_174 (by decide) h.1, zSp_fr (W := []) (V := []) fm_rf gr_174 (by decide) h.2.1, z⟩
theorem zC9_75 (h : zZ S M) : zAfl (R75 x1 S) (v174 x1 M) ((r174 x1 M).1 0) kc_209 := (zM_75 h.2.2).2
end ZL3X
