/-! The class's methods, word for word. Written by wip/v3/gencls.py. -/
abbrev zSt : Type := (Nat → Int32) × (Nat → List Int32)
abbrev zsS (S : zSt) (k : Nat) (v : Int32) : zSt := (zup S.1 k v, S.2)
abbrev zsR (S : zSt) (k : Nat) (j v : Int32) : zSt := (S.1, zup S.2 k (zst (S.2 k) j v))
abbrev zsF (S : zSt) (k : Nat) (v : Int32) : zSt := (S.1, zup S.2 k (List.replicate (S.2 k).length v))
abbrev zrmd (x y : Int32) : Int32 := x - x / y * y
abbrev zqtd (x y : Int32) : Int32 := x / y
def zOq (r : Option Value ⊕ Nat) (h : zH) : zO → Prop := fun o => o.1 = r ∧ o.2.1 = h
set_option maxRecDepth 20000
section ZOQ
variable {T : zH} {nc ns : Nat} {r : Option Value ⊕ Nat} {S' F : zSt} {V v : Int32} {h : zH}
theorem zOq_g {R : Option Value ⊕ Nat} (e1 : R = r) (e : F = S') : zOq R (zx F.1 F.2 T) (r, zx S'.1 S'.2 T, nc, ns) := by
  subst e
  subst e1
  exact ⟨rfl, rfl⟩
theorem zOq_f (e : F = S') : zOq r (zx F.1 F.2 T) (r, zx S'.1 S'.2 T, nc, ns) := by
  subst e
  exact ⟨rfl, rfl⟩
theorem zOq_v (e : V = v) : zOq (.inl (some (.int V))) h (.inl (some (.int v)), h, nc, ns) := by
  subst e
  exact ⟨rfl, rfl⟩
theorem zOq_w (e1 : V = v) (e : F = S') : zOq (.inl (some (.int V))) (zx F.1 F.2 T) (.inl (some (.int v)), zx S'.1 S'.2 T, nc, ns) := by
  subst e
  subst e1
  exact ⟨rfl, rfl⟩
end ZOQ
section ZCA
variable {xs : List Int32} {N : Nat} {S : zSt} {T : zH} {nc ns : Nat}
theorem ln_S {k : Nat} {v : Int32} (h : zaL S.2) : zaL (zsS S k v).2 := h
theorem ln_R {k : Nat} {j v : Int32} (h : zaL S.2) : zaL (zsR S k j v).2 := by
  intro i
  show (if i = k then _ else S.2 i).length < _
  split
  · rw [zst_len]
    exact h k
  · exact h i
theorem ln_F {k : Nat} {v : Int32} (h : zaL S.2) : zaL (zsF S k v).2 := by
  intro i
  show (if i = k then _ else S.2 i).length < _
  split
  · rw [List.length_replicate]
    exact h k
  · exact h i
end ZCA
/-- what stays: scalars but W, rows but V, all lengths -/
def zfrm (W V : List Nat) (A B : zSt) : Prop := (∀ j, j ∉ W → A.1 j = B.1 j) ∧ (∀ j, j ∉ V → A.2 j = B.2 j) ∧ ∀ j, (A.2 j).length = (B.2 j).length
section ZFM
variable {A A' B C : zSt} {W V W1 V1 : List Nat} {k : Nat} {j v : Int32}
theorem fm_rf : zfrm W V A A := ⟨fun _ _ => rfl, fun _ _ => rfl, fun _ => rfl⟩
theorem fm_tr (h1 : zfrm W V A B) (h2 : zfrm W V B C) : zfrm W V A C := ⟨fun j hj => (h1.1 j hj).trans (h2.1 j hj), fun j hj => (h1.2.1 j hj).trans (h2.2.1 j hj), fun j => (h1.2.2 j).trans (h2.2.2 j)⟩
theorem fm_mo (h : zfrm W1 V1 A B) (hw : ∀ j ∈ W1, j ∈ W) (hv : ∀ j ∈ V1, j ∈ V) : zfrm W V A B := ⟨fun j hj => h.1 j (fun z => hj (hw j z)), fun j hj => h.2.1 j (fun z => hj (hv j z)), h.2.2⟩
theorem fm_c (h1 : zfrm W1 V1 A B) (h2 : zfrm W V B C) (hw : ∀ j ∈ W1, j ∈ W) (hv : ∀ j ∈ V1, j ∈ V) : zfrm W V A C := fm_tr (fm_mo h1 hw hv) h2
theorem fm_S : zfrm [k] [] (zsS A k v) A := ⟨fun j hj => if_neg (fun z => hj (List.mem_singleton.mpr z)), fun _ _ => rfl, fun _ => rfl⟩
theorem fm_R : zfrm [] [k] (zsR A k j v) A := by
  refine ⟨fun _ _ => rfl, fun i hi => if_neg (fun z => hi (List.mem_singleton.mpr z)), fun i => ?_⟩
  show (if i = k then _ else A.2 i).length = _
  split
  · next z =>
    rw [zst_len, z]
  · rfl
theorem fm_F : zfrm [] [k] (zsF A k v) A := by
  refine ⟨fun _ _ => rfl, fun i hi => if_neg (fun z => hi (List.mem_singleton.mpr z)), fun i => ?_⟩
  show (if i = k then _ else A.2 i).length = _
  split
  · next z =>
    rw [List.length_replicate, z]
  · rfl
theorem fm_ite {c : Prop} [Decidable c] (h1 : zfrm W V A C) (h2 : zfrm W V B C) : zfrm W V (if c then A else B) C := by
  split
  · exact h1
  · exact h2
theorem fm_itg {c : Prop} [Decidable c] {p q : (Option Value ⊕ Nat) × zSt} (h1 : zfrm W V p.2 C) (h2 : zfrm W V q.2 C) : zfrm W V (if c then p else q).2 C := by
  split
  · exact h1
  · exact h2
theorem fm_itp {α : Type} (f : α → zSt) {c : Prop} [Decidable c] {p q : α} (h1 : zfrm W V (f p) C) (h2 : zfrm W V (f q) C) : zfrm W V (f (if c then p else q)) C := by
  split
  · exact h1
  · exact h2
theorem fm_L (h : zfrm W V A B) (hl : zaL B.2) : zaL A.2 := fun k => by
  rw [h.2.2 k]
  exact hl k
end ZFM
section ZCA
variable {xs : List Int32} {N : Nat} {S : zSt} {T : zH} {nc ns : Nat}
theorem zlp_out {k : Nat} {b : Int32} (h : ¬ (Int32.ofNat k).toInt < b.toInt) (hk : k ≤ b.toInt.toNat) : k = b.toInt.toNat := by
  have := Int32.toInt_lt b
  rw [zofI (by omega)] at h
  omega
theorem zlp_in {k : Nat} {b : Int32} (h : (Int32.ofNat k).toInt < b.toInt) (hk : k ≤ b.toInt.toNat) : k + 1 ≤ b.toInt.toNat := by
  have := Int32.toInt_lt b
  rw [zofI (by omega)] at h
  omega
end ZCA
section ZCB
variable {xs : List Int32} {N D y pc nx k yy m c : Nat} {L : zL} {st : List Value} {h : zH} {nc ns : Nat} {P : zO → Prop}
theorem zpE_irem {x z : Int32} {r : List Value} (h1 : zat (zmc y) pc = some (.irem, nx, k, yy, m, c)) (g : ¬ z = 0 → zpE xs N y nx L (.int (zrmd x z) :: r) h nc ns P) : zpE xs N y pc L (.int z :: .int x :: r) h nc ns P := by
  have en : zstep zcf xs pc .irem nx k yy m c L (.int z :: .int x :: r) h = if z = 0 then none else zgo nx L (.int (x - x / z * z) :: r) h := rfl
  by_cases hz : z = 0
  · refine zpE_le (Nat.le_succ _) (zpE_st1 h1 (fun pc' L' st' h' dc ds e => ?_) (fun r9 e => ?_)) <;> (rw [en, if_pos hz] at e; cases e)
  · exact zpE_step (dc := 0) (ds := 0) h1 (by rw [en, if_neg hz]; rfl) (g hz)
theorem zpE_idiv {x z : Int32} {r : List Value} (h1 : zat (zmc y) pc = some (.idiv, nx, k, yy, m, c)) (g : ¬ z = 0 → zpE xs N y nx L (.int (zqtd x z) :: r) h nc ns P) : zpE xs N y pc L (.int z :: .int x :: r) h nc ns P := by
  have en : zstep zcf xs pc .idiv nx k yy m c L (.int z :: .int x :: r) h = if z = 0 then none else zgo nx L (.int (x / z) :: r) h := rfl
  by_cases hz : z = 0
  · refine zpE_le (Nat.le_succ _) (zpE_st1 h1 (fun pc' L' st' h' dc ds e => ?_) (fun r9 e => ?_)) <;> (rw [en, if_pos hz] at e; cases e)
  · exact zpE_step (dc := 0) (ds := 0) h1 (by rw [en, if_neg hz]; rfl) (g hz)
/-- a store into a field: that its kind fits comes for nothing -/
theorem zpE_putb {a kd t : Nat} {vs : List Value} {v : Value} {r : List Value} {j : Nat} {h' : zH} (h1 : zat (zmc y) pc = some (.putfield j, nx, k, yy, m, c)) (ha : h[a]? = some (t, vs)) (hf : (zcf t)[k]? = some (yy, kd)) (he : h.set a (t, vs.set k v) = h') (g : zfdk kd v = true → zpE xs N y nx L r h' nc ns P) : zpE xs N y pc L (v :: .ref a :: r) h nc ns P := by
  have en : zstep zcf xs pc (.putfield j) nx k yy m c L (v :: .ref a :: r) h = if zfdk kd v = true then (if k < vs.length then zgo nx L r h' else none) else none := by
    show zput zcf yy k nx L (v :: .ref a :: r) h = _
    unfold zput
    dsimp only
    rw [ha]
    dsimp only
    rw [hf]
    dsimp only
    rw [if_pos rfl, he]
  by_cases hz : zfdk kd v = true
  · by_cases hk : k < vs.length
    · exact zpE_step (dc := 0) (ds := 0) h1 (by rw [en, if_pos hz, if_pos hk]; rfl) (g hz)
    · refine zpE_le (Nat.le_succ _) (zpE_st1 h1 (fun pc' L' st' h' dc ds e => ?_) (fun r9 e => ?_)) <;> (rw [en, if_pos hz, if_neg hk] at e; cases e)
  · refine zpE_le (Nat.le_succ _) (zpE_st1 h1 (fun pc' L' st' h' dc ds e => ?_) (fun r9 e => ?_)) <;> (rw [en, if_neg hz] at e; cases e)
end ZCB
section ZCA
variable {xs : List Int32} {N : Nat} {S : zSt} {T : zH} {nc ns : Nat}
/-- the sum of a row -/
def zsum (l : List Int32) : Int32 := l.foldl (· + ·) (Int32.ofInt 0)
theorem l_28p (k q r0 : Nat) {s : Nat → Int32} {a : Nat → List Int32} (hr : (zx s a T)[r0]? = some (2, [.ref q])) (hq : (zx s a T)[q]? = some (zar (a k))) (hL : zaL a) : ∀ (N i : Nat), i ≤ (a k).length → zpE xs N 28 4 [some (.ref r0), some (.int (((a k).take i).foldl (· + ·) (Int32.ofInt 0))), some (.int (Int32.ofNat i))] [] (zx s a T) nc ns (fun o => o = (.inl (some (.int (zsum (a k)))), zx s a T, nc, ns))
  | 0, _, _ => zpE_0
  | N + 1, i, hi => by
    have hl := hL k
    refine zpE_run1 1 rfl ?_
    refine zpE_get rfl hr rfl rfl ?_
    refine zpE_alen rfl hq (by decide) ?_
    rw [List.length_map]
    refine zpE_icmp rfl (fun q9 => ?_) (fun q9 => ?_)
    · have z := zF_ge_t q9
      rw [zofI (by omega), zofI (by omega)] at z
      obtain rfl : i = (a k).length := by omega
      refine zpE_run 1 rfl ?_
      rw [List.take_length]
      exact zpE_end rfl rfl rfl
    · have z := zF_ge_f q9
      rw [zofI (by omega), zofI (by omega)] at z
      have hi9 : i < (a k).length := by omega
      have G := l_28p k q r0 hr hq hL N (i + 1) (by omega)
      rw [← zof1, List.take_succ_eq_append_getElem hi9, List.foldl_append] at G
      refine zpE_run 2 rfl ?_
      refine zpE_get rfl hr rfl rfl ?_
      refine zpE_run 1 rfl ?_
      refine zpE_ald rfl hq (fun v n0 hv => ?_)
      rw [zcl_of (by omega), List.getElem?_eq_getElem hi9] at hv
      cases hv
      exact zpE_run 4 rfl G
theorem p_28 (k q r0 : Nat) {s : Nat → Int32} {a : Nat → List Int32} (hr : (zx s a T)[r0]? = some (2, [.ref q])) (hq : (zx s a T)[q]? = some (zar (a k))) (hL : zaL a) : zpM xs N 28 [.ref r0] (zx s a T) nc ns (fun o => o = (.inl (some (.int (zsum (a k)))), zx s a T, nc, ns)) := by
  intro L0 e
  cases e
  exact zpE_run 4 rfl (l_28p k q r0 hr hq hL N 0 (Nat.zero_le _))
def V5  (S : zSt) : Int32 := ((Int32.ofInt 1) <<< ((S.1 2) &&& 31))
theorem e_5 (HL : zaL S.2) : zpM xs N 5 [.ref 1] (zx S.1 S.2 T) nc ns (zOq (.inl (some (.int (V5 S)))) (zx S.1 S.2 T)) := by
  intro L0 e
  cases e
  refine zpE_run 4 (L' := [some (.ref 1)]) (st' := [.int ((Int32.ofInt 1) <<< ((S.1 2) &&& 31))]) rfl ?_
  exact zpE_end rfl rfl (zOq_v (by unfold V5; (first | done | rfl)))
def V7 (x1 : Int32) (S : zSt) : Int32 := if x1.toInt < ((0 : Int32)).toInt then ((Int32.ofInt 0)) else (if x1.toInt < (S.1 2).toInt then ((Int32.ofInt 1)) else ((Int32.ofInt 0)))
theorem e_7 {x1 : Int32} (HL : zaL S.2) : zpM xs N 7 [.ref 1, .int x1] (zx S.1 S.2 T) nc ns (zOq (.inl (some (.int (V7 x1 S)))) (zx S.1 S.2 T)) := by
  intro L0 e
  cases e
  refine zpE_run 1 (L' := [some (.ref 1), some (.int x1)]) (st' := [.int x1]) rfl ?_
  refine zpE_if rfl (fun q1 => ?_) (fun q1 => ?_)
  · have z1_0 := zF_lt_t q1
    refine zpE_run 1 (L' := [some (.ref 1), some (.int x1)]) (st' := [.int (Int32.ofInt 0)]) rfl ?_
    exact zpE_end rfl rfl (zOq_v (by unfold V7; rw [if_pos z1_0]))
  · have z1_0 := Int.not_lt.mpr (zF_lt_f q1)
    refine zpE_run 3 (L' := [some (.ref 1), some (.int x1)]) (st' := [.int (S.1 2), .int x1]) rfl ?_
    refine zpE_icmp rfl (fun q9 => ?_) (fun q9 => ?_)
    · have z9_1 := Int.not_lt.mpr (zF_ge_t q9)
      refine zpE_run 1 (L' := [some (.ref 1), some (.int x1)]) (st' := [.int (Int32.ofInt 0)]) rfl ?_
      exact zpE_end rfl rfl (zOq_v (by unfold V7; rw [if_neg z1_0, if_neg z9_1]))
    · have z9_1 := zF_ge_f q9
      refine zpE_run 2 (L' := [some (.ref 1), some (.int x1)]) (st' := [.int (Int32.ofInt 1)]) rfl ?_
      exact zpE_end rfl rfl (zOq_v (by unfold V7; rw [if_neg z1_0, if_pos z9_1]))
def V20_15  (S : zSt) : Int32 := if (S.1 9).toInt < (Int32.ofInt 24).toInt then ((Int32.ofInt 0)) else ((Int32.ofInt 1))
theorem e_20_15 (HL : zaL S.2) : zpM xs N 20 [.ref 15] (zx S.1 S.2 T) nc ns (zOq (.inl (some (.int (V20_15 S)))) (zx S.1 S.2 T)) := by
  intro L0 e
  cases e
  refine zpE_run 3 (L' := [some (.ref 15)]) (st' := [.int (Int32.ofInt 24), .int (S.1 9)]) rfl ?_
  refine zpE_icmp rfl (fun q6 => ?_) (fun q6 => ?_)
  · have z6_0 := zF_lt_t q6
    refine zpE_run 1 (L' := [some (.ref 15)]) (st' := [.int (Int32.ofInt 0)]) rfl ?_
    exact zpE_end rfl rfl (zOq_v (by unfold V20_15; rw [if_pos z6_0]))
  · have z6_0 := Int.not_lt.mpr (zF_lt_f q6)
    refine zpE_run 2 (L' := [some (.ref 15)]) (st' := [.int (Int32.ofInt 1)]) rfl ?_
    exact zpE_end rfl rfl (zOq_v (by unfold V20_15; rw [if_neg z6_0]))
def F21_15 (x1 : Int32) (x2 : Int32) (x3 : Int32) (S : zSt) : zSt := if (V20_15 S) = ((0 : Int32)) then (zsS (zsR (zsR (zsR S 6 (S.1 9) x1) 7 ((zsR S 6 (S.1 9) x1).1 9) x2) 8 ((zsR (zsR S 6 (S.1 9) x1) 7 ((zsR S 6 (S.1 9) x1).1 9) x2).1 9) x3) 9 (((zsR (zsR (zsR S 6 (S.1 9) x1) 7 ((zsR S 6 (S.1 9) x1).1 9) x2) 8 ((zsR (zsR S 6 (S.1 9) x1) 7 ((zsR S 6 (S.1 9) x1).1 9) x2).1 9) x3).1 9) + (Int32.ofInt 1))) else S
theorem e_21_15 {x1 x2 x3 : Int32} (HL : zaL S.2) : zpM xs N 21 [.ref 15, .int x1, .int x2, .int x3] (zx S.1 S.2 T) nc ns (zOq (.inl none) (zx (F21_15 x1 x2 x3 S).1 (F21_15 x1 x2 x3 S).2 T)) := by
  intro L0 e
  cases e
  refine zpE_run 1 (L' := [some (.ref 15), some (.int x1), some (.int x2), some (.int x3)]) (st' := [.ref 15]) rfl ?_
  refine zpE_call rfl rfl (e_20_15 (S := S) HL) (fun v h1 nc1 ns1 q8 => ?_) (fun E h1 nc1 ns1 q8 => by cases q8.1)
  obtain ⟨q8, q9⟩ := q8
  cases q8
  cases q9
  refine zpE_if rfl (fun q4 => ?_) (fun q4 => ?_)
  · have z4_0 := zF_e1 q4
    refine zpE_run 5 (L' := [some (.ref 15), some (.int x1), some (.int x2), some (.int x3)]) (st' := [.int x1, .int (S.1 9), .ref 16]) rfl ?_
    refine zpE_call rfl rfl (p_26 6 17 16 rfl rfl (fun _ => rfl) ((HL : zaL S.2) 6)) (fun v h1 nc1 ns1 q8 => ?_) (fun E h1 nc1 ns1 q8 => by cases q8)
    cases q8
    refine zpE_run 5 (L' := [some (.ref 15), some (.int x1), some (.int x2), some (.int x3)]) (st' := [.int x2, .int ((zsR S 6 (S.1 9) x1).1 9), .ref 18]) rfl ?_
    refine zpE_call rfl rfl (p_26 7 19 18 rfl rfl (fun _ => rfl) ((ln_R HL : zaL (zsR S 6 (S.1 9) x1).2) 7)) (fun v h1 nc1 ns1 q8 => ?_) (fun E h1 nc1 ns1 q8 => by cases q8)
    cases q8
    refine zpE_run 5 (L' := [some (.ref 15), some (.int x1), some (.int x2), some (.int x3)]) (st' := [.int x3, .int ((zsR (zsR S 6 (S.1 9) x1) 7 ((zsR S 6 (S.1 9) x1).1 9) x2).1 9), .ref 20]) rfl ?_
    refine zpE_call rfl rfl (p_26 8 21 20 rfl rfl (fun _ => rfl) ((ln_R (ln_R HL) : zaL (zsR (zsR S 6 (S.1 9) x1) 7 ((zsR S 6 (S.1 9) x1).1 9) x2).2) 8)) (fun v h1 nc1 ns1 q8 => ?_) (fun E h1 nc1 ns1 q8 => by cases q8)
    cases q8
    refine zpE_run 6 (L' := [some (.ref 15), some (.int x1), some (.int x2), some (.int x3)]) (st' := []) (h' := zx (zsS (zsR (zsR (zsR S 6 (S.1 9) x1) 7 ((zsR S 6 (S.1 9) x1).1 9) x2) 8 ((zsR (zsR S 6 (S.1 9) x1) 7 ((zsR S 6 (S.1 9) x1).1 9) x2).1 9) x3) 9 (((zsR (zsR (zsR S 6 (S.1 9) x1) 7 ((zsR S 6 (S.1 9) x1).1 9) x2) 8 ((zsR (zsR S 6 (S.1 9) x1) 7 ((zsR S 6 (S.1 9) x1).1 9) x2).1 9) x3).1 9) + (Int32.ofInt 1))).1 (zsS (zsR (zsR (zsR S 6 (S.1 9) x1) 7 ((zsR S 6 (S.1 9) x1).1 9) x2) 8 ((zsR (zsR S 6 (S.1 9) x1) 7 ((zsR S 6 (S.1 9) x1).1 9) x2).1 9) x3) 9 (((zsR (zsR (zsR S 6 (S.1 9) x1) 7 ((zsR S 6 (S.1 9) x1).1 9) x2) 8 ((zsR (zsR S 6 (S.1 9) x1) 7 ((zsR S 6 (S.1 9) x1).1 9) x2).1 9) x3).1 9) + (Int32.ofInt 1))).2 T) rfl ?_
    exact zpE_end rfl rfl (zOq_f (S' := zsS (zsR (zsR (zsR S 6 (S.1 9) x1) 7 ((zsR S 6 (S.1 9) x1).1 9) x2) 8 ((zsR (zsR S 6 (S.1 9) x1) 7 ((zsR S 6 (S.1 9) x1).1 9) x2).1 9) x3) 9 (((zsR (zsR (zsR S 6 (S.1 9) x1) 7 ((zsR S 6 (S.1 9) x1).1 9) x2) 8 ((zsR (zsR S 6 (S.1 9) x1) 7 ((zsR S 6 (S.1 9) x1).1 9) x2).1 9) x3).1 9) + (Int32.ofInt 1))) (by unfold F21_15; rw [if_pos z4_0]))
  · have z4_0 := zF_e0 q4
    exact zpE_end rfl rfl (zOq_f (S' := S) (by unfold F21_15; rw [if_neg z4_0]))
theorem fr_F21_15 {x1 x2 x3 : Int32} : zfrm [9] [6, 7, 8] (F21_15 x1 x2 x3 S) S := by
  unfold F21_15
  exact (fm_ite (fm_c fm_S (fm_c fm_R (fm_c fm_R (fm_c fm_R fm_rf (by decide) (by decide)) (by decide) (by decide)) (by decide) (by decide)) (by decide) (by decide)) fm_rf)
theorem ln_F21_15 {x1 x2 x3 : Int32} (HL : zaL S.2) : zaL (F21_15 x1 x2 x3 S).2 := fm_L fr_F21_15 HL
def D22_15 (x1 : Int32) (told : Int32) (S : zSt) (k : Nat) (u : zSt) : zSt := if (zgt (u.2 7) ((Int32.ofNat k))).toInt < ((Int32.ofInt 1) <<< (x1 &&& 31)).toInt then ((F21_15 (zgt (u.2 6) ((Int32.ofNat k))) (zgt (u.2 7) ((Int32.ofNat k))) (zgt (u.2 8) ((Int32.ofNat k))) u)) else u
def W22_15 (x1 : Int32) (told : Int32) (S : zSt) (u0 : zSt) : Nat → zSt
  | 0 => u0
  | k + 1 => D22_15 x1 told S k (W22_15 x1 told S u0 k)
def X22_15 (x1 : Int32) (told : Int32) (S : zSt) (u : zSt) : zSt := u
theorem fr_D22_15 {x1 told : Int32} {k : Nat} {u : zSt} : zfrm [9] [6, 7, 8] (D22_15 x1 told S k u) u := by
  unfold D22_15
  exact (fm_ite (fm_c fr_F21_15 fm_rf (by decide) (by decide)) fm_rf)
theorem fr_W22_15 {x1 told : Int32} {u0 : zSt} : ∀ k, zfrm [9] [6, 7, 8] (W22_15 x1 told S u0 k) u0
  | 0 => fm_rf
  | k + 1 => fm_tr fr_D22_15 (fr_W22_15 k)
theorem ln_W22_15 {x1 told : Int32} {u0 : zSt} (HU : zaL u0.2) (k : Nat) : zaL (W22_15 x1 told S u0 k).2 := fm_L (fr_W22_15 k) HU
theorem l_22_15 {x1 told : Int32} {u0 : zSt} (HL : zaL u0.2) : ∀ (N k : Nat) (nc ns : Nat), k ≤ (told).toInt.toNat → zpE xs N 22 12 [some (.ref 15), some (.int x1), some (.int told), some (.int (Int32.ofNat k))] [] (zx (W22_15 x1 told S u0 k).1 (W22_15 x1 told S u0 k).2 T) nc ns (zOq (.inl none) (zx (X22_15 x1 told S (W22_15 x1 told S u0 (told).toInt.toNat)).1 (X22_15 x1 told S (W22_15 x1 told S u0 (told).toInt.toNat)).2 T))
  | 0, _, _, _, _ => zpE_0
  | N + 1, k, nc, ns, hk => by
    have HLk := ln_W22_15 (x1 := x1) (told := told) (S := S) HL k
    refine zpE_run1 1 (L' := [some (.ref 15), some (.int x1), some (.int told), some (.int (Int32.ofNat k))]) (st' := [.int told, .int (Int32.ofNat k)]) rfl ?_
    refine zpE_icmp rfl (fun q14 => ?_) (fun q14 => ?_)
    · have z14_0 := Int.not_lt.mpr (zF_ge_t q14)
      exact zpE_end rfl rfl (by rw [← zlp_out z14_0 hk]; exact zOq_f (S' := (W22_15 x1 told S u0 k)) (by unfold X22_15; (first | done | rfl)))
    · have z14_0 := zF_ge_f q14
      refine zpE_run 3 (L' := [some (.ref 15), some (.int x1), some (.int told), some (.int (Int32.ofNat k))]) (st' := [.int (Int32.ofNat k), .ref 18]) rfl ?_
      refine zpE_call rfl rfl (p_25 7 19 18 rfl rfl (HLk : zaL ((W22_15 x1 told S u0 k)).2)) (fun v h1 nc1 ns1 q8 => ?_) (fun E h1 nc1 ns1 q8 => by cases q8)
      cases q8
      refine zpE_run 3 (L' := [some (.ref 15), some (.int x1), some (.int told), some (.int (Int32.ofNat k))]) (st' := [.int ((Int32.ofInt 1) <<< (x1 &&& 31)), .int (zgt (((W22_15 x1 told S u0 k)).2 7) (Int32.ofNat k))]) rfl ?_
      refine zpE_icmp rfl (fun q28 => ?_) (fun q28 => ?_)
      · have z28_1 := Int.not_lt.mpr (zF_ge_t q28)
        refine zpE_run 2 (L' := [some (.ref 15), some (.int x1), some (.int told), some (.int ((Int32.ofNat k) + Int32.ofInt 1))]) (st' := []) rfl ?_
        have K := fun nc ns => l_22_15 (x1 := x1) (told := told) (u0 := u0) HL N (k + 1) nc ns (zlp_in z14_0 hk)
        rw [← zof1, show W22_15 x1 told S u0 (k + 1) = (W22_15 x1 told S u0 k) from by
            show D22_15 x1 told S k _ = _
            unfold D22_15
            rw [if_neg z28_1]] at K
        exact K _ _
      · have z28_1 := zF_ge_f q28
        refine zpE_run 4 (L' := [some (.ref 15), some (.int x1), some (.int told), some (.int (Int32.ofNat k))]) (st' := [.int (Int32.ofNat k), .ref 16, .ref 15]) rfl ?_
        refine zpE_call rfl rfl (p_25 6 17 16 rfl rfl (HLk : zaL ((W22_15 x1 told S u0 k)).2)) (fun v h1 nc1 ns1 q8 => ?_) (fun E h1 nc1 ns1 q8 => by cases q8)
        cases q8
        refine zpE_run 3 (L' := [some (.ref 15), some (.int x1), some (.int told), some (.int (Int32.ofNat k))]) (st' := [.int (Int32.ofNat k), .ref 18, .int (zgt (((W22_15 x1 told S u0 k)).2 6) (Int32.ofNat k)), .ref 15]) rfl ?_
        refine zpE_call rfl rfl (p_25 7 19 18 rfl rfl (HLk : zaL ((W22_15 x1 told S u0 k)).2)) (fun v h1 nc1 ns1 q8 => ?_) (fun E h1 nc1 ns1 q8 => by cases q8)
        cases q8
        refine zpE_run 3 (L' := [some (.ref 15), some (.int x1), some (.int told), some (.int (Int32.ofNat k))]) (st' := [.int (Int32.ofNat k), .ref 20, .int (zgt (((W22_15 x1 told S u0 k)).2 7) (Int32.ofNat k)), .int (zgt (((W22_15 x1 told S u0 k)).2 6) (Int32.ofNat k)), .ref 15]) rfl ?_
        refine zpE_call rfl rfl (p_25 8 21 20 rfl rfl (HLk : zaL ((W22_15 x1 told S u0 k)).2)) (fun v h1 nc1 ns1 q8 => ?_) (fun E h1 nc1 ns1 q8 => by cases q8)
        cases q8
        refine zpE_call rfl rfl (e_21_15 (S := (W22_15 x1 told S u0 k)) (x1 := zgt (((W22_15 x1 told S u0 k)).2 6) (Int32.ofNat k)) (x2 := zgt (((W22_15 x1 told S u0 k)).2 7) (Int32.ofNat k)) (x3 := zgt (((W22_15 x1 told S u0 k)).2 8) (Int32.ofNat k)) HLk) (fun v h1 nc1 ns1 q8 => ?_) (fun E h1 nc1 ns1 q8 => by cases q8.1)
        obtain ⟨q8, q9⟩ := q8
        cases q8
        cases q9
        obtain ⟨Z1, hZ1⟩ : ∃ Z, Z = F21_15 (zgt (((W22_15 x1 told S u0 k)).2 6) (Int32.ofNat k)) (zgt (((W22_15 x1 told S u0 k)).2 7) (Int32.ofNat k)) (zgt (((W22_15 x1 told S u0 k)).2 8) (Int32.ofNat k)) ((W22_15 x1 told S u0 k)) := ⟨_, rfl⟩
        rw [← hZ1]
        have LZ1 : zaL Z1.2 := by
          rw [hZ1]
          exact ln_F21_15 HLk
        refine zpE_run 2 (L' := [some (.ref 15), some (.int x1), some (.int told), some (.int ((Int32.ofNat k) + Int32.ofInt 1))]) (st' := []) rfl ?_
        have K := fun nc ns => l_22_15 (x1 := x1) (told := told) (u0 := u0) HL N (k + 1) nc ns (zlp_in z14_0 hk)
        rw [← zof1, show W22_15 x1 told S u0 (k + 1) = Z1 from by
            show D22_15 x1 told S k _ = _
            unfold D22_15
            (try rw [← hZ1])
            rw [if_pos z28_1]] at K
        exact K _ _
def F22_15 (x1 : Int32) (S : zSt) : zSt := X22_15 x1 (S.1 9) (zsS S 9 (Int32.ofInt 0)) (W22_15 x1 (S.1 9) (zsS S 9 (Int32.ofInt 0)) (zsS S 9 (Int32.ofInt 0)) ((S.1 9)).toInt.toNat)
theorem e_22_15 {x1 : Int32} (HL : zaL S.2) : zpM xs N 22 [.ref 15, .int x1] (zx S.1 S.2 T) nc ns (zOq (.inl none) (zx (F22_15 x1 S).1 (F22_15 x1 S).2 T)) := by
  intro L0 e
  cases e
  refine zpE_run 8 (h' := zx (zsS S 9 (Int32.ofInt 0)).1 (zsS S 9 (Int32.ofInt 0)).2 T) rfl ?_
  exact l_22_15 (x1 := x1) (told := S.1 9) (S := zsS S 9 (Int32.ofInt 0)) (u0 := zsS S 9 (Int32.ofInt 0)) (ln_S HL) N 0 _ _ (Nat.zero_le _)
theorem fr_X22_15 {x1 told : Int32} {u : zSt} : zfrm [] [] (X22_15 x1 told S u) u := by
  unfold X22_15
  exact fm_rf
theorem fr_F22_15 {x1 : Int32} : zfrm [9] [6, 7, 8] (F22_15 x1 S) S := by
  unfold F22_15
  exact (fm_c fr_X22_15 (fm_c (fr_W22_15 _) (fm_c fm_S fm_rf (by decide) (by decide)) (by decide) (by decide)) (by decide) (by decide))
theorem ln_F22_15 {x1 : Int32} (HL : zaL S.2) : zaL (F22_15 x1 S).2 := fm_L fr_F22_15 HL
def V20_22  (S : zSt) : Int32 := if (S.1 10).toInt < (Int32.ofInt 24).toInt then ((Int32.ofInt 0)) else ((Int32.ofInt 1))
theorem e_20_22 (HL : zaL S.2) : zpM xs N 20 [.ref 22] (zx S.1 S.2 T) nc ns (zOq (.inl (some (.int (V20_22 S)))) (zx S.1 S.2 T)) := by
  intro L0 e
  cases e
  refine zpE_run 3 (L' := [some (.ref 22)]) (st' := [.int (Int32.ofInt 24), .int (S.1 10)]) rfl ?_
  refine zpE_icmp rfl (fun q6 => ?_) (fun q6 => ?_)
  · have z6_0 := zF_lt_t q6
    refine zpE_run 1 (L' := [some (.ref 22)]) (st' := [.int (Int32.ofInt 0)]) rfl ?_
    exact zpE_end rfl rfl (zOq_v (by unfold V20_22; rw [if_pos z6_0]))
  · have z6_0 := Int.not_lt.mpr (zF_lt_f q6)
    refine zpE_run 2 (L' := [some (.ref 22)]) (st' := [.int (Int32.ofInt 1)]) rfl ?_
    exact zpE_end rfl rfl (zOq_v (by unfold V20_22; rw [if_neg z6_0]))
def F21_22 (x1 : Int32) (x2 : Int32) (x3 : Int32) (S : zSt) : zSt := if (V20_22 S) = ((0 : Int32)) then (zsS (zsR (zsR (zsR S 9 (S.1 10) x1) 10 ((zsR S 9 (S.1 10) x1).1 10) x2) 11 ((zsR (zsR S 9 (S.1 10) x1) 10 ((zsR S 9 (S.1 10) x1).1 10) x2).1 10) x3) 10 (((zsR (zsR (zsR S 9 (S.1 10) x1) 10 ((zsR S 9 (S.1 10) x1).1 10) x2) 11 ((zsR (zsR S 9 (S.1 10) x1) 10 ((zsR S 9 (S.1 10) x1).1 10) x2).1 10) x3).1 10) + (Int32.ofInt 1))) else S
theorem e_21_22 {x1 x2 x3 : Int32} (HL : zaL S.2) : zpM xs N 21 [.ref 22, .int x1, .int x2, .int x3] (zx S.1 S.2 T) nc ns (zOq (.inl none) (zx (F21_22 x1 x2 x3 S).1 (F21_22 x1 x2 x3 S).2 T)) := by
  intro L0 e
  cases e
  refine zpE_run 1 (L' := [some (.ref 22), some (.int x1), some (.int x2), some (.int x3)]) (st' := [.ref 22]) rfl ?_
  refine zpE_call rfl rfl (e_20_22 (S := S) HL) (fun v h1 nc1 ns1 q8 => ?_) (fun E h1 nc1 ns1 q8 => by cases q8.1)
  obtain ⟨q8, q9⟩ := q8
  cases q8
  cases q9
  refine zpE_if rfl (fun q4 => ?_) (fun q4 => ?_)
  · have z4_0 := zF_e1 q4
    refine zpE_run 5 (L' := [some (.ref 22), some (.int x1), some (.int x2), some (.int x3)]) (st' := [.int x1, .int (S.1 10), .ref 23]) rfl ?_
    refine zpE_call rfl rfl (p_26 9 24 23 rfl rfl (fun _ => rfl) ((HL : zaL S.2) 9)) (fun v h1 nc1 ns1 q8 => ?_) (fun E h1 nc1 ns1 q8 => by cases q8)
    cases q8
    refine zpE_run 5 (L' := [some (.ref 22), some (.int x1), some (.int x2), some (.int x3)]) (st' := [.int x2, .int ((zsR S 9 (S.1 10) x1).1 10), .ref 25]) rfl ?_
    refine zpE_call rfl rfl (p_26 10 26 25 rfl rfl (fun _ => rfl) ((ln_R HL : zaL (zsR S 9 (S.1 10) x1).2) 10)) (fun v h1 nc1 ns1 q8 => ?_) (fun E h1 nc1 ns1 q8 => by cases q8)
    cases q8
    refine zpE_run 5 (L' := [some (.ref 22), some (.int x1), some (.int x2), some (.int x3)]) (st' := [.int x3, .int ((zsR (zsR S 9 (S.1 10) x1) 10 ((zsR S 9 (S.1 10) x1).1 10) x2).1 10), .ref 27]) rfl ?_
    refine zpE_call rfl rfl (p_26 11 28 27 rfl rfl (fun _ => rfl) ((ln_R (ln_R HL) : zaL (zsR (zsR S 9 (S.1 10) x1) 10 ((zsR S 9 (S.1 10) x1).1 10) x2).2) 11)) (fun v h1 nc1 ns1 q8 => ?_) (fun E h1 nc1 ns1 q8 => by cases q8)
    cases q8
    refine zpE_run 6 (L' := [some (.ref 22), some (.int x1), some (.int x2), some (.int x3)]) (st' := []) (h' := zx (zsS (zsR (zsR (zsR S 9 (S.1 10) x1) 10 ((zsR S 9 (S.1 10) x1).1 10) x2) 11 ((zsR (zsR S 9 (S.1 10) x1) 10 ((zsR S 9 (S.1 10) x1).1 10) x2).1 10) x3) 10 (((zsR (zsR (zsR S 9 (S.1 10) x1) 10 ((zsR S 9 (S.1 10) x1).1 10) x2) 11 ((zsR (zsR S 9 (S.1 10) x1) 10 ((zsR S 9 (S.1 10) x1).1 10) x2).1 10) x3).1 10) + (Int32.ofInt 1))).1 (zsS (zsR (zsR (zsR S 9 (S.1 10) x1) 10 ((zsR S 9 (S.1 10) x1).1 10) x2) 11 ((zsR (zsR S 9 (S.1 10) x1) 10 ((zsR S 9 (S.1 10) x1).1 10) x2).1 10) x3) 10 (((zsR (zsR (zsR S 9 (S.1 10) x1) 10 ((zsR S 9 (S.1 10) x1).1 10) x2) 11 ((zsR (zsR S 9 (S.1 10) x1) 10 ((zsR S 9 (S.1 10) x1).1 10) x2).1 10) x3).1 10) + (Int32.ofInt 1))).2 T) rfl ?_
    exact zpE_end rfl rfl (zOq_f (S' := zsS (zsR (zsR (zsR S 9 (S.1 10) x1) 10 ((zsR S 9 (S.1 10) x1).1 10) x2) 11 ((zsR (zsR S 9 (S.1 10) x1) 10 ((zsR S 9 (S.1 10) x1).1 10) x2).1 10) x3) 10 (((zsR (zsR (zsR S 9 (S.1 10) x1) 10 ((zsR S 9 (S.1 10) x1).1 10) x2) 11 ((zsR (zsR S 9 (S.1 10) x1) 10 ((zsR S 9 (S.1 10) x1).1 10) x2).1 10) x3).1 10) + (Int32.ofInt 1))) (by unfold F21_22; rw [if_pos z4_0]))
  · have z4_0 := zF_e0 q4
    exact zpE_end rfl rfl (zOq_f (S' := S) (by unfold F21_22; rw [if_neg z4_0]))
theorem fr_F21_22 {x1 x2 x3 : Int32} : zfrm [10] [9, 10, 11] (F21_22 x1 x2 x3 S) S := by
  unfold F21_22
  exact (fm_ite (fm_c fm_S (fm_c fm_R (fm_c fm_R (fm_c fm_R fm_rf (by decide) (by decide)) (by decide) (by decide)) (by decide) (by decide)) (by decide) (by decide)) fm_rf)
theorem ln_F21_22 {x1 x2 x3 : Int32} (HL : zaL S.2) : zaL (F21_22 x1 x2 x3 S).2 := fm_L fr_F21_22 HL
def D22_22 (x1 : Int32) (told : Int32) (S : zSt) (k : Nat) (u : zSt) : zSt := if (zgt (u.2 10) ((Int32.ofNat k))).toInt < ((Int32.ofInt 1) <<< (x1 &&& 31)).toInt then ((F21_22 (zgt (u.2 9) ((Int32.ofNat k))) (zgt (u.2 10) ((Int32.ofNat k))) (zgt (u.2 11) ((Int32.ofNat k))) u)) else u
def W22_22 (x1 : Int32) (told : Int32) (S : zSt) (u0 : zSt) : Nat → zSt
  | 0 => u0
  | k + 1 => D22_22 x1 told S k (W22_22 x1 told S u0 k)
def X22_22 (x1 : Int32) (told : Int32) (S : zSt) (u : zSt) : zSt := u
theorem fr_D22_22 {x1 told : Int32} {k : Nat} {u : zSt} : zfrm [10] [9, 10, 11] (D22_22 x1 told S k u) u := by
  unfold D22_22
  exact (fm_ite (fm_c fr_F21_22 fm_rf (by decide) (by decide)) fm_rf)
theorem fr_W22_22 {x1 told : Int32} {u0 : zSt} : ∀ k, zfrm [10] [9, 10, 11] (W22_22 x1 told S u0 k) u0
  | 0 => fm_rf
  | k + 1 => fm_tr fr_D22_22 (fr_W22_22 k)
theorem ln_W22_22 {x1 told : Int32} {u0 : zSt} (HU : zaL u0.2) (k : Nat) : zaL (W22_22 x1 told S u0 k).2 := fm_L (fr_W22_22 k) HU
theorem l_22_22 {x1 told : Int32} {u0 : zSt} (HL : zaL u0.2) : ∀ (N k : Nat) (nc ns : Nat), k ≤ (told).toInt.toNat → zpE xs N 22 12 [some (.ref 22), some (.int x1), some (.int told), some (.int (Int32.ofNat k))] [] (zx (W22_22 x1 told S u0 k).1 (W22_22 x1 told S u0 k).2 T) nc ns (zOq (.inl none) (zx (X22_22 x1 told S (W22_22 x1 told S u0 (told).toInt.toNat)).1 (X22_22 x1 told S (W22_22 x1 told S u0 (told).toInt.toNat)).2 T))
  | 0, _, _, _, _ => zpE_0
  | N + 1, k, nc, ns, hk => by
    have HLk := ln_W22_22 (x1 := x1) (told := told) (S := S) HL k
    refine zpE_run1 1 (L' := [some (.ref 22), some (.int x1), some (.int told), some (.int (Int32.ofNat k))]) (st' := [.int told, .int (Int32.ofNat k)]) rfl ?_
    refine zpE_icmp rfl (fun q14 => ?_) (fun q14 => ?_)
    · have z14_0 := Int.not_lt.mpr (zF_ge_t q14)
      exact zpE_end rfl rfl (by rw [← zlp_out z14_0 hk]; exact zOq_f (S' := (W22_22 x1 told S u0 k)) (by unfold X22_22; (first | done | rfl)))
    · have z14_0 := zF_ge_f q14
      refine zpE_run 3 (L' := [some (.ref 22), some (.int x1), some (.int told), some (.int (Int32.ofNat k))]) (st' := [.int (Int32.ofNat k), .ref 25]) rfl ?_
      refine zpE_call rfl rfl (p_25 10 26 25 rfl rfl (HLk : zaL ((W22_22 x1 told S u0 k)).2)) (fun v h1 nc1 ns1 q8 => ?_) (fun E h1 nc1 ns1 q8 => by cases q8)
      cases q8
      refine zpE_run 3 (L' := [some (.ref 22), some (.int x1), some (.int told), some (.int (Int32.ofNat k))]) (st' := [.int ((Int32.ofInt 1) <<< (x1 &&& 31)), .int (zgt (((W22_22 x1 told S u0 k)).2 10) (Int32.ofNat k))]) rfl ?_
      refine zpE_icmp rfl (fun q28 => ?_) (fun q28 => ?_)
      · have z28_1 := Int.not_lt.mpr (zF_ge_t q28)
        refine zpE_run 2 (L' := [some (.ref 22), some (.int x1), some (.int told), some (.int ((Int32.ofNat k) + Int32.ofInt 1))]) (st' := []) rfl ?_
        have K := fun nc ns => l_22_22 (x1 := x1) (told := told) (u0 := u0) HL N (k + 1) nc ns (zlp_in z14_0 hk)
        rw [← zof1, show W22_22 x1 told S u0 (k + 1) = (W22_22 x1 told S u0 k) from by
            show D22_22 x1 told S k _ = _
            unfold D22_22
            rw [if_neg z28_1]] at K
        exact K _ _
      · have z28_1 := zF_ge_f q28
        refine zpE_run 4 (L' := [some (.ref 22), some (.int x1), some (.int told), some (.int (Int32.ofNat k))]) (st' := [.int (Int32.ofNat k), .ref 23, .ref 22]) rfl ?_
        refine zpE_call rfl rfl (p_25 9 24 23 rfl rfl (HLk : zaL ((W22_22 x1 told S u0 k)).2)) (fun v h1 nc1 ns1 q8 => ?_) (fun E h1 nc1 ns1 q8 => by cases q8)
        cases q8
        refine zpE_run 3 (L' := [some (.ref 22), some (.int x1), some (.int told), some (.int (Int32.ofNat k))]) (st' := [.int (Int32.ofNat k), .ref 25, .int (zgt (((W22_22 x1 told S u0 k)).2 9) (Int32.ofNat k)), .ref 22]) rfl ?_
        refine zpE_call rfl rfl (p_25 10 26 25 rfl rfl (HLk : zaL ((W22_22 x1 told S u0 k)).2)) (fun v h1 nc1 ns1 q8 => ?_) (fun E h1 nc1 ns1 q8 => by cases q8)
        cases q8
        refine zpE_run 3 (L' := [some (.ref 22), some (.int x1), some (.int told), some (.int (Int32.ofNat k))]) (st' := [.int (Int32.ofNat k), .ref 27, .int (zgt (((W22_22 x1 told S u0 k)).2 10) (Int32.ofNat k)), .int (zgt (((W22_22 x1 told S u0 k)).2 9) (Int32.ofNat k)), .ref 22]) rfl ?_
        refine zpE_call rfl rfl (p_25 11 28 27 rfl rfl (HLk : zaL ((W22_22 x1 told S u0 k)).2)) (fun v h1 nc1 ns1 q8 => ?_) (fun E h1 nc1 ns1 q8 => by cases q8)
        cases q8
        refine zpE_call rfl rfl (e_21_22 (S := (W22_22 x1 told S u0 k)) (x1 := zgt (((W22_22 x1 told S u0 k)).2 9) (Int32.ofNat k)) (x2 := zgt (((W22_22 x1 told S u0 k)).2 10) (Int32.ofNat k)) (x3 := zgt (((W22_22 x1 told S u0 k)).2 11) (Int32.ofNat k)) HLk) (fun v h1 nc1 ns1 q8 => ?_) (fun E h1 nc1 ns1 q8 => by cases q8.1)
        obtain ⟨q8, q9⟩ := q8
        cases q8
        cases q9
        obtain ⟨Z1, hZ1⟩ : ∃ Z, Z = F21_22 (zgt (((W22_22 x1 told S u0 k)).2 9) (Int32.ofNat k)) (zgt (((W22_22 x1 told S u0 k)).2 10) (Int32.ofNat k)) (zgt (((W22_22 x1 told S u0 k)).2 11) (Int32.ofNat k)) ((W22_22 x1 told S u0 k)) := ⟨_, rfl⟩
        rw [← hZ1]
        have LZ1 : zaL Z1.2 := by
          rw [hZ1]
          exact ln_F21_22 HLk
        refine zpE_run 2 (L' := [some (.ref 22), some (.int x1), some (.int told), some (.int ((Int32.ofNat k) + Int32.ofInt 1))]) (st' := []) rfl ?_
        have K := fun nc ns => l_22_22 (x1 := x1) (told := told) (u0 := u0) HL N (k + 1) nc ns (zlp_in z14_0 hk)
        rw [← zof1, show W22_22 x1 told S u0 (k + 1) = Z1 from by
            show D22_22 x1 told S k _ = _
            unfold D22_22
            (try rw [← hZ1])
            rw [if_pos z28_1]] at K
        exact K _ _
def F22_22 (x1 : Int32) (S : zSt) : zSt := X22_22 x1 (S.1 10) (zsS S 10 (Int32.ofInt 0)) (W22_22 x1 (S.1 10) (zsS S 10 (Int32.ofInt 0)) (zsS S 10 (Int32.ofInt 0)) ((S.1 10)).toInt.toNat)
theorem e_22_22 {x1 : Int32} (HL : zaL S.2) : zpM xs N 22 [.ref 22, .int x1] (zx S.1 S.2 T) nc ns (zOq (.inl none) (zx (F22_22 x1 S).1 (F22_22 x1 S).2 T)) := by
  intro L0 e
  cases e
  refine zpE_run 8 (h' := zx (zsS S 10 (Int32.ofInt 0)).1 (zsS S 10 (Int32.ofInt 0)).2 T) rfl ?_
  exact l_22_22 (x1 := x1) (told := S.1 10) (S := zsS S 10 (Int32.ofInt 0)) (u0 := zsS S 10 (Int32.ofInt 0)) (ln_S HL) N 0 _ _ (Nat.zero_le _)
theorem fr_X22_22 {x1 told : Int32} {u : zSt} : zfrm [] [] (X22_22 x1 told S u) u := by
  unfold X22_22
  exact fm_rf
theorem fr_F22_22 {x1 : Int32} : zfrm [10] [9, 10, 11] (F22_22 x1 S) S := by
  unfold F22_22
  exact (fm_c fr_X22_22 (fm_c (fr_W22_22 _) (fm_c fm_S fm_rf (by decide) (by decide)) (by decide) (by decide)) (by decide) (by decide))
theorem ln_F22_22 {x1 : Int32} (HL : zaL S.2) : zaL (F22_22 x1 S).2 := fm_L fr_F22_22 HL
def F30  (S : zSt) : zSt := zsS S 11 (Int32.ofInt 0)
theorem e_30 (HL : zaL S.2) : zpM xs N 30 [.ref 29] (zx S.1 S.2 T) nc ns (zOq (.inl none) (zx (F30 S).1 (F30 S).2 T)) := by
  intro L0 e
  cases e
  refine zpE_run 3 (L' := [some (.ref 29)]) (st' := []) (h' := zx (zsS S 11 (Int32.ofInt 0)).1 (zsS S 11 (Int32.ofInt 0)).2 T) rfl ?_
  exact zpE_end rfl rfl (zOq_f (S' := zsS S 11 (Int32.ofInt 0)) (by unfold F30; (first | done | rfl)))
theorem fr_F30 : zfrm [11] [] (F30 S) S := by
  unfold F30
  exact (fm_c fm_S fm_rf (by decide) (by decide))
theorem ln_F30 (HL : zaL S.2) : zaL (F30 S).2 := fm_L fr_F30 HL
def F31 (x1 : Int32) (x2 : Int32) (x3 : Int32) (S : zSt) : zSt := if x2 = (Int32.ofInt (-1)) then (if ((zsS S 13 ((S.1 13) + (Int32.ofInt 1))).1 11).toInt < (Int32.ofInt 40).toInt then (zsS (zsR (zsR (zsR (zsS S 13 ((S.1 13) + (Int32.ofInt 1))) 12 ((zsS S 13 ((S.1 13) + (Int32.ofInt 1))).1 11) x1) 13 ((zsR (zsS S 13 ((S.1 13) + (Int32.ofInt 1))) 12 ((zsS S 13 ((S.1 13) + (Int32.ofInt 1))).1 11) x1).1 11) x2) 14 ((zsR (zsR (zsS S 13 ((S.1 13) + (Int32.ofInt 1))) 12 ((zsS S 13 ((S.1 13) + (Int32.ofInt 1))).1 11) x1) 13 ((zsR (zsS S 13 ((S.1 13) + (Int32.ofInt 1))) 12 ((zsS S 13 ((S.1 13) + (Int32.ofInt 1))).1 11) x1).1 11) x2).1 11) x3) 11 (((zsR (zsR (zsR (zsS S 13 ((S.1 13) + (Int32.ofInt 1))) 12 ((zsS S 13 ((S.1 13) + (Int32.ofInt 1))).1 11) x1) 13 ((zsR (zsS S 13 ((S.1 13) + (Int32.ofInt 1))) 12 ((zsS S 13 ((S.1 13) + (Int32.ofInt 1))).1 11) x1).1 11) x2) 14 ((zsR (zsR (zsS S 13 ((S.1 13) + (Int32.ofInt 1))) 12 ((zsS S 13 ((S.1 13) + (Int32.ofInt 1))).1 11) x1) 13 ((zsR (zsS S 13 ((S.1 13) + (Int32.ofInt 1))) 12 ((zsS S 13 ((S.1 13) + (Int32.ofInt 1))).1 11) x1).1 11) x2).1 11) x3).1 11) + (Int32.ofInt 1))) else (zsS S 13 ((S.1 13) + (Int32.ofInt 1)))) else (if ((zsS S 12 ((S.1 12) + (Int32.ofInt 1))).1 11).toInt < (Int32.ofInt 40).toInt then (zsS (zsR (zsR (zsR (zsS S 12 ((S.1 12) + (Int32.ofInt 1))) 12 ((zsS S 12 ((S.1 12) + (Int32.ofInt 1))).1 11) x1) 13 ((zsR (zsS S 12 ((S.1 12) + (Int32.ofInt 1))) 12 ((zsS S 12 ((S.1 12) + (Int32.ofInt 1))).1 11) x1).1 11) x2) 14 ((zsR (zsR (zsS S 12 ((S.1 12) + (Int32.ofInt 1))) 12 ((zsS S 12 ((S.1 12) + (Int32.ofInt 1))).1 11) x1) 13 ((zsR (zsS S 12 ((S.1 12) + (Int32.ofInt 1))) 12 ((zsS S 12 ((S.1 12) + (Int32.ofInt 1))).1 11) x1).1 11) x2).1 11) x3) 11 (((zsR (zsR (zsR (zsS S 12 ((S.1 12) + (Int32.ofInt 1))) 12 ((zsS S 12 ((S.1 12) + (Int32.ofInt 1))).1 11) x1) 13 ((zsR (zsS S 12 ((S.1 12) + (Int32.ofInt 1))) 12 ((zsS S 12 ((S.1 12) + (Int32.ofInt 1))).1 11) x1).1 11) x2) 14 ((zsR (zsR (zsS S 12 ((S.1 12) + (Int32.ofInt 1))) 12 ((zsS S 12 ((S.1 12) + (Int32.ofInt 1))).1 11) x1) 13 ((zsR (zsS S 12 ((S.1 12) + (Int32.ofInt 1))) 12 ((zsS S 12 ((S.1 12) + (Int32.ofInt 1))).1 11) x1).1 11) x2).1 11) x3).1 11) + (Int32.ofInt 1))) else (zsS S 12 ((S.1 12) + (Int32.ofInt 1))))
theorem e_31 {x1 x2 x3 : Int32} (HL : zaL S.2) : zpM xs N 31 [.ref 29, .int x1, .int x2, .int x3] (zx S.1 S.2 T) nc ns (zOq (.inl none) (zx (F31 x1 x2 x3 S).1 (F31 x1 x2 x3 S).2 T)) := by
  intro L0 e
  cases e
  refine zpE_run 2 (L' := [some (.ref 29), some (.int x1), some (.int x2), some (.int x3)]) (st' := [.int (Int32.ofInt (-1)), .int x2]) rfl ?_
  refine zpE_icmp rfl (fun q2 => ?_) (fun q2 => ?_)
  · have z2_0 := zF_n1 q2
    refine zpE_run 9 (L' := [some (.ref 29), some (.int x1), some (.int x2), some (.int x3)]) (st' := [.int (Int32.ofInt 40), .int ((zsS S 12 ((S.1 12) + (Int32.ofInt 1))).1 11)]) (h' := zx (zsS S 12 ((S.1 12) + (Int32.ofInt 1))).1 (zsS S 12 ((S.1 12) + (Int32.ofInt 1))).2 T) rfl ?_
    refine zpE_icmp rfl (fun q34 => ?_) (fun q34 => ?_)
    · have z34_1 := Int.not_lt.mpr (zF_ge_t q34)
      exact zpE_end rfl rfl (zOq_f (S' := zsS S 12 ((S.1 12) + (Int32.ofInt 1))) (by unfold F31; rw [if_neg z2_0, if_neg z34_1]))
    · have z34_1 := zF_ge_f q34
      refine zpE_run 5 (L' := [some (.ref 29), some (.int x1), some (.int x2), some (.int x3)]) (st' := [.int x1, .int ((zsS S 12 ((S.1 12) + (Int32.ofInt 1))).1 11), .ref 30]) rfl ?_
      refine zpE_call rfl rfl (p_26 12 31 30 rfl rfl (fun _ => rfl) ((ln_S HL : zaL (zsS S 12 ((S.1 12) + (Int32.ofInt 1))).2) 12)) (fun v h1 nc1 ns1 q8 => ?_) (fun E h1 nc1 ns1 q8 => by cases q8)
      cases q8
      refine zpE_run 5 (L' := [some (.ref 29), some (.int x1), some (.int x2), some (.int x3)]) (st' := [.int x2, .int ((zsR (zsS S 12 ((S.1 12) + (Int32.ofInt 1))) 12 ((zsS S 12 ((S.1 12) + (Int32.ofInt 1))).1 11) x1).1 11), .ref 32]) rfl ?_
      refine zpE_call rfl rfl (p_26 13 33 32 rfl rfl (fun _ => rfl) ((ln_R (ln_S HL) : zaL (zsR (zsS S 12 ((S.1 12) + (Int32.ofInt 1))) 12 ((zsS S 12 ((S.1 12) + (Int32.ofInt 1))).1 11) x1).2) 13)) (fun v h1 nc1 ns1 q8 => ?_) (fun E h1 nc1 ns1 q8 => by cases q8)
      cases q8
      refine zpE_run 5 (L' := [some (.ref 29), some (.int x1), some (.int x2), some (.int x3)]) (st' := [.int x3, .int ((zsR (zsR (zsS S 12 ((S.1 12) + (Int32.ofInt 1))) 12 ((zsS S 12 ((S.1 12) + (Int32.ofInt 1))).1 11) x1) 13 ((zsR (zsS S 12 ((S.1 12) + (Int32.ofInt 1))) 12 ((zsS S 12 ((S.1 12) + (Int32.ofInt 1))).1 11) x1).1 11) x2).1 11), .ref 34]) rfl ?_
      refine zpE_call rfl rfl (p_26 14 35 34 rfl rfl (fun _ => rfl) ((ln_R (ln_R (ln_S HL)) : zaL (zsR (zsR (zsS S 12 ((S.1 12) + (Int32.ofInt 1))) 12 ((zsS S 12 ((S.1 12) + (Int32.ofInt 1))).1 11) x1) 13 ((zsR (zsS S 12 ((S.1 12) + (Int32.ofInt 1))) 12 ((zsS S 12 ((S.1 12) + (Int32.ofInt 1))).1 11) x1).1 11) x2).2) 14)) (fun v h1 nc1 ns1 q8 => ?_) (fun E h1 nc1 ns1 q8 => by cases q8)
      cases q8
      refine zpE_run 6 (L' := [some (.ref 29), some (.int x1), some (.int x2), some (.int x3)]) (st' := []) (h' := zx (zsS (zsR (zsR (zsR (zsS S 12 ((S.1 12) + (Int32.ofInt 1))) 12 ((zsS S 12 ((S.1 12) + (Int32.ofInt 1))).1 11) x1) 13 ((zsR (zsS S 12 ((S.1 12) + (Int32.ofInt 1))) 12 ((zsS S 12 ((S.1 12) + (Int32.ofInt 1))).1 11) x1).1 11) x2) 14 ((zsR (zsR (zsS S 12 ((S.1 12) + (Int32.ofInt 1))) 12 ((zsS S 12 ((S.1 12) + (Int32.ofInt 1))).1 11) x1) 13 ((zsR (zsS S 12 ((S.1 12) + (Int32.ofInt 1))) 12 ((zsS S 12 ((S.1 12) + (Int32.ofInt 1))).1 11) x1).1 11) x2).1 11) x3) 11 (((zsR (zsR (zsR (zsS S 12 ((S.1 12) + (Int32.ofInt 1))) 12 ((zsS S 12 ((S.1 12) + (Int32.ofInt 1))).1 11) x1) 13 ((zsR (zsS S 12 ((S.1 12) + (Int32.ofInt 1))) 12 ((zsS S 12 ((S.1 12) + (Int32.ofInt 1))).1 11) x1).1 11) x2) 14 ((zsR (zsR (zsS S 12 ((S.1 12) + (Int32.ofInt 1))) 12 ((zsS S 12 ((S.1 12) + (Int32.ofInt 1))).1 11) x1) 13 ((zsR (zsS S 12 ((S.1 12) + (Int32.ofInt 1))) 12 ((zsS S 12 ((S.1 12) + (Int32.ofInt 1))).1 11) x1).1 11) x2).1 11) x3).1 11) + (Int32.ofInt 1))).1 (zsS (zsR (zsR (zsR (zsS S 12 ((S.1 12) + (Int32.ofInt 1))) 12 ((zsS S 12 ((S.1 12) + (Int32.ofInt 1))).1 11) x1) 13 ((zsR (zsS S 12 ((S.1 12) + (Int32.ofInt 1))) 12 ((zsS S 12 ((S.1 12) + (Int32.ofInt 1))).1 11) x1).1 11) x2) 14 ((zsR (zsR (zsS S 12 ((S.1 12) + (Int32.ofInt 1))) 12 ((zsS S 12 ((S.1 12) + (Int32.ofInt 1))).1 11) x1) 13 ((zsR (zsS S 12 ((S.1 12) + (Int32.ofInt 1))) 12 ((zsS S 12 ((S.1 12) + (Int32.ofInt 1))).1 11) x1).1 11) x2).1 11) x3) 11 (((zsR (zsR (zsR (zsS S 12 ((S.1 12) + (Int32.ofInt 1))) 12 ((zsS S 12 ((S.1 12) + (Int32.ofInt 1))).1 11) x1) 13 ((zsR (zsS S 12 ((S.1 12) + (Int32.ofInt 1))) 12 ((zsS S 12 ((S.1 12) + (Int32.ofInt 1))).1 11) x1).1 11) x2) 14 ((zsR (zsR (zsS S 12 ((S.1 12) + (Int32.ofInt 1))) 12 ((zsS S 12 ((S.1 12) + (Int32.ofInt 1))).1 11) x1) 13 ((zsR (zsS S 12 ((S.1 12) + (Int32.ofInt 1))) 12 ((zsS S 12 ((S.1 12) + (Int32.ofInt 1))).1 11) x1).1 11) x2).1 11) x3).1 11) + (Int32.ofInt 1))).2 T) rfl ?_
      exact zpE_end rfl rfl (zOq_f (S' := zsS (zsR (zsR (zsR (zsS S 12 ((S.1 12) + (Int32.ofInt 1))) 12 ((zsS S 12 ((S.1 12) + (Int32.ofInt 1))).1 11) x1) 13 ((zsR (zsS S 12 ((S.1 12) + (Int32.ofInt 1))) 12 ((zsS S 12 ((S.1 12) + (Int32.ofInt 1))).1 11) x1).1 11) x2) 14 ((zsR (zsR (zsS S 12 ((S.1 12) + (Int32.ofInt 1))) 12 ((zsS S 12 ((S.1 12) + (Int32.ofInt 1))).1 11) x1) 13 ((zsR (zsS S 12 ((S.1 12) + (Int32.ofInt 1))) 12 ((zsS S 12 ((S.1 12) + (Int32.ofInt 1))).1 11) x1).1 11) x2).1 11) x3) 11 (((zsR (zsR (zsR (zsS S 12 ((S.1 12) + (Int32.ofInt 1))) 12 ((zsS S 12 ((S.1 12) + (Int32.ofInt 1))).1 11) x1) 13 ((zsR (zsS S 12 ((S.1 12) + (Int32.ofInt 1))) 12 ((zsS S 12 ((S.1 12) + (Int32.ofInt 1))).1 11) x1).1 11) x2) 14 ((zsR (zsR (zsS S 12 ((S.1 12) + (Int32.ofInt 1))) 12 ((zsS S 12 ((S.1 12) + (Int32.ofInt 1))).1 11) x1) 13 ((zsR (zsS S 12 ((S.1 12) + (Int32.ofInt 1))) 12 ((zsS S 12 ((S.1 12) + (Int32.ofInt 1))).1 11) x1).1 11) x2).1 11) x3).1 11) + (Int32.ofInt 1))) (by unfold F31; rw [if_neg z2_0, if_pos z34_1]))
  · have z2_0 := zF_n0 q2
    refine zpE_run 10 (L' := [some (.ref 29), some (.int x1), some (.int x2), some (.int x3)]) (st' := [.int (Int32.ofInt 40), .int ((zsS S 13 ((S.1 13) + (Int32.ofInt 1))).1 11)]) (h' := zx (zsS S 13 ((S.1 13) + (Int32.ofInt 1))).1 (zsS S 13 ((S.1 13) + (Int32.ofInt 1))).2 T) rfl ?_
    refine zpE_icmp rfl (fun q34 => ?_) (fun q34 => ?_)
    · have z34_1 := Int.not_lt.mpr (zF_ge_t q34)
      exact zpE_end rfl rfl (zOq_f (S' := zsS S 13 ((S.1 13) + (Int32.ofInt 1))) (by unfold F31; rw [if_pos z2_0, if_neg z34_1]))
    · have z34_1 := zF_ge_f q34
      refine zpE_run 5 (L' := [some (.ref 29), some (.int x1), some (.int x2), some (.int x3)]) (st' := [.int x1, .int ((zsS S 13 ((S.1 13) + (Int32.ofInt 1))).1 11), .ref 30]) rfl ?_
      refine zpE_call rfl rfl (p_26 12 31 30 rfl rfl (fun _ => rfl) ((ln_S HL : zaL (zsS S 13 ((S.1 13) + (Int32.ofInt 1))).2) 12)) (fun v h1 nc1 ns1 q8 => ?_) (fun E h1 nc1 ns1 q8 => by cases q8)
      cases q8
      refine zpE_run 5 (L' := [some (.ref 29), some (.int x1), some (.int x2), some (.int x3)]) (st' := [.int x2, .int ((zsR (zsS S 13 ((S.1 13) + (Int32.ofInt 1))) 12 ((zsS S 13 ((S.1 13) + (Int32.ofInt 1))).1 11) x1).1 11), .ref 32]) rfl ?_
      refine zpE_call rfl rfl (p_26 13 33 32 rfl rfl (fun _ => rfl) ((ln_R (ln_S HL) : zaL (zsR (zsS S 13 ((S.1 13) + (Int32.ofInt 1))) 12 ((zsS S 13 ((S.1 13) + (Int32.ofInt 1))).1 11) x1).2) 13)) (fun v h1 nc1 ns1 q8 => ?_) (fun E h1 nc1 ns1 q8 => by cases q8)
      cases q8
      refine zpE_run 5 (L' := [some (.ref 29), some (.int x1), some (.int x2), some (.int x3)]) (st' := [.int x3, .int ((zsR (zsR (zsS S 13 ((S.1 13) + (Int32.ofInt 1))) 12 ((zsS S 13 ((S.1 13) + (Int32.ofInt 1))).1 11) x1) 13 ((zsR (zsS S 13 ((S.1 13) + (Int32.ofInt 1))) 12 ((zsS S 13 ((S.1 13) + (Int32.ofInt 1))).1 11) x1).1 11) x2).1 11), .ref 34]) rfl ?_
      refine zpE_call rfl rfl (p_26 14 35 34 rfl rfl (fun _ => rfl) ((ln_R (ln_R (ln_S HL)) : zaL (zsR (zsR (zsS S 13 ((S.1 13) + (Int32.ofInt 1))) 12 ((zsS S 13 ((S.1 13) + (Int32.ofInt 1))).1 11) x1) 13 ((zsR (zsS S 13 ((S.1 13) + (Int32.ofInt 1))) 12 ((zsS S 13 ((S.1 13) + (Int32.ofInt 1))).1 11) x1).1 11) x2).2) 14)) (fun v h1 nc1 ns1 q8 => ?_) (fun E h1 nc1 ns1 q8 => by cases q8)
      cases q8
      refine zpE_run 6 (L' := [some (.ref 29), some (.int x1), some (.int x2), some (.int x3)]) (st' := []) (h' := zx (zsS (zsR (zsR (zsR (zsS S 13 ((S.1 13) + (Int32.ofInt 1))) 12 ((zsS S 13 ((S.1 13) + (Int32.ofInt 1))).1 11) x1) 13 ((zsR (zsS S 13 ((S.1 13) + (Int32.ofInt 1))) 12 ((zsS S 13 ((S.1 13) + (Int32.ofInt 1))).1 11) x1).1 11) x2) 14 ((zsR (zsR (zsS S 13 ((S.1 13) + (Int32.ofInt 1))) 12 ((zsS S 13 ((S.1 13) + (Int32.ofInt 1))).1 11) x1) 13 ((zsR (zsS S 13 ((S.1 13) + (Int32.ofInt 1))) 12 ((zsS S 13 ((S.1 13) + (Int32.ofInt 1))).1 11) x1).1 11) x2).1 11) x3) 11 (((zsR (zsR (zsR (zsS S 13 ((S.1 13) + (Int32.ofInt 1))) 12 ((zsS S 13 ((S.1 13) + (Int32.ofInt 1))).1 11) x1) 13 ((zsR (zsS S 13 ((S.1 13) + (Int32.ofInt 1))) 12 ((zsS S 13 ((S.1 13) + (Int32.ofInt 1))).1 11) x1).1 11) x2) 14 ((zsR (zsR (zsS S 13 ((S.1 13) + (Int32.ofInt 1))) 12 ((zsS S 13 ((S.1 13) + (Int32.ofInt 1))).1 11) x1) 13 ((zsR (zsS S 13 ((S.1 13) + (Int32.ofInt 1))) 12 ((zsS S 13 ((S.1 13) + (Int32.ofInt 1))).1 11) x1).1 11) x2).1 11) x3).1 11) + (Int32.ofInt 1))).1 (zsS (zsR (zsR (zsR (zsS S 13 ((S.1 13) + (Int32.ofInt 1))) 12 ((zsS S 13 ((S.1 13) + (Int32.ofInt 1))).1 11) x1) 13 ((zsR (zsS S 13 ((S.1 13) + (Int32.ofInt 1))) 12 ((zsS S 13 ((S.1 13) + (Int32.ofInt 1))).1 11) x1).1 11) x2) 14 ((zsR (zsR (zsS S 13 ((S.1 13) + (Int32.ofInt 1))) 12 ((zsS S 13 ((S.1 13) + (Int32.ofInt 1))).1 11) x1) 13 ((zsR (zsS S 13 ((S.1 13) + (Int32.ofInt 1))) 12 ((zsS S 13 ((S.1 13) + (Int32.ofInt 1))).1 11) x1).1 11) x2).1 11) x3) 11 (((zsR (zsR (zsR (zsS S 13 ((S.1 13) + (Int32.ofInt 1))) 12 ((zsS S 13 ((S.1 13) + (Int32.ofInt 1))).1 11) x1) 13 ((zsR (zsS S 13 ((S.1 13) + (Int32.ofInt 1))) 12 ((zsS S 13 ((S.1 13) + (Int32.ofInt 1))).1 11) x1).1 11) x2) 14 ((zsR (zsR (zsS S 13 ((S.1 13) + (Int32.ofInt 1))) 12 ((zsS S 13 ((S.1 13) + (Int32.ofInt 1))).1 11) x1) 13 ((zsR (zsS S 13 ((S.1 13) + (Int32.ofInt 1))) 12 ((zsS S 13 ((S.1 13) + (Int32.ofInt 1))).1 11) x1).1 11) x2).1 11) x3).1 11) + (Int32.ofInt 1))).2 T) rfl ?_
      exact zpE_end rfl rfl (zOq_f (S' := zsS (zsR (zsR (zsR (zsS S 13 ((S.1 13) + (Int32.ofInt 1))) 12 ((zsS S 13 ((S.1 13) + (Int32.ofInt 1))).1 11) x1) 13 ((zsR (zsS S 13 ((S.1 13) + (Int32.ofInt 1))) 12 ((zsS S 13 ((S.1 13) + (Int32.ofInt 1))).1 11) x1).1 11) x2) 14 ((zsR (zsR (zsS S 13 ((S.1 13) + (Int32.ofInt 1))) 12 ((zsS S 13 ((S.1 13) + (Int32.ofInt 1))).1 11) x1) 13 ((zsR (zsS S 13 ((S.1 13) + (Int32.ofInt 1))) 12 ((zsS S 13 ((S.1 13) + (Int32.ofInt 1))).1 11) x1).1 11) x2).1 11) x3) 11 (((zsR (zsR (zsR (zsS S 13 ((S.1 13) + (Int32.ofInt 1))) 12 ((zsS S 13 ((S.1 13) + (Int32.ofInt 1))).1 11) x1) 13 ((zsR (zsS S 13 ((S.1 13) + (Int32.ofInt 1))) 12 ((zsS S 13 ((S.1 13) + (Int32.ofInt 1))).1 11) x1).1 11) x2) 14 ((zsR (zsR (zsS S 13 ((S.1 13) + (Int32.ofInt 1))) 12 ((zsS S 13 ((S.1 13) + (Int32.ofInt 1))).1 11) x1) 13 ((zsR (zsS S 13 ((S.1 13) + (Int32.ofInt 1))) 12 ((zsS S 13 ((S.1 13) + (Int32.ofInt 1))).1 11) x1).1 11) x2).1 11) x3).1 11) + (Int32.ofInt 1))) (by unfold F31; rw [if_pos z2_0, if_pos z34_1]))
theorem fr_F31 {x1 x2 x3 : Int32} : zfrm [11, 12, 13] [12, 13, 14] (F31 x1 x2 x3 S) S := by
  unfold F31
  exact (fm_ite (fm_ite (fm_c fm_S (fm_c fm_R (fm_c fm_R (fm_c fm_R (fm_c fm_S fm_rf (by decide) (by decide)) (by decide) (by decide)) (by decide) (by decide)) (by decide) (by decide)) (by decide) (by decide)) (fm_c fm_S fm_rf (by decide) (by decide))) (fm_ite (fm_c fm_S (fm_c fm_R (fm_c fm_R (fm_c fm_R (fm_c fm_S fm_rf (by decide) (by decide)) (by decide) (by decide)) (by decide) (by decide)) (by decide) (by decide)) (by decide) (by decide)) (fm_c fm_S fm_rf (by decide) (by decide))))
theorem ln_F31 {x1 x2 x3 : Int32} (HL : zaL S.2) : zaL (F31 x1 x2 x3 S).2 := fm_L fr_F31 HL
def D42 (x1 : Int32) (x2 : Int32) (S : zSt) (k : Nat) (u : Int32) : Int32 := if (zgt (S.2 6) ((Int32.ofNat k))) = x1 then (if (zgt (S.2 8) ((Int32.ofNat k))) = (Int32.ofInt 1) then (u ||| (zgt (S.2 7) ((Int32.ofNat k)))) else (u &&& ((zgt (S.2 7) ((Int32.ofNat k))) ^^^ (Int32.ofInt (-1))))) else u
def W42 (x1 : Int32) (x2 : Int32) (S : zSt) (u0 : Int32) : Nat → Int32
  | 0 => u0
  | k + 1 => D42 x1 x2 S k (W42 x1 x2 S u0 k)
def Y42 (x1 : Int32) (x2 : Int32) (S : zSt) (u : Int32) : Int32 := u
theorem l_42 {x1 x2 : Int32} {u0 : Int32} (HL : zaL S.2) : ∀ (N k : Nat) (o5 : Option Value) (nc ns : Nat), k ≤ (S.1 9).toInt.toNat → zpE xs N 42 5 [some (.ref 6), some (.int x1), some (.int x2), some (.int ((W42 x1 x2 S u0 k))), some (.int (Int32.ofNat k)), o5] [] (zx S.1 S.2 T) nc ns (zOq (.inl (some (.int (Y42 x1 x2 S (W42 x1 x2 S u0 (S.1 9).toInt.toNat))))) (zx S.1 S.2 T))
  | 0, _, _, _, _, _ => zpE_0
  | N + 1, k, o5, nc, ns, hk => by
    refine zpE_run1 3 (L' := [some (.ref 6), some (.int x1), some (.int x2), some (.int ((W42 x1 x2 S u0 k))), some (.int (Int32.ofNat k)), o5]) (st' := [.int (S.1 9), .int (Int32.ofNat k)]) rfl ?_
    refine zpE_icmp rfl (fun q14 => ?_) (fun q14 => ?_)
    · have z14_0 := Int.not_lt.mpr (zF_ge_t q14)
      refine zpE_run 1 (L' := [some (.ref 6), some (.int x1), some (.int x2), some (.int ((W42 x1 x2 S u0 k))), some (.int (Int32.ofNat k)), o5]) (st' := [.int ((W42 x1 x2 S u0 k))]) rfl ?_
      exact zpE_end rfl rfl (by rw [← zlp_out z14_0 hk]; exact zOq_v (by unfold Y42; (first | done | rfl)))
    · have z14_0 := zF_ge_f q14
      refine zpE_run 4 (L' := [some (.ref 6), some (.int x1), some (.int x2), some (.int ((W42 x1 x2 S u0 k))), some (.int (Int32.ofNat k)), o5]) (st' := [.int (Int32.ofNat k), .ref 16]) rfl ?_
      refine zpE_call rfl rfl (p_25 6 17 16 rfl rfl (HL : zaL S.2)) (fun v h1 nc1 ns1 q8 => ?_) (fun E h1 nc1 ns1 q8 => by cases q8)
      cases q8
      refine zpE_run 1 (L' := [some (.ref 6), some (.int x1), some (.int x2), some (.int ((W42 x1 x2 S u0 k))), some (.int (Int32.ofNat k)), o5]) (st' := [.int x1, .int (zgt (S.2 6) (Int32.ofNat k))]) rfl ?_
      refine zpE_icmp rfl (fun q30 => ?_) (fun q30 => ?_)
      · have z30_1 := zF_n1 q30
        refine zpE_run 2 (L' := [some (.ref 6), some (.int x1), some (.int x2), some (.int ((W42 x1 x2 S u0 k))), some (.int ((Int32.ofNat k) + Int32.ofInt 1)), o5]) (st' := []) rfl ?_
        have K := fun o5 nc ns => l_42 (x1 := x1) (x2 := x2) (u0 := u0) HL N (k + 1) o5 nc ns (zlp_in z14_0 hk)
        rw [← zof1, show W42 x1 x2 S u0 (k + 1) = (W42 x1 x2 S u0 k) from by
            show D42 x1 x2 S k _ = _
            unfold D42
            rw [if_neg z30_1]] at K
        exact K _ _ _
      · have z30_1 := zF_n0 q30
        refine zpE_run 4 (L' := [some (.ref 6), some (.int x1), some (.int x2), some (.int ((W42 x1 x2 S u0 k))), some (.int (Int32.ofNat k)), o5]) (st' := [.int (Int32.ofNat k), .ref 18]) rfl ?_
        refine zpE_call rfl rfl (p_25 7 19 18 rfl rfl (HL : zaL S.2)) (fun v h1 nc1 ns1 q8 => ?_) (fun E h1 nc1 ns1 q8 => by cases q8)
        cases q8
        refine zpE_run 5 (L' := [some (.ref 6), some (.int x1), some (.int x2), some (.int ((W42 x1 x2 S u0 k))), some (.int (Int32.ofNat k)), some (.int (zgt (S.2 7) (Int32.ofNat k)))]) (st' := [.int (Int32.ofNat k), .ref 20]) rfl ?_
        refine zpE_call rfl rfl (p_25 8 21 20 rfl rfl (HL : zaL S.2)) (fun v h1 nc1 ns1 q8 => ?_) (fun E h1 nc1 ns1 q8 => by cases q8)
        cases q8
        refine zpE_run 1 (L' := [some (.ref 6), some (.int x1), some (.int x2), some (.int ((W42 x1 x2 S u0 k))), some (.int (Int32.ofNat k)), some (.int (zgt (S.2 7) (Int32.ofNat k)))]) (st' := [.int (Int32.ofInt 1), .int (zgt (S.2 8) (Int32.ofNat k))]) rfl ?_
        refine zpE_icmp rfl (fun q60 => ?_) (fun q60 => ?_)
        · have z60_2 := zF_n1 q60
          refine zpE_run 8 (L' := [some (.ref 6), some (.int x1), some (.int x2), some (.int (((W42 x1 x2 S u0 k)) &&& ((zgt (S.2 7) (Int32.ofNat k)) ^^^ (Int32.ofInt (-1))))), some (.int ((Int32.ofNat k) + Int32.ofInt 1)), some (.int (zgt (S.2 7) (Int32.ofNat k)))]) (st' := []) rfl ?_
          have K := fun o5 nc ns => l_42 (x1 := x1) (x2 := x2) (u0 := u0) HL N (k + 1) o5 nc ns (zlp_in z14_0 hk)
          rw [← zof1, show W42 x1 x2 S u0 (k + 1) = ((W42 x1 x2 S u0 k)) &&& ((zgt (S.2 7) (Int32.ofNat k)) ^^^ (Int32.ofInt (-1))) from by
              show D42 x1 x2 S k _ = _
              unfold D42
              rw [if_pos z30_1, if_neg z60_2]] at K
          exact K _ _ _
        · have z60_2 := zF_n0 q60
          refine zpE_run 7 (L' := [some (.ref 6), some (.int x1), some (.int x2), some (.int (((W42 x1 x2 S u0 k)) ||| (zgt (S.2 7) (Int32.ofNat k)))), some (.int ((Int32.ofNat k) + Int32.ofInt 1)), some (.int (zgt (S.2 7) (Int32.ofNat k)))]) (st' := []) rfl ?_
          have K := fun o5 nc ns => l_42 (x1 := x1) (x2 := x2) (u0 := u0) HL N (k + 1) o5 nc ns (zlp_in z14_0 hk)
          rw [← zof1, show W42 x1 x2 S u0 (k + 1) = ((W42 x1 x2 S u0 k)) ||| (zgt (S.2 7) (Int32.ofNat k)) from by
              show D42 x1 x2 S k _ = _
              unfold D42
              rw [if_pos z30_1, if_pos z60_2]] at K
          exact K _ _ _
def V42 (x1 : Int32) (x2 : Int32) (S : zSt) : Int32 := Y42 x1 x2 S (W42 x1 x2 S x2 (S.1 9).toInt.toNat)
theorem e_42 {x1 x2 : Int32} (HL : zaL S.2) : zpM xs N 42 [.ref 6, .int x1, .int x2] (zx S.1 S.2 T) nc ns (zOq (.inl (some (.int (V42 x1 x2 S)))) (zx S.1 S.2 T)) := by
  intro L0 e
  cases e
  refine zpE_run 4 rfl ?_
  exact l_42 (x1 := x1) (x2 := x2) (S := S) (u0 := x2) HL N 0 _ _ _ (Nat.zero_le _)
def F41 (x1 : Int32) (x2 : Int32) (S : zSt) : zSt := zsR S 2 x1 (V42 x1 x2 S)
theorem e_41 {x1 x2 : Int32} (HL : zaL S.2) : zpM xs N 41 [.ref 6, .int x1, .int x2] (zx S.1 S.2 T) nc ns (zOq (.inl none) (zx (F41 x1 x2 S).1 (F41 x1 x2 S).2 T)) := by
  intro L0 e
  cases e
  refine zpE_run 6 (L' := [some (.ref 6), some (.int x1), some (.int x2)]) (st' := [.int x2, .int x1, .ref 6, .int x1, .ref 7]) rfl ?_
  refine zpE_call rfl rfl (e_42 (S := S) (x1 := x1) (x2 := x2) HL) (fun v h1 nc1 ns1 q8 => ?_) (fun E h1 nc1 ns1 q8 => by cases q8.1)
  obtain ⟨q8, q9⟩ := q8
  cases q8
  cases q9
  refine zpE_call rfl rfl (p_26 2 8 7 rfl rfl (fun _ => rfl) ((HL : zaL S.2) 2)) (fun v h1 nc1 ns1 q8 => ?_) (fun E h1 nc1 ns1 q8 => by cases q8)
  cases q8
  exact zpE_end rfl rfl (zOq_f (S' := zsR S 2 x1 (V42 x1 x2 S)) (by unfold F41; (first | done | rfl)))
theorem fr_F41 {x1 x2 : Int32} : zfrm [] [2] (F41 x1 x2 S) S := by
  unfold F41
  exact (fm_c fm_R fm_rf (by decide) (by decide))
theorem ln_F41 {x1 x2 : Int32} (HL : zaL S.2) : zaL (F41 x1 x2 S).2 := fm_L fr_F41 HL
def V45  (S : zSt) : Int32 := (S.1 7)
def F45  (S : zSt) : zSt := zsS (zsS S 7 (zrmd (((Int32.ofInt 17) * (S.1 7)) + (Int32.ofInt 43)) (Int32.ofInt 251))) 8 (((zsS S 7 (zrmd (((Int32.ofInt 17) * (S.1 7)) + (Int32.ofInt 43)) (Int32.ofInt 251))).1 8) + (Int32.ofInt 1))
theorem e_45 (HL : zaL S.2) : zpM xs N 45 [.ref 6] (zx S.1 S.2 T) nc ns (zOq (.inl (some (.int (V45 S)))) (zx (F45 S).1 (F45 S).2 T)) := by
  intro L0 e
  cases e
  refine zpE_run 10 (L' := [some (.ref 6), some (.int (S.1 7))]) (st' := [.int (Int32.ofInt 251), .int (((Int32.ofInt 17) * (S.1 7)) + (Int32.ofInt 43)), .ref 6]) rfl ?_
  refine zpE_irem rfl (fun _ => ?_)
  refine zpE_run 8 (L' := [some (.ref 6), some (.int (S.1 7))]) (st' := [.int (S.1 7)]) (h' := zx (zsS (zsS S 7 (zrmd (((Int32.ofInt 17) * (S.1 7)) + (Int32.ofInt 43)) (Int32.ofInt 251))) 8 (((zsS S 7 (zrmd (((Int32.ofInt 17) * (S.1 7)) + (Int32.ofInt 43)) (Int32.ofInt 251))).1 8) + (Int32.ofInt 1))).1 (zsS (zsS S 7 (zrmd (((Int32.ofInt 17) * (S.1 7)) + (Int32.ofInt 43)) (Int32.ofInt 251))) 8 (((zsS S 7 (zrmd (((Int32.ofInt 17) * (S.1 7)) + (Int32.ofInt 43)) (Int32.ofInt 251))).1 8) + (Int32.ofInt 1))).2 T) rfl ?_
  exact zpE_end rfl rfl (zOq_w (S' := zsS (zsS S 7 (zrmd (((Int32.ofInt 17) * (S.1 7)) + (Int32.ofInt 43)) (Int32.ofInt 251))) 8 (((zsS S 7 (zrmd (((Int32.ofInt 17) * (S.1 7)) + (Int32.ofInt 43)) (Int32.ofInt 251))).1 8) + (Int32.ofInt 1))) (by unfold V45; (first | done | rfl)) (by unfold F45; (first | done | rfl)))
theorem fr_F45 : zfrm [7, 8] [] (F45 S) S := by
  unfold F45
  exact (fm_c fm_S (fm_c fm_S fm_rf (by decide) (by decide)) (by decide) (by decide))
theorem ln_F45 (HL : zaL S.2) : zaL (F45 S).2 := fm_L fr_F45 HL
def F44 (x1 : Int32) (S : zSt) : zSt := if ((0 : Int32)).toInt < ((F45 (F45 S)).1 3).toInt then ((F41 ((x1 * (Int32.ofInt 8)) + (zrmd (V45 S) (Int32.ofInt 8))) ((zgt ((F45 (F45 S)).2 2) ((x1 * (Int32.ofInt 8)) + (zrmd (V45 S) (Int32.ofInt 8)))) ^^^ ((Int32.ofInt 1) <<< ((zrmd (V45 (F45 S)) ((F45 (F45 S)).1 3)) &&& 31))) (F45 (F45 S)))) else ((F41 ((x1 * (Int32.ofInt 8)) + (zrmd (V45 S) (Int32.ofInt 8))) ((zgt ((F45 (F45 S)).2 2) ((x1 * (Int32.ofInt 8)) + (zrmd (V45 S) (Int32.ofInt 8)))) ^^^ ((Int32.ofInt 1) <<< ((Int32.ofInt 0) &&& 31))) (F45 (F45 S))))
theorem e_44 {x1 : Int32} (HL : zaL S.2) : zpM xs N 44 [.ref 6, .int x1] (zx S.1 S.2 T) nc ns (zOq (.inl none) (zx (F44 x1 S).1 (F44 x1 S).2 T)) := by
  intro L0 e
  cases e
  refine zpE_run 4 (L' := [some (.ref 6), some (.int x1), none, none, none]) (st' := [.ref 6, .int (x1 * (Int32.ofInt 8))]) rfl ?_
  refine zpE_call rfl rfl (e_45 (S := S) HL) (fun v h1 nc1 ns1 q8 => ?_) (fun E h1 nc1 ns1 q8 => by cases q8.1)
  obtain ⟨q8, q9⟩ := q8
  cases q8
  cases q9
  obtain ⟨Z1, hZ1⟩ : ∃ Z, Z = F45 S := ⟨_, rfl⟩
  rw [← hZ1]
  have LZ1 : zaL Z1.2 := by
    rw [hZ1]
    exact ln_F45 HL
  refine zpE_run 1 (L' := [some (.ref 6), some (.int x1), none, none, none]) (st' := [.int (Int32.ofInt 8), .int (V45 S), .int (x1 * (Int32.ofInt 8))]) rfl ?_
  refine zpE_irem rfl (fun _ => ?_)
  refine zpE_run 3 (L' := [some (.ref 6), some (.int x1), some (.int ((x1 * (Int32.ofInt 8)) + (zrmd (V45 S) (Int32.ofInt 8)))), none, none]) (st' := [.ref 6]) rfl ?_
  refine zpE_call rfl rfl (e_45 (S := Z1) LZ1) (fun v h1 nc1 ns1 q8 => ?_) (fun E h1 nc1 ns1 q8 => by cases q8.1)
  obtain ⟨q8, q9⟩ := q8
  cases q8
  cases q9
  obtain ⟨Z2, hZ2⟩ : ∃ Z, Z = F45 Z1 := ⟨_, rfl⟩
  rw [← hZ2]
  have LZ2 : zaL Z2.2 := by
    rw [hZ2]
    exact ln_F45 LZ1
  refine zpE_run 3 (L' := [some (.ref 6), some (.int x1), some (.int ((x1 * (Int32.ofInt 8)) + (zrmd (V45 S) (Int32.ofInt 8)))), some (.int (V45 Z1)), none]) (st' := [.int (Z2.1 3)]) rfl ?_
  refine zpE_if rfl (fun q22 => ?_) (fun q22 => ?_)
  · have z22_0 := Int.not_lt.mpr (zF_le_t q22)
    refine zpE_run 7 (L' := [some (.ref 6), some (.int x1), some (.int ((x1 * (Int32.ofInt 8)) + (zrmd (V45 S) (Int32.ofInt 8)))), some (.int (V45 Z1)), some (.int (Int32.ofInt 0))]) (st' := [.int ((x1 * (Int32.ofInt 8)) + (zrmd (V45 S) (Int32.ofInt 8))), .ref 7, .int ((x1 * (Int32.ofInt 8)) + (zrmd (V45 S) (Int32.ofInt 8))), .ref 6]) rfl ?_
    refine zpE_call rfl rfl (p_25 2 8 7 rfl rfl (LZ2 : zaL Z2.2)) (fun v h1 nc1 ns1 q8 => ?_) (fun E h1 nc1 ns1 q8 => by cases q8)
    cases q8
    refine zpE_run 4 (L' := [some (.ref 6), some (.int x1), some (.int ((x1 * (Int32.ofInt 8)) + (zrmd (V45 S) (Int32.ofInt 8)))), some (.int (V45 Z1)), some (.int (Int32.ofInt 0))]) (st' := [.int ((zgt (Z2.2 2) ((x1 * (Int32.ofInt 8)) + (zrmd (V45 S) (Int32.ofInt 8)))) ^^^ ((Int32.ofInt 1) <<< ((Int32.ofInt 0) &&& 31))), .int ((x1 * (Int32.ofInt 8)) + (zrmd (V45 S) (Int32.ofInt 8))), .ref 6]) rfl ?_
    refine zpE_call rfl rfl (e_41 (S := Z2) (x1 := (x1 * (Int32.ofInt 8)) + (zrmd (V45 S) (Int32.ofInt 8))) (x2 := (zgt (Z2.2 2) ((x1 * (Int32.ofInt 8)) + (zrmd (V45 S) (Int32.ofInt 8)))) ^^^ ((Int32.ofInt 1) <<< ((Int32.ofInt 0) &&& 31))) LZ2) (fun v h1 nc1 ns1 q8 => ?_) (fun E h1 nc1 ns1 q8 => by cases q8.1)
    obtain ⟨q8, q9⟩ := q8
    cases q8
    cases q9
    obtain ⟨Z3, hZ3⟩ : ∃ Z, Z = F41 ((x1 * (Int32.ofInt 8)) + (zrmd (V45 S) (Int32.ofInt 8))) ((zgt (Z2.2 2) ((x1 * (Int32.ofInt 8)) + (zrmd (V45 S) (Int32.ofInt 8)))) ^^^ ((Int32.ofInt 1) <<< ((Int32.ofInt 0) &&& 31))) Z2 := ⟨_, rfl⟩
    rw [← hZ3]
    have LZ3 : zaL Z3.2 := by
      rw [hZ3]
      exact ln_F41 LZ2
    exact zpE_end rfl rfl (zOq_f (S' := Z3) (by unfold F44; (try rw [← hZ1]); (try rw [← hZ2]); (try rw [← hZ3]); rw [if_neg z22_0]))
  · have z22_0 := zF_le_f q22
    refine zpE_run 3 (L' := [some (.ref 6), some (.int x1), some (.int ((x1 * (Int32.ofInt 8)) + (zrmd (V45 S) (Int32.ofInt 8)))), some (.int (V45 Z1)), none]) (st' := [.int (Z2.1 3), .int (V45 Z1)]) rfl ?_
    refine zpE_irem rfl (fun _ => ?_)
    refine zpE_run 7 (L' := [some (.ref 6), some (.int x1), some (.int ((x1 * (Int32.ofInt 8)) + (zrmd (V45 S) (Int32.ofInt 8)))), some (.int (V45 Z1)), some (.int (zrmd (V45 Z1) (Z2.1 3)))]) (st' := [.int ((x1 * (Int32.ofInt 8)) + (zrmd (V45 S) (Int32.ofInt 8))), .ref 7, .int ((x1 * (Int32.ofInt 8)) + (zrmd (V45 S) (Int32.ofInt 8))), .ref 6]) rfl ?_
    refine zpE_call rfl rfl (p_25 2 8 7 rfl rfl (LZ2 : zaL Z2.2)) (fun v h1 nc1 ns1 q8 => ?_) (fun E h1 nc1 ns1 q8 => by cases q8)
    cases q8
    refine zpE_run 4 (L' := [some (.ref 6), some (.int x1), some (.int ((x1 * (Int32.ofInt 8)) + (zrmd (V45 S) (Int32.ofInt 8)))), some (.int (V45 Z1)), some (.int (zrmd (V45 Z1) (Z2.1 3)))]) (st' := [.int ((zgt (Z2.2 2) ((x1 * (Int32.ofInt 8)) + (zrmd (V45 S) (Int32.ofInt 8)))) ^^^ ((Int32.ofInt 1) <<< ((zrmd (V45 Z1) (Z2.1 3)) &&& 31))), .int ((x1 * (Int32.ofInt 8)) + (zrmd (V45 S) (Int32.ofInt 8))), .ref 6]) rfl ?_
    refine zpE_call rfl rfl (e_41 (S := Z2) (x1 := (x1 * (Int32.ofInt 8)) + (zrmd (V45 S) (Int32.ofInt 8))) (x2 := (zgt (Z2.2 2) ((x1 * (Int32.ofInt 8)) + (zrmd (V45 S) (Int32.ofInt 8)))) ^^^ ((Int32.ofInt 1) <<< ((zrmd (V45 Z1) (Z2.1 3)) &&& 31))) LZ2) (fun v h1 nc1 ns1 q8 => ?_) (fun E h1 nc1 ns1 q8 => by cases q8.1)
    obtain ⟨q8, q9⟩ := q8
    cases q8
    cases q9
    obtain ⟨Z4, hZ4⟩ : ∃ Z, Z = F41 ((x1 * (Int32.ofInt 8)) + (zrmd (V45 S) (Int32.ofInt 8))) ((zgt (Z2.2 2) ((x1 * (Int32.ofInt 8)) + (zrmd (V45 S) (Int32.ofInt 8)))) ^^^ ((Int32.ofInt 1) <<< ((zrmd (V45 Z1) (Z2.1 3)) &&& 31))) Z2 := ⟨_, rfl⟩
    rw [← hZ4]
    have LZ4 : zaL Z4.2 := by
      rw [hZ4]
      exact ln_F41 LZ2
    exact zpE_end rfl rfl (zOq_f (S' := Z4) (by unfold F44; (try rw [← hZ1]); (try rw [← hZ2]); (try rw [← hZ4]); rw [if_pos z22_0]))
theorem fr_F44 {x1 : Int32} : zfrm [7, 8] [2] (F44 x1 S) S := by
  unfold F44
  exact (fm_ite (fm_c fr_F41 (fm_c fr_F45 (fm_c fr_F45 fm_rf (by decide) (by decide)) (by decide) (by decide)) (by decide) (by decide)) (fm_c fr_F41 (fm_c fr_F45 (fm_c fr_F45 fm_rf (by decide) (by decide)) (by decide) (by decide)) (by decide) (by decide)))
theorem ln_F44 {x1 : Int32} (HL : zaL S.2) : zaL (F44 x1 S).2 := fm_L fr_F44 HL
def F43 (x1 : Int32) (S : zSt) : zSt := if ((0 : Int32)).toInt < ((zsR (zsR S 3 x1 ((zgt (S.2 3) x1) + (Int32.ofInt 1))) 4 x1 ((zsR S 3 x1 ((zgt (S.2 3) x1) + (Int32.ofInt 1))).1 4)).1 6).toInt then (if (zrmd ((zgt (S.2 3) x1) + (Int32.ofInt 1)) ((zsR (zsR S 3 x1 ((zgt (S.2 3) x1) + (Int32.ofInt 1))) 4 x1 ((zsR S 3 x1 ((zgt (S.2 3) x1) + (Int32.ofInt 1))).1 4)).1 6)) = ((0 : Int32)) then (if ((0 : Int32)).toInt < (zrmd x1 (Int32.ofInt 10)).toInt then (if (zrmd x1 (Int32.ofInt 10)).toInt < (Int32.ofInt 9).toInt then ((F44 (x1 + (Int32.ofInt 1)) (F44 (x1 - (Int32.ofInt 1)) (zsR (zsR S 3 x1 ((zgt (S.2 3) x1) + (Int32.ofInt 1))) 4 x1 ((zsR S 3 x1 ((zgt (S.2 3) x1) + (Int32.ofInt 1))).1 4))))) else ((F44 (x1 - (Int32.ofInt 1)) (zsR (zsR S 3 x1 ((zgt (S.2 3) x1) + (Int32.ofInt 1))) 4 x1 ((zsR S 3 x1 ((zgt (S.2 3) x1) + (Int32.ofInt 1))).1 4))))) else (if (zrmd x1 (Int32.ofInt 10)).toInt < (Int32.ofInt 9).toInt then ((F44 (x1 + (Int32.ofInt 1)) (zsR (zsR S 3 x1 ((zgt (S.2 3) x1) + (Int32.ofInt 1))) 4 x1 ((zsR S 3 x1 ((zgt (S.2 3) x1) + (Int32.ofInt 1))).1 4)))) else (zsR (zsR S 3 x1 ((zgt (S.2 3) x1) + (Int32.ofInt 1))) 4 x1 ((zsR S 3 x1 ((zgt (S.2 3) x1) + (Int32.ofInt 1))).1 4)))) else (zsR (zsR S 3 x1 ((zgt (S.2 3) x1) + (Int32.ofInt 1))) 4 x1 ((zsR S 3 x1 ((zgt (S.2 3) x1) + (Int32.ofInt 1))).1 4))) else (zsR (zsR S 3 x1 ((zgt (S.2 3) x1) + (Int32.ofInt 1))) 4 x1 ((zsR S 3 x1 ((zgt (S.2 3) x1) + (Int32.ofInt 1))).1 4))
theorem e_43 {x1 : Int32} (HL : zaL S.2) : zpM xs N 43 [.ref 6, .int x1] (zx S.1 S.2 T) nc ns (zOq (.inl none) (zx (F43 x1 S).1 (F43 x1 S).2 T)) := by
  intro L0 e
  cases e
  refine zpE_run 3 (L' := [some (.ref 6), some (.int x1), none, none]) (st' := [.int x1, .ref 9]) rfl ?_
  refine zpE_call rfl rfl (p_25 3 10 9 rfl rfl (HL : zaL S.2)) (fun v h1 nc1 ns1 q8 => ?_) (fun E h1 nc1 ns1 q8 => by cases q8)
  cases q8
  refine zpE_run 7 (L' := [some (.ref 6), some (.int x1), some (.int ((zgt (S.2 3) x1) + (Int32.ofInt 1))), none]) (st' := [.int ((zgt (S.2 3) x1) + (Int32.ofInt 1)), .int x1, .ref 9]) rfl ?_
  refine zpE_call rfl rfl (p_26 3 10 9 rfl rfl (fun _ => rfl) ((HL : zaL S.2) 3)) (fun v h1 nc1 ns1 q8 => ?_) (fun E h1 nc1 ns1 q8 => by cases q8)
  cases q8
  refine zpE_run 5 (L' := [some (.ref 6), some (.int x1), some (.int ((zgt (S.2 3) x1) + (Int32.ofInt 1))), none]) (st' := [.int ((zsR S 3 x1 ((zgt (S.2 3) x1) + (Int32.ofInt 1))).1 4), .int x1, .ref 11]) rfl ?_
  refine zpE_call rfl rfl (p_26 4 12 11 rfl rfl (fun _ => rfl) ((ln_R HL : zaL (zsR S 3 x1 ((zgt (S.2 3) x1) + (Int32.ofInt 1))).2) 4)) (fun v h1 nc1 ns1 q8 => ?_) (fun E h1 nc1 ns1 q8 => by cases q8)
  cases q8
  refine zpE_run 2 (L' := [some (.ref 6), some (.int x1), some (.int ((zgt (S.2 3) x1) + (Int32.ofInt 1))), none]) (st' := [.int ((zsR (zsR S 3 x1 ((zgt (S.2 3) x1) + (Int32.ofInt 1))) 4 x1 ((zsR S 3 x1 ((zgt (S.2 3) x1) + (Int32.ofInt 1))).1 4)).1 6)]) rfl ?_
  refine zpE_if rfl (fun q36 => ?_) (fun q36 => ?_)
  · have z36_0 := Int.not_lt.mpr (zF_le_t q36)
    exact zpE_end rfl rfl (zOq_f (S' := zsR (zsR S 3 x1 ((zgt (S.2 3) x1) + (Int32.ofInt 1))) 4 x1 ((zsR S 3 x1 ((zgt (S.2 3) x1) + (Int32.ofInt 1))).1 4)) (by unfold F43; rw [if_neg z36_0]))
  · have z36_0 := zF_le_f q36
    refine zpE_run 3 (L' := [some (.ref 6), some (.int x1), some (.int ((zgt (S.2 3) x1) + (Int32.ofInt 1))), none]) (st' := [.int ((zsR (zsR S 3 x1 ((zgt (S.2 3) x1) + (Int32.ofInt 1))) 4 x1 ((zsR S 3 x1 ((zgt (S.2 3) x1) + (Int32.ofInt 1))).1 4)).1 6), .int ((zgt (S.2 3) x1) + (Int32.ofInt 1))]) rfl ?_
    refine zpE_irem rfl (fun _ => ?_)
    refine zpE_if rfl (fun q45 => ?_) (fun q45 => ?_)
    · have z45_1 := zF_n1 q45
      exact zpE_end rfl rfl (zOq_f (S' := zsR (zsR S 3 x1 ((zgt (S.2 3) x1) + (Int32.ofInt 1))) 4 x1 ((zsR S 3 x1 ((zgt (S.2 3) x1) + (Int32.ofInt 1))).1 4)) (by unfold F43; rw [if_pos z36_0, if_neg z45_1]))
    · have z45_1 := zF_n0 q45
      refine zpE_run 2 (L' := [some (.ref 6), some (.int x1), some (.int ((zgt (S.2 3) x1) + (Int32.ofInt 1))), none]) (st' := [.int (Int32.ofInt 10), .int x1]) rfl ?_
      refine zpE_irem rfl (fun _ => ?_)
      refine zpE_run 2 (L' := [some (.ref 6), some (.int x1), some (.int ((zgt (S.2 3) x1) + (Int32.ofInt 1))), some (.int (zrmd x1 (Int32.ofInt 10)))]) (st' := [.int (zrmd x1 (Int32.ofInt 10))]) rfl ?_
      refine zpE_if rfl (fun q54 => ?_) (fun q54 => ?_)
      · have z54_2 := Int.not_lt.mpr (zF_le_t q54)
        refine zpE_run 2 (L' := [some (.ref 6), some (.int x1), some (.int ((zgt (S.2 3) x1) + (Int32.ofInt 1))), some (.int (zrmd x1 (Int32.ofInt 10)))]) (st' := [.int (Int32.ofInt 9), .int (zrmd x1 (Int32.ofInt 10))]) rfl ?_
        refine zpE_icmp rfl (fun q67 => ?_) (fun q67 => ?_)
        · have z67_3 := Int.not_lt.mpr (zF_ge_t q67)
          exact zpE_end rfl rfl (zOq_f (S' := zsR (zsR S 3 x1 ((zgt (S.2 3) x1) + (Int32.ofInt 1))) 4 x1 ((zsR S 3 x1 ((zgt (S.2 3) x1) + (Int32.ofInt 1))).1 4)) (by unfold F43; rw [if_pos z36_0, if_pos z45_1, if_neg z54_2, if_neg z67_3]))
        · have z67_3 := zF_ge_f q67
          refine zpE_run 4 (L' := [some (.ref 6), some (.int x1), some (.int ((zgt (S.2 3) x1) + (Int32.ofInt 1))), some (.int (zrmd x1 (Int32.ofInt 10)))]) (st' := [.int (x1 + (Int32.ofInt 1)), .ref 6]) rfl ?_
          refine zpE_call rfl rfl (e_44 (S := zsR (zsR S 3 x1 ((zgt (S.2 3) x1) + (Int32.ofInt 1))) 4 x1 ((zsR S 3 x1 ((zgt (S.2 3) x1) + (Int32.ofInt 1))).1 4)) (x1 := x1 + (Int32.ofInt 1)) (ln_R (ln_R HL))) (fun v h1 nc1 ns1 q8 => ?_) (fun E h1 nc1 ns1 q8 => by cases q8.1)
          obtain ⟨q8, q9⟩ := q8
          cases q8
          cases q9
          obtain ⟨Z1, hZ1⟩ : ∃ Z, Z = F44 (x1 + (Int32.ofInt 1)) (zsR (zsR S 3 x1 ((zgt (S.2 3) x1) + (Int32.ofInt 1))) 4 x1 ((zsR S 3 x1 ((zgt (S.2 3) x1) + (Int32.ofInt 1))).1 4)) := ⟨_, rfl⟩
          rw [← hZ1]
          have LZ1 : zaL Z1.2 := by
            rw [hZ1]
            exact ln_F44 (ln_R (ln_R HL))
          exact zpE_end rfl rfl (zOq_f (S' := Z1) (by unfold F43; (try rw [← hZ1]); rw [if_pos z36_0, if_pos z45_1, if_neg z54_2, if_pos z67_3]))
      · have z54_2 := zF_le_f q54
        refine zpE_run 4 (L' := [some (.ref 6), some (.int x1), some (.int ((zgt (S.2 3) x1) + (Int32.ofInt 1))), some (.int (zrmd x1 (Int32.ofInt 10)))]) (st' := [.int (x1 - (Int32.ofInt 1)), .ref 6]) rfl ?_
        refine zpE_call rfl rfl (e_44 (S := zsR (zsR S 3 x1 ((zgt (S.2 3) x1) + (Int32.ofInt 1))) 4 x1 ((zsR S 3 x1 ((zgt (S.2 3) x1) + (Int32.ofInt 1))).1 4)) (x1 := x1 - (Int32.ofInt 1)) (ln_R (ln_R HL))) (fun v h1 nc1 ns1 q8 => ?_) (fun E h1 nc1 ns1 q8 => by cases q8.1)
        obtain ⟨q8, q9⟩ := q8
        cases q8
        cases q9
        obtain ⟨Z2, hZ2⟩ : ∃ Z, Z = F44 (x1 - (Int32.ofInt 1)) (zsR (zsR S 3 x1 ((zgt (S.2 3) x1) + (Int32.ofInt 1))) 4 x1 ((zsR S 3 x1 ((zgt (S.2 3) x1) + (Int32.ofInt 1))).1 4)) := ⟨_, rfl⟩
        rw [← hZ2]
        have LZ2 : zaL Z2.2 := by
          rw [hZ2]
          exact ln_F44 (ln_R (ln_R HL))
        refine zpE_run 2 (L' := [some (.ref 6), some (.int x1), some (.int ((zgt (S.2 3) x1) + (Int32.ofInt 1))), some (.int (zrmd x1 (Int32.ofInt 10)))]) (st' := [.int (Int32.ofInt 9), .int (zrmd x1 (Int32.ofInt 10))]) rfl ?_
        refine zpE_icmp rfl (fun q67 => ?_) (fun q67 => ?_)
        · have z67_3 := Int.not_lt.mpr (zF_ge_t q67)
          exact zpE_end rfl rfl (zOq_f (S' := Z2) (by unfold F43; (try rw [← hZ2]); rw [if_pos z36_0, if_pos z45_1, if_pos z54_2, if_neg z67_3]))
        · have z67_3 := zF_ge_f q67
          refine zpE_run 4 (L' := [some (.ref 6), some (.int x1), some (.int ((zgt (S.2 3) x1) + (Int32.ofInt 1))), some (.int (zrmd x1 (Int32.ofInt 10)))]) (st' := [.int (x1 + (Int32.ofInt 1)), .ref 6]) rfl ?_
          refine zpE_call rfl rfl (e_44 (S := Z2) (x1 := x1 + (Int32.ofInt 1)) LZ2) (fun v h1 nc1 ns1 q8 => ?_) (fun E h1 nc1 ns1 q8 => by cases q8.1)
          obtain ⟨q8, q9⟩ := q8
          cases q8
          cases q9
          obtain ⟨Z3, hZ3⟩ : ∃ Z, Z = F44 (x1 + (Int32.ofInt 1)) Z2 := ⟨_, rfl⟩
          rw [← hZ3]
          have LZ3 : zaL Z3.2 := by
            rw [hZ3]
            exact ln_F44 LZ2
          exact zpE_end rfl rfl (zOq_f (S' := Z3) (by unfold F43; (try rw [← hZ2]); (try rw [← hZ3]); rw [if_pos z36_0, if_pos z45_1, if_pos z54_2, if_pos z67_3]))
theorem fr_F43 {x1 : Int32} : zfrm [7, 8] [2, 3, 4] (F43 x1 S) S := by
  unfold F43
  exact (fm_ite (fm_ite (fm_ite (fm_ite (fm_c fr_F44 (fm_c fr_F44 (fm_c fm_R (fm_c fm_R fm_rf (by decide) (by decide)) (by decide) (by decide)) (by decide) (by decide)) (by decide) (by decide)) (fm_c fr_F44 (fm_c fm_R (fm_c fm_R fm_rf (by decide) (by decide)) (by decide) (by decide)) (by decide) (by decide))) (fm_ite (fm_c fr_F44 (fm_c fm_R (fm_c fm_R fm_rf (by decide) (by decide)) (by decide) (by decide)) (by decide) (by decide)) (fm_c fm_R (fm_c fm_R fm_rf (by decide) (by decide)) (by decide) (by decide)))) (fm_c fm_R (fm_c fm_R fm_rf (by decide) (by decide)) (by decide) (by decide))) (fm_c fm_R (fm_c fm_R fm_rf (by decide) (by decide)) (by decide) (by decide)))
theorem ln_F43 {x1 : Int32} (HL : zaL S.2) : zaL (F43 x1 S).2 := fm_L fr_F43 HL
def V47 (x1 : Int32) (S : zSt) : Int32 := if ((0 : Int32)).toInt < (S.1 5).toInt then (if (zrmd x1 (S.1 5)) = ((0 : Int32)) then ((Int32.ofInt 1)) else ((Int32.ofInt 0))) else ((Int32.ofInt 0))
theorem e_47 {x1 : Int32} (HL : zaL S.2) : zpM xs N 47 [.ref 6, .int x1] (zx S.1 S.2 T) nc ns (zOq (.inl (some (.int (V47 x1 S)))) (zx S.1 S.2 T)) := by
  intro L0 e
  cases e
  refine zpE_run 2 (L' := [some (.ref 6), some (.int x1)]) (st' := [.int (S.1 5)]) rfl ?_
  refine zpE_if rfl (fun q4 => ?_) (fun q4 => ?_)
  · have z4_0 := Int.not_lt.mpr (zF_le_t q4)
    refine zpE_run 1 (L' := [some (.ref 6), some (.int x1)]) (st' := [.int (Int32.ofInt 0)]) rfl ?_
    exact zpE_end rfl rfl (zOq_v (by unfold V47; rw [if_neg z4_0]))
  · have z4_0 := zF_le_f q4
    refine zpE_run 3 (L' := [some (.ref 6), some (.int x1)]) (st' := [.int (S.1 5), .int x1]) rfl ?_
    refine zpE_irem rfl (fun _ => ?_)
    refine zpE_if rfl (fun q13 => ?_) (fun q13 => ?_)
    · have z13_1 := zF_n1 q13
      refine zpE_run 1 (L' := [some (.ref 6), some (.int x1)]) (st' := [.int (Int32.ofInt 0)]) rfl ?_
      exact zpE_end rfl rfl (zOq_v (by unfold V47; rw [if_pos z4_0, if_neg z13_1]))
    · have z13_1 := zF_n0 q13
      refine zpE_run 2 (L' := [some (.ref 6), some (.int x1)]) (st' := [.int (Int32.ofInt 1)]) rfl ?_
      exact zpE_end rfl rfl (zOq_v (by unfold V47; rw [if_pos z4_0, if_pos z13_1]))
def D40 (x1 : Int32) (S : zSt) (k : Nat) (u : zSt) : zSt := (F41 ((Int32.ofNat k)) (Int32.ofInt 0) u)
def W40 (x1 : Int32) (S : zSt) (u0 : zSt) : Nat → zSt
  | 0 => u0
  | k + 1 => D40 x1 S k (W40 x1 S u0 k)
def X40 (x1 : Int32) (S : zSt) (u : zSt) : zSt := u
theorem fr_D40 {x1 : Int32} {k : Nat} {u : zSt} : zfrm [] [2] (D40 x1 S k u) u := by
  unfold D40
  exact (fm_c fr_F41 fm_rf (by decide) (by decide))
theorem fr_W40 {x1 : Int32} {u0 : zSt} : ∀ k, zfrm [] [2] (W40 x1 S u0 k) u0
  | 0 => fm_rf
  | k + 1 => fm_tr fr_D40 (fr_W40 k)
theorem ln_W40 {x1 : Int32} {u0 : zSt} (HU : zaL u0.2) (k : Nat) : zaL (W40 x1 S u0 k).2 := fm_L (fr_W40 k) HU
theorem l_40 {x1 : Int32} {u0 : zSt} (HL : zaL u0.2) : ∀ (N k : Nat) (nc ns : Nat), k ≤ (Int32.ofInt 160).toInt.toNat → zpE xs N 40 37 [some (.ref 6), some (.int x1), some (.int (Int32.ofNat k))] [] (zx (W40 x1 S u0 k).1 (W40 x1 S u0 k).2 T) nc ns (zOq (.inl none) (zx (X40 x1 S (W40 x1 S u0 (Int32.ofInt 160).toInt.toNat)).1 (X40 x1 S (W40 x1 S u0 (Int32.ofInt 160).toInt.toNat)).2 T))
  | 0, _, _, _, _ => zpE_0
  | N + 1, k, nc, ns, hk => by
    have HLk := ln_W40 (x1 := x1) (S := S) HL k
    refine zpE_run1 1 (L' := [some (.ref 6), some (.int x1), some (.int (Int32.ofNat k))]) (st' := [.int (Int32.ofInt 160), .int (Int32.ofNat k)]) rfl ?_
    refine zpE_icmp rfl (fun q41 => ?_) (fun q41 => ?_)
    · have z41_0 := Int.not_lt.mpr (zF_ge_t q41)
      exact zpE_end rfl rfl (by rw [← zlp_out z41_0 hk]; exact zOq_f (S' := (W40 x1 S u0 k)) (by unfold X40; (first | done | rfl)))
    · have z41_0 := zF_ge_f q41
      refine zpE_run 3 (L' := [some (.ref 6), some (.int x1), some (.int (Int32.ofNat k))]) (st' := [.int (Int32.ofInt 0), .int (Int32.ofNat k), .ref 6]) rfl ?_
      refine zpE_call rfl rfl (e_41 (S := (W40 x1 S u0 k)) (x1 := Int32.ofNat k) (x2 := Int32.ofInt 0) HLk) (fun v h1 nc1 ns1 q8 => ?_) (fun E h1 nc1 ns1 q8 => by cases q8.1)
      obtain ⟨q8, q9⟩ := q8
      cases q8
      cases q9
      obtain ⟨Z1, hZ1⟩ : ∃ Z, Z = F41 (Int32.ofNat k) (Int32.ofInt 0) ((W40 x1 S u0 k)) := ⟨_, rfl⟩
      rw [← hZ1]
      have LZ1 : zaL Z1.2 := by
        rw [hZ1]
        exact ln_F41 HLk
      refine zpE_run 2 (L' := [some (.ref 6), some (.int x1), some (.int ((Int32.ofNat k) + Int32.ofInt 1))]) (st' := []) rfl ?_
      have K := fun nc ns => l_40 (x1 := x1) (u0 := u0) HL N (k + 1) nc ns (zlp_in z41_0 hk)
      rw [← zof1, show W40 x1 S u0 (k + 1) = Z1 from by
          show D40 x1 S k _ = _
          unfold D40
          (try rw [← hZ1])
          (first | done | rfl)] at K
      exact K _ _
def F40 (x1 : Int32) (S : zSt) : zSt := X40 x1 (zsF (F22_22 ((F22_15 ((zsS S 3 x1).1 3) (zsS S 3 x1)).1 3) (F22_15 ((zsS S 3 x1).1 3) (zsS S 3 x1))) 3 (Int32.ofInt 0)) (W40 x1 (zsF (F22_22 ((F22_15 ((zsS S 3 x1).1 3) (zsS S 3 x1)).1 3) (F22_15 ((zsS S 3 x1).1 3) (zsS S 3 x1))) 3 (Int32.ofInt 0)) (zsF (F22_22 ((F22_15 ((zsS S 3 x1).1 3) (zsS S 3 x1)).1 3) (F22_15 ((zsS S 3 x1).1 3) (zsS S 3 x1))) 3 (Int32.ofInt 0)) (Int32.ofInt 160).toInt.toNat)
theorem e_40 {x1 : Int32} (HL : zaL S.2) : zpM xs N 40 [.ref 6, .int x1] (zx S.1 S.2 T) nc ns (zOq (.inl none) (zx (F40 x1 S).1 (F40 x1 S).2 T)) := by
  intro L0 e
  cases e
  refine zpE_run 7 (L' := [some (.ref 6), some (.int x1), none]) (st' := [.int ((zsS S 3 x1).1 3), .ref 15]) (h' := zx (zsS S 3 x1).1 (zsS S 3 x1).2 T) rfl ?_
  refine zpE_call rfl rfl (e_22_15 (S := zsS S 3 x1) (x1 := (zsS S 3 x1).1 3) (ln_S HL)) (fun v h1 nc1 ns1 q8 => ?_) (fun E h1 nc1 ns1 q8 => by cases q8.1)
  obtain ⟨q8, q9⟩ := q8
  cases q8
  cases q9
  obtain ⟨Z1, hZ1⟩ : ∃ Z, Z = F22_15 ((zsS S 3 x1).1 3) (zsS S 3 x1) := ⟨_, rfl⟩
  rw [← hZ1]
  have LZ1 : zaL Z1.2 := by
    rw [hZ1]
    exact ln_F22_15 (ln_S HL)
  refine zpE_run 4 (L' := [some (.ref 6), some (.int x1), none]) (st' := [.int (Z1.1 3), .ref 22]) rfl ?_
  refine zpE_call rfl rfl (e_22_22 (S := Z1) (x1 := Z1.1 3) LZ1) (fun v h1 nc1 ns1 q8 => ?_) (fun E h1 nc1 ns1 q8 => by cases q8.1)
  obtain ⟨q8, q9⟩ := q8
  cases q8
  cases q9
  obtain ⟨Z2, hZ2⟩ : ∃ Z, Z = F22_22 (Z1.1 3) Z1 := ⟨_, rfl⟩
  rw [← hZ2]
  have LZ2 : zaL Z2.2 := by
    rw [hZ2]
    exact ln_F22_22 LZ1
  refine zpE_run 3 (L' := [some (.ref 6), some (.int x1), none]) (st' := [.int (Int32.ofInt 0), .ref 9]) rfl ?_
  refine zpE_call rfl rfl (p_27 3 10 9 (fun _ => rfl) (fun _ => rfl) (fun _ _ => rfl) ((LZ2 : zaL Z2.2) 3)) (fun v h1 nc1 ns1 q8 => ?_) (fun E h1 nc1 ns1 q8 => by cases q8)
  cases q8
  refine zpE_run 2 rfl ?_
  subst hZ2 hZ1
  exact l_40 (x1 := x1) (S := zsF (F22_22 ((F22_15 ((zsS S 3 x1).1 3) (zsS S 3 x1)).1 3) (F22_15 ((zsS S 3 x1).1 3) (zsS S 3 x1))) 3 (Int32.ofInt 0)) (u0 := zsF (F22_22 ((F22_15 ((zsS S 3 x1).1 3) (zsS S 3 x1)).1 3) (F22_15 ((zsS S 3 x1).1 3) (zsS S 3 x1))) 3 (Int32.ofInt 0)) (ln_F (ln_F22_22 (ln_F22_15 (ln_S HL)))) N 0 _ _ (Nat.zero_le _)
theorem fr_X40 {x1 : Int32} {u : zSt} : zfrm [] [] (X40 x1 S u) u := by
  unfold X40
  exact fm_rf
theorem fr_F40 {x1 : Int32} : zfrm [3, 9, 10] [2, 3, 6, 7, 8, 9, 10, 11] (F40 x1 S) S := by
  unfold F40
  exact (fm_c fr_X40 (fm_c (fr_W40 _) (fm_c fm_F (fm_c fr_F22_22 (fm_c fr_F22_15 (fm_c fm_S fm_rf (by decide) (by decide)) (by decide) (by decide)) (by decide) (by decide)) (by decide) (by decide)) (by decide) (by decide)) (by decide) (by decide))
theorem ln_F40 {x1 : Int32} (HL : zaL S.2) : zaL (F40 x1 S).2 := fm_L fr_F40 HL
def C82 (x1 : Int32) (S : zSt) : Bool := if x1.toInt < ((0 : Int32)).toInt then false else (if x1.toInt < (Int32.ofInt 128).toInt then true else false)
theorem e_82 {x1 : Int32} (HL : zaL S.2) : zpM xs N 82 [.int x1] (zx S.1 S.2 T) nc ns (fun o => (C82 x1 S = true ∧ o.1 = .inl none ∧ o.2.1 = zx S.1 S.2 T) ∨ (¬ C82 x1 S = true ∧ o.1 = .inr 1 ∧ o.2.1 = zx S.1 S.2 T)) := by
  intro L0 e
  cases e
  refine zpE_run 1 (L' := [some (.int x1)]) (st' := [.int x1]) rfl ?_
  refine zpE_if rfl (fun q1 => ?_) (fun q1 => ?_)
  · have z1_0 := zF_lt_t q1
    exact zpE_end rfl rfl (Or.inr ⟨by unfold C82; rw [if_pos z1_0]; exact fun y9 => (by cases y9), rfl, rfl⟩)
  · have z1_0 := Int.not_lt.mpr (zF_lt_f q1)
    refine zpE_run 2 (L' := [some (.int x1)]) (st' := [.int (Int32.ofInt 128), .int x1]) rfl ?_
    refine zpE_icmp rfl (fun q8 => ?_) (fun q8 => ?_)
    · have z8_1 := zF_lt_t q8
      exact zpE_end rfl rfl (Or.inl ⟨by unfold C82; rw [if_neg z1_0, if_pos z8_1], rfl, rfl⟩)
    · have z8_1 := Int.not_lt.mpr (zF_lt_f q8)
      exact zpE_end rfl rfl (Or.inr ⟨by unfold C82; rw [if_neg z1_0, if_neg z8_1]; exact fun y9 => (by cases y9), rfl, rfl⟩)
def C83 (x1 : Int32) (S : zSt) : Bool := if x1.toInt < ((0 : Int32)).toInt then false else (if x1.toInt < (Int32.ofInt 2).toInt then true else false)
theorem e_83 {x1 : Int32} (HL : zaL S.2) : zpM xs N 83 [.int x1] (zx S.1 S.2 T) nc ns (fun o => (C83 x1 S = true ∧ o.1 = .inl none ∧ o.2.1 = zx S.1 S.2 T) ∨ (¬ C83 x1 S = true ∧ o.1 = .inr 1 ∧ o.2.1 = zx S.1 S.2 T)) := by
  intro L0 e
  cases e
  refine zpE_run 1 (L' := [some (.int x1)]) (st' := [.int x1]) rfl ?_
  refine zpE_if rfl (fun q1 => ?_) (fun q1 => ?_)
  · have z1_0 := zF_lt_t q1
    exact zpE_end rfl rfl (Or.inr ⟨by unfold C83; rw [if_pos z1_0]; exact fun y9 => (by cases y9), rfl, rfl⟩)
  · have z1_0 := Int.not_lt.mpr (zF_lt_f q1)
    refine zpE_run 2 (L' := [some (.int x1)]) (st' := [.int (Int32.ofInt 2), .int x1]) rfl ?_
    refine zpE_icmp rfl (fun q6 => ?_) (fun q6 => ?_)
    · have z6_1 := zF_lt_t q6
      exact zpE_end rfl rfl (Or.inl ⟨by unfold C83; rw [if_neg z1_0, if_pos z6_1], rfl, rfl⟩)
    · have z6_1 := Int.not_lt.mpr (zF_lt_f q6)
      exact zpE_end rfl rfl (Or.inr ⟨by unfold C83; rw [if_neg z1_0, if_neg z6_1]; exact fun y9 => (by cases y9), rfl, rfl⟩)
def C84 (x1 : Int32) (x2 : Int32) (S : zSt) : Bool := if C83 x1 S = true then (if x2.toInt < ((0 : Int32)).toInt then false else (if x2.toInt < (Int32.ofInt 8).toInt then true else false)) else false
theorem e_84 {x1 x2 : Int32} (HL : zaL S.2) : zpM xs N 84 [.int x1, .int x2] (zx S.1 S.2 T) nc ns (fun o => (C84 x1 x2 S = true ∧ o.1 = .inl none ∧ o.2.1 = zx S.1 S.2 T) ∨ (¬ C84 x1 x2 S = true ∧ o.1 = .inr 1 ∧ o.2.1 = zx S.1 S.2 T)) := by
  intro L0 e
  cases e
  refine zpE_run 1 (L' := [some (.int x1), some (.int x2)]) (st' := [.int x1]) rfl ?_
  refine zpE_call rfl rfl (e_83 (S := S) (x1 := x1) HL) (fun v h1 nc1 ns1 q8 => ?_) (fun E h1 nc1 ns1 q8 => ?_)
  rotate_left
  · rcases q8 with ⟨_, q8, _⟩ | ⟨c1, q8, q9⟩
    · cases q8
    · cases q8
      cases q9
      exact ⟨fun _ => (Or.inr ⟨by unfold C84; rw [if_neg c1]; exact fun y9 => (by cases y9), rfl, rfl⟩), fun pc2 L2 e => by cases e⟩
  replace q8 := q8.resolve_right (fun y9 => by cases y9.2.1)
  obtain ⟨c1, q8, q9⟩ := q8
  cases q8
  cases q9
  refine zpE_run 1 (L' := [some (.int x1), some (.int x2)]) (st' := [.int x2]) rfl ?_
  refine zpE_if rfl (fun q5 => ?_) (fun q5 => ?_)
  · have z5_1 := zF_lt_t q5
    exact zpE_end rfl rfl (Or.inr ⟨by unfold C84; rw [if_pos c1, if_pos z5_1]; exact fun y9 => (by cases y9), rfl, rfl⟩)
  · have z5_1 := Int.not_lt.mpr (zF_lt_f q5)
    refine zpE_run 2 (L' := [some (.int x1), some (.int x2)]) (st' := [.int (Int32.ofInt 8), .int x2]) rfl ?_
    refine zpE_icmp rfl (fun q11 => ?_) (fun q11 => ?_)
    · have z11_2 := zF_lt_t q11
      exact zpE_end rfl rfl (Or.inl ⟨by unfold C84; rw [if_pos c1, if_neg z5_1, if_pos z11_2], rfl, rfl⟩)
    · have z11_2 := Int.not_lt.mpr (zF_lt_f q11)
      exact zpE_end rfl rfl (Or.inr ⟨by unfold C84; rw [if_pos c1, if_neg z5_1, if_neg z11_2]; exact fun y9 => (by cases y9), rfl, rfl⟩)
def C85 (x1 : Int32) (S : zSt) : Bool := if x1.toInt < (Int32.ofInt 1).toInt then false else (if (Int32.ofInt 100).toInt < x1.toInt then false else true)
theorem e_85 {x1 : Int32} (HL : zaL S.2) : zpM xs N 85 [.int x1] (zx S.1 S.2 T) nc ns (fun o => (C85 x1 S = true ∧ o.1 = .inl none ∧ o.2.1 = zx S.1 S.2 T) ∨ (¬ C85 x1 S = true ∧ o.1 = .inr 0 ∧ o.2.1 = zx S.1 S.2 T)) := by
  intro L0 e
  cases e
  refine zpE_run 2 (L' := [some (.int x1)]) (st' := [.int (Int32.ofInt 1), .int x1]) rfl ?_
  refine zpE_icmp rfl (fun q2 => ?_) (fun q2 => ?_)
  · have z2_0 := zF_lt_t q2
    exact zpE_end rfl rfl (Or.inr ⟨by unfold C85; rw [if_pos z2_0]; exact fun y9 => (by cases y9), rfl, rfl⟩)
  · have z2_0 := Int.not_lt.mpr (zF_lt_f q2)
    refine zpE_run 2 (L' := [some (.int x1)]) (st' := [.int (Int32.ofInt 100), .int x1]) rfl ?_
    refine zpE_icmp rfl (fun q8 => ?_) (fun q8 => ?_)
    · have z8_1 := Int.not_lt.mpr (zF_le_t q8)
      exact zpE_end rfl rfl (Or.inl ⟨by unfold C85; rw [if_neg z2_0, if_neg z8_1], rfl, rfl⟩)
    · have z8_1 := zF_le_f q8
      exact zpE_end rfl rfl (Or.inr ⟨by unfold C85; rw [if_neg z2_0, if_pos z8_1]; exact fun y9 => (by cases y9), rfl, rfl⟩)
def C86 (x1 : Int32) (S : zSt) : Bool := if x1.toInt < ((0 : Int32)).toInt then false else (if (zdma S.1).toInt < x1.toInt then false else true)
theorem e_86 {x1 : Int32} (HL : zaL S.2) : zpM xs N 86 [.ref 0, .int x1] (zx S.1 S.2 T) nc ns (fun o => (C86 x1 S = true ∧ o.1 = .inl none ∧ o.2.1 = zx S.1 S.2 T) ∨ (¬ C86 x1 S = true ∧ o.1 = .inr 0 ∧ o.2.1 = zx S.1 S.2 T)) := by
  intro L0 e
  cases e
  refine zpE_run 1 (L' := [some (.ref 0), some (.int x1)]) (st' := [.int x1]) rfl ?_
  refine zpE_if rfl (fun q1 => ?_) (fun q1 => ?_)
  · have z1_0 := zF_lt_t q1
    exact zpE_end rfl rfl (Or.inr ⟨by unfold C86; rw [if_pos z1_0]; exact fun y9 => (by cases y9), rfl, rfl⟩)
  · have z1_0 := Int.not_lt.mpr (zF_lt_f q1)
    refine zpE_run 3 (L' := [some (.ref 0), some (.int x1)]) (st' := [.ref 1, .int x1]) rfl ?_
    refine zpE_call rfl rfl (p_6) (fun v h1 nc1 ns1 q8 => ?_) (fun E h1 nc1 ns1 q8 => by cases q8)
    cases q8
    refine zpE_icmp rfl (fun q12 => ?_) (fun q12 => ?_)
    · have z12_1 := Int.not_lt.mpr (zF_le_t q12)
      exact zpE_end rfl rfl (Or.inl ⟨by unfold C86; rw [if_neg z1_0, if_neg z12_1], rfl, rfl⟩)
    · have z12_1 := zF_le_f q12
      exact zpE_end rfl rfl (Or.inr ⟨by unfold C86; rw [if_neg z1_0, if_pos z12_1]; exact fun y9 => (by cases y9), rfl, rfl⟩)
def V88 (x1 : Int32) (x2 : Int32) (S : zSt) : Int32 := ((x1 * (Int32.ofInt 64)) + (x2 * (Int32.ofInt 8)))
theorem e_88 {x1 x2 : Int32} (HL : zaL S.2) : zpM xs N 88 [.int x1, .int x2] (zx S.1 S.2 T) nc ns (zOq (.inl (some (.int (V88 x1 x2 S)))) (zx S.1 S.2 T)) := by
  intro L0 e
  cases e
  refine zpE_run 7 (L' := [some (.int x1), some (.int x2)]) (st' := [.int ((x1 * (Int32.ofInt 64)) + (x2 * (Int32.ofInt 8)))]) rfl ?_
  exact zpE_end rfl rfl (zOq_v (by unfold V88; (first | done | rfl)))
def V89 (x1 : Int32) (S : zSt) : Int32 := if x1.toInt < (Int32.ofInt 64).toInt then ((x1 + (Int32.ofInt 64))) else ((x1 - (Int32.ofInt 64)))
theorem e_89 {x1 : Int32} (HL : zaL S.2) : zpM xs N 89 [.int x1] (zx S.1 S.2 T) nc ns (zOq (.inl (some (.int (V89 x1 S)))) (zx S.1 S.2 T)) := by
  intro L0 e
  cases e
  refine zpE_run 2 (L' := [some (.int x1)]) (st' := [.int (Int32.ofInt 64), .int x1]) rfl ?_
  refine zpE_icmp rfl (fun q3 => ?_) (fun q3 => ?_)
  · have z3_0 := Int.not_lt.mpr (zF_ge_t q3)
    refine zpE_run 3 (L' := [some (.int x1)]) (st' := [.int (x1 - (Int32.ofInt 64))]) rfl ?_
    exact zpE_end rfl rfl (zOq_v (by unfold V89; rw [if_neg z3_0]))
  · have z3_0 := zF_ge_f q3
    refine zpE_run 4 (L' := [some (.int x1)]) (st' := [.int (x1 + (Int32.ofInt 64))]) rfl ?_
    exact zpE_end rfl rfl (zOq_v (by unfold V89; rw [if_pos z3_0]))
def V90 (x1 : Int32) (S : zSt) : Int32 := (((zqtd x1 (Int32.ofInt 64)) * (Int32.ofInt 10)) + (zgt (S.2 15) (zqtd x1 (Int32.ofInt 8))))
theorem e_90 {x1 : Int32} (HL : zaL S.2) : zpM xs N 90 [.ref 0, .int x1] (zx S.1 S.2 T) nc ns (zOq (.inl (some (.int (V90 x1 S)))) (zx S.1 S.2 T)) := by
  intro L0 e
  cases e
  refine zpE_run 2 (L' := [some (.ref 0), some (.int x1)]) (st' := [.int (Int32.ofInt 64), .int x1]) rfl ?_
  refine zpE_idiv rfl (fun _ => ?_)
  refine zpE_run 6 (L' := [some (.ref 0), some (.int x1)]) (st' := [.int (Int32.ofInt 8), .int x1, .ref 36, .int ((zqtd x1 (Int32.ofInt 64)) * (Int32.ofInt 10))]) rfl ?_
  refine zpE_idiv rfl (fun _ => ?_)
  refine zpE_call rfl rfl (p_25 15 37 36 rfl rfl (HL : zaL S.2)) (fun v h1 nc1 ns1 q8 => ?_) (fun E h1 nc1 ns1 q8 => by cases q8)
  cases q8
  refine zpE_run 1 (L' := [some (.ref 0), some (.int x1)]) (st' := [.int (((zqtd x1 (Int32.ofInt 64)) * (Int32.ofInt 10)) + (zgt (S.2 15) (zqtd x1 (Int32.ofInt 8))))]) rfl ?_
  exact zpE_end rfl rfl (zOq_v (by unfold V90; (first | done | rfl)))
def V91 (x1 : Int32) (S : zSt) : Int32 := (((V90 x1 S) * (Int32.ofInt 8)) + (zrmd x1 (Int32.ofInt 8)))
theorem e_91 {x1 : Int32} (HL : zaL S.2) : zpM xs N 91 [.ref 0, .int x1] (zx S.1 S.2 T) nc ns (zOq (.inl (some (.int (V91 x1 S)))) (zx S.1 S.2 T)) := by
  intro L0 e
  cases e
  refine zpE_run 2 (L' := [some (.ref 0), some (.int x1)]) (st' := [.int x1, .ref 0]) rfl ?_
  refine zpE_call rfl rfl (e_90 (S := S) (x1 := x1) HL) (fun v h1 nc1 ns1 q8 => ?_) (fun E h1 nc1 ns1 q8 => by cases q8.1)
  obtain ⟨q8, q9⟩ := q8
  cases q8
  cases q9
  refine zpE_run 4 (L' := [some (.ref 0), some (.int x1)]) (st' := [.int (Int32.ofInt 8), .int x1, .int ((V90 x1 S) * (Int32.ofInt 8))]) rfl ?_
  refine zpE_irem rfl (fun _ => ?_)
  refine zpE_run 1 (L' := [some (.ref 0), some (.int x1)]) (st' := [.int (((V90 x1 S) * (Int32.ofInt 8)) + (zrmd x1 (Int32.ofInt 8)))]) rfl ?_
  exact zpE_end rfl rfl (zOq_v (by unfold V91; (first | done | rfl)))
def V92 (x1 : Int32) (S : zSt) : Int32 := (zgt (S.2 2) (V91 x1 S))
theorem e_92 {x1 : Int32} (HL : zaL S.2) : zpM xs N 92 [.ref 0, .int x1] (zx S.1 S.2 T) nc ns (zOq (.inl (some (.int (V92 x1 S)))) (zx S.1 S.2 T)) := by
  intro L0 e
  cases e
  refine zpE_run 5 (L' := [some (.ref 0), some (.int x1)]) (st' := [.int x1, .ref 0, .ref 7]) rfl ?_
  refine zpE_call rfl rfl (e_91 (S := S) (x1 := x1) HL) (fun v h1 nc1 ns1 q8 => ?_) (fun E h1 nc1 ns1 q8 => by cases q8.1)
  obtain ⟨q8, q9⟩ := q8
  cases q8
  cases q9
  refine zpE_call rfl rfl (p_25 2 8 7 rfl rfl (HL : zaL S.2)) (fun v h1 nc1 ns1 q8 => ?_) (fun E h1 nc1 ns1 q8 => by cases q8)
  cases q8
  exact zpE_end rfl rfl (zOq_v (by unfold V92; (first | done | rfl)))
def V95 (x1 : Int32) (S : zSt) : Int32 := if (zgt (S.2 17) x1) = ((0 : Int32)) then ((Int32.ofInt 0)) else ((Int32.ofInt 1))
theorem e_95 {x1 : Int32} (HL : zaL S.2) : zpM xs N 95 [.ref 0, .int x1] (zx S.1 S.2 T) nc ns (zOq (.inl (some (.int (V95 x1 S)))) (zx S.1 S.2 T)) := by
  intro L0 e
  cases e
  refine zpE_run 3 (L' := [some (.ref 0), some (.int x1)]) (st' := [.int x1, .ref 40]) rfl ?_
  refine zpE_call rfl rfl (p_25 17 41 40 rfl rfl (HL : zaL S.2)) (fun v h1 nc1 ns1 q8 => ?_) (fun E h1 nc1 ns1 q8 => by cases q8)
  cases q8
  refine zpE_if rfl (fun q8 => ?_) (fun q8 => ?_)
  · have z8_0 := zF_e1 q8
    refine zpE_run 1 (L' := [some (.ref 0), some (.int x1)]) (st' := [.int (Int32.ofInt 0)]) rfl ?_
    exact zpE_end rfl rfl (zOq_v (by unfold V95; rw [if_pos z8_0]))
  · have z8_0 := zF_e0 q8
    refine zpE_run 2 (L' := [some (.ref 0), some (.int x1)]) (st' := [.int (Int32.ofInt 1)]) rfl ?_
    exact zpE_end rfl rfl (zOq_v (by unfold V95; rw [if_neg z8_0]))
def V96 (x1 : Int32) (S : zSt) : Int32 := if (zgt (S.2 18) x1) = ((0 : Int32)) then ((Int32.ofInt 0)) else ((Int32.ofInt 1))
theorem e_96 {x1 : Int32} (HL : zaL S.2) : zpM xs N 96 [.ref 0, .int x1] (zx S.1 S.2 T) nc ns (zOq (.inl (some (.int (V96 x1 S)))) (zx S.1 S.2 T)) := by
  intro L0 e
  cases e
  refine zpE_run 3 (L' := [some (.ref 0), some (.int x1)]) (st' := [.int x1, .ref 42]) rfl ?_
  refine zpE_call rfl rfl (p_25 18 43 42 rfl rfl (HL : zaL S.2)) (fun v h1 nc1 ns1 q8 => ?_) (fun E h1 nc1 ns1 q8 => by cases q8)
  cases q8
  refine zpE_if rfl (fun q8 => ?_) (fun q8 => ?_)
  · have z8_0 := zF_e1 q8
    refine zpE_run 1 (L' := [some (.ref 0), some (.int x1)]) (st' := [.int (Int32.ofInt 0)]) rfl ?_
    exact zpE_end rfl rfl (zOq_v (by unfold V96; rw [if_pos z8_0]))
  · have z8_0 := zF_e0 q8
    refine zpE_run 2 (L' := [some (.ref 0), some (.int x1)]) (st' := [.int (Int32.ofInt 1)]) rfl ?_
    exact zpE_end rfl rfl (zOq_v (by unfold V96; rw [if_neg z8_0]))
def C87 (x1 : Int32) (S : zSt) : Bool := if (V96 x1 S) = ((0 : Int32)) then true else false
theorem e_87 {x1 : Int32} (HL : zaL S.2) : zpM xs N 87 [.ref 0, .int x1] (zx S.1 S.2 T) nc ns (fun o => (C87 x1 S = true ∧ o.1 = .inl none ∧ o.2.1 = zx S.1 S.2 T) ∨ (¬ C87 x1 S = true ∧ o.1 = .inr 2 ∧ o.2.1 = zx S.1 S.2 T)) := by
  intro L0 e
  cases e
  refine zpE_run 2 (L' := [some (.ref 0), some (.int x1)]) (st' := [.int x1, .ref 0]) rfl ?_
  refine zpE_call rfl rfl (e_96 (S := S) (x1 := x1) HL) (fun v h1 nc1 ns1 q8 => ?_) (fun E h1 nc1 ns1 q8 => by cases q8.1)
  obtain ⟨q8, q9⟩ := q8
  cases q8
  cases q9
  refine zpE_if rfl (fun q5 => ?_) (fun q5 => ?_)
  · have z5_0 := zF_e1 q5
    exact zpE_end rfl rfl (Or.inl ⟨by unfold C87; rw [if_pos z5_0], rfl, rfl⟩)
  · have z5_0 := zF_e0 q5
    exact zpE_end rfl rfl (Or.inr ⟨by unfold C87; rw [if_neg z5_0]; exact fun y9 => (by cases y9), rfl, rfl⟩)
def V97 (x1 : Int32) (S : zSt) : Int32 := if (V95 x1 S) = ((0 : Int32)) then ((zda S.1 S.2 (V92 x1 S))) else ((Int32.ofInt (-1)))
theorem e_97 {x1 : Int32} (HL : zaL S.2) : zpM xs N 97 [.ref 0, .int x1] (zx S.1 S.2 T) nc ns (zOq (.inl (some (.int (V97 x1 S)))) (zx S.1 S.2 T)) := by
  intro L0 e
  cases e
  refine zpE_run 2 (L' := [some (.ref 0), some (.int x1)]) (st' := [.int x1, .ref 0]) rfl ?_
  refine zpE_call rfl rfl (e_95 (S := S) (x1 := x1) HL) (fun v h1 nc1 ns1 q8 => ?_) (fun E h1 nc1 ns1 q8 => by cases q8.1)
  obtain ⟨q8, q9⟩ := q8
  cases q8
  cases q9
  refine zpE_if rfl (fun q5 => ?_) (fun q5 => ?_)
  · have z5_0 := zF_e1 q5
    refine zpE_run 4 (L' := [some (.ref 0), some (.int x1)]) (st' := [.int x1, .ref 0, .ref 1]) rfl ?_
    refine zpE_call rfl rfl (e_92 (S := S) (x1 := x1) HL) (fun v h1 nc1 ns1 q8 => ?_) (fun E h1 nc1 ns1 q8 => by cases q8.1)
    obtain ⟨q8, q9⟩ := q8
    cases q8
    cases q9
    refine zpE_call rfl rfl (p_13 HL) (fun v h1 nc1 ns1 q8 => ?_) (fun E h1 nc1 ns1 q8 => by cases q8)
    cases q8
    exact zpE_end rfl rfl (zOq_v (by unfold V97; rw [if_pos z5_0]))
  · have z5_0 := zF_e0 q5
    refine zpE_run 2 (L' := [some (.ref 0), some (.int x1)]) (st' := [.int (Int32.ofInt (-1))]) rfl ?_
    exact zpE_end rfl rfl (zOq_v (by unfold V97; rw [if_neg z5_0]))
def F102 (x1 : Int32) (x2 : Int32) (S : zSt) : zSt := zsR (F41 (V91 x1 S) (x2 ||| (zsyn (zco S.2) x2 (zwi S.1) <<< (S.1 0 &&& 31))) S) 17 x1 (Int32.ofInt 0)
theorem e_102 {x1 x2 : Int32} (HL : zaL S.2) : zpM xs N 102 [.ref 0, .int x1, .int x2] (zx S.1 S.2 T) nc ns (zOq (.inl none) (zx (F102 x1 x2 S).1 (F102 x1 x2 S).2 T)) := by
  intro L0 e
  cases e
  refine zpE_run 4 (L' := [some (.ref 0), some (.int x1), some (.int x2)]) (st' := [.int x1, .ref 0, .ref 6]) rfl ?_
  refine zpE_call rfl rfl (e_91 (S := S) (x1 := x1) HL) (fun v h1 nc1 ns1 q8 => ?_) (fun E h1 nc1 ns1 q8 => by cases q8.1)
  obtain ⟨q8, q9⟩ := q8
  cases q8
  cases q9
  refine zpE_run 3 (L' := [some (.ref 0), some (.int x1), some (.int x2)]) (st' := [.int x2, .ref 1, .int (V91 x1 S), .ref 6]) rfl ?_
  refine zpE_call rfl rfl (p_14 HL) (fun v h1 nc1 ns1 q8 => ?_) (fun E h1 nc1 ns1 q8 => by cases q8)
  cases q8
  refine zpE_call rfl rfl (e_41 (S := S) (x1 := V91 x1 S) (x2 := x2 ||| (zsyn (zco S.2) x2 (zwi S.1) <<< (S.1 0 &&& 31))) HL) (fun v h1 nc1 ns1 q8 => ?_) (fun E h1 nc1 ns1 q8 => by cases q8.1)
  obtain ⟨q8, q9⟩ := q8
  cases q8
  cases q9
  obtain ⟨Z1, hZ1⟩ : ∃ Z, Z = F41 (V91 x1 S) (x2 ||| (zsyn (zco S.2) x2 (zwi S.1) <<< (S.1 0 &&& 31))) S := ⟨_, rfl⟩
  rw [← hZ1]
  have LZ1 : zaL Z1.2 := by
    rw [hZ1]
    exact ln_F41 HL
  refine zpE_run 4 (L' := [some (.ref 0), some (.int x1), some (.int x2)]) (st' := [.int (Int32.ofInt 0), .int x1, .ref 40]) rfl ?_
  refine zpE_call rfl rfl (p_26 17 41 40 rfl rfl (fun _ => rfl) ((LZ1 : zaL Z1.2) 17)) (fun v h1 nc1 ns1 q8 => ?_) (fun E h1 nc1 ns1 q8 => by cases q8)
  cases q8
  exact zpE_end rfl rfl (zOq_f (S' := zsR Z1 17 x1 (Int32.ofInt 0)) (by unfold F102; (try rw [← hZ1]); (first | done | rfl)))
theorem fr_F102 {x1 x2 : Int32} : zfrm [] [2, 17] (F102 x1 x2 S) S := by
  unfold F102
  exact (fm_c fm_R (fm_c fr_F41 fm_rf (by decide) (by decide)) (by decide) (by decide))
theorem ln_F102 {x1 x2 : Int32} (HL : zaL S.2) : zaL (F102 x1 x2 S).2 := fm_L fr_F102 HL
def F101 (x1 : Int32) (x2 : Int32) (S : zSt) : zSt := (F102 x1 x2 (F43 (V90 x1 S) S))
theorem e_101 {x1 x2 : Int32} (HL : zaL S.2) : zpM xs N 101 [.ref 0, .int x1, .int x2] (zx S.1 S.2 T) nc ns (zOq (.inl none) (zx (F101 x1 x2 S).1 (F101 x1 x2 S).2 T)) := by
  intro L0 e
  cases e
  refine zpE_run 4 (L' := [some (.ref 0), some (.int x1), some (.int x2)]) (st' := [.int x1, .ref 0, .ref 6]) rfl ?_
  refine zpE_call rfl rfl (e_90 (S := S) (x1 := x1) HL) (fun v h1 nc1 ns1 q8 => ?_) (fun E h1 nc1 ns1 q8 => by cases q8.1)
  obtain ⟨q8, q9⟩ := q8
  cases q8
  cases q9
  refine zpE_call rfl rfl (e_43 (S := S) (x1 := V90 x1 S) HL) (fun v h1 nc1 ns1 q8 => ?_) (fun E h1 nc1 ns1 q8 => by cases q8.1)
  obtain ⟨q8, q9⟩ := q8
  cases q8
  cases q9
  obtain ⟨Z1, hZ1⟩ : ∃ Z, Z = F43 (V90 x1 S) S := ⟨_, rfl⟩
  rw [← hZ1]
  have LZ1 : zaL Z1.2 := by
    rw [hZ1]
    exact ln_F43 HL
  refine zpE_run 3 (L' := [some (.ref 0), some (.int x1), some (.int x2)]) (st' := [.int x2, .int x1, .ref 0]) rfl ?_
  refine zpE_call rfl rfl (e_102 (S := Z1) (x1 := x1) (x2 := x2) LZ1) (fun v h1 nc1 ns1 q8 => ?_) (fun E h1 nc1 ns1 q8 => by cases q8.1)
  obtain ⟨q8, q9⟩ := q8
  cases q8
  cases q9
  obtain ⟨Z2, hZ2⟩ : ∃ Z, Z = F102 x1 x2 Z1 := ⟨_, rfl⟩
  rw [← hZ2]
  have LZ2 : zaL Z2.2 := by
    rw [hZ2]
    exact ln_F102 LZ1
  exact zpE_end rfl rfl (zOq_f (S' := Z2) (by unfold F101; (try rw [← hZ1]); (try rw [← hZ2]); (first | done | rfl)))
theorem fr_F101 {x1 x2 : Int32} : zfrm [7, 8] [2, 3, 4, 17] (F101 x1 x2 S) S := by
  unfold F101
  exact (fm_c fr_F102 (fm_c fr_F43 fm_rf (by decide) (by decide)) (by decide) (by decide))
theorem ln_F101 {x1 x2 : Int32} (HL : zaL S.2) : zaL (F101 x1 x2 S).2 := fm_L fr_F101 HL
def F103 (x1 : Int32) (x2 : Int32) (S : zSt) : zSt := if (ztu S.1 S.2 (V92 x1 S)) = ((0 : Int32)) then S else (if x2 = ((0 : Int32)) then ((F31 x1 (zbo (ztu S.1 S.2 (V92 x1 S))) (S.1 4) S)) else (if (ztu S.1 S.2 (V92 x1 S)) = (Int32.ofInt (-1)) then ((F31 x1 (zbo (ztu S.1 S.2 (V92 x1 S))) (S.1 4) S)) else ((F41 (V91 x1 (F31 x1 (zbo (ztu S.1 S.2 (V92 x1 S))) (S.1 4) S)) ((V92 x1 S) ^^^ (ztu S.1 S.2 (V92 x1 S))) (F31 x1 (zbo (ztu S.1 S.2 (V92 x1 S))) (S.1 4) S)))))
theorem e_103 {x1 x2 : Int32} (HL : zaL S.2) : zpM xs N 103 [.ref 0, .int x1, .int x2] (zx S.1 S.2 T) nc ns (zOq (.inl none) (zx (F103 x1 x2 S).1 (F103 x1 x2 S).2 T)) := by
  intro L0 e
  cases e
  refine zpE_run 2 (L' := [some (.ref 0), some (.int x1), some (.int x2), none, none]) (st' := [.int x1, .ref 0]) rfl ?_
  refine zpE_call rfl rfl (e_92 (S := S) (x1 := x1) HL) (fun v h1 nc1 ns1 q8 => ?_) (fun E h1 nc1 ns1 q8 => by cases q8.1)
  obtain ⟨q8, q9⟩ := q8
  cases q8
  cases q9
  refine zpE_run 4 (L' := [some (.ref 0), some (.int x1), some (.int x2), some (.int (V92 x1 S)), none]) (st' := [.int (V92 x1 S), .ref 1]) rfl ?_
  refine zpE_call rfl rfl (p_9 HL) (fun v h1 nc1 ns1 q8 => ?_) (fun E h1 nc1 ns1 q8 => by cases q8)
  cases q8
  refine zpE_run 2 (L' := [some (.ref 0), some (.int x1), some (.int x2), some (.int (V92 x1 S)), some (.int (ztu S.1 S.2 (V92 x1 S)))]) (st' := [.int (ztu S.1 S.2 (V92 x1 S))]) rfl ?_
  refine zpE_if rfl (fun q18 => ?_) (fun q18 => ?_)
  · have z18_0 := zF_n1 q18
    refine zpE_run 4 (L' := [some (.ref 0), some (.int x1), some (.int x2), some (.int (V92 x1 S)), some (.int (ztu S.1 S.2 (V92 x1 S)))]) (st' := [.int (ztu S.1 S.2 (V92 x1 S)), .int x1, .ref 29]) rfl ?_
    refine zpE_call rfl rfl (p_12) (fun v h1 nc1 ns1 q8 => ?_) (fun E h1 nc1 ns1 q8 => by cases q8)
    cases q8
    refine zpE_run 3 (L' := [some (.ref 0), some (.int x1), some (.int x2), some (.int (V92 x1 S)), some (.int (ztu S.1 S.2 (V92 x1 S)))]) (st' := [.int (S.1 4), .int (zbo (ztu S.1 S.2 (V92 x1 S))), .int x1, .ref 29]) rfl ?_
    refine zpE_call rfl rfl (e_31 (S := S) (x1 := x1) (x2 := zbo (ztu S.1 S.2 (V92 x1 S))) (x3 := S.1 4) HL) (fun v h1 nc1 ns1 q8 => ?_) (fun E h1 nc1 ns1 q8 => by cases q8.1)
    obtain ⟨q8, q9⟩ := q8
    cases q8
    cases q9
    obtain ⟨Z1, hZ1⟩ : ∃ Z, Z = F31 x1 (zbo (ztu S.1 S.2 (V92 x1 S))) (S.1 4) S := ⟨_, rfl⟩
    rw [← hZ1]
    have LZ1 : zaL Z1.2 := by
      rw [hZ1]
      exact ln_F31 HL
    refine zpE_run 1 (L' := [some (.ref 0), some (.int x1), some (.int x2), some (.int (V92 x1 S)), some (.int (ztu S.1 S.2 (V92 x1 S)))]) (st' := [.int x2]) rfl ?_
    refine zpE_if rfl (fun q43 => ?_) (fun q43 => ?_)
    · have z43_1 := zF_e1 q43
      exact zpE_end rfl rfl (zOq_f (S' := Z1) (by unfold F103; (try rw [← hZ1]); rw [if_neg z18_0, if_pos z43_1]))
    · have z43_1 := zF_e0 q43
      refine zpE_run 2 (L' := [some (.ref 0), some (.int x1), some (.int x2), some (.int (V92 x1 S)), some (.int (ztu S.1 S.2 (V92 x1 S)))]) (st' := [.int (Int32.ofInt (-1)), .int (ztu S.1 S.2 (V92 x1 S))]) rfl ?_
      refine zpE_icmp rfl (fun q49 => ?_) (fun q49 => ?_)
      · have z49_2 := zF_e1 q49
        exact zpE_end rfl rfl (zOq_f (S' := Z1) (by unfold F103; (try rw [← hZ1]); rw [if_neg z18_0, if_neg z43_1, if_pos z49_2]))
      · have z49_2 := zF_e0 q49
        refine zpE_run 4 (L' := [some (.ref 0), some (.int x1), some (.int x2), some (.int (V92 x1 S)), some (.int (ztu S.1 S.2 (V92 x1 S)))]) (st' := [.int x1, .ref 0, .ref 6]) rfl ?_
        refine zpE_call rfl rfl (e_91 (S := Z1) (x1 := x1) LZ1) (fun v h1 nc1 ns1 q8 => ?_) (fun E h1 nc1 ns1 q8 => by cases q8.1)
        obtain ⟨q8, q9⟩ := q8
        cases q8
        cases q9
        refine zpE_run 3 (L' := [some (.ref 0), some (.int x1), some (.int x2), some (.int (V92 x1 S)), some (.int (ztu S.1 S.2 (V92 x1 S)))]) (st' := [.int ((V92 x1 S) ^^^ (ztu S.1 S.2 (V92 x1 S))), .int (V91 x1 Z1), .ref 6]) rfl ?_
        refine zpE_call rfl rfl (e_41 (S := Z1) (x1 := V91 x1 Z1) (x2 := (V92 x1 S) ^^^ (ztu S.1 S.2 (V92 x1 S))) LZ1) (fun v h1 nc1 ns1 q8 => ?_) (fun E h1 nc1 ns1 q8 => by cases q8.1)
        obtain ⟨q8, q9⟩ := q8
        cases q8
        cases q9
        obtain ⟨Z2, hZ2⟩ : ∃ Z, Z = F41 (V91 x1 Z1) ((V92 x1 S) ^^^ (ztu S.1 S.2 (V92 x1 S))) Z1 := ⟨_, rfl⟩
        rw [← hZ2]
        have LZ2 : zaL Z2.2 := by
          rw [hZ2]
          exact ln_F41 LZ1
        exact zpE_end rfl rfl (zOq_f (S' := Z2) (by unfold F103; (try rw [← hZ1]); (try rw [← hZ2]); rw [if_neg z18_0, if_neg z43_1, if_neg z49_2]))
  · have z18_0 := zF_n0 q18
    exact zpE_end rfl rfl (zOq_f (S' := S) (by unfold F103; rw [if_pos z18_0]))
theorem fr_F103 {x1 x2 : Int32} : zfrm [11, 12, 13] [2, 12, 13, 14] (F103 x1 x2 S) S := by
  unfold F103
  exact (fm_ite fm_rf (fm_ite (fm_c fr_F31 fm_rf (by decide) (by decide)) (fm_ite (fm_c fr_F31 fm_rf (by decide) (by decide)) (fm_c fr_F41 (fm_c fr_F31 fm_rf (by decide) (by decide)) (by decide) (by decide)))))
theorem ln_F103 {x1 x2 : Int32} (HL : zaL S.2) : zaL (F103 x1 x2 S).2 := fm_L fr_F103 HL
def V104 (x1 : Int32) (S : zSt) : Int32 := if (S.1 16) = ((0 : Int32)) then ((Int32.ofInt (-1))) else (if (V96 (V89 x1 S) S) = ((0 : Int32)) then (if (V97 (V89 x1 S) (F43 (V90 (V89 x1 S) S) S)) = (Int32.ofInt (-1)) then ((Int32.ofInt (-1))) else ((V97 (V89 x1 S) (F43 (V90 (V89 x1 S) S) S)))) else ((Int32.ofInt (-1))))
def F104 (x1 : Int32) (S : zSt) : zSt := if (S.1 16) = ((0 : Int32)) then (zsR S 17 x1 (Int32.ofInt 1)) else (if (V96 (V89 x1 S) S) = ((0 : Int32)) then (if (V97 (V89 x1 S) (F43 (V90 (V89 x1 S) S) S)) = (Int32.ofInt (-1)) then (zsR (F43 (V90 (V89 x1 S) S) S) 17 x1 (Int32.ofInt 1)) else ((F102 x1 (V97 (V89 x1 S) (F43 (V90 (V89 x1 S) S) S)) (F103 (V89 x1 S) ((F43 (V90 (V89 x1 S) S) S).1 15) (F43 (V90 (V89 x1 S) S) S))))) else (zsR S 17 x1 (Int32.ofInt 1)))
theorem e_104 {x1 : Int32} (HL : zaL S.2) : zpM xs N 104 [.ref 0, .int x1] (zx S.1 S.2 T) nc ns (zOq (.inl (some (.int (V104 x1 S)))) (zx (F104 x1 S).1 (F104 x1 S).2 T)) := by
  intro L0 e
  cases e
  refine zpE_run 3 (L' := [some (.ref 0), some (.int x1), some (.int (Int32.ofInt (-1))), none]) (st' := [.int x1]) rfl ?_
  refine zpE_call rfl rfl (e_89 (S := S) (x1 := x1) HL) (fun v h1 nc1 ns1 q8 => ?_) (fun E h1 nc1 ns1 q8 => by cases q8.1)
  obtain ⟨q8, q9⟩ := q8
  cases q8
  cases q9
  refine zpE_run 3 (L' := [some (.ref 0), some (.int x1), some (.int (Int32.ofInt (-1))), some (.int (V89 x1 S))]) (st' := [.int (S.1 16)]) rfl ?_
  refine zpE_if rfl (fun q11 => ?_) (fun q11 => ?_)
  · have z11_0 := zF_e1 q11
    refine zpE_run 2 (L' := [some (.ref 0), some (.int x1), some (.int (Int32.ofInt (-1))), some (.int (V89 x1 S))]) (st' := [.int (Int32.ofInt (-1)), .int (Int32.ofInt (-1))]) rfl ?_
    refine zpE_icmp rfl (fun q42 => ?_) (fun q42 => ?_)
    · exact absurd (zF_n1 q42) (by decide)
    · clear q42
      refine zpE_run 4 (L' := [some (.ref 0), some (.int x1), some (.int (Int32.ofInt (-1))), some (.int (V89 x1 S))]) (st' := [.int (Int32.ofInt 1), .int x1, .ref 40]) rfl ?_
      refine zpE_call rfl rfl (p_26 17 41 40 rfl rfl (fun _ => rfl) ((HL : zaL S.2) 17)) (fun v h1 nc1 ns1 q8 => ?_) (fun E h1 nc1 ns1 q8 => by cases q8)
      cases q8
      refine zpE_run 1 (L' := [some (.ref 0), some (.int x1), some (.int (Int32.ofInt (-1))), some (.int (V89 x1 S))]) (st' := [.int (Int32.ofInt (-1))]) rfl ?_
      exact zpE_end rfl rfl (zOq_w (S' := zsR S 17 x1 (Int32.ofInt 1)) (by unfold V104; rw [if_pos z11_0]) (by unfold F104; rw [if_pos z11_0]))
  · have z11_0 := zF_e0 q11
    refine zpE_run 2 (L' := [some (.ref 0), some (.int x1), some (.int (Int32.ofInt (-1))), some (.int (V89 x1 S))]) (st' := [.int (V89 x1 S), .ref 0]) rfl ?_
    refine zpE_call rfl rfl (e_96 (S := S) (x1 := V89 x1 S) HL) (fun v h1 nc1 ns1 q8 => ?_) (fun E h1 nc1 ns1 q8 => by cases q8.1)
    obtain ⟨q8, q9⟩ := q8
    cases q8
    cases q9
    refine zpE_if rfl (fun q19 => ?_) (fun q19 => ?_)
    · have z19_1 := zF_n1 q19
      refine zpE_run 2 (L' := [some (.ref 0), some (.int x1), some (.int (Int32.ofInt (-1))), some (.int (V89 x1 S))]) (st' := [.int (Int32.ofInt (-1)), .int (Int32.ofInt (-1))]) rfl ?_
      refine zpE_icmp rfl (fun q42 => ?_) (fun q42 => ?_)
      · exact absurd (zF_n1 q42) (by decide)
      · clear q42
        refine zpE_run 4 (L' := [some (.ref 0), some (.int x1), some (.int (Int32.ofInt (-1))), some (.int (V89 x1 S))]) (st' := [.int (Int32.ofInt 1), .int x1, .ref 40]) rfl ?_
        refine zpE_call rfl rfl (p_26 17 41 40 rfl rfl (fun _ => rfl) ((HL : zaL S.2) 17)) (fun v h1 nc1 ns1 q8 => ?_) (fun E h1 nc1 ns1 q8 => by cases q8)
        cases q8
        refine zpE_run 1 (L' := [some (.ref 0), some (.int x1), some (.int (Int32.ofInt (-1))), some (.int (V89 x1 S))]) (st' := [.int (Int32.ofInt (-1))]) rfl ?_
        exact zpE_end rfl rfl (zOq_w (S' := zsR S 17 x1 (Int32.ofInt 1)) (by unfold V104; rw [if_neg z11_0, if_neg z19_1]) (by unfold F104; rw [if_neg z11_0, if_neg z19_1]))
    · have z19_1 := zF_n0 q19
      refine zpE_run 4 (L' := [some (.ref 0), some (.int x1), some (.int (Int32.ofInt (-1))), some (.int (V89 x1 S))]) (st' := [.int (V89 x1 S), .ref 0, .ref 6]) rfl ?_
      refine zpE_call rfl rfl (e_90 (S := S) (x1 := V89 x1 S) HL) (fun v h1 nc1 ns1 q8 => ?_) (fun E h1 nc1 ns1 q8 => by cases q8.1)
      obtain ⟨q8, q9⟩ := q8
      cases q8
      cases q9
      refine zpE_call rfl rfl (e_43 (S := S) (x1 := V90 (V89 x1 S) S) HL) (fun v h1 nc1 ns1 q8 => ?_) (fun E h1 nc1 ns1 q8 => by cases q8.1)
      obtain ⟨q8, q9⟩ := q8
      cases q8
      cases q9
      obtain ⟨Z1, hZ1⟩ : ∃ Z, Z = F43 (V90 (V89 x1 S) S) S := ⟨_, rfl⟩
      rw [← hZ1]
      have LZ1 : zaL Z1.2 := by
        rw [hZ1]
        exact ln_F43 HL
      refine zpE_run 2 (L' := [some (.ref 0), some (.int x1), some (.int (Int32.ofInt (-1))), some (.int (V89 x1 S))]) (st' := [.int (V89 x1 S), .ref 0]) rfl ?_
      refine zpE_call rfl rfl (e_97 (S := Z1) (x1 := V89 x1 S) LZ1) (fun v h1 nc1 ns1 q8 => ?_) (fun E h1 nc1 ns1 q8 => by cases q8.1)
      obtain ⟨q8, q9⟩ := q8
      cases q8
      cases q9
      refine zpE_run 3 (L' := [some (.ref 0), some (.int x1), some (.int (V97 (V89 x1 S) Z1)), some (.int (V89 x1 S))]) (st' := [.int (Int32.ofInt (-1)), .int (V97 (V89 x1 S) Z1)]) rfl ?_
      refine zpE_icmp rfl (fun q42 => ?_) (fun q42 => ?_)
      · have z42_2 := zF_n1 q42
        refine zpE_run 4 (L' := [some (.ref 0), some (.int x1), some (.int (V97 (V89 x1 S) Z1)), some (.int (V89 x1 S))]) (st' := [.int (Z1.1 15), .int (V89 x1 S), .ref 0]) rfl ?_
        refine zpE_call rfl rfl (e_103 (S := Z1) (x1 := V89 x1 S) (x2 := Z1.1 15) LZ1) (fun v h1 nc1 ns1 q8 => ?_) (fun E h1 nc1 ns1 q8 => by cases q8.1)
        obtain ⟨q8, q9⟩ := q8
        cases q8
        cases q9
        obtain ⟨Z2, hZ2⟩ : ∃ Z, Z = F103 (V89 x1 S) (Z1.1 15) Z1 := ⟨_, rfl⟩
        rw [← hZ2]
        have LZ2 : zaL Z2.2 := by
          rw [hZ2]
          exact ln_F103 LZ1
        refine zpE_run 3 (L' := [some (.ref 0), some (.int x1), some (.int (V97 (V89 x1 S) Z1)), some (.int (V89 x1 S))]) (st' := [.int (V97 (V89 x1 S) Z1), .int x1, .ref 0]) rfl ?_
        refine zpE_call rfl rfl (e_102 (S := Z2) (x1 := x1) (x2 := V97 (V89 x1 S) Z1) LZ2) (fun v h1 nc1 ns1 q8 => ?_) (fun E h1 nc1 ns1 q8 => by cases q8.1)
        obtain ⟨q8, q9⟩ := q8
        cases q8
        cases q9
        obtain ⟨Z3, hZ3⟩ : ∃ Z, Z = F102 x1 (V97 (V89 x1 S) Z1) Z2 := ⟨_, rfl⟩
        rw [← hZ3]
        have LZ3 : zaL Z3.2 := by
          rw [hZ3]
          exact ln_F102 LZ2
        refine zpE_run 1 (L' := [some (.ref 0), some (.int x1), some (.int (V97 (V89 x1 S) Z1)), some (.int (V89 x1 S))]) (st' := [.int (V97 (V89 x1 S) Z1)]) rfl ?_
        exact zpE_end rfl rfl (zOq_w (S' := Z3) (by unfold V104; (try rw [← hZ1]); (try rw [← hZ2]); (try rw [← hZ3]); rw [if_neg z11_0, if_pos z19_1, if_neg z42_2]) (by unfold F104; (try rw [← hZ1]); (try rw [← hZ2]); (try rw [← hZ3]); rw [if_neg z11_0, if_pos z19_1, if_neg z42_2]))
      · have z42_2 := zF_n0 q42
        refine zpE_run 4 (L' := [some (.ref 0), some (.int x1), some (.int (V97 (V89 x1 S) Z1)), some (.int (V89 x1 S))]) (st' := [.int (Int32.ofInt 1), .int x1, .ref 40]) rfl ?_
        refine zpE_call rfl rfl (p_26 17 41 40 rfl rfl (fun _ => rfl) ((LZ1 : zaL Z1.2) 17)) (fun v h1 nc1 ns1 q8 => ?_) (fun E h1 nc1 ns1 q8 => by cases q8)
        cases q8
        refine zpE_run 1 (L' := [some (.ref 0), some (.int x1), some (.int (V97 (V89 x1 S) Z1)), some (.int (V89 x1 S))]) (st' := [.int (Int32.ofInt (-1))]) rfl ?_
        exact zpE_end rfl rfl (zOq_w (S' := zsR Z1 17 x1 (Int32.ofInt 1)) (by unfold V104; (try rw [← hZ1]); rw [if_neg z11_0, if_pos z19_1, if_pos z42_2]) (by unfold F104; (try rw [← hZ1]); rw [if_neg z11_0, if_pos z19_1, if_pos z42_2]))
theorem fr_F104 {x1 : Int32} : zfrm [7, 8, 11, 12, 13] [2, 3, 4, 12, 13, 14, 17] (F104 x1 S) S := by
  unfold F104
  exact (fm_ite (fm_c fm_R fm_rf (by decide) (by decide)) (fm_ite (fm_ite (fm_c fm_R (fm_c fr_F43 fm_rf (by decide) (by decide)) (by decide) (by decide)) (fm_c fr_F102 (fm_c fr_F103 (fm_c fr_F43 fm_rf (by decide) (by decide)) (by decide) (by decide)) (by decide) (by decide))) (fm_c fm_R fm_rf (by decide) (by decide))))
theorem ln_F104 {x1 : Int32} (HL : zaL S.2) : zaL (F104 x1 S).2 := fm_L fr_F104 HL
def R54 (x1 : Int32) (x2 : Int32) (S : zSt) : Option Value ⊕ Nat := if C82 x1 S = true then (if C86 x2 S = true then (if C87 x1 S = true then (if ((F101 x1 x2 S).1 16) = ((0 : Int32)) then (.inl (some (.int (V92 x1 (F101 x1 x2 S))))) else (if (V96 (V89 x1 (F101 x1 x2 S)) (F101 x1 x2 S)) = ((0 : Int32)) then (.inl (some (.int (V92 x1 (F101 (V89 x1 (F101 x1 x2 S)) x2 (F101 x1 x2 S)))))) else (.inl (some (.int (V92 x1 (F101 x1 x2 S))))))) else (.inr 2)) else (.inr 0)) else (.inr 1)
def F54 (x1 : Int32) (x2 : Int32) (S : zSt) : zSt := if C82 x1 S = true then (if C86 x2 S = true then (if C87 x1 S = true then (if ((F101 x1 x2 S).1 16) = ((0 : Int32)) then ((F101 x1 x2 S)) else (if (V96 (V89 x1 (F101 x1 x2 S)) (F101 x1 x2 S)) = ((0 : Int32)) then ((F101 (V89 x1 (F101 x1 x2 S)) x2 (F101 x1 x2 S))) else ((F101 x1 x2 S)))) else S) else S) else S
theorem e_54 {x1 x2 : Int32} (HL : zaL S.2) : zpM xs N 54 [.ref 0, .int x1, .int x2] (zx S.1 S.2 T) nc ns (zOq (R54 x1 x2 S) (zx (F54 x1 x2 S).1 (F54 x1 x2 S).2 T)) := by
  intro L0 e
  cases e
  refine zpE_run 1 (L' := [some (.ref 0), some (.int x1), some (.int x2), none]) (st' := [.int x1]) rfl ?_
  refine zpE_call rfl rfl (e_82 (S := S) (x1 := x1) HL) (fun v h1 nc1 ns1 q8 => ?_) (fun E h1 nc1 ns1 q8 => ?_)
  rotate_left
  · rcases q8 with ⟨_, q8, _⟩ | ⟨c1, q8, q9⟩
    · cases q8
    · cases q8
      cases q9
      exact ⟨fun _ => (zOq_g (r := .inr 1) (S' := S) (by unfold R54; rw [if_neg c1]) (by unfold F54; rw [if_neg c1])), fun pc2 L2 e => by cases e⟩
  replace q8 := q8.resolve_right (fun y9 => by cases y9.2.1)
  obtain ⟨c1, q8, q9⟩ := q8
  cases q8
  cases q9
  refine zpE_run 2 (L' := [some (.ref 0), some (.int x1), some (.int x2), none]) (st' := [.int x2, .ref 0]) rfl ?_
  refine zpE_call rfl rfl (e_86 (S := S) (x1 := x2) HL) (fun v h1 nc1 ns1 q8 => ?_) (fun E h1 nc1 ns1 q8 => ?_)
  rotate_left
  · rcases q8 with ⟨_, q8, _⟩ | ⟨c6, q8, q9⟩
    · cases q8
    · cases q8
      cases q9
      exact ⟨fun _ => (zOq_g (r := .inr 0) (S' := S) (by unfold R54; rw [if_pos c1, if_neg c6]) (by unfold F54; rw [if_pos c1, if_neg c6])), fun pc2 L2 e => by cases e⟩
  replace q8 := q8.resolve_right (fun y9 => by cases y9.2.1)
  obtain ⟨c6, q8, q9⟩ := q8
  cases q8
  cases q9
  refine zpE_run 2 (L' := [some (.ref 0), some (.int x1), some (.int x2), none]) (st' := [.int x1, .ref 0]) rfl ?_
  refine zpE_call rfl rfl (e_87 (S := S) (x1 := x1) HL) (fun v h1 nc1 ns1 q8 => ?_) (fun E h1 nc1 ns1 q8 => ?_)
  rotate_left
  · rcases q8 with ⟨_, q8, _⟩ | ⟨c11, q8, q9⟩
    · cases q8
    · cases q8
      cases q9
      exact ⟨fun _ => (zOq_g (r := .inr 2) (S' := S) (by unfold R54; rw [if_pos c1, if_pos c6, if_neg c11]) (by unfold F54; rw [if_pos c1, if_pos c6, if_neg c11])), fun pc2 L2 e => by cases e⟩
  replace q8 := q8.resolve_right (fun y9 => by cases y9.2.1)
  obtain ⟨c11, q8, q9⟩ := q8
  cases q8
  cases q9
  refine zpE_run 3 (L' := [some (.ref 0), some (.int x1), some (.int x2), none]) (st' := [.int x2, .int x1, .ref 0]) rfl ?_
  refine zpE_call rfl rfl (e_101 (S := S) (x1 := x1) (x2 := x2) HL) (fun v h1 nc1 ns1 q8 => ?_) (fun E h1 nc1 ns1 q8 => by cases q8.1)
  obtain ⟨q8, q9⟩ := q8
  cases q8
  cases q9
  obtain ⟨Z1, hZ1⟩ : ∃ Z, Z = F101 x1 x2 S := ⟨_, rfl⟩
  rw [← hZ1]
  have LZ1 : zaL Z1.2 := by
    rw [hZ1]
    exact ln_F101 HL
  refine zpE_run 1 (L' := [some (.ref 0), some (.int x1), some (.int x2), none]) (st' := [.int x1]) rfl ?_
  refine zpE_call rfl rfl (e_89 (S := Z1) (x1 := x1) LZ1) (fun v h1 nc1 ns1 q8 => ?_) (fun E h1 nc1 ns1 q8 => by cases q8.1)
  obtain ⟨q8, q9⟩ := q8
  cases q8
  cases q9
  refine zpE_run 3 (L' := [some (.ref 0), some (.int x1), some (.int x2), some (.int (V89 x1 Z1))]) (st' := [.int (Z1.1 16)]) rfl ?_
  refine zpE_if rfl (fun q29 => ?_) (fun q29 => ?_)
  · have z29_3 := zF_e1 q29
    refine zpE_run 2 (L' := [some (.ref 0), some (.int x1), some (.int x2), some (.int (V89 x1 Z1))]) (st' := [.int x1, .ref 0]) rfl ?_
    refine zpE_call rfl rfl (e_92 (S := Z1) (x1 := x1) LZ1) (fun v h1 nc1 ns1 q8 => ?_) (fun E h1 nc1 ns1 q8 => by cases q8.1)
    obtain ⟨q8, q9⟩ := q8
    cases q8
    cases q9
    exact zpE_end rfl rfl (zOq_g (r := .inl (some (.int (V92 x1 Z1)))) (S' := Z1) (by unfold R54; (try rw [← hZ1]); rw [if_pos c1, if_pos c6, if_pos c11, if_pos z29_3]) (by unfold F54; (try rw [← hZ1]); rw [if_pos c1, if_pos c6, if_pos c11, if_pos z29_3]))
  · have z29_3 := zF_e0 q29
    refine zpE_run 2 (L' := [some (.ref 0), some (.int x1), some (.int x2), some (.int (V89 x1 Z1))]) (st' := [.int (V89 x1 Z1), .ref 0]) rfl ?_
    refine zpE_call rfl rfl (e_96 (S := Z1) (x1 := V89 x1 Z1) LZ1) (fun v h1 nc1 ns1 q8 => ?_) (fun E h1 nc1 ns1 q8 => by cases q8.1)
    obtain ⟨q8, q9⟩ := q8
    cases q8
    cases q9
    refine zpE_if rfl (fun q37 => ?_) (fun q37 => ?_)
    · have z37_4 := zF_n1 q37
      refine zpE_run 2 (L' := [some (.ref 0), some (.int x1), some (.int x2), some (.int (V89 x1 Z1))]) (st' := [.int x1, .ref 0]) rfl ?_
      refine zpE_call rfl rfl (e_92 (S := Z1) (x1 := x1) LZ1) (fun v h1 nc1 ns1 q8 => ?_) (fun E h1 nc1 ns1 q8 => by cases q8.1)
      obtain ⟨q8, q9⟩ := q8
      cases q8
      cases q9
      exact zpE_end rfl rfl (zOq_g (r := .inl (some (.int (V92 x1 Z1)))) (S' := Z1) (by unfold R54; (try rw [← hZ1]); rw [if_pos c1, if_pos c6, if_pos c11, if_neg z29_3, if_neg z37_4]) (by unfold F54; (try rw [← hZ1]); rw [if_pos c1, if_pos c6, if_pos c11, if_neg z29_3, if_neg z37_4]))
    · have z37_4 := zF_n0 q37
      refine zpE_run 3 (L' := [some (.ref 0), some (.int x1), some (.int x2), some (.int (V89 x1 Z1))]) (st' := [.int x2, .int (V89 x1 Z1), .ref 0]) rfl ?_
      refine zpE_call rfl rfl (e_101 (S := Z1) (x1 := V89 x1 Z1) (x2 := x2) LZ1) (fun v h1 nc1 ns1 q8 => ?_) (fun E h1 nc1 ns1 q8 => by cases q8.1)
      obtain ⟨q8, q9⟩ := q8
      cases q8
      cases q9
      obtain ⟨Z2, hZ2⟩ : ∃ Z, Z = F101 (V89 x1 Z1) x2 Z1 := ⟨_, rfl⟩
      rw [← hZ2]
      have LZ2 : zaL Z2.2 := by
        rw [hZ2]
        exact ln_F101 LZ1
      refine zpE_run 2 (L' := [some (.ref 0), some (.int x1), some (.int x2), some (.int (V89 x1 Z1))]) (st' := [.int x1, .ref 0]) rfl ?_
      refine zpE_call rfl rfl (e_92 (S := Z2) (x1 := x1) LZ2) (fun v h1 nc1 ns1 q8 => ?_) (fun E h1 nc1 ns1 q8 => by cases q8.1)
      obtain ⟨q8, q9⟩ := q8
      cases q8
      cases q9
      exact zpE_end rfl rfl (zOq_g (r := .inl (some (.int (V92 x1 Z2)))) (S' := Z2) (by unfold R54; (try rw [← hZ1]); (try rw [← hZ2]); rw [if_pos c1, if_pos c6, if_pos c11, if_neg z29_3, if_pos z37_4]) (by unfold F54; (try rw [← hZ1]); (try rw [← hZ2]); rw [if_pos c1, if_pos c6, if_pos c11, if_neg z29_3, if_pos z37_4]))
theorem fr_F54 {x1 x2 : Int32} : zfrm [7, 8] [2, 3, 4, 17] (F54 x1 x2 S) S := by
  unfold F54
  exact (fm_ite (fm_ite (fm_ite (fm_ite (fm_c fr_F101 fm_rf (by decide) (by decide)) (fm_ite (fm_c fr_F101 (fm_c fr_F101 fm_rf (by decide) (by decide)) (by decide) (by decide)) (fm_c fr_F101 fm_rf (by decide) (by decide)))) fm_rf) fm_rf) fm_rf)
theorem ln_F54 {x1 x2 : Int32} (HL : zaL S.2) : zaL (F54 x1 x2 S).2 := fm_L fr_F54 HL
def R55 (x1 : Int32) (S : zSt) : Option Value ⊕ Nat := if C82 x1 S = true then (if C87 x1 S = true then (if (V95 x1 (F43 (V90 x1 S) S)) = ((0 : Int32)) then (if (V97 x1 (F43 (V90 x1 S) S)) = (Int32.ofInt (-1)) then (.inl (some (.int (V104 x1 (F103 x1 ((F43 (V90 x1 S) S).1 15) (F43 (V90 x1 S) S)))))) else (.inl (some (.int (V97 x1 (F43 (V90 x1 S) S)))))) else (if (V97 x1 (F43 (V90 x1 S) S)) = (Int32.ofInt (-1)) then (.inl (some (.int (V104 x1 (F43 (V90 x1 S) S))))) else (.inl (some (.int (V97 x1 (F43 (V90 x1 S) S))))))) else (.inr 2)) else (.inr 1)
def F55 (x1 : Int32) (S : zSt) : zSt := if C82 x1 S = true then (if C87 x1 S = true then (if (V95 x1 (F43 (V90 x1 S) S)) = ((0 : Int32)) then (if (V97 x1 (F43 (V90 x1 S) S)) = (Int32.ofInt (-1)) then ((F104 x1 (F103 x1 ((F43 (V90 x1 S) S).1 15) (F43 (V90 x1 S) S)))) else ((F103 x1 ((F43 (V90 x1 S) S).1 15) (F43 (V90 x1 S) S)))) else (if (V97 x1 (F43 (V90 x1 S) S)) = (Int32.ofInt (-1)) then ((F104 x1 (F43 (V90 x1 S) S))) else ((F43 (V90 x1 S) S)))) else S) else S
theorem e_55 {x1 : Int32} (HL : zaL S.2) : zpM xs N 55 [.ref 0, .int x1] (zx S.1 S.2 T) nc ns (zOq (R55 x1 S) (zx (F55 x1 S).1 (F55 x1 S).2 T)) := by
  intro L0 e
  cases e
  refine zpE_run 1 (L' := [some (.ref 0), some (.int x1), none]) (st' := [.int x1]) rfl ?_
  refine zpE_call rfl rfl (e_82 (S := S) (x1 := x1) HL) (fun v h1 nc1 ns1 q8 => ?_) (fun E h1 nc1 ns1 q8 => ?_)
  rotate_left
  · rcases q8 with ⟨_, q8, _⟩ | ⟨c1, q8, q9⟩
    · cases q8
    · cases q8
      cases q9
      exact ⟨fun _ => (zOq_g (r := .inr 1) (S' := S) (by unfold R55; rw [if_neg c1]) (by unfold F55; rw [if_neg c1])), fun pc2 L2 e => by cases e⟩
  replace q8 := q8.resolve_right (fun y9 => by cases y9.2.1)
  obtain ⟨c1, q8, q9⟩ := q8
  cases q8
  cases q9
  refine zpE_run 2 (L' := [some (.ref 0), some (.int x1), none]) (st' := [.int x1, .ref 0]) rfl ?_
  refine zpE_call rfl rfl (e_87 (S := S) (x1 := x1) HL) (fun v h1 nc1 ns1 q8 => ?_) (fun E h1 nc1 ns1 q8 => ?_)
  rotate_left
  · rcases q8 with ⟨_, q8, _⟩ | ⟨c6, q8, q9⟩
    · cases q8
    · cases q8
      cases q9
      exact ⟨fun _ => (zOq_g (r := .inr 2) (S' := S) (by unfold R55; rw [if_pos c1, if_neg c6]) (by unfold F55; rw [if_pos c1, if_neg c6])), fun pc2 L2 e => by cases e⟩
  replace q8 := q8.resolve_right (fun y9 => by cases y9.2.1)
  obtain ⟨c6, q8, q9⟩ := q8
  cases q8
  cases q9
  refine zpE_run 4 (L' := [some (.ref 0), some (.int x1), none]) (st' := [.int x1, .ref 0, .ref 6]) rfl ?_
  refine zpE_call rfl rfl (e_90 (S := S) (x1 := x1) HL) (fun v h1 nc1 ns1 q8 => ?_) (fun E h1 nc1 ns1 q8 => by cases q8.1)
  obtain ⟨q8, q9⟩ := q8
  cases q8
  cases q9
  refine zpE_call rfl rfl (e_43 (S := S) (x1 := V90 x1 S) HL) (fun v h1 nc1 ns1 q8 => ?_) (fun E h1 nc1 ns1 q8 => by cases q8.1)
  obtain ⟨q8, q9⟩ := q8
  cases q8
  cases q9
  obtain ⟨Z1, hZ1⟩ : ∃ Z, Z = F43 (V90 x1 S) S := ⟨_, rfl⟩
  rw [← hZ1]
  have LZ1 : zaL Z1.2 := by
    rw [hZ1]
    exact ln_F43 HL
  refine zpE_run 2 (L' := [some (.ref 0), some (.int x1), none]) (st' := [.int x1, .ref 0]) rfl ?_
  refine zpE_call rfl rfl (e_97 (S := Z1) (x1 := x1) LZ1) (fun v h1 nc1 ns1 q8 => ?_) (fun E h1 nc1 ns1 q8 => by cases q8.1)
  obtain ⟨q8, q9⟩ := q8
  cases q8
  cases q9
  refine zpE_run 3 (L' := [some (.ref 0), some (.int x1), some (.int (V97 x1 Z1))]) (st' := [.int x1, .ref 0]) rfl ?_
  refine zpE_call rfl rfl (e_95 (S := Z1) (x1 := x1) LZ1) (fun v h1 nc1 ns1 q8 => ?_) (fun E h1 nc1 ns1 q8 => by cases q8.1)
  obtain ⟨q8, q9⟩ := q8
  cases q8
  cases q9
  refine zpE_if rfl (fun q32 => ?_) (fun q32 => ?_)
  · have z32_2 := zF_n1 q32
    refine zpE_run 2 (L' := [some (.ref 0), some (.int x1), some (.int (V97 x1 Z1))]) (st' := [.int (Int32.ofInt (-1)), .int (V97 x1 Z1)]) rfl ?_
    refine zpE_icmp rfl (fun q46 => ?_) (fun q46 => ?_)
    · have z46_3 := zF_n1 q46
      refine zpE_run 1 (L' := [some (.ref 0), some (.int x1), some (.int (V97 x1 Z1))]) (st' := [.int (V97 x1 Z1)]) rfl ?_
      exact zpE_end rfl rfl (zOq_g (r := .inl (some (.int (V97 x1 Z1)))) (S' := Z1) (by unfold R55; (try rw [← hZ1]); rw [if_pos c1, if_pos c6, if_neg z32_2, if_neg z46_3]) (by unfold F55; (try rw [← hZ1]); rw [if_pos c1, if_pos c6, if_neg z32_2, if_neg z46_3]))
    · have z46_3 := zF_n0 q46
      refine zpE_run 2 (L' := [some (.ref 0), some (.int x1), some (.int (V97 x1 Z1))]) (st' := [.int x1, .ref 0]) rfl ?_
      refine zpE_call rfl rfl (e_104 (S := Z1) (x1 := x1) LZ1) (fun v h1 nc1 ns1 q8 => ?_) (fun E h1 nc1 ns1 q8 => by cases q8.1)
      obtain ⟨q8, q9⟩ := q8
      cases q8
      cases q9
      obtain ⟨Z2, hZ2⟩ : ∃ Z, Z = F104 x1 Z1 := ⟨_, rfl⟩
      rw [← hZ2]
      have LZ2 : zaL Z2.2 := by
        rw [hZ2]
        exact ln_F104 LZ1
      refine zpE_run 1 (L' := [some (.ref 0), some (.int x1), some (.int (V97 x1 Z1))]) (st' := [.int (V104 x1 Z1)]) rfl ?_
      exact zpE_end rfl rfl (zOq_g (r := .inl (some (.int (V104 x1 Z1)))) (S' := Z2) (by unfold R55; (try rw [← hZ1]); (try rw [← hZ2]); rw [if_pos c1, if_pos c6, if_neg z32_2, if_pos z46_3]) (by unfold F55; (try rw [← hZ1]); (try rw [← hZ2]); rw [if_pos c1, if_pos c6, if_neg z32_2, if_pos z46_3]))
  · have z32_2 := zF_n0 q32
    refine zpE_run 4 (L' := [some (.ref 0), some (.int x1), some (.int (V97 x1 Z1))]) (st' := [.int (Z1.1 15), .int x1, .ref 0]) rfl ?_
    refine zpE_call rfl rfl (e_103 (S := Z1) (x1 := x1) (x2 := Z1.1 15) LZ1) (fun v h1 nc1 ns1 q8 => ?_) (fun E h1 nc1 ns1 q8 => by cases q8.1)
    obtain ⟨q8, q9⟩ := q8
    cases q8
    cases q9
    obtain ⟨Z3, hZ3⟩ : ∃ Z, Z = F103 x1 (Z1.1 15) Z1 := ⟨_, rfl⟩
    rw [← hZ3]
    have LZ3 : zaL Z3.2 := by
      rw [hZ3]
      exact ln_F103 LZ1
    refine zpE_run 2 (L' := [some (.ref 0), some (.int x1), some (.int (V97 x1 Z1))]) (st' := [.int (Int32.ofInt (-1)), .int (V97 x1 Z1)]) rfl ?_
    refine zpE_icmp rfl (fun q46 => ?_) (fun q46 => ?_)
    · have z46_3 := zF_n1 q46
      refine zpE_run 1 (L' := [some (.ref 0), some (.int x1), some (.int (V97 x1 Z1))]) (st' := [.int (V97 x1 Z1)]) rfl ?_
      exact zpE_end rfl rfl (zOq_g (r := .inl (some (.int (V97 x1 Z1)))) (S' := Z3) (by unfold R55; (try rw [← hZ1]); (try rw [← hZ3]); rw [if_pos c1, if_pos c6, if_pos z32_2, if_neg z46_3]) (by unfold F55; (try rw [← hZ1]); (try rw [← hZ3]); rw [if_pos c1, if_pos c6, if_pos z32_2, if_neg z46_3]))
    · have z46_3 := zF_n0 q46
      refine zpE_run 2 (L' := [some (.ref 0), some (.int x1), some (.int (V97 x1 Z1))]) (st' := [.int x1, .ref 0]) rfl ?_
      refine zpE_call rfl rfl (e_104 (S := Z3) (x1 := x1) LZ3) (fun v h1 nc1 ns1 q8 => ?_) (fun E h1 nc1 ns1 q8 => by cases q8.1)
      obtain ⟨q8, q9⟩ := q8
      cases q8
      cases q9
      obtain ⟨Z4, hZ4⟩ : ∃ Z, Z = F104 x1 Z3 := ⟨_, rfl⟩
      rw [← hZ4]
      have LZ4 : zaL Z4.2 := by
        rw [hZ4]
        exact ln_F104 LZ3
      refine zpE_run 1 (L' := [some (.ref 0), some (.int x1), some (.int (V97 x1 Z1))]) (st' := [.int (V104 x1 Z3)]) rfl ?_
      exact zpE_end rfl rfl (zOq_g (r := .inl (some (.int (V104 x1 Z3)))) (S' := Z4) (by unfold R55; (try rw [← hZ1]); (try rw [← hZ3]); (try rw [← hZ4]); rw [if_pos c1, if_pos c6, if_pos z32_2, if_pos z46_3]) (by unfold F55; (try rw [← hZ1]); (try rw [← hZ3]); (try rw [← hZ4]); rw [if_pos c1, if_pos c6, if_pos z32_2, if_pos z46_3]))
theorem fr_F55 {x1 : Int32} : zfrm [7, 8, 11, 12, 13] [2, 3, 4, 12, 13, 14, 17] (F55 x1 S) S := by
  unfold F55
  exact (fm_ite (fm_ite (fm_ite (fm_ite (fm_c fr_F104 (fm_c fr_F103 (fm_c fr_F43 fm_rf (by decide) (by decide)) (by decide) (by decide)) (by decide) (by decide)) (fm_c fr_F103 (fm_c fr_F43 fm_rf (by decide) (by decide)) (by decide) (by decide))) (fm_ite (fm_c fr_F104 (fm_c fr_F43 fm_rf (by decide) (by decide)) (by decide) (by decide)) (fm_c fr_F43 fm_rf (by decide) (by decide)))) fm_rf) fm_rf)
theorem ln_F55 {x1 : Int32} (HL : zaL S.2) : zaL (F55 x1 S).2 := fm_L fr_F55 HL
def R56 (x1 : Int32) (x2 : Int32) (S : zSt) : Option Value ⊕ Nat := if C82 x1 S = true then (if x2.toInt < (Int32.ofInt 1).toInt then (.inr 0) else (if x2.toInt < (V5 S).toInt then (.inl (some (.int (V92 x1 (F41 (V91 x1 S) ((V92 x1 S) ^^^ x2) S))))) else (.inr 0))) else (.inr 1)
def F56 (x1 : Int32) (x2 : Int32) (S : zSt) : zSt := if C82 x1 S = true then (if x2.toInt < (Int32.ofInt 1).toInt then S else (if x2.toInt < (V5 S).toInt then ((F41 (V91 x1 S) ((V92 x1 S) ^^^ x2) S)) else S)) else S
theorem e_56 {x1 x2 : Int32} (HL : zaL S.2) : zpM xs N 56 [.ref 0, .int x1, .int x2] (zx S.1 S.2 T) nc ns (zOq (R56 x1 x2 S) (zx (F56 x1 x2 S).1 (F56 x1 x2 S).2 T)) := by
  intro L0 e
  cases e
  refine zpE_run 1 (L' := [some (.ref 0), some (.int x1), some (.int x2)]) (st' := [.int x1]) rfl ?_
  refine zpE_call rfl rfl (e_82 (S := S) (x1 := x1) HL) (fun v h1 nc1 ns1 q8 => ?_) (fun E h1 nc1 ns1 q8 => ?_)
  rotate_left
  · rcases q8 with ⟨_, q8, _⟩ | ⟨c1, q8, q9⟩
    · cases q8
    · cases q8
      cases q9
      exact ⟨fun _ => (zOq_g (r := .inr 1) (S' := S) (by unfold R56; rw [if_neg c1]) (by unfold F56; rw [if_neg c1])), fun pc2 L2 e => by cases e⟩
  replace q8 := q8.resolve_right (fun y9 => by cases y9.2.1)
  obtain ⟨c1, q8, q9⟩ := q8
  cases q8
  cases q9
  refine zpE_run 2 (L' := [some (.ref 0), some (.int x1), some (.int x2)]) (st' := [.int (Int32.ofInt 1), .int x2]) rfl ?_
  refine zpE_icmp rfl (fun q6 => ?_) (fun q6 => ?_)
  · have z6_1 := zF_lt_t q6
    exact zpE_end rfl rfl (zOq_g (r := .inr 0) (S' := S) (by unfold R56; rw [if_pos c1, if_pos z6_1]) (by unfold F56; rw [if_pos c1, if_pos z6_1]))
  · have z6_1 := Int.not_lt.mpr (zF_lt_f q6)
    refine zpE_run 3 (L' := [some (.ref 0), some (.int x1), some (.int x2)]) (st' := [.ref 1, .int x2]) rfl ?_
    refine zpE_call rfl rfl (e_5 (S := S) HL) (fun v h1 nc1 ns1 q8 => ?_) (fun E h1 nc1 ns1 q8 => by cases q8.1)
    obtain ⟨q8, q9⟩ := q8
    cases q8
    cases q9
    refine zpE_icmp rfl (fun q17 => ?_) (fun q17 => ?_)
    · have z17_2 := zF_lt_t q17
      refine zpE_run 4 (L' := [some (.ref 0), some (.int x1), some (.int x2)]) (st' := [.int x1, .ref 0, .ref 6]) rfl ?_
      refine zpE_call rfl rfl (e_91 (S := S) (x1 := x1) HL) (fun v h1 nc1 ns1 q8 => ?_) (fun E h1 nc1 ns1 q8 => by cases q8.1)
      obtain ⟨q8, q9⟩ := q8
      cases q8
      cases q9
      refine zpE_run 2 (L' := [some (.ref 0), some (.int x1), some (.int x2)]) (st' := [.int x1, .ref 0, .int (V91 x1 S), .ref 6]) rfl ?_
      refine zpE_call rfl rfl (e_92 (S := S) (x1 := x1) HL) (fun v h1 nc1 ns1 q8 => ?_) (fun E h1 nc1 ns1 q8 => by cases q8.1)
      obtain ⟨q8, q9⟩ := q8
      cases q8
      cases q9
      refine zpE_run 2 (L' := [some (.ref 0), some (.int x1), some (.int x2)]) (st' := [.int ((V92 x1 S) ^^^ x2), .int (V91 x1 S), .ref 6]) rfl ?_
      refine zpE_call rfl rfl (e_41 (S := S) (x1 := V91 x1 S) (x2 := (V92 x1 S) ^^^ x2) HL) (fun v h1 nc1 ns1 q8 => ?_) (fun E h1 nc1 ns1 q8 => by cases q8.1)
      obtain ⟨q8, q9⟩ := q8
      cases q8
      cases q9
      obtain ⟨Z1, hZ1⟩ : ∃ Z, Z = F41 (V91 x1 S) ((V92 x1 S) ^^^ x2) S := ⟨_, rfl⟩
      rw [← hZ1]
      have LZ1 : zaL Z1.2 := by
        rw [hZ1]
        exact ln_F41 HL
      refine zpE_run 2 (L' := [some (.ref 0), some (.int x1), some (.int x2)]) (st' := [.int x1, .ref 0]) rfl ?_
      refine zpE_call rfl rfl (e_92 (S := Z1) (x1 := x1) LZ1) (fun v h1 nc1 ns1 q8 => ?_) (fun E h1 nc1 ns1 q8 => by cases q8.1)
      obtain ⟨q8, q9⟩ := q8
      cases q8
      cases q9
      exact zpE_end rfl rfl (zOq_g (r := .inl (some (.int (V92 x1 Z1)))) (S' := Z1) (by unfold R56; (try rw [← hZ1]); rw [if_pos c1, if_neg z6_1, if_pos z17_2]) (by unfold F56; (try rw [← hZ1]); rw [if_pos c1, if_neg z6_1, if_pos z17_2]))
    · have z17_2 := Int.not_lt.mpr (zF_lt_f q17)
      exact zpE_end rfl rfl (zOq_g (r := .inr 0) (S' := S) (by unfold R56; rw [if_pos c1, if_neg z6_1, if_neg z17_2]) (by unfold F56; rw [if_pos c1, if_neg z6_1, if_neg z17_2]))
theorem fr_F56 {x1 x2 : Int32} : zfrm [] [2] (F56 x1 x2 S) S := by
  unfold F56
  exact (fm_ite (fm_ite fm_rf (fm_ite (fm_c fr_F41 fm_rf (by decide) (by decide)) fm_rf)) fm_rf)
theorem ln_F56 {x1 x2 : Int32} (HL : zaL S.2) : zaL (F56 x1 x2 S).2 := fm_L fr_F56 HL
def R57 (x1 : Int32) (x2 : Int32) (x3 : Int32) (S : zSt) : Option Value ⊕ Nat := if C82 x1 S = true then (if (V7 x2 S) = ((0 : Int32)) then (.inr 0) else (if (V20_15 S) = ((0 : Int32)) then (if x3 = ((0 : Int32)) then (.inl (some (.int ((F41 (V91 x1 (F21_15 (V91 x1 S) ((Int32.ofInt 1) <<< (x2 &&& 31)) (Int32.ofInt 0) S)) (V92 x1 (F21_15 (V91 x1 S) ((Int32.ofInt 1) <<< (x2 &&& 31)) (Int32.ofInt 0) S)) (F21_15 (V91 x1 S) ((Int32.ofInt 1) <<< (x2 &&& 31)) (Int32.ofInt 0) S)).1 9)))) else (.inl (some (.int ((F41 (V91 x1 (F21_15 (V91 x1 S) ((Int32.ofInt 1) <<< (x2 &&& 31)) (Int32.ofInt 1) S)) (V92 x1 (F21_15 (V91 x1 S) ((Int32.ofInt 1) <<< (x2 &&& 31)) (Int32.ofInt 1) S)) (F21_15 (V91 x1 S) ((Int32.ofInt 1) <<< (x2 &&& 31)) (Int32.ofInt 1) S)).1 9))))) else (.inr 2))) else (.inr 1)
def F57 (x1 : Int32) (x2 : Int32) (x3 : Int32) (S : zSt) : zSt := if C82 x1 S = true then (if (V7 x2 S) = ((0 : Int32)) then S else (if (V20_15 S) = ((0 : Int32)) then (if x3 = ((0 : Int32)) then ((F41 (V91 x1 (F21_15 (V91 x1 S) ((Int32.ofInt 1) <<< (x2 &&& 31)) (Int32.ofInt 0) S)) (V92 x1 (F21_15 (V91 x1 S) ((Int32.ofInt 1) <<< (x2 &&& 31)) (Int32.ofInt 0) S)) (F21_15 (V91 x1 S) ((Int32.ofInt 1) <<< (x2 &&& 31)) (Int32.ofInt 0) S))) else ((F41 (V91 x1 (F21_15 (V91 x1 S) ((Int32.ofInt 1) <<< (x2 &&& 31)) (Int32.ofInt 1) S)) (V92 x1 (F21_15 (V91 x1 S) ((Int32.ofInt 1) <<< (x2 &&& 31)) (Int32.ofInt 1) S)) (F21_15 (V91 x1 S) ((Int32.ofInt 1) <<< (x2 &&& 31)) (Int32.ofInt 1) S)))) else S)) else S
theorem e_57 {x1 x2 x3 : Int32} (HL : zaL S.2) : zpM xs N 57 [.ref 0, .int x1, .int x2, .int x3] (zx S.1 S.2 T) nc ns (zOq (R57 x1 x2 x3 S) (zx (F57 x1 x2 x3 S).1 (F57 x1 x2 x3 S).2 T)) := by
  intro L0 e
  cases e
  refine zpE_run 1 (L' := [some (.ref 0), some (.int x1), some (.int x2), some (.int x3)]) (st' := [.int x1]) rfl ?_
  refine zpE_call rfl rfl (e_82 (S := S) (x1 := x1) HL) (fun v h1 nc1 ns1 q8 => ?_) (fun E h1 nc1 ns1 q8 => ?_)
  rotate_left
  · rcases q8 with ⟨_, q8, _⟩ | ⟨c1, q8, q9⟩
    · cases q8
    · cases q8
      cases q9
      exact ⟨fun _ => (zOq_g (r := .inr 1) (S' := S) (by unfold R57; rw [if_neg c1]) (by unfold F57; rw [if_neg c1])), fun pc2 L2 e => by cases e⟩
  replace q8 := q8.resolve_right (fun y9 => by cases y9.2.1)
  obtain ⟨c1, q8, q9⟩ := q8
  cases q8
  cases q9
  refine zpE_run 3 (L' := [some (.ref 0), some (.int x1), some (.int x2), some (.int x3)]) (st' := [.int x2, .ref 1]) rfl ?_
  refine zpE_call rfl rfl (e_7 (S := S) (x1 := x2) HL) (fun v h1 nc1 ns1 q8 => ?_) (fun E h1 nc1 ns1 q8 => by cases q8.1)
  obtain ⟨q8, q9⟩ := q8
  cases q8
  cases q9
  refine zpE_if rfl (fun q12 => ?_) (fun q12 => ?_)
  · have z12_1 := zF_n1 q12
    refine zpE_run 3 (L' := [some (.ref 0), some (.int x1), some (.int x2), some (.int x3)]) (st' := [.ref 15]) rfl ?_
    refine zpE_call rfl rfl (e_20_15 (S := S) HL) (fun v h1 nc1 ns1 q8 => ?_) (fun E h1 nc1 ns1 q8 => by cases q8.1)
    obtain ⟨q8, q9⟩ := q8
    cases q8
    cases q9
    refine zpE_if rfl (fun q35 => ?_) (fun q35 => ?_)
    · have z35_2 := zF_e1 q35
      refine zpE_run 5 (L' := [some (.ref 0), some (.int x1), some (.int x2), some (.int x3)]) (st' := [.int x1, .ref 0, .ref 15]) rfl ?_
      refine zpE_call rfl rfl (e_91 (S := S) (x1 := x1) HL) (fun v h1 nc1 ns1 q8 => ?_) (fun E h1 nc1 ns1 q8 => by cases q8.1)
      obtain ⟨q8, q9⟩ := q8
      cases q8
      cases q9
      refine zpE_run 4 (L' := [some (.ref 0), some (.int x1), some (.int x2), some (.int x3)]) (st' := [.int x3, .int ((Int32.ofInt 1) <<< (x2 &&& 31)), .int (V91 x1 S), .ref 15]) rfl ?_
      refine zpE_if rfl (fun q64 => ?_) (fun q64 => ?_)
      · have z64_3 := zF_e1 q64
        refine zpE_run 1 (L' := [some (.ref 0), some (.int x1), some (.int x2), some (.int x3)]) (st' := [.int (Int32.ofInt 0), .int ((Int32.ofInt 1) <<< (x2 &&& 31)), .int (V91 x1 S), .ref 15]) rfl ?_
        refine zpE_call rfl rfl (e_21_15 (S := S) (x1 := V91 x1 S) (x2 := (Int32.ofInt 1) <<< (x2 &&& 31)) (x3 := Int32.ofInt 0) HL) (fun v h1 nc1 ns1 q8 => ?_) (fun E h1 nc1 ns1 q8 => by cases q8.1)
        obtain ⟨q8, q9⟩ := q8
        cases q8
        cases q9
        obtain ⟨Z1, hZ1⟩ : ∃ Z, Z = F21_15 (V91 x1 S) ((Int32.ofInt 1) <<< (x2 &&& 31)) (Int32.ofInt 0) S := ⟨_, rfl⟩
        rw [← hZ1]
        have LZ1 : zaL Z1.2 := by
          rw [hZ1]
          exact ln_F21_15 HL
        refine zpE_run 4 (L' := [some (.ref 0), some (.int x1), some (.int x2), some (.int x3)]) (st' := [.int x1, .ref 0, .ref 6]) rfl ?_
        refine zpE_call rfl rfl (e_91 (S := Z1) (x1 := x1) LZ1) (fun v h1 nc1 ns1 q8 => ?_) (fun E h1 nc1 ns1 q8 => by cases q8.1)
        obtain ⟨q8, q9⟩ := q8
        cases q8
        cases q9
        refine zpE_run 2 (L' := [some (.ref 0), some (.int x1), some (.int x2), some (.int x3)]) (st' := [.int x1, .ref 0, .int (V91 x1 Z1), .ref 6]) rfl ?_
        refine zpE_call rfl rfl (e_92 (S := Z1) (x1 := x1) LZ1) (fun v h1 nc1 ns1 q8 => ?_) (fun E h1 nc1 ns1 q8 => by cases q8.1)
        obtain ⟨q8, q9⟩ := q8
        cases q8
        cases q9
        refine zpE_call rfl rfl (e_41 (S := Z1) (x1 := V91 x1 Z1) (x2 := V92 x1 Z1) LZ1) (fun v h1 nc1 ns1 q8 => ?_) (fun E h1 nc1 ns1 q8 => by cases q8.1)
        obtain ⟨q8, q9⟩ := q8
        cases q8
        cases q9
        obtain ⟨Z2, hZ2⟩ : ∃ Z, Z = F41 (V91 x1 Z1) (V92 x1 Z1) Z1 := ⟨_, rfl⟩
        rw [← hZ2]
        have LZ2 : zaL Z2.2 := by
          rw [hZ2]
          exact ln_F41 LZ1
        refine zpE_run 4 (L' := [some (.ref 0), some (.int x1), some (.int x2), some (.int x3)]) (st' := [.int (Z2.1 9)]) rfl ?_
        exact zpE_end rfl rfl (zOq_g (r := .inl (some (.int (Z2.1 9)))) (S' := Z2) (by unfold R57; (try rw [← hZ1]); (try rw [← hZ2]); rw [if_pos c1, if_neg z12_1, if_pos z35_2, if_pos z64_3]) (by unfold F57; (try rw [← hZ1]); (try rw [← hZ2]); rw [if_pos c1, if_neg z12_1, if_pos z35_2, if_pos z64_3]))
      · have z64_3 := zF_e0 q64
        refine zpE_run 2 (L' := [some (.ref 0), some (.int x1), some (.int x2), some (.int x3)]) (st' := [.int (Int32.ofInt 1), .int ((Int32.ofInt 1) <<< (x2 &&& 31)), .int (V91 x1 S), .ref 15]) rfl ?_
        refine zpE_call rfl rfl (e_21_15 (S := S) (x1 := V91 x1 S) (x2 := (Int32.ofInt 1) <<< (x2 &&& 31)) (x3 := Int32.ofInt 1) HL) (fun v h1 nc1 ns1 q8 => ?_) (fun E h1 nc1 ns1 q8 => by cases q8.1)
        obtain ⟨q8, q9⟩ := q8
        cases q8
        cases q9
        obtain ⟨Z3, hZ3⟩ : ∃ Z, Z = F21_15 (V91 x1 S) ((Int32.ofInt 1) <<< (x2 &&& 31)) (Int32.ofInt 1) S := ⟨_, rfl⟩
        rw [← hZ3]
        have LZ3 : zaL Z3.2 := by
          rw [hZ3]
          exact ln_F21_15 HL
        refine zpE_run 4 (L' := [some (.ref 0), some (.int x1), some (.int x2), some (.int x3)]) (st' := [.int x1, .ref 0, .ref 6]) rfl ?_
        refine zpE_call rfl rfl (e_91 (S := Z3) (x1 := x1) LZ3) (fun v h1 nc1 ns1 q8 => ?_) (fun E h1 nc1 ns1 q8 => by cases q8.1)
        obtain ⟨q8, q9⟩ := q8
        cases q8
        cases q9
        refine zpE_run 2 (L' := [some (.ref 0), some (.int x1), some (.int x2), some (.int x3)]) (st' := [.int x1, .ref 0, .int (V91 x1 Z3), .ref 6]) rfl ?_
        refine zpE_call rfl rfl (e_92 (S := Z3) (x1 := x1) LZ3) (fun v h1 nc1 ns1 q8 => ?_) (fun E h1 nc1 ns1 q8 => by cases q8.1)
        obtain ⟨q8, q9⟩ := q8
        cases q8
        cases q9
        refine zpE_call rfl rfl (e_41 (S := Z3) (x1 := V91 x1 Z3) (x2 := V92 x1 Z3) LZ3) (fun v h1 nc1 ns1 q8 => ?_) (fun E h1 nc1 ns1 q8 => by cases q8.1)
        obtain ⟨q8, q9⟩ := q8
        cases q8
        cases q9
        obtain ⟨Z4, hZ4⟩ : ∃ Z, Z = F41 (V91 x1 Z3) (V92 x1 Z3) Z3 := ⟨_, rfl⟩
        rw [← hZ4]
        have LZ4 : zaL Z4.2 := by
          rw [hZ4]
          exact ln_F41 LZ3
        refine zpE_run 4 (L' := [some (.ref 0), some (.int x1), some (.int x2), some (.int x3)]) (st' := [.int (Z4.1 9)]) rfl ?_
        exact zpE_end rfl rfl (zOq_g (r := .inl (some (.int (Z4.1 9)))) (S' := Z4) (by unfold R57; (try rw [← hZ3]); (try rw [← hZ4]); rw [if_pos c1, if_neg z12_1, if_pos z35_2, if_neg z64_3]) (by unfold F57; (try rw [← hZ3]); (try rw [← hZ4]); rw [if_pos c1, if_neg z12_1, if_pos z35_2, if_neg z64_3]))
    · have z35_2 := zF_e0 q35
      exact zpE_end rfl rfl (zOq_g (r := .inr 2) (S' := S) (by unfold R57; rw [if_pos c1, if_neg z12_1, if_neg z35_2]) (by unfold F57; rw [if_pos c1, if_neg z12_1, if_neg z35_2]))
  · have z12_1 := zF_n0 q12
    exact zpE_end rfl rfl (zOq_g (r := .inr 0) (S' := S) (by unfold R57; rw [if_pos c1, if_pos z12_1]) (by unfold F57; rw [if_pos c1, if_pos z12_1]))
theorem fr_F57 {x1 x2 x3 : Int32} : zfrm [9] [2, 6, 7, 8] (F57 x1 x2 x3 S) S := by
  unfold F57
  exact (fm_ite (fm_ite fm_rf (fm_ite (fm_ite (fm_c fr_F41 (fm_c fr_F21_15 fm_rf (by decide) (by decide)) (by decide) (by decide)) (fm_c fr_F41 (fm_c fr_F21_15 fm_rf (by decide) (by decide)) (by decide) (by decide))) fm_rf)) fm_rf)
theorem ln_F57 {x1 x2 x3 : Int32} (HL : zaL S.2) : zaL (F57 x1 x2 x3 S).2 := fm_L fr_F57 HL
def R58 (x1 : Int32) (x2 : Int32) (x3 : Int32) (S : zSt) : Option Value ⊕ Nat := if C82 x1 S = true then (if (V7 x2 S) = ((0 : Int32)) then (.inr 0) else (if x3.toInt < (Int32.ofInt 1).toInt then (.inr 0) else (if (Int32.ofInt 60).toInt < x3.toInt then (.inr 0) else (if (V20_22 S) = ((0 : Int32)) then (.inl (some (.int ((F21_22 (V91 x1 S) ((Int32.ofInt 1) <<< (x2 &&& 31)) x3 S).1 10)))) else (.inr 2))))) else (.inr 1)
def F58 (x1 : Int32) (x2 : Int32) (x3 : Int32) (S : zSt) : zSt := if C82 x1 S = true then (if (V7 x2 S) = ((0 : Int32)) then S else (if x3.toInt < (Int32.ofInt 1).toInt then S else (if (Int32.ofInt 60).toInt < x3.toInt then S else (if (V20_22 S) = ((0 : Int32)) then ((F21_22 (V91 x1 S) ((Int32.ofInt 1) <<< (x2 &&& 31)) x3 S)) else S)))) else S
theorem e_58 {x1 x2 x3 : Int32} (HL : zaL S.2) : zpM xs N 58 [.ref 0, .int x1, .int x2, .int x3] (zx S.1 S.2 T) nc ns (zOq (R58 x1 x2 x3 S) (zx (F58 x1 x2 x3 S).1 (F58 x1 x2 x3 S).2 T)) := by
  intro L0 e
  cases e
  refine zpE_run 1 (L' := [some (.ref 0), some (.int x1), some (.int x2), some (.int x3)]) (st' := [.int x1]) rfl ?_
  refine zpE_call rfl rfl (e_82 (S := S) (x1 := x1) HL) (fun v h1 nc1 ns1 q8 => ?_) (fun E h1 nc1 ns1 q8 => ?_)
  rotate_left
  · rcases q8 with ⟨_, q8, _⟩ | ⟨c1, q8, q9⟩
    · cases q8
    · cases q8
      cases q9
      exact ⟨fun _ => (zOq_g (r := .inr 1) (S' := S) (by unfold R58; rw [if_neg c1]) (by unfold F58; rw [if_neg c1])), fun pc2 L2 e => by cases e⟩
  replace q8 := q8.resolve_right (fun y9 => by cases y9.2.1)
  obtain ⟨c1, q8, q9⟩ := q8
  cases q8
  cases q9
  refine zpE_run 3 (L' := [some (.ref 0), some (.int x1), some (.int x2), some (.int x3)]) (st' := [.int x2, .ref 1]) rfl ?_
  refine zpE_call rfl rfl (e_7 (S := S) (x1 := x2) HL) (fun v h1 nc1 ns1 q8 => ?_) (fun E h1 nc1 ns1 q8 => by cases q8.1)
  obtain ⟨q8, q9⟩ := q8
  cases q8
  cases q9
  refine zpE_if rfl (fun q12 => ?_) (fun q12 => ?_)
  · have z12_1 := zF_n1 q12
    refine zpE_run 2 (L' := [some (.ref 0), some (.int x1), some (.int x2), some (.int x3)]) (st' := [.int (Int32.ofInt 1), .int x3]) rfl ?_
    refine zpE_icmp rfl (fun q27 => ?_) (fun q27 => ?_)
    · have z27_2 := zF_lt_t q27
      exact zpE_end rfl rfl (zOq_g (r := .inr 0) (S' := S) (by unfold R58; rw [if_pos c1, if_neg z12_1, if_pos z27_2]) (by unfold F58; rw [if_pos c1, if_neg z12_1, if_pos z27_2]))
    · have z27_2 := Int.not_lt.mpr (zF_lt_f q27)
      refine zpE_run 2 (L' := [some (.ref 0), some (.int x1), some (.int x2), some (.int x3)]) (st' := [.int (Int32.ofInt 60), .int x3]) rfl ?_
      refine zpE_icmp rfl (fun q33 => ?_) (fun q33 => ?_)
      · have z33_3 := Int.not_lt.mpr (zF_le_t q33)
        refine zpE_run 3 (L' := [some (.ref 0), some (.int x1), some (.int x2), some (.int x3)]) (st' := [.ref 22]) rfl ?_
        refine zpE_call rfl rfl (e_20_22 (S := S) HL) (fun v h1 nc1 ns1 q8 => ?_) (fun E h1 nc1 ns1 q8 => by cases q8.1)
        obtain ⟨q8, q9⟩ := q8
        cases q8
        cases q9
        refine zpE_if rfl (fun q56 => ?_) (fun q56 => ?_)
        · have z56_4 := zF_e1 q56
          refine zpE_run 5 (L' := [some (.ref 0), some (.int x1), some (.int x2), some (.int x3)]) (st' := [.int x1, .ref 0, .ref 22]) rfl ?_
          refine zpE_call rfl rfl (e_91 (S := S) (x1 := x1) HL) (fun v h1 nc1 ns1 q8 => ?_) (fun E h1 nc1 ns1 q8 => by cases q8.1)
          obtain ⟨q8, q9⟩ := q8
          cases q8
          cases q9
          refine zpE_run 4 (L' := [some (.ref 0), some (.int x1), some (.int x2), some (.int x3)]) (st' := [.int x3, .int ((Int32.ofInt 1) <<< (x2 &&& 31)), .int (V91 x1 S), .ref 22]) rfl ?_
          refine zpE_call rfl rfl (e_21_22 (S := S) (x1 := V91 x1 S) (x2 := (Int32.ofInt 1) <<< (x2 &&& 31)) (x3 := x3) HL) (fun v h1 nc1 ns1 q8 => ?_) (fun E h1 nc1 ns1 q8 => by cases q8.1)
          obtain ⟨q8, q9⟩ := q8
          cases q8
          cases q9
          obtain ⟨Z1, hZ1⟩ : ∃ Z, Z = F21_22 (V91 x1 S) ((Int32.ofInt 1) <<< (x2 &&& 31)) x3 S := ⟨_, rfl⟩
          rw [← hZ1]
          have LZ1 : zaL Z1.2 := by
            rw [hZ1]
            exact ln_F21_22 HL
          refine zpE_run 4 (L' := [some (.ref 0), some (.int x1), some (.int x2), some (.int x3)]) (st' := [.int (Z1.1 10)]) rfl ?_
          exact zpE_end rfl rfl (zOq_g (r := .inl (some (.int (Z1.1 10)))) (S' := Z1) (by unfold R58; (try rw [← hZ1]); rw [if_pos c1, if_neg z12_1, if_neg z27_2, if_neg z33_3, if_pos z56_4]) (by unfold F58; (try rw [← hZ1]); rw [if_pos c1, if_neg z12_1, if_neg z27_2, if_neg z33_3, if_pos z56_4]))
        · have z56_4 := zF_e0 q56
          exact zpE_end rfl rfl (zOq_g (r := .inr 2) (S' := S) (by unfold R58; rw [if_pos c1, if_neg z12_1, if_neg z27_2, if_neg z33_3, if_neg z56_4]) (by unfold F58; rw [if_pos c1, if_neg z12_1, if_neg z27_2, if_neg z33_3, if_neg z56_4]))
      · have z33_3 := zF_le_f q33
        exact zpE_end rfl rfl (zOq_g (r := .inr 0) (S' := S) (by unfold R58; rw [if_pos c1, if_neg z12_1, if_neg z27_2, if_pos z33_3]) (by unfold F58; rw [if_pos c1, if_neg z12_1, if_neg z27_2, if_pos z33_3]))
  · have z12_1 := zF_n0 q12
    exact zpE_end rfl rfl (zOq_g (r := .inr 0) (S' := S) (by unfold R58; rw [if_pos c1, if_pos z12_1]) (by unfold F58; rw [if_pos c1, if_pos z12_1]))
theorem fr_F58 {x1 x2 x3 : Int32} : zfrm [10] [9, 10, 11] (F58 x1 x2 x3 S) S := by
  unfold F58
  exact (fm_ite (fm_ite fm_rf (fm_ite fm_rf (fm_ite fm_rf (fm_ite (fm_c fr_F21_22 fm_rf (by decide) (by decide)) fm_rf)))) fm_rf)
theorem ln_F58 {x1 x2 x3 : Int32} (HL : zaL S.2) : zaL (F58 x1 x2 x3 S).2 := fm_L fr_F58 HL
def V64  (S : zSt) : Int32 := (S.1 11)
def F64  (S : zSt) : zSt := (F30 S)
theorem e_64 (HL : zaL S.2) : zpM xs N 64 [.ref 0] (zx S.1 S.2 T) nc ns (zOq (.inl (some (.int (V64 S)))) (zx (F64 S).1 (F64 S).2 T)) := by
  intro L0 e
  cases e
  refine zpE_run 6 (L' := [some (.ref 0), some (.int (S.1 11))]) (st' := [.ref 29]) rfl ?_
  refine zpE_call rfl rfl (e_30 (S := S) HL) (fun v h1 nc1 ns1 q8 => ?_) (fun E h1 nc1 ns1 q8 => by cases q8.1)
  obtain ⟨q8, q9⟩ := q8
  cases q8
  cases q9
  obtain ⟨Z1, hZ1⟩ : ∃ Z, Z = F30 S := ⟨_, rfl⟩
  rw [← hZ1]
  have LZ1 : zaL Z1.2 := by
    rw [hZ1]
    exact ln_F30 HL
  refine zpE_run 1 (L' := [some (.ref 0), some (.int (S.1 11))]) (st' := [.int (S.1 11)]) rfl ?_
  exact zpE_end rfl rfl (zOq_w (S' := Z1) (by unfold V64; (try rw [← hZ1]); (first | done | rfl)) (by unfold F64; (try rw [← hZ1]); (first | done | rfl)))
theorem fr_F64 : zfrm [11] [] (F64 S) S := by
  unfold F64
  exact (fm_c fr_F30 fm_rf (by decide) (by decide))
theorem ln_F64 (HL : zaL S.2) : zaL (F64 S).2 := fm_L fr_F64 HL
def V65  (S : zSt) : Int32 := ((zsS S 18 ((S.1 18) + (Int32.ofInt 1))).1 18)
def F65  (S : zSt) : zSt := zsS S 18 ((S.1 18) + (Int32.ofInt 1))
theorem e_65 (HL : zaL S.2) : zpM xs N 65 [.ref 0] (zx S.1 S.2 T) nc ns (zOq (.inl (some (.int (V65 S)))) (zx (F65 S).1 (F65 S).2 T)) := by
  intro L0 e
  cases e
  refine zpE_run 8 (L' := [some (.ref 0)]) (st' := [.int ((zsS S 18 ((S.1 18) + (Int32.ofInt 1))).1 18)]) (h' := zx (zsS S 18 ((S.1 18) + (Int32.ofInt 1))).1 (zsS S 18 ((S.1 18) + (Int32.ofInt 1))).2 T) rfl ?_
  exact zpE_end rfl rfl (zOq_w (S' := zsS S 18 ((S.1 18) + (Int32.ofInt 1))) (by unfold V65; (first | done | rfl)) (by unfold F65; (first | done | rfl)))
theorem fr_F65 : zfrm [18] [] (F65 S) S := by
  unfold F65
  exact (fm_c fm_S fm_rf (by decide) (by decide))
theorem ln_F65 (HL : zaL S.2) : zaL (F65 S).2 := fm_L fr_F65 HL
def D46 (S : zSt) (k : Nat) (u : zSt) : zSt := if ((u.1 4) - (zgt (u.2 4) (zqtd (zgt (u.2 9) ((Int32.ofNat k))) (Int32.ofInt 8)))).toInt < (zgt (u.2 11) ((Int32.ofNat k))).toInt then u else ((F41 (zgt (u.2 9) ((Int32.ofNat k))) ((zgt (u.2 2) (zgt (u.2 9) ((Int32.ofNat k)))) &&& ((zgt (u.2 10) ((Int32.ofNat k))) ^^^ (Int32.ofInt (-1)))) u))
def W46 (S : zSt) (u0 : zSt) : Nat → zSt
  | 0 => u0
  | k + 1 => D46 S k (W46 S u0 k)
def X46 (S : zSt) (u : zSt) : zSt := if (V47 (u.1 4) u) = ((0 : Int32)) then u else (zsF (zsF u 3 (Int32.ofInt 0)) 4 ((zsF u 3 (Int32.ofInt 0)).1 4))
theorem fr_D46 {k : Nat} {u : zSt} : zfrm [] [2] (D46 S k u) u := by
  unfold D46
  exact (fm_ite fm_rf (fm_c fr_F41 fm_rf (by decide) (by decide)))
theorem fr_W46 {u0 : zSt} : ∀ k, zfrm [] [2] (W46 S u0 k) u0
  | 0 => fm_rf
  | k + 1 => fm_tr fr_D46 (fr_W46 k)
theorem ln_W46 {u0 : zSt} (HU : zaL u0.2) (k : Nat) : zaL (W46 S u0 k).2 := fm_L (fr_W46 k) HU
theorem kd_46 {k : Nat} {u : zSt} : (D46 S k u).1 10 = u.1 10 := fr_D46.1 10 (by decide)
theorem kw_46 {u0 : zSt} : ∀ k, (W46 S u0 k).1 10 = u0.1 10
  | 0 => rfl
  | k + 1 => kd_46.trans (kw_46 k)
theorem l_46 {u0 : zSt} (HL : zaL u0.2) : ∀ (N k : Nat) (o2 : Option Value) (nc ns : Nat), k ≤ (u0.1 10).toInt.toNat → zpE xs N 46 12 [some (.ref 6), some (.int (Int32.ofNat k)), o2] [] (zx (W46 S u0 k).1 (W46 S u0 k).2 T) nc ns (zOq (.inl none) (zx (X46 S (W46 S u0 (u0.1 10).toInt.toNat)).1 (X46 S (W46 S u0 (u0.1 10).toInt.toNat)).2 T))
  | 0, _, _, _, _, _ => zpE_0
  | N + 1, k, o2, nc, ns, hk => by
    have HLk := ln_W46 (S := S) HL k
    refine zpE_run1 3 (L' := [some (.ref 6), some (.int (Int32.ofNat k)), o2]) (st' := [.int (((W46 S u0 k)).1 10), .int (Int32.ofNat k)]) rfl ?_
    rw [kw_46]
    refine zpE_icmp rfl (fun q20 => ?_) (fun q20 => ?_)
    · have z20_0 := Int.not_lt.mpr (zF_ge_t q20)
      refine zpE_run 3 (L' := [some (.ref 6), some (.int (Int32.ofNat k)), o2]) (st' := [.int (((W46 S u0 k)).1 4), .ref 6]) rfl ?_
      refine zpE_call rfl rfl (e_47 (S := (W46 S u0 k)) (x1 := ((W46 S u0 k)).1 4) HLk) (fun v h1 nc1 ns1 q8 => ?_) (fun E h1 nc1 ns1 q8 => by cases q8.1)
      obtain ⟨q8, q9⟩ := q8
      cases q8
      cases q9
      refine zpE_if rfl (fun q106 => ?_) (fun q106 => ?_)
      · have z106_1 := zF_e1 q106
        exact zpE_end rfl rfl (by rw [← zlp_out z20_0 hk]; exact zOq_f (S' := (W46 S u0 k)) (by unfold X46; rw [if_pos z106_1]))
      · have z106_1 := zF_e0 q106
        refine zpE_run 3 (L' := [some (.ref 6), some (.int (Int32.ofNat k)), o2]) (st' := [.int (Int32.ofInt 0), .ref 9]) rfl ?_
        refine zpE_call rfl rfl (p_27 3 10 9 (fun _ => rfl) (fun _ => rfl) (fun _ _ => rfl) ((HLk : zaL ((W46 S u0 k)).2) 3)) (fun v h1 nc1 ns1 q8 => ?_) (fun E h1 nc1 ns1 q8 => by cases q8)
        cases q8
        refine zpE_run 4 (L' := [some (.ref 6), some (.int (Int32.ofNat k)), o2]) (st' := [.int ((zsF ((W46 S u0 k)) 3 (Int32.ofInt 0)).1 4), .ref 11]) rfl ?_
        refine zpE_call rfl rfl (p_27 4 12 11 (fun _ => rfl) (fun _ => rfl) (fun _ _ => rfl) ((ln_F HLk : zaL (zsF ((W46 S u0 k)) 3 (Int32.ofInt 0)).2) 4)) (fun v h1 nc1 ns1 q8 => ?_) (fun E h1 nc1 ns1 q8 => by cases q8)
        cases q8
        exact zpE_end rfl rfl (by rw [← zlp_out z20_0 hk]; exact zOq_f (S' := zsF (zsF ((W46 S u0 k)) 3 (Int32.ofInt 0)) 4 ((zsF ((W46 S u0 k)) 3 (Int32.ofInt 0)).1 4)) (by unfold X46; rw [if_neg z106_1]))
    · have z20_0 := zF_ge_f q20
      refine zpE_run 4 (L' := [some (.ref 6), some (.int (Int32.ofNat k)), o2]) (st' := [.int (Int32.ofNat k), .ref 23]) rfl ?_
      refine zpE_call rfl rfl (p_25 9 24 23 rfl rfl (HLk : zaL ((W46 S u0 k)).2)) (fun v h1 nc1 ns1 q8 => ?_) (fun E h1 nc1 ns1 q8 => by cases q8)
      cases q8
      refine zpE_run 7 (L' := [some (.ref 6), some (.int (Int32.ofNat k)), some (.int (zgt (((W46 S u0 k)).2 9) (Int32.ofNat k)))]) (st' := [.int (Int32.ofInt 8), .int (zgt (((W46 S u0 k)).2 9) (Int32.ofNat k)), .ref 11, .int (((W46 S u0 k)).1 4)]) rfl ?_
      refine zpE_idiv rfl (fun _ => ?_)
      refine zpE_call rfl rfl (p_25 4 12 11 rfl rfl (HLk : zaL ((W46 S u0 k)).2)) (fun v h1 nc1 ns1 q8 => ?_) (fun E h1 nc1 ns1 q8 => by cases q8)
      cases q8
      refine zpE_run 5 (L' := [some (.ref 6), some (.int (Int32.ofNat k)), some (.int (zgt (((W46 S u0 k)).2 9) (Int32.ofNat k)))]) (st' := [.int (Int32.ofNat k), .ref 27, .int ((((W46 S u0 k)).1 4) - (zgt (((W46 S u0 k)).2 4) (zqtd (zgt (((W46 S u0 k)).2 9) (Int32.ofNat k)) (Int32.ofInt 8))))]) rfl ?_
      refine zpE_call rfl rfl (p_25 11 28 27 rfl rfl (HLk : zaL ((W46 S u0 k)).2)) (fun v h1 nc1 ns1 q8 => ?_) (fun E h1 nc1 ns1 q8 => by cases q8)
      cases q8
      refine zpE_icmp rfl (fun q62 => ?_) (fun q62 => ?_)
      · have z62_1 := zF_lt_t q62
        refine zpE_run 2 (L' := [some (.ref 6), some (.int ((Int32.ofNat k) + Int32.ofInt 1)), some (.int (zgt (((W46 S u0 k)).2 9) (Int32.ofNat k)))]) (st' := []) rfl ?_
        have K := fun o2 nc ns => l_46 (u0 := u0) HL N (k + 1) o2 nc ns (zlp_in z20_0 hk)
        rw [← zof1, show W46 S u0 (k + 1) = (W46 S u0 k) from by
            show D46 S k _ = _
            unfold D46
            rw [if_pos z62_1]] at K
        exact K _ _ _
      · have z62_1 := Int.not_lt.mpr (zF_lt_f q62)
        refine zpE_run 5 (L' := [some (.ref 6), some (.int (Int32.ofNat k)), some (.int (zgt (((W46 S u0 k)).2 9) (Int32.ofNat k)))]) (st' := [.int (zgt (((W46 S u0 k)).2 9) (Int32.ofNat k)), .ref 7, .int (zgt (((W46 S u0 k)).2 9) (Int32.ofNat k)), .ref 6]) rfl ?_
        refine zpE_call rfl rfl (p_25 2 8 7 rfl rfl (HLk : zaL ((W46 S u0 k)).2)) (fun v h1 nc1 ns1 q8 => ?_) (fun E h1 nc1 ns1 q8 => by cases q8)
        cases q8
        refine zpE_run 4 (L' := [some (.ref 6), some (.int (Int32.ofNat k)), some (.int (zgt (((W46 S u0 k)).2 9) (Int32.ofNat k)))]) (st' := [.int (Int32.ofNat k), .ref 25, .int (zgt (((W46 S u0 k)).2 2) (zgt (((W46 S u0 k)).2 9) (Int32.ofNat k))), .int (zgt (((W46 S u0 k)).2 9) (Int32.ofNat k)), .ref 6]) rfl ?_
        refine zpE_call rfl rfl (p_25 10 26 25 rfl rfl (HLk : zaL ((W46 S u0 k)).2)) (fun v h1 nc1 ns1 q8 => ?_) (fun E h1 nc1 ns1 q8 => by cases q8)
        cases q8
        refine zpE_run 3 (L' := [some (.ref 6), some (.int (Int32.ofNat k)), some (.int (zgt (((W46 S u0 k)).2 9) (Int32.ofNat k)))]) (st' := [.int ((zgt (((W46 S u0 k)).2 2) (zgt (((W46 S u0 k)).2 9) (Int32.ofNat k))) &&& ((zgt (((W46 S u0 k)).2 10) (Int32.ofNat k)) ^^^ (Int32.ofInt (-1)))), .int (zgt (((W46 S u0 k)).2 9) (Int32.ofNat k)), .ref 6]) rfl ?_
        refine zpE_call rfl rfl (e_41 (S := (W46 S u0 k)) (x1 := zgt (((W46 S u0 k)).2 9) (Int32.ofNat k)) (x2 := (zgt (((W46 S u0 k)).2 2) (zgt (((W46 S u0 k)).2 9) (Int32.ofNat k))) &&& ((zgt (((W46 S u0 k)).2 10) (Int32.ofNat k)) ^^^ (Int32.ofInt (-1)))) HLk) (fun v h1 nc1 ns1 q8 => ?_) (fun E h1 nc1 ns1 q8 => by cases q8.1)
        obtain ⟨q8, q9⟩ := q8
        cases q8
        cases q9
        obtain ⟨Z1, hZ1⟩ : ∃ Z, Z = F41 (zgt (((W46 S u0 k)).2 9) (Int32.ofNat k)) ((zgt (((W46 S u0 k)).2 2) (zgt (((W46 S u0 k)).2 9) (Int32.ofNat k))) &&& ((zgt (((W46 S u0 k)).2 10) (Int32.ofNat k)) ^^^ (Int32.ofInt (-1)))) ((W46 S u0 k)) := ⟨_, rfl⟩
        rw [← hZ1]
        have LZ1 : zaL Z1.2 := by
          rw [hZ1]
          exact ln_F41 HLk
        refine zpE_run 2 (L' := [some (.ref 6), some (.int ((Int32.ofNat k) + Int32.ofInt 1)), some (.int (zgt (((W46 S u0 k)).2 9) (Int32.ofNat k)))]) (st' := []) rfl ?_
        have K := fun o2 nc ns => l_46 (u0 := u0) HL N (k + 1) o2 nc ns (zlp_in z20_0 hk)
        rw [← zof1, show W46 S u0 (k + 1) = Z1 from by
            show D46 S k _ = _
            unfold D46
            (try rw [← hZ1])
            rw [if_neg z62_1]] at K
        exact K _ _ _
def F46  (S : zSt) : zSt := X46 (zsS S 4 ((S.1 4) + (Int32.ofInt 1))) (W46 (zsS S 4 ((S.1 4) + (Int32.ofInt 1))) (zsS S 4 ((S.1 4) + (Int32.ofInt 1))) ((zsS S 4 ((S.1 4) + (Int32.ofInt 1))).1 10).toInt.toNat)
theorem e_46 (HL : zaL S.2) : zpM xs N 46 [.ref 6] (zx S.1 S.2 T) nc ns (zOq (.inl none) (zx (F46 S).1 (F46 S).2 T)) := by
  intro L0 e
  cases e
  refine zpE_run 8 (h' := zx (zsS S 4 ((S.1 4) + (Int32.ofInt 1))).1 (zsS S 4 ((S.1 4) + (Int32.ofInt 1))).2 T) rfl ?_
  exact l_46 (S := zsS S 4 ((S.1 4) + (Int32.ofInt 1))) (u0 := zsS S 4 ((S.1 4) + (Int32.ofInt 1))) (ln_S HL) N 0 _ _ _ (Nat.zero_le _)
theorem fr_X46 {u : zSt} : zfrm [] [3, 4] (X46 S u) u := by
  unfold X46
  exact (fm_ite fm_rf (fm_c fm_F (fm_c fm_F fm_rf (by decide) (by decide)) (by decide) (by decide)))
theorem fr_F46 : zfrm [4] [2, 3, 4] (F46 S) S := by
  unfold F46
  exact (fm_c fr_X46 (fm_c (fr_W46 _) (fm_c fm_S fm_rf (by decide) (by decide)) (by decide) (by decide)) (by decide) (by decide))
theorem ln_F46 (HL : zaL S.2) : zaL (F46 S).2 := fm_L fr_F46 HL
def D105 (S : zSt) (k : Nat) (u : zSt) : zSt := if (V95 (u.1 17) u) = ((0 : Int32)) then (if (V96 (u.1 17) u) = ((0 : Int32)) then (if (V97 (u.1 17) u) = (Int32.ofInt (-1)) then (zsS (zsR (F103 (u.1 17) (Int32.ofInt 1) u) 17 (u.1 17) (Int32.ofInt 1)) 17 (zrmd ((u.1 17) + (Int32.ofInt 1)) (Int32.ofInt 128))) else (zsS (zsR (F103 (u.1 17) (Int32.ofInt 1) u) 17 (u.1 17) (Int32.ofInt 0)) 17 (zrmd ((u.1 17) + (Int32.ofInt 1)) (Int32.ofInt 128)))) else (zsS u 17 (zrmd ((u.1 17) + (Int32.ofInt 1)) (Int32.ofInt 128)))) else (zsS u 17 (zrmd ((u.1 17) + (Int32.ofInt 1)) (Int32.ofInt 128)))
def W105 (S : zSt) (u0 : zSt) : Nat → zSt
  | 0 => u0
  | k + 1 => D105 S k (W105 S u0 k)
def X105 (S : zSt) (u : zSt) : zSt := u
theorem fr_D105 {k : Nat} {u : zSt} : zfrm [11, 12, 13, 17] [2, 12, 13, 14, 17] (D105 S k u) u := by
  unfold D105
  exact (fm_ite (fm_ite (fm_ite (fm_c fm_S (fm_c fm_R (fm_c fr_F103 fm_rf (by decide) (by decide)) (by decide) (by decide)) (by decide) (by decide)) (fm_c fm_S (fm_c fm_R (fm_c fr_F103 fm_rf (by decide) (by decide)) (by decide) (by decide)) (by decide) (by decide))) (fm_c fm_S fm_rf (by decide) (by decide))) (fm_c fm_S fm_rf (by decide) (by decide)))
theorem fr_W105 {u0 : zSt} : ∀ k, zfrm [11, 12, 13, 17] [2, 12, 13, 14, 17] (W105 S u0 k) u0
  | 0 => fm_rf
  | k + 1 => fm_tr fr_D105 (fr_W105 k)
theorem ln_W105 {u0 : zSt} (HU : zaL u0.2) (k : Nat) : zaL (W105 S u0 k).2 := fm_L (fr_W105 k) HU
theorem kd_105 {k : Nat} {u : zSt} : (D105 S k u).1 14 = u.1 14 := fr_D105.1 14 (by decide)
theorem kw_105 {u0 : zSt} : ∀ k, (W105 S u0 k).1 14 = u0.1 14
  | 0 => rfl
  | k + 1 => kd_105.trans (kw_105 k)
theorem l_105 {u0 : zSt} (HL : zaL u0.2) : ∀ (N k : Nat) (o2 : Option Value) (o3 : Option Value) (nc ns : Nat), k ≤ (u0.1 14).toInt.toNat → zpE xs N 105 2 [some (.ref 0), some (.int (Int32.ofNat k)), o2, o3] [] (zx (W105 S u0 k).1 (W105 S u0 k).2 T) nc ns (zOq (.inl none) (zx (X105 S (W105 S u0 (u0.1 14).toInt.toNat)).1 (X105 S (W105 S u0 (u0.1 14).toInt.toNat)).2 T))
  | 0, _, _, _, _, _, _ => zpE_0
  | N + 1, k, o2, o3, nc, ns, hk => by
    have HLk := ln_W105 (S := S) HL k
    refine zpE_run1 2 (L' := [some (.ref 0), some (.int (Int32.ofNat k)), o2, o3]) (st' := [.int (((W105 S u0 k)).1 14), .int (Int32.ofNat k)]) rfl ?_
    rw [kw_105]
    refine zpE_icmp rfl (fun q7 => ?_) (fun q7 => ?_)
    · have z7_0 := Int.not_lt.mpr (zF_ge_t q7)
      exact zpE_end rfl rfl (by rw [← zlp_out z7_0 hk]; exact zOq_f (S' := (W105 S u0 k)) (by unfold X105; (first | done | rfl)))
    · have z7_0 := zF_ge_f q7
      refine zpE_run 5 (L' := [some (.ref 0), some (.int (Int32.ofNat k)), some (.int (((W105 S u0 k)).1 17)), o3]) (st' := [.int (((W105 S u0 k)).1 17), .ref 0]) rfl ?_
      refine zpE_call rfl rfl (e_95 (S := (W105 S u0 k)) (x1 := ((W105 S u0 k)).1 17) HLk) (fun v h1 nc1 ns1 q8 => ?_) (fun E h1 nc1 ns1 q8 => by cases q8.1)
      obtain ⟨q8, q9⟩ := q8
      cases q8
      cases q9
      refine zpE_if rfl (fun q20 => ?_) (fun q20 => ?_)
      · have z20_1 := zF_n1 q20
        refine zpE_run 5 (L' := [some (.ref 0), some (.int (Int32.ofNat k)), some (.int (((W105 S u0 k)).1 17)), o3]) (st' := [.int (Int32.ofInt 128), .int ((((W105 S u0 k)).1 17) + (Int32.ofInt 1)), .ref 0]) rfl ?_
        refine zpE_irem rfl (fun _ => ?_)
        refine zpE_run 3 (L' := [some (.ref 0), some (.int ((Int32.ofNat k) + Int32.ofInt 1)), some (.int (((W105 S u0 k)).1 17)), o3]) (st' := []) (h' := zx (zsS ((W105 S u0 k)) 17 (zrmd ((((W105 S u0 k)).1 17) + (Int32.ofInt 1)) (Int32.ofInt 128))).1 (zsS ((W105 S u0 k)) 17 (zrmd ((((W105 S u0 k)).1 17) + (Int32.ofInt 1)) (Int32.ofInt 128))).2 T) rfl ?_
        have K := fun o2 o3 nc ns => l_105 (u0 := u0) HL N (k + 1) o2 o3 nc ns (zlp_in z7_0 hk)
        rw [← zof1, show W105 S u0 (k + 1) = zsS ((W105 S u0 k)) 17 (zrmd ((((W105 S u0 k)).1 17) + (Int32.ofInt 1)) (Int32.ofInt 128)) from by
            show D105 S k _ = _
            unfold D105
            rw [if_neg z20_1]] at K
        exact K _ _ _ _
      · have z20_1 := zF_n0 q20
        refine zpE_run 2 (L' := [some (.ref 0), some (.int (Int32.ofNat k)), some (.int (((W105 S u0 k)).1 17)), o3]) (st' := [.int (((W105 S u0 k)).1 17), .ref 0]) rfl ?_
        refine zpE_call rfl rfl (e_96 (S := (W105 S u0 k)) (x1 := ((W105 S u0 k)).1 17) HLk) (fun v h1 nc1 ns1 q8 => ?_) (fun E h1 nc1 ns1 q8 => by cases q8.1)
        obtain ⟨q8, q9⟩ := q8
        cases q8
        cases q9
        refine zpE_if rfl (fun q28 => ?_) (fun q28 => ?_)
        · have z28_2 := zF_n1 q28
          refine zpE_run 5 (L' := [some (.ref 0), some (.int (Int32.ofNat k)), some (.int (((W105 S u0 k)).1 17)), o3]) (st' := [.int (Int32.ofInt 128), .int ((((W105 S u0 k)).1 17) + (Int32.ofInt 1)), .ref 0]) rfl ?_
          refine zpE_irem rfl (fun _ => ?_)
          refine zpE_run 3 (L' := [some (.ref 0), some (.int ((Int32.ofNat k) + Int32.ofInt 1)), some (.int (((W105 S u0 k)).1 17)), o3]) (st' := []) (h' := zx (zsS ((W105 S u0 k)) 17 (zrmd ((((W105 S u0 k)).1 17) + (Int32.ofInt 1)) (Int32.ofInt 128))).1 (zsS ((W105 S u0 k)) 17 (zrmd ((((W105 S u0 k)).1 17) + (Int32.ofInt 1)) (Int32.ofInt 128))).2 T) rfl ?_
          have K := fun o2 o3 nc ns => l_105 (u0 := u0) HL N (k + 1) o2 o3 nc ns (zlp_in z7_0 hk)
          rw [← zof1, show W105 S u0 (k + 1) = zsS ((W105 S u0 k)) 17 (zrmd ((((W105 S u0 k)).1 17) + (Int32.ofInt 1)) (Int32.ofInt 128)) from by
              show D105 S k _ = _
              unfold D105
              rw [if_pos z20_1, if_neg z28_2]] at K
          exact K _ _ _ _
        · have z28_2 := zF_n0 q28
          refine zpE_run 2 (L' := [some (.ref 0), some (.int (Int32.ofNat k)), some (.int (((W105 S u0 k)).1 17)), o3]) (st' := [.int (((W105 S u0 k)).1 17), .ref 0]) rfl ?_
          refine zpE_call rfl rfl (e_97 (S := (W105 S u0 k)) (x1 := ((W105 S u0 k)).1 17) HLk) (fun v h1 nc1 ns1 q8 => ?_) (fun E h1 nc1 ns1 q8 => by cases q8.1)
          obtain ⟨q8, q9⟩ := q8
          cases q8
          cases q9
          refine zpE_run 1 (L' := [some (.ref 0), some (.int (Int32.ofNat k)), some (.int (((W105 S u0 k)).1 17)), o3]) (st' := [.int (Int32.ofInt (-1)), .int (V97 (((W105 S u0 k)).1 17) ((W105 S u0 k)))]) rfl ?_
          refine zpE_icmp rfl (fun q37 => ?_) (fun q37 => ?_)
          · have z37_3 := zF_n1 q37
            refine zpE_run 5 (L' := [some (.ref 0), some (.int (Int32.ofNat k)), some (.int (((W105 S u0 k)).1 17)), some (.int (Int32.ofInt 0))]) (st' := [.int (Int32.ofInt 1), .int (((W105 S u0 k)).1 17), .ref 0]) rfl ?_
            refine zpE_call rfl rfl (e_103 (S := (W105 S u0 k)) (x1 := ((W105 S u0 k)).1 17) (x2 := Int32.ofInt 1) HLk) (fun v h1 nc1 ns1 q8 => ?_) (fun E h1 nc1 ns1 q8 => by cases q8.1)
            obtain ⟨q8, q9⟩ := q8
            cases q8
            cases q9
            obtain ⟨Z1, hZ1⟩ : ∃ Z, Z = F103 (((W105 S u0 k)).1 17) (Int32.ofInt 1) ((W105 S u0 k)) := ⟨_, rfl⟩
            rw [← hZ1]
            have LZ1 : zaL Z1.2 := by
              rw [hZ1]
              exact ln_F103 HLk
            refine zpE_run 4 (L' := [some (.ref 0), some (.int (Int32.ofNat k)), some (.int (((W105 S u0 k)).1 17)), some (.int (Int32.ofInt 0))]) (st' := [.int (Int32.ofInt 0), .int (((W105 S u0 k)).1 17), .ref 40]) rfl ?_
            refine zpE_if rfl (fun q58 => ?_) (fun q58 => ?_)
            · clear q58
              refine zpE_run 1 (L' := [some (.ref 0), some (.int (Int32.ofNat k)), some (.int (((W105 S u0 k)).1 17)), some (.int (Int32.ofInt 0))]) (st' := [.int (Int32.ofInt 0), .int (((W105 S u0 k)).1 17), .ref 40]) rfl ?_
              refine zpE_call rfl rfl (p_26 17 41 40 rfl rfl (fun _ => rfl) ((LZ1 : zaL Z1.2) 17)) (fun v h1 nc1 ns1 q8 => ?_) (fun E h1 nc1 ns1 q8 => by cases q8)
              cases q8
              refine zpE_run 5 (L' := [some (.ref 0), some (.int (Int32.ofNat k)), some (.int (((W105 S u0 k)).1 17)), some (.int (Int32.ofInt 0))]) (st' := [.int (Int32.ofInt 128), .int ((((W105 S u0 k)).1 17) + (Int32.ofInt 1)), .ref 0]) rfl ?_
              refine zpE_irem rfl (fun _ => ?_)
              refine zpE_run 3 (L' := [some (.ref 0), some (.int ((Int32.ofNat k) + Int32.ofInt 1)), some (.int (((W105 S u0 k)).1 17)), some (.int (Int32.ofInt 0))]) (st' := []) (h' := zx (zsS (zsR Z1 17 (((W105 S u0 k)).1 17) (Int32.ofInt 0)) 17 (zrmd ((((W105 S u0 k)).1 17) + (Int32.ofInt 1)) (Int32.ofInt 128))).1 (zsS (zsR Z1 17 (((W105 S u0 k)).1 17) (Int32.ofInt 0)) 17 (zrmd ((((W105 S u0 k)).1 17) + (Int32.ofInt 1)) (Int32.ofInt 128))).2 T) rfl ?_
              have K := fun o2 o3 nc ns => l_105 (u0 := u0) HL N (k + 1) o2 o3 nc ns (zlp_in z7_0 hk)
              rw [← zof1, show W105 S u0 (k + 1) = zsS (zsR Z1 17 (((W105 S u0 k)).1 17) (Int32.ofInt 0)) 17 (zrmd ((((W105 S u0 k)).1 17) + (Int32.ofInt 1)) (Int32.ofInt 128)) from by
                  show D105 S k _ = _
                  unfold D105
                  (try rw [← hZ1])
                  rw [if_pos z20_1, if_pos z28_2, if_neg z37_3]] at K
              exact K _ _ _ _
            · exact absurd (zF_e0 q58) (by decide)
          · have z37_3 := zF_n0 q37
            refine zpE_run 6 (L' := [some (.ref 0), some (.int (Int32.ofNat k)), some (.int (((W105 S u0 k)).1 17)), some (.int (Int32.ofInt 1))]) (st' := [.int (Int32.ofInt 1), .int (((W105 S u0 k)).1 17), .ref 0]) rfl ?_
            refine zpE_call rfl rfl (e_103 (S := (W105 S u0 k)) (x1 := ((W105 S u0 k)).1 17) (x2 := Int32.ofInt 1) HLk) (fun v h1 nc1 ns1 q8 => ?_) (fun E h1 nc1 ns1 q8 => by cases q8.1)
            obtain ⟨q8, q9⟩ := q8
            cases q8
            cases q9
            obtain ⟨Z2, hZ2⟩ : ∃ Z, Z = F103 (((W105 S u0 k)).1 17) (Int32.ofInt 1) ((W105 S u0 k)) := ⟨_, rfl⟩
            rw [← hZ2]
            have LZ2 : zaL Z2.2 := by
              rw [hZ2]
              exact ln_F103 HLk
            refine zpE_run 4 (L' := [some (.ref 0), some (.int (Int32.ofNat k)), some (.int (((W105 S u0 k)).1 17)), some (.int (Int32.ofInt 1))]) (st' := [.int (Int32.ofInt 1), .int (((W105 S u0 k)).1 17), .ref 40]) rfl ?_
            refine zpE_if rfl (fun q58 => ?_) (fun q58 => ?_)
            · exact absurd (zF_e1 q58) (by decide)
            · clear q58
              refine zpE_run 2 (L' := [some (.ref 0), some (.int (Int32.ofNat k)), some (.int (((W105 S u0 k)).1 17)), some (.int (Int32.ofInt 1))]) (st' := [.int (Int32.ofInt 1), .int (((W105 S u0 k)).1 17), .ref 40]) rfl ?_
              refine zpE_call rfl rfl (p_26 17 41 40 rfl rfl (fun _ => rfl) ((LZ2 : zaL Z2.2) 17)) (fun v h1 nc1 ns1 q8 => ?_) (fun E h1 nc1 ns1 q8 => by cases q8)
              cases q8
              refine zpE_run 5 (L' := [some (.ref 0), some (.int (Int32.ofNat k)), some (.int (((W105 S u0 k)).1 17)), some (.int (Int32.ofInt 1))]) (st' := [.int (Int32.ofInt 128), .int ((((W105 S u0 k)).1 17) + (Int32.ofInt 1)), .ref 0]) rfl ?_
              refine zpE_irem rfl (fun _ => ?_)
              refine zpE_run 3 (L' := [some (.ref 0), some (.int ((Int32.ofNat k) + Int32.ofInt 1)), some (.int (((W105 S u0 k)).1 17)), some (.int (Int32.ofInt 1))]) (st' := []) (h' := zx (zsS (zsR Z2 17 (((W105 S u0 k)).1 17) (Int32.ofInt 1)) 17 (zrmd ((((W105 S u0 k)).1 17) + (Int32.ofInt 1)) (Int32.ofInt 128))).1 (zsS (zsR Z2 17 (((W105 S u0 k)).1 17) (Int32.ofInt 1)) 17 (zrmd ((((W105 S u0 k)).1 17) + (Int32.ofInt 1)) (Int32.ofInt 128))).2 T) rfl ?_
              have K := fun o2 o3 nc ns => l_105 (u0 := u0) HL N (k + 1) o2 o3 nc ns (zlp_in z7_0 hk)
              rw [← zof1, show W105 S u0 (k + 1) = zsS (zsR Z2 17 (((W105 S u0 k)).1 17) (Int32.ofInt 1)) 17 (zrmd ((((W105 S u0 k)).1 17) + (Int32.ofInt 1)) (Int32.ofInt 128)) from by
                  show D105 S k _ = _
                  unfold D105
                  (try rw [← hZ2])
                  rw [if_pos z20_1, if_pos z28_2, if_pos z37_3]] at K
              exact K _ _ _ _
def F105  (S : zSt) : zSt := X105 S (W105 S S (S.1 14).toInt.toNat)
theorem e_105 (HL : zaL S.2) : zpM xs N 105 [.ref 0] (zx S.1 S.2 T) nc ns (zOq (.inl none) (zx (F105 S).1 (F105 S).2 T)) := by
  intro L0 e
  cases e
  refine zpE_run 2 rfl ?_
  exact l_105 (S := S) (u0 := S) HL N 0 _ _ _ _ (Nat.zero_le _)
theorem fr_X105 {u : zSt} : zfrm [] [] (X105 S u) u := by
  unfold X105
  exact fm_rf
theorem fr_F105 : zfrm [11, 12, 13, 17] [2, 12, 13, 14, 17] (F105 S) S := by
  unfold F105
  exact (fm_c fr_X105 (fm_c (fr_W105 _) fm_rf (by decide) (by decide)) (by decide) (by decide))
theorem ln_F105 (HL : zaL S.2) : zaL (F105 S).2 := fm_L fr_F105 HL
def D106 (x1 : Int32) (x2 : Int32) (x3 : Int32) (l4 : Int32) (l5 : Int32) (S : zSt) (k : Nat) (u : zSt) : zSt := if (ztu u.1 u.2 (V92 (l4 + ((Int32.ofNat k))) u)) = (Int32.ofInt (-1)) then ((F41 (l5 + ((Int32.ofNat k))) ((V92 (l4 + ((Int32.ofNat k))) u) ^^^ (Int32.ofInt 0)) (zsR u 17 (l4 + ((Int32.ofNat k))) (Int32.ofInt 1)))) else ((F41 (l5 + ((Int32.ofNat k))) ((V92 (l4 + ((Int32.ofNat k))) u) ^^^ (ztu u.1 u.2 (V92 (l4 + ((Int32.ofNat k))) u))) u))
def W106 (x1 : Int32) (x2 : Int32) (x3 : Int32) (l4 : Int32) (l5 : Int32) (S : zSt) (u0 : zSt) : Nat → zSt
  | 0 => u0
  | k + 1 => D106 x1 x2 x3 l4 l5 S k (W106 x1 x2 x3 l4 l5 S u0 k)
def X106 (x1 : Int32) (x2 : Int32) (x3 : Int32) (l4 : Int32) (l5 : Int32) (S : zSt) (u : zSt) : zSt := zsR u 15 ((x1 * (Int32.ofInt 8)) + x2) x3
theorem fr_D106 {x1 x2 x3 l4 l5 : Int32} {k : Nat} {u : zSt} : zfrm [] [2, 17] (D106 x1 x2 x3 l4 l5 S k u) u := by
  unfold D106
  exact (fm_ite (fm_c fr_F41 (fm_c fm_R fm_rf (by decide) (by decide)) (by decide) (by decide)) (fm_c fr_F41 fm_rf (by decide) (by decide)))
theorem fr_W106 {x1 x2 x3 l4 l5 : Int32} {u0 : zSt} : ∀ k, zfrm [] [2, 17] (W106 x1 x2 x3 l4 l5 S u0 k) u0
  | 0 => fm_rf
  | k + 1 => fm_tr fr_D106 (fr_W106 k)
theorem ln_W106 {x1 x2 x3 l4 l5 : Int32} {u0 : zSt} (HU : zaL u0.2) (k : Nat) : zaL (W106 x1 x2 x3 l4 l5 S u0 k).2 := fm_L (fr_W106 k) HU
theorem l_106 {x1 x2 x3 l4 l5 : Int32} {u0 : zSt} (HL : zaL u0.2) : ∀ (N k : Nat) (o7 : Option Value) (o8 : Option Value) (nc ns : Nat), k ≤ (Int32.ofInt 8).toInt.toNat → zpE xs N 106 21 [some (.ref 0), some (.int x1), some (.int x2), some (.int x3), some (.int l4), some (.int l5), some (.int (Int32.ofNat k)), o7, o8] [] (zx (W106 x1 x2 x3 l4 l5 S u0 k).1 (W106 x1 x2 x3 l4 l5 S u0 k).2 T) nc ns (zOq (.inl none) (zx (X106 x1 x2 x3 l4 l5 S (W106 x1 x2 x3 l4 l5 S u0 (Int32.ofInt 8).toInt.toNat)).1 (X106 x1 x2 x3 l4 l5 S (W106 x1 x2 x3 l4 l5 S u0 (Int32.ofInt 8).toInt.toNat)).2 T))
  | 0, _, _, _, _, _, _ => zpE_0
  | N + 1, k, o7, o8, nc, ns, hk => by
    have HLk := ln_W106 (x1 := x1) (x2 := x2) (x3 := x3) (l4 := l4) (l5 := l5) (S := S) HL k
    refine zpE_run1 1 (L' := [some (.ref 0), some (.int x1), some (.int x2), some (.int x3), some (.int l4), some (.int l5), some (.int (Int32.ofNat k)), o7, o8]) (st' := [.int (Int32.ofInt 8), .int (Int32.ofNat k)]) rfl ?_
    refine zpE_icmp rfl (fun q25 => ?_) (fun q25 => ?_)
    · have z25_0 := Int.not_lt.mpr (zF_ge_t q25)
      refine zpE_run 8 (L' := [some (.ref 0), some (.int x1), some (.int x2), some (.int x3), some (.int l4), some (.int l5), some (.int (Int32.ofNat k)), o7, o8]) (st' := [.int x3, .int ((x1 * (Int32.ofInt 8)) + x2), .ref 36]) rfl ?_
      refine zpE_call rfl rfl (p_26 15 37 36 rfl rfl (fun _ => rfl) ((HLk : zaL ((W106 x1 x2 x3 l4 l5 S u0 k)).2) 15)) (fun v h1 nc1 ns1 q8 => ?_) (fun E h1 nc1 ns1 q8 => by cases q8)
      cases q8
      exact zpE_end rfl rfl (by rw [← zlp_out z25_0 hk]; exact zOq_f (S' := zsR ((W106 x1 x2 x3 l4 l5 S u0 k)) 15 ((x1 * (Int32.ofInt 8)) + x2) x3) (by unfold X106; (first | done | rfl)))
    · have z25_0 := zF_ge_f q25
      refine zpE_run 4 (L' := [some (.ref 0), some (.int x1), some (.int x2), some (.int x3), some (.int l4), some (.int l5), some (.int (Int32.ofNat k)), o7, o8]) (st' := [.int (l4 + (Int32.ofNat k)), .ref 0]) rfl ?_
      refine zpE_call rfl rfl (e_92 (S := (W106 x1 x2 x3 l4 l5 S u0 k)) (x1 := l4 + (Int32.ofNat k)) HLk) (fun v h1 nc1 ns1 q8 => ?_) (fun E h1 nc1 ns1 q8 => by cases q8.1)
      obtain ⟨q8, q9⟩ := q8
      cases q8
      cases q9
      refine zpE_run 4 (L' := [some (.ref 0), some (.int x1), some (.int x2), some (.int x3), some (.int l4), some (.int l5), some (.int (Int32.ofNat k)), some (.int (V92 (l4 + (Int32.ofNat k)) ((W106 x1 x2 x3 l4 l5 S u0 k)))), o8]) (st' := [.int (V92 (l4 + (Int32.ofNat k)) ((W106 x1 x2 x3 l4 l5 S u0 k))), .ref 1]) rfl ?_
      refine zpE_call rfl rfl (p_9 HLk) (fun v h1 nc1 ns1 q8 => ?_) (fun E h1 nc1 ns1 q8 => by cases q8)
      cases q8
      refine zpE_run 3 (L' := [some (.ref 0), some (.int x1), some (.int x2), some (.int x3), some (.int l4), some (.int l5), some (.int (Int32.ofNat k)), some (.int (V92 (l4 + (Int32.ofNat k)) ((W106 x1 x2 x3 l4 l5 S u0 k)))), some (.int (ztu ((W106 x1 x2 x3 l4 l5 S u0 k)).1 ((W106 x1 x2 x3 l4 l5 S u0 k)).2 (V92 (l4 + (Int32.ofNat k)) ((W106 x1 x2 x3 l4 l5 S u0 k)))))]) (st' := [.int (Int32.ofInt (-1)), .int (ztu ((W106 x1 x2 x3 l4 l5 S u0 k)).1 ((W106 x1 x2 x3 l4 l5 S u0 k)).2 (V92 (l4 + (Int32.ofNat k)) ((W106 x1 x2 x3 l4 l5 S u0 k))))]) rfl ?_
      refine zpE_icmp rfl (fun q53 => ?_) (fun q53 => ?_)
      · have z53_1 := zF_n1 q53
        refine zpE_run 8 (L' := [some (.ref 0), some (.int x1), some (.int x2), some (.int x3), some (.int l4), some (.int l5), some (.int (Int32.ofNat k)), some (.int (V92 (l4 + (Int32.ofNat k)) ((W106 x1 x2 x3 l4 l5 S u0 k)))), some (.int (ztu ((W106 x1 x2 x3 l4 l5 S u0 k)).1 ((W106 x1 x2 x3 l4 l5 S u0 k)).2 (V92 (l4 + (Int32.ofNat k)) ((W106 x1 x2 x3 l4 l5 S u0 k)))))]) (st' := [.int ((V92 (l4 + (Int32.ofNat k)) ((W106 x1 x2 x3 l4 l5 S u0 k))) ^^^ (ztu ((W106 x1 x2 x3 l4 l5 S u0 k)).1 ((W106 x1 x2 x3 l4 l5 S u0 k)).2 (V92 (l4 + (Int32.ofNat k)) ((W106 x1 x2 x3 l4 l5 S u0 k))))), .int (l5 + (Int32.ofNat k)), .ref 6]) rfl ?_
        refine zpE_call rfl rfl (e_41 (S := (W106 x1 x2 x3 l4 l5 S u0 k)) (x1 := l5 + (Int32.ofNat k)) (x2 := (V92 (l4 + (Int32.ofNat k)) ((W106 x1 x2 x3 l4 l5 S u0 k))) ^^^ (ztu ((W106 x1 x2 x3 l4 l5 S u0 k)).1 ((W106 x1 x2 x3 l4 l5 S u0 k)).2 (V92 (l4 + (Int32.ofNat k)) ((W106 x1 x2 x3 l4 l5 S u0 k))))) HLk) (fun v h1 nc1 ns1 q8 => ?_) (fun E h1 nc1 ns1 q8 => by cases q8.1)
        obtain ⟨q8, q9⟩ := q8
        cases q8
        cases q9
        obtain ⟨Z1, hZ1⟩ : ∃ Z, Z = F41 (l5 + (Int32.ofNat k)) ((V92 (l4 + (Int32.ofNat k)) ((W106 x1 x2 x3 l4 l5 S u0 k))) ^^^ (ztu ((W106 x1 x2 x3 l4 l5 S u0 k)).1 ((W106 x1 x2 x3 l4 l5 S u0 k)).2 (V92 (l4 + (Int32.ofNat k)) ((W106 x1 x2 x3 l4 l5 S u0 k))))) ((W106 x1 x2 x3 l4 l5 S u0 k)) := ⟨_, rfl⟩
        rw [← hZ1]
        have LZ1 : zaL Z1.2 := by
          rw [hZ1]
          exact ln_F41 HLk
        refine zpE_run 2 (L' := [some (.ref 0), some (.int x1), some (.int x2), some (.int x3), some (.int l4), some (.int l5), some (.int ((Int32.ofNat k) + Int32.ofInt 1)), some (.int (V92 (l4 + (Int32.ofNat k)) ((W106 x1 x2 x3 l4 l5 S u0 k)))), some (.int (ztu ((W106 x1 x2 x3 l4 l5 S u0 k)).1 ((W106 x1 x2 x3 l4 l5 S u0 k)).2 (V92 (l4 + (Int32.ofNat k)) ((W106 x1 x2 x3 l4 l5 S u0 k)))))]) (st' := []) rfl ?_
        have K := fun o7 o8 nc ns => l_106 (x1 := x1) (x2 := x2) (x3 := x3) (l4 := l4) (l5 := l5) (u0 := u0) HL N (k + 1) o7 o8 nc ns (zlp_in z25_0 hk)
        rw [← zof1, show W106 x1 x2 x3 l4 l5 S u0 (k + 1) = Z1 from by
            show D106 x1 x2 x3 l4 l5 S k _ = _
            unfold D106
            (try rw [← hZ1])
            rw [if_neg z53_1]] at K
        exact K _ _ _ _
      · have z53_1 := zF_n0 q53
        refine zpE_run 6 (L' := [some (.ref 0), some (.int x1), some (.int x2), some (.int x3), some (.int l4), some (.int l5), some (.int (Int32.ofNat k)), some (.int (V92 (l4 + (Int32.ofNat k)) ((W106 x1 x2 x3 l4 l5 S u0 k)))), some (.int (ztu ((W106 x1 x2 x3 l4 l5 S u0 k)).1 ((W106 x1 x2 x3 l4 l5 S u0 k)).2 (V92 (l4 + (Int32.ofNat k)) ((W106 x1 x2 x3 l4 l5 S u0 k)))))]) (st' := [.int (Int32.ofInt 1), .int (l4 + (Int32.ofNat k)), .ref 40]) rfl ?_
        refine zpE_call rfl rfl (p_26 17 41 40 rfl rfl (fun _ => rfl) ((HLk : zaL ((W106 x1 x2 x3 l4 l5 S u0 k)).2) 17)) (fun v h1 nc1 ns1 q8 => ?_) (fun E h1 nc1 ns1 q8 => by cases q8)
        cases q8
        refine zpE_run 10 (L' := [some (.ref 0), some (.int x1), some (.int x2), some (.int x3), some (.int l4), some (.int l5), some (.int (Int32.ofNat k)), some (.int (V92 (l4 + (Int32.ofNat k)) ((W106 x1 x2 x3 l4 l5 S u0 k)))), some (.int (Int32.ofInt 0))]) (st' := [.int ((V92 (l4 + (Int32.ofNat k)) ((W106 x1 x2 x3 l4 l5 S u0 k))) ^^^ (Int32.ofInt 0)), .int (l5 + (Int32.ofNat k)), .ref 6]) rfl ?_
        refine zpE_call rfl rfl (e_41 (S := zsR ((W106 x1 x2 x3 l4 l5 S u0 k)) 17 (l4 + (Int32.ofNat k)) (Int32.ofInt 1)) (x1 := l5 + (Int32.ofNat k)) (x2 := (V92 (l4 + (Int32.ofNat k)) ((W106 x1 x2 x3 l4 l5 S u0 k))) ^^^ (Int32.ofInt 0)) (ln_R HLk)) (fun v h1 nc1 ns1 q8 => ?_) (fun E h1 nc1 ns1 q8 => by cases q8.1)
        obtain ⟨q8, q9⟩ := q8
        cases q8
        cases q9
        obtain ⟨Z2, hZ2⟩ : ∃ Z, Z = F41 (l5 + (Int32.ofNat k)) ((V92 (l4 + (Int32.ofNat k)) ((W106 x1 x2 x3 l4 l5 S u0 k))) ^^^ (Int32.ofInt 0)) (zsR ((W106 x1 x2 x3 l4 l5 S u0 k)) 17 (l4 + (Int32.ofNat k)) (Int32.ofInt 1)) := ⟨_, rfl⟩
        rw [← hZ2]
        have LZ2 : zaL Z2.2 := by
          rw [hZ2]
          exact ln_F41 (ln_R HLk)
        refine zpE_run 2 (L' := [some (.ref 0), some (.int x1), some (.int x2), some (.int x3), some (.int l4), some (.int l5), some (.int ((Int32.ofNat k) + Int32.ofInt 1)), some (.int (V92 (l4 + (Int32.ofNat k)) ((W106 x1 x2 x3 l4 l5 S u0 k)))), some (.int (Int32.ofInt 0))]) (st' := []) rfl ?_
        have K := fun o7 o8 nc ns => l_106 (x1 := x1) (x2 := x2) (x3 := x3) (l4 := l4) (l5 := l5) (u0 := u0) HL N (k + 1) o7 o8 nc ns (zlp_in z25_0 hk)
        rw [← zof1, show W106 x1 x2 x3 l4 l5 S u0 (k + 1) = Z2 from by
            show D106 x1 x2 x3 l4 l5 S k _ = _
            unfold D106
            (try rw [← hZ2])
            rw [if_pos z53_1]] at K
        exact K _ _ _ _
def F106 (x1 : Int32) (x2 : Int32) (x3 : Int32) (S : zSt) : zSt := X106 x1 x2 x3 (V88 x1 x2 S) (((x1 * (Int32.ofInt 10)) + x3) * (Int32.ofInt 8)) S (W106 x1 x2 x3 (V88 x1 x2 S) (((x1 * (Int32.ofInt 10)) + x3) * (Int32.ofInt 8)) S S (Int32.ofInt 8).toInt.toNat)
theorem e_106 {x1 x2 x3 : Int32} (HL : zaL S.2) : zpM xs N 106 [.ref 0, .int x1, .int x2, .int x3] (zx S.1 S.2 T) nc ns (zOq (.inl none) (zx (F106 x1 x2 x3 S).1 (F106 x1 x2 x3 S).2 T)) := by
  intro L0 e
  cases e
  refine zpE_run 2 (L' := [some (.ref 0), some (.int x1), some (.int x2), some (.int x3), none, none, none, none, none]) (st' := [.int x2, .int x1]) rfl ?_
  refine zpE_call rfl rfl (e_88 (S := S) (x1 := x1) (x2 := x2) HL) (fun v h1 nc1 ns1 q8 => ?_) (fun E h1 nc1 ns1 q8 => by cases q8.1)
  obtain ⟨q8, q9⟩ := q8
  cases q8
  cases q9
  refine zpE_run 11 rfl ?_
  exact l_106 (x1 := x1) (x2 := x2) (x3 := x3) (l4 := V88 x1 x2 S) (l5 := ((x1 * (Int32.ofInt 10)) + x3) * (Int32.ofInt 8)) (S := S) (u0 := S) HL N 0 _ _ _ _ (Nat.zero_le _)
theorem fr_X106 {x1 x2 x3 l4 l5 : Int32} {u : zSt} : zfrm [] [15] (X106 x1 x2 x3 l4 l5 S u) u := by
  unfold X106
  exact (fm_c fm_R fm_rf (by decide) (by decide))
theorem fr_F106 {x1 x2 x3 : Int32} : zfrm [] [2, 15, 17] (F106 x1 x2 x3 S) S := by
  unfold F106
  exact (fm_c fr_X106 (fm_c (fr_W106 _) fm_rf (by decide) (by decide)) (by decide) (by decide))
theorem ln_F106 {x1 x2 x3 : Int32} (HL : zaL S.2) : zaL (F106 x1 x2 x3 S).2 := fm_L fr_F106 HL
def D59 (x1 : Int32) (x2 : Int32) (x3 : Int32) (l4 : Int32) (S : zSt) (k : Nat) (u : zSt) : zSt := (F43 l4 u)
def W59 (x1 : Int32) (x2 : Int32) (x3 : Int32) (l4 : Int32) (S : zSt) (u0 : zSt) : Nat → zSt
  | 0 => u0
  | k + 1 => D59 x1 x2 x3 l4 S k (W59 x1 x2 x3 l4 S u0 k)
def Y59 (x1 : Int32) (x2 : Int32) (x3 : Int32) (l4 : Int32) (S : zSt) (u : zSt) : Int32 := (zgt (u.2 3) l4)
def X59 (x1 : Int32) (x2 : Int32) (x3 : Int32) (l4 : Int32) (S : zSt) (u : zSt) : zSt := u
theorem fr_D59 {x1 x2 x3 l4 : Int32} {k : Nat} {u : zSt} : zfrm [7, 8] [2, 3, 4] (D59 x1 x2 x3 l4 S k u) u := by
  unfold D59
  exact (fm_c fr_F43 fm_rf (by decide) (by decide))
theorem fr_W59 {x1 x2 x3 l4 : Int32} {u0 : zSt} : ∀ k, zfrm [7, 8] [2, 3, 4] (W59 x1 x2 x3 l4 S u0 k) u0
  | 0 => fm_rf
  | k + 1 => fm_tr fr_D59 (fr_W59 k)
theorem ln_W59 {x1 x2 x3 l4 : Int32} {u0 : zSt} (HU : zaL u0.2) (k : Nat) : zaL (W59 x1 x2 x3 l4 S u0 k).2 := fm_L (fr_W59 k) HU
theorem l_59 {x1 x2 x3 l4 : Int32} {u0 : zSt} (HL : zaL u0.2) : ∀ (N k : Nat) (nc ns : Nat), k ≤ (x3).toInt.toNat → zpE xs N 59 40 [some (.ref 0), some (.int x1), some (.int x2), some (.int x3), some (.int l4), some (.int (Int32.ofNat k))] [] (zx (W59 x1 x2 x3 l4 S u0 k).1 (W59 x1 x2 x3 l4 S u0 k).2 T) nc ns (zOq (.inl (some (.int (Y59 x1 x2 x3 l4 S (W59 x1 x2 x3 l4 S u0 (x3).toInt.toNat))))) (zx (X59 x1 x2 x3 l4 S (W59 x1 x2 x3 l4 S u0 (x3).toInt.toNat)).1 (X59 x1 x2 x3 l4 S (W59 x1 x2 x3 l4 S u0 (x3).toInt.toNat)).2 T))
  | 0, _, _, _, _ => zpE_0
  | N + 1, k, nc, ns, hk => by
    have HLk := ln_W59 (x1 := x1) (x2 := x2) (x3 := x3) (l4 := l4) (S := S) HL k
    refine zpE_run1 1 (L' := [some (.ref 0), some (.int x1), some (.int x2), some (.int x3), some (.int l4), some (.int (Int32.ofNat k))]) (st' := [.int x3, .int (Int32.ofNat k)]) rfl ?_
    refine zpE_icmp rfl (fun q43 => ?_) (fun q43 => ?_)
    · have z43_0 := Int.not_lt.mpr (zF_ge_t q43)
      refine zpE_run 4 (L' := [some (.ref 0), some (.int x1), some (.int x2), some (.int x3), some (.int l4), some (.int (Int32.ofNat k))]) (st' := [.int l4, .ref 9]) rfl ?_
      refine zpE_call rfl rfl (p_25 3 10 9 rfl rfl (HLk : zaL ((W59 x1 x2 x3 l4 S u0 k)).2)) (fun v h1 nc1 ns1 q8 => ?_) (fun E h1 nc1 ns1 q8 => by cases q8)
      cases q8
      exact zpE_end rfl rfl (by rw [← zlp_out z43_0 hk]; exact zOq_w (S' := (W59 x1 x2 x3 l4 S u0 k)) (by unfold Y59; (first | done | rfl)) (by unfold X59; (first | done | rfl)))
    · have z43_0 := zF_ge_f q43
      refine zpE_run 3 (L' := [some (.ref 0), some (.int x1), some (.int x2), some (.int x3), some (.int l4), some (.int (Int32.ofNat k))]) (st' := [.int l4, .ref 6]) rfl ?_
      refine zpE_call rfl rfl (e_43 (S := (W59 x1 x2 x3 l4 S u0 k)) (x1 := l4) HLk) (fun v h1 nc1 ns1 q8 => ?_) (fun E h1 nc1 ns1 q8 => by cases q8.1)
      obtain ⟨q8, q9⟩ := q8
      cases q8
      cases q9
      obtain ⟨Z1, hZ1⟩ : ∃ Z, Z = F43 l4 ((W59 x1 x2 x3 l4 S u0 k)) := ⟨_, rfl⟩
      rw [← hZ1]
      have LZ1 : zaL Z1.2 := by
        rw [hZ1]
        exact ln_F43 HLk
      refine zpE_run 2 (L' := [some (.ref 0), some (.int x1), some (.int x2), some (.int x3), some (.int l4), some (.int ((Int32.ofNat k) + Int32.ofInt 1))]) (st' := []) rfl ?_
      have K := fun nc ns => l_59 (x1 := x1) (x2 := x2) (x3 := x3) (l4 := l4) (u0 := u0) HL N (k + 1) nc ns (zlp_in z43_0 hk)
      rw [← zof1, show W59 x1 x2 x3 l4 S u0 (k + 1) = Z1 from by
          show D59 x1 x2 x3 l4 S k _ = _
          unfold D59
          (try rw [← hZ1])
          (first | done | rfl)] at K
      exact K _ _
def R59 (x1 : Int32) (x2 : Int32) (x3 : Int32) (S : zSt) : Option Value ⊕ Nat := if C84 x1 x2 S = true then (if x3.toInt < (Int32.ofInt 1).toInt then (.inr 0) else (if (Int32.ofInt 100).toInt < x3.toInt then (.inr 0) else (.inl (some (.int (Y59 x1 x2 x3 (V90 (V88 x1 x2 S) S) S (W59 x1 x2 x3 (V90 (V88 x1 x2 S) S) S S (x3).toInt.toNat))))))) else (.inr 1)
def F59 (x1 : Int32) (x2 : Int32) (x3 : Int32) (S : zSt) : zSt := if C84 x1 x2 S = true then (if x3.toInt < (Int32.ofInt 1).toInt then S else (if (Int32.ofInt 100).toInt < x3.toInt then S else (X59 x1 x2 x3 (V90 (V88 x1 x2 S) S) S (W59 x1 x2 x3 (V90 (V88 x1 x2 S) S) S S (x3).toInt.toNat)))) else S
theorem e_59 {x1 x2 x3 : Int32} (HL : zaL S.2) : zpM xs N 59 [.ref 0, .int x1, .int x2, .int x3] (zx S.1 S.2 T) nc ns (zOq (R59 x1 x2 x3 S) (zx (F59 x1 x2 x3 S).1 (F59 x1 x2 x3 S).2 T)) := by
  intro L0 e
  cases e
  refine zpE_run 2 (L' := [some (.ref 0), some (.int x1), some (.int x2), some (.int x3), none, none]) (st' := [.int x2, .int x1]) rfl ?_
  refine zpE_call rfl rfl (e_84 (S := S) (x1 := x1) (x2 := x2) HL) (fun v h1 nc1 ns1 q8 => ?_) (fun E h1 nc1 ns1 q8 => ?_)
  rotate_left
  · rcases q8 with ⟨_, q8, _⟩ | ⟨c2, q8, q9⟩
    · cases q8
    · cases q8
      cases q9
      exact ⟨fun _ => (zOq_g (r := .inr 1) (S' := S) (by unfold R59; rw [if_neg c2]) (by unfold F59; rw [if_neg c2])), fun pc2 L2 e => by cases e⟩
  replace q8 := q8.resolve_right (fun y9 => by cases y9.2.1)
  obtain ⟨c2, q8, q9⟩ := q8
  cases q8
  cases q9
  refine zpE_run 2 (L' := [some (.ref 0), some (.int x1), some (.int x2), some (.int x3), none, none]) (st' := [.int (Int32.ofInt 1), .int x3]) rfl ?_
  refine zpE_icmp rfl (fun q7 => ?_) (fun q7 => ?_)
  · have z7_1 := zF_lt_t q7
    exact zpE_end rfl rfl (zOq_g (r := .inr 0) (S' := S) (by unfold R59; rw [if_pos c2, if_pos z7_1]) (by unfold F59; rw [if_pos c2, if_pos z7_1]))
  · have z7_1 := Int.not_lt.mpr (zF_lt_f q7)
    refine zpE_run 2 (L' := [some (.ref 0), some (.int x1), some (.int x2), some (.int x3), none, none]) (st' := [.int (Int32.ofInt 100), .int x3]) rfl ?_
    refine zpE_icmp rfl (fun q13 => ?_) (fun q13 => ?_)
    · have z13_2 := Int.not_lt.mpr (zF_le_t q13)
      refine zpE_run 3 (L' := [some (.ref 0), some (.int x1), some (.int x2), some (.int x3), none, none]) (st' := [.int x2, .int x1, .ref 0]) rfl ?_
      refine zpE_call rfl rfl (e_88 (S := S) (x1 := x1) (x2 := x2) HL) (fun v h1 nc1 ns1 q8 => ?_) (fun E h1 nc1 ns1 q8 => by cases q8.1)
      obtain ⟨q8, q9⟩ := q8
      cases q8
      cases q9
      refine zpE_call rfl rfl (e_90 (S := S) (x1 := V88 x1 x2 S) HL) (fun v h1 nc1 ns1 q8 => ?_) (fun E h1 nc1 ns1 q8 => by cases q8.1)
      obtain ⟨q8, q9⟩ := q8
      cases q8
      cases q9
      refine zpE_run 3 rfl ?_
      rw [show R59 x1 x2 x3 S = .inl (some (.int (Y59 x1 x2 x3 (V90 (V88 x1 x2 S) S) S (W59 x1 x2 x3 (V90 (V88 x1 x2 S) S) S S (x3).toInt.toNat)))) from by
        unfold R59
        rw [if_pos c2, if_neg z7_1, if_neg z13_2]]
      rw [show F59 x1 x2 x3 S = X59 x1 x2 x3 (V90 (V88 x1 x2 S) S) S (W59 x1 x2 x3 (V90 (V88 x1 x2 S) S) S S (x3).toInt.toNat) from by
        unfold F59
        rw [if_pos c2, if_neg z7_1, if_neg z13_2]]
      exact l_59 (x1 := x1) (x2 := x2) (x3 := x3) (l4 := V90 (V88 x1 x2 S) S) (S := S) (u0 := S) HL N 0 _ _ (Nat.zero_le _)
    · have z13_2 := zF_le_f q13
      exact zpE_end rfl rfl (zOq_g (r := .inr 0) (S' := S) (by unfold R59; rw [if_pos c2, if_neg z7_1, if_pos z13_2]) (by unfold F59; rw [if_pos c2, if_neg z7_1, if_pos z13_2]))
theorem fr_X59 {x1 x2 x3 l4 : Int32} {u : zSt} : zfrm [] [] (X59 x1 x2 x3 l4 S u) u := by
  unfold X59
  exact fm_rf
theorem fr_F59 {x1 x2 x3 : Int32} : zfrm [7, 8] [2, 3, 4] (F59 x1 x2 x3 S) S := by
  unfold F59
  exact (fm_ite (fm_ite fm_rf (fm_ite fm_rf (fm_c fr_X59 (fm_c (fr_W59 _) fm_rf (by decide) (by decide)) (by decide) (by decide)))) fm_rf)
theorem ln_F59 {x1 x2 x3 : Int32} (HL : zaL S.2) : zaL (F59 x1 x2 x3 S).2 := fm_L fr_F59 HL
def R60 (x1 : Int32) (x2 : Int32) (x3 : Int32) (x4 : Int32) (x5 : Int32) (S : zSt) : Option Value ⊕ Nat := if x1.toInt < (Int32.ofInt 1).toInt then (.inr 0) else (if (Int32.ofInt 100).toInt < x1.toInt then (.inr 0) else (if x2.toInt < (Int32.ofInt 2).toInt then (.inr 0) else (if (Int32.ofInt 100).toInt < x2.toInt then (.inr 0) else (if x3.toInt < ((0 : Int32)).toInt then (.inr 0) else (if (Int32.ofInt 8).toInt < x3.toInt then (.inr 0) else (.inl (some (.int (S.1 14)))))))))
def F60 (x1 : Int32) (x2 : Int32) (x3 : Int32) (x4 : Int32) (x5 : Int32) (S : zSt) : zSt := if x1.toInt < (Int32.ofInt 1).toInt then S else (if (Int32.ofInt 100).toInt < x1.toInt then S else (if x2.toInt < (Int32.ofInt 2).toInt then S else (if (Int32.ofInt 100).toInt < x2.toInt then S else (if x3.toInt < ((0 : Int32)).toInt then S else (if (Int32.ofInt 8).toInt < x3.toInt then S else (zsS (zsS (zsS (zsS (zsS S 5 x1) 6 x2) 14 x3) 15 x4) 16 x5))))))
theorem e_60 {x1 x2 x3 x4 x5 : Int32} (HL : zaL S.2) : zpM xs N 60 [.ref 0, .int x1, .int x2, .int x3, .int x4, .int x5] (zx S.1 S.2 T) nc ns (zOq (R60 x1 x2 x3 x4 x5 S) (zx (F60 x1 x2 x3 x4 x5 S).1 (F60 x1 x2 x3 x4 x5 S).2 T)) := by
  intro L0 e
  cases e
  refine zpE_run 2 (L' := [some (.ref 0), some (.int x1), some (.int x2), some (.int x3), some (.int x4), some (.int x5), none]) (st' := [.int (Int32.ofInt 1), .int x1]) rfl ?_
  refine zpE_icmp rfl (fun q2 => ?_) (fun q2 => ?_)
  · have z2_0 := zF_lt_t q2
    exact zpE_end rfl rfl (zOq_g (r := .inr 0) (S' := S) (by unfold R60; rw [if_pos z2_0]) (by unfold F60; rw [if_pos z2_0]))
  · have z2_0 := Int.not_lt.mpr (zF_lt_f q2)
    refine zpE_run 2 (L' := [some (.ref 0), some (.int x1), some (.int x2), some (.int x3), some (.int x4), some (.int x5), none]) (st' := [.int (Int32.ofInt 100), .int x1]) rfl ?_
    refine zpE_icmp rfl (fun q8 => ?_) (fun q8 => ?_)
    · have z8_1 := Int.not_lt.mpr (zF_le_t q8)
      refine zpE_run 2 (L' := [some (.ref 0), some (.int x1), some (.int x2), some (.int x3), some (.int x4), some (.int x5), none]) (st' := [.int (Int32.ofInt 2), .int x2]) rfl ?_
      refine zpE_icmp rfl (fun q23 => ?_) (fun q23 => ?_)
      · have z23_2 := zF_lt_t q23
        exact zpE_end rfl rfl (zOq_g (r := .inr 0) (S' := S) (by unfold R60; rw [if_neg z2_0, if_neg z8_1, if_pos z23_2]) (by unfold F60; rw [if_neg z2_0, if_neg z8_1, if_pos z23_2]))
      · have z23_2 := Int.not_lt.mpr (zF_lt_f q23)
        refine zpE_run 2 (L' := [some (.ref 0), some (.int x1), some (.int x2), some (.int x3), some (.int x4), some (.int x5), none]) (st' := [.int (Int32.ofInt 100), .int x2]) rfl ?_
        refine zpE_icmp rfl (fun q29 => ?_) (fun q29 => ?_)
        · have z29_3 := Int.not_lt.mpr (zF_le_t q29)
          refine zpE_run 1 (L' := [some (.ref 0), some (.int x1), some (.int x2), some (.int x3), some (.int x4), some (.int x5), none]) (st' := [.int x3]) rfl ?_
          refine zpE_if rfl (fun q43 => ?_) (fun q43 => ?_)
          · have z43_4 := zF_lt_t q43
            exact zpE_end rfl rfl (zOq_g (r := .inr 0) (S' := S) (by unfold R60; rw [if_neg z2_0, if_neg z8_1, if_neg z23_2, if_neg z29_3, if_pos z43_4]) (by unfold F60; rw [if_neg z2_0, if_neg z8_1, if_neg z23_2, if_neg z29_3, if_pos z43_4]))
          · have z43_4 := Int.not_lt.mpr (zF_lt_f q43)
            refine zpE_run 2 (L' := [some (.ref 0), some (.int x1), some (.int x2), some (.int x3), some (.int x4), some (.int x5), none]) (st' := [.int (Int32.ofInt 8), .int x3]) rfl ?_
            refine zpE_icmp rfl (fun q49 => ?_) (fun q49 => ?_)
            · have z49_5 := Int.not_lt.mpr (zF_le_t q49)
              refine zpE_run 16 (L' := [some (.ref 0), some (.int x1), some (.int x2), some (.int x3), some (.int x4), some (.int x5), some (.int (S.1 14))]) (st' := [.int x4, .ref 0]) (h' := zx (zsS (zsS (zsS S 5 x1) 6 x2) 14 x3).1 (zsS (zsS (zsS S 5 x1) 6 x2) 14 x3).2 T) rfl ?_
              refine zpE_putb (h' := zx (zsS (zsS (zsS (zsS S 5 x1) 6 x2) 14 x3) 15 x4).1 (zsS (zsS (zsS (zsS S 5 x1) 6 x2) 14 x3) 15 x4).2 T) rfl rfl rfl rfl (fun _ => ?_)
              refine zpE_run 2 (L' := [some (.ref 0), some (.int x1), some (.int x2), some (.int x3), some (.int x4), some (.int x5), some (.int (S.1 14))]) (st' := [.int x5, .ref 0]) rfl ?_
              refine zpE_putb (h' := zx (zsS (zsS (zsS (zsS (zsS S 5 x1) 6 x2) 14 x3) 15 x4) 16 x5).1 (zsS (zsS (zsS (zsS (zsS S 5 x1) 6 x2) 14 x3) 15 x4) 16 x5).2 T) rfl rfl rfl rfl (fun _ => ?_)
              refine zpE_run 1 (L' := [some (.ref 0), some (.int x1), some (.int x2), some (.int x3), some (.int x4), some (.int x5), some (.int (S.1 14))]) (st' := [.int (S.1 14)]) rfl ?_
              exact zpE_end rfl rfl (zOq_g (r := .inl (some (.int (S.1 14)))) (S' := zsS (zsS (zsS (zsS (zsS S 5 x1) 6 x2) 14 x3) 15 x4) 16 x5) (by unfold R60; rw [if_neg z2_0, if_neg z8_1, if_neg z23_2, if_neg z29_3, if_neg z43_4, if_neg z49_5]) (by unfold F60; rw [if_neg z2_0, if_neg z8_1, if_neg z23_2, if_neg z29_3, if_neg z43_4, if_neg z49_5]))
            · have z49_5 := zF_le_f q49
              exact zpE_end rfl rfl (zOq_g (r := .inr 0) (S' := S) (by unfold R60; rw [if_neg z2_0, if_neg z8_1, if_neg z23_2, if_neg z29_3, if_neg z43_4, if_pos z49_5]) (by unfold F60; rw [if_neg z2_0, if_neg z8_1, if_neg z23_2, if_neg z29_3, if_neg z43_4, if_pos z49_5]))
        · have z29_3 := zF_le_f q29
          exact zpE_end rfl rfl (zOq_g (r := .inr 0) (S' := S) (by unfold R60; rw [if_neg z2_0, if_neg z8_1, if_neg z23_2, if_pos z29_3]) (by unfold F60; rw [if_neg z2_0, if_neg z8_1, if_neg z23_2, if_pos z29_3]))
    · have z8_1 := zF_le_f q8
      exact zpE_end rfl rfl (zOq_g (r := .inr 0) (S' := S) (by unfold R60; rw [if_neg z2_0, if_pos z8_1]) (by unfold F60; rw [if_neg z2_0, if_pos z8_1]))
theorem fr_F60 {x1 x2 x3 x4 x5 : Int32} : zfrm [5, 6, 14, 15, 16] [] (F60 x1 x2 x3 x4 x5 S) S := by
  unfold F60
  exact (fm_ite fm_rf (fm_ite fm_rf (fm_ite fm_rf (fm_ite fm_rf (fm_ite fm_rf (fm_ite fm_rf (fm_c fm_S (fm_c fm_S (fm_c fm_S (fm_c fm_S (fm_c fm_S fm_rf (by decide) (by decide)) (by decide) (by decide)) (by decide) (by decide)) (by decide) (by decide)) (by decide) (by decide))))))))
theorem ln_F60 {x1 x2 x3 x4 x5 : Int32} (HL : zaL S.2) : zaL (F60 x1 x2 x3 x4 x5 S).2 := fm_L fr_F60 HL
def R61 (x1 : Int32) (x2 : Int32) (S : zSt) : Option Value ⊕ Nat := if C84 x1 x2 S = true then (if (zgt (S.2 16) x1).toInt < (Int32.ofInt 2).toInt then (.inl (some (.int ((zgt (S.2 16) x1) + (Int32.ofInt 1))))) else (.inr 2)) else (.inr 1)
def F61 (x1 : Int32) (x2 : Int32) (S : zSt) : zSt := if C84 x1 x2 S = true then (if (zgt (S.2 16) x1).toInt < (Int32.ofInt 2).toInt then (zsR (F106 x1 x2 ((Int32.ofInt 8) + (zgt (S.2 16) x1)) S) 16 x1 ((zgt (S.2 16) x1) + (Int32.ofInt 1))) else S) else S
theorem e_61 {x1 x2 : Int32} (HL : zaL S.2) : zpM xs N 61 [.ref 0, .int x1, .int x2] (zx S.1 S.2 T) nc ns (zOq (R61 x1 x2 S) (zx (F61 x1 x2 S).1 (F61 x1 x2 S).2 T)) := by
  intro L0 e
  cases e
  refine zpE_run 2 (L' := [some (.ref 0), some (.int x1), some (.int x2), none]) (st' := [.int x2, .int x1]) rfl ?_
  refine zpE_call rfl rfl (e_84 (S := S) (x1 := x1) (x2 := x2) HL) (fun v h1 nc1 ns1 q8 => ?_) (fun E h1 nc1 ns1 q8 => ?_)
  rotate_left
  · rcases q8 with ⟨_, q8, _⟩ | ⟨c2, q8, q9⟩
    · cases q8
    · cases q8
      cases q9
      exact ⟨fun _ => (zOq_g (r := .inr 1) (S' := S) (by unfold R61; rw [if_neg c2]) (by unfold F61; rw [if_neg c2])), fun pc2 L2 e => by cases e⟩
  replace q8 := q8.resolve_right (fun y9 => by cases y9.2.1)
  obtain ⟨c2, q8, q9⟩ := q8
  cases q8
  cases q9
  refine zpE_run 3 (L' := [some (.ref 0), some (.int x1), some (.int x2), none]) (st' := [.int x1, .ref 38]) rfl ?_
  refine zpE_call rfl rfl (p_25 16 39 38 rfl rfl (HL : zaL S.2)) (fun v h1 nc1 ns1 q8 => ?_) (fun E h1 nc1 ns1 q8 => by cases q8)
  cases q8
  refine zpE_run 3 (L' := [some (.ref 0), some (.int x1), some (.int x2), some (.int (zgt (S.2 16) x1))]) (st' := [.int (Int32.ofInt 2), .int (zgt (S.2 16) x1)]) rfl ?_
  refine zpE_icmp rfl (fun q16 => ?_) (fun q16 => ?_)
  · have z16_1 := zF_lt_t q16
    refine zpE_run 6 (L' := [some (.ref 0), some (.int x1), some (.int x2), some (.int (zgt (S.2 16) x1))]) (st' := [.int ((Int32.ofInt 8) + (zgt (S.2 16) x1)), .int x2, .int x1, .ref 0]) rfl ?_
    refine zpE_call rfl rfl (e_106 (S := S) (x1 := x1) (x2 := x2) (x3 := (Int32.ofInt 8) + (zgt (S.2 16) x1)) HL) (fun v h1 nc1 ns1 q8 => ?_) (fun E h1 nc1 ns1 q8 => by cases q8.1)
    obtain ⟨q8, q9⟩ := q8
    cases q8
    cases q9
    obtain ⟨Z1, hZ1⟩ : ∃ Z, Z = F106 x1 x2 ((Int32.ofInt 8) + (zgt (S.2 16) x1)) S := ⟨_, rfl⟩
    rw [← hZ1]
    have LZ1 : zaL Z1.2 := by
      rw [hZ1]
      exact ln_F106 HL
    refine zpE_run 6 (L' := [some (.ref 0), some (.int x1), some (.int x2), some (.int (zgt (S.2 16) x1))]) (st' := [.int ((zgt (S.2 16) x1) + (Int32.ofInt 1)), .int x1, .ref 38]) rfl ?_
    refine zpE_call rfl rfl (p_26 16 39 38 rfl rfl (fun _ => rfl) ((LZ1 : zaL Z1.2) 16)) (fun v h1 nc1 ns1 q8 => ?_) (fun E h1 nc1 ns1 q8 => by cases q8)
    cases q8
    refine zpE_run 3 (L' := [some (.ref 0), some (.int x1), some (.int x2), some (.int (zgt (S.2 16) x1))]) (st' := [.int ((zgt (S.2 16) x1) + (Int32.ofInt 1))]) rfl ?_
    exact zpE_end rfl rfl (zOq_g (r := .inl (some (.int ((zgt (S.2 16) x1) + (Int32.ofInt 1))))) (S' := zsR Z1 16 x1 ((zgt (S.2 16) x1) + (Int32.ofInt 1))) (by unfold R61; (try rw [← hZ1]); rw [if_pos c2, if_pos z16_1]) (by unfold F61; (try rw [← hZ1]); rw [if_pos c2, if_pos z16_1]))
  · have z16_1 := Int.not_lt.mpr (zF_lt_f q16)
    exact zpE_end rfl rfl (zOq_g (r := .inr 2) (S' := S) (by unfold R61; rw [if_pos c2, if_neg z16_1]) (by unfold F61; rw [if_pos c2, if_neg z16_1]))
theorem fr_F61 {x1 x2 : Int32} : zfrm [] [2, 15, 16, 17] (F61 x1 x2 S) S := by
  unfold F61
  exact (fm_ite (fm_ite (fm_c fm_R (fm_c fr_F106 fm_rf (by decide) (by decide)) (by decide) (by decide)) fm_rf) fm_rf)
theorem ln_F61 {x1 x2 : Int32} (HL : zaL S.2) : zaL (F61 x1 x2 S).2 := fm_L fr_F61 HL
def R62 (x1 : Int32) (x2 : Int32) (S : zSt) : Option Value ⊕ Nat := if C82 x1 S = true then (if x2 = ((0 : Int32)) then (.inl (some (.int (zsum ((zsR S 18 x1 (Int32.ofInt 0)).2 18))))) else (.inl (some (.int (zsum ((zsR S 18 x1 (Int32.ofInt 1)).2 18)))))) else (.inr 1)
def F62 (x1 : Int32) (x2 : Int32) (S : zSt) : zSt := if C82 x1 S = true then (if x2 = ((0 : Int32)) then (zsR S 18 x1 (Int32.ofInt 0)) else (zsR S 18 x1 (Int32.ofInt 1))) else S
theorem e_62 {x1 x2 : Int32} (HL : zaL S.2) : zpM xs N 62 [.ref 0, .int x1, .int x2] (zx S.1 S.2 T) nc ns (zOq (R62 x1 x2 S) (zx (F62 x1 x2 S).1 (F62 x1 x2 S).2 T)) := by
  intro L0 e
  cases e
  refine zpE_run 1 (L' := [some (.ref 0), some (.int x1), some (.int x2)]) (st' := [.int x1]) rfl ?_
  refine zpE_call rfl rfl (e_82 (S := S) (x1 := x1) HL) (fun v h1 nc1 ns1 q8 => ?_) (fun E h1 nc1 ns1 q8 => ?_)
  rotate_left
  · rcases q8 with ⟨_, q8, _⟩ | ⟨c1, q8, q9⟩
    · cases q8
    · cases q8
      cases q9
      exact ⟨fun _ => (zOq_g (r := .inr 1) (S' := S) (by unfold R62; rw [if_neg c1]) (by unfold F62; rw [if_neg c1])), fun pc2 L2 e => by cases e⟩
  replace q8 := q8.resolve_right (fun y9 => by cases y9.2.1)
  obtain ⟨c1, q8, q9⟩ := q8
  cases q8
  cases q9
  refine zpE_run 4 (L' := [some (.ref 0), some (.int x1), some (.int x2)]) (st' := [.int x2, .int x1, .ref 42]) rfl ?_
  refine zpE_if rfl (fun q10 => ?_) (fun q10 => ?_)
  · have z10_1 := zF_e1 q10
    refine zpE_run 1 (L' := [some (.ref 0), some (.int x1), some (.int x2)]) (st' := [.int (Int32.ofInt 0), .int x1, .ref 42]) rfl ?_
    refine zpE_call rfl rfl (p_26 18 43 42 rfl rfl (fun _ => rfl) ((HL : zaL S.2) 18)) (fun v h1 nc1 ns1 q8 => ?_) (fun E h1 nc1 ns1 q8 => by cases q8)
    cases q8
    refine zpE_run 2 (L' := [some (.ref 0), some (.int x1), some (.int x2)]) (st' := [.ref 42]) rfl ?_
    refine zpE_call rfl rfl (p_28 18 43 42 rfl rfl (ln_R HL : zaL (zsR S 18 x1 (Int32.ofInt 0)).2)) (fun v h1 nc1 ns1 q8 => ?_) (fun E h1 nc1 ns1 q8 => by cases q8)
    cases q8
    exact zpE_end rfl rfl (zOq_g (r := .inl (some (.int (zsum ((zsR S 18 x1 (Int32.ofInt 0)).2 18))))) (S' := zsR S 18 x1 (Int32.ofInt 0)) (by unfold R62; rw [if_pos c1, if_pos z10_1]) (by unfold F62; rw [if_pos c1, if_pos z10_1]))
  · have z10_1 := zF_e0 q10
    refine zpE_run 2 (L' := [some (.ref 0), some (.int x1), some (.int x2)]) (st' := [.int (Int32.ofInt 1), .int x1, .ref 42]) rfl ?_
    refine zpE_call rfl rfl (p_26 18 43 42 rfl rfl (fun _ => rfl) ((HL : zaL S.2) 18)) (fun v h1 nc1 ns1 q8 => ?_) (fun E h1 nc1 ns1 q8 => by cases q8)
    cases q8
    refine zpE_run 2 (L' := [some (.ref 0), some (.int x1), some (.int x2)]) (st' := [.ref 42]) rfl ?_
    refine zpE_call rfl rfl (p_28 18 43 42 rfl rfl (ln_R HL : zaL (zsR S 18 x1 (Int32.ofInt 1)).2)) (fun v h1 nc1 ns1 q8 => ?_) (fun E h1 nc1 ns1 q8 => by cases q8)
    cases q8
    exact zpE_end rfl rfl (zOq_g (r := .inl (some (.int (zsum ((zsR S 18 x1 (Int32.ofInt 1)).2 18))))) (S' := zsR S 18 x1 (Int32.ofInt 1)) (by unfold R62; rw [if_pos c1, if_neg z10_1]) (by unfold F62; rw [if_pos c1, if_neg z10_1]))
theorem fr_F62 {x1 x2 : Int32} : zfrm [] [18] (F62 x1 x2 S) S := by
  unfold F62
  exact (fm_ite (fm_ite (fm_c fm_R fm_rf (by decide) (by decide)) (fm_c fm_R fm_rf (by decide) (by decide))) fm_rf)
theorem ln_F62 {x1 x2 : Int32} (HL : zaL S.2) : zaL (F62 x1 x2 S).2 := fm_L fr_F62 HL
def D63 (x1 : Int32) (S : zSt) (k : Nat) (u : zSt) : zSt := (F105 (F46 u))
def W63 (x1 : Int32) (S : zSt) (u0 : zSt) : Nat → zSt
  | 0 => u0
  | k + 1 => D63 x1 S k (W63 x1 S u0 k)
def Y63 (x1 : Int32) (S : zSt) (u : zSt) : Int32 := (u.1 4)
def X63 (x1 : Int32) (S : zSt) (u : zSt) : zSt := u
theorem fr_D63 {x1 : Int32} {k : Nat} {u : zSt} : zfrm [4, 11, 12, 13, 17] [2, 3, 4, 12, 13, 14, 17] (D63 x1 S k u) u := by
  unfold D63
  exact (fm_c fr_F105 (fm_c fr_F46 fm_rf (by decide) (by decide)) (by decide) (by decide))
theorem fr_W63 {x1 : Int32} {u0 : zSt} : ∀ k, zfrm [4, 11, 12, 13, 17] [2, 3, 4, 12, 13, 14, 17] (W63 x1 S u0 k) u0
  | 0 => fm_rf
  | k + 1 => fm_tr fr_D63 (fr_W63 k)
theorem ln_W63 {x1 : Int32} {u0 : zSt} (HU : zaL u0.2) (k : Nat) : zaL (W63 x1 S u0 k).2 := fm_L (fr_W63 k) HU
theorem l_63 {x1 : Int32} {u0 : zSt} (HL : zaL u0.2) : ∀ (N k : Nat) (nc ns : Nat), k ≤ (x1).toInt.toNat → zpE xs N 63 31 [some (.ref 0), some (.int x1), some (.int (Int32.ofNat k))] [] (zx (W63 x1 S u0 k).1 (W63 x1 S u0 k).2 T) nc ns (zOq (.inl (some (.int (Y63 x1 S (W63 x1 S u0 (x1).toInt.toNat))))) (zx (X63 x1 S (W63 x1 S u0 (x1).toInt.toNat)).1 (X63 x1 S (W63 x1 S u0 (x1).toInt.toNat)).2 T))
  | 0, _, _, _, _ => zpE_0
  | N + 1, k, nc, ns, hk => by
    have HLk := ln_W63 (x1 := x1) (S := S) HL k
    refine zpE_run1 1 (L' := [some (.ref 0), some (.int x1), some (.int (Int32.ofNat k))]) (st' := [.int x1, .int (Int32.ofNat k)]) rfl ?_
    refine zpE_icmp rfl (fun q33 => ?_) (fun q33 => ?_)
    · have z33_0 := Int.not_lt.mpr (zF_ge_t q33)
      refine zpE_run 3 (L' := [some (.ref 0), some (.int x1), some (.int (Int32.ofNat k))]) (st' := [.int (((W63 x1 S u0 k)).1 4)]) rfl ?_
      exact zpE_end rfl rfl (by rw [← zlp_out z33_0 hk]; exact zOq_w (S' := (W63 x1 S u0 k)) (by unfold Y63; (first | done | rfl)) (by unfold X63; (first | done | rfl)))
    · have z33_0 := zF_ge_f q33
      refine zpE_run 2 (L' := [some (.ref 0), some (.int x1), some (.int (Int32.ofNat k))]) (st' := [.ref 6]) rfl ?_
      refine zpE_call rfl rfl (e_46 (S := (W63 x1 S u0 k)) HLk) (fun v h1 nc1 ns1 q8 => ?_) (fun E h1 nc1 ns1 q8 => by cases q8.1)
      obtain ⟨q8, q9⟩ := q8
      cases q8
      cases q9
      obtain ⟨Z1, hZ1⟩ : ∃ Z, Z = F46 ((W63 x1 S u0 k)) := ⟨_, rfl⟩
      rw [← hZ1]
      have LZ1 : zaL Z1.2 := by
        rw [hZ1]
        exact ln_F46 HLk
      refine zpE_run 1 (L' := [some (.ref 0), some (.int x1), some (.int (Int32.ofNat k))]) (st' := [.ref 0]) rfl ?_
      refine zpE_call rfl rfl (e_105 (S := Z1) LZ1) (fun v h1 nc1 ns1 q8 => ?_) (fun E h1 nc1 ns1 q8 => by cases q8.1)
      obtain ⟨q8, q9⟩ := q8
      cases q8
      cases q9
      obtain ⟨Z2, hZ2⟩ : ∃ Z, Z = F105 Z1 := ⟨_, rfl⟩
      rw [← hZ2]
      have LZ2 : zaL Z2.2 := by
        rw [hZ2]
        exact ln_F105 LZ1
      refine zpE_run 2 (L' := [some (.ref 0), some (.int x1), some (.int ((Int32.ofNat k) + Int32.ofInt 1))]) (st' := []) rfl ?_
      have K := fun nc ns => l_63 (x1 := x1) (u0 := u0) HL N (k + 1) nc ns (zlp_in z33_0 hk)
      rw [← zof1, show W63 x1 S u0 (k + 1) = Z2 from by
          show D63 x1 S k _ = _
          unfold D63
          (try rw [← hZ1])
          (try rw [← hZ2])
          (first | done | rfl)] at K
      exact K _ _
def R63 (x1 : Int32) (S : zSt) : Option Value ⊕ Nat := if C85 x1 S = true then (if (Int32.ofInt 2000).toInt < ((S.1 4) + x1).toInt then (.inr 2) else (.inl (some (.int (Y63 x1 S (W63 x1 S S (x1).toInt.toNat)))))) else (.inr 0)
def F63 (x1 : Int32) (S : zSt) : zSt := if C85 x1 S = true then (if (Int32.ofInt 2000).toInt < ((S.1 4) + x1).toInt then S else (X63 x1 S (W63 x1 S S (x1).toInt.toNat))) else S
theorem e_63 {x1 : Int32} (HL : zaL S.2) : zpM xs N 63 [.ref 0, .int x1] (zx S.1 S.2 T) nc ns (zOq (R63 x1 S) (zx (F63 x1 S).1 (F63 x1 S).2 T)) := by
  intro L0 e
  cases e
  refine zpE_run 1 (L' := [some (.ref 0), some (.int x1), none]) (st' := [.int x1]) rfl ?_
  refine zpE_call rfl rfl (e_85 (S := S) (x1 := x1) HL) (fun v h1 nc1 ns1 q8 => ?_) (fun E h1 nc1 ns1 q8 => ?_)
  rotate_left
  · rcases q8 with ⟨_, q8, _⟩ | ⟨c1, q8, q9⟩
    · cases q8
    · cases q8
      cases q9
      exact ⟨fun _ => (zOq_g (r := .inr 0) (S' := S) (by unfold R63; rw [if_neg c1]) (by unfold F63; rw [if_neg c1])), fun pc2 L2 e => by cases e⟩
  replace q8 := q8.resolve_right (fun y9 => by cases y9.2.1)
  obtain ⟨c1, q8, q9⟩ := q8
  cases q8
  cases q9
  refine zpE_run 6 (L' := [some (.ref 0), some (.int x1), none]) (st' := [.int (Int32.ofInt 2000), .int ((S.1 4) + x1)]) rfl ?_
  refine zpE_icmp rfl (fun q16 => ?_) (fun q16 => ?_)
  · have z16_1 := Int.not_lt.mpr (zF_le_t q16)
    refine zpE_run 2 rfl ?_
    rw [show R63 x1 S = .inl (some (.int (Y63 x1 S (W63 x1 S S (x1).toInt.toNat)))) from by
      unfold R63
      rw [if_pos c1, if_neg z16_1]]
    rw [show F63 x1 S = X63 x1 S (W63 x1 S S (x1).toInt.toNat) from by
      unfold F63
      rw [if_pos c1, if_neg z16_1]]
    exact l_63 (x1 := x1) (S := S) (u0 := S) HL N 0 _ _ (Nat.zero_le _)
  · have z16_1 := zF_le_f q16
    exact zpE_end rfl rfl (zOq_g (r := .inr 2) (S' := S) (by unfold R63; rw [if_pos c1, if_pos z16_1]) (by unfold F63; rw [if_pos c1, if_pos z16_1]))
theorem fr_X63 {x1 : Int32} {u : zSt} : zfrm [] [] (X63 x1 S u) u := by
  unfold X63
  exact fm_rf
theorem fr_F63 {x1 : Int32} : zfrm [4, 11, 12, 13, 17] [2, 3, 4, 12, 13, 14, 17] (F63 x1 S) S := by
  unfold F63
  exact (fm_ite (fm_ite fm_rf (fm_c fr_X63 (fm_c (fr_W63 _) fm_rf (by decide) (by decide)) (by decide) (by decide))) fm_rf)
theorem ln_F63 {x1 : Int32} (HL : zaL S.2) : zaL (F63 x1 S).2 := fm_L fr_F63 HL
end ZCA

