/-! The reference's methods, by hand: small ones, the lists. -/
def ct_114 : zCt := (114, [zIA], some zIA, 1, 0, 0)
def ct_117 : zCt := (117, [(.inr (.inr (.inl (44, 44))))], some ((.inl (8, 16, 8, 0))), 1, 0, 0)
def ct_243a : zCt := (243, [(.inr (.inr (.inr 8)))], some ((.inl (0, 24, 2, 0))), 1, 0, 0)
def ct_243b : zCt := (243, [(.inr (.inr (.inr 9)))], some ((.inl (0, 24, 4, 0))), 1, 0, 0)
def ct_243c : zCt := (243, [(.inr (.inr (.inr 10)))], some ((.inl (0, 40, 6, 0))), 1, 0, 0)
def ct_239a : zCt := (239, [(.inr (.inr (.inr 8))), (.inl (0, 2147483647, 1, 0))], some (.inr (.inr (.inr 6))), 3, 0, 0)
def ct_239b : zCt := (239, [(.inr (.inr (.inr 9))), (.inl (0, 2147483647, 3, 0))], some (.inr (.inr (.inr 6))), 3, 0, 0)
def ct_239c : zCt := (239, [(.inr (.inr (.inr 10))), (.inl (0, 2147483647, 5, 0))], some (.inr (.inr (.inr 7))), 3, 0, 0)
def ct_128 : zCt := (128, [(.inr (.inr (.inl (44, 44))))], some ((.inl (0, 250, 0, 0))), 1, 0, 0)
def ct_138 : zCt := (138, [zIA], some ((.inr (.inl (0, 0, 127, 0)))), 1, 0, 0)
def ce_draw : List zCe := [(0, [(.inl 15)], (0, 0), [(.inr (.inr (.inl (44, 44))))], []),
  (1, [(.inl 14)], (0, 0), [(.inr (.inr (.inl (44, 44))))], [(.inr (.inr (.inl (44, 44))))]),
  (2, [(.inl 13)], (0, 0), [(.inr (.inr (.inl (44, 44))))], [(.inr (.inr (.inl (44, 44)))), (.inr (.inr (.inl (44, 44))))]),
  (5, [(.inl 12)], (0, 0), [(.inr (.inr (.inl (44, 44))))], [(.inl ((-1), 250, 0, 0)), (.inr (.inr (.inl (44, 44))))]),
  (6, [(.inl 11)], (0, 0), [(.inr (.inr (.inl (44, 44))))], [(.inl ((-1), (-1), 0, 0)), (.inl ((-1), 250, 0, 0)), (.inr (.inr (.inl (44, 44))))]),
  (9, [(.inl 10)], (0, 0), [(.inr (.inr (.inl (44, 44))))], [(.inr (.inr (.inl (44, 44))))]),
  (10, [(.inl 9)], (0, 0), [(.inr (.inr (.inl (44, 44))))], [(.inl (5, 5, 0, 0)), (.inr (.inr (.inl (44, 44))))]),
  (13, [(.inl 8)], (0, 0), [(.inr (.inr (.inl (44, 44))))], [(.inr (.inr (.inl (44, 44))))]),
  (15, [(.inl 7)], (0, 0), [(.inr (.inr (.inl (44, 44))))], [(.inl (17, 17, 0, 0)), (.inr (.inr (.inl (44, 44))))]),
  (16, [(.inl 6)], (0, 0), [(.inr (.inr (.inl (44, 44))))], [(.inr (.inr (.inl (44, 44)))), (.inl (17, 17, 0, 0)), (.inr (.inr (.inl (44, 44))))]),
  (19, [(.inl 5)], (0, 0), [(.inr (.inr (.inl (44, 44))))], [(.inl ((-1), 250, 0, 0)), (.inl (17, 17, 0, 0)), (.inr (.inr (.inl (44, 44))))]),
  (20, [(.inl 4)], (0, 0), [(.inr (.inr (.inl (44, 44))))], [(.inl ((-17), 4250, 0, 0)), (.inr (.inr (.inl (44, 44))))]),
  (22, [(.inl 3)], (0, 0), [(.inr (.inr (.inl (44, 44))))], [(.inl (43, 43, 0, 0)), (.inl ((-17), 4250, 0, 0)), (.inr (.inr (.inl (44, 44))))]),
  (23, [(.inl 2)], (0, 0), [(.inr (.inr (.inl (44, 44))))], [(.inl (26, 4293, 0, 0)), (.inr (.inr (.inl (44, 44))))]),
  (26, [(.inl 1)], (0, 0), [(.inr (.inr (.inl (44, 44))))], [(.inl (251, 251, 0, 0)), (.inl (26, 4293, 0, 0)), (.inr (.inr (.inl (44, 44))))]),
  (27, [(.inl 0)], (0, 0), [(.inr (.inr (.inl (44, 44))))], [(.inl (0, 250, 0, 0)), (.inr (.inr (.inl (44, 44))))])]
def cs_draw : List zCt := []
theorem gs_draw {xs : List Int32} : ∀ ct ∈ cs_draw, zGd xs ct := fun _ h => absurd h List.not_mem_nil
section ZHA
variable {xs : List Int32} {g : zG} {lg : Nat} {h : zH} {D nc ns : Nat} {as : List Value} {y : Nat}
/-- a method that changes nothing -/
theorem zPm_pure {rt : zTy} {w : Value} (hI : zHI g lg h) (hw : zga g lg h (as.map some) rt w) : zPm g lg h nc ns (some rt) 0 0 as (.inl (some w), h, nc, ns) := ⟨_, h, lg, nc, ns, rfl, ⟨w, rfl, hw⟩, hI, zLE_rf, Nat.le_refl _, Nat.le_refl _, Nat.le_refl _⟩
theorem zin1 {t : zTy} (hS : zgs g lg h [] [t] as) : ∃ v, as = [v] ∧ zga g lg h [] t v := by
  match as, hS with
  | [v], hS => exact ⟨v, rfl, hS.1⟩
  | [], hS => exact hS.elim
  | _ :: _ :: _, hS => exact hS.2.elim
theorem zin2 {t u : zTy} (hS : zgs g lg h [] [t, u] as) : ∃ v w, as = [v, w] ∧ zga g lg h [] t v ∧ zga g lg h [] u w := by
  match as, hS with
  | [v, w], hS => exact ⟨v, w, rfl, hS.1, hS.2.1⟩
  | [], hS => exact hS.elim
  | [_], hS => exact hS.2.elim
  | _ :: _ :: _ :: _, hS => exact hS.2.2.elim
theorem zin3 {t u r : zTy} (hS : zgs g lg h [] [t, u, r] as) : ∃ v w x, as = [v, w, x] ∧ zga g lg h [] t v ∧ zga g lg h [] u w ∧ zga g lg h [] r x := by
  match as, hS with
  | [v, w, x], hS => exact ⟨v, w, x, rfl, hS.1, hS.2.1, hS.2.2.1⟩
  | [], hS => exact hS.elim
  | [_], hS => exact hS.2.elim
  | [_, _], hS => exact hS.2.2.elim
  | _ :: _ :: _ :: _ :: _, hS => exact hS.2.2.2.elim
theorem zin4 {t u r q : zTy} (hS : zgs g lg h [] [t, u, r, q] as) : ∃ v w x z, as = [v, w, x, z] ∧ zga g lg h [] t v ∧ zga g lg h [] u w ∧ zga g lg h [] r x ∧ zga g lg h [] q z := by
  match as, hS with
  | [v, w, x, z], hS => exact ⟨v, w, x, z, rfl, hS.1, hS.2.1, hS.2.2.1, hS.2.2.2.1⟩
  | [], hS => exact hS.elim
  | [_], hS => exact hS.2.elim
  | [_, _], hS => exact hS.2.2.elim
  | [_, _, _], hS => exact hS.2.2.2.elim
  | _ :: _ :: _ :: _ :: _ :: _, hS => exact hS.2.2.2.2.elim
theorem zP_eq {L : zL} {v : Value} {q : Nat} (k : zga g lg h L ((.inr (.inr (.inl (q, q))))) v) : v = .ref q := by
  obtain ⟨a, rfl, k1, k2⟩ := k
  rw [Nat.le_antisymm k2 k1]
theorem zI_eq {L : zL} {v : Value} {a b : Int} {t s : Nat} (k : zga g lg h L ((.inl (a, b, t, s))) v) : ∃ x : Int32, v = .int x ∧ a ≤ x.toInt ∧ x.toInt ≤ b ∧ zta g lg t x.toInt := by
  obtain ⟨x, k1, k2, k3, k4, -⟩ := k
  exact ⟨x, k1, k2, k3, k4⟩
theorem zf_int {vs : List Value} {k : Nat} {a b : Int} (m3 : ∀ k, k < 26 → ∃ v, vs[k]? = some v ∧ zga g lg h [] (zfs k) v) (hk : k < 26) (e : zfs k = (.inl (a, b, 0, 0))) : ∃ x : Int32, vs[k]? = some (.int x) ∧ a ≤ x.toInt ∧ x.toInt ≤ b := by
  obtain ⟨v, k1, k2⟩ := m3 k hk
  rw [e] at k2
  obtain ⟨x, rfl, k3, k4, -⟩ := k2
  exact ⟨x, k1, k3, k4⟩
theorem g_117 : zGd xs ct_117 := by
  intro g lg h nc ns as hI hS
  obtain ⟨v, rfl, k⟩ := zin1 hS
  obtain rfl := zP_eq k
  obtain ⟨vs, m1, m2, m3, m4⟩ := hI.obj
  obtain ⟨x, y, b1, b2, b3⟩ := hI.bits
  have v1 := m4 1 (by decide)
  have v2 := m4 2 (by decide)
  rw [b1] at v1
  rw [b2] at v2
  have hz := hI.sizes
  refine ⟨_, rfl, zEs_run 1 rfl ?_⟩
  refine zEs_get rfl m1 rfl v1 ?_
  refine zEs_run 1 rfl ?_
  refine zEs_get rfl m1 rfl v2 ?_
  refine zEs_run 1 rfl ?_
  have e := Int32.toInt_add x y
  rw [zbm (by omega) (by omega)] at e
  exact zEs_end rfl rfl (zPm_pure hI ⟨x + y, rfl, by omega, by omega, show _ ≤ (g.zn : Int) by omega, Or.inl rfl⟩)
theorem zls_of {j : Nat} (hI : zHI g lg h) (hj : j < g.nl) : ∃ dq, zLi h (g.p j) (zsz g lg j) (zQj j) dq := by
  obtain ⟨E, k⟩ := hI.lists
  exact ⟨_, (k j hj).2.1⟩
end ZHA
