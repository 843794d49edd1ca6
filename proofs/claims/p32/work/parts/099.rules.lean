/-! Rules for runs: 'from some fuel on'. -/
def zEv (xs : List Int32) (y pc : Nat) (L : zL) (st : List Value) (h : zH) (nc ns : Nat) (o : zO) : Prop := ∃ D N, ∀ d n, D ≤ d → N ≤ n → zev xs n d y pc L st h nc ns = some o
/-- a whole call -/
def zMt (xs : List Int32) (y : Nat) (as : List Value) (h : zH) (nc ns : Nat) (o : zO) : Prop := ∃ L0, zen (zmL y) as = some L0 ∧ zEv xs y 0 L0 [] h nc ns o
section ZR
variable {xs : List Int32} {y pc nx k yy m c : Nat} {i : Instr} {L : zL} {st : List Value} {h : zH} {nc ns : Nat} {o : zO}
theorem zEv_step {pc' dc ds : Nat} {L' : zL} {st' : List Value} {h' : zH} (h1 : zat (zmc y) pc = some (i, nx, k, yy, m, c)) (h2 : zstep zcf xs pc i nx k yy m c L st h = some (.inl (pc', L', st', h', dc, ds))) (h3 : zEv xs y pc' L' st' h' (nc + dc) (ns + ds) o) : zEv xs y pc L st h nc ns o := by
  obtain ⟨D, N, g⟩ := h3
  refine ⟨D, N + 1, fun d n hd hn => ?_⟩
  obtain ⟨n, rfl⟩ : ∃ q, n = q + 1 := ⟨n - 1, by omega⟩
  unfold zev
  rw [h1]
  dsimp only
  rw [h2]
  exact g d n hd (by omega)
theorem zEv_end {dc ds : Nat} {r : Option Value ⊕ Nat} (h1 : zat (zmc y) pc = some (i, nx, k, yy, m, c)) (h2 : zstep zcf xs pc i nx k yy m c L st h = some (.inr (.inr (r, dc, ds)))) (h3 : o = (r, h, nc + dc, ns + ds)) : zEv xs y pc L st h nc ns o := by
  refine ⟨0, 1, fun d n hd hn => ?_⟩
  obtain ⟨n, rfl⟩ : ∃ q, n = q + 1 := ⟨n - 1, by omega⟩
  unfold zev
  rw [h1]
  dsimp only
  rw [h2, h3]
theorem zEv_call {y' nx' nc1 ns1 : Nat} {as r : List Value} {v : Option Value} {h1 : zH} (e1 : zat (zmc y) pc = some (i, nx, k, yy, m, c)) (e2 : zstep zcf xs pc i nx k yy m c L st h = some (.inr (.inl (y', as, r, nx')))) (e3 : zMt xs y' as h nc ns (.inl v, h1, nc1, ns1)) (e4 : zEv xs y nx' L (v.toList ++ r) h1 nc1 ns1 o) : zEv xs y pc L st h nc ns o := by
  obtain ⟨L0, hL, D1, N1, g1⟩ := e3
  obtain ⟨D2, N2, g2⟩ := e4
  refine ⟨D1 + D2 + 1, N1 + N2 + 1, fun d n hd hn => ?_⟩
  obtain ⟨n, rfl⟩ : ∃ q, n = q + 1 := ⟨n - 1, by omega⟩
  obtain ⟨d, rfl⟩ : ∃ q, d = q + 1 := ⟨d - 1, by omega⟩
  unfold zev
  rw [e1]
  dsimp only
  rw [e2]
  dsimp only
  rw [hL]
  dsimp only
  rw [g1 d n (by omega) (by omega)]
  dsimp only
  exact g2 (d + 1) n (by omega) (by omega)
/-- the callee throws, and it is not caught here -/
theorem zEv_callx {y' nx' nc1 ns1 E : Nat} {as r : List Value} {h1 : zH} (e0 : zmh y = []) (e1 : zat (zmc y) pc = some (i, nx, k, yy, m, c)) (e2 : zstep zcf xs pc i nx k yy m c L st h = some (.inr (.inl (y', as, r, nx')))) (e3 : zMt xs y' as h nc ns (.inr E, h1, nc1, ns1)) (e4 : o = (.inr E, h1, nc1, ns1)) : zEv xs y pc L st h nc ns o := by
  obtain ⟨L0, hL, D1, N1, g1⟩ := e3
  refine ⟨D1 + 1, N1 + 1, fun d n hd hn => ?_⟩
  obtain ⟨n, rfl⟩ : ∃ q, n = q + 1 := ⟨n - 1, by omega⟩
  obtain ⟨d, rfl⟩ : ∃ q, d = q + 1 := ⟨d - 1, by omega⟩
  unfold zev
  rw [e1]
  dsimp only
  rw [e2]
  dsimp only
  rw [hL]
  dsimp only
  rw [g1 d n (by omega) (by omega)]
  dsimp only
  rw [e0, e4]
/-- .. and is caught -/
theorem zEv_callc {y' nx' nc1 ns1 E pc2 : Nat} {as r : List Value} {h1 : zH} {L2 : zL} (e0 : zmh y ≠ []) (e1 : zat (zmc y) pc = some (i, nx, k, yy, m, c)) (e2 : zstep zcf xs pc i nx k yy m c L st h = some (.inr (.inl (y', as, r, nx')))) (e3 : zMt xs y' as h nc ns (.inr E, h1, nc1, ns1)) (e4 : zcatch y pc E L = some (pc2, L2)) (e5 : zEv xs y pc2 L2 [] h1 nc1 ns1 o) : zEv xs y pc L st h nc ns o := by
  obtain ⟨L0, hL, D1, N1, g1⟩ := e3
  obtain ⟨D2, N2, g2⟩ := e5
  refine ⟨D1 + D2 + 1, N1 + N2 + 1, fun d n hd hn => ?_⟩
  obtain ⟨n, rfl⟩ : ∃ q, n = q + 1 := ⟨n - 1, by omega⟩
  obtain ⟨d, rfl⟩ : ∃ q, d = q + 1 := ⟨d - 1, by omega⟩
  unfold zev
  rw [e1]
  dsimp only
  rw [e2]
  dsimp only
  rw [hL]
  dsimp only
  rw [g1 d n (by omega) (by omega)]
  dsimp only
  split
  · next q => exact absurd q e0
  · rw [e4]
    exact g2 (d + 1) n (by omega) (by omega)
/-- several steps at once -/
def zrun (xs : List Int32) (y : Nat) : Nat → Nat → zL → List Value → zH → Nat → Nat → Option (Nat × zL × List Value × zH × Nat × Nat)
  | 0, pc, L, st, h, nc, ns => some (pc, L, st, h, nc, ns)
  | n + 1, pc, L, st, h, nc, ns => match zat (zmc y) pc with
    | none => none
    | some (i, nx, k, yy, m, c) => match zstep zcf xs pc i nx k yy m c L st h with
      | some (.inl (pc', L', st', h', dc, ds)) => zrun xs y n pc' L' st' h' (nc + dc) (ns + ds)
      | _ => none
theorem zEv_run : ∀ (n : Nat) {pc pc' nc ns nc' ns' : Nat} {L L' : zL} {st st' : List Value} {h h' : zH} {o : zO}, zrun xs y n pc L st h nc ns = some (pc', L', st', h', nc', ns') → zEv xs y pc' L' st' h' nc' ns' o → zEv xs y pc L st h nc ns o
  | 0, pc, pc', nc, ns, nc', ns', L, L', st, st', h, h', o, e, k => by
    cases (show some _ = some _ from e)
    exact k
  | n + 1, pc, pc', nc, ns, nc', ns', L, L', st, st', h, h', o, e, k => by
    unfold zrun at e
    split at e
    · cases e
    · next h1 =>
      split at e
      · next h2 => exact zEv_step h1 h2 (zEv_run n e k)
      · cases e
end ZR
