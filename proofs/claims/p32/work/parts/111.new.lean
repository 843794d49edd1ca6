/-! A new object: by evaluation. -/
theorem zev_up {xs : List Int32} : ∀ (n d y pc : Nat) (L : zL) (st : List Value) (h : zH) (nc ns : Nat) (o : zO), zev xs n d y pc L st h nc ns = some o → ∀ (n' d' : Nat), n ≤ n' → d ≤ d' → zev xs n' d' y pc L st h nc ns = some o
  | 0, d, y, pc, L, st, h, nc, ns, o, e, n', d', hn, hd => by cases (show none = some _ from e)
  | n + 1, d, y, pc, L, st, h, nc, ns, o, e, n', d', hn, hd => by
    obtain ⟨n', rfl⟩ : ∃ q, n' = q + 1 := ⟨n' - 1, by omega⟩
    cases hat : zat (zmc y) pc with
    | none =>
      unfold zev at e
      rw [hat] at e
      cases e
    | some q =>
      obtain ⟨i, nx, k, yy, n9, c⟩ := q
      cases hst : zstep zcf xs pc i nx k yy n9 c L st h with
      | none =>
        unfold zev at e
        rw [hat] at e
        dsimp only at e
        rw [hst] at e
        cases e
      | some q =>
        rcases q with ⟨pc', L', st', h', dc, ds⟩ | ⟨y', as, r, nx'⟩ | ⟨r, dc, ds⟩
        · unfold zev at e ⊢
          rw [hat] at e ⊢
          dsimp only at e ⊢
          rw [hst] at e ⊢
          exact zev_up n _ _ _ _ _ _ _ _ _ e n' d' (by omega) hd
        · unfold zev at e ⊢
          rw [hat] at e ⊢
          dsimp only at e ⊢
          rw [hst] at e ⊢
          dsimp only at e ⊢
          cases d with
          | zero => cases e
          | succ d =>
            obtain ⟨d', rfl⟩ : ∃ q, d' = q + 1 := ⟨d' - 1, by omega⟩
            dsimp only at e ⊢
            cases hen : zen (zmL y') as with
            | none =>
              rw [hen] at e
              cases e
            | some L0 =>
              rw [hen] at e
              dsimp only at e ⊢
              cases hev : zev xs n d y' 0 L0 [] h nc ns with
              | none =>
                rw [hev] at e
                cases e
              | some q =>
                obtain ⟨r1, h1, nc1, ns1⟩ := q
                rw [hev] at e
                rw [zev_up n _ _ _ _ _ _ _ _ _ hev n' d' (by omega) (by omega)]
                cases r1 with
                | inl v =>
                  dsimp only at e ⊢
                  exact zev_up n _ _ _ _ _ _ _ _ _ e n' (d' + 1) (by omega) (by omega)
                | inr E =>
                  dsimp only at e ⊢
                  cases hnil : zmh y with
                  | nil =>
                    rw [hnil] at e
                    exact e
                  | cons z zs =>
                    rw [hnil] at e
                    dsimp only at e ⊢
                    cases hct : zcatch y pc E L with
                    | none =>
                      rw [hct] at e
                      cases e
                    | some q =>
                      rw [hct] at e
                      obtain ⟨pc2, L2⟩ := q
                      dsimp only at e ⊢
                      exact zev_up n _ _ _ _ _ _ _ _ _ e n' (d' + 1) (by omega) (by omega)
        · unfold zev at e ⊢
          rw [hat] at e ⊢
          dsimp only at e ⊢
          rw [hst] at e ⊢
          exact e
theorem zEs_of {xs : List Int32} {n D y pc nc ns : Nat} {L : zL} {st : List Value} {h : zH} {o : zO} {P : zO → Prop} (e : zev xs n D y pc L st h nc ns = some o) (g : P o) : zEs xs D y pc L st h nc ns P := ⟨o, n, g, fun d n' hd hn => zev_up n D y pc L st h nc ns o e n' d hn hd⟩
theorem zEs_callE {xs : List Int32} {D y pc nx k yy m c y' nx' nc ns nc1 ns1 : Nat} {i : Instr} {L L0 : zL} {st as r : List Value} {h h1 : zH} {P : zO → Prop} {v : Option Value} (n : Nat) (e1 : zat (zmc y) pc = some (i, nx, k, yy, m, c)) (e2 : zstep zcf xs pc i nx k yy m c L st h = some (.inr (.inl (y', as, r, nx')))) (e3 : zen (zmL y') as = some L0) (e4 : zev xs n D y' 0 L0 [] h nc ns = some (.inl v, h1, nc1, ns1)) (g : zEs xs (D + 1) y nx' L (v.toList ++ r) h1 nc1 ns1 P) : zEs xs (D + 1) y pc L st h nc ns P := by
  refine zEs_callG (P1 := fun o => o = (.inl v, h1, nc1, ns1)) e1 e2 ⟨L0, e3, zEs_of e4 rfl⟩ (fun v h9 nc9 ns9 q => ?_) (fun E h9 nc9 ns9 q => by cases q)
  cases q
  exact g
def zs00 (k : Nat) : Int32 := match k with
  | 5 => 16
  | 6 => 20
  | 7 => 5
  | _ => 0
def za00 (k : Nat) : List Int32 := List.replicate (([16, 64, 160, 20, 20, 160, 24, 24, 24, 24, 24, 24, 40, 40, 40, 16, 2, 128, 128] : List Nat).getD k 0) 0
theorem za00_L : zaL za00 := by
  intro k
  unfold za00
  rw [List.length_replicate]
  by_cases h : k < 19
  · have e : (List.range 19).all (fun k => decide (([16, 64, 160, 20, 20, 160, 24, 24, 24, 24, 24, 24, 40, 40, 40, 16, 2, 128, 128] : List Nat).getD k 0 < 2147483648)) = true := by decide
    exact of_decide_eq_true (List.all_eq_true.mp e k (List.mem_range.mpr h))
  · rw [List.getD_eq_getElem?_getD, List.getElem?_eq_none (Nat.not_lt.mp h)]
    decide
set_option maxRecDepth 20000 in
theorem m_52a {xs : List Int32} {D nc ns : Nat} {P : zO → Prop} (g : ∀ nc' ns' : Nat, nc' ≤ nc + 60 → ns' ≤ ns + 2000 → zEs xs (D + 6) 52 90 [some (.ref 0), none] [] (zx zs00 za00 []) nc' ns' P) : zEs xs (D + 6) 52 0 [some (.ref 0), none] [] [(5, (zcf 5).map (fun q => zdf q.2))] nc ns P := by
  refine zEs_run 5 rfl ?_
  refine zEs_callE 60 rfl rfl rfl rfl ?_
  refine zEs_run 4 rfl ?_
  refine zEs_callE 200 rfl rfl rfl rfl ?_
  refine zEs_run 4 rfl ?_
  refine zEs_callE 100 rfl rfl rfl rfl ?_
  refine zEs_run 5 rfl ?_
  refine zEs_callE 30 rfl rfl rfl rfl ?_
  refine zEs_run 5 rfl ?_
  refine zEs_callE 30 rfl rfl rfl rfl ?_
  refine zEs_run 5 rfl ?_
  refine zEs_callE 30 rfl rfl rfl rfl ?_
  refine zEs_run 5 rfl ?_
  refine zEs_callE 30 rfl rfl rfl rfl ?_
  refine zEs_run 1 (h' := zx zs00 za00 []) rfl ?_
  have f0 : (zcf 0).length = 5 := rfl
  have f1 : (zcf 1).length = 4 := rfl
  have f2 : (zcf 2).length = 1 := rfl
  have f3 : (zcf 3).length = 6 := rfl
  have f4 : (zcf 4).length = 12 := rfl
  have f5 : (Int8.ofInt 16).toInt32.toNatClampNeg = 16 := by decide
  have f6 : (Int16.ofInt 128).toInt32.toNatClampNeg = 128 := by decide
  have f7 : (Int32.ofInt 2).toNatClampNeg = 2 := by decide
  have f8 : (Int8.ofInt 24).toInt32.toNatClampNeg = 24 := by decide
  have f9 : (Int8.ofInt 64).toInt32.toNatClampNeg = 64 := by decide
  have g0 : (Int8.ofInt 20).toInt32.toNatClampNeg = 20 := by decide
  have g1 : (Int8.ofInt 40).toInt32.toNatClampNeg = 40 := by decide
  have g2 : (Int16.ofInt 160).toInt32.toNatClampNeg = 160 := by decide
  exact g _ _ (by omega) (by omega)
