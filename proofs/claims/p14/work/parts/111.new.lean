/-! A new object: by evaluation. -/
theorem zev_up {xs : List Int32} : ∀ (n d y pc : Nat) (L : zL) (st : List Value) (h : zH) (nc ns : Nat) (o : zO), zev xs n d y pc L st h nc ns = some o → ∀ (n' d' : Nat), n ≤ n' → d ≤ d' → zev xs n' d' y pc L st h nc ns = some o
  | 0, d, y, pc, L, st, h, nc, ns, o, e, n', d', hn, hd => by cases (show none = some _ from e)
  | n + 1, d, y, pc, L, st, h, nc, ns, o, e, n', d', hn, hd => by
    obtain ⟨n', rfl⟩ : ∃ q, n' = q + 1 := ⟨n' - 1, by omega⟩
    cases hat : zat (zmc y) pc with
    | none =>
      unfold zev at e
      rw [hat] at e
      cases e
    | some q =>
      obtain ⟨i, nx, k, yy, n9, c⟩ := q
      cases hst : zstep zcf xs pc i nx k yy n9 c L st h with
      | none =>
        unfold zev at e
        rw [hat] at e
        dsimp only at e
        rw [hst] at e
        cases e
      | some q =>
        rcases q with ⟨pc', L', st', h', dc, ds⟩ | ⟨y', as, r, nx'⟩ | ⟨r, dc, ds⟩
        · unfold zev at e ⊢
          rw [hat] at e ⊢
          dsimp only at e ⊢
          rw [hst] at e ⊢
          exact zev_up n _ _ _ _ _ _ _ _ _ e n' d' (by omega) hd
        · unfold zev at e ⊢
          rw [hat] at e ⊢
          dsimp only at e ⊢
          rw [hst] at e ⊢
          dsimp only at e ⊢
          cases d with
          | zero => cases e
          | succ d =>
            obtain ⟨d', rfl⟩ : ∃ q, d' = q + 1 := ⟨d' - 1, by omega⟩
            dsimp only at e ⊢
            cases hen : zen (zmL y') as with
            | none =>
              rw [hen] at e
              cases e
            | some L0 =>
              rw [hen] at e
              dsimp only at e ⊢
              cases hev : zev xs n d y' 0 L0 [] h nc ns with
              | none =>
                rw [hev] at e
                cases e
              | some q =>
                obtain ⟨r1, h1, nc1, ns1⟩ := q
                rw [hev] at e
                rw [zev_up n _ _ _ _ _ _ _ _ _ hev n' d' (by omega) (by omega)]
                cases r1 with
                | inl v =>
                  dsimp only at e ⊢
                  exact zev_up n _ _ _ _ _ _ _ _ _ e n' (d' + 1) (by omega) (by omega)
                | inr E =>
                  dsimp only at e ⊢
                  cases hnil : zmh y with
                  | nil =>
                    rw [hnil] at e
                    exact e
                  | cons z zs =>
                    rw [hnil] at e
                    dsimp only at e ⊢
                    cases hct : zcatch y pc E L with
                    | none =>
                      rw [hct] at e
                      cases e
                    | some q =>
                      rw [hct] at e
                      obtain ⟨pc2, L2⟩ := q
                      dsimp only at e ⊢
                      exact zev_up n _ _ _ _ _ _ _ _ _ e n' (d' + 1) (by omega) (by omega)
        · unfold zev at e ⊢
          rw [hat] at e ⊢
          dsimp only at e ⊢
          rw [hst] at e ⊢
          exact e
theorem zEs_of {xs : List Int32} {n D y pc nc ns : Nat} {L : zL} {st : List Value} {h : zH} {o : zO} {P : zO → Prop} (e : zev xs n D y pc L st h nc ns = some o) (g : P o) : zEs xs D y pc L st h nc ns P := ⟨o, n, g, fun d n' hd hn => zev_up n D y pc L st h nc ns o e n' d hn hd⟩
/-- reading the class's cells -/
def zxs (h : zH) (k : Nat) : Int32 := match h[([1, 1, 1, 6, 6, 6, 6, 6, 6, 15, 22, 29, 29, 29, 0, 0, 0, 0, 0] : List Nat).getD k 99]? with
  | some (_, vs) => (match vs[([2, 3, 4, 6, 7, 8, 9, 10, 11, 3, 3, 3, 4, 5, 7, 8, 9, 10, 11] : List Nat).getD k 99]? with
    | some (.int x) => x
    | _ => 0)
  | none => 0
def zxi (v : Value) : Int32 := match v with
  | .int x => x
  | _ => 0
def zxa (h : zH) (k : Nat) : List Int32 := match h[([3, 5, 8, 10, 12, 14, 17, 19, 21, 24, 26, 28, 31, 33, 35, 37, 39, 41, 43] : List Nat).getD k 99]? with
  | some (_, vs) => vs.map zxi
  | none => []
def znewok (o : Option zO) : Bool := match o with
  | some (.inl none, h, nc, ns) => decide (h = zx (zxs h) (zxa h) []) && decide (nc ≤ 100) && decide (ns ≤ 3000) && (List.range 19).all (fun k => decide ((zxa h k).length ≤ 1000)) && decide (zxs h 18 = 0) && decide (zxs h 4 = 0)
  | _ => false
set_option maxRecDepth 100000 in
theorem znew_ok : znewok (zev [] 60000 20 52 0 [some (.ref 0), none, none] [] [(5, (zcf 5).map (fun q => zdf q.2))] 1 12) = true := by decide +kernel
