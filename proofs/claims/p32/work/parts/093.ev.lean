/-! Runs of the abstract machine. -/
abbrev zO : Type := (Option Value ⊕ Nat) × zH × Nat × Nat
def zat : List zRow → Nat → Option (Instr × Nat × Nat × Nat × Nat × Nat)
  | [], _ => none
  | (q, x) :: r, pc => if q = pc then some x else zat r pc
def zex : List Value → zL
  | [] => []
  | v :: r => if zcat v then some v :: none :: zex r else some v :: zex r
def zen (nL : Nat) (as : List Value) : Option zL := if (zex as).length ≤ nL then some (zex as ++ List.replicate (nL - (zex as).length) none) else none
def zhf : List (Nat × Nat × Nat × Nat) → Nat → Nat → Option Nat
  | [], _, _ => none
  | (a, b, hp, ct) :: r, pc, E => if a ≤ pc ∧ pc < b ∧ zhe ct = E then some hp else zhf r pc E
def zkill (j : Nat) (L : zL) : Option zL := match zst1 .null j L with
  | some L1 => some (L1.set j none)
  | none => none
def zcatch (y pc E : Nat) (L : zL) : Option (Nat × zL) := match zhf (zmh y) pc E with
  | some hp => match zat (zmc y) hp with
    | some (.astore j, nx, _) => match zkill j L with
      | some L1 => some (nx, L1)
      | none => none
    | some (.astore_n j, nx, _) => match zkill j L with
      | some L1 => some (nx, L1)
      | none => none
    | _ => none
  | none => none
def zev (xs : List Int32) : Nat → Nat → Nat → Nat → zL → List Value → zH → Nat → Nat → Option zO
  | 0, _, _, _, _, _, _, _, _ => none
  | n + 1, d, y, pc, L, st, h, nc, ns => match zat (zmc y) pc with
    | none => none
    | some (i, nx, k, yy, n9, c) => match zstep zcf xs pc i nx k yy n9 c L st h with
      | none => none
      | some (.inl (pc', L', st', h', dc, ds)) => zev xs n d y pc' L' st' h' (nc + dc) (ns + ds)
      | some (.inr (.inr (r, dc, ds))) => some (r, h, nc + dc, ns + ds)
      | some (.inr (.inl (y', as, r, nx'))) => match d with
        | 0 => none
        | d' + 1 => match zen (zmL y') as with
          | none => none
          | some L0 => match zev xs n d' y' 0 L0 [] h nc ns with
            | some (.inl v, h', nc', ns') => zev xs n (d' + 1) y nx' L (v.toList ++ r) h' nc' ns'
            | some (.inr E, h', nc', ns') => match zmh y with
              | [] => some (.inr E, h', nc', ns')
              | _ :: _ => match zcatch y pc E L with
                | some (pc2, L2) => zev xs n (d' + 1) y pc2 L2 [] h' nc' ns'
                | none => none
            | none => none
theorem zat_mem {pc : Nat} {x : Instr × Nat × Nat × Nat × Nat × Nat} : ∀ {l : List zRow}, zat l pc = some x → (pc, x) ∈ l
  | [], h => by cases (show none = some x from h)
  | (q, x') :: r, h => by
    unfold zat at h
    split at h
    · next e =>
      subst e
      cases h
      exact List.mem_cons_self
    · exact List.mem_cons_of_mem _ (zat_mem h)
theorem zev_mono {xs : List Int32} : ∀ (n d y pc : Nat) (L : zL) (st : List Value) (h : zH) (nc ns : Nat) (r : Option Value ⊕ Nat) (h' : zH) (nc' ns' : Nat), zev xs n d y pc L st h nc ns = some (r, h', nc', ns') → nc ≤ nc' ∧ ns ≤ ns'
  | 0, d, y, pc, L, st, h, nc, ns, r, h', nc', ns', e => by cases (show none = some _ from e)
  | n + 1, d, y, pc, L, st, h, nc, ns, r, h', nc', ns', e => by
    unfold zev at e
    split at e
    · cases e
    · split at e
      · cases e
      · have := zev_mono n _ _ _ _ _ _ _ _ _ _ _ _ e
        omega
      · cases e
        omega
      · split at e
        · cases e
        · split at e
          · cases e
          · split at e
            · next e1 =>
              have h1 := zev_mono n _ _ _ _ _ _ _ _ _ _ _ _ e1
              have h2 := zev_mono n _ _ _ _ _ _ _ _ _ _ _ _ e
              omega
            · next e1 =>
              have h1 := zev_mono n _ _ _ _ _ _ _ _ _ _ _ _ e1
              split at e
              · cases e
                exact h1
              · split at e
                · have h2 := zev_mono n _ _ _ _ _ _ _ _ _ _ _ _ e
                  omega
                · cases e
            · cases e
