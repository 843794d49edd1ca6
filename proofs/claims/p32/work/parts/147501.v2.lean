/-! Partial runs: whatever a run of at most N steps comes to, satisfies P. No ends and no bounds are told here: those come from zMs. -/
def zpE (xs : List Int32) (N y pc : Nat) (L : zL) (st : List Value) (h : zH) (nc ns : Nat) (P : zO → Prop) : Prop := ∀ n, n ≤ N → ∀ (d : Nat) (o : zO), zev xs n d y pc L st h nc ns = some o → P o
/-- a whole call -/
def zpM (xs : List Int32) (N y : Nat) (as : List Value) (h : zH) (nc ns : Nat) (P : zO → Prop) : Prop := ∀ L0, zen (zmL y) as = some L0 → zpE xs N y 0 L0 [] h nc ns P
section ZPE
variable {xs : List Int32} {N D y pc nx k yy m c tg : Nat} {i : Instr} {L : zL} {st : List Value} {h : zH} {nc ns : Nat} {P P' : zO → Prop}
theorem zMs_and {as : List Value} (g : zMs xs D y as h nc ns P) (k : ∀ N, zpM xs N y as h nc ns P') : zMs xs D y as h nc ns (fun o => P o ∧ P' o) := by
  obtain ⟨L0, e, o, N, p, q⟩ := g
  exact ⟨L0, e, o, N, ⟨p, k N L0 e N (Nat.le_refl _) D o (q D N (Nat.le_refl _) (Nat.le_refl _))⟩, q⟩
theorem zpE_post (g : zpE xs N y pc L st h nc ns P) (w : ∀ o, P o → P' o) : zpE xs N y pc L st h nc ns P' := fun n hn d o e => w o (g n hn d o e)
theorem zpM_post {as : List Value} (w : ∀ o, P o → P' o) (g : zpM xs N y as h nc ns P) : zpM xs N y as h nc ns P' := fun L0 e => zpE_post (g L0 e) w
theorem zpE_0 : zpE xs 0 y pc L st h nc ns P := fun n hn d o e => by
  obtain rfl : n = 0 := by omega
  cases e
theorem zpE_le {N' : Nat} (hN : N' ≤ N) (g : zpE xs N y pc L st h nc ns P) : zpE xs N' y pc L st h nc ns P := fun n hn => g n (by omega)
/-- a step, whatever it is: 1 of the bound goes -/
theorem zpE_st1 (h1 : zat (zmc y) pc = some (i, nx, k, yy, m, c)) (h2 : ∀ pc' L' st' h' dc ds, zstep zcf xs pc i nx k yy m c L st h = some (.inl (pc', L', st', h', dc, ds)) → zpE xs N y pc' L' st' h' (nc + dc) (ns + ds) P)
    (h3 : ∀ r, zstep zcf xs pc i nx k yy m c L st h ≠ some (.inr r)) : zpE xs (N + 1) y pc L st h nc ns P := by
  intro n hn d o e
  cases n with
  | zero => cases e
  | succ n =>
    unfold zev at e
    rw [h1] at e
    dsimp only at e
    split at e
    · cases e
    · next q => exact h2 _ _ _ _ _ _ q n (by omega) d o e
    · next q => exact absurd q (h3 _)
    · next q => exact absurd q (h3 _)
theorem zpE_step1 {pc' dc ds : Nat} {L' : zL} {st' : List Value} {h' : zH} (h1 : zat (zmc y) pc = some (i, nx, k, yy, m, c)) (h2 : zstep zcf xs pc i nx k yy m c L st h = some (.inl (pc', L', st', h', dc, ds))) (h3 : zpE xs N y pc' L' st' h' (nc + dc) (ns + ds) P) : zpE xs (N + 1) y pc L st h nc ns P :=
  zpE_st1 h1 (fun _ _ _ _ _ _ e => by
    rw [h2] at e
    cases e
    exact h3) (fun r e => by
    rw [h2] at e
    cases e)
theorem zpE_step {pc' dc ds : Nat} {L' : zL} {st' : List Value} {h' : zH} (h1 : zat (zmc y) pc = some (i, nx, k, yy, m, c)) (h2 : zstep zcf xs pc i nx k yy m c L st h = some (.inl (pc', L', st', h', dc, ds))) (h3 : zpE xs N y pc' L' st' h' (nc + dc) (ns + ds) P) : zpE xs N y pc L st h nc ns P :=
  zpE_le (Nat.le_succ _) (zpE_step1 h1 h2 h3)
theorem zpE_run : ∀ (n : Nat) {pc pc' nc ns nc' ns' : Nat} {L L' : zL} {st st' : List Value} {h h' : zH}, zrun xs y n pc L st h nc ns = some (pc', L', st', h', nc', ns') → zpE xs N y pc' L' st' h' nc' ns' P → zpE xs N y pc L st h nc ns P
  | 0, pc, pc', nc, ns, nc', ns', L, L', st, st', h, h', e, k => by
    cases (show some _ = some _ from e)
    exact k
  | n + 1, pc, pc', nc, ns, nc', ns', L, L', st, st', h, h', e, k => by
    unfold zrun at e
    split at e
    · cases e
    · next h1 =>
      split at e
      · next h2 => exact zpE_step h1 h2 (zpE_run n e k)
      · cases e
/-- the first of n + 1 steps takes 1 of the bound: a loop's body begins so -/
theorem zpE_run1 (n : Nat) {pc pc' nc ns nc' ns' : Nat} {L L' : zL} {st st' : List Value} {h h' : zH} (e : zrun xs y (n + 1) pc L st h nc ns = some (pc', L', st', h', nc', ns')) (k : zpE xs N y pc' L' st' h' nc' ns' P) : zpE xs (N + 1) y pc L st h nc ns P := by
  unfold zrun at e
  split at e
  · cases e
  · next h1 =>
    split at e
    · next h2 => exact zpE_step1 h1 h2 (zpE_run n e k)
    · cases e
theorem zpE_end {dc ds : Nat} {r : Option Value ⊕ Nat} (h1 : zat (zmc y) pc = some (i, nx, k, yy, m, c)) (h2 : zstep zcf xs pc i nx k yy m c L st h = some (.inr (.inr (r, dc, ds)))) (h3 : P (r, h, nc + dc, ns + ds)) : zpE xs N y pc L st h nc ns P := by
  intro n hn d o e
  cases n with
  | zero => cases e
  | succ n =>
    unfold zev at e
    rw [h1] at e
    dsimp only at e
    rw [h2] at e
    cases e
    exact h3
/-- a call -/
theorem zpE_call {y' nx' : Nat} {as r : List Value} {P1 : zO → Prop} (e1 : zat (zmc y) pc = some (i, nx, k, yy, m, c)) (e2 : zstep zcf xs pc i nx k yy m c L st h = some (.inr (.inl (y', as, r, nx')))) (e3 : zpM xs N y' as h nc ns P1)
    (kv : ∀ v h1 nc1 ns1, P1 (.inl v, h1, nc1, ns1) → zpE xs N y nx' L (v.toList ++ r) h1 nc1 ns1 P)
    (kx : ∀ E h1 nc1 ns1, P1 (.inr E, h1, nc1, ns1) → (zmh y = [] → P (.inr E, h1, nc1, ns1)) ∧ ∀ pc2 L2, zcatch y pc E L = some (pc2, L2) → zpE xs N y pc2 L2 [] h1 nc1 ns1 P) : zpE xs N y pc L st h nc ns P := by
  intro n hn d o e
  cases n with
  | zero => cases e
  | succ n =>
    unfold zev at e
    rw [e1] at e
    dsimp only at e
    rw [e2] at e
    dsimp only at e
    split at e
    · cases e
    · split at e
      · cases e
      · next q =>
        split at e
        · next q2 => exact kv _ _ _ _ (e3 _ q n (by omega) _ _ q2) n (by omega) _ _ e
        · next q2 =>
          have K := kx _ _ _ _ (e3 _ q n (by omega) _ _ q2)
          split at e
          · next q3 =>
            cases e
            exact K.1 q3
          · split at e
            · next q4 => exact K.2 _ _ q4 n (by omega) _ _ e
            · cases e
        · cases e
theorem zpE_icmp {q : ClassFile.Cond} {o : Int} {x z : Int32} {r : List Value} (h1 : zat (zmc y) pc = some (.if_icmp q o, nx, tg, yy, m, c)) (kt : zcq q x z → zpE xs N y tg L r h nc ns P) (kf : zcn9 q x z → zpE xs N y nx L r h nc ns P) : zpE xs N y pc L (.int z :: .int x :: r) h nc ns P := by
  rcases zcq_em q x z with g | g
  · exact zpE_step h1 (zbr_t g) (kt g)
  · exact zpE_step h1 (zbr_f g) (kf g)
theorem zpE_if {q : ClassFile.Cond} {o : Int} {x : Int32} {r : List Value} (h1 : zat (zmc y) pc = some (.ifCond q o, nx, tg, yy, m, c)) (kt : zcq q x 0 → zpE xs N y tg L r h nc ns P) (kf : zcn9 q x 0 → zpE xs N y nx L r h nc ns P) : zpE xs N y pc L (.int x :: r) h nc ns P := by
  rcases zcq_em q x 0 with g | g
  · exact zpE_step h1 (zbr_t g) (kt g)
  · exact zpE_step h1 (zbr_f g) (kf g)
end ZPE
