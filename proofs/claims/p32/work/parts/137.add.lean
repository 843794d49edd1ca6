/-! The reference: cells that come behind; lists that grow. -/
theorem zfs_mo {g g' : zG} {lg lg' k : Nat} {h h' : zH} {v : Value} (hp : g'.p = g.p) (hn : g'.zn = g.zn) (hl : zLE h h') (z : zga g lg h [] (zfs k) v) : zga g' lg' h' [] (zfs k) v := by
  have e : ∀ j, g'.p j = g.p j := fun j => by rw [hp]
  unfold zfs at z ⊢
  split at z <;> first
    | exact z
    | (obtain ⟨q, l, a, b, c, d⟩ := z; exact ⟨q, l, a, b, zLEz hl b c, d.trans hn.symm⟩)
    | exact (show v = _ from z).trans (congrArg Value.ref (e _).symm)
section ZAD
variable {xs : List Int32} {g g' : zG} {lg lg' : Nat} {h h' : zH} {D nc ns j : Nat}
theorem zHI_len (hI : zHI g lg h) : 73 ≤ h.length := by
  obtain ⟨l, p, -⟩ := hI.rows 72 101 128 0 1 rfl
  exact (List.getElem?_eq_some_iff.mp p).1
theorem ztake_mv (hI : zHI g lg h) (hk : ∀ q c, q < 44 → h[q]? = some c → h'[q]? = some c) : h'.take 44 = h.take 44 := by
  have hl := zHI_len hI
  refine List.ext_getElem? (fun q => ?_)
  rw [List.getElem?_take, List.getElem?_take]
  split
  · next hq =>
    rw [List.getElem?_eq_getElem (show q < h.length by omega)]
    exact hk q _ hq (List.getElem?_eq_getElem (by omega))
  · rfl
/-- a list that takes one more; or none, with the cells that were -/
theorem zHI_mvj {E : Nat → Option Nat} {dq' : Option Nat} (hI : zHI g lg h) (hj : j < g.nl) (hE : ∀ j, j < g.nl → 73 ≤ g.p j ∧ zLi h (g.p j) (zsz g lg j) (zQj j) (E j) ∧ (∀ q, E j = some q → 73 ≤ q) ∧ ∀ i, i < g.nl → i ≠ j → g.p i ≠ g.p j ∧ ∀ q, E j = some q → E i ≠ some q) (hs : g'.s = g.s) (ha : g'.a = g.a) (hf : g'.f = g.f) (hp : g'.p = g.p) (hn : g'.zn = g.zn) (hnl : g'.nl = g.nl) (hz : ∀ i, i < g.nl → i ≠ j → zsz g' lg' i = zsz g lg i) (hsz : g'.zs ≤ 24 ∧ g'.zw ≤ 24 ∧ lg' ≤ 40 ∧ ∀ j, g'.ze j ≤ 24)
    (hk : ∀ (q : Nat) c, h[q]? = some c → q ≠ g.p j → E j ≠ some q → h'[q]? = some c) (hnew : zLi h' (g.p j) (zsz g' lg' j) (zQj j) dq') (hdq : dq' = E j ∨ dq' = none ∨ ∃ q, dq' = some q ∧ h.length ≤ q) : zHI g' lg' h' ∧ zLE h h' := by
  have hlen := zHI_len hI
  have cellj : ∀ {i : Nat}, i < g.nl → ∃ ws, h[g.p i]? = some (10, ws) := by
    intro i hi
    obtain ⟨es, z, -⟩ := (hE i hi).2.1
    obtain ⟨a, b, z⟩ := zLs_size z
    exact ⟨_, z⟩
  have datj : ∀ {i q : Nat}, i < g.nl → E i = some q → ∃ ws, h[q]? = some (103, ws) := by
    intro i q hi e
    obtain ⟨es, ⟨m, z⟩, -⟩ := (hE i hi).2.1
    rw [e] at z
    obtain ⟨vs, z1, z2, -⟩ := z
    exact ⟨_, z2⟩
  have low : ∀ q c, q < 73 → h[q]? = some c → h'[q]? = some c := fun q c hq e => hk q c e (fun z => by have := (hE j hj).1; omega) (fun z => by have := (hE j hj).2.2.1 q z; omega)
  have hLE : zLE h h' := fun q l _ e t1 t2 => hk q _ e (fun z => by
    obtain ⟨ws, w⟩ := cellj hj
    rw [← z, e] at w
    cases w
    exact t1 rfl) (fun z => by
    obtain ⟨ws, w⟩ := datj hj z
    rw [e] at w
    cases w
    exact t2 rfl)
  have hdl : ∀ {i q : Nat}, i < g.nl → E i = some q → q < h.length := by
    intro i q hi e
    obtain ⟨ws, w⟩ := datj hi e
    exact (List.getElem?_eq_some_iff.mp w).1
  refine ⟨⟨?_, ?_, ?_, ?_, ?_, ?_, ?_⟩, hLE⟩
  · rw [hs, ha, ztake_mv hI (fun q c hq e => low q c (by omega) e)]
    exact hI.cls
  · obtain ⟨vs, m1, m2, m3, m4⟩ := hI.obj
    refine ⟨vs, low _ _ (by decide) m1, m2, fun k hk => ?_, fun k hk => ?_⟩
    · obtain ⟨v, v1, v2⟩ := m3 k hk
      exact ⟨v, v1, zfs_mo hp hn hLE v2⟩
    · rw [hf]
      exact m4 k hk
  · exact low _ _ (by decide) hI.outer
  · intro q t n lo hi e
    obtain ⟨l, p1, p2, p3⟩ := hI.rows q t n lo hi e
    have := zsp_b e
    exact ⟨l, low _ _ (by omega) p1, p2, p3⟩
  · refine ⟨fun i => if i = j then dq' else E i, fun i hi => ?_⟩
    rw [hnl] at hi
    rw [hp, hnl]
    obtain ⟨k1, k2, k3, k4⟩ := hE i hi
    by_cases e : i = j
    · subst e
      dsimp only
      rw [if_pos rfl]
      refine ⟨k1, hnew, fun q z => ?_, fun i2 hi2 ne => ⟨(k4 i2 hi2 ne).1, fun q z => ?_⟩⟩
      · rcases hdq with hdq | hdq | ⟨q2, hdq, hq2⟩
        · rw [hdq] at z
          exact k3 q z
        · rw [hdq] at z
          cases z
        · rw [hdq] at z
          cases z
          omega
      · rw [if_neg ne]
        intro z2
        rcases hdq with hdq | hdq | ⟨q2, hdq, hq2⟩
        · rw [hdq] at z
          exact (k4 i2 hi2 ne).2 q z z2
        · rw [hdq] at z
          cases z
        · rw [hdq] at z
          cases z
          have := hdl hi2 z2
          omega
    · dsimp only
      rw [if_neg e]
      refine ⟨k1, ?_, k3, fun i2 hi2 ne => ⟨(k4 i2 hi2 ne).1, fun q z => ?_⟩⟩
      · rw [hz i hi e]
        obtain ⟨es, ⟨m, z⟩, y2, y3⟩ := k2
        have nj := (k4 j hj (fun z => e z.symm)).1
        have keep : ∀ c, h[g.p i]? = some c → h'[g.p i]? = some c := fun c ec => hk _ c ec (fun z => nj z.symm) (fun z => by
          obtain ⟨w1, w2⟩ := datj hj z
          obtain ⟨w3, w4⟩ := cellj hi
          rw [w2] at w4
          cases w4)
        refine ⟨es, ⟨m, ?_⟩, y2, fun e9 he9 => ?_⟩
        · cases hEi : E i with
          | none =>
            rw [hEi] at z
            exact ⟨z.1, keep _ z.2⟩
          | some q =>
            rw [hEi] at z
            obtain ⟨vs, z1, z2, z3⟩ := z
            exact ⟨vs, keep _ z1, hk q _ z2 (fun z => by
              obtain ⟨w3, w4⟩ := cellj hj
              rw [← z, z2] at w4
              cases w4) (fun z => (k4 j hj (fun z => e z.symm)).2 q hEi z), z3⟩
        · obtain ⟨a, l, b, c⟩ := y3 e9 he9
          exact ⟨a, l, zLEz hLE a b, c⟩
      · by_cases e2 : i2 = j
        · subst e2
          rw [if_pos rfl]
          intro z2
          rcases hdq with hdq | hdq | ⟨q2, hdq, hq2⟩
          · rw [hdq] at z2
            exact (k4 i2 hi2 ne).2 q z z2
          · rw [hdq] at z2
            cases z2
          · rw [hdq] at z2
            cases z2
            have := hdl hi z
            omega
        · rw [if_neg e2]
          exact (k4 i2 hi2 ne).2 q z
  · rw [hf, hn]
    exact hI.bits
  · have := hI.sizes
    rw [hn, hnl]
    exact ⟨hsz.1, hsz.2.1, hsz.2.2.1, this.2.2.2.1, this.2.2.2.2.1, this.2.2.2.2.2.1, hsz.2.2.2⟩
theorem zLi_mv {r n : Nat} {Q : List Int32 → Prop} {dq : Option Nat} (hk : ∀ (q : Nat) c, h[q]? = some c → h'[q]? = some c) (k : zLi h r n Q dq) : zLi h' r n Q dq := by
  obtain ⟨es, ⟨m, k1⟩, k2, k3⟩ := k
  refine ⟨es, ⟨m, ?_⟩, k2, fun e he => ?_⟩
  · cases dq with
    | none => exact ⟨k1.1, hk _ _ k1.2⟩
    | some q =>
      obtain ⟨vs, a1, a2, a3⟩ := k1
      exact ⟨vs, hk _ _ a1, hk _ _ a2, a3⟩
  · obtain ⟨a, l, b, c⟩ := k3 e he
    exact ⟨a, l, hk _ _ b, c⟩
theorem zHI_mv (hI : zHI g lg h) (hk : ∀ (q : Nat) c, h[q]? = some c → h'[q]? = some c) : zHI g lg h' ∧ zLE h h' := by
  obtain ⟨E, k⟩ := hI.lists
  have hz := hI.sizes
  have h0 : 0 < g.nl := by omega
  exact zHI_mvj (j := 0) hI h0 k rfl rfl rfl rfl rfl rfl (fun _ _ _ => rfl) ⟨hz.1, hz.2.1, hz.2.2.1, hz.2.2.2.2.2.2⟩ (fun q c e _ _ => hk q c e) (zLi_mv hk (k 0 h0).2.1) (Or.inl rfl)
theorem zapp_mv (X : zH) : ∀ (q : Nat) c, h[q]? = some c → (h ++ X)[q]? = some c := fun q c e => by
  rw [List.getElem?_append_left (List.getElem?_eq_some_iff.mp e).1]
  exact e
end ZAD
