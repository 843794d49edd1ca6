section zg0
/-! The reference: cells that come behind; lists that grow. -/
theorem zfs_mo {g g' : zG} {lg lg' k : Nat} {h h' : zH} {v : Value} (hp : g'.p = g.p) (hn : g'.zn = g.zn) (hl : zLE h h') (z : zga g lg h [] (zfs k) v) : zga g' lg' h' [] (zfs k) v := by
  have e : ∀ j, g'.p j = g.p j := fun j => by rw [hp]
  unfold zfs at z ⊢
  split at z <;> first
    | exact z
    | (obtain ⟨q, l, a, b, c, d⟩ := z; exact ⟨q, l, a, b, zLEz hl b c, d.trans hn.symm⟩)
    | exact (show v = _ from z).trans (congrArg Value.ref (e _).symm)
section ZAD
variable {xs : List Int32} {g g' : zG} {lg lg' : Nat} {h h' : zH} {D nc ns j : Nat}
theorem zHI_len (hI : zHI g lg h) : 73 ≤ h.length := by
  obtain ⟨l, p, -⟩ := hI.rows 72 101 128 0 1 rfl
  exact (List.getElem?_eq_some_iff.mp p).1
theorem ztake_mv (hI : zHI g lg h) (hk : ∀ q c, q < 44 → h[q]? = some c → h'[q]? = some c) : h'.take 44 = h.take 44 := by
  have hl := zHI_len hI
  refine List.ext_getElem? (fun q => ?_)
  rw [List.getElem?_take, List.getElem?_take]
  split
  · next hq =>
    rw [List.getElem?_eq_getElem (show q < h.length by omega)]
    exact hk q _ hq (List.getElem?_eq_getElem (by omega))
  · rfl
/-- a list that takes one more; or none, with the cells that were -/
theorem zHI_mvj {E : Nat → Option Nat} {dq' : Option Nat} (hI : zHI g lg h) (hj : j < g.nl) (hE : ∀ j, j < g.nl → 73 ≤ g.p j ∧ zLi h (g.p j) (zsz g lg j) (zQj j) (E j) ∧ (∀ q, E j = some q → 73 ≤ q) ∧ ∀ i, i < g.nl → i ≠ j → g.p i ≠ g.p j ∧ ∀ q, E j = some q → E i ≠ some q) (hs : g'.s = g.s) (ha : g'.a = g.a) (hf : g'.f = g.f) (hp : g'.p = g.p) (hn : g'.zn = g.zn) (hnl : g'.nl = g.nl) (hz : ∀ i, i < g.nl → i ≠ j → zsz g' lg' i = zsz g lg i) (hsz : g'.zs ≤ 24 ∧ g'.zw ≤ 24 ∧ lg' ≤ 40 ∧ ∀ j, g'.ze j ≤ 24)
    (hk : ∀ (q : Nat) c, h[q]? = some c → q ≠ g.p j → E j ≠ some q → h'[q]? = some c) (hnew : zLi h' (g.p j) (zsz g' lg' j) (zQj j) dq') (hdq : dq' = E j ∨ dq' = none ∨ ∃ q, dq' = some q ∧ h.length ≤ q) : zHI g' lg' h' ∧ zLE h h' := by
  have hlen := zHI_len hI
  have cellj : ∀ {i : Nat}, i < g.nl → ∃ ws, h[g.p i]? = some (10, ws) := by
    intro i hi
    obtain ⟨es, z, -⟩ := (hE i hi).2.1
    obtain ⟨a, b, z⟩ := zLs_size z
    exact ⟨_, z⟩
  have datj : ∀ {i q : Nat}, i < g.nl → E i = some q → ∃ ws, h[q]? = some (103, ws) := by
    intro i q hi e
    obtain ⟨es, ⟨m, z⟩, -⟩ := (hE i hi).2.1
    rw [e] at z
    obtain ⟨vs, z1, z2, -⟩ := z
    exact ⟨_, z2⟩
  have low : ∀ q c, q < 73 → h[q]? = some c → h'[q]? = some c := fun q c hq e => hk q c e (fun z => by have := (hE j hj).1; omega) (fun z => by have := (hE j hj).2.2.1 q z; omega)
  have hLE : zLE h h' := fun q l _ e t1 t2 => hk q _ e (fun z => by
    obtain ⟨ws, w⟩ := cellj hj
    rw [← z, e] at w
    cases w
    exact t1 rfl) (fun z => by
    obtain ⟨ws, w⟩ := datj hj z
    rw [e] at w
    cases w
    exact t2 rfl)
  have hdl : ∀ {i q : Nat}, i < g.nl → E i = some q → q < h.length := by
    intro i q hi e
    obtain ⟨ws, w⟩ := datj hi e
    exact (List.getElem?_eq_some_iff.mp w).1
  refine ⟨⟨?_, ?_, ?_, ?_, ?_, ?_, ?_⟩, hLE⟩
  · rw [hs, ha, ztake_mv hI (fun q c hq e => low q c (by omega) e)]
    exact hI.cls
  · obtain ⟨vs, m1, m2, m3, m4⟩ := hI.obj
    refine ⟨vs, low _ _ (by decide) m1, m2, fun k hk => ?_, fun k hk => ?_⟩
    · obtain ⟨v, v1, v2⟩ := m3 k hk
      exact ⟨v, v1, zfs_mo hp hn hLE v2⟩
    · rw [hf]
      exact m4 k hk
  · exact low _ _ (by decide) hI.outer
  · intro q t n lo hi e
    obtain ⟨l, p1, p2, p3⟩ := hI.rows q t n lo hi e
    have := zsp_b e
    exact ⟨l, low _ _ (by omega) p1, p2, p3⟩
  · refine ⟨fun i => if i = j then dq' else E i, fun i hi => ?_⟩
    rw [hnl] at hi
    rw [hp, hnl]
    obtain ⟨k1, k2, k3, k4⟩ := hE i hi
    by_cases e : i = j
    · subst e
      dsimp only
      rw [if_pos rfl]
      refine ⟨k1, hnew, fun q z => ?_, fun i2 hi2 ne => ⟨(k4 i2 hi2 ne).1, fun q z => ?_⟩⟩
      · rcases hdq with hdq | hdq | ⟨q2, hdq, hq2⟩
        · rw [hdq] at z
          exact k3 q z
        · rw [hdq] at z
          cases z
        · rw [hdq] at z
          cases z
          omega
      · rw [if_neg ne]
        intro z2
        rcases hdq with hdq | hdq | ⟨q2, hdq, hq2⟩
        · rw [hdq] at z
          exact (k4 i2 hi2 ne).2 q z z2
        · rw [hdq] at z
          cases z
        · rw [hdq] at z
          cases z
          have := hdl hi2 z2
          omega
    · dsimp only
      rw [if_neg e]
      refine ⟨k1, ?_, k3, fun i2 hi2 ne => ⟨(k4 i2 hi2 ne).1, fun q z => ?_⟩⟩
      · rw [hz i hi e]
        obtain ⟨es, ⟨m, z⟩, y2, y3⟩ := k2
        have nj := (k4 j hj (fun z => e z.symm)).1
        have keep : ∀ c, h[g.p i]? = some c → h'[g.p i]? = some c := fun c ec => hk _ c ec (fun z => nj z.symm) (fun z => by
          obtain ⟨w1, w2⟩ := datj hj z
          obtain ⟨w3, w4⟩ := cellj hi
          rw [w2] at w4
          cases w4)
        refine ⟨es, ⟨m, ?_⟩, y2, fun e9 he9 => ?_⟩
        · cases hEi : E i with
          | none =>
            rw [hEi] at z
            exact ⟨z.1, keep _ z.2⟩
          | some q =>
            rw [hEi] at z
            obtain ⟨vs, z1, z2, z3⟩ := z
            exact ⟨vs, keep _ z1, hk q _ z2 (fun z => by
              obtain ⟨w3, w4⟩ := cellj hj
              rw [← z, z2] at w4
              cases w4) (fun z => (k4 j hj (fun z => e z.symm)).2 q hEi z), z3⟩
        · obtain ⟨a, l, b, c⟩ := y3 e9 he9
          exact ⟨a, l, zLEz hLE a b, c⟩
      · by_cases e2 : i2 = j
        · subst e2
          rw [if_pos rfl]
          intro z2
          rcases hdq with hdq | hdq | ⟨q2, hdq, hq2⟩
          · rw [hdq] at z2
            exact (k4 i2 hi2 ne).2 q z z2
          · rw [hdq] at z2
            cases z2
          · rw [hdq] at z2
            cases z2
            have := hdl hi z
            omega
        · rw [if_neg e2]
          exact (k4 i2 hi2 ne).2 q z
  · rw [hf, hn]
    exact hI.bits
  · have := hI.sizes
    rw [hn, hnl]
    exact ⟨hsz.1, hsz.2.1, hsz.2.2.1, this.2.2.2.1, this.2.2.2.2.1, this.2.2.2.2.2.1, hsz.2.2.2⟩
theorem zLi_mv {r n : Nat} {Q : List Int32 → Prop} {dq : Option Nat} (hk : ∀ (q : Nat) c, h[q]? = some c → h'[q]? = some c) (k : zLi h r n Q dq) : zLi h' r n Q dq := by
  obtain ⟨es, ⟨m, k1⟩, k2, k3⟩ := k
  refine ⟨es, ⟨m, ?_⟩, k2, fun e he => ?_⟩
  · cases dq with
    | none => exact ⟨k1.1, hk _ _ k1.2⟩
    | some q =>
      obtain ⟨vs, a1, a2, a3⟩ := k1
      exact ⟨vs, hk _ _ a1, hk _ _ a2, a3⟩
  · obtain ⟨a, l, b, c⟩ := k3 e he
    exact ⟨a, l, hk _ _ b, c⟩
theorem zHI_mv (hI : zHI g lg h) (hk : ∀ (q : Nat) c, h[q]? = some c → h'[q]? = some c) : zHI g lg h' ∧ zLE h h' := by
  obtain ⟨E, k⟩ := hI.lists
  have hz := hI.sizes
  have h0 : 0 < g.nl := by omega
  exact zHI_mvj (j := 0) hI h0 k rfl rfl rfl rfl rfl rfl (fun _ _ _ => rfl) ⟨hz.1, hz.2.1, hz.2.2.1, hz.2.2.2.2.2.2⟩ (fun q c e _ _ => hk q c e) (zLi_mv hk (k 0 h0).2.1) (Or.inl rfl)
theorem zapp_mv (X : zH) : ∀ (q : Nat) c, h[q]? = some c → (h ++ X)[q]? = some c := fun q c e => by
  rw [List.getElem?_append_left (List.getElem?_eq_some_iff.mp e).1]
  exact e
/-- add -/
theorem zadd {e : Nat} {l : List Int32} (hI : zHI g lg h) (hj : j < g.nl) (he : 73 ≤ e) (hel : h[e]? = some (zar l)) (hQ : zQj j l) (hs : g'.s = g.s) (ha : g'.a = g.a) (hf : g'.f = g.f) (hp : g'.p = g.p) (hn : g'.zn = g.zn) (hnl : g'.nl = g.nl) (hz : ∀ i, i < g.nl → i ≠ j → zsz g' lg' i = zsz g lg i) (hzj : zsz g' lg' j = zsz g lg j + 1) (hsz : g'.zs ≤ 24 ∧ g'.zw ≤ 24 ∧ lg' ≤ 40 ∧ ∀ j, g'.ze j ≤ 24) : zMs xs (D + 5) 237 [.ref (g.p j), .ref e] h nc ns (fun o => ∃ h' nc' ns', o = (.inl (some (.int 1)), h', nc', ns') ∧ zHI g' lg' h' ∧ zLE h h' ∧ h.length ≤ h'.length ∧ nc' ≤ nc + 1 ∧ ns' ≤ ns + 91) := by
  obtain ⟨E, k⟩ := hI.lists
  obtain ⟨es, k1, k2, k3⟩ := (k j hj).2.1
  have hle : zsz g lg j ≤ 39 := by
    unfold zsz at hzj ⊢
    split at hzj <;> first
      | omega
      | (have := hsz.2.2.2 j; omega)
  refine zMs_post (fun o ho => ?_) (m_237 k1 hel (fun x hx => ?_) (by omega))
  · obtain ⟨h', dq', nc', ns', rfl, a1, a2, a3, a4, a5, a6⟩ := ho
    have hm := zHI_mvj (g' := g') (lg' := lg') (h' := h') (dq' := dq') hI hj k hs ha hf hp hn hnl hz hsz (fun q c e1 e2 e3 => (a6 q (List.getElem?_eq_some_iff.mp e1).1 e2 e3).trans e1) ⟨es ++ [e], a1, by rw [List.length_append, hzj, k2]; rfl, fun x hx => ?_⟩ (by
      rcases a2 with a2 | a2
      · exact Or.inl a2
      · exact Or.inr (Or.inr ⟨_, a2, Nat.le_refl _⟩))
    · exact ⟨h', nc', ns', rfl, hm.1, hm.2, a3, a4, by omega⟩
    · have hfr : ∀ (q : Nat) l, h[q]? = some (zar l) → h'[q]? = some (zar l) := by
        intro q l eq
        refine (a6 q (List.getElem?_eq_some_iff.mp eq).1 (fun z => ?_) (fun z => ?_)).trans eq
        · obtain ⟨a, b, w⟩ := zLs_size k1
          rw [← z, eq] at w
          cases w
        · obtain ⟨m, w⟩ := k1
          rw [z] at w
          obtain ⟨vs, -, w, -⟩ := w
          rw [eq] at w
          cases w
      rcases List.mem_append.mp hx with hx | hx
      · obtain ⟨p1, l2, p2, p3⟩ := k3 x hx
        exact ⟨p1, l2, hfr _ _ p2, p3⟩
      · have hx : x = e := by simpa using hx
        subst hx
        exact ⟨he, l, hfr _ _ hel, hQ⟩
  · obtain ⟨-, l2, p2, -⟩ := k3 x hx
    exact ⟨_, p2⟩
end ZAD
end zg0
section zg1
/-! The reference's methods, by hand: rules; note, open-up of a line. -/
def ce_note : List zCe := [(0, [(.inl 22)], (0, 0), [(.inr (.inr (.inl (44, 44)))), zIA, zIA], []),
  (1, [(.inl 21)], (0, 0), [(.inr (.inr (.inl (44, 44)))), zIA, zIA], [(.inr (.inr (.inl (44, 44))))]),
  (2, [(.inl 20)], (0, 0), [(.inr (.inr (.inl (44, 44)))), zIA, zIA], [(.inr (.inr (.inl (44, 44)))), (.inr (.inr (.inl (44, 44))))]),
  (5, [(.inl 19)], (0, 0), [(.inr (.inr (.inl (44, 44)))), zIA, zIA], [zIA, (.inr (.inr (.inl (44, 44))))]),
  (6, [(.inl 18)], (0, 0), [(.inr (.inr (.inl (44, 44)))), zIA, zIA], [(.inl ((-2147483648), 2147483647, 0, 3)), zIA, (.inr (.inr (.inl (44, 44))))]),
  (7, [(.inl 17)], (0, 0), [(.inr (.inr (.inl (44, 44)))), zIA, zIA], [(.inl ((-1), (-1), 0, 0)), (.inl ((-2147483648), 2147483647, 0, 3)), zIA, (.inr (.inr (.inl (44, 44))))]),
  (10, [(.inl 16)], (0, 0), [(.inr (.inr (.inl (44, 44)))), zIA, (.inl ((-1), (-1), 0, 0))], [zIA, (.inr (.inr (.inl (44, 44))))]),
  (11, [(.inl 15)], (0, 0), [(.inr (.inr (.inl (44, 44)))), zIA, (.inl ((-1), (-1), 0, 0))], [(.inl (0, 0, 0, 0)), zIA, (.inr (.inr (.inl (44, 44))))]),
  (14, [(.inl 14)], (0, 0), [(.inr (.inr (.inl (44, 44)))), zIA, zIA], [zIA, (.inr (.inr (.inl (44, 44))))]),
  (15, [(.inl 13)], (0, 0), [(.inr (.inr (.inl (44, 44)))), zIA, zIA], [(.inl (0, 1, 0, 0)), zIA, (.inr (.inr (.inl (44, 44))))]),
  (16, [(.inl 12)], (0, 0), [(.inr (.inr (.inl (44, 44)))), zIA, zIA], [zIA, (.inr (.inr (.inl (44, 44))))]),
  (19, [(.inl 11)], (0, 0), [(.inr (.inr (.inl (44, 44)))), zIA, zIA], []),
  (20, [(.inl 10)], (0, 0), [(.inr (.inr (.inl (44, 44)))), zIA, zIA], [(.inr (.inr (.inl (44, 44))))]),
  (21, [(.inl 9)], (0, 0), [(.inr (.inr (.inl (44, 44)))), zIA, zIA], [(.inr (.inr (.inl (44, 44)))), (.inr (.inr (.inl (44, 44))))]),
  (24, [(.inl 8)], (0, 0), [(.inr (.inr (.inl (44, 44)))), zIA, zIA], [zIA, (.inr (.inr (.inl (44, 44))))]),
  (25, [(.inl 7)], (0, 0), [(.inr (.inr (.inl (44, 44)))), zIA, zIA], [(.inl ((-2147483648), 2147483647, 0, 3)), zIA, (.inr (.inr (.inl (44, 44))))]),
  (26, [(.inl 6)], (0, 0), [(.inr (.inr (.inl (44, 44)))), zIA, zIA], [(.inl ((-1), (-1), 0, 0)), (.inl ((-2147483648), 2147483647, 0, 3)), zIA, (.inr (.inr (.inl (44, 44))))]),
  (29, [(.inl 5)], (0, 0), [(.inr (.inr (.inl (44, 44)))), zIA, (.inl ((-1), (-1), 0, 0))], [zIA, (.inr (.inr (.inl (44, 44))))]),
  (30, [(.inl 4)], (0, 0), [(.inr (.inr (.inl (44, 44)))), zIA, (.inl ((-1), (-1), 0, 0))], [(.inl (1, 1, 0, 0)), zIA, (.inr (.inr (.inl (44, 44))))]),
  (33, [(.inl 3)], (0, 0), [(.inr (.inr (.inl (44, 44)))), zIA, zIA], [zIA, (.inr (.inr (.inl (44, 44))))]),
  (34, [(.inl 2)], (0, 0), [(.inr (.inr (.inl (44, 44)))), zIA, zIA], [(.inl (0, 1, 0, 0)), zIA, (.inr (.inr (.inl (44, 44))))]),
  (35, [(.inl 1)], (0, 0), [(.inr (.inr (.inl (44, 44)))), zIA, zIA], [zIA, (.inr (.inr (.inl (44, 44))))]),
  (38, [(.inl 0)], (0, 0), [(.inr (.inr (.inl (44, 44)))), zIA, zIA], [])]
def cs_note : List zCt := []
theorem gs_note {xs : List Int32} : ∀ ct ∈ cs_note, zGd xs ct := fun _ h => absurd h List.not_mem_nil
def ct_130 : zCt := (130, [(.inr (.inr (.inl (44, 44)))), zIA, zIA], none, 10, 0, 0)
section ZHB
variable {xs : List Int32} {g : zG} {lg : Nat} {h : zH} {D nc ns y pc nx k yy m c nx' : Nat} {A S : List zTy} {L : zL} {st as r : List Value} {P : zO → Prop} {i : Instr} {t : zTy} {a b : Int} {tt s q j : Nat}
theorem zgl_P (k : zgl g lg h ((.inr (.inr (.inl (q, q)))) :: A) L) : ∃ L', L = some (.ref q) :: L' ∧ zgl g lg h A L' := by
  match L, k with
  | o :: L', k =>
    rcases k.1 with e | ⟨v, rfl, e⟩
    · cases e
    · obtain rfl := zP_eq e
      exact ⟨L', rfl, k.2⟩
  | [], k => exact k.elim
theorem zgl_I (k : zgl g lg h ((.inl (a, b, tt, s)) :: A) L) : ∃ (x : Int32) (L' : zL), L = some (.int x) :: L' ∧ a ≤ x.toInt ∧ x.toInt ≤ b ∧ zgl g lg h A L' := by
  match L, k with
  | o :: L', k =>
    rcases k.1 with e | ⟨v, rfl, e⟩
    · cases e
    · obtain ⟨x, rfl, e1, e2, -⟩ := e
      exact ⟨x, L', rfl, e1, e2, k.2⟩
  | [], k => exact k.elim
theorem zgl_N (k : zgl g lg h ((.inr (.inr (.inr 0))) :: A) L) : ∃ (o : Option Value) (L' : zL), L = o :: L' ∧ zgl g lg h A L' := by
  match L, k with
  | o :: L', k => exact ⟨o, L', rfl, k.2⟩
  | [], k => exact k.elim
theorem zgl_0 (k : zgl g lg h [] L) : L = [] := by
  match L, k with
  | o :: L', k => exact k.elim
  | [], k => rfl
theorem zgs_P (k : zgs g lg h L ((.inr (.inr (.inl (q, q)))) :: S) st) : ∃ st', st = .ref q :: st' ∧ zgs g lg h L S st' := by
  match st, k with
  | v :: s, k =>
    obtain rfl := zP_eq k.1
    exact ⟨s, rfl, k.2⟩
  | [], k => exact k.elim
theorem zgs_I (k : zgs g lg h L ((.inl (a, b, tt, s)) :: S) st) : ∃ (x : Int32) (st' : List Value), st = .int x :: st' ∧ a ≤ x.toInt ∧ x.toInt ≤ b ∧ zgs g lg h L S st' := by
  match st, k with
  | v :: s, k =>
    obtain ⟨x, rfl, e1, e2, -⟩ := k.1
    exact ⟨x, s, rfl, e1, e2, k.2⟩
  | [], k => exact k.elim
theorem zgs_0 (k : zgs g lg h L [] st) : st = [] := by
  match st, k with
  | o :: L', k => exact k.elim
  | [], k => rfl
/-- a call of a method with a contract -/
theorem zEs_ctr {ct : zCt} (hct : zGd xs ct) (e1 : zat (zmc y) pc = some (i, nx, k, yy, m, c)) (e2 : zstep zcf xs pc i nx k yy m c L st h = some (.inr (.inl (ct.y, as, r, nx')))) (hd : ct.dep ≤ D) (hI : zHI g lg h) (hS : zgs g lg h [] ct.as as)
    (kv : ∀ v h' lg' nc' ns', zgo2 g lg' h' (as.map some) ct.rt v → zHI g lg' h' → zLE h h' → lg ≤ lg' → nc' + 2 * lg ≤ nc + 2 * lg' + ct.dc → ns' + 100 * lg ≤ ns + 100 * lg' + ct.ds → zEs xs (D + 1) y nx' L (v.toList ++ r) h' nc' ns' P) : zEs xs (D + 1) y pc L st h nc ns P := by
  refine zEs_callG e1 e2 (zMs_mono hd (hct g lg h nc ns as hI hS)) (fun v h1 nc1 ns1 w => ?_) (fun E h1 nc1 ns1 w => ?_)
  · obtain ⟨v', h', lg', nc', ns', e, b1, b2, b3, b4, b5, b6⟩ := w
    cases e
    exact kv _ _ _ _ _ b1 b2 b3 b4 b5 b6
  · obtain ⟨v', h', lg', nc', ns', e, -⟩ := w
    cases e
/-- a row that was made just now -/
theorem zEs_astF {l : List Int32} {v : Int32} {n : Nat} (h1 : zat (zmc y) pc = some (.iastore, nx, k, yy, m, c)) (hn : n < l.length) (hn2 : n < 1000) (g : zEs xs D y nx L r (h ++ [zar (l.set n v)]) nc ns P) : zEs xs D y pc L (.int v :: .int (Int32.ofNat n) :: .ref h.length :: r) (h ++ [zar l]) nc ns P := by
  obtain ⟨p1, p2⟩ := zof_n (n := n) (by omega)
  refine zEs_ast h1 (l := l) (by rw [List.getElem?_append_right (Nat.le_refl _), Nat.sub_self]; rfl) p1 (by rw [p2]; exact hn) ?_
  rw [p2, zset_app1]
  exact g
theorem zrow10 (hI : zHI g lg h) (hj : j < g.nl) : ∃ ws, h[g.p j]? = some (10, ws) := by
  obtain ⟨dq, es, k1, -⟩ := zls_of hI hj
  obtain ⟨a, b, z⟩ := zLs_size k1
  exact ⟨_, z⟩
theorem zfld {vs : List Value} {k : Nat} (m3 : ∀ k, k < 26 → ∃ v, vs[k]? = some v ∧ zga g lg h [] (zfs k) v) (hk : k < 26) (e : zfs k = (.inr (.inr (.inl (q, q))))) : vs[k]? = some (.ref q) := by
  obtain ⟨v, k1, k2⟩ := m3 k hk
  rw [e] at k2
  obtain rfl := zP_eq k2
  exact k1
theorem zfldL {vs : List Value} {k : Nat} (m3 : ∀ k, k < 26 → ∃ v, vs[k]? = some v ∧ zga g lg h [] (zfs k) v) (hk : k < 26) (e : zfs k = (.inr (.inr (.inr (j + 8))))) : vs[k]? = some (.ref (g.p j)) := by
  obtain ⟨v, k1, k2⟩ := m3 k hk
  rw [e] at k2
  obtain rfl := (show v = _ from k2)
  exact k1
theorem g_130 : zGd xs ct_130 := by
  intro g lg h nc ns as hI hS
  obtain ⟨v, w1, w2, rfl, k, k1, k2⟩ := zin3 hS
  obtain rfl := zP_eq k
  obtain ⟨x1, rfl, -⟩ := zI_eq k1
  obtain ⟨x2, rfl, -⟩ := zI_eq k2
  refine ⟨_, rfl, zreg (cert := ce_note) (cs := cs_note) 0 38 gs_note rfl rfl (by decide +kernel) hI (zgl_in (n := 0) hS) trivial (fun L st lg1 h1 nc1 ns1 b1 b2 b3 b4 b5 b6 b7 => ?_)⟩
  obtain rfl := zgs_0 b3
  obtain ⟨L1, rfl, y1⟩ := zgl_P b2
  obtain ⟨a, L2, rfl, -, -, y2⟩ := zgl_I y1
  obtain ⟨b, L3, rfl, -, -, y3⟩ := zgl_I y2
  obtain rfl := zgl_0 y3
  obtain ⟨vs, m1, m2, m3, m4⟩ := b1.obj
  have hz := b1.sizes
  have f25 := zfldL (j := 2) m3 (k := 25) (by decide) rfl
  obtain ⟨ws, hw⟩ := zrow10 b1 (j := 2) (by omega)
  have len := zHI_len b1
  have b6 : nc1 + 2 * lg ≤ nc + 2 * lg1 := by simpa using b6
  have b7 : ns1 + 100 * lg ≤ ns + 100 * lg1 := by simpa using b7
  refine zEs_run 1 rfl ?_
  refine zEs_get rfl m1 rfl f25 ?_
  refine zEs_callG rfl (show zcallV 0 10 243 47 [.ref (g.p 2)] h1 = _ from zcallV_eq rfl hw (by decide)) (zsize (D := 9) (j := 2) b1 (by omega) (show lg1 ≤ 1000 by omega)) (fun v h9 nc9 ns9 q => ?_) (fun E h9 nc9 ns9 q => by obtain ⟨_, _, q⟩ := q; cases q)
  obtain ⟨x, hx, q⟩ := q
  cases q
  have hx : x.toInt = (lg1 : Nat) := hx
  refine zEs_run 1 rfl ?_
  refine zEs_icmp rfl (fun _ => ?_) (fun gg => ?_)
  · exact zEs_end rfl rfl ⟨_, _, lg1, _, _, rfl, rfl, b1, b4, b5, by omega, by omega⟩
  · have z := zF_ge_f gg
    rw [hx, show ((Int8.ofInt 40).toInt32).toInt = 40 from by decide] at z
    refine zEs_run 1 rfl ?_
    refine zEs_get rfl m1 rfl f25 ?_
    refine zEs_run 5 (h' := h1 ++ [zar [0, 0, 0]]) rfl ?_
    refine zEs_astF (l := [0, 0, 0]) (n := 0) rfl (by decide) (by decide) ?_
    refine zEs_run 3 rfl ?_
    refine zEs_astF (l := [a, 0, 0]) (n := 1) rfl (by show 1 < 3; decide) (by decide) ?_
    refine zEs_run 3 rfl ?_
    obtain ⟨c1, c2⟩ := zHI_mv b1 (zapp_mv [zar [a, b, 0]])
    obtain ⟨vs2, n1, n2, n3, n4⟩ := c1.obj
    obtain ⟨u, u1, -⟩ := zf_int n3 (k := 4) (by decide) rfl
    refine zEs_get rfl n1 rfl u1 ?_
    refine zEs_astF (l := [a, b, 0]) (n := 2) rfl (by show 2 < 3; decide) (by decide) ?_
    obtain ⟨d1, d2⟩ := zHI_mv b1 (zapp_mv [zar [a, b, u]])
    obtain ⟨ws2, hw2⟩ := zrow10 d1 (j := 2) (by omega)
    refine zEs_callG rfl (show zcallV 1 10 237 79 [.ref h1.length, .ref (g.p 2)] (h1 ++ [zar [a, b, u]]) = _ from zcallV_eq rfl hw2 (by decide)) (zadd (D := 4) (g' := g) (lg' := lg1 + 1) (j := 2) d1 (by omega) len (show _ = some (zar [a, b, u]) by rw [List.getElem?_append_right (Nat.le_refl _), Nat.sub_self]; rfl) rfl rfl rfl rfl rfl rfl rfl (fun i hi ne => by
      unfold zsz
      split <;> first | rfl | exact absurd rfl ne) rfl ⟨hz.1, hz.2.1, by omega, hz.2.2.2.2.2.2⟩) (fun v h9 nc9 ns9 q => ?_) (fun E h9 nc9 ns9 q => by obtain ⟨_, _, _, q, _⟩ := q; cases q)
    obtain ⟨h', nc', ns', q, e1, e2, e3, e4, e5⟩ := q
    cases q
    refine zEs_run 1 rfl ?_
    have t3 : (Int32.ofInt 3).toNatClampNeg = 3 := by decide
    exact zEs_end rfl rfl ⟨_, _, lg1 + 1, _, _, rfl, rfl, e1, zLE_tr b4 (zLE_tr d2 e2), by omega, by omega, by omega⟩
end ZHB
end zg1
section zg2
/-! The reference's methods, by hand: a line that is used. -/
def ce_opn : List zCe := [(0, [(.inl 25)], (0, 0), [(.inr (.inr (.inl (44, 44)))), (.inl (0, 19, 0, 0)), (.inr (.inr (.inr 0))), (.inr (.inr (.inr 0)))], []),
  (1, [(.inl 24)], (0, 0), [(.inr (.inr (.inl (44, 44)))), (.inl (0, 19, 0, 0)), (.inr (.inr (.inr 0))), (.inr (.inr (.inr 0)))], [(.inr (.inr (.inl (44, 44))))]),
  (4, [(.inl 23)], (0, 0), [(.inr (.inr (.inl (44, 44)))), (.inl (0, 19, 0, 0)), (.inr (.inr (.inr 0))), (.inr (.inr (.inr 0)))], [(.inr (.inr (.inl (67, 67))))]),
  (5, [(.inl 22)], (0, 0), [(.inr (.inr (.inl (44, 44)))), (.inl (0, 19, 0, 0)), (.inr (.inr (.inr 0))), (.inr (.inr (.inr 0)))], [(.inl (0, 19, 0, 2)), (.inr (.inr (.inl (67, 67))))]),
  (6, [(.inl 21)], (0, 0), [(.inr (.inr (.inl (44, 44)))), (.inl (0, 19, 0, 0)), (.inr (.inr (.inr 0))), (.inr (.inr (.inr 0)))], [(.inl (0, 19, 0, 2)), (.inr (.inr (.inl (67, 67)))), (.inl (0, 19, 0, 2)), (.inr (.inr (.inl (67, 67))))]),
  (7, [(.inl 20)], (0, 0), [(.inr (.inr (.inl (44, 44)))), (.inl (0, 19, 0, 0)), (.inr (.inr (.inr 0))), (.inr (.inr (.inr 0)))], [zIA, (.inl (0, 19, 0, 2)), (.inr (.inr (.inl (67, 67))))]),
  (8, [(.inl 19)], (0, 0), [(.inr (.inr (.inl (44, 44)))), (.inl (0, 19, 0, 0)), (.inr (.inr (.inr 0))), (.inr (.inr (.inr 0)))], [(.inl (1, 1, 0, 0)), zIA, (.inl (0, 19, 0, 2)), (.inr (.inr (.inl (67, 67))))]),
  (9, [(.inl 18)], (0, 0), [(.inr (.inr (.inl (44, 44)))), (.inl (0, 19, 0, 0)), (.inr (.inr (.inr 0))), (.inr (.inr (.inr 0)))], [zIA, (.inl (0, 19, 0, 2)), (.inr (.inr (.inl (67, 67))))]),
  (10, [(.inl 17)], (0, 0), [(.inr (.inr (.inl (44, 44)))), (.inl (0, 19, 0, 0)), (.inr (.inr (.inr 0))), (.inr (.inr (.inr 0)))], []),
  (11, [(.inl 16)], (0, 0), [(.inr (.inr (.inl (44, 44)))), (.inl (0, 19, 0, 0)), (.inr (.inr (.inr 0))), (.inr (.inr (.inr 0)))], [(.inr (.inr (.inl (44, 44))))]),
  (14, [(.inl 15)], (0, 0), [(.inr (.inr (.inl (44, 44)))), (.inl (0, 19, 0, 0)), (.inr (.inr (.inr 0))), (.inr (.inr (.inr 0)))], [(.inr (.inr (.inl (68, 68))))]),
  (15, [(.inl 14)], (0, 0), [(.inr (.inr (.inl (44, 44)))), (.inl (0, 19, 0, 0)), (.inr (.inr (.inr 0))), (.inr (.inr (.inr 0)))], [(.inl (0, 19, 0, 2)), (.inr (.inr (.inl (68, 68))))]),
  (16, [(.inl 13)], (0, 0), [(.inr (.inr (.inl (44, 44)))), (.inl (0, 19, 0, 0)), (.inr (.inr (.inr 0))), (.inr (.inr (.inr 0)))], [(.inr (.inr (.inl (44, 44)))), (.inl (0, 19, 0, 2)), (.inr (.inr (.inl (68, 68))))]),
  (19, [(.inl 12)], (0, 0), [(.inr (.inr (.inl (44, 44)))), (.inl (0, 19, 0, 0)), (.inr (.inr (.inr 0))), (.inr (.inr (.inr 0)))], [(.inl (0, 2000, 0, 0)), (.inl (0, 19, 0, 2)), (.inr (.inr (.inl (68, 68))))]),
  (20, [(.inl 11)], (0, 0), [(.inr (.inr (.inl (44, 44)))), (.inl (0, 19, 0, 0)), (.inr (.inr (.inr 0))), (.inr (.inr (.inr 0)))], []),
  (21, [(.inl 10)], (0, 0), [(.inr (.inr (.inl (44, 44)))), (.inl (0, 19, 0, 0)), (.inr (.inr (.inr 0))), (.inr (.inr (.inr 0)))], [(.inr (.inr (.inl (44, 44))))]),
  (24, [(.inl 9)], (0, 0), [(.inr (.inr (.inl (44, 44)))), (.inl (0, 19, 0, 0)), (.inr (.inr (.inr 0))), (.inr (.inr (.inr 0)))], [(.inr (.inr (.inl (67, 67))))]),
  (25, [(.inl 8)], (0, 0), [(.inr (.inr (.inl (44, 44)))), (.inl (0, 19, 0, 0)), (.inr (.inr (.inr 0))), (.inr (.inr (.inr 0)))], [(.inl (0, 19, 0, 2)), (.inr (.inr (.inl (67, 67))))]),
  (26, [(.inl 7)], (0, 0), [(.inr (.inr (.inl (44, 44)))), (.inl (0, 19, 0, 0)), (.inr (.inr (.inr 0))), (.inr (.inr (.inr 0)))], [zIA]),
  (27, [(.inl 6)], (0, 0), [(.inr (.inr (.inl (44, 44)))), (.inl (0, 19, 0, 0)), (.inr (.inr (.inr 0))), (.inr (.inr (.inr 0)))], [(.inr (.inr (.inl (44, 44)))), zIA]),
  (30, [(.inl 5)], (0, 0), [(.inr (.inr (.inl (44, 44)))), (.inl (0, 19, 0, 0)), (.inr (.inr (.inr 0))), (.inr (.inr (.inr 0)))], [(.inl (2, 100, 0, 0)), zIA]),
  (31, [(.inl 4)], (0, 0), [(.inr (.inr (.inl (44, 44)))), (.inl (0, 19, 0, 0)), (.inr (.inr (.inr 0))), (.inr (.inr (.inr 0)))], [zIA]),
  (34, [(.inl 3)], (0, 0), [(.inr (.inr (.inl (44, 44)))), (.inl (0, 19, 0, 0)), (.inr (.inr (.inr 0))), (.inr (.inr (.inr 0)))], []),
  (35, [(.inl 2)], (0, 0), [(.inr (.inr (.inl (44, 44)))), (.inl (0, 19, 0, 0)), (.inr (.inr (.inr 0))), (.inr (.inr (.inr 0)))], []),
  (36, [(.inl 1)], (0, 0), [(.inr (.inr (.inl (44, 44)))), (.inl (0, 19, 0, 0)), (.inr (.inr (.inr 0))), (.inr (.inr (.inr 0)))], [(.inl ((-1), (-1), 0, 0))]),
  (37, [(.inl 0)], (0, 0), [(.inr (.inr (.inl (44, 44)))), (.inl (0, 19, 0, 0)), (.inl ((-1), (-1), 0, 0)), (.inr (.inr (.inr 0)))], [])]
def cs_opn : List zCt := []
theorem gs_opn {xs : List Int32} : ∀ ct ∈ cs_opn, zGd xs ct := fun _ h => absurd h List.not_mem_nil
def ct_129 : zCt := (129, [(.inr (.inr (.inl (44, 44)))), (.inl (0, 19, 0, 0))], none, 12, 0, 0)
section ZHC
variable {xs : List Int32} {g : zG} {lg : Nat} {h : zH} {D nc ns y pc nx k yy m c nx' : Nat} {A S : List zTy} {L : zL} {st as r : List Value} {P : zO → Prop}
/-- like zreg, where the method may return on the way -/
theorem zregR {cs : List zCt} {cert : List zCe} {rkx rk0 : List zRk} {bux bu0 : Nat × Nat} {Ax Sx A0 S0 : List zTy} {rt : Option zTy} (s x : Nat) (hcs : ∀ ct ∈ cs, zGd xs ct) (hs : zlkc cert s = some (rk0, bu0, A0, S0)) (hx : zlkc cert x = some (rkx, bux, Ax, Sx)) (hok : cert.all (fun e => [x].contains e.1 || zce y cs cert (D + 1) rt e) = true) (hI : zHI g lg h) (hA : zgl g lg h A0 L) (hS : zgs g lg h L S0 st)
    (hret : ∀ v h' lg' nc' ns', zgo2 g lg' h' [] rt v → zHI g lg' h' → zLE h h' → lg ≤ lg' → nc' + 2 * lg ≤ nc + 2 * lg' + bu0.1 → ns' + 100 * lg ≤ ns + 100 * lg' + bu0.2 → P (.inl v, h', nc', ns'))
    (hk : ∀ L st lg' h' nc' ns', zHI g lg' h' → zgl g lg' h' Ax L → zgs g lg' h' L Sx st → zLE h h' → lg ≤ lg' → nc' + 2 * lg + bux.1 ≤ nc + 2 * lg' + bu0.1 → ns' + 100 * lg + bux.2 ≤ ns + 100 * lg' + bu0.2 → zEs xs (D + 1) y x L st h' nc' ns' P) : zEs xs (D + 1) y s L st h nc ns P := by
  refine zck_g (ex := [x]) P lg nc ns bu0.1 bu0.2 h hcs hok hret (fun pc rk bu A S z e L st lg' h' nc' ns' b1 b2 b3 b4 b5 b6 b7 => ?_) _ _ rfl s rk0 bu0 A0 S0 hs L st lg h nc ns rfl hI hA hS zLE_rf (Nat.le_refl _) (Nat.le_of_eq (by omega)) (Nat.le_of_eq (by omega))
  have z : pc = x := by simpa using z
  subst z
  rw [hx] at e
  cases e
  exact hk L st lg' h' nc' ns' b1 b2 b3 b4 b5 b6 b7
theorem zrem_z {x z : Int32} (h1 : 0 ≤ x.toInt) (h2 : 0 < z.toInt) : (x - x / z * z).toInt = x.toInt % z.toInt := by
  have e2 := Int32.toInt_div_of_ne_right x z (by rintro rfl; have : (-1 : Int32).toInt = -1 := by decide
                                                 omega)
  rw [Int.tdiv_eq_ediv_of_nonneg (by omega)] at e2
  have hx := Int32.toInt_lt x
  have m1 := Int.emod_add_mul_ediv x.toInt z.toInt
  have m2 := Int.emod_nonneg x.toInt (show z.toInt ≠ 0 by omega)
  have m3 := Int.emod_lt_of_pos x.toInt (show 0 < z.toInt by omega)
  have m4 : 0 ≤ x.toInt / z.toInt := Int.ediv_nonneg (by omega) (by omega)
  have m5 : 0 ≤ z.toInt * (x.toInt / z.toInt) := Int.mul_nonneg (by omega) m4
  have e3 := Int32.toInt_mul (x / z) z
  rw [e2, Int.mul_comm, zbm (by omega) (by omega)] at e3
  have e4 := Int32.toInt_sub x (x / z * z)
  rw [e3, zbm (by omega) (by omega)] at e4
  omega
theorem zth (hI : zHI g lg h) : ∃ ws, h[44]? = some (7, ws) := by
  obtain ⟨vs, m, -⟩ := hI.obj
  exact ⟨vs, m⟩
theorem zI_in {x : Int32} {a b : Int} (h1 : a ≤ x.toInt) (h2 : x.toInt ≤ b) : zga g lg h L ((.inl (a, b, 0, 0))) (.int x) := ⟨x, rfl, h1, h2, trivial, Or.inl rfl⟩
theorem zP_in {q : Nat} : zga g lg h L ((.inr (.inr (.inl (q, q))))) (.ref q) := ⟨q, rfl, Nat.le_refl _, Nat.le_refl _⟩
theorem l_129 {ln b : Int32} {o3 : Option Value} (hI : zHI g lg h) (h1 : 0 ≤ ln.toInt) (h2 : ln.toInt ≤ 19) (hb : b.toInt = -1 ∨ b.toInt = 1)
    (K : ∀ o lg' h' nc' ns', zHI g lg' h' → zLE h h' → lg ≤ lg' → nc' + 2 * lg ≤ nc + 2 * lg' → ns' + 100 * lg ≤ ns + 100 * lg' → zEs xs 12 129 98 [some (.ref 44), some (.int ln), some (.int b), o] [] h' nc' ns' P) : zEs xs 12 129 42 [some (.ref 44), some (.int ln), some (.int b), o3] [] h nc ns P := by
  refine zEs_run 2 rfl ?_
  refine zEs_irem rfl (by decide) ?_
  refine zEs_run 4 rfl ?_
  have t10 : ((Int8.ofInt 10).toInt32).toInt = 10 := by decide
  have t9 : ((Int8.ofInt 9).toInt32).toInt = 9 := by decide
  have t0 : (Int32.ofInt 0).toInt = 0 := by decide
  have er := zrem_z (x := ln) (z := (Int8.ofInt 10).toInt32) h1 (by omega)
  rw [t10] at er
  have es := Int32.toInt_add (ln - ln / (Int8.ofInt 10).toInt32 * (Int8.ofInt 10).toInt32) b
  rw [er, zbm (by omega) (by omega)] at es
  refine zEs_callG rfl rfl (m_112 (D := 11)) (fun v h9 nc9 ns9 q => ?_) (fun E h9 nc9 ns9 q => by obtain ⟨_, _, _, _, q⟩ := q; cases q)
  obtain ⟨w, w1, w2, -, q⟩ := q
  cases q
  refine zEs_if rfl (fun gg => ?_) (fun gg => ?_)
  · have w2 := w2 gg
    have w2 : 0 ≤ ln.toInt % 10 + b.toInt ∧ ln.toInt % 10 + b.toInt ≤ 9 := by
      rw [← es, ← t0, ← t9]
      exact w2
    have e9 := Int32.toInt_add ln b
    rw [zbm (by omega) (by omega)] at e9
    have b1 : 0 ≤ (ln + b).toInt := by omega
    have b2 : (ln + b).toInt ≤ 19 := by omega
    obtain ⟨ws, hw⟩ := zth hI
    refine zEs_run 1 rfl ?_
    refine zEs_ctr g_128 rfl (show zcallV 0 7 128 64 [.ref 44] h = _ from zcallV_eq rfl hw (by decide)) (by decide) hI ⟨zP_in, trivial⟩ (fun v h1 lg1 nc1 ns1 q I1 le1 l1 c1 s1 => ?_)
    obtain ⟨u, rfl, q⟩ := q
    obtain ⟨x, rfl, x1, x2, -⟩ := zI_eq q
    refine zEs_run 1 rfl ?_
    refine zEs_irem rfl (by decide) ?_
    have t8 : ((Int8.ofInt 8).toInt32).toInt = 8 := by decide
    have ep := zrem_z (x := x) (z := (Int8.ofInt 8).toInt32) x1 (by omega)
    rw [t8] at ep
    obtain ⟨vs, m1, m2, m3, m4⟩ := I1.obj
    refine zEs_run 7 rfl ?_
    refine zEs_get rfl m1 rfl (zfld m3 (k := 16) (by decide) rfl) ?_
    refine zEs_run 3 rfl ?_
    have hj : ¬ ln + b < 0 := fun z => by
      have z := zlt_z z
      rw [zero_z] at z
      omega
    refine zEs_aald rfl I1.outer (Or.inr rfl) hj (v := .ref (47 + (ln + b).toInt.toNat)) (by
      rw [show (ln + b).toNatClampNeg = (ln + b).toInt.toNat from rfl, List.getElem?_map, List.getElem?_range (by omega)]
      rfl) ?_
    obtain ⟨l, p1, p2, p3⟩ := I1.rows (47 + (ln + b).toInt.toNat) 100 8 (-2147483648) 2147483647 (if_pos (by omega))
    refine zEs_run 1 rfl ?_
    obtain ⟨v9, hv9⟩ : ∃ v, l[(x - x / (Int8.ofInt 8).toInt32 * (Int8.ofInt 8).toInt32).toInt.toNat]? = some v := ⟨_, List.getElem?_eq_getElem (by omega)⟩
    refine zEs_ald rfl p1 (fun z => by
      have z := zlt_z z
      rw [zero_z] at z
      omega) hv9 ?_
    refine zEs_run 2 rfl ?_
    obtain ⟨ws2, hw2⟩ := zth I1
    refine zEs_ctr g_128 rfl (show zcallV 0 7 128 88 (.ref 44 :: _) h1 = _ from zcallV_eq rfl hw2 (Nat.le_of_ble_eq_true rfl)) (by decide) I1 ⟨zP_in, trivial⟩ (fun v h2 lg2 nc2 ns2 q I2 le2 l2 c2 s2 => ?_)
    obtain ⟨u2, rfl, q⟩ := q
    obtain ⟨x2, rfl, -⟩ := zI_eq q
    refine zEs_run 1 rfl ?_
    obtain ⟨ws3, hw3⟩ := zth I2
    refine zEs_ctr g_117 rfl (show zcallV 0 7 117 92 (.ref 44 :: _) h2 = _ from zcallV_eq rfl hw3 (Nat.le_of_ble_eq_true rfl)) (by decide) I2 ⟨zP_in, trivial⟩ (fun v h3 lg3 nc3 ns3 q I3 le3 l3 c3 s3 => ?_)
    obtain ⟨u3, rfl, q⟩ := q
    obtain ⟨x3, rfl, y1, y2, -⟩ := zI_eq q
    refine zEs_irem rfl (by rintro rfl; rw [zero_z] at y1; omega) ?_
    refine zEs_run 2 rfl ?_
    obtain ⟨ws4, hw4⟩ := zth I3
    refine zEs_ctr g_126 rfl (show zcallV 3 7 126 98 (_ :: _ :: _ :: .ref 44 :: _) h3 = _ from zcallV_eq rfl hw4 (by decide)) (by decide) I3 ⟨zP_in, zI_in b1 b2, zI_in (by omega) (by omega), zIA_ok _, trivial⟩ (fun v h4 lg4 nc4 ns4 q I4 le4 l4 c4 s4 => ?_)
    obtain rfl := (show v = none from q)
    refine K _ lg4 h4 nc4 ns4 I4 (zLE_tr le1 (zLE_tr le2 (zLE_tr le3 le4))) (by omega) ?_ ?_
    · have z1 : ct_128.dc = 0 := rfl
      have z2 : ct_117.dc = 0 := rfl
      have z3 : ct_126.dc = 0 := rfl
      omega
    · have z1 : ct_128.ds = 0 := rfl
      have z2 : ct_117.ds = 0 := rfl
      have z3 : ct_126.ds = 0 := rfl
      omega
  · refine zEs_run 1 rfl ?_
    exact K _ lg _ _ _ hI zLE_rf (Nat.le_refl _) (Nat.le_refl _) (Nat.le_refl _)
theorem g_129 : zGd xs ct_129 := by
  intro g lg h nc ns as hI hS
  obtain ⟨v, w1, rfl, k, k1⟩ := zin2 hS
  obtain rfl := zP_eq k
  obtain ⟨x1, rfl, -⟩ := zI_eq k1
  refine ⟨_, rfl, zregR (cert := ce_opn) (cs := cs_opn) (rt := none) 0 37 gs_opn rfl rfl (by decide +kernel) hI (zgl_in (n := 2) hS) trivial (fun v h' lg' nc' ns' b1 b2 b3 b4 b5 b6 => ⟨_, h', lg', nc', ns', rfl, b1, b2, b3, b4, b5, b6⟩) (fun L st lg1 h1 nc1 ns1 b1 b2 b3 b4 b5 b6 b7 => ?_)⟩
  obtain rfl := zgs_0 b3
  obtain ⟨L1, rfl, y1⟩ := zgl_P b2
  obtain ⟨a, L2, rfl, a1, a2, y2⟩ := zgl_I y1
  obtain ⟨b, L3, rfl, d1, d2, y3⟩ := zgl_I y2
  obtain ⟨o3, L4, rfl, y4⟩ := zgl_N y3
  obtain rfl := zgl_0 y4
  obtain rfl : b = Int32.ofInt (-1) := Int32.toInt_inj.mp (by have : (Int32.ofInt (-1)).toInt = -1 := by decide
                                                              omega)
  refine zEs_run 2 rfl ?_
  refine zEs_icmp rfl (fun gg => absurd (show Int32.ofInt 1 < Int32.ofInt (-1) from gg) (by decide)) (fun _ => ?_)
  refine l_129 b1 a1 a2 (Or.inl (by decide)) (fun o lg2 h2 nc2 ns2 I2 e1 e2 e3 e4 => ?_)
  refine zEs_run 4 rfl ?_
  refine zEs_icmp rfl (fun gg => absurd (show Int32.ofInt 1 < Int32.ofInt (-1) + Int32.ofInt 2 from gg) (by decide)) (fun _ => ?_)
  refine l_129 I2 a1 a2 (Or.inr (by decide)) (fun o lg3 h3 nc3 ns3 I3 f1 f2 f3 f4 => ?_)
  refine zEs_run 4 rfl ?_
  refine zEs_icmp rfl (fun _ => ?_) (fun gg => absurd (show Int32.ofInt 1 < (Int32.ofInt (-1) + Int32.ofInt 2) + Int32.ofInt 2 by decide) gg)
  have b6 : nc1 + 2 * lg + 0 ≤ nc + 2 * lg1 + 0 := b6
  have b7 : ns1 + 100 * lg + 0 ≤ ns + 100 * lg1 + 0 := b7
  exact zEs_end rfl rfl ⟨_, h3, lg3, nc3, ns3, rfl, rfl, I3, zLE_tr b4 (zLE_tr e1 f1), by omega, by omega, by omega⟩
end ZHC
end zg2
section zg3
/-! The reference's methods, by hand: the board, health. -/
def ct_171 : zCt := (171, [(.inr (.inr (.inl (44, 44)))), (.inl (0, 17, 0, 0))], some zIA, 8, 1, 18)
section ZHD
variable {xs : List Int32} {g : zG} {lg : Nat} {h : zH} {D nc ns y pc nx k yy m c nx' : Nat} {A S : List zTy} {L : zL} {st as r : List Value} {P : zO → Prop}
/-- a row that was made just now: its length alone -/
theorem zEs_astL {l : List Int32} {v j : Int32} {N : Nat} (h1 : zat (zmc y) pc = some (.iastore, nx, k, yy, m, c)) (hl : l.length = N) (hj : ¬ j < 0) (hn : j.toNatClampNeg < N) (g : ∀ l' : List Int32, l'.length = N → zEs xs D y nx L r (h ++ [zar l']) nc ns P) : zEs xs D y pc L (.int v :: .int j :: .ref h.length :: r) (h ++ [zar l]) nc ns P := by
  refine zEs_ast h1 (l := l) (by rw [List.getElem?_append_right (Nat.le_refl _), Nat.sub_self]; rfl) hj (by rw [hl]; exact hn) ?_
  rw [zset_app1]
  exact g _ (by rw [List.length_set]; exact hl)
theorem m_149 {q : Nat} {l : List Int32} (hq : h[q]? = some (101, l.map Value.int)) (hl : l.length = 128) : zMs xs (D + 0) 149 [.ref q] h nc ns (fun o => ∃ v : Int32, o = (.inl (some (.int v)), h, nc, ns)) := by
  have lp : ∀ (n : Nat) (i s : Int32) (o : Option Value), 0 ≤ i.toInt → (128 - i.toInt).toNat < n → zEs xs (D + 0) 149 10 [some (.ref q), some (.int s), some (.ref q), some (.int (Int32.ofNat (l.map Value.int).length)), some (.int i), o] [] h nc ns (fun o => ∃ v : Int32, o = (.inl (some (.int v)), h, nc, ns)) := by
    intro n
    induction n with
    | zero =>
      intro i s o i0 hn
      exact absurd hn (Nat.not_lt_zero _)
    | succ n ih =>
      intro i s o i0 hn
      have e : (Int32.ofNat (l.map Value.int).length).toInt = 128 := by
        rw [List.length_map, hl]
        decide
      refine zEs_run 2 rfl ?_
      refine zEs_icmp rfl (fun _ => ?_) (fun gg => ?_)
      · refine zEs_run 1 rfl ?_
        exact zEs_end rfl rfl ⟨_, rfl⟩
      · have z := zF_ge_f gg
        rw [e] at z
        refine zEs_run 2 rfl ?_
        obtain ⟨v, v1, v2⟩ := zald_eq (nx := 20) (L := [some (.ref q), some (.int s), some (.ref q), some (.int (Int32.ofNat (l.map Value.int).length)), some (.int i), o]) (r := []) (j := i) hq i0 (by omega)
        refine zEs_step (dc := 0) (ds := 0) rfl (show zald 101 20 _ (.int i :: .ref q :: []) h = _ from v2) ?_
        refine zEs_run 3 rfl ?_
        have hi := zinc_le (x := i) (n := 1) (by omega) (by decide) (by decide)
        have J : ∀ w : Int32, zEs xs (D + 0) 149 33 [some (.ref q), some (.int s), some (.ref q), some (.int (Int32.ofNat (l.map Value.int).length)), some (.int i), some (.int v)] [.int w, .int s] h nc ns (fun o => ∃ v : Int32, o = (.inl (some (.int v)), h, nc, ns)) := by
          intro w
          refine zEs_run 4 rfl ?_
          exact ih _ _ _ (by omega) (by omega)
        refine zEs_if rfl (fun _ => ?_) (fun _ => ?_)
        · exact zEs_run 1 rfl (J _)
        · exact zEs_run 2 rfl (J _)
  refine ⟨_, rfl, zEs_run 5 rfl ?_⟩
  refine zEs_alen rfl hq (by decide) ?_
  refine zEs_run 3 rfl ?_
  exact lp _ _ _ _ (by decide) (Nat.lt_succ_self _)
theorem g_171 : zGd xs ct_171 := by
  intro g lg h nc ns as hI hS
  obtain ⟨v, w1, rfl, k, k1⟩ := zin2 hS
  obtain rfl := zP_eq k
  obtain ⟨x1, rfl, x1l, x1u, -⟩ := zI_eq k1
  obtain ⟨vs, m1, m2, m3, m4⟩ := hI.obj
  have hz := hI.sizes
  have mm : ∀ l : List Int32, (h ++ [zar l])[44]? = some (7, vs) := fun l => zapp_mv _ _ _ m1
  have hh : ∀ l : List Int32, zHI g lg (h ++ [zar l]) := fun l => (zHI_mv hI (zapp_mv _)).1
  have SZ : ∀ (j : Nat) (n : Nat) (nc ns : Nat) (l : List Int32), j < g.nl → zsz g lg j ≤ 1000 → zMs xs 7 243 [.ref (g.p j)] (h ++ [zar l]) nc ns (fun o => ∃ x : Int32, o = (.inl (some (.int x)), h ++ [zar l], nc, ns)) := fun j n nc ns l hj hn => zMs_mono (Nat.zero_le _) (zMs_post (fun o ⟨x, _, z⟩ => ⟨x, z⟩) (zsize (D := 0) (hh l) hj hn))
  have s0 : zsz g lg 0 ≤ 1000 := show g.zs ≤ 1000 by omega
  have s1 : zsz g lg 1 ≤ 1000 := show g.zw ≤ 1000 by omega
  have s2 : zsz g lg 2 ≤ 1000 := show lg ≤ 1000 by omega
  have MY : ∀ (q : Nat) (nc ns : Nat) (l : List Int32), zsp q = some (101, 128, 0, 1) → zMs xs 7 149 [.ref q] (h ++ [zar l]) nc ns (fun o => ∃ x : Int32, o = (.inl (some (.int x)), h ++ [zar l], nc, ns)) := fun q nc ns l e => by
    obtain ⟨l2, p1, p2, p3⟩ := (hh l).rows q _ _ _ _ e
    exact zMs_mono (Nat.zero_le _) (m_149 (D := 0) p1 p2)
  refine ⟨_, rfl, zEs_run 2 (h' := h ++ [zar (List.replicate 18 0)]) rfl ?_⟩
  -- 0
  obtain ⟨u0, hu0, -, -⟩ := zf_int m3 (k := 4) (by decide) rfl
  refine zEs_run 3 rfl ?_
  refine zEs_get rfl (mm _) rfl hu0 ?_
  refine zEs_astL (N := 18) rfl rfl (by decide) (by decide) (fun l1 hl1 => ?_)
  -- 1
  obtain ⟨u1, hu1, -, -⟩ := zf_int m3 (k := 1) (by decide) rfl
  refine zEs_run 3 rfl ?_
  refine zEs_get rfl (mm _) rfl hu1 ?_
  refine zEs_astL (N := 18) rfl hl1 (by decide) (by decide) (fun l2 hl2 => ?_)
  -- 2
  obtain ⟨u2, hu2, -, -⟩ := zf_int m3 (k := 2) (by decide) rfl
  refine zEs_run 3 rfl ?_
  refine zEs_get rfl (mm _) rfl hu2 ?_
  refine zEs_astL (N := 18) rfl hl2 (by decide) (by decide) (fun l3 hl3 => ?_)
  -- 3
  obtain ⟨u3, hu3, -, -⟩ := zf_int m3 (k := 5) (by decide) rfl
  refine zEs_run 3 rfl ?_
  refine zEs_get rfl (mm _) rfl hu3 ?_
  refine zEs_astL (N := 18) rfl hl3 (by decide) (by decide) (fun l4 hl4 => ?_)
  -- 4
  obtain ⟨u4, hu4, -, -⟩ := zf_int m3 (k := 6) (by decide) rfl
  refine zEs_run 3 rfl ?_
  refine zEs_get rfl (mm _) rfl hu4 ?_
  refine zEs_astL (N := 18) rfl hl4 (by decide) (by decide) (fun l5 hl5 => ?_)
  -- 5
  obtain ⟨u5, hu5, -, -⟩ := zf_int m3 (k := 7) (by decide) rfl
  refine zEs_run 3 rfl ?_
  refine zEs_get rfl (mm _) rfl hu5 ?_
  refine zEs_astL (N := 18) rfl hl5 (by decide) (by decide) (fun l6 hl6 => ?_)
  -- 6
  obtain ⟨u6, hu6, -, -⟩ := zf_int m3 (k := 8) (by decide) rfl
  refine zEs_run 3 rfl ?_
  refine zEs_get rfl (mm _) rfl hu6 ?_
  suffices J6 : ∀ z : Int32, zEs xs 8 171 61 [some (.ref 44), some (.int x1), none] [.int z, .int (Int8.ofInt 6).toInt32, .ref h.length, .ref h.length] (h ++ [zar l6]) _ _ (zPm g lg h nc ns ct_171.rt ct_171.dc ct_171.ds [.ref 44, .int x1]) by
    refine zEs_if rfl (fun _ => ?_) (fun _ => ?_)
    · exact zEs_run 1 rfl (J6 _)
    · exact zEs_run 2 rfl (J6 _)
  intro z6
  refine zEs_astL (N := 18) rfl hl6 (by decide) (by decide) (fun l7 hl7 => ?_)
  -- 7
  obtain ⟨u7, hu7, -, -⟩ := zf_int m3 (k := 9) (by decide) rfl
  refine zEs_run 3 rfl ?_
  refine zEs_get rfl (mm _) rfl hu7 ?_
  suffices J7 : ∀ z : Int32, zEs xs 8 171 77 [some (.ref 44), some (.int x1), none] [.int z, .int (Int8.ofInt 7).toInt32, .ref h.length, .ref h.length] (h ++ [zar l7]) _ _ (zPm g lg h nc ns ct_171.rt ct_171.dc ct_171.ds [.ref 44, .int x1]) by
    refine zEs_if rfl (fun _ => ?_) (fun _ => ?_)
    · exact zEs_run 1 rfl (J7 _)
    · exact zEs_run 2 rfl (J7 _)
  intro z7
  refine zEs_astL (N := 18) rfl hl7 (by decide) (by decide) (fun l8 hl8 => ?_)
  -- 8
  obtain ⟨u8, hu8, -, -⟩ := zf_int m3 (k := 10) (by decide) rfl
  refine zEs_run 3 rfl ?_
  refine zEs_get rfl (mm _) rfl hu8 ?_
  refine zEs_astL (N := 18) rfl hl8 (by decide) (by decide) (fun l9 hl9 => ?_)
  -- 9
  refine zEs_run 3 rfl ?_
  refine zEs_get rfl (mm _) rfl (zfldL (j := 2) m3 (k := 25) (by decide) rfl) ?_
  obtain ⟨w9, hw9⟩ := zrow10 (hh l9) (j := 2) (by omega)
  refine zEs_callG rfl (show zcallV 0 10 243 98 (.ref (g.p 2) :: _) (h ++ [zar l9]) = _ from zcallV_eq rfl hw9 (Nat.le_of_ble_eq_true rfl)) (SZ 2 0 _ _ l9 (by omega) s2) (fun v h9 nc9 ns9 q => ?_) (fun E h9 nc9 ns9 q => by obtain ⟨_, q⟩ := q; cases q)
  obtain ⟨u9, q9⟩ := q
  cases q9
  refine zEs_astL (N := 18) rfl hl9 (by decide) (by decide) (fun l10 hl10 => ?_)
  -- 10
  obtain ⟨u10, hu10, -, -⟩ := zf_int m3 (k := 14) (by decide) rfl
  refine zEs_run 3 rfl ?_
  refine zEs_get rfl (mm _) rfl hu10 ?_
  refine zEs_astL (N := 18) rfl hl10 (by decide) (by decide) (fun l11 hl11 => ?_)
  -- 11
  obtain ⟨u11, hu11, -, -⟩ := zf_int m3 (k := 15) (by decide) rfl
  refine zEs_run 3 rfl ?_
  refine zEs_get rfl (mm _) rfl hu11 ?_
  refine zEs_astL (N := 18) rfl hl11 (by decide) (by decide) (fun l12 hl12 => ?_)
  -- 12
  refine zEs_run 3 rfl ?_
  refine zEs_get rfl (mm _) rfl (zfld m3 (k := 21) (by decide) rfl) ?_
  refine zEs_callG rfl rfl (MY 71 _ _ l12 rfl) (fun v h9 nc9 ns9 q => ?_) (fun E h9 nc9 ns9 q => by obtain ⟨_, q⟩ := q; cases q)
  obtain ⟨u12, q12⟩ := q
  cases q12
  refine zEs_astL (N := 18) rfl hl12 (by decide) (by decide) (fun l13 hl13 => ?_)
  -- 13
  refine zEs_run 3 rfl ?_
  refine zEs_get rfl (mm _) rfl (zfld m3 (k := 22) (by decide) rfl) ?_
  refine zEs_callG rfl rfl (MY 72 _ _ l13 rfl) (fun v h9 nc9 ns9 q => ?_) (fun E h9 nc9 ns9 q => by obtain ⟨_, q⟩ := q; cases q)
  obtain ⟨u13, q13⟩ := q
  cases q13
  refine zEs_astL (N := 18) rfl hl13 (by decide) (by decide) (fun l14 hl14 => ?_)
  -- 14
  refine zEs_run 3 rfl ?_
  refine zEs_get rfl (mm _) rfl (zfldL (j := 0) m3 (k := 23) (by decide) rfl) ?_
  obtain ⟨w14, hw14⟩ := zrow10 (hh l14) (j := 0) (by omega)
  refine zEs_callG rfl (show zcallV 0 10 243 149 (.ref (g.p 0) :: _) (h ++ [zar l14]) = _ from zcallV_eq rfl hw14 (Nat.le_of_ble_eq_true rfl)) (SZ 0 0 _ _ l14 (by omega) s0) (fun v h9 nc9 ns9 q => ?_) (fun E h9 nc9 ns9 q => by obtain ⟨_, q⟩ := q; cases q)
  obtain ⟨u14, q14⟩ := q
  cases q14
  refine zEs_astL (N := 18) rfl hl14 (by decide) (by decide) (fun l15 hl15 => ?_)
  -- 15
  refine zEs_run 3 rfl ?_
  refine zEs_get rfl (mm _) rfl (zfldL (j := 1) m3 (k := 24) (by decide) rfl) ?_
  obtain ⟨w15, hw15⟩ := zrow10 (hh l15) (j := 1) (by omega)
  refine zEs_callG rfl (show zcallV 0 10 243 162 (.ref (g.p 1) :: _) (h ++ [zar l15]) = _ from zcallV_eq rfl hw15 (Nat.le_of_ble_eq_true rfl)) (SZ 1 0 _ _ l15 (by omega) s1) (fun v h9 nc9 ns9 q => ?_) (fun E h9 nc9 ns9 q => by obtain ⟨_, q⟩ := q; cases q)
  obtain ⟨u15, q15⟩ := q
  cases q15
  refine zEs_astL (N := 18) rfl hl15 (by decide) (by decide) (fun l16 hl16 => ?_)
  -- 16
  obtain ⟨u16, hu16, -, -⟩ := zf_int m3 (k := 12) (by decide) rfl
  refine zEs_run 3 rfl ?_
  refine zEs_get rfl (mm _) rfl hu16 ?_
  refine zEs_astL (N := 18) rfl hl16 (by decide) (by decide) (fun l17 hl17 => ?_)
  -- 17
  obtain ⟨u17, hu17, -, -⟩ := zf_int m3 (k := 13) (by decide) rfl
  refine zEs_run 3 rfl ?_
  refine zEs_get rfl (mm _) rfl hu17 ?_
  refine zEs_astL (N := 18) rfl hl17 (by decide) (by decide) (fun l18 hl18 => ?_)
  -- the answer
  refine zEs_run 3 rfl ?_
  have hx : ¬ x1 < 0 := fun z => by
    have z := zlt_z z
    rw [zero_z] at z
    omega
  obtain ⟨v9, hv9⟩ : ∃ v, l18[x1.toNatClampNeg]? = some v := ⟨_, List.getElem?_eq_getElem (by show x1.toInt.toNat < _; omega)⟩
  refine zEs_ald rfl (l := l18) (by rw [List.getElem?_append_right (Nat.le_refl _), Nat.sub_self]; rfl) hx hv9 ?_
  have d1 : ct_171.dc = 1 := rfl
  have d2 : ct_171.ds = 18 := rfl
  have t18 : ((Int8.ofInt 18).toInt32).toNatClampNeg = 18 := by decide
  exact zEs_end rfl rfl ⟨_, _, lg, _, _, rfl, ⟨_, rfl, zIA_ok _⟩, hh l18, (zHI_mv hI (zapp_mv _)).2, Nat.le_refl _, by omega, by omega⟩
end ZHD
end zg3
section zg4
/-! The reference's methods, by hand: health. -/
def ct_173 : zCt := (173, [(.inr (.inr (.inl (44, 44)))), (.inl (0, 1, 0, 0))], some (.inr (.inr (.inr 2))), 12, 0, 0)
section ZHE
variable {xs : List Int32} {D nc0 ns0 lg0 : Nat} {h0 : zH} {g : zG}
theorem l_173 {bk : Int32} (hb0 : 0 ≤ bk.toInt) (hb1 : bk.toInt ≤ 1) : ∀ (n : Nat) (i : Int32) (j : Nat) (lg : Nat) (h : zH) (nc ns : Nat), zHI g lg h → zLE h0 h → lg0 ≤ lg → nc + 2 * lg0 ≤ nc0 + 2 * lg → ns + 100 * lg0 ≤ ns0 + 100 * lg → 64 * bk.toInt ≤ i.toInt → i.toInt ≤ 64 * bk.toInt + 64 → (j : Int) ≤ i.toInt - 64 * bk.toInt → (64 * bk.toInt + 64 - i.toInt).toNat < n → zEs xs 12 173 7 [some (.ref 44), some (.int bk), some (.int (Int32.ofNat j)), some (.int i)] [] h nc ns (zPm g lg0 h0 nc0 ns0 (some (.inr (.inr (.inr 2)))) 0 0 [.ref 44, .int bk])
  | 0, _, _, _, _, _, _, _, _, _, _, _, _, _, _, hn => absurd hn (Nat.not_lt_zero _)
  | n + 1, i, j, lg, h, nc, ns, hI, hl, a1, a2, a3, c1, c2, c3, hn => by
    have t64 : ((Int8.ofInt 64).toInt32).toInt = 64 := by decide
    have e1 := Int32.toInt_mul (Int8.ofInt 64).toInt32 bk
    rw [t64, zbm (by omega) (by omega)] at e1
    have e2 := Int32.toInt_add ((Int8.ofInt 64).toInt32 * bk) (Int8.ofInt 64).toInt32
    rw [e1, t64, zbm (by omega) (by omega)] at e2
    refine zEs_run 6 rfl ?_
    refine zEs_icmp rfl (fun _ => ?_) (fun gg => ?_)
    · refine zEs_run 3 rfl ?_
      refine zEs_ddiv rfl (zdd_1 (k := j) (by omega)).1 ?_
      exact zEs_end rfl rfl ⟨_, h, lg, _, _, rfl, ⟨_, rfl, j, by omega, rfl⟩, hI, hl, a1, a2, a3⟩
    · have z := zF_ge_f gg
      have z : i.toInt < 64 * bk.toInt + 64 := by
        rw [← e2]
        exact z
      have hi := zinc_le (x := i) (n := 1) (by omega) (by decide) (by decide)
      have J : ∀ (w : Int32) (j' : Nat) (lg' : Nat) (h' : zH) (nc' ns' : Nat), zHI g lg' h' → zLE h0 h' → lg0 ≤ lg' → nc' + 2 * lg0 ≤ nc0 + 2 * lg' → ns' + 100 * lg0 ≤ ns0 + 100 * lg' → (j' : Int) ≤ j + 1 → Int32.ofNat j + w = Int32.ofNat j' → zEs xs 12 173 45 [some (.ref 44), some (.int bk), some (.int (Int32.ofNat j)), some (.int i)] [.int w, .int (Int32.ofNat j)] h' nc' ns' (zPm g lg0 h0 nc0 ns0 (some (.inr (.inr (.inr 2)))) 0 0 [.ref 44, .int bk]) := by
        intro w j' lg' h' nc' ns' f1 f2 f3 f4 f5 f6 f7
        refine zEs_run 4 rfl ?_
        rw [show (fun x y : Int32 => x + y) (Int32.ofNat j) w = Int32.ofNat j' from f7]
        exact l_173 hb0 hb1 n _ j' lg' h' _ _ f1 f2 f3 f4 f5 (by omega) (by omega) (by omega) (by omega)
      obtain ⟨ws, hw⟩ := zth hI
      refine zEs_run 4 rfl ?_
      refine zEs_ctr g_125 rfl (show zcallV 1 7 125 25 (.int i :: .ref 44 :: _) h = _ from zcallV_eq rfl hw (Nat.le_of_ble_eq_true rfl)) (by decide) hI ⟨zP_in, zI_in (by omega) (by omega), trivial⟩ (fun v h1 lg1 nc1 ns1 q I1 le1 l1 k1 s1 => ?_)
      obtain ⟨u, rfl, q⟩ := q
      obtain ⟨x, rfl, -⟩ := zI_eq q
      obtain ⟨ws1, hw1⟩ := zth I1
      refine zEs_ctr g_121 rfl (show zcallV 1 7 121 28 (.int x :: .ref 44 :: _) h1 = _ from zcallV_eq rfl hw1 (Nat.le_of_ble_eq_true rfl)) (by decide) I1 ⟨zP_in, zIA_ok x, trivial⟩ (fun v h2 lg2 nc2 ns2 q I2 le2 l2 k2 s2 => ?_)
      obtain ⟨u2, rfl, q⟩ := q
      obtain ⟨x2, rfl, -⟩ := zI_eq q
      have d1 : ct_125.dc = 0 := rfl
      have d2 : ct_125.ds = 0 := rfl
      have d3 : ct_121.dc = 0 := rfl
      have d4 : ct_121.ds = 0 := rfl
      have K1 : zEs xs 12 173 44 [some (.ref 44), some (.int bk), some (.int (Int32.ofNat j)), some (.int i)] [.int (Int32.ofNat j)] h2 nc2 ns2 (zPm g lg0 h0 nc0 ns0 (some (.inr (.inr (.inr 2)))) 0 0 [.ref 44, .int bk]) := by
        refine zEs_run 1 rfl ?_
        refine J _ j lg2 h2 _ _ I2 (zLE_tr hl (zLE_tr le1 le2)) (by omega) (by omega) (by omega) (by omega) ?_
        show Int32.ofNat j + Int32.ofInt 0 = _
        rw [show Int32.ofInt 0 = 0 from by decide, Int32.add_zero]
      refine zEs_if rfl (fun _ => K1) (fun _ => ?_)
      obtain ⟨vs, m1, m2, m3, m4⟩ := I2.obj
      refine zEs_run 1 rfl ?_
      refine zEs_get rfl m1 rfl (zfld m3 (k := 21) (by decide) rfl) ?_
      refine zEs_run 1 rfl ?_
      obtain ⟨l, p1, p2, p3⟩ := I2.rows 71 101 128 0 1 rfl
      obtain ⟨v9, v1, v2⟩ := zald_eq (nx := 37) (L := [some (.ref 44), some (.int bk), some (.int (Int32.ofNat j)), some (.int i)]) (r := [.int (Int32.ofNat j)]) (j := i) p1 (by omega) (by omega)
      refine zEs_step (dc := 0) (ds := 0) rfl (show zald 101 37 _ (.int i :: .ref 71 :: _) h2 = _ from v2) ?_
      refine zEs_if rfl (fun _ => K1) (fun _ => ?_)
      refine zEs_run 2 rfl ?_
      exact J _ (j + 1) lg2 h2 _ _ I2 (zLE_tr hl (zLE_tr le1 le2)) (by omega) (by omega) (by omega) (by omega) (nI_succ j).symm
theorem g_173 : zGd xs ct_173 := by
  intro g lg h nc ns as hI hS
  obtain ⟨v, w1, rfl, k, k1⟩ := zin2 hS
  obtain rfl := zP_eq k
  obtain ⟨x1, rfl, x1l, x1u, -⟩ := zI_eq k1
  have t64 : ((Int8.ofInt 64).toInt32).toInt = 64 := by decide
  have e1 := Int32.toInt_mul (Int8.ofInt 64).toInt32 x1
  rw [t64, zbm (by omega) (by omega)] at e1
  refine ⟨_, rfl, zEs_run 6 rfl ?_⟩
  have e1 : ((fun x y : Int32 => x * y) (Int8.ofInt 64).toInt32 x1).toInt = 64 * x1.toInt := e1
  exact l_173 x1l x1u _ _ 0 lg h nc ns hI zLE_rf (Nat.le_refl _) (Nat.le_refl _) (Nat.le_refl _) (by omega) (by omega) (by omega) (Nat.lt_succ_self _)
end ZHE
end zg4
section zg5
/-! The reference: methods by their tables, second half. Written by wip/gen/mod.py. -/
def ct_132 : zCt := (132, [(.inr (.inr (.inl (44, 44)))), (.inl (0, 127, 0, 0)), zIA], none, 13, 0, 0)
def ce_132 : List zCe := [(0, [(.inl 16)], (0, 0), [(.inr (.inr (.inl (44, 44)))), (.inl (0, 127, 0, 0)), zIA], []),
  (1, [(.inl 15)], (0, 0), [(.inr (.inr (.inl (44, 44)))), (.inl (0, 127, 0, 0)), zIA], [(.inr (.inr (.inl (44, 44))))]),
  (2, [(.inl 14)], (0, 0), [(.inr (.inr (.inl (44, 44)))), (.inl (0, 127, 0, 0)), zIA], [(.inr (.inr (.inl (44, 44)))), (.inr (.inr (.inl (44, 44))))]),
  (3, [(.inl 13)], (0, 0), [(.inr (.inr (.inl (44, 44)))), (.inl (0, 127, 0, 0)), zIA], [(.inl (0, 127, 0, 2)), (.inr (.inr (.inl (44, 44)))), (.inr (.inr (.inl (44, 44))))]),
  (6, [(.inl 12)], (0, 0), [(.inr (.inr (.inl (44, 44)))), (.inl (0, 127, 0, 0)), zIA], [(.inl (0, 19, 0, 0)), (.inr (.inr (.inl (44, 44))))]),
  (9, [(.inl 11)], (0, 0), [(.inr (.inr (.inl (44, 44)))), (.inl (0, 127, 0, 0)), zIA], []),
  (10, [(.inl 10)], (0, 0), [(.inr (.inr (.inl (44, 44)))), (.inl (0, 127, 0, 0)), zIA], [(.inr (.inr (.inl (44, 44))))]),
  (11, [(.inl 9)], (0, 0), [(.inr (.inr (.inl (44, 44)))), (.inl (0, 127, 0, 0)), zIA], [(.inl (0, 127, 0, 2)), (.inr (.inr (.inl (44, 44))))]),
  (12, [(.inl 8)], (0, 0), [(.inr (.inr (.inl (44, 44)))), (.inl (0, 127, 0, 0)), zIA], [(.inr (.inr (.inl (44, 44)))), (.inl (0, 127, 0, 2)), (.inr (.inr (.inl (44, 44))))]),
  (13, [(.inl 7)], (0, 0), [(.inr (.inr (.inl (44, 44)))), (.inl (0, 127, 0, 0)), zIA], [(.inl ((-2147483648), 2147483647, 0, 3)), (.inr (.inr (.inl (44, 44)))), (.inl (0, 127, 0, 2)), (.inr (.inr (.inl (44, 44))))]),
  (16, [(.inl 6)], (0, 0), [(.inr (.inr (.inl (44, 44)))), (.inl (0, 127, 0, 0)), zIA], [zIA, (.inl (0, 127, 0, 2)), (.inr (.inr (.inl (44, 44))))]),
  (19, [(.inl 5)], (0, 0), [(.inr (.inr (.inl (44, 44)))), (.inl (0, 127, 0, 0)), zIA], []),
  (20, [(.inl 4)], (0, 0), [(.inr (.inr (.inl (44, 44)))), (.inl (0, 127, 0, 0)), zIA], [(.inr (.inr (.inl (44, 44))))]),
  (23, [(.inl 3)], (0, 0), [(.inr (.inr (.inl (44, 44)))), (.inl (0, 127, 0, 0)), zIA], [(.inr (.inr (.inl (71, 71))))]),
  (24, [(.inl 2)], (0, 0), [(.inr (.inr (.inl (44, 44)))), (.inl (0, 127, 0, 0)), zIA], [(.inl (0, 127, 0, 2)), (.inr (.inr (.inl (71, 71))))]),
  (25, [(.inl 1)], (0, 0), [(.inr (.inr (.inl (44, 44)))), (.inl (0, 127, 0, 0)), zIA], [(.inl (0, 0, 0, 0)), (.inl (0, 127, 0, 2)), (.inr (.inr (.inl (71, 71))))]),
  (26, [(.inl 0)], (0, 0), [(.inr (.inr (.inl (44, 44)))), (.inl (0, 127, 0, 0)), zIA], [])]
theorem g_132 {xs : List Int32} : zGd xs ct_132 := zmeth (cs := [ct_119, ct_124, ct_127, ct_129]) ct_132 ce_132 (List.forall_mem_cons.mpr ⟨g_119, List.forall_mem_cons.mpr ⟨g_124, List.forall_mem_cons.mpr ⟨g_127, List.forall_mem_cons.mpr ⟨g_129, fun _ h => absurd h List.not_mem_nil⟩⟩⟩⟩) (by decide +kernel)
def ct_133 : zCt := (133, [(.inr (.inr (.inl (44, 44)))), (.inl (0, 127, 0, 0))], some zIA, 11, 0, 0)
def ce_133 : List zCe := [(0, [(.inl 34)], (0, 0), [(.inr (.inr (.inl (44, 44)))), (.inl (0, 127, 0, 0)), (.inr (.inr (.inr 0))), (.inr (.inr (.inr 0)))], []),
  (1, [(.inl 33)], (0, 0), [(.inr (.inr (.inl (44, 44)))), (.inl (0, 127, 0, 0)), (.inr (.inr (.inr 0))), (.inr (.inr (.inr 0)))], [(.inr (.inr (.inl (44, 44))))]),
  (2, [(.inl 32)], (0, 0), [(.inr (.inr (.inl (44, 44)))), (.inl (0, 127, 0, 0)), (.inr (.inr (.inr 0))), (.inr (.inr (.inr 0)))], [(.inl (0, 127, 0, 2)), (.inr (.inr (.inl (44, 44))))]),
  (5, [(.inl 31)], (0, 0), [(.inr (.inr (.inl (44, 44)))), (.inl (0, 127, 0, 0)), (.inr (.inr (.inr 0))), (.inr (.inr (.inr 0)))], [zIA]),
  (6, [(.inl 30)], (0, 0), [(.inr (.inr (.inl (44, 44)))), (.inl (0, 127, 0, 0)), zIA, (.inr (.inr (.inr 0)))], []),
  (7, [(.inl 29)], (0, 0), [(.inr (.inr (.inl (44, 44)))), (.inl (0, 127, 0, 0)), zIA, (.inr (.inr (.inr 0)))], [(.inr (.inr (.inl (44, 44))))]),
  (8, [(.inl 28)], (0, 0), [(.inr (.inr (.inl (44, 44)))), (.inl (0, 127, 0, 0)), zIA, (.inr (.inr (.inr 0)))], [(.inl ((-2147483648), 2147483647, 0, 3)), (.inr (.inr (.inl (44, 44))))]),
  (11, [(.inl 27)], (0, 0), [(.inr (.inr (.inl (44, 44)))), (.inl (0, 127, 0, 0)), zIA, (.inr (.inr (.inr 0)))], [(.inl (0, 2, 0, 0))]),
  (12, [(.inl 26)], (0, 0), [(.inr (.inr (.inl (44, 44)))), (.inl (0, 127, 0, 0)), zIA, (.inl (0, 2, 0, 0))], []),
  (13, [(.inl 25)], (0, 0), [(.inr (.inr (.inl (44, 44)))), (.inl (0, 127, 0, 0)), zIA, (.inl (0, 2, 0, 0))], [(.inl (0, 2, 0, 4))]),
  (14, [(.inl 24)], (0, 0), [(.inr (.inr (.inl (44, 44)))), (.inl (0, 127, 0, 0)), zIA, (.inl (0, 2, 0, 0))], [(.inl (2, 2, 0, 0)), (.inl (0, 2, 0, 4))]),
  (17, [(.inl 23)], (0, 0), [(.inr (.inr (.inl (44, 44)))), (.inl (0, 127, 0, 0)), zIA, (.inl (2, 2, 0, 0))], []),
  (18, [(.inl 22)], (0, 0), [(.inr (.inr (.inl (44, 44)))), (.inl (0, 127, 0, 0)), zIA, (.inl (2, 2, 0, 0))], [(.inl ((-1), (-1), 0, 0))]),
  (19, [(.inl 21)], (0, 0), [(.inr (.inr (.inl (44, 44)))), (.inl (0, 127, 0, 0)), zIA, (.inl (0, 1, 0, 0))], []),
  (20, [(.inl 20)], (0, 0), [(.inr (.inr (.inl (44, 44)))), (.inl (0, 127, 0, 0)), zIA, (.inl (0, 1, 0, 0))], [(.inl (0, 1, 0, 4))]),
  (21, [(.inl 19)], (0, 0), [(.inr (.inr (.inl (44, 44)))), (.inl (0, 127, 0, 0)), zIA, (.inl (0, 1, 0, 0))], [(.inl (1, 1, 0, 0)), (.inl (0, 1, 0, 4))]),
  (24, [(.inl 18)], (0, 0), [(.inr (.inr (.inl (44, 44)))), (.inl (0, 127, 0, 0)), zIA, (.inl (1, 1, 0, 0))], []),
  (25, [(.inl 17)], (0, 0), [(.inr (.inr (.inl (44, 44)))), (.inl (0, 127, 0, 0)), zIA, (.inl (1, 1, 0, 0))], [(.inr (.inr (.inl (44, 44))))]),
  (26, [(.inl 16)], (0, 0), [(.inr (.inr (.inl (44, 44)))), (.inl (0, 127, 0, 0)), zIA, (.inl (1, 1, 0, 0))], [(.inl (0, 127, 0, 2)), (.inr (.inr (.inl (44, 44))))]),
  (27, [(.inl 15)], (0, 0), [(.inr (.inr (.inl (44, 44)))), (.inl (0, 127, 0, 0)), zIA, (.inl (1, 1, 0, 0))], [(.inr (.inr (.inl (44, 44)))), (.inl (0, 127, 0, 2)), (.inr (.inr (.inl (44, 44))))]),
  (28, [(.inl 14)], (0, 0), [(.inr (.inr (.inl (44, 44)))), (.inl (0, 127, 0, 0)), zIA, (.inl (1, 1, 0, 0))], [(.inl ((-2147483648), 2147483647, 0, 3)), (.inr (.inr (.inl (44, 44)))), (.inl (0, 127, 0, 2)), (.inr (.inr (.inl (44, 44))))]),
  (31, [(.inl 13)], (0, 0), [(.inr (.inr (.inl (44, 44)))), (.inl (0, 127, 0, 0)), zIA, (.inl (1, 1, 0, 0))], [zIA, (.inl (0, 127, 0, 2)), (.inr (.inr (.inl (44, 44))))]),
  (34, [(.inl 12)], (0, 0), [(.inr (.inr (.inl (44, 44)))), (.inl (0, 127, 0, 0)), zIA, (.inl (1, 1, 0, 0))], []),
  (35, [(.inl 11)], (0, 0), [(.inr (.inr (.inl (44, 44)))), (.inl (0, 127, 0, 0)), zIA, (.inl (1, 1, 0, 0))], [(.inr (.inr (.inl (44, 44))))]),
  (38, [(.inl 10)], (0, 0), [(.inr (.inr (.inl (44, 44)))), (.inl (0, 127, 0, 0)), zIA, (.inl (1, 1, 0, 0))], [(.inl (0, 1, 0, 0))]),
  (41, [(.inl 9)], (0, 0), [(.inr (.inr (.inl (44, 44)))), (.inl (0, 127, 0, 0)), zIA, (.inl (1, 1, 0, 0))], []),
  (42, [(.inl 8)], (0, 0), [(.inr (.inr (.inl (44, 44)))), (.inl (0, 127, 0, 0)), zIA, (.inl (1, 1, 0, 0))], [(.inr (.inr (.inl (44, 44))))]),
  (43, [(.inl 7)], (0, 0), [(.inr (.inr (.inl (44, 44)))), (.inl (0, 127, 0, 0)), zIA, (.inl (1, 1, 0, 0))], [(.inl (0, 127, 0, 2)), (.inr (.inr (.inl (44, 44))))]),
  (44, [(.inl 6)], (0, 0), [(.inr (.inr (.inl (44, 44)))), (.inl (0, 127, 0, 0)), zIA, (.inl (1, 1, 0, 0))], [(.inr (.inr (.inl (44, 44)))), (.inl (0, 127, 0, 2)), (.inr (.inr (.inl (44, 44))))]),
  (45, [(.inl 5)], (0, 0), [(.inr (.inr (.inl (44, 44)))), (.inl (0, 127, 0, 0)), zIA, (.inl (1, 1, 0, 0))], [(.inl ((-2147483648), 2147483647, 0, 3)), (.inr (.inr (.inl (44, 44)))), (.inl (0, 127, 0, 2)), (.inr (.inr (.inl (44, 44))))]),
  (48, [(.inl 4)], (0, 0), [(.inr (.inr (.inl (44, 44)))), (.inl (0, 127, 0, 0)), zIA, (.inl (1, 1, 0, 0))], [zIA, (.inl (0, 127, 0, 2)), (.inr (.inr (.inl (44, 44))))]),
  (51, [(.inl 3)], (0, 0), [(.inr (.inr (.inl (44, 44)))), (.inl (0, 127, 0, 0)), zIA, (.inl (0, 1, 0, 0))], []),
  (52, [(.inl 2)], (0, 0), [(.inr (.inr (.inl (44, 44)))), (.inl (0, 127, 0, 0)), zIA, (.inl (0, 1, 0, 0))], [(.inr (.inr (.inl (44, 44))))]),
  (53, [(.inl 1)], (0, 0), [(.inr (.inr (.inl (44, 44)))), (.inl (0, 127, 0, 0)), zIA, (.inl (0, 1, 0, 0))], [(.inl ((-2147483648), 2147483647, 0, 3)), (.inr (.inr (.inl (44, 44))))]),
  (56, [(.inl 0)], (0, 0), [(.inr (.inr (.inl (44, 44)))), (.inl (0, 127, 0, 0)), zIA, (.inl (0, 1, 0, 0))], [zIA])]
theorem g_133 {xs : List Int32} : zGd xs ct_133 := zmeth (cs := [ct_120, ct_121, ct_122, ct_123, ct_125, ct_127, ct_130]) ct_133 ce_133 (List.forall_mem_cons.mpr ⟨g_120, List.forall_mem_cons.mpr ⟨g_121, List.forall_mem_cons.mpr ⟨g_122, List.forall_mem_cons.mpr ⟨g_123, List.forall_mem_cons.mpr ⟨g_125, List.forall_mem_cons.mpr ⟨g_127, List.forall_mem_cons.mpr ⟨g_130, fun _ h => absurd h List.not_mem_nil⟩⟩⟩⟩⟩⟩⟩) (by decide +kernel)
def ct_134 : zCt := (134, [(.inr (.inr (.inl (44, 44)))), (.inl (0, 127, 0, 0))], some zIA, 13, 0, 0)
def ce_134 : List zCe := [(0, [(.inl 72)], (0, 0), [(.inr (.inr (.inl (44, 44)))), (.inl (0, 127, 0, 0)), (.inr (.inr (.inr 0))), (.inr (.inr (.inr 0)))], []),
  (1, [(.inl 71)], (0, 0), [(.inr (.inr (.inl (44, 44)))), (.inl (0, 127, 0, 0)), (.inr (.inr (.inr 0))), (.inr (.inr (.inr 0)))], [(.inr (.inr (.inl (44, 44))))]),
  (2, [(.inl 70)], (0, 0), [(.inr (.inr (.inl (44, 44)))), (.inl (0, 127, 0, 0)), (.inr (.inr (.inr 0))), (.inr (.inr (.inr 0)))], [(.inr (.inr (.inl (44, 44)))), (.inr (.inr (.inl (44, 44))))]),
  (3, [(.inl 69)], (0, 0), [(.inr (.inr (.inl (44, 44)))), (.inl (0, 127, 0, 0)), (.inr (.inr (.inr 0))), (.inr (.inr (.inr 0)))], [(.inl (0, 127, 0, 2)), (.inr (.inr (.inl (44, 44)))), (.inr (.inr (.inl (44, 44))))]),
  (6, [(.inl 68)], (0, 0), [(.inr (.inr (.inl (44, 44)))), (.inl (0, 127, 0, 0)), (.inr (.inr (.inr 0))), (.inr (.inr (.inr 0)))], [(.inl (0, 19, 0, 0)), (.inr (.inr (.inl (44, 44))))]),
  (9, [(.inl 67)], (0, 0), [(.inr (.inr (.inl (44, 44)))), (.inl (0, 127, 0, 0)), (.inr (.inr (.inr 0))), (.inr (.inr (.inr 0)))], []),
  (10, [(.inl 66)], (0, 0), [(.inr (.inr (.inl (44, 44)))), (.inl (0, 127, 0, 0)), (.inr (.inr (.inr 0))), (.inr (.inr (.inr 0)))], [(.inr (.inr (.inl (44, 44))))]),
  (13, [(.inl 65)], (0, 0), [(.inr (.inr (.inl (44, 44)))), (.inl (0, 127, 0, 0)), (.inr (.inr (.inr 0))), (.inr (.inr (.inr 0)))], [(.inr (.inr (.inl (71, 71))))]),
  (14, [(.inl 64)], (0, 0), [(.inr (.inr (.inl (44, 44)))), (.inl (0, 127, 0, 0)), (.inr (.inr (.inr 0))), (.inr (.inr (.inr 0)))], [(.inl (0, 127, 0, 2)), (.inr (.inr (.inl (71, 71))))]),
  (15, [(.inl 63)], (0, 0), [(.inr (.inr (.inl (44, 44)))), (.inl (0, 127, 0, 0)), (.inr (.inr (.inr 0))), (.inr (.inr (.inr 0)))], [(.inl (0, 1, 0, 0))]),
  (18, [(.inl 62)], (0, 0), [(.inr (.inr (.inl (44, 44)))), (.inl (0, 127, 0, 0)), (.inr (.inr (.inr 0))), (.inr (.inr (.inr 0)))], []),
  (19, [(.inl 61)], (0, 0), [(.inr (.inr (.inl (44, 44)))), (.inl (0, 127, 0, 0)), (.inr (.inr (.inr 0))), (.inr (.inr (.inr 0)))], [(.inr (.inr (.inl (44, 44))))]),
  (20, [(.inl 60)], (0, 0), [(.inr (.inr (.inl (44, 44)))), (.inl (0, 127, 0, 0)), (.inr (.inr (.inr 0))), (.inr (.inr (.inr 0)))], [(.inl (0, 127, 0, 2)), (.inr (.inr (.inl (44, 44))))]),
  (23, [(.inl 59)], (0, 0), [(.inr (.inr (.inl (44, 44)))), (.inl (0, 127, 0, 0)), (.inr (.inr (.inr 0))), (.inr (.inr (.inr 0)))], [zIA]),
  (24, [(.inl 58)], (0, 0), [(.inr (.inr (.inl (44, 44)))), (.inl (0, 127, 0, 0)), zIA, (.inr (.inr (.inr 0)))], []),
  (25, [(.inl 57)], (0, 0), [(.inr (.inr (.inl (44, 44)))), (.inl (0, 127, 0, 0)), zIA, (.inr (.inr (.inr 0)))], [(.inl ((-2147483648), 2147483647, 0, 3))]),
  (26, [(.inl 56)], (0, 0), [(.inr (.inr (.inl (44, 44)))), (.inl (0, 127, 0, 0)), zIA, (.inr (.inr (.inr 0)))], [(.inl ((-1), (-1), 0, 0)), (.inl ((-2147483648), 2147483647, 0, 3))]),
  (29, [(.inl 55)], (0, 0), [(.inr (.inr (.inl (44, 44)))), (.inl (0, 127, 0, 0)), zIA, (.inr (.inr (.inr 0)))], []),
  (30, [(.inl 54)], (0, 0), [(.inr (.inr (.inl (44, 44)))), (.inl (0, 127, 0, 0)), zIA, (.inr (.inr (.inr 0)))], [(.inl ((-2147483648), 2147483647, 0, 3))]),
  (31, [(.inl 53)], (0, 0), [(.inr (.inr (.inl (44, 44)))), (.inl (0, 127, 0, 0)), (.inl ((-1), (-1), 0, 0)), (.inr (.inr (.inr 0)))], []),
  (32, [(.inl 52)], (0, 0), [(.inr (.inr (.inl (44, 44)))), (.inl (0, 127, 0, 0)), (.inl ((-1), (-1), 0, 0)), (.inr (.inr (.inr 0)))], [(.inr (.inr (.inl (44, 44))))]),
  (33, [(.inl 51)], (0, 0), [(.inr (.inr (.inl (44, 44)))), (.inl (0, 127, 0, 0)), (.inl ((-1), (-1), 0, 0)), (.inr (.inr (.inr 0)))], [(.inl (0, 127, 0, 2)), (.inr (.inr (.inl (44, 44))))]),
  (34, [(.inl 50)], (0, 0), [(.inr (.inr (.inl (44, 44)))), (.inl (0, 127, 0, 0)), (.inl ((-1), (-1), 0, 0)), (.inr (.inr (.inr 0)))], [(.inl ((-1), (-1), 0, 0)), (.inl (0, 127, 0, 2)), (.inr (.inr (.inl (44, 44))))]),
  (37, [(.inl 49)], (0, 0), [(.inr (.inr (.inl (44, 44)))), (.inl (0, 127, 0, 0)), (.inr (.inr (.inr 0))), (.inr (.inr (.inr 0)))], []),
  (38, [(.inl 48)], (0, 0), [(.inr (.inr (.inl (44, 44)))), (.inl (0, 127, 0, 0)), (.inr (.inr (.inr 0))), (.inr (.inr (.inr 0)))], [(.inl (0, 127, 0, 2))]),
  (41, [(.inl 47)], (0, 0), [(.inr (.inr (.inl (44, 44)))), (.inl (0, 127, 0, 0)), (.inr (.inr (.inr 0))), (.inr (.inr (.inr 0)))], [(.inl (0, 127, 0, 0))]),
  (42, [(.inl 46)], (0, 0), [(.inr (.inr (.inl (44, 44)))), (.inl (0, 127, 0, 0)), (.inl (0, 127, 0, 0)), (.inr (.inr (.inr 0)))], []),
  (43, [(.inl 45)], (0, 0), [(.inr (.inr (.inl (44, 44)))), (.inl (0, 127, 0, 0)), (.inl (0, 127, 0, 0)), (.inr (.inr (.inr 0)))], [(.inr (.inr (.inl (44, 44))))]),
  (46, [(.inl 44)], (0, 0), [(.inr (.inr (.inl (44, 44)))), (.inl (0, 127, 0, 0)), (.inl (0, 127, 0, 0)), (.inr (.inr (.inr 0)))], [(.inl (0, 1, 0, 0))]),
  (49, [(.inl 43)], (0, 0), [(.inr (.inr (.inl (44, 44)))), (.inl (0, 127, 0, 0)), (.inl (0, 127, 0, 0)), (.inr (.inr (.inr 0)))], []),
  (50, [(.inl 42)], (0, 0), [(.inr (.inr (.inl (44, 44)))), (.inl (0, 127, 0, 0)), (.inl (0, 127, 0, 0)), (.inr (.inr (.inr 0)))], [(.inr (.inr (.inl (44, 44))))]),
  (53, [(.inl 41)], (0, 0), [(.inr (.inr (.inl (44, 44)))), (.inl (0, 127, 0, 0)), (.inl (0, 127, 0, 0)), (.inr (.inr (.inr 0)))], [(.inr (.inr (.inl (72, 72))))]),
  (54, [(.inl 40)], (0, 0), [(.inr (.inr (.inl (44, 44)))), (.inl (0, 127, 0, 0)), (.inl (0, 127, 0, 0)), (.inr (.inr (.inr 0)))], [(.inl (0, 127, 0, 3)), (.inr (.inr (.inl (72, 72))))]),
  (55, [(.inl 39)], (0, 0), [(.inr (.inr (.inl (44, 44)))), (.inl (0, 127, 0, 0)), (.inl (0, 127, 0, 0)), (.inr (.inr (.inr 0)))], [(.inl (0, 1, 0, 0))]),
  (58, [(.inl 38)], (0, 0), [(.inr (.inr (.inl (44, 44)))), (.inl (0, 127, 0, 0)), (.inl (0, 127, 0, 0)), (.inr (.inr (.inr 0)))], []),
  (59, [(.inl 37)], (0, 0), [(.inr (.inr (.inl (44, 44)))), (.inl (0, 127, 0, 0)), (.inl (0, 127, 0, 0)), (.inr (.inr (.inr 0)))], [(.inr (.inr (.inl (44, 44))))]),
  (60, [(.inl 36)], (0, 0), [(.inr (.inr (.inl (44, 44)))), (.inl (0, 127, 0, 0)), (.inl (0, 127, 0, 0)), (.inr (.inr (.inr 0)))], [(.inr (.inr (.inl (44, 44)))), (.inr (.inr (.inl (44, 44))))]),
  (61, [(.inl 35)], (0, 0), [(.inr (.inr (.inl (44, 44)))), (.inl (0, 127, 0, 0)), (.inl (0, 127, 0, 0)), (.inr (.inr (.inr 0)))], [(.inl (0, 127, 0, 3)), (.inr (.inr (.inl (44, 44)))), (.inr (.inr (.inl (44, 44))))]),
  (64, [(.inl 34)], (0, 0), [(.inr (.inr (.inl (44, 44)))), (.inl (0, 127, 0, 0)), (.inl (0, 127, 0, 0)), (.inr (.inr (.inr 0)))], [(.inl (0, 19, 0, 0)), (.inr (.inr (.inl (44, 44))))]),
  (67, [(.inl 33)], (0, 0), [(.inr (.inr (.inl (44, 44)))), (.inl (0, 127, 0, 0)), (.inl (0, 127, 0, 0)), (.inr (.inr (.inr 0)))], []),
  (68, [(.inl 32)], (0, 0), [(.inr (.inr (.inl (44, 44)))), (.inl (0, 127, 0, 0)), (.inl (0, 127, 0, 0)), (.inr (.inr (.inr 0)))], [(.inr (.inr (.inl (44, 44))))]),
  (71, [(.inl 31)], (0, 0), [(.inr (.inr (.inl (44, 44)))), (.inl (0, 127, 0, 0)), (.inl (0, 127, 0, 0)), (.inr (.inr (.inr 0)))], [(.inr (.inr (.inl (71, 71))))]),
  (72, [(.inl 30)], (0, 0), [(.inr (.inr (.inl (44, 44)))), (.inl (0, 127, 0, 0)), (.inl (0, 127, 0, 0)), (.inr (.inr (.inr 0)))], [(.inl (0, 127, 0, 3)), (.inr (.inr (.inl (71, 71))))]),
  (73, [(.inl 29)], (0, 0), [(.inr (.inr (.inl (44, 44)))), (.inl (0, 127, 0, 0)), (.inl (0, 127, 0, 0)), (.inr (.inr (.inr 0)))], [(.inl (0, 1, 0, 0))]),
  (76, [(.inl 28)], (0, 0), [(.inr (.inr (.inl (44, 44)))), (.inl (0, 127, 0, 0)), (.inl (0, 127, 0, 0)), (.inr (.inr (.inr 0)))], []),
  (77, [(.inl 27)], (0, 0), [(.inr (.inr (.inl (44, 44)))), (.inl (0, 127, 0, 0)), (.inl (0, 127, 0, 0)), (.inr (.inr (.inr 0)))], [(.inl ((-1), (-1), 0, 0))]),
  (80, [(.inl 26)], (0, 0), [(.inr (.inr (.inl (44, 44)))), (.inl (0, 127, 0, 0)), (.inl (0, 127, 0, 0)), (.inr (.inr (.inr 0)))], []),
  (81, [(.inl 25)], (0, 0), [(.inr (.inr (.inl (44, 44)))), (.inl (0, 127, 0, 0)), (.inl (0, 127, 0, 0)), (.inr (.inr (.inr 0)))], [(.inr (.inr (.inl (44, 44))))]),
  (82, [(.inl 24)], (0, 0), [(.inr (.inr (.inl (44, 44)))), (.inl (0, 127, 0, 0)), (.inl (0, 127, 0, 0)), (.inr (.inr (.inr 0)))], [(.inl (0, 127, 0, 3)), (.inr (.inr (.inl (44, 44))))]),
  (85, [(.inl 23)], (0, 0), [(.inr (.inr (.inl (44, 44)))), (.inl (0, 127, 0, 0)), (.inl (0, 127, 0, 0)), (.inr (.inr (.inr 0)))], [zIA]),
  (86, [(.inl 22)], (0, 0), [(.inr (.inr (.inl (44, 44)))), (.inl (0, 127, 0, 0)), (.inl (0, 127, 0, 0)), zIA], []),
  (87, [(.inl 21)], (0, 0), [(.inr (.inr (.inl (44, 44)))), (.inl (0, 127, 0, 0)), (.inl (0, 127, 0, 0)), zIA], [(.inl ((-2147483648), 2147483647, 0, 4))]),
  (88, [(.inl 20)], (0, 0), [(.inr (.inr (.inl (44, 44)))), (.inl (0, 127, 0, 0)), (.inl (0, 127, 0, 0)), zIA], [(.inl ((-1), (-1), 0, 0)), (.inl ((-2147483648), 2147483647, 0, 4))]),
  (91, [(.inl 19)], (0, 0), [(.inr (.inr (.inl (44, 44)))), (.inl (0, 127, 0, 0)), (.inl (0, 127, 0, 0)), zIA], []),
  (92, [(.inl 18)], (0, 0), [(.inr (.inr (.inl (44, 44)))), (.inl (0, 127, 0, 0)), (.inl (0, 127, 0, 0)), zIA], [(.inr (.inr (.inl (44, 44))))]),
  (93, [(.inl 17)], (0, 0), [(.inr (.inr (.inl (44, 44)))), (.inl (0, 127, 0, 0)), (.inl (0, 127, 0, 0)), zIA], [(.inl (0, 127, 0, 2)), (.inr (.inr (.inl (44, 44))))]),
  (94, [(.inl 16)], (0, 0), [(.inr (.inr (.inl (44, 44)))), (.inl (0, 127, 0, 0)), (.inl (0, 127, 0, 0)), zIA], [(.inr (.inr (.inl (44, 44)))), (.inl (0, 127, 0, 2)), (.inr (.inr (.inl (44, 44))))]),
  (95, [(.inl 15)], (0, 0), [(.inr (.inr (.inl (44, 44)))), (.inl (0, 127, 0, 0)), (.inl (0, 127, 0, 0)), zIA], [(.inl ((-2147483648), 2147483647, 0, 4)), (.inr (.inr (.inl (44, 44)))), (.inl (0, 127, 0, 2)), (.inr (.inr (.inl (44, 44))))]),
  (98, [(.inl 14)], (0, 0), [(.inr (.inr (.inl (44, 44)))), (.inl (0, 127, 0, 0)), (.inl (0, 127, 0, 0)), zIA], [zIA, (.inl (0, 127, 0, 2)), (.inr (.inr (.inl (44, 44))))]),
  (101, [(.inl 13)], (0, 0), [(.inr (.inr (.inl (44, 44)))), (.inl (0, 127, 0, 0)), (.inl (0, 127, 0, 0)), zIA], []),
  (102, [(.inl 12)], (0, 0), [(.inr (.inr (.inl (44, 44)))), (.inl (0, 127, 0, 0)), (.inl (0, 127, 0, 0)), zIA], [(.inr (.inr (.inl (44, 44))))]),
  (105, [(.inl 11)], (0, 0), [(.inr (.inr (.inl (44, 44)))), (.inl (0, 127, 0, 0)), (.inl (0, 127, 0, 0)), zIA], [(.inr (.inr (.inl (71, 71))))]),
  (106, [(.inl 10)], (0, 0), [(.inr (.inr (.inl (44, 44)))), (.inl (0, 127, 0, 0)), (.inl (0, 127, 0, 0)), zIA], [(.inl (0, 127, 0, 2)), (.inr (.inr (.inl (71, 71))))]),
  (107, [(.inl 9)], (0, 0), [(.inr (.inr (.inl (44, 44)))), (.inl (0, 127, 0, 0)), (.inl (0, 127, 0, 0)), zIA], [(.inl (0, 0, 0, 0)), (.inl (0, 127, 0, 2)), (.inr (.inr (.inl (71, 71))))]),
  (108, [(.inl 8)], (0, 0), [(.inr (.inr (.inl (44, 44)))), (.inl (0, 127, 0, 0)), (.inl (0, 127, 0, 0)), zIA], []),
  (109, [(.inl 7)], (0, 0), [(.inr (.inr (.inl (44, 44)))), (.inl (0, 127, 0, 0)), (.inl (0, 127, 0, 0)), zIA], [(.inl ((-2147483648), 2147483647, 0, 4))]),
  (110, [(.inl 6)], (0, 0), [(.inr (.inr (.inl (44, 44)))), (.inl (0, 127, 0, 0)), (.inl (0, 127, 0, 0)), (.inr (.inr (.inr 0)))], []),
  (111, [(.inl 5)], (0, 0), [(.inr (.inr (.inl (44, 44)))), (.inl (0, 127, 0, 0)), (.inl (0, 127, 0, 0)), (.inr (.inr (.inr 0)))], [(.inr (.inr (.inl (44, 44))))]),
  (114, [(.inl 4)], (0, 0), [(.inr (.inr (.inl (44, 44)))), (.inl (0, 127, 0, 0)), (.inl (0, 127, 0, 0)), (.inr (.inr (.inr 0)))], [(.inr (.inr (.inl (71, 71))))]),
  (115, [(.inl 3)], (0, 0), [(.inr (.inr (.inl (44, 44)))), (.inl (0, 127, 0, 0)), (.inl (0, 127, 0, 0)), (.inr (.inr (.inr 0)))], [(.inl (0, 127, 0, 2)), (.inr (.inr (.inl (71, 71))))]),
  (116, [(.inl 2)], (0, 0), [(.inr (.inr (.inl (44, 44)))), (.inl (0, 127, 0, 0)), (.inl (0, 127, 0, 0)), (.inr (.inr (.inr 0)))], [(.inl (1, 1, 0, 0)), (.inl (0, 127, 0, 2)), (.inr (.inr (.inl (71, 71))))]),
  (117, [(.inl 1)], (0, 0), [(.inr (.inr (.inl (44, 44)))), (.inl (0, 127, 0, 0)), (.inl (0, 127, 0, 0)), (.inr (.inr (.inr 0)))], []),
  (118, [(.inl 0)], (0, 0), [(.inr (.inr (.inl (44, 44)))), (.inl (0, 127, 0, 0)), (.inl (0, 127, 0, 0)), (.inr (.inr (.inr 0)))], [(.inl ((-1), (-1), 0, 0))])]
theorem g_134 {xs : List Int32} : zGd xs ct_134 := zmeth (cs := [ct_119, ct_124, ct_127, ct_129, ct_130, ct_131, ct_133]) ct_134 ce_134 (List.forall_mem_cons.mpr ⟨g_119, List.forall_mem_cons.mpr ⟨g_124, List.forall_mem_cons.mpr ⟨g_127, List.forall_mem_cons.mpr ⟨g_129, List.forall_mem_cons.mpr ⟨g_130, List.forall_mem_cons.mpr ⟨g_131, List.forall_mem_cons.mpr ⟨g_133, fun _ h => absurd h List.not_mem_nil⟩⟩⟩⟩⟩⟩⟩) (by decide +kernel)
def ct_136 : zCt := (136, [(.inr (.inr (.inl (44, 44))))], none, 11, 0, 0)
def ce_136 : List zCe := [(0, [(.inl 3), (.inl 0), (.inl 0)], (0, 0), [(.inr (.inr (.inl (44, 44)))), (.inr (.inr (.inr 0))), (.inr (.inr (.inr 0))), (.inr (.inr (.inr 0))), (.inr (.inr (.inr 0)))], []),
  (1, [(.inl 2), (.inl 0), (.inl 0)], (0, 0), [(.inr (.inr (.inl (44, 44)))), (.inr (.inr (.inr 0))), (.inr (.inr (.inr 0))), (.inr (.inr (.inr 0))), (.inr (.inr (.inr 0)))], [(.inl (0, 0, 0, 0))]),
  (2, [(.inl 1), (.inr (8, 1)), (.inl 58)], (0, 0), [(.inr (.inr (.inl (44, 44)))), (.inl (0, 8, 0, 0)), (.inr (.inr (.inr 0))), (.inr (.inr (.inr 0))), (.inr (.inr (.inr 0)))], []),
  (3, [(.inl 1), (.inr (8, 1)), (.inl 57)], (0, 0), [(.inr (.inr (.inl (44, 44)))), (.inl (0, 8, 0, 0)), (.inr (.inr (.inr 0))), (.inr (.inr (.inr 0))), (.inr (.inr (.inr 0)))], [(.inl (0, 8, 0, 2))]),
  (4, [(.inl 1), (.inr (8, 1)), (.inl 56)], (0, 0), [(.inr (.inr (.inl (44, 44)))), (.inl (0, 8, 0, 0)), (.inr (.inr (.inr 0))), (.inr (.inr (.inr 0))), (.inr (.inr (.inr 0)))], [(.inr (.inr (.inl (44, 44)))), (.inl (0, 8, 0, 2))]),
  (7, [(.inl 1), (.inr (8, 1)), (.inl 55)], (0, 0), [(.inr (.inr (.inl (44, 44)))), (.inl (0, 8, 0, 0)), (.inr (.inr (.inr 0))), (.inr (.inr (.inr 0))), (.inr (.inr (.inr 0)))], [(.inl (0, 8, 0, 0)), (.inl (0, 8, 0, 2))]),
  (10, [(.inl 1), (.inr (8, 1)), (.inl 54)], (0, 0), [(.inr (.inr (.inl (44, 44)))), (.inl (0, 7, 0, 0)), (.inr (.inr (.inr 0))), (.inr (.inr (.inr 0))), (.inr (.inr (.inr 0)))], []),
  (11, [(.inl 1), (.inr (8, 1)), (.inl 53)], (0, 0), [(.inr (.inr (.inl (44, 44)))), (.inl (0, 7, 0, 0)), (.inr (.inr (.inr 0))), (.inr (.inr (.inr 0))), (.inr (.inr (.inr 0)))], [(.inr (.inr (.inl (44, 44))))]),
  (14, [(.inl 1), (.inr (8, 1)), (.inl 52)], (0, 0), [(.inr (.inr (.inl (44, 44)))), (.inl (0, 7, 0, 0)), (.inr (.inr (.inr 0))), (.inr (.inr (.inr 0))), (.inr (.inr (.inr 0)))], [(.inl (0, 127, 0, 0))]),
  (15, [(.inl 1), (.inr (8, 1)), (.inl 51)], (0, 0), [(.inr (.inr (.inl (44, 44)))), (.inl (0, 7, 0, 0)), (.inl (0, 127, 0, 0)), (.inr (.inr (.inr 0))), (.inr (.inr (.inr 0)))], []),
  (16, [(.inl 1), (.inr (8, 1)), (.inl 50)], (0, 0), [(.inr (.inr (.inl (44, 44)))), (.inl (0, 7, 0, 0)), (.inl (0, 127, 0, 0)), (.inr (.inr (.inr 0))), (.inr (.inr (.inr 0)))], [(.inr (.inr (.inl (44, 44))))]),
  (17, [(.inl 1), (.inr (8, 1)), (.inl 49)], (0, 0), [(.inr (.inr (.inl (44, 44)))), (.inl (0, 7, 0, 0)), (.inl (0, 127, 0, 0)), (.inr (.inr (.inr 0))), (.inr (.inr (.inr 0)))], [(.inr (.inr (.inl (44, 44)))), (.inr (.inr (.inl (44, 44))))]),
  (20, [(.inl 1), (.inr (8, 1)), (.inl 48)], (0, 0), [(.inr (.inr (.inl (44, 44)))), (.inl (0, 7, 0, 0)), (.inl (0, 127, 0, 0)), (.inr (.inr (.inr 0))), (.inr (.inr (.inr 0)))], [(.inl (0, 127, 0, 0)), (.inr (.inr (.inl (44, 44))))]),
  (21, [(.inl 1), (.inr (8, 1)), (.inl 47)], (0, 0), [(.inr (.inr (.inl (44, 44)))), (.inl (0, 7, 0, 0)), (.inl (0, 127, 0, 0)), (.inr (.inr (.inr 0))), (.inr (.inr (.inr 0)))], [(.inl (1, 1, 0, 0)), (.inl (0, 127, 0, 0)), (.inr (.inr (.inl (44, 44))))]),
  (22, [(.inl 1), (.inr (8, 1)), (.inl 46)], (0, 0), [(.inr (.inr (.inl (44, 44)))), (.inl (0, 7, 0, 0)), (.inl (0, 127, 0, 0)), (.inr (.inr (.inr 0))), (.inr (.inr (.inr 0)))], [(.inl (1, 128, 0, 0)), (.inr (.inr (.inl (44, 44))))]),
  (25, [(.inl 1), (.inr (8, 1)), (.inl 45)], (0, 0), [(.inr (.inr (.inl (44, 44)))), (.inl (0, 7, 0, 0)), (.inl (0, 127, 0, 0)), (.inr (.inr (.inr 0))), (.inr (.inr (.inr 0)))], [(.inl (128, 128, 0, 0)), (.inl (1, 128, 0, 0)), (.inr (.inr (.inl (44, 44))))]),
  (26, [(.inl 1), (.inr (8, 1)), (.inl 44)], (0, 0), [(.inr (.inr (.inl (44, 44)))), (.inl (0, 7, 0, 0)), (.inl (0, 127, 0, 0)), (.inr (.inr (.inr 0))), (.inr (.inr (.inr 0)))], [(.inl (0, 127, 0, 0)), (.inr (.inr (.inl (44, 44))))]),
  (29, [(.inl 1), (.inr (8, 1)), (.inl 43)], (0, 0), [(.inr (.inr (.inl (44, 44)))), (.inl (0, 7, 0, 0)), (.inl (0, 127, 0, 0)), (.inr (.inr (.inr 0))), (.inr (.inr (.inr 0)))], []),
  (30, [(.inl 1), (.inr (8, 1)), (.inl 42)], (0, 0), [(.inr (.inr (.inl (44, 44)))), (.inl (0, 7, 0, 0)), (.inl (0, 127, 0, 0)), (.inr (.inr (.inr 0))), (.inr (.inr (.inr 0)))], [(.inr (.inr (.inl (44, 44))))]),
  (33, [(.inl 1), (.inr (8, 1)), (.inl 41)], (0, 0), [(.inr (.inr (.inl (44, 44)))), (.inl (0, 7, 0, 0)), (.inl (0, 127, 0, 0)), (.inr (.inr (.inr 0))), (.inr (.inr (.inr 0)))], [(.inr (.inr (.inl (71, 71))))]),
  (34, [(.inl 1), (.inr (8, 1)), (.inl 40)], (0, 0), [(.inr (.inr (.inl (44, 44)))), (.inl (0, 7, 0, 0)), (.inl (0, 127, 0, 0)), (.inr (.inr (.inr 0))), (.inr (.inr (.inr 0)))], [(.inl (0, 127, 0, 3)), (.inr (.inr (.inl (71, 71))))]),
  (35, [(.inl 1), (.inr (8, 1)), (.inl 39)], (0, 0), [(.inr (.inr (.inl (44, 44)))), (.inl (0, 7, 0, 0)), (.inl (0, 127, 0, 0)), (.inr (.inr (.inr 0))), (.inr (.inr (.inr 0)))], [(.inl (0, 1, 0, 0))]),
  (38, [(.inl 1), (.inr (8, 1)), (.inl 38)], (0, 0), [(.inr (.inr (.inl (44, 44)))), (.inl (0, 7, 0, 0)), (.inl (0, 127, 0, 0)), (.inr (.inr (.inr 0))), (.inr (.inr (.inr 0)))], []),
  (39, [(.inl 1), (.inr (8, 1)), (.inl 37)], (0, 0), [(.inr (.inr (.inl (44, 44)))), (.inl (0, 7, 0, 0)), (.inl (0, 127, 0, 0)), (.inr (.inr (.inr 0))), (.inr (.inr (.inr 0)))], [(.inr (.inr (.inl (44, 44))))]),
  (42, [(.inl 1), (.inr (8, 1)), (.inl 36)], (0, 0), [(.inr (.inr (.inl (44, 44)))), (.inl (0, 7, 0, 0)), (.inl (0, 127, 0, 0)), (.inr (.inr (.inr 0))), (.inr (.inr (.inr 0)))], [(.inr (.inr (.inl (72, 72))))]),
  (43, [(.inl 1), (.inr (8, 1)), (.inl 35)], (0, 0), [(.inr (.inr (.inl (44, 44)))), (.inl (0, 7, 0, 0)), (.inl (0, 127, 0, 0)), (.inr (.inr (.inr 0))), (.inr (.inr (.inr 0)))], [(.inl (0, 127, 0, 3)), (.inr (.inr (.inl (72, 72))))]),
  (44, [(.inl 1), (.inr (8, 1)), (.inl 34)], (0, 0), [(.inr (.inr (.inl (44, 44)))), (.inl (0, 7, 0, 0)), (.inl (0, 127, 0, 0)), (.inr (.inr (.inr 0))), (.inr (.inr (.inr 0)))], [(.inl (0, 1, 0, 0))]),
  (47, [(.inl 1), (.inr (8, 1)), (.inl 33)], (0, 0), [(.inr (.inr (.inl (44, 44)))), (.inl (0, 7, 0, 0)), (.inl (0, 127, 0, 0)), (.inr (.inr (.inr 0))), (.inr (.inr (.inr 0)))], []),
  (50, [(.inl 1), (.inr (8, 1)), (.inl 32)], (0, 0), [(.inr (.inr (.inl (44, 44)))), (.inl (0, 7, 0, 0)), (.inl (0, 127, 0, 0)), (.inr (.inr (.inr 0))), (.inr (.inr (.inr 0)))], []),
  (51, [(.inl 1), (.inr (8, 1)), (.inl 31)], (0, 0), [(.inr (.inr (.inl (44, 44)))), (.inl (0, 7, 0, 0)), (.inl (0, 127, 0, 0)), (.inr (.inr (.inr 0))), (.inr (.inr (.inr 0)))], [(.inr (.inr (.inl (44, 44))))]),
  (52, [(.inl 1), (.inr (8, 1)), (.inl 30)], (0, 0), [(.inr (.inr (.inl (44, 44)))), (.inl (0, 7, 0, 0)), (.inl (0, 127, 0, 0)), (.inr (.inr (.inr 0))), (.inr (.inr (.inr 0)))], [(.inl (0, 127, 0, 3)), (.inr (.inr (.inl (44, 44))))]),
  (55, [(.inl 1), (.inr (8, 1)), (.inl 29)], (0, 0), [(.inr (.inr (.inl (44, 44)))), (.inl (0, 7, 0, 0)), (.inl (0, 127, 0, 0)), (.inr (.inr (.inr 0))), (.inr (.inr (.inr 0)))], [zIA]),
  (56, [(.inl 1), (.inr (8, 1)), (.inl 28)], (0, 0), [(.inr (.inr (.inl (44, 44)))), (.inl (0, 7, 0, 0)), (.inl (0, 127, 0, 0)), zIA, (.inr (.inr (.inr 0)))], []),
  (57, [(.inl 1), (.inr (8, 1)), (.inl 27)], (0, 0), [(.inr (.inr (.inl (44, 44)))), (.inl (0, 7, 0, 0)), (.inl (0, 127, 0, 0)), zIA, (.inr (.inr (.inr 0)))], [(.inr (.inr (.inl (44, 44))))]),
  (58, [(.inl 1), (.inr (8, 1)), (.inl 26)], (0, 0), [(.inr (.inr (.inl (44, 44)))), (.inl (0, 7, 0, 0)), (.inl (0, 127, 0, 0)), zIA, (.inr (.inr (.inr 0)))], [(.inl ((-2147483648), 2147483647, 0, 4)), (.inr (.inr (.inl (44, 44))))]),
  (61, [(.inl 1), (.inr (8, 1)), (.inl 25)], (0, 0), [(.inr (.inr (.inl (44, 44)))), (.inl (0, 7, 0, 0)), (.inl (0, 127, 0, 0)), zIA, (.inr (.inr (.inr 0)))], [(.inl (0, 2, 0, 0))]),
  (63, [(.inl 1), (.inr (8, 1)), (.inl 24)], (0, 0), [(.inr (.inr (.inl (44, 44)))), (.inl (0, 7, 0, 0)), (.inl (0, 127, 0, 0)), zIA, (.inl (0, 2, 0, 0))], []),
  (65, [(.inl 1), (.inr (8, 1)), (.inl 23)], (0, 0), [(.inr (.inr (.inl (44, 44)))), (.inl (0, 7, 0, 0)), (.inl (0, 127, 0, 0)), zIA, (.inl (0, 2, 0, 0))], [(.inl (0, 2, 0, 5))]),
  (68, [(.inl 1), (.inr (8, 1)), (.inl 22)], (0, 0), [(.inr (.inr (.inl (44, 44)))), (.inl (0, 7, 0, 0)), (.inl (0, 127, 0, 0)), zIA, (.inl (0, 0, 0, 0))], []),
  (71, [(.inl 1), (.inr (8, 1)), (.inl 21)], (0, 0), [(.inr (.inr (.inl (44, 44)))), (.inl (0, 7, 0, 0)), (.inl (0, 127, 0, 0)), zIA, (.inl (1, 2, 0, 0))], []),
  (72, [(.inl 1), (.inr (8, 1)), (.inl 20)], (0, 0), [(.inr (.inr (.inl (44, 44)))), (.inl (0, 7, 0, 0)), (.inl (0, 127, 0, 0)), zIA, (.inl (1, 2, 0, 0))], [(.inr (.inr (.inl (44, 44))))]),
  (73, [(.inl 1), (.inr (8, 1)), (.inl 19)], (0, 0), [(.inr (.inr (.inl (44, 44)))), (.inl (0, 7, 0, 0)), (.inl (0, 127, 0, 0)), zIA, (.inl (1, 2, 0, 0))], [(.inl (0, 127, 0, 3)), (.inr (.inr (.inl (44, 44))))]),
  (74, [(.inl 1), (.inr (8, 1)), (.inl 18)], (0, 0), [(.inr (.inr (.inl (44, 44)))), (.inl (0, 7, 0, 0)), (.inl (0, 127, 0, 0)), zIA, (.inl (1, 2, 0, 0))], [(.inr (.inr (.inl (44, 44)))), (.inl (0, 127, 0, 3)), (.inr (.inr (.inl (44, 44))))]),
  (75, [(.inl 1), (.inr (8, 1)), (.inl 17)], (0, 0), [(.inr (.inr (.inl (44, 44)))), (.inl (0, 7, 0, 0)), (.inl (0, 127, 0, 0)), zIA, (.inl (1, 2, 0, 0))], [(.inl ((-2147483648), 2147483647, 0, 4)), (.inr (.inr (.inl (44, 44)))), (.inl (0, 127, 0, 3)), (.inr (.inr (.inl (44, 44))))]),
  (78, [(.inl 1), (.inr (8, 1)), (.inl 16)], (0, 0), [(.inr (.inr (.inl (44, 44)))), (.inl (0, 7, 0, 0)), (.inl (0, 127, 0, 0)), zIA, (.inl (1, 2, 0, 0))], [zIA, (.inl (0, 127, 0, 3)), (.inr (.inr (.inl (44, 44))))]),
  (81, [(.inl 1), (.inr (8, 1)), (.inl 15)], (0, 0), [(.inr (.inr (.inl (44, 44)))), (.inl (0, 7, 0, 0)), (.inl (0, 127, 0, 0)), zIA, (.inl (1, 2, 0, 0))], []),
  (83, [(.inl 1), (.inr (8, 1)), (.inl 14)], (0, 0), [(.inr (.inr (.inl (44, 44)))), (.inl (0, 7, 0, 0)), (.inl (0, 127, 0, 0)), zIA, (.inl (1, 2, 0, 0))], [(.inl (1, 2, 0, 5))]),
  (84, [(.inl 1), (.inr (8, 1)), (.inl 13)], (0, 0), [(.inr (.inr (.inl (44, 44)))), (.inl (0, 7, 0, 0)), (.inl (0, 127, 0, 0)), zIA, (.inl (1, 2, 0, 0))], [(.inl (1, 1, 0, 0)), (.inl (1, 2, 0, 5))]),
  (87, [(.inl 1), (.inr (8, 1)), (.inl 12)], (0, 0), [(.inr (.inr (.inl (44, 44)))), (.inl (0, 7, 0, 0)), (.inl (0, 127, 0, 0)), zIA, (.inl (1, 1, 0, 0))], []),
  (88, [(.inl 1), (.inr (8, 1)), (.inl 11)], (0, 0), [(.inr (.inr (.inl (44, 44)))), (.inl (0, 7, 0, 0)), (.inl (0, 127, 0, 0)), zIA, (.inl (1, 1, 0, 0))], [(.inr (.inr (.inl (44, 44))))]),
  (89, [(.inl 1), (.inr (8, 1)), (.inl 10)], (0, 0), [(.inr (.inr (.inl (44, 44)))), (.inl (0, 7, 0, 0)), (.inl (0, 127, 0, 0)), zIA, (.inl (1, 1, 0, 0))], [(.inl (0, 127, 0, 3)), (.inr (.inr (.inl (44, 44))))]),
  (90, [(.inl 1), (.inr (8, 1)), (.inl 9)], (0, 0), [(.inr (.inr (.inl (44, 44)))), (.inl (0, 7, 0, 0)), (.inl (0, 127, 0, 0)), zIA, (.inl (1, 1, 0, 0))], [(.inr (.inr (.inl (44, 44)))), (.inl (0, 127, 0, 3)), (.inr (.inr (.inl (44, 44))))]),
  (91, [(.inl 1), (.inr (8, 1)), (.inl 8)], (0, 0), [(.inr (.inr (.inl (44, 44)))), (.inl (0, 7, 0, 0)), (.inl (0, 127, 0, 0)), zIA, (.inl (1, 1, 0, 0))], [(.inl ((-2147483648), 2147483647, 0, 4)), (.inr (.inr (.inl (44, 44)))), (.inl (0, 127, 0, 3)), (.inr (.inr (.inl (44, 44))))]),
  (94, [(.inl 1), (.inr (8, 1)), (.inl 7)], (0, 0), [(.inr (.inr (.inl (44, 44)))), (.inl (0, 7, 0, 0)), (.inl (0, 127, 0, 0)), zIA, (.inl (1, 1, 0, 0))], [zIA, (.inl (0, 127, 0, 3)), (.inr (.inr (.inl (44, 44))))]),
  (97, [(.inl 1), (.inr (8, 1)), (.inl 6)], (0, 0), [(.inr (.inr (.inl (44, 44)))), (.inl (0, 7, 0, 0)), (.inl (0, 127, 0, 0)), zIA, (.inl (1, 1, 0, 0))], []),
  (100, [(.inl 1), (.inr (8, 1)), (.inl 5)], (0, 0), [(.inr (.inr (.inl (44, 44)))), (.inl (0, 7, 0, 0)), (.inl (0, 127, 0, 0)), zIA, (.inl (2, 2, 0, 0))], []),
  (101, [(.inl 1), (.inr (8, 1)), (.inl 4)], (0, 0), [(.inr (.inr (.inl (44, 44)))), (.inl (0, 7, 0, 0)), (.inl (0, 127, 0, 0)), zIA, (.inl (2, 2, 0, 0))], [(.inr (.inr (.inl (44, 44))))]),
  (104, [(.inl 1), (.inr (8, 1)), (.inl 3)], (0, 0), [(.inr (.inr (.inl (44, 44)))), (.inl (0, 7, 0, 0)), (.inl (0, 127, 0, 0)), zIA, (.inl (2, 2, 0, 0))], [(.inr (.inr (.inl (71, 71))))]),
  (105, [(.inl 1), (.inr (8, 1)), (.inl 2)], (0, 0), [(.inr (.inr (.inl (44, 44)))), (.inl (0, 7, 0, 0)), (.inl (0, 127, 0, 0)), zIA, (.inl (2, 2, 0, 0))], [(.inl (0, 127, 0, 3)), (.inr (.inr (.inl (71, 71))))]),
  (106, [(.inl 1), (.inr (8, 1)), (.inl 1)], (0, 0), [(.inr (.inr (.inl (44, 44)))), (.inl (0, 7, 0, 0)), (.inl (0, 127, 0, 0)), zIA, (.inl (2, 2, 0, 0))], [(.inl (1, 1, 0, 0)), (.inl (0, 127, 0, 3)), (.inr (.inr (.inl (71, 71))))]),
  (107, [(.inl 1), (.inr (8, 1)), (.inl 0)], (0, 0), [(.inr (.inr (.inl (44, 44)))), (.inl (0, 7, 0, 0)), (.inl (0, 127, 0, 0)), (.inr (.inr (.inr 0))), (.inr (.inr (.inr 0)))], []),
  (110, [(.inl 1), (.inr (8, 1)), (.inl 59)], (0, 0), [(.inr (.inr (.inl (44, 44)))), (.inl (1, 8, 0, 0)), (.inl (0, 127, 0, 0)), (.inr (.inr (.inr 0))), (.inr (.inr (.inr 0)))], []),
  (113, [(.inl 0), (.inl 0), (.inl 0)], (0, 0), [(.inr (.inr (.inl (44, 44)))), (.inl (0, 8, 0, 0)), (.inr (.inr (.inr 0))), (.inr (.inr (.inr 0))), (.inr (.inr (.inr 0)))], [])]
theorem g_136 {xs : List Int32} : zGd xs ct_136 := zmeth (cs := [ct_120, ct_121, ct_122, ct_125, ct_127, ct_130]) ct_136 ce_136 (List.forall_mem_cons.mpr ⟨g_120, List.forall_mem_cons.mpr ⟨g_121, List.forall_mem_cons.mpr ⟨g_122, List.forall_mem_cons.mpr ⟨g_125, List.forall_mem_cons.mpr ⟨g_127, List.forall_mem_cons.mpr ⟨g_130, fun _ h => absurd h List.not_mem_nil⟩⟩⟩⟩⟩⟩) (by decide +kernel)
def ct_140 : zCt := (140, [(.inr (.inr (.inl (44, 44)))), zIA, zIA], some zIA, 14, 0, 0)
def ce_140 : List zCe := [(0, [(.inl 54)], (0, 0), [(.inr (.inr (.inl (44, 44)))), zIA, zIA], []),
  (1, [(.inl 53)], (0, 0), [(.inr (.inr (.inl (44, 44)))), zIA, zIA], [(.inr (.inr (.inl (44, 44))))]),
  (2, [(.inl 52)], (0, 0), [(.inr (.inr (.inl (44, 44)))), zIA, zIA], [(.inl (0, 0, 0, 0)), (.inr (.inr (.inl (44, 44))))]),
  (5, [(.inl 51)], (0, 0), [(.inr (.inr (.inl (44, 44)))), zIA, zIA], []),
  (6, [(.inl 50)], (0, 0), [(.inr (.inr (.inl (44, 44)))), zIA, zIA], [(.inl ((-2147483648), 2147483647, 0, 2))]),
  (9, [(.inl 49)], (0, 0), [(.inr (.inr (.inl (44, 44)))), zIA, zIA], [(.inr (.inl (1, 0, 127, 0)))]),
  (12, [(.inl 48)], (0, 0), [(.inr (.inr (.inl (44, 44)))), zIA, zIA], []),
  (13, [(.inl 47)], (0, 0), [(.inr (.inr (.inl (44, 44)))), zIA, zIA], [(.inr (.inr (.inl (44, 44))))]),
  (14, [(.inl 46)], (0, 0), [(.inr (.inr (.inl (44, 44)))), zIA, zIA], [(.inl (1, 1, 0, 0)), (.inr (.inr (.inl (44, 44))))]),
  (17, [(.inl 45)], (0, 0), [(.inr (.inr (.inl (44, 44)))), zIA, zIA], [(.inl (0, 0, 0, 0))]),
  (18, [(.inl 44)], (0, 0), [(.inr (.inr (.inl (44, 44)))), (.inl (0, 127, 0, 0)), zIA], []),
  (19, [(.inl 43)], (0, 0), [(.inr (.inr (.inl (44, 44)))), (.inl (0, 127, 0, 0)), zIA], [(.inl ((-2147483648), 2147483647, 0, 3))]),
  (20, [(.inl 42)], (0, 0), [(.inr (.inr (.inl (44, 44)))), (.inl (0, 127, 0, 0)), zIA], [(.inl (0, 0, 0, 0)), (.inl ((-2147483648), 2147483647, 0, 3))]),
  (21, [(.inl 41)], (0, 0), [(.inr (.inr (.inl (44, 44)))), (.inl (0, 127, 0, 0)), zIA], [(.inl (1, 1, 0, 0)), (.inl (0, 0, 0, 0)), (.inl ((-2147483648), 2147483647, 0, 3))]),
  (22, [(.inl 40)], (0, 0), [(.inr (.inr (.inl (44, 44)))), (.inl (0, 127, 0, 0)), zIA], [(.inr (.inr (.inl (44, 44)))), (.inl (1, 1, 0, 0)), (.inl (0, 0, 0, 0)), (.inl ((-2147483648), 2147483647, 0, 3))]),
  (25, [(.inl 39)], (0, 0), [(.inr (.inr (.inl (44, 44)))), (.inl (0, 127, 0, 0)), zIA], [(.inl (4, 10, 0, 0)), (.inl (1, 1, 0, 0)), (.inl (0, 0, 0, 0)), (.inl ((-2147483648), 2147483647, 0, 3))]),
  (26, [(.inl 38)], (0, 0), [(.inr (.inr (.inl (44, 44)))), (.inl (0, 127, 0, 0)), zIA], [zIA, (.inl (0, 0, 0, 0)), (.inl ((-2147483648), 2147483647, 0, 3))]),
  (27, [(.inl 37)], (0, 0), [(.inr (.inr (.inl (44, 44)))), (.inl (0, 127, 0, 0)), zIA], [(.inl (1, 1, 0, 0)), zIA, (.inl (0, 0, 0, 0)), (.inl ((-2147483648), 2147483647, 0, 3))]),
  (28, [(.inl 36)], (0, 0), [(.inr (.inr (.inl (44, 44)))), (.inl (0, 127, 0, 0)), zIA], [zIA, (.inl (0, 0, 0, 0)), (.inl ((-2147483648), 2147483647, 0, 3))]),
  (31, [(.inl 35)], (0, 0), [(.inr (.inr (.inl (44, 44)))), (.inl (0, 127, 0, 0)), zIA], [(.inr (.inl (2, 0, 2147483647, 0)))]),
  (34, [(.inl 34)], (0, 0), [(.inr (.inr (.inl (44, 44)))), (.inl (0, 127, 0, 0)), zIA], []),
  (35, [(.inl 33)], (0, 0), [(.inr (.inr (.inl (44, 44)))), (.inl (0, 127, 0, 0)), zIA], [(.inr (.inr (.inl (44, 44))))]),
  (36, [(.inl 32)], (0, 0), [(.inr (.inr (.inl (44, 44)))), (.inl (0, 127, 0, 0)), zIA], [(.inl (2, 2, 0, 0)), (.inr (.inr (.inl (44, 44))))]),
  (39, [(.inl 31)], (0, 0), [(.inr (.inr (.inl (44, 44)))), (.inl (0, 127, 0, 0)), zIA], [(.inl (0, 0, 0, 0))]),
  (40, [(.inl 30)], (0, 0), [(.inr (.inr (.inl (44, 44)))), (.inl (0, 127, 0, 0)), (.inl (0, 2147483647, 0, 0))], []),
  (41, [(.inl 29)], (0, 0), [(.inr (.inr (.inl (44, 44)))), (.inl (0, 127, 0, 0)), (.inl (0, 2147483647, 0, 0))], [(.inr (.inr (.inl (44, 44))))]),
  (44, [(.inl 28)], (0, 0), [(.inr (.inr (.inl (44, 44)))), (.inl (0, 127, 0, 0)), (.inl (0, 2147483647, 0, 0))], [(.inr (.inr (.inl (72, 72))))]),
  (45, [(.inl 27)], (0, 0), [(.inr (.inr (.inl (44, 44)))), (.inl (0, 127, 0, 0)), (.inl (0, 2147483647, 0, 0))], [(.inl (0, 127, 0, 2)), (.inr (.inr (.inl (72, 72))))]),
  (46, [(.inl 26)], (0, 0), [(.inr (.inr (.inl (44, 44)))), (.inl (0, 127, 0, 0)), (.inl (0, 2147483647, 0, 0))], [(.inl (0, 1, 0, 0))]),
  (49, [(.inl 25)], (0, 0), [(.inr (.inr (.inl (44, 44)))), (.inl (0, 127, 0, 0)), (.inl (0, 2147483647, 0, 0))], []),
  (50, [(.inl 24)], (0, 0), [(.inr (.inr (.inl (44, 44)))), (.inl (0, 127, 0, 0)), (.inl (0, 2147483647, 0, 0))], [(.inr (.inr (.inl (44, 44))))]),
  (51, [(.inl 23)], (0, 0), [(.inr (.inr (.inl (44, 44)))), (.inl (0, 127, 0, 0)), (.inl (0, 2147483647, 0, 0))], [(.inl (3, 3, 0, 0)), (.inr (.inr (.inl (44, 44))))]),
  (54, [(.inl 22)], (0, 0), [(.inr (.inr (.inl (44, 44)))), (.inl (0, 127, 0, 0)), (.inl (0, 2147483647, 0, 0))], [(.inl (0, 0, 0, 0))]),
  (55, [(.inl 21)], (0, 0), [(.inr (.inr (.inl (44, 44)))), (.inl (0, 127, 0, 0)), (.inl (0, 2147483647, 0, 0))], []),
  (56, [(.inl 20)], (0, 0), [(.inr (.inr (.inl (44, 44)))), (.inl (0, 127, 0, 0)), (.inl (0, 2147483647, 0, 0))], [(.inr (.inr (.inl (44, 44))))]),
  (57, [(.inl 19)], (0, 0), [(.inr (.inr (.inl (44, 44)))), (.inl (0, 127, 0, 0)), (.inl (0, 2147483647, 0, 0))], [(.inl (0, 127, 0, 2)), (.inr (.inr (.inl (44, 44))))]),
  (58, [(.inl 18)], (0, 0), [(.inr (.inr (.inl (44, 44)))), (.inl (0, 127, 0, 0)), (.inl (0, 2147483647, 0, 0))], [(.inl (0, 2147483647, 0, 3)), (.inl (0, 127, 0, 2)), (.inr (.inr (.inl (44, 44))))]),
  (61, [(.inl 17)], (0, 0), [(.inr (.inr (.inl (44, 44)))), (.inl (0, 127, 0, 0)), (.inl (0, 2147483647, 0, 0))], []),
  (62, [(.inl 16)], (0, 0), [(.inr (.inr (.inl (44, 44)))), (.inl (0, 127, 0, 0)), (.inl (0, 2147483647, 0, 0))], [(.inr (.inr (.inl (44, 44))))]),
  (65, [(.inl 15)], (0, 0), [(.inr (.inr (.inl (44, 44)))), (.inl (0, 127, 0, 0)), (.inl (0, 2147483647, 0, 0))], [(.inl (0, 1, 0, 0))]),
  (68, [(.inl 14)], (0, 0), [(.inr (.inr (.inl (44, 44)))), (.inl (0, 127, 0, 0)), (.inl (0, 2147483647, 0, 0))], []),
  (69, [(.inl 13)], (0, 0), [(.inr (.inr (.inl (44, 44)))), (.inl (0, 127, 0, 0)), (.inl (0, 2147483647, 0, 0))], [(.inr (.inr (.inl (44, 44))))]),
  (72, [(.inl 12)], (0, 0), [(.inr (.inr (.inl (44, 44)))), (.inl (0, 127, 0, 0)), (.inl (0, 2147483647, 0, 0))], [(.inr (.inr (.inl (72, 72))))]),
  (73, [(.inl 11)], (0, 0), [(.inr (.inr (.inl (44, 44)))), (.inl (0, 127, 0, 0)), (.inl (0, 2147483647, 0, 0))], [(.inl (0, 127, 0, 2)), (.inr (.inr (.inl (72, 72))))]),
  (76, [(.inl 10)], (0, 0), [(.inr (.inr (.inl (44, 44)))), (.inl (0, 127, 0, 0)), (.inl (0, 2147483647, 0, 0))], [(.inl (0, 127, 0, 0)), (.inr (.inr (.inl (72, 72))))]),
  (77, [(.inl 9)], (0, 0), [(.inr (.inr (.inl (44, 44)))), (.inl (0, 127, 0, 0)), (.inl (0, 2147483647, 0, 0))], [(.inl (0, 1, 0, 0))]),
  (80, [(.inl 8)], (0, 0), [(.inr (.inr (.inl (44, 44)))), (.inl (0, 127, 0, 0)), (.inl (0, 2147483647, 0, 0))], []),
  (81, [(.inl 7)], (0, 0), [(.inr (.inr (.inl (44, 44)))), (.inl (0, 127, 0, 0)), (.inl (0, 2147483647, 0, 0))], [(.inr (.inr (.inl (44, 44))))]),
  (82, [(.inl 6)], (0, 0), [(.inr (.inr (.inl (44, 44)))), (.inl (0, 127, 0, 0)), (.inl (0, 2147483647, 0, 0))], [(.inl (0, 127, 0, 2)), (.inr (.inr (.inl (44, 44))))]),
  (85, [(.inl 5)], (0, 0), [(.inr (.inr (.inl (44, 44)))), (.inl (0, 127, 0, 0)), (.inl (0, 2147483647, 0, 0))], [(.inl (0, 127, 0, 0)), (.inr (.inr (.inl (44, 44))))]),
  (86, [(.inl 4)], (0, 0), [(.inr (.inr (.inl (44, 44)))), (.inl (0, 127, 0, 0)), (.inl (0, 2147483647, 0, 0))], [(.inl (0, 2147483647, 0, 3)), (.inl (0, 127, 0, 0)), (.inr (.inr (.inl (44, 44))))]),
  (89, [(.inl 3)], (0, 0), [(.inr (.inr (.inl (44, 44)))), (.inl (0, 127, 0, 0)), (.inl (0, 2147483647, 0, 0))], []),
  (90, [(.inl 2)], (0, 0), [(.inr (.inr (.inl (44, 44)))), (.inl (0, 127, 0, 0)), (.inl (0, 2147483647, 0, 0))], [(.inr (.inr (.inl (44, 44))))]),
  (91, [(.inl 1)], (0, 0), [(.inr (.inr (.inl (44, 44)))), (.inl (0, 127, 0, 0)), (.inl (0, 2147483647, 0, 0))], [(.inl (0, 127, 0, 2)), (.inr (.inr (.inl (44, 44))))]),
  (94, [(.inl 0)], (0, 0), [(.inr (.inr (.inl (44, 44)))), (.inl (0, 127, 0, 0)), (.inl (0, 2147483647, 0, 0))], [zIA])]
theorem g_140 {xs : List Int32} : zGd xs ct_140 := zmeth (cs := [ct_111, ct_125, ct_131, ct_132, ct_138]) ct_140 ce_140 (List.forall_mem_cons.mpr ⟨g_111, List.forall_mem_cons.mpr ⟨g_125, List.forall_mem_cons.mpr ⟨g_131, List.forall_mem_cons.mpr ⟨g_132, List.forall_mem_cons.mpr ⟨g_138, fun _ h => absurd h List.not_mem_nil⟩⟩⟩⟩⟩) (by decide +kernel)
def ct_141 : zCt := (141, [(.inr (.inr (.inl (44, 44)))), zIA], some zIA, 14, 0, 0)
def ce_141 : List zCe := [(0, [(.inl 22)], (0, 0), [(.inr (.inr (.inl (44, 44)))), zIA], []),
  (1, [(.inl 21)], (0, 0), [(.inr (.inr (.inl (44, 44)))), zIA], [(.inr (.inr (.inl (44, 44))))]),
  (2, [(.inl 20)], (0, 0), [(.inr (.inr (.inl (44, 44)))), zIA], [(.inl (0, 0, 0, 0)), (.inr (.inr (.inl (44, 44))))]),
  (5, [(.inl 19)], (0, 0), [(.inr (.inr (.inl (44, 44)))), zIA], []),
  (6, [(.inl 18)], (0, 0), [(.inr (.inr (.inl (44, 44)))), zIA], [(.inl ((-2147483648), 2147483647, 0, 2))]),
  (9, [(.inl 17)], (0, 0), [(.inr (.inr (.inl (44, 44)))), zIA], [(.inr (.inl (1, 0, 127, 0)))]),
  (12, [(.inl 16)], (0, 0), [(.inr (.inr (.inl (44, 44)))), zIA], []),
  (13, [(.inl 15)], (0, 0), [(.inr (.inr (.inl (44, 44)))), zIA], [(.inr (.inr (.inl (44, 44))))]),
  (14, [(.inl 14)], (0, 0), [(.inr (.inr (.inl (44, 44)))), zIA], [(.inl (1, 1, 0, 0)), (.inr (.inr (.inl (44, 44))))]),
  (17, [(.inl 13)], (0, 0), [(.inr (.inr (.inl (44, 44)))), zIA], [(.inl (0, 0, 0, 0))]),
  (18, [(.inl 12)], (0, 0), [(.inr (.inr (.inl (44, 44)))), (.inl (0, 127, 0, 0))], []),
  (19, [(.inl 11)], (0, 0), [(.inr (.inr (.inl (44, 44)))), (.inl (0, 127, 0, 0))], [(.inr (.inr (.inl (44, 44))))]),
  (22, [(.inl 10)], (0, 0), [(.inr (.inr (.inl (44, 44)))), (.inl (0, 127, 0, 0))], [(.inr (.inr (.inl (72, 72))))]),
  (23, [(.inl 9)], (0, 0), [(.inr (.inr (.inl (44, 44)))), (.inl (0, 127, 0, 0))], [(.inl (0, 127, 0, 2)), (.inr (.inr (.inl (72, 72))))]),
  (24, [(.inl 8)], (0, 0), [(.inr (.inr (.inl (44, 44)))), (.inl (0, 127, 0, 0))], [(.inl (0, 1, 0, 0))]),
  (27, [(.inl 7)], (0, 0), [(.inr (.inr (.inl (44, 44)))), (.inl (0, 127, 0, 0))], []),
  (28, [(.inl 6)], (0, 0), [(.inr (.inr (.inl (44, 44)))), (.inl (0, 127, 0, 0))], [(.inr (.inr (.inl (44, 44))))]),
  (29, [(.inl 5)], (0, 0), [(.inr (.inr (.inl (44, 44)))), (.inl (0, 127, 0, 0))], [(.inl (2, 2, 0, 0)), (.inr (.inr (.inl (44, 44))))]),
  (32, [(.inl 4)], (0, 0), [(.inr (.inr (.inl (44, 44)))), (.inl (0, 127, 0, 0))], [(.inl (0, 0, 0, 0))]),
  (33, [(.inl 3)], (0, 0), [(.inr (.inr (.inl (44, 44)))), (.inl (0, 127, 0, 0))], []),
  (34, [(.inl 2)], (0, 0), [(.inr (.inr (.inl (44, 44)))), (.inl (0, 127, 0, 0))], [(.inr (.inr (.inl (44, 44))))]),
  (35, [(.inl 1)], (0, 0), [(.inr (.inr (.inl (44, 44)))), (.inl (0, 127, 0, 0))], [(.inl (0, 127, 0, 2)), (.inr (.inr (.inl (44, 44))))]),
  (38, [(.inl 0)], (0, 0), [(.inr (.inr (.inl (44, 44)))), (.inl (0, 127, 0, 0))], [zIA])]
theorem g_141 {xs : List Int32} : zGd xs ct_141 := zmeth (cs := [ct_111, ct_134, ct_138]) ct_141 ce_141 (List.forall_mem_cons.mpr ⟨g_111, List.forall_mem_cons.mpr ⟨g_134, List.forall_mem_cons.mpr ⟨g_138, fun _ h => absurd h List.not_mem_nil⟩⟩⟩) (by decide +kernel)
def ct_145 : zCt := (145, [(.inr (.inr (.inl (44, 44)))), zIA, zIA, zIA], some zIA, 13, 0, 0)
def ce_145 : List zCe := [(0, [(.inl 42), (.inl 0), (.inl 0)], (0, 0), [(.inr (.inr (.inl (44, 44)))), zIA, zIA, zIA, (.inr (.inr (.inr 0))), (.inr (.inr (.inr 0)))], []),
  (1, [(.inl 41), (.inl 0), (.inl 0)], (0, 0), [(.inr (.inr (.inl (44, 44)))), zIA, zIA, zIA, (.inr (.inr (.inr 0))), (.inr (.inr (.inr 0)))], [(.inr (.inr (.inl (44, 44))))]),
  (2, [(.inl 40), (.inl 0), (.inl 0)], (0, 0), [(.inr (.inr (.inl (44, 44)))), zIA, zIA, zIA, (.inr (.inr (.inr 0))), (.inr (.inr (.inr 0)))], [(.inl (0, 0, 0, 0)), (.inr (.inr (.inl (44, 44))))]),
  (5, [(.inl 39), (.inl 0), (.inl 0)], (0, 0), [(.inr (.inr (.inl (44, 44)))), zIA, zIA, zIA, (.inr (.inr (.inr 0))), (.inr (.inr (.inr 0)))], []),
  (6, [(.inl 38), (.inl 0), (.inl 0)], (0, 0), [(.inr (.inr (.inl (44, 44)))), zIA, zIA, zIA, (.inr (.inr (.inr 0))), (.inr (.inr (.inr 0)))], [(.inl ((-2147483648), 2147483647, 0, 2))]),
  (7, [(.inl 37), (.inl 0), (.inl 0)], (0, 0), [(.inr (.inr (.inl (44, 44)))), zIA, zIA, zIA, (.inr (.inr (.inr 0))), (.inr (.inr (.inr 0)))], [(.inl (0, 0, 0, 0)), (.inl ((-2147483648), 2147483647, 0, 2))]),
  (8, [(.inl 36), (.inl 0), (.inl 0)], (0, 0), [(.inr (.inr (.inl (44, 44)))), zIA, zIA, zIA, (.inr (.inr (.inr 0))), (.inr (.inr (.inr 0)))], [(.inl (1, 1, 0, 0)), (.inl (0, 0, 0, 0)), (.inl ((-2147483648), 2147483647, 0, 2))]),
  (11, [(.inl 35), (.inl 0), (.inl 0)], (0, 0), [(.inr (.inr (.inl (44, 44)))), zIA, zIA, zIA, (.inr (.inr (.inr 0))), (.inr (.inr (.inr 0)))], [(.inr (.inl (1, 0, 1, 0)))]),
  (14, [(.inl 34), (.inl 0), (.inl 0)], (0, 0), [(.inr (.inr (.inl (44, 44)))), (.inl (0, 1, 0, 0)), zIA, zIA, (.inr (.inr (.inr 0))), (.inr (.inr (.inr 0)))], []),
  (15, [(.inl 33), (.inl 0), (.inl 0)], (0, 0), [(.inr (.inr (.inl (44, 44)))), (.inl (0, 1, 0, 0)), zIA, zIA, (.inr (.inr (.inr 0))), (.inr (.inr (.inr 0)))], [(.inl ((-2147483648), 2147483647, 0, 3))]),
  (16, [(.inl 32), (.inl 0), (.inl 0)], (0, 0), [(.inr (.inr (.inl (44, 44)))), (.inl (0, 1, 0, 0)), zIA, zIA, (.inr (.inr (.inr 0))), (.inr (.inr (.inr 0)))], [(.inl (0, 0, 0, 0)), (.inl ((-2147483648), 2147483647, 0, 3))]),
  (18, [(.inl 31), (.inl 0), (.inl 0)], (0, 0), [(.inr (.inr (.inl (44, 44)))), (.inl (0, 1, 0, 0)), zIA, zIA, (.inr (.inr (.inr 0))), (.inr (.inr (.inr 0)))], [(.inl (7, 7, 0, 0)), (.inl (0, 0, 0, 0)), (.inl ((-2147483648), 2147483647, 0, 3))]),
  (21, [(.inl 30), (.inl 0), (.inl 0)], (0, 0), [(.inr (.inr (.inl (44, 44)))), (.inl (0, 1, 0, 0)), zIA, zIA, (.inr (.inr (.inr 0))), (.inr (.inr (.inr 0)))], [(.inr (.inl (2, 0, 7, 0)))]),
  (24, [(.inl 3), (.inl 0), (.inl 0)], (0, 0), [(.inr (.inr (.inl (44, 44)))), zIA, zIA, zIA, (.inr (.inr (.inr 0))), (.inr (.inr (.inr 0)))], []),
  (25, [(.inl 2), (.inl 0), (.inl 0)], (0, 0), [(.inr (.inr (.inl (44, 44)))), zIA, zIA, zIA, (.inr (.inr (.inr 0))), (.inr (.inr (.inr 0)))], [(.inr (.inr (.inl (44, 44))))]),
  (26, [(.inl 1), (.inl 0), (.inl 0)], (0, 0), [(.inr (.inr (.inl (44, 44)))), zIA, zIA, zIA, (.inr (.inr (.inr 0))), (.inr (.inr (.inr 0)))], [(.inl (1, 1, 0, 0)), (.inr (.inr (.inl (44, 44))))]),
  (29, [(.inl 0), (.inl 0), (.inl 0)], (0, 0), [(.inr (.inr (.inl (44, 44)))), zIA, zIA, zIA, (.inr (.inr (.inr 0))), (.inr (.inr (.inr 0)))], [(.inl (0, 0, 0, 0))]),
  (30, [(.inl 29), (.inl 0), (.inl 0)], (0, 0), [(.inr (.inr (.inl (44, 44)))), (.inl (0, 1, 0, 0)), (.inl (0, 7, 0, 0)), zIA, (.inr (.inr (.inr 0))), (.inr (.inr (.inr 0)))], []),
  (31, [(.inl 28), (.inl 0), (.inl 0)], (0, 0), [(.inr (.inr (.inl (44, 44)))), (.inl (0, 1, 0, 0)), (.inl (0, 7, 0, 0)), zIA, (.inr (.inr (.inr 0))), (.inr (.inr (.inr 0)))], [(.inl ((-2147483648), 2147483647, 0, 4))]),
  (32, [(.inl 27), (.inl 0), (.inl 0)], (0, 0), [(.inr (.inr (.inl (44, 44)))), (.inl (0, 1, 0, 0)), (.inl (0, 7, 0, 0)), zIA, (.inr (.inr (.inr 0))), (.inr (.inr (.inr 0)))], [(.inl (1, 1, 0, 0)), (.inl ((-2147483648), 2147483647, 0, 4))]),
  (34, [(.inl 26), (.inl 0), (.inl 0)], (0, 0), [(.inr (.inr (.inl (44, 44)))), (.inl (0, 1, 0, 0)), (.inl (0, 7, 0, 0)), zIA, (.inr (.inr (.inr 0))), (.inr (.inr (.inr 0)))], [(.inl (100, 100, 0, 0)), (.inl (1, 1, 0, 0)), (.inl ((-2147483648), 2147483647, 0, 4))]),
  (37, [(.inl 25), (.inl 0), (.inl 0)], (0, 0), [(.inr (.inr (.inl (44, 44)))), (.inl (0, 1, 0, 0)), (.inl (0, 7, 0, 0)), zIA, (.inr (.inr (.inr 0))), (.inr (.inr (.inr 0)))], [(.inr (.inl (3, 1, 100, 0)))]),
  (40, [(.inl 24), (.inl 0), (.inl 0)], (0, 0), [(.inr (.inr (.inl (44, 44)))), (.inl (0, 1, 0, 0)), (.inl (0, 7, 0, 0)), zIA, (.inr (.inr (.inr 0))), (.inr (.inr (.inr 0)))], []),
  (41, [(.inl 23), (.inl 0), (.inl 0)], (0, 0), [(.inr (.inr (.inl (44, 44)))), (.inl (0, 1, 0, 0)), (.inl (0, 7, 0, 0)), zIA, (.inr (.inr (.inr 0))), (.inr (.inr (.inr 0)))], [(.inr (.inr (.inl (44, 44))))]),
  (42, [(.inl 22), (.inl 0), (.inl 0)], (0, 0), [(.inr (.inr (.inl (44, 44)))), (.inl (0, 1, 0, 0)), (.inl (0, 7, 0, 0)), zIA, (.inr (.inr (.inr 0))), (.inr (.inr (.inr 0)))], [(.inl (2, 2, 0, 0)), (.inr (.inr (.inl (44, 44))))]),
  (45, [(.inl 21), (.inl 0), (.inl 0)], (0, 0), [(.inr (.inr (.inl (44, 44)))), (.inl (0, 1, 0, 0)), (.inl (0, 7, 0, 0)), zIA, (.inr (.inr (.inr 0))), (.inr (.inr (.inr 0)))], [(.inl (0, 0, 0, 0))]),
  (46, [(.inl 20), (.inl 0), (.inl 0)], (0, 0), [(.inr (.inr (.inl (44, 44)))), (.inl (0, 1, 0, 0)), (.inl (0, 7, 0, 0)), (.inl (1, 100, 0, 0)), (.inr (.inr (.inr 0))), (.inr (.inr (.inr 0)))], []),
  (47, [(.inl 19), (.inl 0), (.inl 0)], (0, 0), [(.inr (.inr (.inl (44, 44)))), (.inl (0, 1, 0, 0)), (.inl (0, 7, 0, 0)), (.inl (1, 100, 0, 0)), (.inr (.inr (.inr 0))), (.inr (.inr (.inr 0)))], [(.inr (.inr (.inl (44, 44))))]),
  (50, [(.inl 18), (.inl 0), (.inl 0)], (0, 0), [(.inr (.inr (.inl (44, 44)))), (.inl (0, 1, 0, 0)), (.inl (0, 7, 0, 0)), (.inl (1, 100, 0, 0)), (.inr (.inr (.inr 0))), (.inr (.inr (.inr 0)))], [(.inr (.inr (.inl (69, 69))))]),
  (51, [(.inl 17), (.inl 0), (.inl 0)], (0, 0), [(.inr (.inr (.inl (44, 44)))), (.inl (0, 1, 0, 0)), (.inl (0, 7, 0, 0)), (.inl (1, 100, 0, 0)), (.inr (.inr (.inr 0))), (.inr (.inr (.inr 0)))], [(.inl (0, 1, 0, 2)), (.inr (.inr (.inl (69, 69))))]),
  (53, [(.inl 16), (.inl 0), (.inl 0)], (0, 0), [(.inr (.inr (.inl (44, 44)))), (.inl (0, 1, 0, 0)), (.inl (0, 7, 0, 0)), (.inl (1, 100, 0, 0)), (.inr (.inr (.inr 0))), (.inr (.inr (.inr 0)))], [(.inl (8, 8, 0, 0)), (.inl (0, 1, 0, 2)), (.inr (.inr (.inl (69, 69))))]),
  (54, [(.inl 15), (.inl 0), (.inl 0)], (0, 0), [(.inr (.inr (.inl (44, 44)))), (.inl (0, 1, 0, 0)), (.inl (0, 7, 0, 0)), (.inl (1, 100, 0, 0)), (.inr (.inr (.inr 0))), (.inr (.inr (.inr 0)))], [(.inl (0, 8, 0, 0)), (.inr (.inr (.inl (69, 69))))]),
  (55, [(.inl 14), (.inl 0), (.inl 0)], (0, 0), [(.inr (.inr (.inl (44, 44)))), (.inl (0, 1, 0, 0)), (.inl (0, 7, 0, 0)), (.inl (1, 100, 0, 0)), (.inr (.inr (.inr 0))), (.inr (.inr (.inr 0)))], [(.inl (0, 7, 0, 3)), (.inl (0, 8, 0, 0)), (.inr (.inr (.inl (69, 69))))]),
  (56, [(.inl 13), (.inl 0), (.inl 0)], (0, 0), [(.inr (.inr (.inl (44, 44)))), (.inl (0, 1, 0, 0)), (.inl (0, 7, 0, 0)), (.inl (1, 100, 0, 0)), (.inr (.inr (.inr 0))), (.inr (.inr (.inr 0)))], [(.inl (0, 15, 0, 0)), (.inr (.inr (.inl (69, 69))))]),
  (57, [(.inl 12), (.inl 0), (.inl 0)], (0, 0), [(.inr (.inr (.inl (44, 44)))), (.inl (0, 1, 0, 0)), (.inl (0, 7, 0, 0)), (.inl (1, 100, 0, 0)), (.inr (.inr (.inr 0))), (.inr (.inr (.inr 0)))], [(.inl (0, 19, 0, 0))]),
  (59, [(.inl 11), (.inl 0), (.inl 0)], (0, 0), [(.inr (.inr (.inl (44, 44)))), (.inl (0, 1, 0, 0)), (.inl (0, 7, 0, 0)), (.inl (1, 100, 0, 0)), (.inl (0, 19, 0, 0)), (.inr (.inr (.inr 0)))], []),
  (60, [(.inl 10), (.inl 0), (.inl 0)], (0, 0), [(.inr (.inr (.inl (44, 44)))), (.inl (0, 1, 0, 0)), (.inl (0, 7, 0, 0)), (.inl (1, 100, 0, 0)), (.inl (0, 19, 0, 0)), (.inr (.inr (.inr 0)))], [(.inl (0, 0, 0, 0))]),
  (62, [(.inl 9), (.inr (100, 5)), (.inl 6)], (0, 0), [(.inr (.inr (.inl (44, 44)))), (.inl (0, 1, 0, 0)), (.inl (0, 7, 0, 0)), (.inl (1, 100, 0, 0)), (.inl (0, 19, 0, 0)), (.inl (0, 100, 0, 0))], []),
  (64, [(.inl 9), (.inr (100, 5)), (.inl 5)], (0, 0), [(.inr (.inr (.inl (44, 44)))), (.inl (0, 1, 0, 0)), (.inl (0, 7, 0, 0)), (.inl (1, 100, 0, 0)), (.inl (0, 19, 0, 0)), (.inl (0, 100, 0, 0))], [(.inl (0, 100, 0, 6))]),
  (65, [(.inl 9), (.inr (100, 5)), (.inl 4)], (0, 0), [(.inr (.inr (.inl (44, 44)))), (.inl (0, 1, 0, 0)), (.inl (0, 7, 0, 0)), (.inl (1, 100, 0, 0)), (.inl (0, 19, 0, 0)), (.inl (0, 100, 0, 0))], [(.inl (1, 100, 0, 4)), (.inl (0, 100, 0, 6))]),
  (68, [(.inl 9), (.inr (100, 5)), (.inl 3)], (0, 0), [(.inr (.inr (.inl (44, 44)))), (.inl (0, 1, 0, 0)), (.inl (0, 7, 0, 0)), (.inl (1, 100, 0, 0)), (.inl (0, 19, 0, 0)), (.inl (0, 99, 0, 0))], []),
  (69, [(.inl 9), (.inr (100, 5)), (.inl 2)], (0, 0), [(.inr (.inr (.inl (44, 44)))), (.inl (0, 1, 0, 0)), (.inl (0, 7, 0, 0)), (.inl (1, 100, 0, 0)), (.inl (0, 19, 0, 0)), (.inl (0, 99, 0, 0))], [(.inr (.inr (.inl (44, 44))))]),
  (71, [(.inl 9), (.inr (100, 5)), (.inl 1)], (0, 0), [(.inr (.inr (.inl (44, 44)))), (.inl (0, 1, 0, 0)), (.inl (0, 7, 0, 0)), (.inl (1, 100, 0, 0)), (.inl (0, 19, 0, 0)), (.inl (0, 99, 0, 0))], [(.inl (0, 19, 0, 5)), (.inr (.inr (.inl (44, 44))))]),
  (74, [(.inl 9), (.inr (100, 5)), (.inl 0)], (0, 0), [(.inr (.inr (.inl (44, 44)))), (.inl (0, 1, 0, 0)), (.inl (0, 7, 0, 0)), (.inl (1, 100, 0, 0)), (.inl (0, 19, 0, 0)), (.inl (0, 99, 0, 0))], []),
  (77, [(.inl 9), (.inr (100, 5)), (.inl 7)], (0, 0), [(.inr (.inr (.inl (44, 44)))), (.inl (0, 1, 0, 0)), (.inl (0, 7, 0, 0)), (.inl (1, 100, 0, 0)), (.inl (0, 19, 0, 0)), (.inl (1, 100, 0, 0))], []),
  (80, [(.inl 8), (.inl 0), (.inl 0)], (0, 0), [(.inr (.inr (.inl (44, 44)))), (.inl (0, 1, 0, 0)), (.inl (0, 7, 0, 0)), (.inl (1, 100, 0, 0)), (.inl (0, 19, 0, 0)), (.inl (1, 100, 0, 0))], []),
  (81, [(.inl 7), (.inl 0), (.inl 0)], (0, 0), [(.inr (.inr (.inl (44, 44)))), (.inl (0, 1, 0, 0)), (.inl (0, 7, 0, 0)), (.inl (1, 100, 0, 0)), (.inl (0, 19, 0, 0)), (.inl (1, 100, 0, 0))], [(.inr (.inr (.inl (44, 44))))]),
  (84, [(.inl 6), (.inl 0), (.inl 0)], (0, 0), [(.inr (.inr (.inl (44, 44)))), (.inl (0, 1, 0, 0)), (.inl (0, 7, 0, 0)), (.inl (1, 100, 0, 0)), (.inl (0, 19, 0, 0)), (.inl (1, 100, 0, 0))], [(.inr (.inr (.inl (67, 67))))]),
  (86, [(.inl 5), (.inl 0), (.inl 0)], (0, 0), [(.inr (.inr (.inl (44, 44)))), (.inl (0, 1, 0, 0)), (.inl (0, 7, 0, 0)), (.inl (1, 100, 0, 0)), (.inl (0, 19, 0, 0)), (.inl (1, 100, 0, 0))], [(.inl (0, 19, 0, 5)), (.inr (.inr (.inl (67, 67))))]),
  (87, [(.inl 4), (.inl 0), (.inl 0)], (0, 0), [(.inr (.inr (.inl (44, 44)))), (.inl (0, 1, 0, 0)), (.inl (0, 7, 0, 0)), (.inl (1, 100, 0, 0)), (.inl (0, 19, 0, 0)), (.inl (1, 100, 0, 0))], [zIA])]
theorem g_145 {xs : List Int32} : zGd xs ct_145 := zmeth (cs := [ct_111, ct_129]) ct_145 ce_145 (List.forall_mem_cons.mpr ⟨g_111, List.forall_mem_cons.mpr ⟨g_129, fun _ h => absurd h List.not_mem_nil⟩⟩) (by decide +kernel)
def ct_172 : zCt := (172, [(.inr (.inr (.inl (44, 44)))), zIA], some zIA, 9, 1, 18)
def ce_172 : List zCe := [(0, [(.inl 15)], (1, 18), [(.inr (.inr (.inl (44, 44)))), zIA], []),
  (1, [(.inl 14)], (1, 18), [(.inr (.inr (.inl (44, 44)))), zIA], [(.inr (.inr (.inl (44, 44))))]),
  (2, [(.inl 13)], (1, 18), [(.inr (.inr (.inl (44, 44)))), zIA], [(.inl (0, 0, 0, 0)), (.inr (.inr (.inl (44, 44))))]),
  (5, [(.inl 12)], (1, 18), [(.inr (.inr (.inl (44, 44)))), zIA], []),
  (6, [(.inl 11)], (1, 18), [(.inr (.inr (.inl (44, 44)))), zIA], [(.inl ((-2147483648), 2147483647, 0, 2))]),
  (7, [(.inl 10)], (1, 18), [(.inr (.inr (.inl (44, 44)))), zIA], [(.inl (0, 0, 0, 0)), (.inl ((-2147483648), 2147483647, 0, 2))]),
  (9, [(.inl 9)], (1, 18), [(.inr (.inr (.inl (44, 44)))), zIA], [(.inl (17, 17, 0, 0)), (.inl (0, 0, 0, 0)), (.inl ((-2147483648), 2147483647, 0, 2))]),
  (12, [(.inl 8)], (1, 18), [(.inr (.inr (.inl (44, 44)))), zIA], [(.inr (.inl (1, 0, 17, 0)))]),
  (15, [(.inl 7)], (0, 0), [(.inr (.inr (.inl (44, 44)))), zIA], []),
  (16, [(.inl 6)], (0, 0), [(.inr (.inr (.inl (44, 44)))), zIA], [(.inr (.inr (.inl (44, 44))))]),
  (17, [(.inl 5)], (0, 0), [(.inr (.inr (.inl (44, 44)))), zIA], [(.inl (1, 1, 0, 0)), (.inr (.inr (.inl (44, 44))))]),
  (20, [(.inl 4)], (0, 0), [(.inr (.inr (.inl (44, 44)))), zIA], [(.inl (0, 0, 0, 0))]),
  (21, [(.inl 3)], (1, 18), [(.inr (.inr (.inl (44, 44)))), (.inl (0, 17, 0, 0))], []),
  (22, [(.inl 2)], (1, 18), [(.inr (.inr (.inl (44, 44)))), (.inl (0, 17, 0, 0))], [(.inr (.inr (.inl (44, 44))))]),
  (23, [(.inl 1)], (1, 18), [(.inr (.inr (.inl (44, 44)))), (.inl (0, 17, 0, 0))], [(.inl (0, 17, 0, 2)), (.inr (.inr (.inl (44, 44))))]),
  (26, [(.inl 0)], (0, 0), [(.inr (.inr (.inl (44, 44)))), (.inl (0, 17, 0, 0))], [zIA])]
theorem g_172 {xs : List Int32} : zGd xs ct_172 := zmeth (cs := [ct_111, ct_171]) ct_172 ce_172 (List.forall_mem_cons.mpr ⟨g_111, List.forall_mem_cons.mpr ⟨g_171, fun _ h => absurd h List.not_mem_nil⟩⟩) (by decide +kernel)
def ct_174 : zCt := (174, [(.inr (.inr (.inl (44, 44)))), zIA], some (.inr (.inr (.inr 4))), 13, 0, 0)
def ce_174 : List zCe := [(0, [(.inl 16)], (0, 0), [(.inr (.inr (.inl (44, 44)))), zIA], []),
  (1, [(.inl 15)], (0, 0), [(.inr (.inr (.inl (44, 44)))), zIA], [(.inr (.inr (.inl (44, 44))))]),
  (2, [(.inl 14)], (0, 0), [(.inr (.inr (.inl (44, 44)))), zIA], [(.inl (0, 0, 0, 0)), (.inr (.inr (.inl (44, 44))))]),
  (5, [(.inl 13)], (0, 0), [(.inr (.inr (.inl (44, 44)))), zIA], []),
  (6, [(.inl 12)], (0, 0), [(.inr (.inr (.inl (44, 44)))), zIA], [(.inl ((-2147483648), 2147483647, 0, 2))]),
  (7, [(.inl 11)], (0, 0), [(.inr (.inr (.inl (44, 44)))), zIA], [(.inl (0, 0, 0, 0)), (.inl ((-2147483648), 2147483647, 0, 2))]),
  (8, [(.inl 10)], (0, 0), [(.inr (.inr (.inl (44, 44)))), zIA], [(.inl (1, 1, 0, 0)), (.inl (0, 0, 0, 0)), (.inl ((-2147483648), 2147483647, 0, 2))]),
  (11, [(.inl 9)], (0, 0), [(.inr (.inr (.inl (44, 44)))), zIA], [(.inr (.inl (1, 0, 1, 0)))]),
  (14, [(.inl 8)], (0, 0), [(.inr (.inr (.inl (44, 44)))), zIA], []),
  (15, [(.inl 7)], (0, 0), [(.inr (.inr (.inl (44, 44)))), zIA], [(.inr (.inr (.inl (44, 44))))]),
  (16, [(.inl 6)], (0, 0), [(.inr (.inr (.inl (44, 44)))), zIA], [(.inl (1, 1, 0, 0)), (.inr (.inr (.inl (44, 44))))]),
  (19, [(.inl 5)], (0, 0), [(.inr (.inr (.inl (44, 44)))), zIA], [(.inl (0, 0, 0, 0))]),
  (20, [(.inl 4)], (0, 0), [(.inr (.inr (.inl (44, 44)))), zIA], [(.inr (.inr (.inr 4)))]),
  (21, [(.inl 3)], (0, 0), [(.inr (.inr (.inl (44, 44)))), (.inl (0, 1, 0, 0))], []),
  (22, [(.inl 2)], (0, 0), [(.inr (.inr (.inl (44, 44)))), (.inl (0, 1, 0, 0))], [(.inr (.inr (.inl (44, 44))))]),
  (23, [(.inl 1)], (0, 0), [(.inr (.inr (.inl (44, 44)))), (.inl (0, 1, 0, 0))], [(.inl (0, 1, 0, 2)), (.inr (.inr (.inl (44, 44))))]),
  (26, [(.inl 0)], (0, 0), [(.inr (.inr (.inl (44, 44)))), (.inl (0, 1, 0, 0))], [(.inr (.inr (.inr 2)))])]
theorem g_174 {xs : List Int32} : zGd xs ct_174 := zmeth (cs := [ct_111, ct_173]) ct_174 ce_174 (List.forall_mem_cons.mpr ⟨g_111, List.forall_mem_cons.mpr ⟨g_173, fun _ h => absurd h List.not_mem_nil⟩⟩) (by decide +kernel)
end zg5
section zg6
/-! The reference's methods, by hand: digest. -/
def ce_dgA : List zCe := [(0, [(.inl 7)], (0, 0), [(.inr (.inr (.inl (44, 44)))), (.inr (.inr (.inr 0))), (.inr (.inr (.inr 0))), (.inr (.inr (.inr 0))), (.inr (.inr (.inr 0))), (.inr (.inr (.inr 0))), (.inr (.inr (.inr 0)))], []),
  (1, [(.inl 6)], (0, 0), [(.inr (.inr (.inl (44, 44)))), (.inr (.inr (.inr 0))), (.inr (.inr (.inr 0))), (.inr (.inr (.inr 0))), (.inr (.inr (.inr 0))), (.inr (.inr (.inr 0))), (.inr (.inr (.inr 0)))], [(.inr (.inr (.inl (44, 44))))]),
  (2, [(.inl 5)], (0, 0), [(.inr (.inr (.inl (44, 44)))), (.inr (.inr (.inr 0))), (.inr (.inr (.inr 0))), (.inr (.inr (.inr 0))), (.inr (.inr (.inr 0))), (.inr (.inr (.inr 0))), (.inr (.inr (.inr 0)))], [(.inl (0, 0, 0, 0)), (.inr (.inr (.inl (44, 44))))]),
  (5, [(.inl 4)], (0, 0), [(.inr (.inr (.inl (44, 44)))), (.inr (.inr (.inr 0))), (.inr (.inr (.inr 0))), (.inr (.inr (.inr 0))), (.inr (.inr (.inr 0))), (.inr (.inr (.inr 0))), (.inr (.inr (.inr 0)))], []),
  (8, [(.inl 3)], (0, 0), [(.inr (.inr (.inl (44, 44)))), (.inr (.inr (.inr 0))), (.inr (.inr (.inr 0))), (.inr (.inr (.inr 0))), (.inr (.inr (.inr 0))), (.inr (.inr (.inr 0))), (.inr (.inr (.inr 0)))], [(.inr (.inr (.inr 1)))]),
  (9, [(.inl 2)], (0, 0), [(.inr (.inr (.inl (44, 44)))), (.inr (.inr (.inr 1))), (.inr (.inr (.inr 0))), (.inr (.inr (.inr 0))), (.inr (.inr (.inr 0))), (.inr (.inr (.inr 0))), (.inr (.inr (.inr 0)))], []),
  (10, [(.inl 1)], (0, 0), [(.inr (.inr (.inl (44, 44)))), (.inr (.inr (.inr 1))), (.inr (.inr (.inr 0))), (.inr (.inr (.inr 0))), (.inr (.inr (.inr 0))), (.inr (.inr (.inr 0))), (.inr (.inr (.inr 0)))], [(.inl (0, 0, 0, 0))]),
  (11, [(.inl 0)], (0, 0), [(.inr (.inr (.inl (44, 44)))), (.inr (.inr (.inr 1))), (.inr (.inr (.inr 0))), (.inl (0, 0, 0, 0)), (.inr (.inr (.inr 0))), (.inr (.inr (.inr 0))), (.inr (.inr (.inr 0)))], [])]
def cs_dgA : List zCt := []
theorem gs_dgA {xs : List Int32} : ∀ ct ∈ cs_dgA, zGd xs ct := fun _ h => absurd h List.not_mem_nil
def ce_dgB : List zCe := [(36, [(.inl 56), (.inl 0), (.inl 0), (.inl 0), (.inl 0), (.inl 0), (.inl 0)], (0, 0), [(.inr (.inr (.inl (44, 44)))), (.inr (.inr (.inr 1))), (.inr (.inr (.inr 0))), (.inl (18, 18, 0, 0)), (.inr (.inr (.inr 0))), (.inr (.inr (.inr 0))), (.inr (.inr (.inr 0)))], []),
  (37, [(.inl 55), (.inl 0), (.inl 0), (.inl 0), (.inl 0), (.inl 0), (.inl 0)], (0, 0), [(.inr (.inr (.inl (44, 44)))), (.inr (.inr (.inr 1))), (.inr (.inr (.inr 0))), (.inl (18, 18, 0, 0)), (.inr (.inr (.inr 0))), (.inr (.inr (.inr 0))), (.inr (.inr (.inr 0)))], [(.inr (.inr (.inl (44, 44))))]),
  (40, [(.inl 54), (.inl 0), (.inl 0), (.inl 0), (.inl 0), (.inl 0), (.inl 0)], (0, 0), [(.inr (.inr (.inl (44, 44)))), (.inr (.inr (.inr 1))), (.inr (.inr (.inr 0))), (.inl (18, 18, 0, 0)), (.inr (.inr (.inr 0))), (.inr (.inr (.inr 0))), (.inr (.inr (.inr 0)))], [(.inr (.inr (.inr 5)))]),
  (41, [(.inl 53), (.inl 0), (.inl 0), (.inl 0), (.inl 0), (.inl 0), (.inl 0)], (0, 0), [(.inr (.inr (.inl (44, 44)))), (.inr (.inr (.inr 1))), (.inr (.inr (.inr 0))), (.inr (.inr (.inr 5))), (.inr (.inr (.inr 0))), (.inr (.inr (.inr 0))), (.inr (.inr (.inr 0)))], []),
  (42, [(.inl 52), (.inl 0), (.inl 0), (.inl 0), (.inl 0), (.inl 0), (.inl 0)], (0, 0), [(.inr (.inr (.inl (44, 44)))), (.inr (.inr (.inr 1))), (.inr (.inr (.inr 0))), (.inr (.inr (.inr 5))), (.inr (.inr (.inr 0))), (.inr (.inr (.inr 0))), (.inr (.inr (.inr 0)))], [(.inr (.inr (.inr 5)))]),
  (43, [(.inl 51), (.inl 0), (.inl 0), (.inl 0), (.inl 0), (.inl 0), (.inl 0)], (0, 0), [(.inr (.inr (.inl (44, 44)))), (.inr (.inr (.inr 1))), (.inr (.inr (.inr 0))), (.inr (.inr (.inr 5))), (.inr (.inr (.inr 0))), (.inr (.inr (.inr 0))), (.inr (.inr (.inr 0)))], [(.inl (8, 16, 8, 0))]),
  (45, [(.inl 50), (.inl 0), (.inl 0), (.inl 0), (.inl 0), (.inl 0), (.inl 0)], (0, 0), [(.inr (.inr (.inl (44, 44)))), (.inr (.inr (.inr 1))), (.inr (.inr (.inr 0))), (.inr (.inr (.inr 5))), (.inl (8, 16, 8, 0)), (.inr (.inr (.inr 0))), (.inr (.inr (.inr 0)))], []),
  (46, [(.inl 49), (.inl 0), (.inl 0), (.inl 0), (.inl 0), (.inl 0), (.inl 0)], (0, 0), [(.inr (.inr (.inl (44, 44)))), (.inr (.inr (.inr 1))), (.inr (.inr (.inr 0))), (.inr (.inr (.inr 5))), (.inl (8, 16, 8, 0)), (.inr (.inr (.inr 0))), (.inr (.inr (.inr 0)))], [(.inl (0, 0, 0, 0))]),
  (48, [(.inl 48), (.inr (16, 5)), (.inl 14), (.inl 0), (.inl 0), (.inl 0), (.inl 0)], (0, 0), [(.inr (.inr (.inl (44, 44)))), (.inr (.inr (.inr 1))), (.inr (.inr (.inr 0))), (.inr (.inr (.inr 5))), (.inl (8, 16, 8, 0)), (.inl (0, 16, 0, 0)), (.inr (.inr (.inr 0)))], []),
  (50, [(.inl 48), (.inr (16, 5)), (.inl 13), (.inl 0), (.inl 0), (.inl 0), (.inl 0)], (0, 0), [(.inr (.inr (.inl (44, 44)))), (.inr (.inr (.inr 1))), (.inr (.inr (.inr 0))), (.inr (.inr (.inr 5))), (.inl (8, 16, 8, 0)), (.inl (0, 16, 0, 0)), (.inr (.inr (.inr 0)))], [(.inl (0, 16, 0, 6))]),
  (52, [(.inl 48), (.inr (16, 5)), (.inl 12), (.inl 0), (.inl 0), (.inl 0), (.inl 0)], (0, 0), [(.inr (.inr (.inl (44, 44)))), (.inr (.inr (.inr 1))), (.inr (.inr (.inr 0))), (.inr (.inr (.inr 5))), (.inl (8, 16, 8, 0)), (.inl (0, 16, 0, 0)), (.inr (.inr (.inr 0)))], [(.inl (8, 16, 8, 5)), (.inl (0, 16, 0, 6))]),
  (55, [(.inl 48), (.inr (16, 5)), (.inl 11), (.inl 0), (.inl 0), (.inl 0), (.inl 0)], (0, 0), [(.inr (.inr (.inl (44, 44)))), (.inr (.inr (.inr 1))), (.inr (.inr (.inr 0))), (.inr (.inr (.inr 5))), (.inl (8, 16, 8, 0)), (.inl (0, 15, 7, 0)), (.inr (.inr (.inr 0)))], []),
  (56, [(.inl 48), (.inr (16, 5)), (.inl 10), (.inl 0), (.inl 0), (.inl 0), (.inl 0)], (0, 0), [(.inr (.inr (.inl (44, 44)))), (.inr (.inr (.inr 1))), (.inr (.inr (.inr 0))), (.inr (.inr (.inr 5))), (.inl (8, 16, 8, 0)), (.inl (0, 15, 7, 0)), (.inr (.inr (.inr 0)))], [(.inr (.inr (.inr 5)))]),
  (58, [(.inl 48), (.inr (16, 5)), (.inl 9), (.inl 0), (.inl 0), (.inl 0), (.inl 0)], (0, 0), [(.inr (.inr (.inl (44, 44)))), (.inr (.inr (.inr 1))), (.inr (.inr (.inr 0))), (.inr (.inr (.inr 5))), (.inl (8, 16, 8, 0)), (.inl (0, 15, 7, 0)), (.inr (.inr (.inr 0)))], [(.inl (0, 15, 7, 6)), (.inr (.inr (.inr 5)))]),
  (59, [(.inl 48), (.inr (16, 5)), (.inl 8), (.inl 0), (.inl 0), (.inl 0), (.inl 0)], (0, 0), [(.inr (.inr (.inl (44, 44)))), (.inr (.inr (.inr 1))), (.inr (.inr (.inr 0))), (.inr (.inr (.inr 5))), (.inl (8, 16, 8, 0)), (.inl (0, 15, 7, 0)), (.inr (.inr (.inr 0)))], [zIA]),
  (61, [(.inl 48), (.inr (16, 5)), (.inl 7), (.inl 0), (.inl 0), (.inl 0), (.inl 0)], (0, 0), [(.inr (.inr (.inl (44, 44)))), (.inr (.inr (.inr 1))), (.inr (.inr (.inr 0))), (.inr (.inr (.inr 5))), (.inl (8, 16, 8, 0)), (.inl (0, 15, 7, 0)), zIA], []),
  (62, [(.inl 48), (.inr (16, 5)), (.inl 6), (.inl 0), (.inl 0), (.inl 0), (.inl 0)], (0, 0), [(.inr (.inr (.inl (44, 44)))), (.inr (.inr (.inr 1))), (.inr (.inr (.inr 0))), (.inr (.inr (.inr 5))), (.inl (8, 16, 8, 0)), (.inl (0, 15, 7, 0)), zIA], [(.inr (.inr (.inr 1)))]),
  (65, [(.inl 48), (.inr (16, 5)), (.inl 5), (.inl 0), (.inl 0), (.inl 0), (.inl 0)], (0, 0), [(.inr (.inr (.inl (44, 44)))), (.inr (.inr (.inr 1))), (.inr (.inr (.inr 0))), (.inr (.inr (.inr 5))), (.inl (8, 16, 8, 0)), (.inl (0, 15, 7, 0)), zIA], [(.inr (.inr (.inr 1))), (.inr (.inr (.inr 1)))]),
  (66, [(.inl 48), (.inr (16, 5)), (.inl 4), (.inl 0), (.inl 0), (.inl 0), (.inl 0)], (0, 0), [(.inr (.inr (.inl (44, 44)))), (.inr (.inr (.inr 1))), (.inr (.inr (.inr 0))), (.inr (.inr (.inr 5))), (.inl (8, 16, 8, 0)), (.inl (0, 15, 7, 0)), zIA], [(.inr (.inr (.inr 1)))]),
  (68, [(.inl 48), (.inr (16, 5)), (.inl 3), (.inl 0), (.inl 0), (.inl 0), (.inl 0)], (0, 0), [(.inr (.inr (.inl (44, 44)))), (.inr (.inr (.inr 1))), (.inr (.inr (.inr 0))), (.inr (.inr (.inr 5))), (.inl (8, 16, 8, 0)), (.inl (0, 15, 7, 0)), zIA], [(.inl ((-2147483648), 2147483647, 0, 7)), (.inr (.inr (.inr 1)))]),
  (69, [(.inl 48), (.inr (16, 5)), (.inl 2), (.inl 0), (.inl 0), (.inl 0), (.inl 0)], (0, 0), [(.inr (.inr (.inl (44, 44)))), (.inr (.inr (.inr 1))), (.inr (.inr (.inr 0))), (.inr (.inr (.inr 5))), (.inl (8, 16, 8, 0)), (.inl (0, 15, 7, 0)), zIA], [(.inr (.inr (.inr 1))), (.inr (.inr (.inr 1)))]),
  (70, [(.inl 48), (.inr (16, 5)), (.inl 1), (.inl 0), (.inl 0), (.inl 0), (.inl 0)], (0, 0), [(.inr (.inr (.inl (44, 44)))), (.inr (.inr (.inr 1))), (.inr (.inr (.inr 0))), (.inr (.inr (.inr 5))), (.inl (8, 16, 8, 0)), (.inl (0, 15, 7, 0)), zIA], [(.inr (.inr (.inr 1)))]),
  (71, [(.inl 48), (.inr (16, 5)), (.inl 0), (.inl 0), (.inl 0), (.inl 0), (.inl 0)], (0, 0), [(.inr (.inr (.inl (44, 44)))), (.inr (.inr (.inr 1))), (.inr (.inr (.inr 0))), (.inr (.inr (.inr 5))), (.inl (8, 16, 8, 0)), (.inl (0, 15, 7, 0)), zIA], []),
  (74, [(.inl 48), (.inr (16, 5)), (.inl 15), (.inl 0), (.inl 0), (.inl 0), (.inl 0)], (0, 0), [(.inr (.inr (.inl (44, 44)))), (.inr (.inr (.inr 1))), (.inr (.inr (.inr 0))), (.inr (.inr (.inr 5))), (.inl (8, 16, 8, 0)), (.inl (1, 16, 0, 0)), zIA], []),
  (77, [(.inl 47), (.inl 0), (.inl 0), (.inl 0), (.inl 0), (.inl 0), (.inl 0)], (0, 0), [(.inr (.inr (.inl (44, 44)))), (.inr (.inr (.inr 1))), (.inr (.inr (.inr 0))), (.inr (.inr (.inr 5))), (.inl (8, 16, 8, 0)), (.inl (8, 16, 0, 0)), (.inr (.inr (.inr 0)))], []),
  (78, [(.inl 46), (.inl 0), (.inl 0), (.inl 0), (.inl 0), (.inl 0), (.inl 0)], (0, 0), [(.inr (.inr (.inl (44, 44)))), (.inr (.inr (.inr 1))), (.inr (.inr (.inr 0))), (.inr (.inr (.inr 5))), (.inl (8, 16, 8, 0)), (.inl (8, 16, 0, 0)), (.inr (.inr (.inr 0)))], [(.inr (.inr (.inr 1)))]),
  (81, [(.inl 45), (.inl 0), (.inl 0), (.inl 0), (.inl 0), (.inl 0), (.inl 0)], (0, 0), [(.inr (.inr (.inl (44, 44)))), (.inr (.inr (.inr 1))), (.inr (.inr (.inr 0))), (.inr (.inr (.inr 5))), (.inl (8, 16, 8, 0)), (.inl (8, 16, 0, 0)), (.inr (.inr (.inr 0)))], [(.inr (.inr (.inr 1))), (.inr (.inr (.inr 1)))]),
  (82, [(.inl 44), (.inl 0), (.inl 0), (.inl 0), (.inl 0), (.inl 0), (.inl 0)], (0, 0), [(.inr (.inr (.inl (44, 44)))), (.inr (.inr (.inr 1))), (.inr (.inr (.inr 0))), (.inr (.inr (.inr 5))), (.inl (8, 16, 8, 0)), (.inl (8, 16, 0, 0)), (.inr (.inr (.inr 0)))], [(.inr (.inr (.inr 1)))]),
  (83, [(.inl 43), (.inl 0), (.inl 0), (.inl 0), (.inl 0), (.inl 0), (.inl 0)], (0, 0), [(.inr (.inr (.inl (44, 44)))), (.inr (.inr (.inr 1))), (.inr (.inr (.inr 0))), (.inr (.inr (.inr 5))), (.inl (8, 16, 8, 0)), (.inl (8, 16, 0, 0)), (.inr (.inr (.inr 0)))], [(.inr (.inr (.inl (44, 44)))), (.inr (.inr (.inr 1)))]),
  (84, [(.inl 42), (.inl 0), (.inl 0), (.inl 0), (.inl 0), (.inl 0), (.inl 0)], (0, 0), [(.inr (.inr (.inl (44, 44)))), (.inr (.inr (.inr 1))), (.inr (.inr (.inr 0))), (.inr (.inr (.inr 5))), (.inl (8, 16, 8, 0)), (.inl (8, 16, 0, 0)), (.inr (.inr (.inr 0)))], [(.inl (2, 2, 0, 0)), (.inr (.inr (.inl (44, 44)))), (.inr (.inr (.inr 1)))]),
  (87, [(.inl 41), (.inl 0), (.inl 0), (.inl 0), (.inl 0), (.inl 0), (.inl 0)], (0, 0), [(.inr (.inr (.inl (44, 44)))), (.inr (.inr (.inr 1))), (.inr (.inr (.inr 0))), (.inr (.inr (.inr 5))), (.inl (8, 16, 8, 0)), (.inl (8, 16, 0, 0)), (.inr (.inr (.inr 0)))], [zIA, (.inr (.inr (.inr 1)))]),
  (88, [(.inl 40), (.inl 0), (.inl 0), (.inl 0), (.inl 0), (.inl 0), (.inl 0)], (0, 0), [(.inr (.inr (.inl (44, 44)))), (.inr (.inr (.inr 1))), (.inr (.inr (.inr 0))), (.inr (.inr (.inr 5))), (.inl (8, 16, 8, 0)), (.inl (8, 16, 0, 0)), (.inr (.inr (.inr 0)))], [(.inr (.inr (.inr 1))), (.inr (.inr (.inr 1)))]),
  (89, [(.inl 39), (.inl 0), (.inl 0), (.inl 0), (.inl 0), (.inl 0), (.inl 0)], (0, 0), [(.inr (.inr (.inl (44, 44)))), (.inr (.inr (.inr 1))), (.inr (.inr (.inr 0))), (.inr (.inr (.inr 5))), (.inl (8, 16, 8, 0)), (.inl (8, 16, 0, 0)), (.inr (.inr (.inr 0)))], [(.inr (.inr (.inr 1)))]),
  (90, [(.inl 38), (.inl 0), (.inl 0), (.inl 0), (.inl 0), (.inl 0), (.inl 0)], (0, 0), [(.inr (.inr (.inl (44, 44)))), (.inr (.inr (.inr 1))), (.inr (.inr (.inr 0))), (.inr (.inr (.inr 5))), (.inl (8, 16, 8, 0)), (.inl (8, 16, 0, 0)), (.inr (.inr (.inr 0)))], []),
  (91, [(.inl 37), (.inl 0), (.inl 0), (.inl 0), (.inl 0), (.inl 0), (.inl 0)], (0, 0), [(.inr (.inr (.inl (44, 44)))), (.inr (.inr (.inr 1))), (.inr (.inr (.inr 0))), (.inr (.inr (.inr 5))), (.inl (8, 16, 8, 0)), (.inl (8, 16, 0, 0)), (.inr (.inr (.inr 0)))], [(.inr (.inr (.inr 1)))]),
  (94, [(.inl 36), (.inl 0), (.inl 0), (.inl 0), (.inl 0), (.inl 0), (.inl 0)], (0, 0), [(.inr (.inr (.inl (44, 44)))), (.inr (.inr (.inr 1))), (.inr (.inr (.inr 0))), (.inr (.inr (.inr 5))), (.inl (8, 16, 8, 0)), (.inl (8, 16, 0, 0)), (.inr (.inr (.inr 0)))], [(.inr (.inr (.inr 1))), (.inr (.inr (.inr 1)))]),
  (95, [(.inl 35), (.inl 0), (.inl 0), (.inl 0), (.inl 0), (.inl 0), (.inl 0)], (0, 0), [(.inr (.inr (.inl (44, 44)))), (.inr (.inr (.inr 1))), (.inr (.inr (.inr 0))), (.inr (.inr (.inr 5))), (.inl (8, 16, 8, 0)), (.inl (8, 16, 0, 0)), (.inr (.inr (.inr 0)))], [(.inr (.inr (.inr 1)))]),
  (96, [(.inl 34), (.inl 0), (.inl 0), (.inl 0), (.inl 0), (.inl 0), (.inl 0)], (0, 0), [(.inr (.inr (.inl (44, 44)))), (.inr (.inr (.inr 1))), (.inr (.inr (.inr 0))), (.inr (.inr (.inr 5))), (.inl (8, 16, 8, 0)), (.inl (8, 16, 0, 0)), (.inr (.inr (.inr 0)))], [(.inr (.inr (.inl (44, 44)))), (.inr (.inr (.inr 1)))]),
  (97, [(.inl 33), (.inl 0), (.inl 0), (.inl 0), (.inl 0), (.inl 0), (.inl 0)], (0, 0), [(.inr (.inr (.inl (44, 44)))), (.inr (.inr (.inr 1))), (.inr (.inr (.inr 0))), (.inr (.inr (.inr 5))), (.inl (8, 16, 8, 0)), (.inl (8, 16, 0, 0)), (.inr (.inr (.inr 0)))], [(.inl (3, 3, 0, 0)), (.inr (.inr (.inl (44, 44)))), (.inr (.inr (.inr 1)))]),
  (100, [(.inl 32), (.inl 0), (.inl 0), (.inl 0), (.inl 0), (.inl 0), (.inl 0)], (0, 0), [(.inr (.inr (.inl (44, 44)))), (.inr (.inr (.inr 1))), (.inr (.inr (.inr 0))), (.inr (.inr (.inr 5))), (.inl (8, 16, 8, 0)), (.inl (8, 16, 0, 0)), (.inr (.inr (.inr 0)))], [zIA, (.inr (.inr (.inr 1)))]),
  (101, [(.inl 31), (.inl 0), (.inl 0), (.inl 0), (.inl 0), (.inl 0), (.inl 0)], (0, 0), [(.inr (.inr (.inl (44, 44)))), (.inr (.inr (.inr 1))), (.inr (.inr (.inr 0))), (.inr (.inr (.inr 5))), (.inl (8, 16, 8, 0)), (.inl (8, 16, 0, 0)), (.inr (.inr (.inr 0)))], [(.inr (.inr (.inr 1))), (.inr (.inr (.inr 1)))]),
  (102, [(.inl 30), (.inl 0), (.inl 0), (.inl 0), (.inl 0), (.inl 0), (.inl 0)], (0, 0), [(.inr (.inr (.inl (44, 44)))), (.inr (.inr (.inr 1))), (.inr (.inr (.inr 0))), (.inr (.inr (.inr 5))), (.inl (8, 16, 8, 0)), (.inl (8, 16, 0, 0)), (.inr (.inr (.inr 0)))], [(.inr (.inr (.inr 1)))]),
  (103, [(.inl 29), (.inl 0), (.inl 0), (.inl 0), (.inl 0), (.inl 0), (.inl 0)], (0, 0), [(.inr (.inr (.inl (44, 44)))), (.inr (.inr (.inr 1))), (.inr (.inr (.inr 0))), (.inr (.inr (.inr 5))), (.inl (8, 16, 8, 0)), (.inl (8, 16, 0, 0)), (.inr (.inr (.inr 0)))], []),
  (104, [(.inl 28), (.inl 0), (.inl 0), (.inl 0), (.inl 0), (.inl 0), (.inl 0)], (0, 0), [(.inr (.inr (.inl (44, 44)))), (.inr (.inr (.inr 1))), (.inr (.inr (.inr 0))), (.inr (.inr (.inr 5))), (.inl (8, 16, 8, 0)), (.inl (8, 16, 0, 0)), (.inr (.inr (.inr 0)))], [(.inl (0, 0, 0, 0))]),
  (105, [(.inl 27), (.inr (2, 3)), (.inl 46), (.inl 0), (.inl 0), (.inl 0), (.inl 0)], (0, 0), [(.inr (.inr (.inl (44, 44)))), (.inr (.inr (.inr 1))), (.inr (.inr (.inr 0))), (.inl (0, 2, 0, 0)), (.inl (8, 16, 0, 0)), (.inl (1, 16, 0, 0)), (.inr (.inr (.inr 0)))], []),
  (106, [(.inl 27), (.inr (2, 3)), (.inl 45), (.inl 0), (.inl 0), (.inl 0), (.inl 0)], (0, 0), [(.inr (.inr (.inl (44, 44)))), (.inr (.inr (.inr 1))), (.inr (.inr (.inr 0))), (.inl (0, 2, 0, 0)), (.inl (8, 16, 0, 0)), (.inl (1, 16, 0, 0)), (.inr (.inr (.inr 0)))], [(.inl (0, 2, 0, 4))]),
  (107, [(.inl 27), (.inr (2, 3)), (.inl 44), (.inl 0), (.inl 0), (.inl 0), (.inl 0)], (0, 0), [(.inr (.inr (.inl (44, 44)))), (.inr (.inr (.inr 1))), (.inr (.inr (.inr 0))), (.inl (0, 2, 0, 0)), (.inl (8, 16, 0, 0)), (.inl (1, 16, 0, 0)), (.inr (.inr (.inr 0)))], [(.inl (2, 2, 0, 0)), (.inl (0, 2, 0, 4))]),
  (110, [(.inl 27), (.inr (2, 3)), (.inl 43), (.inl 0), (.inl 0), (.inl 0), (.inl 0)], (0, 0), [(.inr (.inr (.inl (44, 44)))), (.inr (.inr (.inr 1))), (.inr (.inr (.inr 0))), (.inl (0, 1, 0, 0)), (.inl (8, 16, 0, 0)), (.inl (1, 16, 0, 0)), (.inr (.inr (.inr 0)))], []),
  (111, [(.inl 27), (.inr (2, 3)), (.inl 42), (.inl 0), (.inl 0), (.inl 0), (.inl 0)], (0, 0), [(.inr (.inr (.inl (44, 44)))), (.inr (.inr (.inr 1))), (.inr (.inr (.inr 0))), (.inl (0, 1, 0, 0)), (.inl (8, 16, 0, 0)), (.inl (1, 16, 0, 0)), (.inr (.inr (.inr 0)))], [(.inr (.inr (.inr 1)))]),
  (114, [(.inl 27), (.inr (2, 3)), (.inl 41), (.inl 0), (.inl 0), (.inl 0), (.inl 0)], (0, 0), [(.inr (.inr (.inl (44, 44)))), (.inr (.inr (.inr 1))), (.inr (.inr (.inr 0))), (.inl (0, 1, 0, 0)), (.inl (8, 16, 0, 0)), (.inl (1, 16, 0, 0)), (.inr (.inr (.inr 0)))], [(.inr (.inr (.inr 1))), (.inr (.inr (.inr 1)))]),
  (115, [(.inl 27), (.inr (2, 3)), (.inl 40), (.inl 0), (.inl 0), (.inl 0), (.inl 0)], (0, 0), [(.inr (.inr (.inl (44, 44)))), (.inr (.inr (.inr 1))), (.inr (.inr (.inr 0))), (.inl (0, 1, 0, 0)), (.inl (8, 16, 0, 0)), (.inl (1, 16, 0, 0)), (.inr (.inr (.inr 0)))], [(.inr (.inr (.inr 1)))]),
  (116, [(.inl 27), (.inr (2, 3)), (.inl 39), (.inl 0), (.inl 0), (.inl 0), (.inl 0)], (0, 0), [(.inr (.inr (.inl (44, 44)))), (.inr (.inr (.inr 1))), (.inr (.inr (.inr 0))), (.inl (0, 1, 0, 0)), (.inl (8, 16, 0, 0)), (.inl (1, 16, 0, 0)), (.inr (.inr (.inr 0)))], [(.inr (.inr (.inl (44, 44)))), (.inr (.inr (.inr 1)))]),
  (117, [(.inl 27), (.inr (2, 3)), (.inl 38), (.inl 0), (.inl 0), (.inl 0), (.inl 0)], (0, 0), [(.inr (.inr (.inl (44, 44)))), (.inr (.inr (.inr 1))), (.inr (.inr (.inr 0))), (.inl (0, 1, 0, 0)), (.inl (8, 16, 0, 0)), (.inl (1, 16, 0, 0)), (.inr (.inr (.inr 0)))], [(.inl (0, 1, 0, 4)), (.inr (.inr (.inl (44, 44)))), (.inr (.inr (.inr 1)))]),
  (118, [(.inl 27), (.inr (2, 3)), (.inl 37), (.inl 0), (.inl 0), (.inl 0), (.inl 0)], (0, 0), [(.inr (.inr (.inl (44, 44)))), (.inr (.inr (.inr 1))), (.inr (.inr (.inr 0))), (.inl (0, 1, 0, 0)), (.inl (8, 16, 0, 0)), (.inl (1, 16, 0, 0)), (.inr (.inr (.inr 0)))], [(.inl (0, 0, 0, 0)), (.inl (0, 1, 0, 4)), (.inr (.inr (.inl (44, 44)))), (.inr (.inr (.inr 1)))]),
  (121, [(.inl 27), (.inr (2, 3)), (.inl 36), (.inl 0), (.inl 0), (.inl 0), (.inl 0)], (0, 0), [(.inr (.inr (.inl (44, 44)))), (.inr (.inr (.inr 1))), (.inr (.inr (.inr 0))), (.inl (0, 1, 0, 0)), (.inl (8, 16, 0, 0)), (.inl (1, 16, 0, 0)), (.inr (.inr (.inr 0)))], [zIA, (.inr (.inr (.inr 1)))]),
  (122, [(.inl 27), (.inr (2, 3)), (.inl 35), (.inl 0), (.inl 0), (.inl 0), (.inl 0)], (0, 0), [(.inr (.inr (.inl (44, 44)))), (.inr (.inr (.inr 1))), (.inr (.inr (.inr 0))), (.inl (0, 1, 0, 0)), (.inl (8, 16, 0, 0)), (.inl (1, 16, 0, 0)), (.inr (.inr (.inr 0)))], [(.inr (.inr (.inr 1))), (.inr (.inr (.inr 1)))]),
  (123, [(.inl 27), (.inr (2, 3)), (.inl 34), (.inl 0), (.inl 0), (.inl 0), (.inl 0)], (0, 0), [(.inr (.inr (.inl (44, 44)))), (.inr (.inr (.inr 1))), (.inr (.inr (.inr 0))), (.inl (0, 1, 0, 0)), (.inl (8, 16, 0, 0)), (.inl (1, 16, 0, 0)), (.inr (.inr (.inr 0)))], [(.inr (.inr (.inr 1)))]),
  (124, [(.inl 27), (.inr (2, 3)), (.inl 33), (.inl 0), (.inl 0), (.inl 0), (.inl 0)], (0, 0), [(.inr (.inr (.inl (44, 44)))), (.inr (.inr (.inr 1))), (.inr (.inr (.inr 0))), (.inl (0, 1, 0, 0)), (.inl (8, 16, 0, 0)), (.inl (1, 16, 0, 0)), (.inr (.inr (.inr 0)))], []),
  (125, [(.inl 27), (.inr (2, 3)), (.inl 32), (.inl 0), (.inl 0), (.inl 0), (.inl 0)], (0, 0), [(.inr (.inr (.inl (44, 44)))), (.inr (.inr (.inr 1))), (.inr (.inr (.inr 0))), (.inl (0, 1, 0, 0)), (.inl (8, 16, 0, 0)), (.inl (1, 16, 0, 0)), (.inr (.inr (.inr 0)))], [(.inr (.inr (.inr 1)))]),
  (128, [(.inl 27), (.inr (2, 3)), (.inl 31), (.inl 0), (.inl 0), (.inl 0), (.inl 0)], (0, 0), [(.inr (.inr (.inl (44, 44)))), (.inr (.inr (.inr 1))), (.inr (.inr (.inr 0))), (.inl (0, 1, 0, 0)), (.inl (8, 16, 0, 0)), (.inl (1, 16, 0, 0)), (.inr (.inr (.inr 0)))], [(.inr (.inr (.inr 1))), (.inr (.inr (.inr 1)))]),
  (129, [(.inl 27), (.inr (2, 3)), (.inl 30), (.inl 0), (.inl 0), (.inl 0), (.inl 0)], (0, 0), [(.inr (.inr (.inl (44, 44)))), (.inr (.inr (.inr 1))), (.inr (.inr (.inr 0))), (.inl (0, 1, 0, 0)), (.inl (8, 16, 0, 0)), (.inl (1, 16, 0, 0)), (.inr (.inr (.inr 0)))], [(.inr (.inr (.inr 1)))]),
  (130, [(.inl 27), (.inr (2, 3)), (.inl 29), (.inl 0), (.inl 0), (.inl 0), (.inl 0)], (0, 0), [(.inr (.inr (.inl (44, 44)))), (.inr (.inr (.inr 1))), (.inr (.inr (.inr 0))), (.inl (0, 1, 0, 0)), (.inl (8, 16, 0, 0)), (.inl (1, 16, 0, 0)), (.inr (.inr (.inr 0)))], [(.inr (.inr (.inl (44, 44)))), (.inr (.inr (.inr 1)))]),
  (131, [(.inl 27), (.inr (2, 3)), (.inl 28), (.inl 0), (.inl 0), (.inl 0), (.inl 0)], (0, 0), [(.inr (.inr (.inl (44, 44)))), (.inr (.inr (.inr 1))), (.inr (.inr (.inr 0))), (.inl (0, 1, 0, 0)), (.inl (8, 16, 0, 0)), (.inl (1, 16, 0, 0)), (.inr (.inr (.inr 0)))], [(.inl (0, 1, 0, 4)), (.inr (.inr (.inl (44, 44)))), (.inr (.inr (.inr 1)))]),
  (132, [(.inl 27), (.inr (2, 3)), (.inl 27), (.inl 0), (.inl 0), (.inl 0), (.inl 0)], (0, 0), [(.inr (.inr (.inl (44, 44)))), (.inr (.inr (.inr 1))), (.inr (.inr (.inr 0))), (.inl (0, 1, 0, 0)), (.inl (8, 16, 0, 0)), (.inl (1, 16, 0, 0)), (.inr (.inr (.inr 0)))], [(.inl (1, 1, 0, 0)), (.inl (0, 1, 0, 4)), (.inr (.inr (.inl (44, 44)))), (.inr (.inr (.inr 1)))]),
  (135, [(.inl 27), (.inr (2, 3)), (.inl 26), (.inl 0), (.inl 0), (.inl 0), (.inl 0)], (0, 0), [(.inr (.inr (.inl (44, 44)))), (.inr (.inr (.inr 1))), (.inr (.inr (.inr 0))), (.inl (0, 1, 0, 0)), (.inl (8, 16, 0, 0)), (.inl (1, 16, 0, 0)), (.inr (.inr (.inr 0)))], [zIA, (.inr (.inr (.inr 1)))]),
  (136, [(.inl 27), (.inr (2, 3)), (.inl 25), (.inl 0), (.inl 0), (.inl 0), (.inl 0)], (0, 0), [(.inr (.inr (.inl (44, 44)))), (.inr (.inr (.inr 1))), (.inr (.inr (.inr 0))), (.inl (0, 1, 0, 0)), (.inl (8, 16, 0, 0)), (.inl (1, 16, 0, 0)), (.inr (.inr (.inr 0)))], [(.inr (.inr (.inr 1))), (.inr (.inr (.inr 1)))]),
  (137, [(.inl 27), (.inr (2, 3)), (.inl 24), (.inl 0), (.inl 0), (.inl 0), (.inl 0)], (0, 0), [(.inr (.inr (.inl (44, 44)))), (.inr (.inr (.inr 1))), (.inr (.inr (.inr 0))), (.inl (0, 1, 0, 0)), (.inl (8, 16, 0, 0)), (.inl (1, 16, 0, 0)), (.inr (.inr (.inr 0)))], [(.inr (.inr (.inr 1)))]),
  (138, [(.inl 27), (.inr (2, 3)), (.inl 23), (.inl 0), (.inl 0), (.inl 0), (.inl 0)], (0, 0), [(.inr (.inr (.inl (44, 44)))), (.inr (.inr (.inr 1))), (.inr (.inr (.inr 0))), (.inl (0, 1, 0, 0)), (.inl (8, 16, 0, 0)), (.inl (1, 16, 0, 0)), (.inr (.inr (.inr 0)))], []),
  (139, [(.inl 27), (.inr (2, 3)), (.inl 22), (.inl 0), (.inl 0), (.inl 0), (.inl 0)], (0, 0), [(.inr (.inr (.inl (44, 44)))), (.inr (.inr (.inr 1))), (.inr (.inr (.inr 0))), (.inl (0, 1, 0, 0)), (.inl (8, 16, 0, 0)), (.inl (1, 16, 0, 0)), (.inr (.inr (.inr 0)))], [(.inr (.inr (.inr 1)))]),
  (142, [(.inl 27), (.inr (2, 3)), (.inl 21), (.inl 0), (.inl 0), (.inl 0), (.inl 0)], (0, 0), [(.inr (.inr (.inl (44, 44)))), (.inr (.inr (.inr 1))), (.inr (.inr (.inr 0))), (.inl (0, 1, 0, 0)), (.inl (8, 16, 0, 0)), (.inl (1, 16, 0, 0)), (.inr (.inr (.inr 0)))], [(.inr (.inr (.inr 1))), (.inr (.inr (.inr 1)))]),
  (143, [(.inl 27), (.inr (2, 3)), (.inl 20), (.inl 0), (.inl 0), (.inl 0), (.inl 0)], (0, 0), [(.inr (.inr (.inl (44, 44)))), (.inr (.inr (.inr 1))), (.inr (.inr (.inr 0))), (.inl (0, 1, 0, 0)), (.inl (8, 16, 0, 0)), (.inl (1, 16, 0, 0)), (.inr (.inr (.inr 0)))], [(.inr (.inr (.inr 1)))]),
  (144, [(.inl 27), (.inr (2, 3)), (.inl 19), (.inl 0), (.inl 0), (.inl 0), (.inl 0)], (0, 0), [(.inr (.inr (.inl (44, 44)))), (.inr (.inr (.inr 1))), (.inr (.inr (.inr 0))), (.inl (0, 1, 0, 0)), (.inl (8, 16, 0, 0)), (.inl (1, 16, 0, 0)), (.inr (.inr (.inr 0)))], [(.inr (.inr (.inl (44, 44)))), (.inr (.inr (.inr 1)))]),
  (145, [(.inl 27), (.inr (2, 3)), (.inl 18), (.inl 0), (.inl 0), (.inl 0), (.inl 0)], (0, 0), [(.inr (.inr (.inl (44, 44)))), (.inr (.inr (.inr 1))), (.inr (.inr (.inr 0))), (.inl (0, 1, 0, 0)), (.inl (8, 16, 0, 0)), (.inl (1, 16, 0, 0)), (.inr (.inr (.inr 0)))], [(.inl (0, 1, 0, 4)), (.inr (.inr (.inl (44, 44)))), (.inr (.inr (.inr 1)))]),
  (148, [(.inl 27), (.inr (2, 3)), (.inl 17), (.inl 0), (.inl 0), (.inl 0), (.inl 0)], (0, 0), [(.inr (.inr (.inl (44, 44)))), (.inr (.inr (.inr 1))), (.inr (.inr (.inr 0))), (.inl (0, 1, 0, 0)), (.inl (8, 16, 0, 0)), (.inl (1, 16, 0, 0)), (.inr (.inr (.inr 0)))], [zIA, (.inr (.inr (.inr 1)))]),
  (149, [(.inl 27), (.inr (2, 3)), (.inl 16), (.inl 0), (.inl 0), (.inl 0), (.inl 0)], (0, 0), [(.inr (.inr (.inl (44, 44)))), (.inr (.inr (.inr 1))), (.inr (.inr (.inr 0))), (.inl (0, 1, 0, 0)), (.inl (8, 16, 0, 0)), (.inl (1, 16, 0, 0)), (.inr (.inr (.inr 0)))], [(.inr (.inr (.inr 1))), (.inr (.inr (.inr 1)))]),
  (150, [(.inl 27), (.inr (2, 3)), (.inl 15), (.inl 0), (.inl 0), (.inl 0), (.inl 0)], (0, 0), [(.inr (.inr (.inl (44, 44)))), (.inr (.inr (.inr 1))), (.inr (.inr (.inr 0))), (.inl (0, 1, 0, 0)), (.inl (8, 16, 0, 0)), (.inl (1, 16, 0, 0)), (.inr (.inr (.inr 0)))], [(.inr (.inr (.inr 1)))]),
  (151, [(.inl 27), (.inr (2, 3)), (.inl 14), (.inl 0), (.inl 0), (.inl 0), (.inl 0)], (0, 0), [(.inr (.inr (.inl (44, 44)))), (.inr (.inr (.inr 1))), (.inr (.inr (.inr 0))), (.inl (0, 1, 0, 0)), (.inl (8, 16, 0, 0)), (.inl (1, 16, 0, 0)), (.inr (.inr (.inr 0)))], []),
  (152, [(.inl 27), (.inr (2, 3)), (.inl 13), (.inl 0), (.inl 0), (.inl 0), (.inl 0)], (0, 0), [(.inr (.inr (.inl (44, 44)))), (.inr (.inr (.inr 1))), (.inr (.inr (.inr 0))), (.inl (0, 1, 0, 0)), (.inl (8, 16, 0, 0)), (.inl (1, 16, 0, 0)), (.inr (.inr (.inr 0)))], [(.inr (.inr (.inr 1)))]),
  (155, [(.inl 27), (.inr (2, 3)), (.inl 12), (.inl 0), (.inl 0), (.inl 0), (.inl 0)], (0, 0), [(.inr (.inr (.inl (44, 44)))), (.inr (.inr (.inr 1))), (.inr (.inr (.inr 0))), (.inl (0, 1, 0, 0)), (.inl (8, 16, 0, 0)), (.inl (1, 16, 0, 0)), (.inr (.inr (.inr 0)))], [(.inr (.inr (.inr 1))), (.inr (.inr (.inr 1)))]),
  (156, [(.inl 27), (.inr (2, 3)), (.inl 11), (.inl 0), (.inl 0), (.inl 0), (.inl 0)], (0, 0), [(.inr (.inr (.inl (44, 44)))), (.inr (.inr (.inr 1))), (.inr (.inr (.inr 0))), (.inl (0, 1, 0, 0)), (.inl (8, 16, 0, 0)), (.inl (1, 16, 0, 0)), (.inr (.inr (.inr 0)))], [(.inr (.inr (.inr 1)))]),
  (159, [(.inl 27), (.inr (2, 3)), (.inl 10), (.inl 0), (.inl 0), (.inl 0), (.inl 0)], (0, 0), [(.inr (.inr (.inl (44, 44)))), (.inr (.inr (.inr 1))), (.inr (.inr (.inr 0))), (.inl (0, 1, 0, 0)), (.inl (8, 16, 0, 0)), (.inl (1, 16, 0, 0)), (.inr (.inr (.inr 0)))], [(.inr (.inr (.inr 3))), (.inr (.inr (.inr 1)))]),
  (160, [(.inl 27), (.inr (2, 3)), (.inl 9), (.inl 0), (.inl 0), (.inl 0), (.inl 0)], (0, 0), [(.inr (.inr (.inl (44, 44)))), (.inr (.inr (.inr 1))), (.inr (.inr (.inr 0))), (.inl (0, 1, 0, 0)), (.inl (8, 16, 0, 0)), (.inl (1, 16, 0, 0)), (.inr (.inr (.inr 0)))], [(.inr (.inr (.inl (44, 44)))), (.inr (.inr (.inr 3))), (.inr (.inr (.inr 1)))]),
  (161, [(.inl 27), (.inr (2, 3)), (.inl 8), (.inl 0), (.inl 0), (.inl 0), (.inl 0)], (0, 0), [(.inr (.inr (.inl (44, 44)))), (.inr (.inr (.inr 1))), (.inr (.inr (.inr 0))), (.inl (0, 1, 0, 0)), (.inl (8, 16, 0, 0)), (.inl (1, 16, 0, 0)), (.inr (.inr (.inr 0)))], [(.inl (0, 1, 0, 4)), (.inr (.inr (.inl (44, 44)))), (.inr (.inr (.inr 3))), (.inr (.inr (.inr 1)))]),
  (164, [(.inl 27), (.inr (2, 3)), (.inl 7), (.inl 0), (.inl 0), (.inl 0), (.inl 0)], (0, 0), [(.inr (.inr (.inl (44, 44)))), (.inr (.inr (.inr 1))), (.inr (.inr (.inr 0))), (.inl (0, 1, 0, 0)), (.inl (8, 16, 0, 0)), (.inl (1, 16, 0, 0)), (.inr (.inr (.inr 0)))], [(.inr (.inr (.inr 2))), (.inr (.inr (.inr 3))), (.inr (.inr (.inr 1)))]),
  (165, [(.inl 27), (.inr (2, 3)), (.inl 6), (.inl 0), (.inl 0), (.inl 0), (.inl 0)], (0, 0), [(.inr (.inr (.inl (44, 44)))), (.inr (.inr (.inr 1))), (.inr (.inr (.inr 0))), (.inl (0, 1, 0, 0)), (.inl (8, 16, 0, 0)), (.inl (1, 16, 0, 0)), (.inr (.inr (.inr 0)))], [(.inr (.inr (.inr 4))), (.inr (.inr (.inr 1)))]),
  (166, [(.inl 27), (.inr (2, 3)), (.inl 5), (.inl 0), (.inl 0), (.inl 0), (.inl 0)], (0, 0), [(.inr (.inr (.inl (44, 44)))), (.inr (.inr (.inr 1))), (.inr (.inr (.inr 0))), (.inl (0, 1, 0, 0)), (.inl (8, 16, 0, 0)), (.inl (1, 16, 0, 0)), (.inr (.inr (.inr 0)))], [(.inr (.inr (.inr 1))), (.inr (.inr (.inr 1)))]),
  (167, [(.inl 27), (.inr (2, 3)), (.inl 4), (.inl 0), (.inl 0), (.inl 0), (.inl 0)], (0, 0), [(.inr (.inr (.inl (44, 44)))), (.inr (.inr (.inr 1))), (.inr (.inr (.inr 0))), (.inl (0, 1, 0, 0)), (.inl (8, 16, 0, 0)), (.inl (1, 16, 0, 0)), (.inr (.inr (.inr 0)))], [(.inr (.inr (.inr 1)))]),
  (168, [(.inl 27), (.inr (2, 3)), (.inl 3), (.inl 0), (.inl 0), (.inl 0), (.inl 0)], (0, 0), [(.inr (.inr (.inl (44, 44)))), (.inr (.inr (.inr 1))), (.inr (.inr (.inr 0))), (.inl (0, 1, 0, 0)), (.inl (8, 16, 0, 0)), (.inl (1, 16, 0, 0)), (.inr (.inr (.inr 0)))], []),
  (169, [(.inl 27), (.inr (2, 3)), (.inl 2), (.inl 0), (.inl 0), (.inl 0), (.inl 0)], (0, 0), [(.inr (.inr (.inl (44, 44)))), (.inr (.inr (.inr 1))), (.inr (.inr (.inr 0))), (.inl (0, 1, 0, 0)), (.inl (8, 16, 0, 0)), (.inl (1, 16, 0, 0)), (.inr (.inr (.inr 0)))], [(.inl (0, 0, 0, 0))]),
  (171, [(.inl 27), (.inr (2, 3)), (.inl 1), (.inr (10, 4)), (.inl 6), (.inl 0), (.inl 0)], (0, 0), [(.inr (.inr (.inl (44, 44)))), (.inr (.inr (.inr 1))), (.inr (.inr (.inr 0))), (.inl (0, 1, 0, 0)), (.inl (0, 10, 0, 0)), (.inl (1, 16, 0, 0)), (.inr (.inr (.inr 0)))], []),
  (173, [(.inl 27), (.inr (2, 3)), (.inl 1), (.inr (10, 4)), (.inl 5), (.inl 0), (.inl 0)], (0, 0), [(.inr (.inr (.inl (44, 44)))), (.inr (.inr (.inr 1))), (.inr (.inr (.inr 0))), (.inl (0, 1, 0, 0)), (.inl (0, 10, 0, 0)), (.inl (1, 16, 0, 0)), (.inr (.inr (.inr 0)))], [(.inl (0, 10, 0, 5))]),
  (175, [(.inl 27), (.inr (2, 3)), (.inl 1), (.inr (10, 4)), (.inl 4), (.inl 0), (.inl 0)], (0, 0), [(.inr (.inr (.inl (44, 44)))), (.inr (.inr (.inr 1))), (.inr (.inr (.inr 0))), (.inl (0, 1, 0, 0)), (.inl (0, 10, 0, 0)), (.inl (1, 16, 0, 0)), (.inr (.inr (.inr 0)))], [(.inl (10, 10, 0, 0)), (.inl (0, 10, 0, 5))]),
  (178, [(.inl 27), (.inr (2, 3)), (.inl 1), (.inr (10, 4)), (.inl 3), (.inl 0), (.inl 0)], (0, 0), [(.inr (.inr (.inl (44, 44)))), (.inr (.inr (.inr 1))), (.inr (.inr (.inr 0))), (.inl (0, 1, 0, 0)), (.inl (0, 9, 0, 0)), (.inl (1, 16, 0, 0)), (.inr (.inr (.inr 0)))], []),
  (179, [(.inl 27), (.inr (2, 3)), (.inl 1), (.inr (10, 4)), (.inl 2), (.inl 0), (.inl 0)], (0, 0), [(.inr (.inr (.inl (44, 44)))), (.inr (.inr (.inr 1))), (.inr (.inr (.inr 0))), (.inl (0, 1, 0, 0)), (.inl (0, 9, 0, 0)), (.inl (1, 16, 0, 0)), (.inr (.inr (.inr 0)))], [(.inl (0, 0, 0, 0))]),
  (181, [(.inl 27), (.inr (2, 3)), (.inl 1), (.inr (10, 4)), (.inl 1), (.inr (5, 5)), (.inl 17)], (0, 0), [(.inr (.inr (.inl (44, 44)))), (.inr (.inr (.inr 1))), (.inr (.inr (.inr 0))), (.inl (0, 1, 0, 0)), (.inl (0, 9, 0, 0)), (.inl (0, 5, 0, 0)), (.inr (.inr (.inr 0)))], []),
  (183, [(.inl 27), (.inr (2, 3)), (.inl 1), (.inr (10, 4)), (.inl 1), (.inr (5, 5)), (.inl 16)], (0, 0), [(.inr (.inr (.inl (44, 44)))), (.inr (.inr (.inr 1))), (.inr (.inr (.inr 0))), (.inl (0, 1, 0, 0)), (.inl (0, 9, 0, 0)), (.inl (0, 5, 0, 0)), (.inr (.inr (.inr 0)))], [(.inl (0, 5, 0, 6))]),
  (184, [(.inl 27), (.inr (2, 3)), (.inl 1), (.inr (10, 4)), (.inl 1), (.inr (5, 5)), (.inl 15)], (0, 0), [(.inr (.inr (.inl (44, 44)))), (.inr (.inr (.inr 1))), (.inr (.inr (.inr 0))), (.inl (0, 1, 0, 0)), (.inl (0, 9, 0, 0)), (.inl (0, 5, 0, 0)), (.inr (.inr (.inr 0)))], [(.inl (4, 4, 0, 0)), (.inl (0, 5, 0, 6))]),
  (187, [(.inl 27), (.inr (2, 3)), (.inl 1), (.inr (10, 4)), (.inl 1), (.inr (5, 5)), (.inl 14)], (0, 0), [(.inr (.inr (.inl (44, 44)))), (.inr (.inr (.inr 1))), (.inr (.inr (.inr 0))), (.inl (0, 1, 0, 0)), (.inl (0, 9, 0, 0)), (.inl (0, 4, 0, 0)), (.inr (.inr (.inr 0)))], []),
  (188, [(.inl 27), (.inr (2, 3)), (.inl 1), (.inr (10, 4)), (.inl 1), (.inr (5, 5)), (.inl 13)], (0, 0), [(.inr (.inr (.inl (44, 44)))), (.inr (.inr (.inr 1))), (.inr (.inr (.inr 0))), (.inl (0, 1, 0, 0)), (.inl (0, 9, 0, 0)), (.inl (0, 4, 0, 0)), (.inr (.inr (.inr 0)))], [(.inr (.inr (.inr 1)))]),
  (191, [(.inl 27), (.inr (2, 3)), (.inl 1), (.inr (10, 4)), (.inl 1), (.inr (5, 5)), (.inl 12)], (0, 0), [(.inr (.inr (.inl (44, 44)))), (.inr (.inr (.inr 1))), (.inr (.inr (.inr 0))), (.inl (0, 1, 0, 0)), (.inl (0, 9, 0, 0)), (.inl (0, 4, 0, 0)), (.inr (.inr (.inr 0)))], [(.inr (.inr (.inr 1))), (.inr (.inr (.inr 1)))]),
  (192, [(.inl 27), (.inr (2, 3)), (.inl 1), (.inr (10, 4)), (.inl 1), (.inr (5, 5)), (.inl 11)], (0, 0), [(.inr (.inr (.inl (44, 44)))), (.inr (.inr (.inr 1))), (.inr (.inr (.inr 0))), (.inl (0, 1, 0, 0)), (.inl (0, 9, 0, 0)), (.inl (0, 4, 0, 0)), (.inr (.inr (.inr 0)))], [(.inr (.inr (.inr 1)))]),
  (193, [(.inl 27), (.inr (2, 3)), (.inl 1), (.inr (10, 4)), (.inl 1), (.inr (5, 5)), (.inl 10)], (0, 0), [(.inr (.inr (.inl (44, 44)))), (.inr (.inr (.inr 1))), (.inr (.inr (.inr 0))), (.inl (0, 1, 0, 0)), (.inl (0, 9, 0, 0)), (.inl (0, 4, 0, 0)), (.inr (.inr (.inr 0)))], [(.inr (.inr (.inl (44, 44)))), (.inr (.inr (.inr 1)))]),
  (194, [(.inl 27), (.inr (2, 3)), (.inl 1), (.inr (10, 4)), (.inl 1), (.inr (5, 5)), (.inl 9)], (0, 0), [(.inr (.inr (.inl (44, 44)))), (.inr (.inr (.inr 1))), (.inr (.inr (.inr 0))), (.inl (0, 1, 0, 0)), (.inl (0, 9, 0, 0)), (.inl (0, 4, 0, 0)), (.inr (.inr (.inr 0)))], [(.inl (0, 1, 0, 4)), (.inr (.inr (.inl (44, 44)))), (.inr (.inr (.inr 1)))]),
  (196, [(.inl 27), (.inr (2, 3)), (.inl 1), (.inr (10, 4)), (.inl 1), (.inr (5, 5)), (.inl 8)], (0, 0), [(.inr (.inr (.inl (44, 44)))), (.inr (.inr (.inr 1))), (.inr (.inr (.inr 0))), (.inl (0, 1, 0, 0)), (.inl (0, 9, 0, 0)), (.inl (0, 4, 0, 0)), (.inr (.inr (.inr 0)))], [(.inl (10, 10, 0, 0)), (.inl (0, 1, 0, 4)), (.inr (.inr (.inl (44, 44)))), (.inr (.inr (.inr 1)))]),
  (197, [(.inl 27), (.inr (2, 3)), (.inl 1), (.inr (10, 4)), (.inl 1), (.inr (5, 5)), (.inl 7)], (0, 0), [(.inr (.inr (.inl (44, 44)))), (.inr (.inr (.inr 1))), (.inr (.inr (.inr 0))), (.inl (0, 1, 0, 0)), (.inl (0, 9, 0, 0)), (.inl (0, 4, 0, 0)), (.inr (.inr (.inr 0)))], [(.inl (0, 10, 0, 0)), (.inr (.inr (.inl (44, 44)))), (.inr (.inr (.inr 1)))]),
  (199, [(.inl 27), (.inr (2, 3)), (.inl 1), (.inr (10, 4)), (.inl 1), (.inr (5, 5)), (.inl 6)], (0, 0), [(.inr (.inr (.inl (44, 44)))), (.inr (.inr (.inr 1))), (.inr (.inr (.inr 0))), (.inl (0, 1, 0, 0)), (.inl (0, 9, 0, 0)), (.inl (0, 4, 0, 0)), (.inr (.inr (.inr 0)))], [(.inl (0, 9, 0, 5)), (.inl (0, 10, 0, 0)), (.inr (.inr (.inl (44, 44)))), (.inr (.inr (.inr 1)))]),
  (200, [(.inl 27), (.inr (2, 3)), (.inl 1), (.inr (10, 4)), (.inl 1), (.inr (5, 5)), (.inl 5)], (0, 0), [(.inr (.inr (.inl (44, 44)))), (.inr (.inr (.inr 1))), (.inr (.inr (.inr 0))), (.inl (0, 1, 0, 0)), (.inl (0, 9, 0, 0)), (.inl (0, 4, 0, 0)), (.inr (.inr (.inr 0)))], [(.inl (0, 19, 0, 0)), (.inr (.inr (.inl (44, 44)))), (.inr (.inr (.inr 1)))]),
  (202, [(.inl 27), (.inr (2, 3)), (.inl 1), (.inr (10, 4)), (.inl 1), (.inr (5, 5)), (.inl 4)], (0, 0), [(.inr (.inr (.inl (44, 44)))), (.inr (.inr (.inr 1))), (.inr (.inr (.inr 0))), (.inl (0, 1, 0, 0)), (.inl (0, 9, 0, 0)), (.inl (0, 4, 0, 0)), (.inr (.inr (.inr 0)))], [(.inl (0, 4, 0, 6)), (.inl (0, 19, 0, 0)), (.inr (.inr (.inl (44, 44)))), (.inr (.inr (.inr 1)))]),
  (205, [(.inl 27), (.inr (2, 3)), (.inl 1), (.inr (10, 4)), (.inl 1), (.inr (5, 5)), (.inl 3)], (0, 0), [(.inr (.inr (.inl (44, 44)))), (.inr (.inr (.inr 1))), (.inr (.inr (.inr 0))), (.inl (0, 1, 0, 0)), (.inl (0, 9, 0, 0)), (.inl (0, 4, 0, 0)), (.inr (.inr (.inr 0)))], [zIA, (.inr (.inr (.inr 1)))]),
  (206, [(.inl 27), (.inr (2, 3)), (.inl 1), (.inr (10, 4)), (.inl 1), (.inr (5, 5)), (.inl 2)], (0, 0), [(.inr (.inr (.inl (44, 44)))), (.inr (.inr (.inr 1))), (.inr (.inr (.inr 0))), (.inl (0, 1, 0, 0)), (.inl (0, 9, 0, 0)), (.inl (0, 4, 0, 0)), (.inr (.inr (.inr 0)))], [(.inr (.inr (.inr 1))), (.inr (.inr (.inr 1)))]),
  (207, [(.inl 27), (.inr (2, 3)), (.inl 1), (.inr (10, 4)), (.inl 1), (.inr (5, 5)), (.inl 1)], (0, 0), [(.inr (.inr (.inl (44, 44)))), (.inr (.inr (.inr 1))), (.inr (.inr (.inr 0))), (.inl (0, 1, 0, 0)), (.inl (0, 9, 0, 0)), (.inl (0, 4, 0, 0)), (.inr (.inr (.inr 0)))], [(.inr (.inr (.inr 1)))]),
  (208, [(.inl 27), (.inr (2, 3)), (.inl 1), (.inr (10, 4)), (.inl 1), (.inr (5, 5)), (.inl 0)], (0, 0), [(.inr (.inr (.inl (44, 44)))), (.inr (.inr (.inr 1))), (.inr (.inr (.inr 0))), (.inl (0, 1, 0, 0)), (.inl (0, 9, 0, 0)), (.inl (0, 4, 0, 0)), (.inr (.inr (.inr 0)))], []),
  (211, [(.inl 27), (.inr (2, 3)), (.inl 1), (.inr (10, 4)), (.inl 1), (.inr (5, 5)), (.inl 18)], (0, 0), [(.inr (.inr (.inl (44, 44)))), (.inr (.inr (.inr 1))), (.inr (.inr (.inr 0))), (.inl (0, 1, 0, 0)), (.inl (0, 9, 0, 0)), (.inl (1, 5, 0, 0)), (.inr (.inr (.inr 0)))], []),
  (214, [(.inl 27), (.inr (2, 3)), (.inl 1), (.inr (10, 4)), (.inl 0), (.inl 0), (.inl 0)], (0, 0), [(.inr (.inr (.inl (44, 44)))), (.inr (.inr (.inr 1))), (.inr (.inr (.inr 0))), (.inl (0, 1, 0, 0)), (.inl (0, 9, 0, 0)), (.inl (5, 5, 0, 0)), (.inr (.inr (.inr 0)))], []),
  (217, [(.inl 27), (.inr (2, 3)), (.inl 1), (.inr (10, 4)), (.inl 7), (.inl 0), (.inl 0)], (0, 0), [(.inr (.inr (.inl (44, 44)))), (.inr (.inr (.inr 1))), (.inr (.inr (.inr 0))), (.inl (0, 1, 0, 0)), (.inl (1, 10, 0, 0)), (.inl (5, 5, 0, 0)), (.inr (.inr (.inr 0)))], []),
  (220, [(.inl 27), (.inr (2, 3)), (.inl 0), (.inl 0), (.inl 0), (.inl 0), (.inl 0)], (0, 0), [(.inr (.inr (.inl (44, 44)))), (.inr (.inr (.inr 1))), (.inr (.inr (.inr 0))), (.inl (0, 1, 0, 0)), (.inl (10, 10, 0, 0)), (.inl (1, 16, 0, 0)), (.inr (.inr (.inr 0)))], []),
  (223, [(.inl 27), (.inr (2, 3)), (.inl 47), (.inl 0), (.inl 0), (.inl 0), (.inl 0)], (0, 0), [(.inr (.inr (.inl (44, 44)))), (.inr (.inr (.inr 1))), (.inr (.inr (.inr 0))), (.inl (1, 2, 0, 0)), (.inl (10, 10, 0, 0)), (.inl (1, 16, 0, 0)), (.inr (.inr (.inr 0)))], []),
  (226, [(.inl 26), (.inl 0), (.inl 0), (.inl 0), (.inl 0), (.inl 0), (.inl 0)], (0, 0), [(.inr (.inr (.inl (44, 44)))), (.inr (.inr (.inr 1))), (.inr (.inr (.inr 0))), (.inl (2, 2, 0, 0)), (.inl (8, 16, 0, 0)), (.inl (1, 16, 0, 0)), (.inr (.inr (.inr 0)))], []),
  (227, [(.inl 25), (.inl 0), (.inl 0), (.inl 0), (.inl 0), (.inl 0), (.inl 0)], (0, 0), [(.inr (.inr (.inl (44, 44)))), (.inr (.inr (.inr 1))), (.inr (.inr (.inr 0))), (.inl (2, 2, 0, 0)), (.inl (8, 16, 0, 0)), (.inl (1, 16, 0, 0)), (.inr (.inr (.inr 0)))], [(.inl (0, 0, 0, 0))]),
  (228, [(.inl 24), (.inr (128, 3)), (.inl 32), (.inl 0), (.inl 0), (.inl 0), (.inl 0)], (0, 0), [(.inr (.inr (.inl (44, 44)))), (.inr (.inr (.inr 1))), (.inr (.inr (.inr 0))), (.inl (0, 128, 0, 0)), (.inl (8, 16, 0, 0)), (.inl (1, 16, 0, 0)), (.inr (.inr (.inr 0)))], []),
  (229, [(.inl 24), (.inr (128, 3)), (.inl 31), (.inl 0), (.inl 0), (.inl 0), (.inl 0)], (0, 0), [(.inr (.inr (.inl (44, 44)))), (.inr (.inr (.inr 1))), (.inr (.inr (.inr 0))), (.inl (0, 128, 0, 0)), (.inl (8, 16, 0, 0)), (.inl (1, 16, 0, 0)), (.inr (.inr (.inr 0)))], [(.inl (0, 128, 0, 4))]),
  (232, [(.inl 24), (.inr (128, 3)), (.inl 30), (.inl 0), (.inl 0), (.inl 0), (.inl 0)], (0, 0), [(.inr (.inr (.inl (44, 44)))), (.inr (.inr (.inr 1))), (.inr (.inr (.inr 0))), (.inl (0, 128, 0, 0)), (.inl (8, 16, 0, 0)), (.inl (1, 16, 0, 0)), (.inr (.inr (.inr 0)))], [(.inl (128, 128, 0, 0)), (.inl (0, 128, 0, 4))]),
  (235, [(.inl 24), (.inr (128, 3)), (.inl 29), (.inl 0), (.inl 0), (.inl 0), (.inl 0)], (0, 0), [(.inr (.inr (.inl (44, 44)))), (.inr (.inr (.inr 1))), (.inr (.inr (.inr 0))), (.inl (0, 127, 0, 0)), (.inl (8, 16, 0, 0)), (.inl (1, 16, 0, 0)), (.inr (.inr (.inr 0)))], []),
  (236, [(.inl 24), (.inr (128, 3)), (.inl 28), (.inl 0), (.inl 0), (.inl 0), (.inl 0)], (0, 0), [(.inr (.inr (.inl (44, 44)))), (.inr (.inr (.inr 1))), (.inr (.inr (.inr 0))), (.inl (0, 127, 0, 0)), (.inl (8, 16, 0, 0)), (.inl (1, 16, 0, 0)), (.inr (.inr (.inr 0)))], [(.inr (.inr (.inr 1)))]),
  (239, [(.inl 24), (.inr (128, 3)), (.inl 27), (.inl 0), (.inl 0), (.inl 0), (.inl 0)], (0, 0), [(.inr (.inr (.inl (44, 44)))), (.inr (.inr (.inr 1))), (.inr (.inr (.inr 0))), (.inl (0, 127, 0, 0)), (.inl (8, 16, 0, 0)), (.inl (1, 16, 0, 0)), (.inr (.inr (.inr 0)))], [(.inr (.inr (.inr 1))), (.inr (.inr (.inr 1)))]),
  (240, [(.inl 24), (.inr (128, 3)), (.inl 26), (.inl 0), (.inl 0), (.inl 0), (.inl 0)], (0, 0), [(.inr (.inr (.inl (44, 44)))), (.inr (.inr (.inr 1))), (.inr (.inr (.inr 0))), (.inl (0, 127, 0, 0)), (.inl (8, 16, 0, 0)), (.inl (1, 16, 0, 0)), (.inr (.inr (.inr 0)))], [(.inr (.inr (.inr 1)))]),
  (241, [(.inl 24), (.inr (128, 3)), (.inl 25), (.inl 0), (.inl 0), (.inl 0), (.inl 0)], (0, 0), [(.inr (.inr (.inl (44, 44)))), (.inr (.inr (.inr 1))), (.inr (.inr (.inr 0))), (.inl (0, 127, 0, 0)), (.inl (8, 16, 0, 0)), (.inl (1, 16, 0, 0)), (.inr (.inr (.inr 0)))], [(.inr (.inr (.inl (44, 44)))), (.inr (.inr (.inr 1)))]),
  (242, [(.inl 24), (.inr (128, 3)), (.inl 24), (.inl 0), (.inl 0), (.inl 0), (.inl 0)], (0, 0), [(.inr (.inr (.inl (44, 44)))), (.inr (.inr (.inr 1))), (.inr (.inr (.inr 0))), (.inl (0, 127, 0, 0)), (.inl (8, 16, 0, 0)), (.inl (1, 16, 0, 0)), (.inr (.inr (.inr 0)))], [(.inl (0, 127, 0, 4)), (.inr (.inr (.inl (44, 44)))), (.inr (.inr (.inr 1)))]),
  (243, [(.inl 24), (.inr (128, 3)), (.inl 23), (.inl 0), (.inl 0), (.inl 0), (.inl 0)], (0, 0), [(.inr (.inr (.inl (44, 44)))), (.inr (.inr (.inr 1))), (.inr (.inr (.inr 0))), (.inl (0, 127, 0, 0)), (.inl (8, 16, 0, 0)), (.inl (1, 16, 0, 0)), (.inr (.inr (.inr 0)))], [(.inl (0, 0, 0, 0)), (.inl (0, 127, 0, 4)), (.inr (.inr (.inl (44, 44)))), (.inr (.inr (.inr 1)))]),
  (246, [(.inl 24), (.inr (128, 3)), (.inl 22), (.inl 0), (.inl 0), (.inl 0), (.inl 0)], (0, 0), [(.inr (.inr (.inl (44, 44)))), (.inr (.inr (.inr 1))), (.inr (.inr (.inr 0))), (.inl (0, 127, 0, 0)), (.inl (8, 16, 0, 0)), (.inl (1, 16, 0, 0)), (.inr (.inr (.inr 0)))], [zIA, (.inr (.inr (.inr 1)))]),
  (247, [(.inl 24), (.inr (128, 3)), (.inl 21), (.inl 0), (.inl 0), (.inl 0), (.inl 0)], (0, 0), [(.inr (.inr (.inl (44, 44)))), (.inr (.inr (.inr 1))), (.inr (.inr (.inr 0))), (.inl (0, 127, 0, 0)), (.inl (8, 16, 0, 0)), (.inl (1, 16, 0, 0)), (.inr (.inr (.inr 0)))], [(.inr (.inr (.inr 1))), (.inr (.inr (.inr 1)))]),
  (248, [(.inl 24), (.inr (128, 3)), (.inl 20), (.inl 0), (.inl 0), (.inl 0), (.inl 0)], (0, 0), [(.inr (.inr (.inl (44, 44)))), (.inr (.inr (.inr 1))), (.inr (.inr (.inr 0))), (.inl (0, 127, 0, 0)), (.inl (8, 16, 0, 0)), (.inl (1, 16, 0, 0)), (.inr (.inr (.inr 0)))], [(.inr (.inr (.inr 1)))]),
  (249, [(.inl 24), (.inr (128, 3)), (.inl 19), (.inl 0), (.inl 0), (.inl 0), (.inl 0)], (0, 0), [(.inr (.inr (.inl (44, 44)))), (.inr (.inr (.inr 1))), (.inr (.inr (.inr 0))), (.inl (0, 127, 0, 0)), (.inl (8, 16, 0, 0)), (.inl (1, 16, 0, 0)), (.inr (.inr (.inr 0)))], []),
  (250, [(.inl 24), (.inr (128, 3)), (.inl 18), (.inl 0), (.inl 0), (.inl 0), (.inl 0)], (0, 0), [(.inr (.inr (.inl (44, 44)))), (.inr (.inr (.inr 1))), (.inr (.inr (.inr 0))), (.inl (0, 127, 0, 0)), (.inl (8, 16, 0, 0)), (.inl (1, 16, 0, 0)), (.inr (.inr (.inr 0)))], [(.inr (.inr (.inr 1)))]),
  (253, [(.inl 24), (.inr (128, 3)), (.inl 17), (.inl 0), (.inl 0), (.inl 0), (.inl 0)], (0, 0), [(.inr (.inr (.inl (44, 44)))), (.inr (.inr (.inr 1))), (.inr (.inr (.inr 0))), (.inl (0, 127, 0, 0)), (.inl (8, 16, 0, 0)), (.inl (1, 16, 0, 0)), (.inr (.inr (.inr 0)))], [(.inr (.inr (.inr 1))), (.inr (.inr (.inr 1)))]),
  (254, [(.inl 24), (.inr (128, 3)), (.inl 16), (.inl 0), (.inl 0), (.inl 0), (.inl 0)], (0, 0), [(.inr (.inr (.inl (44, 44)))), (.inr (.inr (.inr 1))), (.inr (.inr (.inr 0))), (.inl (0, 127, 0, 0)), (.inl (8, 16, 0, 0)), (.inl (1, 16, 0, 0)), (.inr (.inr (.inr 0)))], [(.inr (.inr (.inr 1)))]),
  (255, [(.inl 24), (.inr (128, 3)), (.inl 15), (.inl 0), (.inl 0), (.inl 0), (.inl 0)], (0, 0), [(.inr (.inr (.inl (44, 44)))), (.inr (.inr (.inr 1))), (.inr (.inr (.inr 0))), (.inl (0, 127, 0, 0)), (.inl (8, 16, 0, 0)), (.inl (1, 16, 0, 0)), (.inr (.inr (.inr 0)))], [(.inr (.inr (.inl (44, 44)))), (.inr (.inr (.inr 1)))]),
  (256, [(.inl 24), (.inr (128, 3)), (.inl 14), (.inl 0), (.inl 0), (.inl 0), (.inl 0)], (0, 0), [(.inr (.inr (.inl (44, 44)))), (.inr (.inr (.inr 1))), (.inr (.inr (.inr 0))), (.inl (0, 127, 0, 0)), (.inl (8, 16, 0, 0)), (.inl (1, 16, 0, 0)), (.inr (.inr (.inr 0)))], [(.inl (0, 127, 0, 4)), (.inr (.inr (.inl (44, 44)))), (.inr (.inr (.inr 1)))]),
  (257, [(.inl 24), (.inr (128, 3)), (.inl 13), (.inl 0), (.inl 0), (.inl 0), (.inl 0)], (0, 0), [(.inr (.inr (.inl (44, 44)))), (.inr (.inr (.inr 1))), (.inr (.inr (.inr 0))), (.inl (0, 127, 0, 0)), (.inl (8, 16, 0, 0)), (.inl (1, 16, 0, 0)), (.inr (.inr (.inr 0)))], [(.inl (2, 2, 0, 0)), (.inl (0, 127, 0, 4)), (.inr (.inr (.inl (44, 44)))), (.inr (.inr (.inr 1)))]),
  (260, [(.inl 24), (.inr (128, 3)), (.inl 12), (.inl 0), (.inl 0), (.inl 0), (.inl 0)], (0, 0), [(.inr (.inr (.inl (44, 44)))), (.inr (.inr (.inr 1))), (.inr (.inr (.inr 0))), (.inl (0, 127, 0, 0)), (.inl (8, 16, 0, 0)), (.inl (1, 16, 0, 0)), (.inr (.inr (.inr 0)))], [zIA, (.inr (.inr (.inr 1)))]),
  (261, [(.inl 24), (.inr (128, 3)), (.inl 11), (.inl 0), (.inl 0), (.inl 0), (.inl 0)], (0, 0), [(.inr (.inr (.inl (44, 44)))), (.inr (.inr (.inr 1))), (.inr (.inr (.inr 0))), (.inl (0, 127, 0, 0)), (.inl (8, 16, 0, 0)), (.inl (1, 16, 0, 0)), (.inr (.inr (.inr 0)))], [(.inr (.inr (.inr 1))), (.inr (.inr (.inr 1)))]),
  (262, [(.inl 24), (.inr (128, 3)), (.inl 10), (.inl 0), (.inl 0), (.inl 0), (.inl 0)], (0, 0), [(.inr (.inr (.inl (44, 44)))), (.inr (.inr (.inr 1))), (.inr (.inr (.inr 0))), (.inl (0, 127, 0, 0)), (.inl (8, 16, 0, 0)), (.inl (1, 16, 0, 0)), (.inr (.inr (.inr 0)))], [(.inr (.inr (.inr 1)))]),
  (263, [(.inl 24), (.inr (128, 3)), (.inl 9), (.inl 0), (.inl 0), (.inl 0), (.inl 0)], (0, 0), [(.inr (.inr (.inl (44, 44)))), (.inr (.inr (.inr 1))), (.inr (.inr (.inr 0))), (.inl (0, 127, 0, 0)), (.inl (8, 16, 0, 0)), (.inl (1, 16, 0, 0)), (.inr (.inr (.inr 0)))], []),
  (264, [(.inl 24), (.inr (128, 3)), (.inl 8), (.inl 0), (.inl 0), (.inl 0), (.inl 0)], (0, 0), [(.inr (.inr (.inl (44, 44)))), (.inr (.inr (.inr 1))), (.inr (.inr (.inr 0))), (.inl (0, 127, 0, 0)), (.inl (8, 16, 0, 0)), (.inl (1, 16, 0, 0)), (.inr (.inr (.inr 0)))], [(.inr (.inr (.inr 1)))]),
  (267, [(.inl 24), (.inr (128, 3)), (.inl 7), (.inl 0), (.inl 0), (.inl 0), (.inl 0)], (0, 0), [(.inr (.inr (.inl (44, 44)))), (.inr (.inr (.inr 1))), (.inr (.inr (.inr 0))), (.inl (0, 127, 0, 0)), (.inl (8, 16, 0, 0)), (.inl (1, 16, 0, 0)), (.inr (.inr (.inr 0)))], [(.inr (.inr (.inr 1))), (.inr (.inr (.inr 1)))]),
  (268, [(.inl 24), (.inr (128, 3)), (.inl 6), (.inl 0), (.inl 0), (.inl 0), (.inl 0)], (0, 0), [(.inr (.inr (.inl (44, 44)))), (.inr (.inr (.inr 1))), (.inr (.inr (.inr 0))), (.inl (0, 127, 0, 0)), (.inl (8, 16, 0, 0)), (.inl (1, 16, 0, 0)), (.inr (.inr (.inr 0)))], [(.inr (.inr (.inr 1)))]),
  (269, [(.inl 24), (.inr (128, 3)), (.inl 5), (.inl 0), (.inl 0), (.inl 0), (.inl 0)], (0, 0), [(.inr (.inr (.inl (44, 44)))), (.inr (.inr (.inr 1))), (.inr (.inr (.inr 0))), (.inl (0, 127, 0, 0)), (.inl (8, 16, 0, 0)), (.inl (1, 16, 0, 0)), (.inr (.inr (.inr 0)))], [(.inr (.inr (.inl (44, 44)))), (.inr (.inr (.inr 1)))]),
  (270, [(.inl 24), (.inr (128, 3)), (.inl 4), (.inl 0), (.inl 0), (.inl 0), (.inl 0)], (0, 0), [(.inr (.inr (.inl (44, 44)))), (.inr (.inr (.inr 1))), (.inr (.inr (.inr 0))), (.inl (0, 127, 0, 0)), (.inl (8, 16, 0, 0)), (.inl (1, 16, 0, 0)), (.inr (.inr (.inr 0)))], [(.inl (0, 127, 0, 4)), (.inr (.inr (.inl (44, 44)))), (.inr (.inr (.inr 1)))]),
  (273, [(.inl 24), (.inr (128, 3)), (.inl 3), (.inl 0), (.inl 0), (.inl 0), (.inl 0)], (0, 0), [(.inr (.inr (.inl (44, 44)))), (.inr (.inr (.inr 1))), (.inr (.inr (.inr 0))), (.inl (0, 127, 0, 0)), (.inl (8, 16, 0, 0)), (.inl (1, 16, 0, 0)), (.inr (.inr (.inr 0)))], [zIA, (.inr (.inr (.inr 1)))]),
  (274, [(.inl 24), (.inr (128, 3)), (.inl 2), (.inl 0), (.inl 0), (.inl 0), (.inl 0)], (0, 0), [(.inr (.inr (.inl (44, 44)))), (.inr (.inr (.inr 1))), (.inr (.inr (.inr 0))), (.inl (0, 127, 0, 0)), (.inl (8, 16, 0, 0)), (.inl (1, 16, 0, 0)), (.inr (.inr (.inr 0)))], [(.inr (.inr (.inr 1))), (.inr (.inr (.inr 1)))]),
  (275, [(.inl 24), (.inr (128, 3)), (.inl 1), (.inl 0), (.inl 0), (.inl 0), (.inl 0)], (0, 0), [(.inr (.inr (.inl (44, 44)))), (.inr (.inr (.inr 1))), (.inr (.inr (.inr 0))), (.inl (0, 127, 0, 0)), (.inl (8, 16, 0, 0)), (.inl (1, 16, 0, 0)), (.inr (.inr (.inr 0)))], [(.inr (.inr (.inr 1)))]),
  (276, [(.inl 24), (.inr (128, 3)), (.inl 0), (.inl 0), (.inl 0), (.inl 0), (.inl 0)], (0, 0), [(.inr (.inr (.inl (44, 44)))), (.inr (.inr (.inr 1))), (.inr (.inr (.inr 0))), (.inl (0, 127, 0, 0)), (.inl (8, 16, 0, 0)), (.inl (1, 16, 0, 0)), (.inr (.inr (.inr 0)))], []),
  (279, [(.inl 24), (.inr (128, 3)), (.inl 33), (.inl 0), (.inl 0), (.inl 0), (.inl 0)], (0, 0), [(.inr (.inr (.inl (44, 44)))), (.inr (.inr (.inr 1))), (.inr (.inr (.inr 0))), (.inl (1, 128, 0, 0)), (.inl (8, 16, 0, 0)), (.inl (1, 16, 0, 0)), (.inr (.inr (.inr 0)))], []),
  (282, [(.inl 23), (.inl 0), (.inl 0), (.inl 0), (.inl 0), (.inl 0), (.inl 0)], (0, 0), [(.inr (.inr (.inl (44, 44)))), (.inr (.inr (.inr 1))), (.inr (.inr (.inr 0))), (.inl (128, 128, 0, 0)), (.inl (8, 16, 0, 0)), (.inl (1, 16, 0, 0)), (.inr (.inr (.inr 0)))], []),
  (283, [(.inl 22), (.inl 0), (.inl 0), (.inl 0), (.inl 0), (.inl 0), (.inl 0)], (0, 0), [(.inr (.inr (.inl (44, 44)))), (.inr (.inr (.inr 1))), (.inr (.inr (.inr 0))), (.inl (128, 128, 0, 0)), (.inl (8, 16, 0, 0)), (.inl (1, 16, 0, 0)), (.inr (.inr (.inr 0)))], [(.inl (0, 0, 0, 0))]),
  (284, [(.inl 21), (.inr (40, 3)), (.inl 8), (.inl 0), (.inl 0), (.inl 0), (.inl 0)], (0, 0), [(.inr (.inr (.inl (44, 44)))), (.inr (.inr (.inr 1))), (.inr (.inr (.inr 0))), (.inl (0, 40, 0, 0)), (.inl (3, 16, 0, 0)), (.inl (1, 16, 0, 0)), (.inr (.inr (.inr 0)))], []),
  (285, [(.inl 21), (.inr (40, 3)), (.inl 7), (.inl 0), (.inl 0), (.inl 0), (.inl 0)], (0, 0), [(.inr (.inr (.inl (44, 44)))), (.inr (.inr (.inr 1))), (.inr (.inr (.inr 0))), (.inl (0, 40, 0, 0)), (.inl (3, 16, 0, 0)), (.inl (1, 16, 0, 0)), (.inr (.inr (.inr 0)))], [(.inl (0, 40, 0, 4))]),
  (286, [(.inl 21), (.inr (40, 3)), (.inl 6), (.inl 0), (.inl 0), (.inl 0), (.inl 0)], (0, 0), [(.inr (.inr (.inl (44, 44)))), (.inr (.inr (.inr 1))), (.inr (.inr (.inr 0))), (.inl (0, 40, 0, 0)), (.inl (3, 16, 0, 0)), (.inl (1, 16, 0, 0)), (.inr (.inr (.inr 0)))], [(.inr (.inr (.inl (44, 44)))), (.inl (0, 40, 0, 4))]),
  (289, [(.inl 21), (.inr (40, 3)), (.inl 5), (.inl 0), (.inl 0), (.inl 0), (.inl 0)], (0, 0), [(.inr (.inr (.inl (44, 44)))), (.inr (.inr (.inr 1))), (.inr (.inr (.inr 0))), (.inl (0, 40, 0, 0)), (.inl (3, 16, 0, 0)), (.inl (1, 16, 0, 0)), (.inr (.inr (.inr 0)))], [(.inr (.inr (.inr 10))), (.inl (0, 40, 0, 4))]),
  (294, [(.inl 21), (.inr (40, 3)), (.inl 4), (.inl 0), (.inl 0), (.inl 0), (.inl 0)], (0, 0), [(.inr (.inr (.inl (44, 44)))), (.inr (.inr (.inr 1))), (.inr (.inr (.inr 0))), (.inl (0, 40, 0, 0)), (.inl (3, 16, 0, 0)), (.inl (1, 16, 0, 0)), (.inr (.inr (.inr 0)))], [(.inl (0, 40, 6, 0)), (.inl (0, 40, 0, 4))]),
  (297, [(.inl 21), (.inr (40, 3)), (.inl 3), (.inl 0), (.inl 0), (.inl 0), (.inl 0)], (0, 0), [(.inr (.inr (.inl (44, 44)))), (.inr (.inr (.inr 1))), (.inr (.inr (.inr 0))), (.inl (0, 39, 5, 0)), (.inl (3, 16, 0, 0)), (.inl (1, 16, 0, 0)), (.inr (.inr (.inr 0)))], []),
  (298, [(.inl 21), (.inr (40, 3)), (.inl 2), (.inl 0), (.inl 0), (.inl 0), (.inl 0)], (0, 0), [(.inr (.inr (.inl (44, 44)))), (.inr (.inr (.inr 1))), (.inr (.inr (.inr 0))), (.inl (0, 39, 5, 0)), (.inl (3, 16, 0, 0)), (.inl (1, 16, 0, 0)), (.inr (.inr (.inr 0)))], [(.inl (0, 0, 0, 0))]),
  (300, [(.inl 21), (.inr (40, 3)), (.inl 1), (.inr (3, 4)), (.inl 16), (.inl 0), (.inl 0)], (0, 0), [(.inr (.inr (.inl (44, 44)))), (.inr (.inr (.inr 1))), (.inr (.inr (.inr 0))), (.inl (0, 39, 5, 0)), (.inl (0, 3, 0, 0)), (.inl (1, 16, 0, 0)), (.inr (.inr (.inr 0)))], []),
  (302, [(.inl 21), (.inr (40, 3)), (.inl 1), (.inr (3, 4)), (.inl 15), (.inl 0), (.inl 0)], (0, 0), [(.inr (.inr (.inl (44, 44)))), (.inr (.inr (.inr 1))), (.inr (.inr (.inr 0))), (.inl (0, 39, 5, 0)), (.inl (0, 3, 0, 0)), (.inl (1, 16, 0, 0)), (.inr (.inr (.inr 0)))], [(.inl (0, 3, 0, 5))]),
  (303, [(.inl 21), (.inr (40, 3)), (.inl 1), (.inr (3, 4)), (.inl 14), (.inl 0), (.inl 0)], (0, 0), [(.inr (.inr (.inl (44, 44)))), (.inr (.inr (.inr 1))), (.inr (.inr (.inr 0))), (.inl (0, 39, 5, 0)), (.inl (0, 3, 0, 0)), (.inl (1, 16, 0, 0)), (.inr (.inr (.inr 0)))], [(.inl (2, 2, 0, 0)), (.inl (0, 3, 0, 5))]),
  (306, [(.inl 21), (.inr (40, 3)), (.inl 1), (.inr (3, 4)), (.inl 13), (.inl 0), (.inl 0)], (0, 0), [(.inr (.inr (.inl (44, 44)))), (.inr (.inr (.inr 1))), (.inr (.inr (.inr 0))), (.inl (0, 39, 5, 0)), (.inl (0, 2, 0, 0)), (.inl (1, 16, 0, 0)), (.inr (.inr (.inr 0)))], []),
  (307, [(.inl 21), (.inr (40, 3)), (.inl 1), (.inr (3, 4)), (.inl 12), (.inl 0), (.inl 0)], (0, 0), [(.inr (.inr (.inl (44, 44)))), (.inr (.inr (.inr 1))), (.inr (.inr (.inr 0))), (.inl (0, 39, 5, 0)), (.inl (0, 2, 0, 0)), (.inl (1, 16, 0, 0)), (.inr (.inr (.inr 0)))], [(.inr (.inr (.inr 1)))]),
  (310, [(.inl 21), (.inr (40, 3)), (.inl 1), (.inr (3, 4)), (.inl 11), (.inl 0), (.inl 0)], (0, 0), [(.inr (.inr (.inl (44, 44)))), (.inr (.inr (.inr 1))), (.inr (.inr (.inr 0))), (.inl (0, 39, 5, 0)), (.inl (0, 2, 0, 0)), (.inl (1, 16, 0, 0)), (.inr (.inr (.inr 0)))], [(.inr (.inr (.inr 1))), (.inr (.inr (.inr 1)))]),
  (311, [(.inl 21), (.inr (40, 3)), (.inl 1), (.inr (3, 4)), (.inl 10), (.inl 0), (.inl 0)], (0, 0), [(.inr (.inr (.inl (44, 44)))), (.inr (.inr (.inr 1))), (.inr (.inr (.inr 0))), (.inl (0, 39, 5, 0)), (.inl (0, 2, 0, 0)), (.inl (1, 16, 0, 0)), (.inr (.inr (.inr 0)))], [(.inr (.inr (.inr 1)))]),
  (312, [(.inl 21), (.inr (40, 3)), (.inl 1), (.inr (3, 4)), (.inl 9), (.inl 0), (.inl 0)], (0, 0), [(.inr (.inr (.inl (44, 44)))), (.inr (.inr (.inr 1))), (.inr (.inr (.inr 0))), (.inl (0, 39, 5, 0)), (.inl (0, 2, 0, 0)), (.inl (1, 16, 0, 0)), (.inr (.inr (.inr 0)))], [(.inr (.inr (.inl (44, 44)))), (.inr (.inr (.inr 1)))]),
  (315, [(.inl 21), (.inr (40, 3)), (.inl 1), (.inr (3, 4)), (.inl 8), (.inl 0), (.inl 0)], (0, 0), [(.inr (.inr (.inl (44, 44)))), (.inr (.inr (.inr 1))), (.inr (.inr (.inr 0))), (.inl (0, 39, 5, 0)), (.inl (0, 2, 0, 0)), (.inl (1, 16, 0, 0)), (.inr (.inr (.inr 0)))], [(.inr (.inr (.inr 10))), (.inr (.inr (.inr 1)))]),
  (316, [(.inl 21), (.inr (40, 3)), (.inl 1), (.inr (3, 4)), (.inl 7), (.inl 0), (.inl 0)], (0, 0), [(.inr (.inr (.inl (44, 44)))), (.inr (.inr (.inr 1))), (.inr (.inr (.inr 0))), (.inl (0, 39, 5, 0)), (.inl (0, 2, 0, 0)), (.inl (1, 16, 0, 0)), (.inr (.inr (.inr 0)))], [(.inl (0, 39, 5, 4)), (.inr (.inr (.inr 10))), (.inr (.inr (.inr 1)))]),
  (321, [(.inl 21), (.inr (40, 3)), (.inl 1), (.inr (3, 4)), (.inl 6), (.inl 0), (.inl 0)], (0, 0), [(.inr (.inr (.inl (44, 44)))), (.inr (.inr (.inr 1))), (.inr (.inr (.inr 0))), (.inl (0, 39, 5, 0)), (.inl (0, 2, 0, 0)), (.inl (1, 16, 0, 0)), (.inr (.inr (.inr 0)))], [(.inr (.inr (.inr 7))), (.inr (.inr (.inr 1)))]),
  (324, [(.inl 21), (.inr (40, 3)), (.inl 1), (.inr (3, 4)), (.inl 5), (.inl 0), (.inl 0)], (0, 0), [(.inr (.inr (.inl (44, 44)))), (.inr (.inr (.inr 1))), (.inr (.inr (.inr 0))), (.inl (0, 39, 5, 0)), (.inl (0, 2, 0, 0)), (.inl (1, 16, 0, 0)), (.inr (.inr (.inr 0)))], [(.inr (.inr (.inr 7))), (.inr (.inr (.inr 1)))]),
  (326, [(.inl 21), (.inr (40, 3)), (.inl 1), (.inr (3, 4)), (.inl 4), (.inl 0), (.inl 0)], (0, 0), [(.inr (.inr (.inl (44, 44)))), (.inr (.inr (.inr 1))), (.inr (.inr (.inr 0))), (.inl (0, 39, 5, 0)), (.inl (0, 2, 0, 0)), (.inl (1, 16, 0, 0)), (.inr (.inr (.inr 0)))], [(.inl (0, 2, 0, 5)), (.inr (.inr (.inr 7))), (.inr (.inr (.inr 1)))]),
  (327, [(.inl 21), (.inr (40, 3)), (.inl 1), (.inr (3, 4)), (.inl 3), (.inl 0), (.inl 0)], (0, 0), [(.inr (.inr (.inl (44, 44)))), (.inr (.inr (.inr 1))), (.inr (.inr (.inr 0))), (.inl (0, 39, 5, 0)), (.inl (0, 2, 0, 0)), (.inl (1, 16, 0, 0)), (.inr (.inr (.inr 0)))], [zIA, (.inr (.inr (.inr 1)))]),
  (328, [(.inl 21), (.inr (40, 3)), (.inl 1), (.inr (3, 4)), (.inl 2), (.inl 0), (.inl 0)], (0, 0), [(.inr (.inr (.inl (44, 44)))), (.inr (.inr (.inr 1))), (.inr (.inr (.inr 0))), (.inl (0, 39, 5, 0)), (.inl (0, 2, 0, 0)), (.inl (1, 16, 0, 0)), (.inr (.inr (.inr 0)))], [(.inr (.inr (.inr 1))), (.inr (.inr (.inr 1)))]),
  (329, [(.inl 21), (.inr (40, 3)), (.inl 1), (.inr (3, 4)), (.inl 1), (.inl 0), (.inl 0)], (0, 0), [(.inr (.inr (.inl (44, 44)))), (.inr (.inr (.inr 1))), (.inr (.inr (.inr 0))), (.inl (0, 39, 5, 0)), (.inl (0, 2, 0, 0)), (.inl (1, 16, 0, 0)), (.inr (.inr (.inr 0)))], [(.inr (.inr (.inr 1)))]),
  (330, [(.inl 21), (.inr (40, 3)), (.inl 1), (.inr (3, 4)), (.inl 0), (.inl 0), (.inl 0)], (0, 0), [(.inr (.inr (.inl (44, 44)))), (.inr (.inr (.inr 1))), (.inr (.inr (.inr 0))), (.inl (0, 39, 5, 0)), (.inl (0, 2, 0, 0)), (.inl (1, 16, 0, 0)), (.inr (.inr (.inr 0)))], []),
  (333, [(.inl 21), (.inr (40, 3)), (.inl 1), (.inr (3, 4)), (.inl 17), (.inl 0), (.inl 0)], (0, 0), [(.inr (.inr (.inl (44, 44)))), (.inr (.inr (.inr 1))), (.inr (.inr (.inr 0))), (.inl (0, 39, 5, 0)), (.inl (1, 3, 0, 0)), (.inl (1, 16, 0, 0)), (.inr (.inr (.inr 0)))], []),
  (336, [(.inl 21), (.inr (40, 3)), (.inl 0), (.inl 0), (.inl 0), (.inl 0), (.inl 0)], (0, 0), [(.inr (.inr (.inl (44, 44)))), (.inr (.inr (.inr 1))), (.inr (.inr (.inr 0))), (.inl (0, 39, 5, 0)), (.inl (3, 3, 0, 0)), (.inl (1, 16, 0, 0)), (.inr (.inr (.inr 0)))], []),
  (339, [(.inl 21), (.inr (40, 3)), (.inl 9), (.inl 0), (.inl 0), (.inl 0), (.inl 0)], (0, 0), [(.inr (.inr (.inl (44, 44)))), (.inr (.inr (.inr 1))), (.inr (.inr (.inr 0))), (.inl (1, 40, 0, 0)), (.inl (3, 3, 0, 0)), (.inl (1, 16, 0, 0)), (.inr (.inr (.inr 0)))], []),
  (342, [(.inl 20), (.inl 0), (.inl 0), (.inl 0), (.inl 0), (.inl 0), (.inl 0)], (0, 0), [(.inr (.inr (.inl (44, 44)))), (.inr (.inr (.inr 1))), (.inr (.inr (.inr 0))), (.inl (0, 40, 0, 0)), (.inl (3, 16, 0, 0)), (.inl (1, 16, 0, 0)), (.inr (.inr (.inr 0)))], []),
  (343, [(.inl 19), (.inl 0), (.inl 0), (.inl 0), (.inl 0), (.inl 0), (.inl 0)], (0, 0), [(.inr (.inr (.inl (44, 44)))), (.inr (.inr (.inr 1))), (.inr (.inr (.inr 0))), (.inl (0, 40, 0, 0)), (.inl (3, 16, 0, 0)), (.inl (1, 16, 0, 0)), (.inr (.inr (.inr 0)))], [(.inr (.inr (.inr 1)))]),
  (346, [(.inl 18), (.inl 0), (.inl 0), (.inl 0), (.inl 0), (.inl 0), (.inl 0)], (0, 0), [(.inr (.inr (.inl (44, 44)))), (.inr (.inr (.inr 1))), (.inr (.inr (.inr 0))), (.inl (0, 40, 0, 0)), (.inl (3, 16, 0, 0)), (.inl (1, 16, 0, 0)), (.inr (.inr (.inr 0)))], [(.inr (.inr (.inr 1))), (.inr (.inr (.inr 1)))]),
  (347, [(.inl 17), (.inl 0), (.inl 0), (.inl 0), (.inl 0), (.inl 0), (.inl 0)], (0, 0), [(.inr (.inr (.inl (44, 44)))), (.inr (.inr (.inr 1))), (.inr (.inr (.inr 0))), (.inl (0, 40, 0, 0)), (.inl (3, 16, 0, 0)), (.inl (1, 16, 0, 0)), (.inr (.inr (.inr 0)))], [(.inr (.inr (.inr 1)))]),
  (348, [(.inl 16), (.inl 0), (.inl 0), (.inl 0), (.inl 0), (.inl 0), (.inl 0)], (0, 0), [(.inr (.inr (.inl (44, 44)))), (.inr (.inr (.inr 1))), (.inr (.inr (.inr 0))), (.inl (0, 40, 0, 0)), (.inl (3, 16, 0, 0)), (.inl (1, 16, 0, 0)), (.inr (.inr (.inr 0)))], [(.inr (.inr (.inl (44, 44)))), (.inr (.inr (.inr 1)))]),
  (350, [(.inl 15), (.inl 0), (.inl 0), (.inl 0), (.inl 0), (.inl 0), (.inl 0)], (0, 0), [(.inr (.inr (.inl (44, 44)))), (.inr (.inr (.inr 1))), (.inr (.inr (.inr 0))), (.inl (0, 40, 0, 0)), (.inl (3, 16, 0, 0)), (.inl (1, 16, 0, 0)), (.inr (.inr (.inr 0)))], [(.inl (20, 20, 0, 0)), (.inr (.inr (.inl (44, 44)))), (.inr (.inr (.inr 1)))]),
  (353, [(.inl 14), (.inl 0), (.inl 0), (.inl 0), (.inl 0), (.inl 0), (.inl 0)], (0, 0), [(.inr (.inr (.inl (44, 44)))), (.inr (.inr (.inr 1))), (.inr (.inr (.inr 0))), (.inl (0, 40, 0, 0)), (.inl (3, 16, 0, 0)), (.inl (1, 16, 0, 0)), (.inr (.inr (.inr 0)))], [zIA, (.inr (.inr (.inr 1)))]),
  (354, [(.inl 13), (.inl 0), (.inl 0), (.inl 0), (.inl 0), (.inl 0), (.inl 0)], (0, 0), [(.inr (.inr (.inl (44, 44)))), (.inr (.inr (.inr 1))), (.inr (.inr (.inr 0))), (.inl (0, 40, 0, 0)), (.inl (3, 16, 0, 0)), (.inl (1, 16, 0, 0)), (.inr (.inr (.inr 0)))], [(.inr (.inr (.inr 1))), (.inr (.inr (.inr 1)))]),
  (355, [(.inl 12), (.inl 0), (.inl 0), (.inl 0), (.inl 0), (.inl 0), (.inl 0)], (0, 0), [(.inr (.inr (.inl (44, 44)))), (.inr (.inr (.inr 1))), (.inr (.inr (.inr 0))), (.inl (0, 40, 0, 0)), (.inl (3, 16, 0, 0)), (.inl (1, 16, 0, 0)), (.inr (.inr (.inr 0)))], [(.inr (.inr (.inr 1)))]),
  (356, [(.inl 11), (.inl 0), (.inl 0), (.inl 0), (.inl 0), (.inl 0), (.inl 0)], (0, 0), [(.inr (.inr (.inl (44, 44)))), (.inr (.inr (.inr 1))), (.inr (.inr (.inr 0))), (.inl (0, 40, 0, 0)), (.inl (3, 16, 0, 0)), (.inl (1, 16, 0, 0)), (.inr (.inr (.inr 0)))], []),
  (357, [(.inl 10), (.inl 0), (.inl 0), (.inl 0), (.inl 0), (.inl 0), (.inl 0)], (0, 0), [(.inr (.inr (.inl (44, 44)))), (.inr (.inr (.inr 1))), (.inr (.inr (.inr 0))), (.inl (0, 40, 0, 0)), (.inl (3, 16, 0, 0)), (.inl (1, 16, 0, 0)), (.inr (.inr (.inr 0)))], [(.inr (.inr (.inr 1)))]),
  (360, [(.inl 9), (.inl 0), (.inl 0), (.inl 0), (.inl 0), (.inl 0), (.inl 0)], (0, 0), [(.inr (.inr (.inl (44, 44)))), (.inr (.inr (.inr 1))), (.inr (.inr (.inr 0))), (.inl (0, 40, 0, 0)), (.inl (3, 16, 0, 0)), (.inl (1, 16, 0, 0)), (.inr (.inr (.inr 0)))], [(.inr (.inr (.inr 1))), (.inr (.inr (.inr 1)))]),
  (361, [(.inl 8), (.inl 0), (.inl 0), (.inl 0), (.inl 0), (.inl 0), (.inl 0)], (0, 0), [(.inr (.inr (.inl (44, 44)))), (.inr (.inr (.inr 1))), (.inr (.inr (.inr 0))), (.inl (0, 40, 0, 0)), (.inl (3, 16, 0, 0)), (.inl (1, 16, 0, 0)), (.inr (.inr (.inr 0)))], [(.inr (.inr (.inr 1)))]),
  (362, [(.inl 7), (.inl 0), (.inl 0), (.inl 0), (.inl 0), (.inl 0), (.inl 0)], (0, 0), [(.inr (.inr (.inl (44, 44)))), (.inr (.inr (.inr 1))), (.inr (.inr (.inr 0))), (.inl (0, 40, 0, 0)), (.inl (3, 16, 0, 0)), (.inl (1, 16, 0, 0)), (.inr (.inr (.inr 0)))], [(.inr (.inr (.inl (44, 44)))), (.inr (.inr (.inr 1)))]),
  (365, [(.inl 6), (.inl 0), (.inl 0), (.inl 0), (.inl 0), (.inl 0), (.inl 0)], (0, 0), [(.inr (.inr (.inl (44, 44)))), (.inr (.inr (.inr 1))), (.inr (.inr (.inr 0))), (.inl (0, 40, 0, 0)), (.inl (3, 16, 0, 0)), (.inl (1, 16, 0, 0)), (.inr (.inr (.inr 0)))], [(.inl (0, 1, 0, 0)), (.inr (.inr (.inr 1)))]),
  (368, [(.inl 5), (.inl 0), (.inl 0), (.inl 0), (.inl 0), (.inl 0), (.inl 0)], (0, 0), [(.inr (.inr (.inl (44, 44)))), (.inr (.inr (.inr 1))), (.inr (.inr (.inr 0))), (.inl (0, 40, 0, 0)), (.inl (3, 16, 0, 0)), (.inl (1, 16, 0, 0)), (.inr (.inr (.inr 0)))], [(.inr (.inr (.inr 1)))]),
  (369, [(.inl 4), (.inl 0), (.inl 0), (.inl 0), (.inl 0), (.inl 0), (.inl 0)], (0, 0), [(.inr (.inr (.inl (44, 44)))), (.inr (.inr (.inr 1))), (.inr (.inr (.inr 0))), (.inl (0, 40, 0, 0)), (.inl (3, 16, 0, 0)), (.inl (1, 16, 0, 0)), (.inr (.inr (.inr 0)))], [(.inl (1, 1, 0, 0)), (.inr (.inr (.inr 1)))]),
  (372, [(.inl 3), (.inl 0), (.inl 0), (.inl 0), (.inl 0), (.inl 0), (.inl 0)], (0, 0), [(.inr (.inr (.inl (44, 44)))), (.inr (.inr (.inr 1))), (.inr (.inr (.inr 0))), (.inl (0, 40, 0, 0)), (.inl (3, 16, 0, 0)), (.inl (1, 16, 0, 0)), (.inr (.inr (.inr 0)))], [(.inr (.inr (.inr 1)))]),
  (373, [(.inl 2), (.inl 0), (.inl 0), (.inl 0), (.inl 0), (.inl 0), (.inl 0)], (0, 0), [(.inr (.inr (.inl (44, 44)))), (.inr (.inr (.inr 1))), (.inr (.inr (.inr 0))), (.inl (0, 40, 0, 0)), (.inl (3, 16, 0, 0)), (.inl (1, 16, 0, 0)), (.inr (.inr (.inr 0)))], [(.inl (0, 1, 0, 0)), (.inr (.inr (.inr 1)))]),
  (374, [(.inl 1), (.inl 0), (.inl 0), (.inl 0), (.inl 0), (.inl 0), (.inl 0)], (0, 0), [(.inr (.inr (.inl (44, 44)))), (.inr (.inr (.inr 1))), (.inr (.inr (.inr 0))), (.inl (0, 40, 0, 0)), (.inl (3, 16, 0, 0)), (.inl (1, 16, 0, 0)), (.inr (.inr (.inr 0)))], [(.inr (.inr (.inr 1))), (.inr (.inr (.inr 1)))]),
  (375, [(.inl 0), (.inl 0), (.inl 0), (.inl 0), (.inl 0), (.inl 0), (.inl 0)], (0, 0), [(.inr (.inr (.inl (44, 44)))), (.inr (.inr (.inr 1))), (.inr (.inr (.inr 0))), (.inl (0, 40, 0, 0)), (.inl (3, 16, 0, 0)), (.inl (1, 16, 0, 0)), (.inr (.inr (.inr 0)))], [(.inr (.inr (.inr 1)))])]
def cs_dgB : List zCt := [ct_156, ct_159, ct_163, ct_169, ct_173, ct_177, ct_179, ct_183, ct_186, ct_239c, ct_243c]
theorem gs_dgB {xs : List Int32} : ∀ ct ∈ cs_dgB, zGd xs ct := List.forall_mem_cons.mpr ⟨g_156, List.forall_mem_cons.mpr ⟨g_159, List.forall_mem_cons.mpr ⟨g_163, List.forall_mem_cons.mpr ⟨g_169, List.forall_mem_cons.mpr ⟨g_173, List.forall_mem_cons.mpr ⟨g_177, List.forall_mem_cons.mpr ⟨g_179, List.forall_mem_cons.mpr ⟨g_183, List.forall_mem_cons.mpr ⟨g_186, List.forall_mem_cons.mpr ⟨g_239c, List.forall_mem_cons.mpr ⟨g_243c, fun _ h => absurd h List.not_mem_nil⟩⟩⟩⟩⟩⟩⟩⟩⟩⟩⟩
def ct_188 : zCt := (188, [(.inr (.inr (.inl (44, 44))))], some (.inr (.inr (.inr 1))), 30, 18, 324)
section ZHF
variable {xs : List Int32} {g : zG} {lg : Nat} {h : zH} {D nc ns y : Nat} {L : zL} {st : List Value} {P : zO → Prop}
/-- a stretch that ends by returning -/
theorem zregE {cs : List zCt} {cert : List zCe} {rk0 : List zRk} {bu0 : Nat × Nat} {A0 S0 : List zTy} {rt : Option zTy} (s : Nat) (hcs : ∀ ct ∈ cs, zGd xs ct) (hs : zlkc cert s = some (rk0, bu0, A0, S0)) (hok : cert.all (fun e => zce y cs cert (D + 1) rt e) = true) (hI : zHI g lg h) (hA : zgl g lg h A0 L) (hS : zgs g lg h L S0 st)
    (hret : ∀ v h' lg' nc' ns', zgo2 g lg' h' [] rt v → zHI g lg' h' → zLE h h' → lg ≤ lg' → nc' + 2 * lg ≤ nc + 2 * lg' + bu0.1 → ns' + 100 * lg ≤ ns + 100 * lg' + bu0.2 → P (.inl v, h', nc', ns')) : zEs xs (D + 1) y s L st h nc ns P :=
  zck_g (ex := []) P lg nc ns bu0.1 bu0.2 h hcs (by simpa using hok) hret (fun pc rk bu A S z => by cases z) _ _ rfl s rk0 bu0 A0 S0 hs L st lg h nc ns rfl hI hA hS zLE_rf (Nat.le_refl _) (Nat.le_of_eq (by omega)) (Nat.le_of_eq (by omega))
theorem zgl_J {A : List zTy} (k : zgl g lg h ((.inr (.inr (.inr 1))) :: A) L) : ∃ (x : Int64) (L' : zL), L = some (.long x) :: L' ∧ zgl g lg h A L' := by
  match L, k with
  | o :: L', k =>
    rcases k.1 with e | ⟨v, rfl, e⟩
    · cases e
    · obtain ⟨x, rfl⟩ := e
      exact ⟨x, L', rfl, k.2⟩
  | [], k => exact k.elim
theorem l_188 {o4 o5 o6 : Option Value} : ∀ (n : Nat) (i : Int32) (d : Int64) (o2 : Option Value) (lg : Nat) (h : zH) (nc ns : Nat) (_ : zHI g lg h) (_ : 0 ≤ i.toInt) (_ : i.toInt ≤ 18) (_ : (18 - i.toInt).toNat = n)
    (_ : ∀ (d : Int64) (o2 : Option Value) lg' h' nc' ns', zHI g lg' h' → zLE h h' → lg ≤ lg' → nc' + 2 * lg ≤ nc + 2 * lg' + n → ns' + 100 * lg ≤ ns + 100 * lg' + 18 * n → zEs xs 30 188 36 [some (.ref 44), some (.long d), o2, some (.int (Int32.ofInt 18)), o4, o5, o6] [] h' nc' ns' P), zEs xs 30 188 11 [some (.ref 44), some (.long d), o2, some (.int i), o4, o5, o6] [] h nc ns P
  | n, i, d, o2, lg, h, nc, ns, hI, i0, i1, hn, K => by
    have t17 : ((Int8.ofInt 17).toInt32).toInt = 17 := by decide
    refine zEs_run 2 rfl ?_
    refine zEs_icmp rfl (fun gg => ?_) (fun gg => ?_)
    · have z := zF_gt_t gg
      rw [t17] at z
      obtain rfl : i = Int32.ofInt 18 := Int32.toInt_inj.mp (by have : (Int32.ofInt 18).toInt = 18 := by decide
                                                                omega)
      exact K d o2 lg h _ _ hI zLE_rf (Nat.le_refl _) (by omega) (by omega)
    · have z := zF_gt_f gg
      rw [t17] at z
      obtain ⟨ws, hw⟩ := zth hI
      refine zEs_run 5 rfl ?_
      refine zEs_ctr g_171 rfl (show zcallV 1 7 171 27 (.int i :: .ref 44 :: _) h = _ from zcallV_eq rfl hw (Nat.le_of_ble_eq_true rfl)) (by decide) hI ⟨zP_in, zI_in i0 z, trivial⟩ (fun v h1 lg1 nc1 ns1 q I1 le1 l1 k1 s1 => ?_)
      obtain ⟨u, rfl, q⟩ := q
      obtain ⟨x, rfl, -⟩ := zI_eq q
      refine zEs_run 5 rfl ?_
      have hi := zinc_le (x := i) (n := 1) (by omega) (by decide) (by decide)
      have d1 : ct_171.dc = 1 := rfl
      have d2 : ct_171.ds = 18 := rfl
      match n, hn with
      | 0, hn => omega
      | n + 1, hn =>
        refine l_188 n _ _ _ lg1 h1 _ _ I1 (by omega) (by omega) (by omega) (fun d o2 lg2 h2 nc2 ns2 f1 f2 f3 f4 f5 => ?_)
        exact K d o2 lg2 h2 _ _ f1 (zLE_tr le1 f2) (by omega) (by omega) (by omega)
theorem g_188 : zGd xs ct_188 := by
  intro g lg h nc ns as hI hS
  obtain ⟨v, rfl, k⟩ := zin1 hS
  obtain rfl := zP_eq k
  refine ⟨_, rfl, zreg (cert := ce_dgA) (cs := cs_dgA) 0 11 gs_dgA rfl rfl (by decide +kernel) hI (zgl_in (n := 6) hS) trivial (fun L st lg1 h1 nc1 ns1 b1 b2 b3 b4 b5 b6 b7 => ?_)⟩
  obtain rfl := zgs_0 b3
  obtain ⟨L1, rfl, y1⟩ := zgl_P b2
  obtain ⟨d, L2, rfl, y2⟩ := zgl_J y1
  obtain ⟨o2, L3, rfl, y3⟩ := zgl_N y2
  obtain ⟨i, L4, rfl, i0, i1, y4⟩ := zgl_I y3
  obtain ⟨o4, L5, rfl, y5⟩ := zgl_N y4
  obtain ⟨o5, L6, rfl, y6⟩ := zgl_N y5
  obtain ⟨o6, L7, rfl, y7⟩ := zgl_N y6
  obtain rfl := zgl_0 y7
  have b6 : nc1 + 2 * lg + 0 ≤ nc + 2 * lg1 + 0 := b6
  have b7 : ns1 + 100 * lg + 0 ≤ ns + 100 * lg1 + 0 := b7
  refine l_188 18 i d o2 lg1 h1 _ _ b1 (by omega) (by omega) (by omega) (fun d o2 lg2 h2 nc2 ns2 f1 f2 f3 f4 f5 => ?_)
  refine zregE (cert := ce_dgB) (cs := cs_dgB) (rt := some (.inr (.inr (.inr 1)))) 36 gs_dgB rfl (by decide +kernel) f1 ⟨Or.inr ⟨_, rfl, zP_in⟩, Or.inr ⟨_, rfl, d, rfl⟩, Or.inl rfl, Or.inr ⟨_, rfl, zI_in (by decide) (by decide)⟩, Or.inl rfl, Or.inl rfl, Or.inl rfl, trivial⟩ trivial (fun v h' lg' nc' ns' c1 c2 c3 c4 c5 c6 => ?_)
  have c5 : nc' + 2 * lg2 ≤ nc2 + 2 * lg' + 0 := c5
  have c6 : ns' + 100 * lg2 ≤ ns2 + 100 * lg' + 0 := c6
  have d1 : ct_188.dc = 18 := rfl
  have d2 : ct_188.ds = 324 := rfl
  exact ⟨_, h', lg', nc', ns', rfl, c1, c2, zLE_tr b4 (zLE_tr f2 c3), by omega, by omega, by omega⟩
end ZHF
end zg6
section zg7
/-! The reference's methods, by hand: call, tick, pass. -/
def ce_tick : List zCe := [(10, [(.inl 7), (.inl 0), (.inl 0)], (0, 0), [(.inr (.inr (.inl (44, 44)))), (.inr (.inr (.inr 0)))], []),
  (11, [(.inl 6), (.inl 0), (.inl 0)], (0, 0), [(.inr (.inr (.inl (44, 44)))), (.inr (.inr (.inr 0)))], [(.inr (.inr (.inl (44, 44))))]),
  (14, [(.inl 5), (.inl 0), (.inl 0)], (0, 0), [(.inr (.inr (.inl (44, 44)))), (.inr (.inr (.inr 0)))], []),
  (15, [(.inl 4), (.inl 0), (.inl 0)], (0, 0), [(.inr (.inr (.inl (44, 44)))), (.inr (.inr (.inr 0)))], [(.inl (0, 0, 0, 0))]),
  (16, [(.inl 3), (.inr (20, 1)), (.inl 22)], (0, 0), [(.inr (.inr (.inl (44, 44)))), (.inl (0, 20, 0, 0))], []),
  (17, [(.inl 3), (.inr (20, 1)), (.inl 21)], (0, 0), [(.inr (.inr (.inl (44, 44)))), (.inl (0, 20, 0, 0))], [(.inl (0, 20, 0, 2))]),
  (18, [(.inl 3), (.inr (20, 1)), (.inl 20)], (0, 0), [(.inr (.inr (.inl (44, 44)))), (.inl (0, 20, 0, 0))], [(.inr (.inr (.inl (44, 44)))), (.inl (0, 20, 0, 2))]),
  (21, [(.inl 3), (.inr (20, 1)), (.inl 19)], (0, 0), [(.inr (.inr (.inl (44, 44)))), (.inl (0, 20, 0, 0))], [(.inr (.inr (.inl (67, 67)))), (.inl (0, 20, 0, 2))]),
  (22, [(.inl 3), (.inr (20, 1)), (.inl 18)], (0, 0), [(.inr (.inr (.inl (44, 44)))), (.inl (0, 20, 0, 0))], [(.inl (20, 20, 0, 0)), (.inl (0, 20, 0, 2))]),
  (25, [(.inl 3), (.inr (20, 1)), (.inl 17)], (0, 0), [(.inr (.inr (.inl (44, 44)))), (.inl (0, 19, 0, 0))], []),
  (26, [(.inl 3), (.inr (20, 1)), (.inl 16)], (0, 0), [(.inr (.inr (.inl (44, 44)))), (.inl (0, 19, 0, 0))], [(.inr (.inr (.inl (44, 44))))]),
  (29, [(.inl 3), (.inr (20, 1)), (.inl 15)], (0, 0), [(.inr (.inr (.inl (44, 44)))), (.inl (0, 19, 0, 0))], [(.inl (0, 2000, 0, 0))]),
  (30, [(.inl 3), (.inr (20, 1)), (.inl 14)], (0, 0), [(.inr (.inr (.inl (44, 44)))), (.inl (0, 19, 0, 0))], [(.inr (.inr (.inl (44, 44)))), (.inl (0, 2000, 0, 0))]),
  (33, [(.inl 3), (.inr (20, 1)), (.inl 13)], (0, 0), [(.inr (.inr (.inl (44, 44)))), (.inl (0, 19, 0, 0))], [(.inl (1, 100, 0, 0)), (.inl (0, 2000, 0, 0))]),
  (34, [(.inl 3), (.inr (20, 1)), (.inl 12)], (0, 0), [(.inr (.inr (.inl (44, 44)))), (.inl (0, 19, 0, 0))], [(.inl (0, 99, 0, 0))]),
  (37, [(.inl 3), (.inr (20, 1)), (.inl 11)], (0, 0), [(.inr (.inr (.inl (44, 44)))), (.inl (0, 19, 0, 0))], []),
  (38, [(.inl 3), (.inr (20, 1)), (.inl 10)], (0, 0), [(.inr (.inr (.inl (44, 44)))), (.inl (0, 19, 0, 0))], [(.inr (.inr (.inl (44, 44))))]),
  (41, [(.inl 3), (.inr (20, 1)), (.inl 9)], (0, 0), [(.inr (.inr (.inl (44, 44)))), (.inl (0, 19, 0, 0))], [(.inr (.inr (.inl (67, 67))))]),
  (42, [(.inl 3), (.inr (20, 1)), (.inl 8)], (0, 0), [(.inr (.inr (.inl (44, 44)))), (.inl (0, 19, 0, 0))], [(.inl (0, 19, 0, 2)), (.inr (.inr (.inl (67, 67))))]),
  (43, [(.inl 3), (.inr (20, 1)), (.inl 7)], (0, 0), [(.inr (.inr (.inl (44, 44)))), (.inl (0, 19, 0, 0))], [(.inl (0, 0, 0, 0)), (.inl (0, 19, 0, 2)), (.inr (.inr (.inl (67, 67))))]),
  (44, [(.inl 3), (.inr (20, 1)), (.inl 6)], (0, 0), [(.inr (.inr (.inl (44, 44)))), (.inl (0, 19, 0, 0))], []),
  (45, [(.inl 3), (.inr (20, 1)), (.inl 5)], (0, 0), [(.inr (.inr (.inl (44, 44)))), (.inl (0, 19, 0, 0))], [(.inr (.inr (.inl (44, 44))))]),
  (48, [(.inl 3), (.inr (20, 1)), (.inl 4)], (0, 0), [(.inr (.inr (.inl (44, 44)))), (.inl (0, 19, 0, 0))], [(.inr (.inr (.inl (68, 68))))]),
  (49, [(.inl 3), (.inr (20, 1)), (.inl 3)], (0, 0), [(.inr (.inr (.inl (44, 44)))), (.inl (0, 19, 0, 0))], [(.inl (0, 19, 0, 2)), (.inr (.inr (.inl (68, 68))))]),
  (50, [(.inl 3), (.inr (20, 1)), (.inl 2)], (0, 0), [(.inr (.inr (.inl (44, 44)))), (.inl (0, 19, 0, 0))], [(.inr (.inr (.inl (44, 44)))), (.inl (0, 19, 0, 2)), (.inr (.inr (.inl (68, 68))))]),
  (53, [(.inl 3), (.inr (20, 1)), (.inl 1)], (0, 0), [(.inr (.inr (.inl (44, 44)))), (.inl (0, 19, 0, 0))], [(.inl (0, 2000, 0, 0)), (.inl (0, 19, 0, 2)), (.inr (.inr (.inl (68, 68))))]),
  (54, [(.inl 3), (.inr (20, 1)), (.inl 0)], (0, 0), [(.inr (.inr (.inl (44, 44)))), (.inl (0, 19, 0, 0))], []),
  (57, [(.inl 3), (.inr (20, 1)), (.inl 23)], (0, 0), [(.inr (.inr (.inl (44, 44)))), (.inl (1, 20, 0, 0))], []),
  (60, [(.inl 2), (.inl 0), (.inl 0)], (0, 0), [(.inr (.inr (.inl (44, 44)))), (.inl (0, 20, 0, 0))], []),
  (61, [(.inl 1), (.inl 0), (.inl 0)], (0, 0), [(.inr (.inr (.inl (44, 44)))), (.inl (0, 20, 0, 0))], [(.inr (.inr (.inl (44, 44))))]),
  (64, [(.inl 0), (.inl 0), (.inl 0)], (0, 0), [(.inr (.inr (.inl (44, 44)))), (.inl (0, 20, 0, 0))], [])]
def cs_tick : List zCt := [ct_135, ct_136]
theorem gs_tick {xs : List Int32} : ∀ ct ∈ cs_tick, zGd xs ct := List.forall_mem_cons.mpr ⟨g_135, List.forall_mem_cons.mpr ⟨g_136, fun _ h => absurd h List.not_mem_nil⟩⟩
def ce_pas : List zCe := [(0, [(.inl 12)], (0, 0), [(.inr (.inr (.inl (44, 44)))), zIA, (.inr (.inr (.inr 0)))], []),
  (1, [(.inl 11)], (0, 0), [(.inr (.inr (.inl (44, 44)))), zIA, (.inr (.inr (.inr 0)))], [(.inr (.inr (.inl (44, 44))))]),
  (2, [(.inl 10)], (0, 0), [(.inr (.inr (.inl (44, 44)))), zIA, (.inr (.inr (.inr 0)))], [(.inl (0, 0, 0, 0)), (.inr (.inr (.inl (44, 44))))]),
  (5, [(.inl 9)], (0, 0), [(.inr (.inr (.inl (44, 44)))), zIA, (.inr (.inr (.inr 0)))], []),
  (6, [(.inl 8)], (0, 0), [(.inr (.inr (.inl (44, 44)))), zIA, (.inr (.inr (.inr 0)))], [(.inl ((-2147483648), 2147483647, 0, 2))]),
  (7, [(.inl 7)], (0, 0), [(.inr (.inr (.inl (44, 44)))), zIA, (.inr (.inr (.inr 0)))], [(.inl (1, 1, 0, 0)), (.inl ((-2147483648), 2147483647, 0, 2))]),
  (9, [(.inl 6)], (0, 0), [(.inr (.inr (.inl (44, 44)))), zIA, (.inr (.inr (.inr 0)))], [(.inl (100, 100, 0, 0)), (.inl (1, 1, 0, 0)), (.inl ((-2147483648), 2147483647, 0, 2))]),
  (12, [(.inl 5)], (0, 0), [(.inr (.inr (.inl (44, 44)))), zIA, (.inr (.inr (.inr 0)))], [(.inr (.inl (1, 1, 100, 0)))]),
  (15, [(.inl 4)], (0, 0), [(.inr (.inr (.inl (44, 44)))), zIA, (.inr (.inr (.inr 0)))], []),
  (16, [(.inl 3)], (0, 0), [(.inr (.inr (.inl (44, 44)))), zIA, (.inr (.inr (.inr 0)))], [(.inr (.inr (.inl (44, 44))))]),
  (17, [(.inl 2)], (0, 0), [(.inr (.inr (.inl (44, 44)))), zIA, (.inr (.inr (.inr 0)))], [(.inl (1, 1, 0, 0)), (.inr (.inr (.inl (44, 44))))]),
  (20, [(.inl 1)], (0, 0), [(.inr (.inr (.inl (44, 44)))), zIA, (.inr (.inr (.inr 0)))], [(.inl (0, 0, 0, 0))]),
  (21, [(.inl 0)], (0, 0), [(.inr (.inr (.inl (44, 44)))), (.inl (1, 100, 0, 0)), (.inr (.inr (.inr 0)))], [])]
def cs_pas : List zCt := [ct_111]
theorem gs_pas {xs : List Int32} : ∀ ct ∈ cs_pas, zGd xs ct := List.forall_mem_cons.mpr ⟨g_111, fun _ h => absurd h List.not_mem_nil⟩
section ZHG
variable {xs : List Int32} {g : zG} {lg : Nat} {h : zH} {D nc ns : Nat}
/-- a method, as the law sees it -/
abbrev zfw (g : zG) : Value × Value × Value × Value := (g.f 13, g.f 1, g.f 2, g.f 3)
def zPq (g : zG) (h0 : zH) (nc ns : Nat) (rt : Option zTy) (dc ds : Nat) (F : Value × Value × Value × Value) : zO → Prop := fun o => ∃ v g' lg' h' nc' ns', o = (.inl v, h', nc', ns') ∧ zgo2 g' lg' h' [] rt v ∧ zHI g' lg' h' ∧ zLE h0 h' ∧ g'.s = g.s ∧ g'.a = g.a ∧ zfw g' = F ∧ nc' ≤ nc + dc ∧ ns' ≤ ns + ds
def zGq (xs : List Int32) (ct : zCt) : Prop := ∀ g lg h nc ns as, zHI g lg h → zgs g lg h [] ct.as as → zMs xs ct.dep ct.y as h nc ns (zPq g h nc ns ct.rt ct.dc ct.ds (zfw g))
def zsf (g : zG) (k : Nat) (v : Value) : zG := (g.1, g.2.1, zup g.f k v, g.2.2.2)
theorem zHI_fz {vs : List Value} {k : Nat} {v : Value} (hI : zHI g lg h) (h0 : h[44]? = some (7, vs)) (hk : k = 4 ∨ k = 13) (hv : zga g lg h [] (zfs k) v) : zHI (zsf g k v) lg (h.set 44 (7, vs.set k v)) ∧ zLE h (h.set 44 (7, vs.set k v)) := by
  obtain ⟨vs', a, b, c, d⟩ := hI.obj
  rw [h0] at a
  cases a
  have hk26 : k < 26 := by omega
  have hb : ∀ q : Nat, 73 ≤ q → (h.set 44 (7, vs.set k v))[q]? = h[q]? := fun q hq => List.getElem?_set_ne (by omega)
  have hl : zLE h (h.set 44 (7, vs.set k v)) := fun q l a b _ _ => by rw [hb q a]; exact b
  refine ⟨⟨(ztake_set (by omega)).trans hI.cls, ⟨vs.set k v, List.getElem?_set_self (List.getElem?_eq_some_iff.mp h0).1, by simpa using b, fun j hj => ?_, fun j hj => ?_⟩, ?_, ?_, ?_, ?_, hI.sizes⟩, hl⟩
  · by_cases z : j = k
    · subst z
      exact ⟨v, List.getElem?_set_self (by omega), zfs_mo (g' := zsf g j v) rfl rfl hl hv⟩
    · rw [List.getElem?_set_ne (fun w => z w.symm)]
      obtain ⟨w, w1, w2⟩ := c j hj
      exact ⟨w, w1, zfs_mo (g' := zsf g k v) rfl rfl hl w2⟩
  · by_cases z : j = k
    · subst z
      rw [List.getElem?_set_self (by omega)]
      show _ = some (if j = j then v else g.f j)
      rw [if_pos rfl]
    · rw [List.getElem?_set_ne (fun w => z w.symm)]
      show _ = some (if j = k then v else g.f j)
      rw [if_neg z]
      exact d j hj
  · rw [List.getElem?_set_ne (by omega)]
    exact hI.outer
  · intro q t n lo hi e
    have := zsp_b e
    rw [List.getElem?_set_ne (by omega)]
    exact hI.rows q t n lo hi e
  · obtain ⟨E, k⟩ := hI.lists
    refine ⟨E, fun j hj => ?_⟩
    obtain ⟨k1, k2, k3, k4⟩ := k j hj
    exact ⟨k1, zLi_cg hb k2 k1 k3, k3, k4⟩
  · obtain ⟨x, y, e1, e2, e3⟩ := hI.bits
    refine ⟨x, y, ?_, ?_, e3⟩
    · show (if 1 = k then v else g.f 1) = _
      rw [if_neg (by omega)]
      exact e1
    · show (if 2 = k then v else g.f 2) = _
      rw [if_neg (by omega)]
      exact e2
theorem zq_of {ct : zCt} (k : zGd xs ct) (hf : ∀ T, ct.rt = some T → zfree T = true) : zGq xs (ct.y, ct.as, ct.rt, ct.dep, ct.dc + 80, ct.ds + 4000) := by
  intro g lg h nc ns as hI hS
  refine zMs_post (fun o ho => ?_) (k g lg h nc ns as hI hS)
  obtain ⟨v, h', lg', nc', ns', rfl, b1, b2, b3, b4, b5, b6⟩ := ho
  have hz := b2.sizes
  refine ⟨v, g, lg', h', nc', ns', rfl, ?_, b2, b3, rfl, rfl, rfl, ?_, ?_⟩
  · show zgo2 g lg' h' [] ct.rt v
    cases e : ct.rt with
    | none =>
      rw [e] at b1
      exact b1
    | some T =>
      rw [e] at b1
      obtain ⟨w, w1, w2⟩ := b1
      exact ⟨w, w1, (zgs_free (S := [T]) (st := [w]) (L' := []) (by simp [hf T e]) ⟨w2, trivial⟩).1⟩
  · show nc' ≤ nc + (ct.dc + 80)
    omega
  · show ns' ≤ ns + (ct.ds + 4000)
    omega
theorem m_152 {c : Int32} (hI : zHI g lg h) (hc : g.f 13 = .int c) : zMs xs (D + 0) 152 [.ref 44] h nc ns (fun o => ∃ h', o = (.inl (some (.int (c + 1))), h', nc, ns) ∧ zHI (zsf g 13 (.int (c + 1))) lg h' ∧ zLE h h') := by
  obtain ⟨vs, m1, m2, m3, m4⟩ := hI.obj
  refine ⟨_, rfl, zEs_run 2 rfl ?_⟩
  refine zEs_put rfl m1 rfl rfl (by omega) ?_
  obtain ⟨n1, n2⟩ := zHI_fld (k := 0) (v := .int (Int32.ofInt 0)) hI m1 (by decide) (zIA_ok _) (by decide)
  have hl := (List.getElem?_eq_some_iff.mp m1).1
  have c1 : (h.set 44 (7, vs.set 0 (.int (Int32.ofInt 0))))[44]? = some (7, vs.set 0 (.int (Int32.ofInt 0))) := List.getElem?_set_self hl
  have v13 : (vs.set 0 (.int (Int32.ofInt 0)))[13]? = some (.int c) := by
    rw [List.getElem?_set_ne (by decide), ← hc]
    exact m4 13 (by decide)
  refine zEs_run 2 rfl ?_
  refine zEs_get rfl c1 rfl v13 ?_
  refine zEs_run 2 rfl ?_
  refine zEs_put rfl c1 rfl rfl (by rw [List.length_set]; omega) ?_
  obtain ⟨n3, n4⟩ := zHI_fz (k := 13) (v := .int (c + 1)) n1 c1 (Or.inr rfl) (zIA_ok _)
  refine zEs_run 1 rfl ?_
  refine zEs_get rfl (List.getElem?_set_self (by simpa using hl)) rfl (List.getElem?_set_self (by rw [List.length_set]; omega)) ?_
  exact zEs_end rfl rfl ⟨_, rfl, n3, zLE_tr n2 n4⟩
theorem m_137 {t : Int32} (hI : zHI g lg h) (ht : g.f 4 = .int t) (h0 : 0 ≤ t.toInt) (h1 : t.toInt < 2000) : zMs xs 15 137 [.ref 44] h nc ns (fun o => ∃ h' lg' nc' ns', o = (.inl none, h', nc', ns') ∧ zHI (zsf g 4 (.int (t + 1))) lg' h' ∧ zLE h h' ∧ lg ≤ lg' ∧ nc' + 2 * lg ≤ nc + 2 * lg' ∧ ns' + 100 * lg ≤ ns + 100 * lg') := by
  obtain ⟨vs, m1, m2, m3, m4⟩ := hI.obj
  have v4 : vs[4]? = some (.int t) := by
    rw [← ht]
    exact m4 4 (by decide)
  refine ⟨_, rfl, zEs_run 2 rfl ?_⟩
  refine zEs_get rfl m1 rfl v4 ?_
  refine zEs_run 2 rfl ?_
  refine zEs_put rfl m1 rfl rfl (by omega) ?_
  have e := zinc_le (x := t) (n := 1) (by omega) (by decide) (by decide)
  have e : (t + 1).toInt = t.toInt + 1 := e
  obtain ⟨n3, n4⟩ := zHI_fz (k := 4) (v := .int (t + 1)) hI m1 (Or.inl rfl) ⟨t + 1, rfl, by omega, by omega, trivial, Or.inl rfl⟩
  refine zregE (cert := ce_tick) (cs := cs_tick) (rt := none) 10 gs_tick rfl (by decide +kernel) n3 ⟨Or.inr ⟨_, rfl, zP_in⟩, Or.inl rfl, trivial⟩ trivial (fun v h' lg' nc' ns' c1 c2 c3 c4 c5 c6 => ?_)
  obtain rfl := (show v = none from c1)
  exact ⟨h', lg', nc', ns', rfl, c2, zLE_tr n4 c3, c4, c5, c6⟩
def ct_150 : zCt := (150, [(.inr (.inr (.inl (44, 44)))), zIA], some zIA, 16, 80, 4000)
theorem l_150 {T : Int32} (hT : T.toInt ≤ 100) : ∀ (n : Nat) (i t : Int32) (g : zG) (lg : Nat) (h : zH) (nc ns : Nat), zHI g lg h → g.f 4 = .int t → 0 ≤ t.toInt → 0 ≤ i.toInt → i.toInt ≤ T.toInt → t.toInt + (T.toInt - i.toInt) ≤ 2000 → (T.toInt - i.toInt).toNat < n → zEs xs 16 150 41 [some (.ref 44), some (.int T), some (.int i)] [] h nc ns (fun o => ∃ v g' lg' h' nc' ns', o = (.inl (some (.int v)), h', nc', ns') ∧ zHI g' lg' h' ∧ zLE h h' ∧ g'.s = g.s ∧ g'.a = g.a ∧ zfw g' = zfw g ∧ lg ≤ lg' ∧ nc' + 2 * lg ≤ nc + 2 * lg' ∧ ns' + 100 * lg ≤ ns + 100 * lg')
  | 0, _, _, _, _, _, _, _, _, _, _, _, _, _, hn => absurd hn (Nat.not_lt_zero _)
  | n + 1, i, t, g, lg, h, nc, ns, hI, ht, t0, i0, i1, a1, hn => by
    refine zEs_run 2 rfl ?_
    refine zEs_icmp rfl (fun _ => ?_) (fun gg => ?_)
    · obtain ⟨vs, m1, m2, m3, m4⟩ := hI.obj
      obtain ⟨x, v4, -, -⟩ := zf_int m3 (k := 4) (by decide) rfl
      refine zEs_run 1 rfl ?_
      refine zEs_get rfl m1 rfl v4 ?_
      exact zEs_end rfl rfl ⟨x, g, lg, h, nc, ns, rfl, hI, zLE_rf, rfl, rfl, rfl, Nat.le_refl _, Nat.le_refl _, Nat.le_refl _⟩
    · have z := zF_ge_f gg
      obtain ⟨ws, hw⟩ := zth hI
      refine zEs_run 1 rfl ?_
      refine zEs_callG rfl (show zcallV 0 7 137 50 [.ref 44] h = _ from zcallV_eq rfl hw (by decide)) (m_137 hI ht t0 (by omega)) (fun v h9 nc9 ns9 q => ?_) (fun E h9 nc9 ns9 q => by obtain ⟨_, _, _, _, q, _⟩ := q; cases q)
      obtain ⟨h', lg', nc', ns', q, b1, b9, b2, b3, b4⟩ := q
      cases q
      refine zEs_run 2 rfl ?_
      have hi := zinc_le (x := i) (n := 1) (by omega) (by decide) (by decide)
      have e := zinc_le (x := t) (n := 1) (by omega) (by decide) (by decide)
      have e : (t + 1).toInt = t.toInt + 1 := e
      refine zEs_post (l_150 hT n _ (t + 1) (zsf g 4 (.int (t + 1))) lg' h9 _ _ b1 rfl (by omega) (by omega) (by omega) (by omega) (by omega)) (fun o ho => ?_)
      obtain ⟨v, g', lg2, h2, nc2, ns2, rfl, c1, c9, c2, c3, c4, c5, c6, c7⟩ := ho
      exact ⟨v, g', lg2, h2, nc2, ns2, rfl, c1, zLE_tr b9 c9, c2, c3, c4, by omega, by omega, by omega⟩
theorem q_150 : zGq xs ct_150 := by
  intro g lg h nc ns as hI hS
  obtain ⟨v, w1, rfl, k, k1⟩ := zin2 hS
  obtain rfl := zP_eq k
  obtain ⟨x1, rfl, -⟩ := zI_eq k1
  have hz := hI.sizes
  refine ⟨_, rfl, zregR (cert := ce_pas) (cs := cs_pas) (rt := some zIA) 0 21 gs_pas rfl rfl (by decide +kernel) hI (zgl_in (n := 1) hS) trivial (fun v h' lg' nc' ns' b1 b2 b3 b4 b5 b6 => ?_) (fun L st lg1 h1 nc1 ns1 b1 b2 b3 b4 b5 b6 b7 => ?_)⟩
  · have hz2 := b2.sizes
    have b5 : nc' + 2 * lg ≤ nc + 2 * lg' + 0 := b5
    have b6 : ns' + 100 * lg ≤ ns + 100 * lg' + 0 := b6
    exact ⟨v, g, lg', h', nc', ns', rfl, b1, b2, b3, rfl, rfl, rfl, show nc' ≤ nc + 80 by omega, show ns' ≤ ns + 4000 by omega⟩
  · have hz2 := b1.sizes
    have b6 : nc1 + 2 * lg + 0 ≤ nc + 2 * lg1 + 0 := b6
    have b7 : ns1 + 100 * lg + 0 ≤ ns + 100 * lg1 + 0 := b7
    obtain rfl := zgs_0 b3
    obtain ⟨L1, rfl, y1⟩ := zgl_P b2
    obtain ⟨T, L2, rfl, T0, T1, y2⟩ := zgl_I y1
    obtain ⟨o3, L3, rfl, y3⟩ := zgl_N y2
    obtain rfl := zgl_0 y3
    obtain ⟨vs, m1, m2, m3, m4⟩ := b1.obj
    obtain ⟨t, v4, t0, t1⟩ := zf_int m3 (k := 4) (by decide) rfl
    have ht : g.f 4 = .int t := Option.some.inj ((m4 4 (by decide)).symm.trans v4)
    refine zEs_run 1 rfl ?_
    refine zEs_get rfl m1 rfl v4 ?_
    refine zEs_run 3 rfl ?_
    have e := Int32.toInt_add t T
    rw [zbm (by omega) (by omega)] at e
    refine zEs_icmp rfl (fun gg => ?_) (fun _ => ?_)
    · have z := zF_le_t gg
      rw [show ((Int16.ofInt 2000).toInt32).toInt = 2000 from by decide] at z
      have z : t.toInt + T.toInt ≤ 2000 := by
        rw [← e]
        exact z
      refine zEs_run 2 rfl ?_
      have z0 : (Int32.ofInt 0).toInt = 0 := by decide
      refine zEs_post (l_150 T1 _ _ t g lg1 h1 _ _ b1 ht t0 (by omega) (by omega) (by omega) (Nat.lt_succ_self _)) (fun o ho => ?_)
      obtain ⟨v, g', lg2, h2, nc2, ns2, rfl, c1, c9, c2, c3, c4, c5, c6, c7⟩ := ho
      have hz3 := c1.sizes
      exact ⟨_, g', lg2, h2, nc2, ns2, rfl, ⟨_, rfl, zIA_ok v⟩, c1, zLE_tr b4 c9, c2, c3, c4, show nc2 ≤ nc + 80 by omega, show ns2 ≤ ns + 4000 by omega⟩
    · obtain ⟨ws, hw⟩ := zth b1
      refine zEs_run 2 rfl ?_
      refine zEs_ctr g_111 rfl (show zcallV 1 7 111 38 [.int (Int32.ofInt 2), .ref 44] h1 = _ from zcallV_eq rfl hw (by decide)) (by decide) b1 ⟨zP_in, zIA_ok _, trivial⟩ (fun v h2 lg2 nc2 ns2 q I2 le2 l2 c2 s2 => ?_)
      obtain ⟨u, rfl, q⟩ := q
      obtain ⟨x, rfl, -⟩ := zI_eq q
      have hz3 := I2.sizes
      have d1 : ct_111.dc = 0 := rfl
      have d2 : ct_111.ds = 0 := rfl
      exact zEs_end rfl rfl ⟨_, g, lg2, h2, _, _, rfl, ⟨_, rfl, zIA_ok x⟩, I2, zLE_tr b4 le2, rfl, rfl, rfl, show _ ≤ nc + 80 by omega, show _ ≤ ns + 4000 by omega⟩
end ZHG
end zg7
section zg8
/-! The reference's methods, by hand: stick, weak, spare. -/
def ce_stA : List zCe := [(0, [(.inl 22)], (0, 0), [(.inr (.inr (.inl (44, 44)))), zIA, zIA, (.inl (0, 1, 0, 0))], []),
  (1, [(.inl 21)], (0, 0), [(.inr (.inr (.inl (44, 44)))), zIA, zIA, (.inl (0, 1, 0, 0))], [(.inr (.inr (.inl (44, 44))))]),
  (2, [(.inl 20)], (0, 0), [(.inr (.inr (.inl (44, 44)))), zIA, zIA, (.inl (0, 1, 0, 0))], [(.inl (0, 0, 0, 0)), (.inr (.inr (.inl (44, 44))))]),
  (5, [(.inl 19)], (0, 0), [(.inr (.inr (.inl (44, 44)))), zIA, zIA, (.inl (0, 1, 0, 0))], []),
  (6, [(.inl 18)], (0, 0), [(.inr (.inr (.inl (44, 44)))), zIA, zIA, (.inl (0, 1, 0, 0))], [(.inl ((-2147483648), 2147483647, 0, 2))]),
  (9, [(.inl 17)], (0, 0), [(.inr (.inr (.inl (44, 44)))), zIA, zIA, (.inl (0, 1, 0, 0))], [(.inr (.inl (1, 0, 127, 0)))]),
  (12, [(.inl 16)], (0, 0), [(.inr (.inr (.inl (44, 44)))), zIA, zIA, (.inl (0, 1, 0, 0))], []),
  (13, [(.inl 15)], (0, 0), [(.inr (.inr (.inl (44, 44)))), zIA, zIA, (.inl (0, 1, 0, 0))], [(.inr (.inr (.inl (44, 44))))]),
  (14, [(.inl 14)], (0, 0), [(.inr (.inr (.inl (44, 44)))), zIA, zIA, (.inl (0, 1, 0, 0))], [(.inl (1, 1, 0, 0)), (.inr (.inr (.inl (44, 44))))]),
  (17, [(.inl 13)], (0, 0), [(.inr (.inr (.inl (44, 44)))), zIA, zIA, (.inl (0, 1, 0, 0))], [(.inl (0, 0, 0, 0))]),
  (18, [(.inl 12)], (0, 0), [(.inr (.inr (.inl (44, 44)))), (.inl (0, 127, 0, 0)), zIA, (.inl (0, 1, 0, 0))], []),
  (19, [(.inl 11)], (0, 0), [(.inr (.inr (.inl (44, 44)))), (.inl (0, 127, 0, 0)), zIA, (.inl (0, 1, 0, 0))], [(.inl ((-2147483648), 2147483647, 0, 3))]),
  (20, [(.inl 10)], (0, 0), [(.inr (.inr (.inl (44, 44)))), (.inl (0, 127, 0, 0)), zIA, (.inl (0, 1, 0, 0))], [(.inl (0, 0, 0, 0)), (.inl ((-2147483648), 2147483647, 0, 3))]),
  (21, [(.inl 9)], (0, 0), [(.inr (.inr (.inl (44, 44)))), (.inl (0, 127, 0, 0)), zIA, (.inl (0, 1, 0, 0))], [(.inr (.inr (.inl (44, 44)))), (.inl (0, 0, 0, 0)), (.inl ((-2147483648), 2147483647, 0, 3))]),
  (24, [(.inl 8)], (0, 0), [(.inr (.inr (.inl (44, 44)))), (.inl (0, 127, 0, 0)), zIA, (.inl (0, 1, 0, 0))], [(.inl (8, 16, 8, 0)), (.inl (0, 0, 0, 0)), (.inl ((-2147483648), 2147483647, 0, 3))]),
  (25, [(.inl 7)], (0, 0), [(.inr (.inr (.inl (44, 44)))), (.inl (0, 127, 0, 0)), zIA, (.inl (0, 1, 0, 0))], [(.inl (1, 1, 0, 0)), (.inl (8, 16, 8, 0)), (.inl (0, 0, 0, 0)), (.inl ((-2147483648), 2147483647, 0, 3))]),
  (26, [(.inl 6)], (0, 0), [(.inr (.inr (.inl (44, 44)))), (.inl (0, 127, 0, 0)), zIA, (.inl (0, 1, 0, 0))], [(.inl (7, 15, 7, 0)), (.inl (0, 0, 0, 0)), (.inl ((-2147483648), 2147483647, 0, 3))]),
  (29, [(.inl 5)], (0, 0), [(.inr (.inr (.inl (44, 44)))), (.inl (0, 127, 0, 0)), zIA, (.inl (0, 1, 0, 0))], [(.inr (.inl (2, 0, 15, 7)))]),
  (32, [(.inl 4)], (0, 0), [(.inr (.inr (.inl (44, 44)))), (.inl (0, 127, 0, 0)), zIA, (.inl (0, 1, 0, 0))], []),
  (33, [(.inl 3)], (0, 0), [(.inr (.inr (.inl (44, 44)))), (.inl (0, 127, 0, 0)), zIA, (.inl (0, 1, 0, 0))], [(.inr (.inr (.inl (44, 44))))]),
  (34, [(.inl 2)], (0, 0), [(.inr (.inr (.inl (44, 44)))), (.inl (0, 127, 0, 0)), zIA, (.inl (0, 1, 0, 0))], [(.inl (2, 2, 0, 0)), (.inr (.inr (.inl (44, 44))))]),
  (37, [(.inl 1)], (0, 0), [(.inr (.inr (.inl (44, 44)))), (.inl (0, 127, 0, 0)), zIA, (.inl (0, 1, 0, 0))], [(.inl (0, 0, 0, 0))]),
  (38, [(.inl 0)], (0, 0), [(.inr (.inr (.inl (44, 44)))), (.inl (0, 127, 0, 0)), (.inl (0, 15, 7, 0)), (.inl (0, 1, 0, 0))], [])]
def cs_stA : List zCt := [ct_111, ct_117, ct_138]
theorem gs_stA {xs : List Int32} : ∀ ct ∈ cs_stA, zGd xs ct := List.forall_mem_cons.mpr ⟨g_111, List.forall_mem_cons.mpr ⟨g_117, List.forall_mem_cons.mpr ⟨g_138, fun _ h => absurd h List.not_mem_nil⟩⟩⟩
def ce_stB : List zCe := [(102, [(.inl 9)], (0, 0), [(.inr (.inr (.inl (44, 44)))), (.inl (0, 127, 0, 0)), zIA, zIA], []),
  (103, [(.inl 8)], (0, 0), [(.inr (.inr (.inl (44, 44)))), (.inl (0, 127, 0, 0)), zIA, zIA], [(.inr (.inr (.inl (44, 44))))]),
  (104, [(.inl 7)], (0, 0), [(.inr (.inr (.inl (44, 44)))), (.inl (0, 127, 0, 0)), zIA, zIA], [(.inl (0, 127, 0, 2)), (.inr (.inr (.inl (44, 44))))]),
  (105, [(.inl 6)], (0, 0), [(.inr (.inr (.inl (44, 44)))), (.inl (0, 127, 0, 0)), zIA, zIA], [(.inr (.inr (.inl (44, 44)))), (.inl (0, 127, 0, 2)), (.inr (.inr (.inl (44, 44))))]),
  (106, [(.inl 5)], (0, 0), [(.inr (.inr (.inl (44, 44)))), (.inl (0, 127, 0, 0)), zIA, zIA], [(.inl (0, 127, 0, 2)), (.inr (.inr (.inl (44, 44)))), (.inl (0, 127, 0, 2)), (.inr (.inr (.inl (44, 44))))]),
  (109, [(.inl 4)], (0, 0), [(.inr (.inr (.inl (44, 44)))), (.inl (0, 127, 0, 0)), zIA, zIA], [zIA, (.inl (0, 127, 0, 2)), (.inr (.inr (.inl (44, 44))))]),
  (112, [(.inl 3)], (0, 0), [(.inr (.inr (.inl (44, 44)))), (.inl (0, 127, 0, 0)), zIA, zIA], []),
  (113, [(.inl 2)], (0, 0), [(.inr (.inr (.inl (44, 44)))), (.inl (0, 127, 0, 0)), zIA, zIA], [(.inr (.inr (.inl (44, 44))))]),
  (116, [(.inl 1)], (0, 0), [(.inr (.inr (.inl (44, 44)))), (.inl (0, 127, 0, 0)), zIA, zIA], [(.inr (.inr (.inr 8)))]),
  (121, [(.inl 0)], (0, 0), [(.inr (.inr (.inl (44, 44)))), (.inl (0, 127, 0, 0)), zIA, zIA], [(.inl (0, 24, 2, 0))])]
def cs_stB : List zCt := [ct_125, ct_127, ct_243a]
theorem gs_stB {xs : List Int32} : ∀ ct ∈ cs_stB, zGd xs ct := List.forall_mem_cons.mpr ⟨g_125, List.forall_mem_cons.mpr ⟨g_127, List.forall_mem_cons.mpr ⟨g_243a, fun _ h => absurd h List.not_mem_nil⟩⟩⟩
def ce_wkA : List zCe := [(0, [(.inl 27)], (0, 0), [(.inr (.inr (.inl (44, 44)))), zIA, zIA, zIA], []),
  (1, [(.inl 26)], (0, 0), [(.inr (.inr (.inl (44, 44)))), zIA, zIA, zIA], [(.inr (.inr (.inl (44, 44))))]),
  (2, [(.inl 25)], (0, 0), [(.inr (.inr (.inl (44, 44)))), zIA, zIA, zIA], [(.inl (0, 0, 0, 0)), (.inr (.inr (.inl (44, 44))))]),
  (5, [(.inl 24)], (0, 0), [(.inr (.inr (.inl (44, 44)))), zIA, zIA, zIA], []),
  (6, [(.inl 23)], (0, 0), [(.inr (.inr (.inl (44, 44)))), zIA, zIA, zIA], [(.inl ((-2147483648), 2147483647, 0, 2))]),
  (9, [(.inl 22)], (0, 0), [(.inr (.inr (.inl (44, 44)))), zIA, zIA, zIA], [(.inr (.inl (1, 0, 127, 0)))]),
  (12, [(.inl 21)], (0, 0), [(.inr (.inr (.inl (44, 44)))), zIA, zIA, zIA], []),
  (13, [(.inl 20)], (0, 0), [(.inr (.inr (.inl (44, 44)))), zIA, zIA, zIA], [(.inr (.inr (.inl (44, 44))))]),
  (14, [(.inl 19)], (0, 0), [(.inr (.inr (.inl (44, 44)))), zIA, zIA, zIA], [(.inl (1, 1, 0, 0)), (.inr (.inr (.inl (44, 44))))]),
  (17, [(.inl 18)], (0, 0), [(.inr (.inr (.inl (44, 44)))), zIA, zIA, zIA], [(.inl (0, 0, 0, 0))]),
  (18, [(.inl 17)], (0, 0), [(.inr (.inr (.inl (44, 44)))), (.inl (0, 127, 0, 0)), zIA, zIA], []),
  (19, [(.inl 16)], (0, 0), [(.inr (.inr (.inl (44, 44)))), (.inl (0, 127, 0, 0)), zIA, zIA], [(.inl ((-2147483648), 2147483647, 0, 3))]),
  (20, [(.inl 15)], (0, 0), [(.inr (.inr (.inl (44, 44)))), (.inl (0, 127, 0, 0)), zIA, zIA], [(.inl (0, 0, 0, 0)), (.inl ((-2147483648), 2147483647, 0, 3))]),
  (21, [(.inl 14)], (0, 0), [(.inr (.inr (.inl (44, 44)))), (.inl (0, 127, 0, 0)), zIA, zIA], [(.inr (.inr (.inl (44, 44)))), (.inl (0, 0, 0, 0)), (.inl ((-2147483648), 2147483647, 0, 3))]),
  (24, [(.inl 13)], (0, 0), [(.inr (.inr (.inl (44, 44)))), (.inl (0, 127, 0, 0)), zIA, zIA], [(.inl (8, 16, 8, 0)), (.inl (0, 0, 0, 0)), (.inl ((-2147483648), 2147483647, 0, 3))]),
  (25, [(.inl 12)], (0, 0), [(.inr (.inr (.inl (44, 44)))), (.inl (0, 127, 0, 0)), zIA, zIA], [(.inl (1, 1, 0, 0)), (.inl (8, 16, 8, 0)), (.inl (0, 0, 0, 0)), (.inl ((-2147483648), 2147483647, 0, 3))]),
  (26, [(.inl 11)], (0, 0), [(.inr (.inr (.inl (44, 44)))), (.inl (0, 127, 0, 0)), zIA, zIA], [(.inl (7, 15, 7, 0)), (.inl (0, 0, 0, 0)), (.inl ((-2147483648), 2147483647, 0, 3))]),
  (29, [(.inl 10)], (0, 0), [(.inr (.inr (.inl (44, 44)))), (.inl (0, 127, 0, 0)), zIA, zIA], [(.inr (.inl (2, 0, 15, 7)))]),
  (32, [(.inl 9)], (0, 0), [(.inr (.inr (.inl (44, 44)))), (.inl (0, 127, 0, 0)), (.inl (0, 15, 7, 0)), zIA], []),
  (33, [(.inl 8)], (0, 0), [(.inr (.inr (.inl (44, 44)))), (.inl (0, 127, 0, 0)), (.inl (0, 15, 7, 0)), zIA], [(.inl ((-2147483648), 2147483647, 0, 4))]),
  (34, [(.inl 7)], (0, 0), [(.inr (.inr (.inl (44, 44)))), (.inl (0, 127, 0, 0)), (.inl (0, 15, 7, 0)), zIA], [(.inl (1, 1, 0, 0)), (.inl ((-2147483648), 2147483647, 0, 4))]),
  (36, [(.inl 6)], (0, 0), [(.inr (.inr (.inl (44, 44)))), (.inl (0, 127, 0, 0)), (.inl (0, 15, 7, 0)), zIA], [(.inl (60, 60, 0, 0)), (.inl (1, 1, 0, 0)), (.inl ((-2147483648), 2147483647, 0, 4))]),
  (39, [(.inl 5)], (0, 0), [(.inr (.inr (.inl (44, 44)))), (.inl (0, 127, 0, 0)), (.inl (0, 15, 7, 0)), zIA], [(.inr (.inl (3, 1, 60, 0)))]),
  (42, [(.inl 3)], (0, 0), [(.inr (.inr (.inl (44, 44)))), (.inl (0, 127, 0, 0)), zIA, zIA], []),
  (43, [(.inl 2)], (0, 0), [(.inr (.inr (.inl (44, 44)))), (.inl (0, 127, 0, 0)), zIA, zIA], [(.inr (.inr (.inl (44, 44))))]),
  (44, [(.inl 1)], (0, 0), [(.inr (.inr (.inl (44, 44)))), (.inl (0, 127, 0, 0)), zIA, zIA], [(.inl (2, 2, 0, 0)), (.inr (.inr (.inl (44, 44))))]),
  (47, [(.inl 0)], (0, 0), [(.inr (.inr (.inl (44, 44)))), (.inl (0, 127, 0, 0)), zIA, zIA], [(.inl (0, 0, 0, 0))]),
  (48, [(.inl 4)], (0, 0), [(.inr (.inr (.inl (44, 44)))), (.inl (0, 127, 0, 0)), (.inl (0, 15, 7, 0)), (.inl (1, 60, 0, 0))], [])]
def cs_wkA : List zCt := [ct_111, ct_117, ct_138]
theorem gs_wkA {xs : List Int32} : ∀ ct ∈ cs_wkA, zGd xs ct := List.forall_mem_cons.mpr ⟨g_111, List.forall_mem_cons.mpr ⟨g_117, List.forall_mem_cons.mpr ⟨g_138, fun _ h => absurd h List.not_mem_nil⟩⟩⟩
def ce_wkB : List zCe := [(104, [(.inl 3)], (0, 0), [(.inr (.inr (.inl (44, 44)))), (.inl (0, 127, 0, 0)), zIA, zIA], []),
  (105, [(.inl 2)], (0, 0), [(.inr (.inr (.inl (44, 44)))), (.inl (0, 127, 0, 0)), zIA, zIA], [(.inr (.inr (.inl (44, 44))))]),
  (108, [(.inl 1)], (0, 0), [(.inr (.inr (.inl (44, 44)))), (.inl (0, 127, 0, 0)), zIA, zIA], [(.inr (.inr (.inr 9)))]),
  (113, [(.inl 0)], (0, 0), [(.inr (.inr (.inl (44, 44)))), (.inl (0, 127, 0, 0)), zIA, zIA], [(.inl (0, 24, 4, 0))])]
def cs_wkB : List zCt := [ct_243b]
theorem gs_wkB {xs : List Int32} : ∀ ct ∈ cs_wkB, zGd xs ct := List.forall_mem_cons.mpr ⟨g_243b, fun _ h => absurd h List.not_mem_nil⟩
section ZHH
variable {xs : List Int32} {g : zG} {lg : Nat} {h : zH} {D nc ns : Nat}
def zbs (g : zG) : zG := (g.1, g.2.1, g.2.2.1, g.2.2.2.1, g.zs + 1, g.zw, g.zn, g.nl, g.ze)
def zbw (g : zG) : zG := (g.1, g.2.1, g.2.2.1, g.2.2.2.1, g.zs, g.zw + 1, g.zn, g.nl, g.ze)
theorem m_124 {a : Int32} (hI : zHI g lg h) (h0 : 0 ≤ a.toInt) (h1 : a.toInt ≤ 127) : zMs xs (D + 0) 124 [.ref 44, .int a] h nc ns (fun o => ∃ x : Int32, 0 ≤ x.toInt ∧ x.toInt ≤ 19 ∧ o = (.inl (some (.int x)), h, nc, ns)) := by
  obtain ⟨vs, m1, m2, m3, m4⟩ := hI.obj
  refine ⟨_, rfl, zEs_run 1 rfl ?_⟩
  refine zEs_get rfl m1 rfl (zfld m3 (k := 19) (by decide) rfl) ?_
  refine zEs_run 3 rfl ?_
  obtain ⟨l, p1, p2, p3⟩ := hI.rows 69 100 16 0 19 rfl
  have e2 := Int32.toInt_div_of_ne_right a (Int8.ofInt 8).toInt32 (by decide)
  rw [show ((Int8.ofInt 8).toInt32).toInt = 8 from by decide, Int.tdiv_eq_ediv_of_nonneg (by omega)] at e2
  obtain ⟨v, v1, v2⟩ := zald_eq (nx := 9) (L := [some (.ref 44), some (.int a)]) (r := []) (j := a / (Int8.ofInt 8).toInt32) p1 (by omega) (by omega)
  refine zEs_step (dc := 0) (ds := 0) rfl (show zald 100 9 _ (.int (a / (Int8.ofInt 8).toInt32) :: .ref 69 :: []) h = _ from v2) ?_
  have v3 := p3 v (List.mem_of_getElem? v1)
  exact zEs_end rfl rfl ⟨v, v3.1, v3.2, rfl⟩
theorem zPq_ret {rt : Option zTy} {nc0 ns0 : Nat} {g0 : zG} {v : Option Value} (b1 : zgo2 g lg h [] rt v) (b2 : zHI g lg h) {h0 : zH} (b3 : zLE h0 h) (hs : g.s = g0.s) (ha : g.a = g0.a) (b5 : nc ≤ nc0 + 2 * lg) (b6 : ns ≤ ns0 + 100 * lg) : zPq g0 h0 nc0 ns0 rt 80 4000 (zfw g) (.inl v, h, nc, ns) := by
  have hz2 := b2.sizes
  exact ⟨v, g, lg, h, nc, ns, rfl, b1, b2, b3, hs, ha, rfl, by omega, by omega⟩
def ct_143 : zCt := (143, [(.inr (.inr (.inl (44, 44)))), zIA, zIA, (.inl (0, 1, 0, 0))], some zIA, 16, 90, 4200)
def ct_144 : zCt := (144, [(.inr (.inr (.inl (44, 44)))), zIA, zIA, zIA], some zIA, 16, 90, 4200)
theorem zPq_mo {g0 : zG} {rt : Option zTy} {dc ds dc' ds' : Nat} {F : Value × Value × Value × Value} {o : zO} (hc : dc ≤ dc') (hs : ds ≤ ds') (k : zPq g0 h nc ns rt dc ds F o) : zPq g0 h nc ns rt dc' ds' F o := by
  obtain ⟨v, g', lg', h', nc', ns', e, b1, b2, b9, b3, b4, b5, b6, b7⟩ := k
  exact ⟨v, g', lg', h', nc', ns', e, b1, b2, b9, b3, b4, b5, by omega, by omega⟩
theorem q_143 : zGq xs ct_143 := by
  intro g lg h nc ns as hI hS
  obtain ⟨v, w1, w2, w3, rfl, k, k1, k2, k3⟩ := zin4 hS
  obtain rfl := zP_eq k
  obtain ⟨x1, rfl, -⟩ := zI_eq k1
  obtain ⟨x2, rfl, -⟩ := zI_eq k2
  obtain ⟨x3, rfl, -⟩ := zI_eq k3
  refine ⟨_, rfl, zregR (cert := ce_stA) (cs := cs_stA) (rt := some zIA) 0 38 gs_stA rfl rfl (by decide +kernel) hI (zgl_in (n := 0) hS) trivial (fun v h' lg' nc' ns' b1 b2 b3 b4 b5 b6 => ?_) (fun L st lg1 h1 nc1 ns1 b1 b2 b3 b4 b5 b6 b7 => ?_)⟩
  · have b5 : nc' + 2 * lg ≤ nc + 2 * lg' + 0 := b5
    have b6 : ns' + 100 * lg ≤ ns + 100 * lg' + 0 := b6
    exact zPq_mo (by decide) (by decide) (zPq_ret b1 b2 b3 rfl rfl (by omega) (by omega))
  · have hz := b1.sizes
    have b6 : nc1 + 2 * lg + 0 ≤ nc + 2 * lg1 + 0 := b6
    have b7 : ns1 + 100 * lg + 0 ≤ ns + 100 * lg1 + 0 := b7
    obtain rfl := zgs_0 b3
    obtain ⟨L1, rfl, y1⟩ := zgl_P b2
    obtain ⟨a, L2, rfl, a0, a1, y2⟩ := zgl_I y1
    obtain ⟨b, L3, rfl, -, -, y3⟩ := zgl_I y2
    obtain ⟨c, L4, rfl, -, -, y4⟩ := zgl_I y3
    obtain rfl := zgl_0 y4
    obtain ⟨vs, m1, m2, m3, m4⟩ := b1.obj
    have f23 := zfldL (j := 0) m3 (k := 23) (by decide) rfl
    obtain ⟨ws, hw⟩ := zrow10 b1 (j := 0) (by omega)
    have len := zHI_len b1
    refine zEs_run 1 rfl ?_
    refine zEs_get rfl m1 rfl f23 ?_
    refine zEs_callG rfl (show zcallV 0 10 243 47 [.ref (g.p 0)] h1 = _ from zcallV_eq rfl hw (by decide)) (zsize (D := 15) (j := 0) b1 (by omega) (show g.zs ≤ 1000 by omega)) (fun v h9 nc9 ns9 q => ?_) (fun E h9 nc9 ns9 q => by obtain ⟨_, _, q⟩ := q; cases q)
    obtain ⟨x, hx, q⟩ := q
    cases q
    have hx : x.toInt = (g.zs : Nat) := hx
    refine zEs_run 1 rfl ?_
    refine zEs_icmp rfl (fun gg => ?_) (fun _ => ?_)
    · have z := zF_ne_t gg
      rw [hx, show ((Int8.ofInt 24).toInt32).toInt = 24 from by decide] at z
      refine zEs_run 1 rfl ?_
      refine zEs_get rfl m1 rfl f23 ?_
      refine zEs_run 2 (h' := h1 ++ [zar [0, 0, 0, 0]]) rfl ?_
      have hh : ∀ l : List Int32, zHI g lg1 (h1 ++ [zar l]) := fun l => (zHI_mv b1 (zapp_mv _)).1
      refine zEs_run 4 rfl ?_
      refine zEs_callG rfl (show zcallV 1 7 124 72 (.int a :: .ref 44 :: _) (h1 ++ [zar [0, 0, 0, 0]]) = _ from zcallV_eq rfl (zapp_mv _ _ _ m1) (Nat.le_of_ble_eq_true rfl)) (m_124 (D := 15) (hh _) a0 a1) (fun v h9 nc9 ns9 q => ?_) (fun E h9 nc9 ns9 q => by obtain ⟨_, _, _, q⟩ := q; cases q)
      obtain ⟨z0, z1, z2, q⟩ := q
      cases q
      refine zEs_astF (l := [0, 0, 0, 0]) (n := 0) rfl (by decide) (by decide) ?_
      refine zEs_run 4 rfl ?_
      refine zEs_irem rfl (by decide) ?_
      have er := zrem_z (x := a) (z := (Int8.ofInt 8).toInt32) a0 (by decide)
      rw [show ((Int8.ofInt 8).toInt32).toInt = 8 from by decide] at er
      refine zEs_astF (l := [z0, 0, 0, 0]) (n := 1) rfl (by show 1 < 4; decide) (by decide) ?_
      refine zEs_run 3 rfl ?_
      refine zEs_astF (l := [z0, a - a / (Int8.ofInt 8).toInt32 * (Int8.ofInt 8).toInt32, 0, 0]) (n := 2) rfl (by show 2 < 4; decide) (by decide) ?_
      have J : ∀ w : Int32, zEs xs 16 143 95 [some (.ref 44), some (.int a), some (.int b), some (.int c)] [.int w, .int (Int32.ofNat 3), .ref h1.length, .ref h1.length, .ref (g.p 0)] (h1 ++ [zar [z0, a - a / (Int8.ofInt 8).toInt32 * (Int8.ofInt 8).toInt32, b, 0]]) (nc1 + 0 + 1) (ns1 + 0 + 4) (zPq g h nc ns ct_143.rt ct_143.dc ct_143.ds (zfw g)) := by
        intro w
        refine zEs_astF (l := [z0, a - a / (Int8.ofInt 8).toInt32 * (Int8.ofInt 8).toInt32, b, 0]) (n := 3) rfl (by show 3 < 4; decide) (by decide) ?_
        obtain ⟨d1, d2⟩ := zHI_mv b1 (zapp_mv [zar [z0, a - a / (Int8.ofInt 8).toInt32 * (Int8.ofInt 8).toInt32, b, w]])
        obtain ⟨ws2, hw2⟩ := zrow10 d1 (j := 0) (by omega)
        refine zEs_callG rfl (show zcallV 1 10 237 101 [.ref h1.length, .ref (g.p 0)] (h1 ++ [zar [z0, a - a / (Int8.ofInt 8).toInt32 * (Int8.ofInt 8).toInt32, b, w]]) = _ from zcallV_eq rfl hw2 (by decide)) (zadd (D := 10) (g' := zbs g) (lg' := lg1) (j := 0) d1 (by omega) len (show _ = some (zar [z0, a - a / (Int8.ofInt 8).toInt32 * (Int8.ofInt 8).toInt32, b, w]) by rw [List.getElem?_append_right (Nat.le_refl _), Nat.sub_self]; rfl) ⟨_, _, _, _, rfl, ⟨z1, z2⟩, by omega, by omega⟩ rfl rfl rfl rfl rfl rfl (fun i hi ne => by
          unfold zsz
          split <;> first | rfl | exact absurd rfl ne) rfl ⟨show g.zs + 1 ≤ 24 by omega, hz.2.1, hz.2.2.1, hz.2.2.2.2.2.2⟩) (fun v h9 nc9 ns9 q => ?_) (fun E h9 nc9 ns9 q => by obtain ⟨_, _, _, q, _⟩ := q; cases q)
        obtain ⟨h', nc', ns', q, e1, e2, e3, e4, e5⟩ := q
        cases q
        refine zEs_run 1 rfl ?_
        refine zregE (cert := ce_stB) (cs := cs_stB) (rt := some zIA) 102 gs_stB rfl (by decide +kernel) e1 ⟨Or.inr ⟨_, rfl, zP_in⟩, Or.inr ⟨_, rfl, zI_in a0 a1⟩, Or.inr ⟨_, rfl, zIA_ok _⟩, Or.inr ⟨_, rfl, zIA_ok _⟩, trivial⟩ trivial (fun v h' lg' nc' ns' c1 c2 c3 c4 c5 c6 => ?_)
        have c5 : nc' + 2 * lg1 ≤ nc9 + 2 * lg' + 0 := c5
        have c6 : ns' + 100 * lg1 ≤ ns9 + 100 * lg' + 0 := c6
        have hz2 := c2.sizes
        exact ⟨v, zbs g, lg', h', nc', ns', rfl, c1, c2, zLE_tr b4 (zLE_tr d2 (zLE_tr e2 c3)), rfl, rfl, rfl, show nc' ≤ nc + 90 by omega, show ns' ≤ ns + 4200 by omega⟩
      refine zEs_run 3 rfl ?_
      refine zEs_if rfl (fun _ => ?_) (fun _ => ?_)
      · exact zEs_run 1 rfl (J _)
      · exact zEs_run 2 rfl (J _)
    · obtain ⟨ws, hw⟩ := zth b1
      refine zEs_run 2 rfl ?_
      refine zEs_ctr g_111 rfl (show zcallV 1 7 111 57 [.int (Int32.ofInt 3), .ref 44] h1 = _ from zcallV_eq rfl hw (by decide)) (by decide) b1 ⟨zP_in, zIA_ok _, trivial⟩ (fun v h2 lg2 nc2 ns2 q I2 le2 l2 c2 s2 => ?_)
      obtain ⟨u, rfl, q⟩ := q
      obtain ⟨x, rfl, -⟩ := zI_eq q
      have d1 : ct_111.dc = 0 := rfl
      have d2 : ct_111.ds = 0 := rfl
      exact zEs_end rfl rfl (zPq_mo (by decide) (by decide) (zPq_ret (rt := some zIA) (g0 := g) ⟨_, rfl, zIA_ok x⟩ I2 (zLE_tr b4 le2) rfl rfl (by omega) (by omega)))
theorem q_144 : zGq xs ct_144 := by
  intro g lg h nc ns as hI hS
  obtain ⟨v, w1, w2, w3, rfl, k, k1, k2, k3⟩ := zin4 hS
  obtain rfl := zP_eq k
  obtain ⟨x1, rfl, -⟩ := zI_eq k1
  obtain ⟨x2, rfl, -⟩ := zI_eq k2
  obtain ⟨x3, rfl, -⟩ := zI_eq k3
  refine ⟨_, rfl, zregR (cert := ce_wkA) (cs := cs_wkA) (rt := some zIA) 0 48 gs_wkA rfl rfl (by decide +kernel) hI (zgl_in (n := 0) hS) trivial (fun v h' lg' nc' ns' b1 b2 b3 b4 b5 b6 => ?_) (fun L st lg1 h1 nc1 ns1 b1 b2 b3 b4 b5 b6 b7 => ?_)⟩
  · have b5 : nc' + 2 * lg ≤ nc + 2 * lg' + 0 := b5
    have b6 : ns' + 100 * lg ≤ ns + 100 * lg' + 0 := b6
    exact zPq_mo (by decide) (by decide) (zPq_ret b1 b2 b3 rfl rfl (by omega) (by omega))
  · have hz := b1.sizes
    have b6 : nc1 + 2 * lg + 0 ≤ nc + 2 * lg1 + 0 := b6
    have b7 : ns1 + 100 * lg + 0 ≤ ns + 100 * lg1 + 0 := b7
    obtain rfl := zgs_0 b3
    obtain ⟨L1, rfl, y1⟩ := zgl_P b2
    obtain ⟨a, L2, rfl, a0, a1, y2⟩ := zgl_I y1
    obtain ⟨b, L3, rfl, -, -, y3⟩ := zgl_I y2
    obtain ⟨c, L4, rfl, -, -, y4⟩ := zgl_I y3
    obtain rfl := zgl_0 y4
    obtain ⟨vs, m1, m2, m3, m4⟩ := b1.obj
    have f24 := zfldL (j := 1) m3 (k := 24) (by decide) rfl
    obtain ⟨ws, hw⟩ := zrow10 b1 (j := 1) (by omega)
    have len := zHI_len b1
    refine zEs_run 1 rfl ?_
    refine zEs_get rfl m1 rfl f24 ?_
    refine zEs_callG rfl (show zcallV 0 10 243 57 [.ref (g.p 1)] h1 = _ from zcallV_eq rfl hw (by decide)) (zsize (D := 15) (j := 1) b1 (by omega) (show g.zw ≤ 1000 by omega)) (fun v h9 nc9 ns9 q => ?_) (fun E h9 nc9 ns9 q => by obtain ⟨_, _, q⟩ := q; cases q)
    obtain ⟨x, hx, q⟩ := q
    cases q
    have hx : x.toInt = (g.zw : Nat) := hx
    refine zEs_run 1 rfl ?_
    refine zEs_icmp rfl (fun gg => ?_) (fun _ => ?_)
    · have z := zF_ne_t gg
      rw [hx, show ((Int8.ofInt 24).toInt32).toInt = 24 from by decide] at z
      refine zEs_run 1 rfl ?_
      refine zEs_get rfl m1 rfl f24 ?_
      refine zEs_run 2 (h' := h1 ++ [zar [0, 0, 0, 0]]) rfl ?_
      have hh : ∀ l : List Int32, zHI g lg1 (h1 ++ [zar l]) := fun l => (zHI_mv b1 (zapp_mv _)).1
      refine zEs_run 4 rfl ?_
      refine zEs_callG rfl (show zcallV 1 7 124 82 (.int a :: .ref 44 :: _) (h1 ++ [zar [0, 0, 0, 0]]) = _ from zcallV_eq rfl (zapp_mv _ _ _ m1) (Nat.le_of_ble_eq_true rfl)) (m_124 (D := 15) (hh _) a0 a1) (fun v h9 nc9 ns9 q => ?_) (fun E h9 nc9 ns9 q => by obtain ⟨_, _, _, q⟩ := q; cases q)
      obtain ⟨z0, z1, z2, q⟩ := q
      cases q
      refine zEs_astF (l := [0, 0, 0, 0]) (n := 0) rfl (by decide) (by decide) ?_
      refine zEs_run 4 rfl ?_
      refine zEs_irem rfl (by decide) ?_
      have er := zrem_z (x := a) (z := (Int8.ofInt 8).toInt32) a0 (by decide)
      rw [show ((Int8.ofInt 8).toInt32).toInt = 8 from by decide] at er
      refine zEs_astF (l := [z0, 0, 0, 0]) (n := 1) rfl (by show 1 < 4; decide) (by decide) ?_
      refine zEs_run 3 rfl ?_
      refine zEs_astF (l := [z0, a - a / (Int8.ofInt 8).toInt32 * (Int8.ofInt 8).toInt32, 0, 0]) (n := 2) rfl (by show 2 < 4; decide) (by decide) ?_
      refine zEs_run 3 rfl ?_
      refine zEs_astF (l := [z0, a - a / (Int8.ofInt 8).toInt32 * (Int8.ofInt 8).toInt32, b, 0]) (n := 3) rfl (by show 3 < 4; decide) (by decide) ?_
      obtain ⟨d1, d2⟩ := zHI_mv b1 (zapp_mv [zar [z0, a - a / (Int8.ofInt 8).toInt32 * (Int8.ofInt 8).toInt32, b, c]])
      obtain ⟨ws2, hw2⟩ := zrow10 d1 (j := 1) (by omega)
      refine zEs_callG rfl (show zcallV 1 10 237 103 [.ref h1.length, .ref (g.p 1)] (h1 ++ [zar [z0, a - a / (Int8.ofInt 8).toInt32 * (Int8.ofInt 8).toInt32, b, c]]) = _ from zcallV_eq rfl hw2 (by decide)) (zadd (D := 10) (g' := zbw g) (lg' := lg1) (j := 1) d1 (by omega) len (show _ = some (zar [z0, a - a / (Int8.ofInt 8).toInt32 * (Int8.ofInt 8).toInt32, b, c]) by rw [List.getElem?_append_right (Nat.le_refl _), Nat.sub_self]; rfl) ⟨_, _, _, _, rfl, ⟨z1, z2⟩, by omega, by omega⟩ rfl rfl rfl rfl rfl rfl (fun i hi ne => by
          unfold zsz
          split <;> first | rfl | exact absurd rfl ne) rfl ⟨hz.1, show g.zw + 1 ≤ 24 by omega, hz.2.2.1, hz.2.2.2.2.2.2⟩) (fun v h9 nc9 ns9 q => ?_) (fun E h9 nc9 ns9 q => by obtain ⟨_, _, _, q, _⟩ := q; cases q)
      obtain ⟨h', nc', ns', q, e1, e2, e3, e4, e5⟩ := q
      cases q
      refine zEs_run 1 rfl ?_
      refine zregE (cert := ce_wkB) (cs := cs_wkB) (rt := some zIA) 104 gs_wkB rfl (by decide +kernel) e1 ⟨Or.inr ⟨_, rfl, zP_in⟩, Or.inr ⟨_, rfl, zI_in a0 a1⟩, Or.inr ⟨_, rfl, zIA_ok _⟩, Or.inr ⟨_, rfl, zIA_ok _⟩, trivial⟩ trivial (fun v h' lg' nc' ns' c1 c2 c3 c4 c5 c6 => ?_)
      have c5 : nc' + 2 * lg1 ≤ nc9 + 2 * lg' + 0 := c5
      have c6 : ns' + 100 * lg1 ≤ ns9 + 100 * lg' + 0 := c6
      have hz2 := c2.sizes
      have t4 : (Int32.ofInt 4).toNatClampNeg = 4 := by decide
      exact ⟨v, zbw g, lg', h', nc', ns', rfl, c1, c2, zLE_tr b4 (zLE_tr d2 (zLE_tr e2 c3)), rfl, rfl, rfl, show nc' ≤ nc + 90 by omega, show ns' ≤ ns + 4200 by omega⟩
    · obtain ⟨ws, hw⟩ := zth b1
      refine zEs_run 2 rfl ?_
      refine zEs_ctr g_111 rfl (show zcallV 1 7 111 67 [.int (Int32.ofInt 3), .ref 44] h1 = _ from zcallV_eq rfl hw (by decide)) (by decide) b1 ⟨zP_in, zIA_ok _, trivial⟩ (fun v h2 lg2 nc2 ns2 q I2 le2 l2 c2 s2 => ?_)
      obtain ⟨u, rfl, q⟩ := q
      obtain ⟨x, rfl, -⟩ := zI_eq q
      have d1 : ct_111.dc = 0 := rfl
      have d2 : ct_111.ds = 0 := rfl
      exact zEs_end rfl rfl (zPq_mo (by decide) (by decide) (zPq_ret (rt := some zIA) (g0 := g) ⟨_, rfl, zIA_ok x⟩ I2 (zLE_tr b4 le2) rfl rfl (by omega) (by omega)))
end ZHH
end zg8
section zg9
/-! The reference's methods, by hand: spare. -/
def ce_spA : List zCe := [(0, [(.inl 17)], (0, 0), [(.inr (.inr (.inl (44, 44)))), zIA, zIA, (.inr (.inr (.inr 0))), (.inr (.inr (.inr 0))), (.inr (.inr (.inr 0))), (.inr (.inr (.inr 0))), (.inr (.inr (.inr 0)))], []),
  (1, [(.inl 16)], (0, 0), [(.inr (.inr (.inl (44, 44)))), zIA, zIA, (.inr (.inr (.inr 0))), (.inr (.inr (.inr 0))), (.inr (.inr (.inr 0))), (.inr (.inr (.inr 0))), (.inr (.inr (.inr 0)))], [(.inr (.inr (.inl (44, 44))))]),
  (2, [(.inl 15)], (0, 0), [(.inr (.inr (.inl (44, 44)))), zIA, zIA, (.inr (.inr (.inr 0))), (.inr (.inr (.inr 0))), (.inr (.inr (.inr 0))), (.inr (.inr (.inr 0))), (.inr (.inr (.inr 0)))], [(.inl (0, 0, 0, 0)), (.inr (.inr (.inl (44, 44))))]),
  (5, [(.inl 14)], (0, 0), [(.inr (.inr (.inl (44, 44)))), zIA, zIA, (.inr (.inr (.inr 0))), (.inr (.inr (.inr 0))), (.inr (.inr (.inr 0))), (.inr (.inr (.inr 0))), (.inr (.inr (.inr 0)))], []),
  (6, [(.inl 13)], (0, 0), [(.inr (.inr (.inl (44, 44)))), zIA, zIA, (.inr (.inr (.inr 0))), (.inr (.inr (.inr 0))), (.inr (.inr (.inr 0))), (.inr (.inr (.inr 0))), (.inr (.inr (.inr 0)))], [(.inl ((-2147483648), 2147483647, 0, 2))]),
  (7, [(.inl 12)], (0, 0), [(.inr (.inr (.inl (44, 44)))), zIA, zIA, (.inr (.inr (.inr 0))), (.inr (.inr (.inr 0))), (.inr (.inr (.inr 0))), (.inr (.inr (.inr 0))), (.inr (.inr (.inr 0)))], [(.inl (0, 0, 0, 0)), (.inl ((-2147483648), 2147483647, 0, 2))]),
  (8, [(.inl 11)], (0, 0), [(.inr (.inr (.inl (44, 44)))), zIA, zIA, (.inr (.inr (.inr 0))), (.inr (.inr (.inr 0))), (.inr (.inr (.inr 0))), (.inr (.inr (.inr 0))), (.inr (.inr (.inr 0)))], [(.inl (1, 1, 0, 0)), (.inl (0, 0, 0, 0)), (.inl ((-2147483648), 2147483647, 0, 2))]),
  (11, [(.inl 10)], (0, 0), [(.inr (.inr (.inl (44, 44)))), zIA, zIA, (.inr (.inr (.inr 0))), (.inr (.inr (.inr 0))), (.inr (.inr (.inr 0))), (.inr (.inr (.inr 0))), (.inr (.inr (.inr 0)))], [(.inr (.inl (1, 0, 1, 0)))]),
  (14, [(.inl 9)], (0, 0), [(.inr (.inr (.inl (44, 44)))), (.inl (0, 1, 0, 0)), zIA, (.inr (.inr (.inr 0))), (.inr (.inr (.inr 0))), (.inr (.inr (.inr 0))), (.inr (.inr (.inr 0))), (.inr (.inr (.inr 0)))], []),
  (15, [(.inl 8)], (0, 0), [(.inr (.inr (.inl (44, 44)))), (.inl (0, 1, 0, 0)), zIA, (.inr (.inr (.inr 0))), (.inr (.inr (.inr 0))), (.inr (.inr (.inr 0))), (.inr (.inr (.inr 0))), (.inr (.inr (.inr 0)))], [(.inl ((-2147483648), 2147483647, 0, 3))]),
  (16, [(.inl 7)], (0, 0), [(.inr (.inr (.inl (44, 44)))), (.inl (0, 1, 0, 0)), zIA, (.inr (.inr (.inr 0))), (.inr (.inr (.inr 0))), (.inr (.inr (.inr 0))), (.inr (.inr (.inr 0))), (.inr (.inr (.inr 0)))], [(.inl (0, 0, 0, 0)), (.inl ((-2147483648), 2147483647, 0, 3))]),
  (18, [(.inl 6)], (0, 0), [(.inr (.inr (.inl (44, 44)))), (.inl (0, 1, 0, 0)), zIA, (.inr (.inr (.inr 0))), (.inr (.inr (.inr 0))), (.inr (.inr (.inr 0))), (.inr (.inr (.inr 0))), (.inr (.inr (.inr 0)))], [(.inl (7, 7, 0, 0)), (.inl (0, 0, 0, 0)), (.inl ((-2147483648), 2147483647, 0, 3))]),
  (21, [(.inl 5)], (0, 0), [(.inr (.inr (.inl (44, 44)))), (.inl (0, 1, 0, 0)), zIA, (.inr (.inr (.inr 0))), (.inr (.inr (.inr 0))), (.inr (.inr (.inr 0))), (.inr (.inr (.inr 0))), (.inr (.inr (.inr 0)))], [(.inr (.inl (2, 0, 7, 0)))]),
  (24, [(.inl 3)], (0, 0), [(.inr (.inr (.inl (44, 44)))), zIA, zIA, (.inr (.inr (.inr 0))), (.inr (.inr (.inr 0))), (.inr (.inr (.inr 0))), (.inr (.inr (.inr 0))), (.inr (.inr (.inr 0)))], []),
  (25, [(.inl 2)], (0, 0), [(.inr (.inr (.inl (44, 44)))), zIA, zIA, (.inr (.inr (.inr 0))), (.inr (.inr (.inr 0))), (.inr (.inr (.inr 0))), (.inr (.inr (.inr 0))), (.inr (.inr (.inr 0)))], [(.inr (.inr (.inl (44, 44))))]),
  (26, [(.inl 1)], (0, 0), [(.inr (.inr (.inl (44, 44)))), zIA, zIA, (.inr (.inr (.inr 0))), (.inr (.inr (.inr 0))), (.inr (.inr (.inr 0))), (.inr (.inr (.inr 0))), (.inr (.inr (.inr 0)))], [(.inl (1, 1, 0, 0)), (.inr (.inr (.inl (44, 44))))]),
  (29, [(.inl 0)], (0, 0), [(.inr (.inr (.inl (44, 44)))), zIA, zIA, (.inr (.inr (.inr 0))), (.inr (.inr (.inr 0))), (.inr (.inr (.inr 0))), (.inr (.inr (.inr 0))), (.inr (.inr (.inr 0)))], [(.inl (0, 0, 0, 0))]),
  (30, [(.inl 4)], (0, 0), [(.inr (.inr (.inl (44, 44)))), (.inl (0, 1, 0, 0)), (.inl (0, 7, 0, 0)), (.inr (.inr (.inr 0))), (.inr (.inr (.inr 0))), (.inr (.inr (.inr 0))), (.inr (.inr (.inr 0))), (.inr (.inr (.inr 0)))], [])]
def cs_spA : List zCt := [ct_111]
theorem gs_spA {xs : List Int32} : ∀ ct ∈ cs_spA, zGd xs ct := List.forall_mem_cons.mpr ⟨g_111, fun _ h => absurd h List.not_mem_nil⟩
def ce_spB : List zCe := [(95, [(.inl 7), (.inl 0), (.inl 0)], (0, 0), [(.inr (.inr (.inl (44, 44)))), (.inl (0, 1, 0, 0)), (.inl (0, 7, 0, 0)), (.inl (0, 15, 0, 0)), (.inl (0, 19, 0, 0)), (.inl (0, 19, 0, 0)), (.inr (.inr (.inr 0))), (.inr (.inr (.inr 0)))], []),
  (96, [(.inl 6), (.inl 0), (.inl 0)], (0, 0), [(.inr (.inr (.inl (44, 44)))), (.inl (0, 1, 0, 0)), (.inl (0, 7, 0, 0)), (.inl (0, 15, 0, 0)), (.inl (0, 19, 0, 0)), (.inl (0, 19, 0, 0)), (.inr (.inr (.inr 0))), (.inr (.inr (.inr 0)))], [(.inl (0, 0, 0, 0))]),
  (98, [(.inl 5), (.inr (8, 6)), (.inl 36)], (0, 0), [(.inr (.inr (.inl (44, 44)))), (.inl (0, 1, 0, 0)), (.inl (0, 7, 0, 0)), (.inl (0, 15, 0, 0)), (.inl (0, 19, 0, 0)), (.inl (0, 19, 0, 0)), (.inl (0, 8, 0, 0)), (.inr (.inr (.inr 0)))], []),
  (100, [(.inl 5), (.inr (8, 6)), (.inl 35)], (0, 0), [(.inr (.inr (.inl (44, 44)))), (.inl (0, 1, 0, 0)), (.inl (0, 7, 0, 0)), (.inl (0, 15, 0, 0)), (.inl (0, 19, 0, 0)), (.inl (0, 19, 0, 0)), (.inl (0, 8, 0, 0)), (.inr (.inr (.inr 0)))], [(.inl (0, 8, 0, 7))]),
  (102, [(.inl 5), (.inr (8, 6)), (.inl 34)], (0, 0), [(.inr (.inr (.inl (44, 44)))), (.inl (0, 1, 0, 0)), (.inl (0, 7, 0, 0)), (.inl (0, 15, 0, 0)), (.inl (0, 19, 0, 0)), (.inl (0, 19, 0, 0)), (.inl (0, 8, 0, 0)), (.inr (.inr (.inr 0)))], [(.inl (8, 8, 0, 0)), (.inl (0, 8, 0, 7))]),
  (105, [(.inl 5), (.inr (8, 6)), (.inl 33)], (0, 0), [(.inr (.inr (.inl (44, 44)))), (.inl (0, 1, 0, 0)), (.inl (0, 7, 0, 0)), (.inl (0, 15, 0, 0)), (.inl (0, 19, 0, 0)), (.inl (0, 19, 0, 0)), (.inl (0, 7, 0, 0)), (.inr (.inr (.inr 0)))], []),
  (106, [(.inl 5), (.inr (8, 6)), (.inl 32)], (0, 0), [(.inr (.inr (.inl (44, 44)))), (.inl (0, 1, 0, 0)), (.inl (0, 7, 0, 0)), (.inl (0, 15, 0, 0)), (.inl (0, 19, 0, 0)), (.inl (0, 19, 0, 0)), (.inl (0, 7, 0, 0)), (.inr (.inr (.inr 0)))], [(.inr (.inr (.inl (44, 44))))]),
  (109, [(.inl 5), (.inr (8, 6)), (.inl 31)], (0, 0), [(.inr (.inr (.inl (44, 44)))), (.inl (0, 1, 0, 0)), (.inl (0, 7, 0, 0)), (.inl (0, 15, 0, 0)), (.inl (0, 19, 0, 0)), (.inl (0, 19, 0, 0)), (.inl (0, 7, 0, 0)), (.inr (.inr (.inr 0)))], [(.inr (.inr (.inl (46, 46))))]),
  (111, [(.inl 5), (.inr (8, 6)), (.inl 30)], (0, 0), [(.inr (.inr (.inl (44, 44)))), (.inl (0, 1, 0, 0)), (.inl (0, 7, 0, 0)), (.inl (0, 15, 0, 0)), (.inl (0, 19, 0, 0)), (.inl (0, 19, 0, 0)), (.inl (0, 7, 0, 0)), (.inr (.inr (.inr 0)))], [(.inl (0, 19, 0, 5)), (.inr (.inr (.inl (46, 46))))]),
  (112, [(.inl 5), (.inr (8, 6)), (.inl 29)], (0, 0), [(.inr (.inr (.inl (44, 44)))), (.inl (0, 1, 0, 0)), (.inl (0, 7, 0, 0)), (.inl (0, 15, 0, 0)), (.inl (0, 19, 0, 0)), (.inl (0, 19, 0, 0)), (.inl (0, 7, 0, 0)), (.inr (.inr (.inr 0)))], [(.inr (.inr (.inl (47, 66))))]),
  (114, [(.inl 5), (.inr (8, 6)), (.inl 28)], (0, 0), [(.inr (.inr (.inl (44, 44)))), (.inl (0, 1, 0, 0)), (.inl (0, 7, 0, 0)), (.inl (0, 15, 0, 0)), (.inl (0, 19, 0, 0)), (.inl (0, 19, 0, 0)), (.inl (0, 7, 0, 0)), (.inr (.inr (.inr 0)))], [(.inl (0, 7, 0, 7)), (.inr (.inr (.inl (47, 66))))]),
  (115, [(.inl 5), (.inr (8, 6)), (.inl 27)], (0, 0), [(.inr (.inr (.inl (44, 44)))), (.inl (0, 1, 0, 0)), (.inl (0, 7, 0, 0)), (.inl (0, 15, 0, 0)), (.inl (0, 19, 0, 0)), (.inl (0, 19, 0, 0)), (.inl (0, 7, 0, 0)), (.inr (.inr (.inr 0)))], [zIA]),
  (117, [(.inl 5), (.inr (8, 6)), (.inl 26)], (0, 0), [(.inr (.inr (.inl (44, 44)))), (.inl (0, 1, 0, 0)), (.inl (0, 7, 0, 0)), (.inl (0, 15, 0, 0)), (.inl (0, 19, 0, 0)), (.inl (0, 19, 0, 0)), (.inl (0, 7, 0, 0)), zIA], []),
  (118, [(.inl 5), (.inr (8, 6)), (.inl 25)], (0, 0), [(.inr (.inr (.inl (44, 44)))), (.inl (0, 1, 0, 0)), (.inl (0, 7, 0, 0)), (.inl (0, 15, 0, 0)), (.inl (0, 19, 0, 0)), (.inl (0, 19, 0, 0)), (.inl (0, 7, 0, 0)), zIA], [(.inr (.inr (.inl (44, 44))))]),
  (120, [(.inl 5), (.inr (8, 6)), (.inl 24)], (0, 0), [(.inr (.inr (.inl (44, 44)))), (.inl (0, 1, 0, 0)), (.inl (0, 7, 0, 0)), (.inl (0, 15, 0, 0)), (.inl (0, 19, 0, 0)), (.inl (0, 19, 0, 0)), (.inl (0, 7, 0, 0)), zIA], [(.inl (0, 19, 0, 6)), (.inr (.inr (.inl (44, 44))))]),
  (122, [(.inl 5), (.inr (8, 6)), (.inl 23)], (0, 0), [(.inr (.inr (.inl (44, 44)))), (.inl (0, 1, 0, 0)), (.inl (0, 7, 0, 0)), (.inl (0, 15, 0, 0)), (.inl (0, 19, 0, 0)), (.inl (0, 19, 0, 0)), (.inl (0, 7, 0, 0)), zIA], [(.inl (0, 7, 0, 7)), (.inl (0, 19, 0, 6)), (.inr (.inr (.inl (44, 44))))]),
  (123, [(.inl 5), (.inr (8, 6)), (.inl 22)], (0, 0), [(.inr (.inr (.inl (44, 44)))), (.inl (0, 1, 0, 0)), (.inl (0, 7, 0, 0)), (.inl (0, 15, 0, 0)), (.inl (0, 19, 0, 0)), (.inl (0, 19, 0, 0)), (.inl (0, 7, 0, 0)), zIA], [(.inr (.inr (.inl (44, 44)))), (.inl (0, 7, 0, 7)), (.inl (0, 19, 0, 6)), (.inr (.inr (.inl (44, 44))))]),
  (125, [(.inl 5), (.inr (8, 6)), (.inl 21)], (0, 0), [(.inr (.inr (.inl (44, 44)))), (.inl (0, 1, 0, 0)), (.inl (0, 7, 0, 0)), (.inl (0, 15, 0, 0)), (.inl (0, 19, 0, 0)), (.inl (0, 19, 0, 0)), (.inl (0, 7, 0, 0)), zIA], [(.inl ((-2147483648), 2147483647, 0, 8)), (.inr (.inr (.inl (44, 44)))), (.inl (0, 7, 0, 7)), (.inl (0, 19, 0, 6)), (.inr (.inr (.inl (44, 44))))]),
  (128, [(.inl 5), (.inr (8, 6)), (.inl 20)], (0, 0), [(.inr (.inr (.inl (44, 44)))), (.inl (0, 1, 0, 0)), (.inl (0, 7, 0, 0)), (.inl (0, 15, 0, 0)), (.inl (0, 19, 0, 0)), (.inl (0, 19, 0, 0)), (.inl (0, 7, 0, 0)), zIA], [zIA, (.inl (0, 7, 0, 7)), (.inl (0, 19, 0, 6)), (.inr (.inr (.inl (44, 44))))]),
  (131, [(.inl 5), (.inr (8, 6)), (.inl 19)], (0, 0), [(.inr (.inr (.inl (44, 44)))), (.inl (0, 1, 0, 0)), (.inl (0, 7, 0, 0)), (.inl (0, 15, 0, 0)), (.inl (0, 19, 0, 0)), (.inl (0, 19, 0, 0)), (.inl (0, 7, 0, 0)), zIA], []),
  (132, [(.inl 5), (.inr (8, 6)), (.inl 18)], (0, 0), [(.inr (.inr (.inl (44, 44)))), (.inl (0, 1, 0, 0)), (.inl (0, 7, 0, 0)), (.inl (0, 15, 0, 0)), (.inl (0, 19, 0, 0)), (.inl (0, 19, 0, 0)), (.inl (0, 7, 0, 0)), zIA], [(.inr (.inr (.inl (44, 44))))]),
  (135, [(.inl 5), (.inr (8, 6)), (.inl 17)], (0, 0), [(.inr (.inr (.inl (44, 44)))), (.inl (0, 1, 0, 0)), (.inl (0, 7, 0, 0)), (.inl (0, 15, 0, 0)), (.inl (0, 19, 0, 0)), (.inl (0, 19, 0, 0)), (.inl (0, 7, 0, 0)), zIA], [(.inr (.inr (.inl (71, 71))))]),
  (136, [(.inl 5), (.inr (8, 6)), (.inl 16)], (0, 0), [(.inr (.inr (.inl (44, 44)))), (.inl (0, 1, 0, 0)), (.inl (0, 7, 0, 0)), (.inl (0, 15, 0, 0)), (.inl (0, 19, 0, 0)), (.inl (0, 19, 0, 0)), (.inl (0, 7, 0, 0)), zIA], [(.inl (0, 15, 0, 4)), (.inr (.inr (.inl (71, 71))))]),
  (138, [(.inl 5), (.inr (8, 6)), (.inl 15)], (0, 0), [(.inr (.inr (.inl (44, 44)))), (.inl (0, 1, 0, 0)), (.inl (0, 7, 0, 0)), (.inl (0, 15, 0, 0)), (.inl (0, 19, 0, 0)), (.inl (0, 19, 0, 0)), (.inl (0, 7, 0, 0)), zIA], [(.inl (8, 8, 0, 0)), (.inl (0, 15, 0, 4)), (.inr (.inr (.inl (71, 71))))]),
  (139, [(.inl 5), (.inr (8, 6)), (.inl 14)], (0, 0), [(.inr (.inr (.inl (44, 44)))), (.inl (0, 1, 0, 0)), (.inl (0, 7, 0, 0)), (.inl (0, 15, 0, 0)), (.inl (0, 19, 0, 0)), (.inl (0, 19, 0, 0)), (.inl (0, 7, 0, 0)), zIA], [(.inl (0, 120, 0, 0)), (.inr (.inr (.inl (71, 71))))]),
  (141, [(.inl 5), (.inr (8, 6)), (.inl 13)], (0, 0), [(.inr (.inr (.inl (44, 44)))), (.inl (0, 1, 0, 0)), (.inl (0, 7, 0, 0)), (.inl (0, 15, 0, 0)), (.inl (0, 19, 0, 0)), (.inl (0, 19, 0, 0)), (.inl (0, 7, 0, 0)), zIA], [(.inl (0, 7, 0, 7)), (.inl (0, 120, 0, 0)), (.inr (.inr (.inl (71, 71))))]),
  (142, [(.inl 5), (.inr (8, 6)), (.inl 12)], (0, 0), [(.inr (.inr (.inl (44, 44)))), (.inl (0, 1, 0, 0)), (.inl (0, 7, 0, 0)), (.inl (0, 15, 0, 0)), (.inl (0, 19, 0, 0)), (.inl (0, 19, 0, 0)), (.inl (0, 7, 0, 0)), zIA], [(.inl (0, 127, 0, 0)), (.inr (.inr (.inl (71, 71))))]),
  (143, [(.inl 5), (.inr (8, 6)), (.inl 11)], (0, 0), [(.inr (.inr (.inl (44, 44)))), (.inl (0, 1, 0, 0)), (.inl (0, 7, 0, 0)), (.inl (0, 15, 0, 0)), (.inl (0, 19, 0, 0)), (.inl (0, 19, 0, 0)), (.inl (0, 7, 0, 0)), zIA], [(.inl (0, 127, 0, 0)), (.inr (.inr (.inl (71, 71)))), (.inl (0, 127, 0, 0)), (.inr (.inr (.inl (71, 71))))]),
  (144, [(.inl 5), (.inr (8, 6)), (.inl 10)], (0, 0), [(.inr (.inr (.inl (44, 44)))), (.inl (0, 1, 0, 0)), (.inl (0, 7, 0, 0)), (.inl (0, 15, 0, 0)), (.inl (0, 19, 0, 0)), (.inl (0, 19, 0, 0)), (.inl (0, 7, 0, 0)), zIA], [(.inl (0, 1, 0, 0)), (.inl (0, 127, 0, 0)), (.inr (.inr (.inl (71, 71))))]),
  (145, [(.inl 5), (.inr (8, 6)), (.inl 9)], (0, 0), [(.inr (.inr (.inl (44, 44)))), (.inl (0, 1, 0, 0)), (.inl (0, 7, 0, 0)), (.inl (0, 15, 0, 0)), (.inl (0, 19, 0, 0)), (.inl (0, 19, 0, 0)), (.inl (0, 7, 0, 0)), zIA], [(.inr (.inr (.inl (44, 44)))), (.inl (0, 1, 0, 0)), (.inl (0, 127, 0, 0)), (.inr (.inr (.inl (71, 71))))]),
  (147, [(.inl 5), (.inr (8, 6)), (.inl 8)], (0, 0), [(.inr (.inr (.inl (44, 44)))), (.inl (0, 1, 0, 0)), (.inl (0, 7, 0, 0)), (.inl (0, 15, 0, 0)), (.inl (0, 19, 0, 0)), (.inl (0, 19, 0, 0)), (.inl (0, 7, 0, 0)), zIA], [(.inl ((-2147483648), 2147483647, 0, 8)), (.inr (.inr (.inl (44, 44)))), (.inl (0, 1, 0, 0)), (.inl (0, 127, 0, 0)), (.inr (.inr (.inl (71, 71))))]),
  (150, [(.inl 5), (.inr (8, 6)), (.inl 7)], (0, 0), [(.inr (.inr (.inl (44, 44)))), (.inl (0, 1, 0, 0)), (.inl (0, 7, 0, 0)), (.inl (0, 15, 0, 0)), (.inl (0, 19, 0, 0)), (.inl (0, 19, 0, 0)), (.inl (0, 7, 0, 0)), zIA], [(.inl (0, 2, 0, 0)), (.inl (0, 1, 0, 0)), (.inl (0, 127, 0, 0)), (.inr (.inr (.inl (71, 71))))]),
  (151, [(.inl 5), (.inr (8, 6)), (.inl 6)], (0, 0), [(.inr (.inr (.inl (44, 44)))), (.inl (0, 1, 0, 0)), (.inl (0, 7, 0, 0)), (.inl (0, 15, 0, 0)), (.inl (0, 19, 0, 0)), (.inl (0, 19, 0, 0)), (.inl (0, 7, 0, 0)), zIA], [(.inl (2, 2, 0, 0)), (.inl (0, 2, 0, 0)), (.inl (0, 1, 0, 0)), (.inl (0, 127, 0, 0)), (.inr (.inr (.inl (71, 71))))]),
  (154, [(.inl 5), (.inr (8, 6)), (.inl 5)], (0, 0), [(.inr (.inr (.inl (44, 44)))), (.inl (0, 1, 0, 0)), (.inl (0, 7, 0, 0)), (.inl (0, 15, 0, 0)), (.inl (0, 19, 0, 0)), (.inl (0, 19, 0, 0)), (.inl (0, 7, 0, 0)), zIA], [(.inl (0, 1, 0, 0)), (.inl (0, 127, 0, 0)), (.inr (.inr (.inl (71, 71))))]),
  (155, [(.inl 5), (.inr (8, 6)), (.inl 4)], (0, 0), [(.inr (.inr (.inl (44, 44)))), (.inl (0, 1, 0, 0)), (.inl (0, 7, 0, 0)), (.inl (0, 15, 0, 0)), (.inl (0, 19, 0, 0)), (.inl (0, 19, 0, 0)), (.inl (0, 7, 0, 0)), zIA], [(.inl (1, 1, 0, 0)), (.inl (0, 1, 0, 0)), (.inl (0, 127, 0, 0)), (.inr (.inr (.inl (71, 71))))]),
  (158, [(.inl 5), (.inr (8, 6)), (.inl 3)], (0, 0), [(.inr (.inr (.inl (44, 44)))), (.inl (0, 1, 0, 0)), (.inl (0, 7, 0, 0)), (.inl (0, 15, 0, 0)), (.inl (0, 19, 0, 0)), (.inl (0, 19, 0, 0)), (.inl (0, 7, 0, 0)), zIA], [(.inl (0, 1, 0, 0)), (.inl (0, 127, 0, 0)), (.inr (.inr (.inl (71, 71))))]),
  (159, [(.inl 5), (.inr (8, 6)), (.inl 2)], (0, 0), [(.inr (.inr (.inl (44, 44)))), (.inl (0, 1, 0, 0)), (.inl (0, 7, 0, 0)), (.inl (0, 15, 0, 0)), (.inl (0, 19, 0, 0)), (.inl (0, 19, 0, 0)), (.inl (0, 7, 0, 0)), zIA], [(.inl (0, 1, 0, 0)), (.inl (0, 1, 0, 0)), (.inl (0, 127, 0, 0)), (.inr (.inr (.inl (71, 71))))]),
  (160, [(.inl 5), (.inr (8, 6)), (.inl 1)], (0, 0), [(.inr (.inr (.inl (44, 44)))), (.inl (0, 1, 0, 0)), (.inl (0, 7, 0, 0)), (.inl (0, 15, 0, 0)), (.inl (0, 19, 0, 0)), (.inl (0, 19, 0, 0)), (.inl (0, 7, 0, 0)), zIA], [(.inl (0, 1, 0, 0)), (.inl (0, 127, 0, 0)), (.inr (.inr (.inl (71, 71))))]),
  (161, [(.inl 5), (.inr (8, 6)), (.inl 0)], (0, 0), [(.inr (.inr (.inl (44, 44)))), (.inl (0, 1, 0, 0)), (.inl (0, 7, 0, 0)), (.inl (0, 15, 0, 0)), (.inl (0, 19, 0, 0)), (.inl (0, 19, 0, 0)), (.inl (0, 7, 0, 0)), zIA], []),
  (164, [(.inl 5), (.inr (8, 6)), (.inl 37)], (0, 0), [(.inr (.inr (.inl (44, 44)))), (.inl (0, 1, 0, 0)), (.inl (0, 7, 0, 0)), (.inl (0, 15, 0, 0)), (.inl (0, 19, 0, 0)), (.inl (0, 19, 0, 0)), (.inl (1, 8, 0, 0)), zIA], []),
  (167, [(.inl 4), (.inl 0), (.inl 0)], (0, 0), [(.inr (.inr (.inl (44, 44)))), (.inl (0, 1, 0, 0)), (.inl (0, 7, 0, 0)), (.inl (0, 15, 0, 0)), (.inl (0, 19, 0, 0)), (.inl (0, 19, 0, 0)), (.inl (8, 8, 0, 0)), (.inr (.inr (.inr 0)))], []),
  (168, [(.inl 3), (.inl 0), (.inl 0)], (0, 0), [(.inr (.inr (.inl (44, 44)))), (.inl (0, 1, 0, 0)), (.inl (0, 7, 0, 0)), (.inl (0, 15, 0, 0)), (.inl (0, 19, 0, 0)), (.inl (0, 19, 0, 0)), (.inl (8, 8, 0, 0)), (.inr (.inr (.inr 0)))], [(.inr (.inr (.inl (44, 44))))]),
  (171, [(.inl 2), (.inl 0), (.inl 0)], (0, 0), [(.inr (.inr (.inl (44, 44)))), (.inl (0, 1, 0, 0)), (.inl (0, 7, 0, 0)), (.inl (0, 15, 0, 0)), (.inl (0, 19, 0, 0)), (.inl (0, 19, 0, 0)), (.inl (8, 8, 0, 0)), (.inr (.inr (.inr 0)))], [(.inr (.inr (.inl (70, 70))))]),
  (172, [(.inl 1), (.inl 0), (.inl 0)], (0, 0), [(.inr (.inr (.inl (44, 44)))), (.inl (0, 1, 0, 0)), (.inl (0, 7, 0, 0)), (.inl (0, 15, 0, 0)), (.inl (0, 19, 0, 0)), (.inl (0, 19, 0, 0)), (.inl (8, 8, 0, 0)), (.inr (.inr (.inr 0)))], [(.inl (0, 1, 0, 2)), (.inr (.inr (.inl (70, 70))))]),
  (173, [(.inl 0), (.inl 0), (.inl 0)], (0, 0), [(.inr (.inr (.inl (44, 44)))), (.inl (0, 1, 0, 0)), (.inl (0, 7, 0, 0)), (.inl (0, 15, 0, 0)), (.inl (0, 19, 0, 0)), (.inl (0, 19, 0, 0)), (.inl (8, 8, 0, 0)), (.inr (.inr (.inr 0)))], [(.inl (0, 2, 0, 0))])]
def cs_spB : List zCt := [ct_121, ct_122, ct_126]
theorem gs_spB {xs : List Int32} : ∀ ct ∈ cs_spB, zGd xs ct := List.forall_mem_cons.mpr ⟨g_121, List.forall_mem_cons.mpr ⟨g_122, List.forall_mem_cons.mpr ⟨g_126, fun _ h => absurd h List.not_mem_nil⟩⟩⟩
section ZHI2
variable {xs : List Int32} {g : zG} {lg : Nat} {h : zH} {D nc ns : Nat}
def ct_147 : zCt := (147, [(.inr (.inr (.inl (44, 44)))), zIA, zIA], some zIA, 16, 80, 4000)
theorem q_147 : zGq xs ct_147 := by
  intro g lg h nc ns as hI hS
  obtain ⟨v, w1, w2, rfl, k, k1, k2⟩ := zin3 hS
  obtain rfl := zP_eq k
  obtain ⟨x1, rfl, -⟩ := zI_eq k1
  obtain ⟨x2, rfl, -⟩ := zI_eq k2
  refine ⟨_, rfl, zregR (cert := ce_spA) (cs := cs_spA) (rt := some zIA) 0 30 gs_spA rfl rfl (by decide +kernel) hI (zgl_in (n := 5) hS) trivial (fun v h' lg' nc' ns' b1 b2 b3 b4 b5 b6 => ?_) (fun L st lg1 h1 nc1 ns1 b1 b2 b3 b4 b5 b6 b7 => ?_)⟩
  · have b5 : nc' + 2 * lg ≤ nc + 2 * lg' + 0 := b5
    have b6 : ns' + 100 * lg ≤ ns + 100 * lg' + 0 := b6
    exact zPq_ret b1 b2 b3 rfl rfl (by omega) (by omega)
  · have hz := b1.sizes
    have b6 : nc1 + 2 * lg + 0 ≤ nc + 2 * lg1 + 0 := b6
    have b7 : ns1 + 100 * lg + 0 ≤ ns + 100 * lg1 + 0 := b7
    obtain rfl := zgs_0 b3
    obtain ⟨L1, rfl, y1⟩ := zgl_P b2
    obtain ⟨bk, L2, rfl, k0, k1, y2⟩ := zgl_I y1
    obtain ⟨rw, L3, rfl, r0, r1, y3⟩ := zgl_I y2
    obtain ⟨o3, L4, rfl, y4⟩ := zgl_N y3
    obtain ⟨o4, L5, rfl, y5⟩ := zgl_N y4
    obtain ⟨o5, L6, rfl, y6⟩ := zgl_N y5
    obtain ⟨o6, L7, rfl, y7⟩ := zgl_N y6
    obtain ⟨o7, L8, rfl, y8⟩ := zgl_N y7
    obtain rfl := zgl_0 y8
    obtain ⟨vs, m1, m2, m3, m4⟩ := b1.obj
    have f20 := zfld m3 (k := 20) (by decide) rfl
    have f19 := zfld m3 (k := 19) (by decide) rfl
    obtain ⟨l, p1, p2, p3⟩ := b1.rows 70 100 2 0 2 rfl
    obtain ⟨s0, v1, v2⟩ := zald_eq (nx := 36) (L := [some (.ref 44), some (.int bk), some (.int rw), o3, o4, o5, o6, o7]) (r := []) (j := bk) p1 k0 (by omega)
    have s1 := p3 s0 (List.mem_of_getElem? v1)
    refine zEs_run 1 rfl ?_
    refine zEs_get rfl m1 rfl f20 ?_
    refine zEs_run 1 rfl ?_
    refine zEs_step (dc := 0) (ds := 0) rfl (show zald 100 36 _ (.int bk :: .ref 70 :: []) h1 = _ from v2) ?_
    refine zEs_run 1 rfl ?_
    refine zEs_icmp rfl (fun gg => ?_) (fun _ => ?_)
    · have z := zF_ne_t gg
      rw [show (Int32.ofInt 2).toInt = 2 from by decide] at z
      have t8 : ((Int8.ofInt 8).toInt32).toInt = 8 := by decide
      have t10 : ((Int8.ofInt 10).toInt32).toInt = 10 := by decide
      have e1 := Int32.toInt_mul bk (Int8.ofInt 8).toInt32
      rw [t8, zbm (by omega) (by omega)] at e1
      have e2 := Int32.toInt_add (bk * (Int8.ofInt 8).toInt32) rw
      rw [e1, zbm (by omega) (by omega)] at e2
      have e3 := Int32.toInt_mul bk (Int8.ofInt 10).toInt32
      rw [t10, zbm (by omega) (by omega)] at e3
      have e4 := Int32.toInt_add (bk * (Int8.ofInt 10).toInt32) (Int8.ofInt 8).toInt32
      rw [e3, t8, zbm (by omega) (by omega)] at e4
      have e5 := Int32.toInt_add (bk * (Int8.ofInt 10).toInt32 + (Int8.ofInt 8).toInt32) s0
      rw [e4, zbm (by omega) (by omega)] at e5
      have e6 := zinc_le (x := s0) (n := 1) (by omega) (by decide) (by decide)
      refine zEs_run 7 rfl ?_
      refine zEs_get rfl m1 rfl f19 ?_
      refine zEs_run 1 rfl ?_
      obtain ⟨l9, q1, q2, q3⟩ := b1.rows 69 100 16 0 19 rfl
      obtain ⟨ol, u1, u2⟩ := zald_eq (nx := 59) (L := [some (.ref 44), some (.int bk), some (.int rw), some (.int (bk * (Int8.ofInt 8).toInt32 + rw)), o4, o5, o6, o7]) (r := []) (j := bk * (Int8.ofInt 8).toInt32 + rw) q1 (by omega) (by omega)
      have ol1 := q3 ol (List.mem_of_getElem? u1)
      refine zEs_step (dc := 0) (ds := 0) rfl (show zald 100 59 _ (.int (bk * (Int8.ofInt 8).toInt32 + rw) :: .ref 69 :: []) h1 = _ from u2) ?_
      refine zEs_run 7 rfl ?_
      refine zEs_get rfl m1 rfl f20 ?_
      refine zEs_run 1 rfl ?_
      obtain ⟨s0', v1', v2'⟩ := zald_eq (nx := 74) (L := [some (.ref 44), some (.int bk), some (.int rw), some (.int (bk * (Int8.ofInt 8).toInt32 + rw)), some (.int ol), o5, o6, o7]) (r := [.int (bk * (Int8.ofInt 10).toInt32 + (Int8.ofInt 8).toInt32)]) (j := bk) p1 k0 (by omega)
      obtain rfl : s0 = s0' := Option.some.inj (v1.symm.trans v1')
      refine zEs_step (dc := 0) (ds := 0) rfl (show zald 100 74 _ (.int bk :: .ref 70 :: [.int (bk * (Int8.ofInt 10).toInt32 + (Int8.ofInt 8).toInt32)]) h1 = _ from v2') ?_
      refine zEs_run 3 rfl ?_
      refine zEs_get rfl m1 rfl f20 ?_
      refine zEs_run 2 rfl ?_
      obtain ⟨s2, v3, v4⟩ := zald_eq (nx := 84) (L := [some (.ref 44), some (.int bk), some (.int rw), some (.int (bk * (Int8.ofInt 8).toInt32 + rw)), some (.int ol), some (.int (bk * (Int8.ofInt 10).toInt32 + (Int8.ofInt 8).toInt32 + s0)), o6, o7]) (r := [.int bk, .ref 70]) (j := bk) p1 k0 (by omega)
      obtain rfl : s0 = s2 := Option.some.inj (v1.symm.trans v3)
      refine zEs_step (dc := 0) (ds := 0) rfl (show zald 100 84 _ (.int bk :: .ref 70 :: [.int bk, .ref 70]) h1 = _ from v4) ?_
      refine zEs_run 2 rfl ?_
      have w1 := zast_eq (f := some) (nx := 87) (L := [some (.ref 44), some (.int bk), some (.int rw), some (.int (bk * (Int8.ofInt 8).toInt32 + rw)), some (.int ol), some (.int (bk * (Int8.ofInt 10).toInt32 + (Int8.ofInt 8).toInt32 + s0)), o6, o7]) (r := []) (j := bk) (v := s0 + Int32.ofInt 1) p1 k0 (by omega) rfl
      refine zEs_step (dc := 0) (ds := 0) rfl (show zast 100 some 87 _ (.int (s0 + Int32.ofInt 1) :: .int bk :: .ref 70 :: []) h1 = _ from w1) ?_
      obtain ⟨I2, le2⟩ := zHI_row (l' := l.set bk.toInt.toNat (s0 + Int32.ofInt 1)) b1 (q := 70) rfl (by simpa using p2) (fun x hx => by
        rcases List.mem_or_eq_of_mem_set hx with hx | rfl
        · exact p3 x hx
        · omega)
      obtain ⟨vs2, n1, n2, n3, n4⟩ := I2.obj
      refine zEs_run 1 rfl ?_
      refine zEs_get rfl n1 rfl (zfld n3 (k := 19) (by decide) rfl) ?_
      refine zEs_run 2 rfl ?_
      obtain ⟨l8, c1, c2, c3⟩ := I2.rows 69 100 16 0 19 rfl
      have w2 := zast_eq (f := some) (nx := 95) (L := [some (.ref 44), some (.int bk), some (.int rw), some (.int (bk * (Int8.ofInt 8).toInt32 + rw)), some (.int ol), some (.int (bk * (Int8.ofInt 10).toInt32 + (Int8.ofInt 8).toInt32 + s0)), o6, o7]) (r := []) (j := bk * (Int8.ofInt 8).toInt32 + rw) (v := bk * (Int8.ofInt 10).toInt32 + (Int8.ofInt 8).toInt32 + s0) c1 (by omega) (by omega) rfl
      refine zEs_step (dc := 0) (ds := 0) rfl (show zast 100 some 95 _ (.int (bk * (Int8.ofInt 10).toInt32 + (Int8.ofInt 8).toInt32 + s0) :: .int (bk * (Int8.ofInt 8).toInt32 + rw) :: .ref 69 :: []) _ = _ from w2) ?_
      obtain ⟨I3, le3⟩ := zHI_row (l' := l8.set (bk * (Int8.ofInt 8).toInt32 + rw).toInt.toNat (bk * (Int8.ofInt 10).toInt32 + (Int8.ofInt 8).toInt32 + s0)) I2 (q := 69) rfl (by simpa using c2) (fun x hx => by
        rcases List.mem_or_eq_of_mem_set hx with hx | rfl
        · exact c3 x hx
        · omega)
      refine zregE (cert := ce_spB) (cs := cs_spB) (rt := some zIA) 95 gs_spB rfl (by decide +kernel) I3 ⟨Or.inr ⟨_, rfl, zP_in⟩, Or.inr ⟨_, rfl, zI_in k0 k1⟩, Or.inr ⟨_, rfl, zI_in r0 r1⟩, Or.inr ⟨_, rfl, zI_in (by omega) (by omega)⟩, Or.inr ⟨_, rfl, zI_in ol1.1 ol1.2⟩, Or.inr ⟨_, rfl, zI_in (by omega) (by omega)⟩, Or.inl rfl, Or.inl rfl, trivial⟩ trivial (fun v h' lg' nc' ns' c1 c2 c3 c4 c5 c6 => ?_)
      have l9 := zLE_tr b4 (zLE_tr le2 (zLE_tr le3 c3))
      have c5 : nc' + 2 * lg1 ≤ nc1 + 2 * lg' + 0 := c5
      have c6 : ns' + 100 * lg1 ≤ ns1 + 100 * lg' + 0 := c6
      exact zPq_ret c1 c2 l9 rfl rfl (by omega) (by omega)
    · obtain ⟨ws, hw⟩ := zth b1
      refine zEs_run 2 rfl ?_
      refine zEs_ctr g_111 rfl (show zcallV 1 7 111 45 [.int (Int32.ofInt 2), .ref 44] h1 = _ from zcallV_eq rfl hw (by decide)) (by decide) b1 ⟨zP_in, zIA_ok _, trivial⟩ (fun v h2 lg2 nc2 ns2 q I2 le2 l2 c2 s2 => ?_)
      obtain ⟨u, rfl, q⟩ := q
      obtain ⟨x, rfl, -⟩ := zI_eq q
      have d1 : ct_111.dc = 0 := rfl
      have d2 : ct_111.ds = 0 := rfl
      exact zEs_end rfl rfl (zPq_ret (rt := some zIA) (g0 := g) ⟨_, rfl, zIA_ok x⟩ I2 (zLE_tr b4 le2) rfl rfl (by omega) (by omega))
end ZHI2
end zg9
section zg10
/-! The reference's columns, made by a method without an object. -/
section ZHJ
variable {xs : List Int32} {h : zH} {D nc ns y pc nx k yy m c : Nat} {L : zL} {r st : List Value} {P : zO → Prop}
theorem m_114 {x : Int32} : zMs xs (D + 0) 114 [.int x] h nc ns (fun o => ∃ v : Int32, o = (.inl (some (.int v)), h, nc, ns)) :=
  ⟨_, rfl, zEs_run 4 rfl (l_114 _ _ _ _ (Nat.lt_succ_self _))⟩
theorem zEs_newi {n : Int32} (h1 : zat (zmc y) pc = some (.newarray .int, nx, k, yy, m, c)) (hn : 0 ≤ n.toInt) (hN : n.toInt ≤ 1000) (g : zEs xs D y nx L (.ref h.length :: r) (h ++ [zar (List.replicate n.toInt.toNat 0)]) (nc + 1) (ns + n.toInt.toNat) P) : zEs xs D y pc L (.int n :: r) h nc ns P := by
  refine zEs_step (dc := 1) (ds := n.toInt.toNat) h1 ?_ g
  show znewa 100 (.int 0) nx L (.int n :: r) h = _
  unfold znewa
  dsimp only
  rw [if_neg (fun z => by
    have z := zlt_z z
    rw [zero_z] at z
    omega), if_pos (show n.toNatClampNeg ≤ 100000 from (show n.toInt.toNat ≤ 100000 by omega)), if_neg (by decide), show n.toNatClampNeg = n.toInt.toNat from rfl]
  unfold zar
  rw [List.map_replicate]
variable {K R : Int32} {N : Nat}
theorem l_116a {w : Int32} (hN : (N : Int) = K.toInt + R.toInt) (hR : 0 ≤ R.toInt) : ∀ (n : Nat) (i mm : Int32) (l : List Int32), l.length = N → 0 ≤ mm.toInt → mm.toInt ≤ K.toInt → (((Int32.ofInt 1) <<< (R &&& 31)).toInt - i.toInt).toNat < n → (∀ (l' : List Int32) (m' i' : Int32), l'.length = N → 0 ≤ m'.toInt → m'.toInt ≤ K.toInt → zEs xs 2 116 57 [some (.int K), some (.int R), some (.ref h.length), some (.int m'), some (.int w), some (.int i')] [] (h ++ [zar l']) nc ns P) → zEs xs 2 116 20 [some (.int K), some (.int R), some (.ref h.length), some (.int mm), some (.int w), some (.int i)] [] (h ++ [zar l]) nc ns P
  | 0, _, _, _, _, _, _, hn, _ => absurd hn (Nat.not_lt_zero _)
  | n + 1, i, mm, l, hl, m0, m1, hn, Z => by
    refine zEs_run 4 rfl ?_
    refine zEs_icmp rfl (fun _ => Z l mm i hl m0 m1) (fun gg => ?_)
    have z := zF_ge_f gg
    have z : i.toInt < ((Int32.ofInt 1) <<< (R &&& 31)).toInt := z
    have hb := Int32.toInt_lt ((Int32.ofInt 1) <<< (R &&& 31))
    have hi := zinc_z (x := i) (y := (Int32.ofInt 1) <<< (R &&& 31)) (Int32.lt_iff_toInt_lt.mpr z)
    refine zEs_run 2 rfl ?_
    refine zEs_icmp rfl (fun _ => Z l mm i hl m0 m1) (fun gg => ?_)
    have z2 := zF_ge_f gg
    have e := zinc_z (x := mm) (y := K) (Int32.lt_iff_toInt_lt.mpr z2)
    refine zEs_run 1 rfl ?_
    refine zEs_callG rfl rfl (m_114 (D := 1)) (fun v h9 nc9 ns9 q => ?_) (fun E h9 nc9 ns9 q => by obtain ⟨_, q⟩ := q; cases q)
    obtain ⟨v9, q⟩ := q
    cases q
    refine zEs_run 1 rfl ?_
    refine zEs_icmp rfl (fun _ => ?_) (fun _ => ?_)
    · refine zEs_run 2 rfl ?_
      exact l_116a hN hR n _ mm l hl m0 m1 (by omega) Z
    · refine zEs_run 4 rfl ?_
      refine zEs_astL (N := N) rfl hl (fun z => by
        have z := zlt_z z
        rw [zero_z] at z
        omega) (by show mm.toInt.toNat < N; omega) (fun l' hl' => ?_)
      refine zEs_run 2 rfl ?_
      exact l_116a hN hR n _ _ l' hl' (by omega) (by omega) (by omega) Z
theorem l_116b (hN : (N : Int) = K.toInt + R.toInt) (hR : 0 ≤ R.toInt) (hR2 : R.toInt ≤ 6) : ∀ (n : Nat) (w mm : Int32) (o : Option Value) (l : List Int32), l.length = N → 0 ≤ mm.toInt → mm.toInt ≤ K.toInt → 0 ≤ w.toInt → w.toInt ≤ 10 → (R.toInt + 1 - w.toInt).toNat < n → (∀ (l' : List Int32) (m' w' : Int32) (o : Option Value), l'.length = N → zEs xs 2 116 63 [some (.int K), some (.int R), some (.ref h.length), some (.int m'), some (.int w'), o] [] (h ++ [zar l']) nc ns P) → zEs xs 2 116 11 [some (.int K), some (.int R), some (.ref h.length), some (.int mm), some (.int w), o] [] (h ++ [zar l]) nc ns P
  | 0, _, _, _, _, _, _, _, _, _, hn, _ => absurd hn (Nat.not_lt_zero _)
  | n + 1, w, mm, o, l, hl, m0, m1, w0, w1, hn, Z => by
    refine zEs_run 2 rfl ?_
    refine zEs_icmp rfl (fun _ => Z l mm w o hl) (fun gg => ?_)
    have z := zF_gt_f gg
    refine zEs_run 2 rfl ?_
    refine l_116a hN hR _ _ mm l hl m0 m1 (Nat.lt_succ_self _) (fun l' m' i' hl' m0' m1' => ?_)
    have e := zinc_le (x := w) (n := 2) (by omega) (by decide) (by decide)
    refine zEs_run 2 rfl ?_
    exact l_116b hN hR hR2 n _ m' _ l' hl' m0' m1' (by omega) (by omega) (by omega) Z
theorem l_116c {mm : Int32} {o : Option Value} (hN : (N : Int) = K.toInt + R.toInt) (hK : 0 ≤ K.toInt) (hK2 : K.toInt ≤ 10) (hR : 0 ≤ R.toInt) (hR2 : R.toInt ≤ 6) (Z : ∀ l' : List Int32, l'.length = N → P (.inl (some (.ref h.length)), h ++ [zar l'], nc, ns)) : ∀ (n : Nat) (i : Int32) (l : List Int32), l.length = N → 0 ≤ i.toInt → (R.toInt - i.toInt).toNat < n → zEs xs 2 116 66 [some (.int K), some (.int R), some (.ref h.length), some (.int mm), some (.int i), o] [] (h ++ [zar l]) nc ns P
  | 0, _, _, _, _, hn => absurd hn (Nat.not_lt_zero _)
  | n + 1, i, l, hl, i0, hn => by
    refine zEs_run 2 rfl ?_
    refine zEs_icmp rfl (fun _ => ?_) (fun gg => ?_)
    · refine zEs_run 1 rfl ?_
      exact zEs_end rfl rfl (Z l hl)
    · have z := zF_ge_f gg
      have e := Int32.toInt_add K i
      rw [zbm (by omega) (by omega)] at e
      have hi := zinc_le (x := i) (n := 1) (by omega) (by decide) (by decide)
      refine zEs_run 7 rfl ?_
      refine zEs_astL (N := N) rfl hl (fun z => by
        have z := zlt_z z
        have z : (K + i).toInt < _ := z
        rw [zero_z] at z
        omega) (by show (K + i).toInt.toNat < N; omega) (fun l' hl' => ?_)
      refine zEs_run 2 rfl ?_
      exact l_116c hN hK hK2 hR hR2 Z n _ l' hl' (by omega) (by omega)
theorem m_116 (hK : 0 ≤ K.toInt) (hK2 : K.toInt ≤ 10) (hR : 0 ≤ R.toInt) (hR2 : R.toInt ≤ 6) : zMs xs 2 116 [.int K, .int R] h nc ns (fun o => ∃ l : List Int32, (l.length : Int) = K.toInt + R.toInt ∧ o = (.inl (some (.ref h.length)), h ++ [zar l], nc + 1, ns + (K.toInt + R.toInt).toNat)) := by
  have e := Int32.toInt_add K R
  rw [zbm (by omega) (by omega)] at e
  refine ⟨_, rfl, zEs_run 3 rfl ?_⟩
  refine zEs_newi rfl (show 0 ≤ (K + R).toInt by omega) (show (K + R).toInt ≤ 1000 by omega) ?_
  have hN : (((K + R).toInt.toNat : Nat) : Int) = K.toInt + R.toInt := by omega
  refine zEs_run 5 rfl ?_
  refine l_116b (N := (K + R).toInt.toNat) hN hR hR2 _ _ _ _ _ (by simp) (by decide) (show (0 : Int) ≤ K.toInt from hK) (by decide) (by decide) (Nat.lt_succ_self _) (fun l' m' w' o hl' => ?_)
  refine zEs_run 2 rfl ?_
  refine l_116c hN hK hK2 hR hR2 (fun l2 hl2 => ?_) _ _ l' hl' (by decide) (Nat.lt_succ_self _)
  exact ⟨l2, by rw [hl2]; exact hN, by
    rw [← e]
    rfl⟩
end ZHJ
end zg10
section zg11
/-! What the reference asks of numbers. -/
section ZRX
variable {xs : List Int32} {h : zH} {nc ns : Nat}
theorem m_112x {D : Nat} {a b c : Int32} : zMs xs D 112 [.int a, .int b, .int c] h nc ns (fun o => ∃ w : Int32, o = (.inl (some (.int w)), h, nc, ns) ∧ (w = 1 ∧ (b.toInt ≤ a.toInt ∧ a.toInt ≤ c.toInt) ∨ w = 0 ∧ ¬ (b.toInt ≤ a.toInt ∧ a.toInt ≤ c.toInt))) := by
  refine ⟨_, rfl, zEs_run 2 rfl ?_⟩
  refine zEs_icmp rfl (fun q1 => ?_) (fun q1 => ?_)
  · have z := zF_lt_t q1
    exact zEs_run 1 rfl (zEs_end rfl rfl ⟨_, rfl, Or.inr ⟨by decide, fun k => by omega⟩⟩)
  · have z := zF_lt_f q1
    refine zEs_run 2 rfl ?_
    refine zEs_icmp rfl (fun q2 => ?_) (fun q2 => ?_)
    · have z2 := zF_gt_t q2
      exact zEs_run 1 rfl (zEs_end rfl rfl ⟨_, rfl, Or.inr ⟨by decide, fun k => by omega⟩⟩)
    · have z2 := zF_gt_f q2
      exact zEs_run 2 rfl (zEs_end rfl rfl ⟨_, rfl, Or.inl ⟨by decide, z, z2⟩⟩)
theorem m_111 {D : Nat} {x : Int32} {vs : List Value} (m1 : h[44]? = some (7, vs)) (m2 : vs.length = 26) : zMs xs D 111 [.ref 44, .int x] h nc ns (fun o => o = (.inl (some (.int (Int32.ofInt 0))), h.set 44 (7, vs.set 0 (.int x)), nc, ns)) := by
  refine ⟨_, rfl, zEs_run 2 rfl ?_⟩
  refine zEs_put rfl m1 rfl rfl (by omega) ?_
  exact zEs_run 1 rfl (zEs_end rfl rfl rfl)
end ZRX
end zg11
section zg12
/-! How many data columns there are, word for word. -/
section ZCD
variable {xs : List Int32} {g : zG} {lg : Nat} {h : zH} {D nc ns : Nat}
def zush (x y : Int32) : Int32 := (x.toUInt32 >>> (y.toUInt32 &&& Int32.toUInt32 31)).toInt32
/-- the JDK's bitCount -/
def zbca (x : Int32) : Int32 := x - (zush x (Int32.ofInt 1) &&& Int32.ofNat 1431655765)
def zbcb (a : Int32) : Int32 := (a &&& Int32.ofNat 858993459) + (zush a (Int32.ofInt 2) &&& Int32.ofNat 858993459)
def zbcc (b : Int32) : Int32 := (b + zush b (Int32.ofInt 4)) &&& Int32.ofNat 252645135
def zbcd (c : Int32) : Int32 := c + zush c (Int8.ofInt 8).toInt32
def zbce (d : Int32) : Int32 := d + zush d (Int8.ofInt 16).toInt32
def zbc (x : Int32) : Int32 := zbce (zbcd (zbcc (zbcb (zbca x)))) &&& (Int8.ofInt 63).toInt32
theorem t_229 {x : Int32} : zMs xs D 229 [.int x] h nc ns (fun o => o = (.inl (some (.int (zbc x))), h, nc, ns)) := by
  refine ⟨_, rfl, ?_⟩
  refine zEs_run 8 (L' := [some (.int (zbca x))]) rfl ?_
  refine zEs_run 10 (L' := [some (.int (zbcb (zbca x)))]) rfl ?_
  refine zEs_run 8 (L' := [some (.int (zbcc (zbcb (zbca x))))]) rfl ?_
  refine zEs_run 6 (L' := [some (.int (zbcd (zbcc (zbcb (zbca x)))))]) rfl ?_
  refine zEs_run 6 (L' := [some (.int (zbce (zbcd (zbcc (zbcb (zbca x))))))]) rfl ?_
  refine zEs_run 3 (st' := [.int (zbc x)]) rfl ?_
  exact zEs_end rfl rfl rfl
/-- how many bits of a number are 1 -/
def zwt : Nat → Nat → Nat
  | 0, _ => 0
  | f + 1, n => n % 2 + zwt f (n / 2)
theorem zbc_wt : ∀ n, n < 64 → (zbc (Int32.ofNat n)) = Int32.ofNat (zwt 6 n) := by
  have e : (List.range 64).all (fun n => decide (zbc (Int32.ofNat n) = Int32.ofNat (zwt 6 n))) = true := by decide +kernel
  exact fun n hn => of_decide_eq_true (List.all_eq_true.mp e n (List.mem_range.mpr hn))
/-- whether a number is the column of a data bit -/
def zdc (n : Nat) : Bool := decide (3 ≤ zwt 6 n) && decide (zwt 6 n % 2 = 1)
theorem t_1 {n : Nat} (hn : n < 64) : zMs xs (D + 1) 1 [.int (Int32.ofNat n)] h nc ns (fun o => o = (.inl (some (.int (if zdc n then 1 else 0))), h, nc, ns)) := by
  refine ⟨_, rfl, zEs_run 1 rfl ?_⟩
  refine zEs_callG rfl rfl (t_229 (x := Int32.ofNat n)) (fun v h9 nc1 ns1 q => ?_) (fun E h9 nc1 ns1 q => by cases q)
  cases q
  rw [zbc_wt n hn]
  have hw : ∀ n, n < 64 → zwt 6 n < 7 := by
    have e : (List.range 64).all (fun n => decide (zwt 6 n < 7)) = true := by decide +kernel
    exact fun n hn => of_decide_eq_true (List.all_eq_true.mp e n (List.mem_range.mpr hn))
  have hw := hw n hn
  have e : zdc n = (decide (3 ≤ zwt 6 n) && decide (zwt 6 n % 2 = 1)) := rfl
  generalize zwt 6 n = w at *
  have hc : w = 0 ∨ w = 1 ∨ w = 2 ∨ w = 3 ∨ w = 4 ∨ w = 5 ∨ w = 6 := by omega
  rw [e]
  rcases hc with rfl | rfl | rfl | rfl | rfl | rfl | rfl
  · exact zEs_run 5 rfl (zEs_end rfl rfl rfl)
  · exact zEs_run 5 rfl (zEs_end rfl rfl rfl)
  · exact zEs_run 5 rfl (zEs_end rfl rfl rfl)
  · exact zEs_run 11 rfl (zEs_end rfl rfl rfl)
  · exact zEs_run 10 rfl (zEs_end rfl rfl rfl)
  · exact zEs_run 11 rfl (zEs_end rfl rfl rfl)
  · exact zEs_run 10 rfl (zEs_end rfl rfl rfl)
end ZCD
section ZCE
variable {xs : List Int32} {g : zG} {lg : Nat} {h : zH} {D nc ns : Nat}
/-- how many numbers below n are columns of data bits -/
def zct : Nat → Nat
  | 0 => 0
  | n + 1 => zct n + (if zdc n then 1 else 0)
theorem zof1 (a : Nat) : Int32.ofNat a + Int32.ofInt 1 = Int32.ofNat (a + 1) := by
  rw [Int32.ofNat_add]
  rfl
theorem zofI {a : Nat} (h : a < 2147483648) : (Int32.ofNat a).toInt = (a : Int) := Int32.toInt_ofNat_of_lt h
theorem t_2 {r : Int32} {N : Nat} (hN : N ≤ 64) (hs : Int32.ofInt 1 <<< (r &&& 31) = Int32.ofNat N) : ∀ (m n : Nat), n ≤ N → N - n < m → zEs xs (D + 2) 2 4 [some (.int r), some (.int (Int32.ofNat (zct n))), some (.int (Int32.ofNat n))] [] h nc ns (fun o => o = (.inl (some (.int (Int32.ofNat (zct N)))), h, nc, ns))
  | 0, _, _, hm => absurd hm (Nat.not_lt_zero _)
  | m + 1, n, hn, hm => by
    refine zEs_run 4 (st' := [.int (Int32.ofInt 1 <<< (r &&& 31)), .int (Int32.ofNat n)]) rfl ?_
    rw [hs]
    refine zEs_icmp rfl (fun q => ?_) (fun q => ?_)
    · have z := zF_ge_t q
      rw [zofI (by omega), zofI (by omega)] at z
      obtain rfl : n = N := by omega
      exact zEs_run 1 rfl (zEs_end rfl rfl rfl)
    · have z := zF_ge_f q
      rw [zofI (by omega), zofI (by omega)] at z
      refine zEs_run 1 rfl ?_
      refine zEs_callG rfl rfl (t_1 (D := D) (n := n) (by omega)) (fun v h9 nc1 ns1 q => ?_) (fun E h9 nc1 ns1 q => by cases q)
      cases q
      have e := zof1 n
      have K := t_2 hN hs m (n + 1) (by omega) (by omega)
      rw [← zof1] at K
      show zEs xs (D + 2) 2 15 [some (.int r), some (.int (Int32.ofNat (zct n))), some (.int (Int32.ofNat n))] [.int (if zdc n = true then 1 else 0)] _ _ _ _
      have ez : zct (n + 1) = zct n + (if zdc n then 1 else 0) := rfl
      cases hz : zdc n with
      | true =>
        rw [hz] at ez
        rw [ez] at K
        refine zEs_if rfl (fun q9 => ?_) (fun _ => ?_)
        · exact absurd (zF_eq_t q9) (by decide)
        · refine zEs_run 3 rfl ?_
          rw [show Int32.ofNat (zct n) + Int32.ofInt 1 = Int32.ofNat (zct n + 1) from zof1 _]
          exact K
      | false =>
        rw [hz] at ez
        rw [ez] at K
        refine zEs_if rfl (fun _ => ?_) (fun q9 => ?_)
        · exact zEs_run 2 rfl K
        · exact absurd rfl (zF_eq_f q9)
end ZCE
section ZCF
variable {xs : List Int32} {g : zG} {lg : Nat} {h : zH} {D nc ns : Nat}
theorem zwt_0 : ∀ f, zwt f 0 = 0
  | 0 => rfl
  | f + 1 => by
    show 0 % 2 + zwt f (0 / 2) = 0
    rw [Nat.zero_div, zwt_0 f]
theorem zhalf : ∀ n, n < 64 → Int32.ofNat n / Int32.ofInt 2 = Int32.ofNat (n / 2) ∧ Int32.ofNat n - Int32.ofNat n / Int32.ofInt 2 * Int32.ofInt 2 = Int32.ofNat (n % 2) := by
  have e : (List.range 64).all (fun n => decide (Int32.ofNat n / Int32.ofInt 2 = Int32.ofNat (n / 2) ∧ Int32.ofNat n - Int32.ofNat n / Int32.ofInt 2 * Int32.ofInt 2 = Int32.ofNat (n % 2))) = true := by decide +kernel
  exact fun n hn => of_decide_eq_true (List.all_eq_true.mp e n (List.mem_range.mpr hn))
theorem lt_114 {s : Int32} : ∀ (f n m : Nat), n < 64 → n < 2 ^ f → zEs xs D 114 4 [some (.int s), some (.int (Int32.ofNat m)), some (.int (Int32.ofNat n))] [] h nc ns (fun o => o = (.inl (some (.int (Int32.ofNat (m + zwt f n)))), h, nc, ns)) := by
  intro f
  induction f with
  | zero =>
    intro n m h1 h2
    obtain rfl : n = 0 := by simp at h2; exact h2
    refine zEs_run 1 rfl ?_
    refine zEs_if rfl (fun _ => ?_) (fun q => ?_)
    · exact zEs_run 1 rfl (zEs_end rfl rfl rfl)
    · exact absurd (zF_le_f q) (by decide)
  | succ f ih =>
    intro n m h1 h2
    refine zEs_run 1 rfl ?_
    refine zEs_if rfl (fun q => ?_) (fun q => ?_)
    · have z := zF_le_t q
      rw [zofI (by omega)] at z
      have z0 : (0 : Int32).toInt = 0 := by decide
      obtain rfl : n = 0 := by omega
      rw [zwt_0]
      exact zEs_run 1 rfl (zEs_end rfl rfl rfl)
    · obtain ⟨e1, e2⟩ := zhalf n h1
      have K := ih (n / 2) (m + n % 2) (by omega) (by rw [Nat.pow_succ] at h2; omega)
      rw [Nat.add_assoc] at K
      rw [Int32.ofNat_add, ← e2, ← e1] at K
      exact zEs_run 11 rfl K
theorem t_114 {n : Nat} (hn : n < 64) : zMs xs D 114 [.int (Int32.ofNat n)] h nc ns (fun o => o = (.inl (some (.int (Int32.ofNat (zwt 6 n)))), h, nc, ns)) := by
  refine ⟨_, rfl, zEs_run 4 rfl ?_⟩
  have K := lt_114 (xs := xs) (h := h) (D := D) (nc := nc) (ns := ns) (s := Int32.ofNat n) 6 n 0 hn hn
  rw [Nat.zero_add] at K
  exact K
theorem zwt_7 : ∀ n, n < 64 → zwt 6 n < 7 := by
  have e : (List.range 64).all (fun n => decide (zwt 6 n < 7)) = true := by decide +kernel
  exact fun n hn => of_decide_eq_true (List.all_eq_true.mp e n (List.mem_range.mpr hn))
/-- the reference's count -/
theorem t_115 {r : Int32} {N : Nat} (hN : N ≤ 64) (hs : Int32.ofInt 1 <<< (r &&& 31) = Int32.ofNat N) : ∀ (m n : Nat), n ≤ N → N - n < m → zEs xs (D + 1) 115 4 [some (.int r), some (.int (Int32.ofNat (zct n))), some (.int (Int32.ofNat n))] [] h nc ns (fun o => o = (.inl (some (.int (Int32.ofNat (zct N)))), h, nc, ns))
  | 0, _, _, hm => absurd hm (Nat.not_lt_zero _)
  | m + 1, n, hn, hm => by
    refine zEs_run 4 (st' := [.int (Int32.ofInt 1 <<< (r &&& 31)), .int (Int32.ofNat n)]) rfl ?_
    rw [hs]
    refine zEs_icmp rfl (fun q => ?_) (fun q => ?_)
    · have z := zF_ge_t q
      rw [zofI (by omega), zofI (by omega)] at z
      obtain rfl : n = N := by omega
      exact zEs_run 1 rfl (zEs_end rfl rfl rfl)
    · have z := zF_ge_f q
      rw [zofI (by omega), zofI (by omega)] at z
      have K := t_115 hN hs m (n + 1) (by omega) (by omega)
      rw [← zof1] at K
      have hw := zwt_7 n (by omega)
      have ez : zct (n + 1) = zct n + (if zdc n then 1 else 0) := rfl
      have ed : zdc n = (decide (3 ≤ zwt 6 n) && decide (zwt 6 n % 2 = 1)) := rfl
      have J1 : (3 ≤ zwt 6 n ∧ zwt 6 n % 2 = 1) → zEs xs (D + 1) 115 35 [some (.int r), some (.int (Int32.ofNat (zct n))), some (.int (Int32.ofNat n))] [.int (Int32.ofInt 1), .int (Int32.ofNat (zct n))] h nc ns (fun o => o = (.inl (some (.int (Int32.ofNat (zct N)))), h, nc, ns)) := by
        intro k
        rw [show zdc n = true by rw [ed, decide_eq_true k.1, decide_eq_true k.2]; rfl, if_pos rfl] at ez
        rw [ez, ← zof1] at K
        exact zEs_run 4 rfl K
      have J0 : ¬ (3 ≤ zwt 6 n ∧ zwt 6 n % 2 = 1) → zEs xs (D + 1) 115 34 [some (.int r), some (.int (Int32.ofNat (zct n))), some (.int (Int32.ofNat n))] [.int (Int32.ofNat (zct n))] h nc ns (fun o => o = (.inl (some (.int (Int32.ofNat (zct N)))), h, nc, ns)) := by
        intro k
        rw [show zdc n = false by
          rw [ed]
          cases hb : (decide (3 ≤ zwt 6 n) && decide (zwt 6 n % 2 = 1)) with
          | false => rfl
          | true =>
            rw [Bool.and_eq_true, decide_eq_true_eq, decide_eq_true_eq] at hb
            exact absurd hb k] at ez
        rw [ez] at K
        have e0 : Int32.ofNat (zct n) = Int32.ofNat (zct n) + Int32.ofInt 0 := (Int32.add_zero _).symm
        rw [show zct n + (if (false : Bool) = true then 1 else 0) = zct n from rfl, e0] at K
        exact zEs_run 5 rfl K
      refine zEs_run 2 rfl ?_
      refine zEs_callG rfl rfl (t_114 (D := D) (n := n) (by omega)) (fun v h9 nc1 ns1 q => ?_) (fun E h9 nc1 ns1 q => by cases q)
      cases q
      have z1 := (zhalf (zwt 6 n) (by omega)).2
      refine zEs_run 3 (st' := [.int (Int32.ofInt 1), .int (Int32.ofNat (zwt 6 n) - Int32.ofNat (zwt 6 n) / Int32.ofInt 2 * Int32.ofInt 2), .int (Int32.ofNat (zct n))]) rfl ?_
      rw [z1]
      have i1 : (Int32.ofInt 1).toInt = 1 := by decide
      have i3 : (Int32.ofInt 3).toInt = 3 := by decide
      refine zEs_icmp rfl (fun q9 => ?_) (fun q9 => ?_)
      · have z := zF_ne_t q9
        rw [zofI (by omega), i1] at z
        exact J0 (by omega)
      · have z := zF_ne_f q9
        rw [zofI (by omega), i1] at z
        refine zEs_run 1 rfl ?_
        refine zEs_callG rfl rfl (t_114 (D := D) (n := n) (by omega)) (fun v h9 nc1 ns1 q => ?_) (fun E h9 nc1 ns1 q => by cases q)
        cases q
        refine zEs_run 1 rfl ?_
        refine zEs_icmp rfl (fun q8 => ?_) (fun q8 => ?_)
        · have z8 := zF_lt_t q8
          rw [zofI (by omega), i3] at z8
          exact J0 (by omega)
        · have z8 := zF_lt_f q8
          rw [zofI (by omega), i3] at z8
          exact zEs_run 2 rfl (J1 (by omega))
/-- how many columns there are for r check bits -/
def zdm (r : Int32) : Int32 := if r = 4 then 4 else if r = 5 then 11 else 26
theorem zdm_ok {r : Int32} (h4 : 4 ≤ r.toInt) (h6 : r.toInt ≤ 6) : ∃ N : Nat, N ≤ 64 ∧ 1 ≤ N ∧ Int32.ofInt 1 <<< (r &&& 31) = Int32.ofNat N ∧ Int32.ofNat (zct N) = zdm r := by
  have e4 : (4 : Int32).toInt = 4 := by decide
  have e5 : (5 : Int32).toInt = 5 := by decide
  have e6 : (6 : Int32).toInt = 6 := by decide
  rcases (show r.toInt = 4 ∨ r.toInt = 5 ∨ r.toInt = 6 by omega) with k | k | k
  · obtain rfl : r = 4 := Int32.toInt_inj.mp (by omega)
    exact ⟨16, by decide, by decide, by decide, by decide +kernel⟩
  · obtain rfl : r = 5 := Int32.toInt_inj.mp (by omega)
    exact ⟨32, by decide, by decide, by decide, by decide +kernel⟩
  · obtain rfl : r = 6 := Int32.toInt_inj.mp (by omega)
    exact ⟨64, by decide, by decide, by decide, by decide +kernel⟩
theorem x_2 {r : Int32} (h4 : 4 ≤ r.toInt) (h6 : r.toInt ≤ 6) : zMs xs (D + 2) 2 [.int r] h nc ns (fun o => o = (.inl (some (.int (zdm r))), h, nc, ns)) := by
  obtain ⟨N, n1, n2, n3, n4⟩ := zdm_ok h4 h6
  refine ⟨_, rfl, zEs_run 4 rfl ?_⟩
  rw [← n4]
  exact t_2 n1 n3 65 1 n2 (by omega)
theorem x_115 {r : Int32} (h4 : 4 ≤ r.toInt) (h6 : r.toInt ≤ 6) : zMs xs (D + 1) 115 [.int r] h nc ns (fun o => o = (.inl (some (.int (zdm r))), h, nc, ns)) := by
  obtain ⟨N, n1, n2, n3, n4⟩ := zdm_ok h4 h6
  refine ⟨_, rfl, zEs_run 4 rfl ?_⟩
  rw [← n4]
  exact t_115 n1 n3 65 1 n2 (by omega)
end ZCF
end zg12
section zg13
/-! Partial runs: whatever a run of at most N steps comes to, satisfies P. No ends and no bounds are told here: those come from zMs. -/
def zpE (xs : List Int32) (N y pc : Nat) (L : zL) (st : List Value) (h : zH) (nc ns : Nat) (P : zO → Prop) : Prop := ∀ n, n ≤ N → ∀ (d : Nat) (o : zO), zev xs n d y pc L st h nc ns = some o → P o
/-- a whole call -/
def zpM (xs : List Int32) (N y : Nat) (as : List Value) (h : zH) (nc ns : Nat) (P : zO → Prop) : Prop := ∀ L0, zen (zmL y) as = some L0 → zpE xs N y 0 L0 [] h nc ns P
section ZPE
variable {xs : List Int32} {N D y pc nx k yy m c tg : Nat} {i : Instr} {L : zL} {st : List Value} {h : zH} {nc ns : Nat} {P P' : zO → Prop}
theorem zMs_and {as : List Value} (g : zMs xs D y as h nc ns P) (k : ∀ N, zpM xs N y as h nc ns P') : zMs xs D y as h nc ns (fun o => P o ∧ P' o) := by
  obtain ⟨L0, e, o, N, p, q⟩ := g
  exact ⟨L0, e, o, N, ⟨p, k N L0 e N (Nat.le_refl _) D o (q D N (Nat.le_refl _) (Nat.le_refl _))⟩, q⟩
theorem zpE_post (g : zpE xs N y pc L st h nc ns P) (w : ∀ o, P o → P' o) : zpE xs N y pc L st h nc ns P' := fun n hn d o e => w o (g n hn d o e)
theorem zpM_post {as : List Value} (w : ∀ o, P o → P' o) (g : zpM xs N y as h nc ns P) : zpM xs N y as h nc ns P' := fun L0 e => zpE_post (g L0 e) w
theorem zpE_0 : zpE xs 0 y pc L st h nc ns P := fun n hn d o e => by
  obtain rfl : n = 0 := by omega
  cases e
theorem zpE_le {N' : Nat} (hN : N' ≤ N) (g : zpE xs N y pc L st h nc ns P) : zpE xs N' y pc L st h nc ns P := fun n hn => g n (by omega)
/-- a step, whatever it is: 1 of the bound goes -/
theorem zpE_st1 (h1 : zat (zmc y) pc = some (i, nx, k, yy, m, c)) (h2 : ∀ pc' L' st' h' dc ds, zstep zcf xs pc i nx k yy m c L st h = some (.inl (pc', L', st', h', dc, ds)) → zpE xs N y pc' L' st' h' (nc + dc) (ns + ds) P)
    (h3 : ∀ r, zstep zcf xs pc i nx k yy m c L st h ≠ some (.inr r)) : zpE xs (N + 1) y pc L st h nc ns P := by
  intro n hn d o e
  cases n with
  | zero => cases e
  | succ n =>
    unfold zev at e
    rw [h1] at e
    dsimp only at e
    split at e
    · cases e
    · next q => exact h2 _ _ _ _ _ _ q n (by omega) d o e
    · next q => exact absurd q (h3 _)
    · next q => exact absurd q (h3 _)
theorem zpE_step1 {pc' dc ds : Nat} {L' : zL} {st' : List Value} {h' : zH} (h1 : zat (zmc y) pc = some (i, nx, k, yy, m, c)) (h2 : zstep zcf xs pc i nx k yy m c L st h = some (.inl (pc', L', st', h', dc, ds))) (h3 : zpE xs N y pc' L' st' h' (nc + dc) (ns + ds) P) : zpE xs (N + 1) y pc L st h nc ns P :=
  zpE_st1 h1 (fun _ _ _ _ _ _ e => by
    rw [h2] at e
    cases e
    exact h3) (fun r e => by
    rw [h2] at e
    cases e)
theorem zpE_step {pc' dc ds : Nat} {L' : zL} {st' : List Value} {h' : zH} (h1 : zat (zmc y) pc = some (i, nx, k, yy, m, c)) (h2 : zstep zcf xs pc i nx k yy m c L st h = some (.inl (pc', L', st', h', dc, ds))) (h3 : zpE xs N y pc' L' st' h' (nc + dc) (ns + ds) P) : zpE xs N y pc L st h nc ns P :=
  zpE_le (Nat.le_succ _) (zpE_step1 h1 h2 h3)
theorem zpE_run : ∀ (n : Nat) {pc pc' nc ns nc' ns' : Nat} {L L' : zL} {st st' : List Value} {h h' : zH}, zrun xs y n pc L st h nc ns = some (pc', L', st', h', nc', ns') → zpE xs N y pc' L' st' h' nc' ns' P → zpE xs N y pc L st h nc ns P
  | 0, pc, pc', nc, ns, nc', ns', L, L', st, st', h, h', e, k => by
    cases (show some _ = some _ from e)
    exact k
  | n + 1, pc, pc', nc, ns, nc', ns', L, L', st, st', h, h', e, k => by
    unfold zrun at e
    split at e
    · cases e
    · next h1 =>
      split at e
      · next h2 => exact zpE_step h1 h2 (zpE_run n e k)
      · cases e
/-- the first of n + 1 steps takes 1 of the bound: a loop's body begins so -/
theorem zpE_run1 (n : Nat) {pc pc' nc ns nc' ns' : Nat} {L L' : zL} {st st' : List Value} {h h' : zH} (e : zrun xs y (n + 1) pc L st h nc ns = some (pc', L', st', h', nc', ns')) (k : zpE xs N y pc' L' st' h' nc' ns' P) : zpE xs (N + 1) y pc L st h nc ns P := by
  unfold zrun at e
  split at e
  · cases e
  · next h1 =>
    split at e
    · next h2 => exact zpE_step1 h1 h2 (zpE_run n e k)
    · cases e
theorem zpE_end {dc ds : Nat} {r : Option Value ⊕ Nat} (h1 : zat (zmc y) pc = some (i, nx, k, yy, m, c)) (h2 : zstep zcf xs pc i nx k yy m c L st h = some (.inr (.inr (r, dc, ds)))) (h3 : P (r, h, nc + dc, ns + ds)) : zpE xs N y pc L st h nc ns P := by
  intro n hn d o e
  cases n with
  | zero => cases e
  | succ n =>
    unfold zev at e
    rw [h1] at e
    dsimp only at e
    rw [h2] at e
    cases e
    exact h3
/-- a call -/
theorem zpE_call {y' nx' : Nat} {as r : List Value} {P1 : zO → Prop} (e1 : zat (zmc y) pc = some (i, nx, k, yy, m, c)) (e2 : zstep zcf xs pc i nx k yy m c L st h = some (.inr (.inl (y', as, r, nx')))) (e3 : zpM xs N y' as h nc ns P1)
    (kv : ∀ v h1 nc1 ns1, P1 (.inl v, h1, nc1, ns1) → zpE xs N y nx' L (v.toList ++ r) h1 nc1 ns1 P)
    (kx : ∀ E h1 nc1 ns1, P1 (.inr E, h1, nc1, ns1) → (zmh y = [] → P (.inr E, h1, nc1, ns1)) ∧ ∀ pc2 L2, zcatch y pc E L = some (pc2, L2) → zpE xs N y pc2 L2 [] h1 nc1 ns1 P) : zpE xs N y pc L st h nc ns P := by
  intro n hn d o e
  cases n with
  | zero => cases e
  | succ n =>
    unfold zev at e
    rw [e1] at e
    dsimp only at e
    rw [e2] at e
    dsimp only at e
    split at e
    · cases e
    · split at e
      · cases e
      · next q =>
        split at e
        · next q2 => exact kv _ _ _ _ (e3 _ q n (by omega) _ _ q2) n (by omega) _ _ e
        · next q2 =>
          have K := kx _ _ _ _ (e3 _ q n (by omega) _ _ q2)
          split at e
          · next q3 =>
            cases e
            exact K.1 q3
          · split at e
            · next q4 => exact K.2 _ _ q4 n (by omega) _ _ e
            · cases e
        · cases e
theorem zpE_icmp {q : ClassFile.Cond} {o : Int} {x z : Int32} {r : List Value} (h1 : zat (zmc y) pc = some (.if_icmp q o, nx, tg, yy, m, c)) (kt : zcq q x z → zpE xs N y tg L r h nc ns P) (kf : zcn9 q x z → zpE xs N y nx L r h nc ns P) : zpE xs N y pc L (.int z :: .int x :: r) h nc ns P := by
  rcases zcq_em q x z with g | g
  · exact zpE_step h1 (zbr_t g) (kt g)
  · exact zpE_step h1 (zbr_f g) (kf g)
theorem zpE_if {q : ClassFile.Cond} {o : Int} {x : Int32} {r : List Value} (h1 : zat (zmc y) pc = some (.ifCond q o, nx, tg, yy, m, c)) (kt : zcq q x 0 → zpE xs N y tg L r h nc ns P) (kf : zcn9 q x 0 → zpE xs N y nx L r h nc ns P) : zpE xs N y pc L (.int x :: r) h nc ns P := by
  rcases zcq_em q x 0 with g | g
  · exact zpE_step h1 (zbr_t g) (kt g)
  · exact zpE_step h1 (zbr_f g) (kf g)
end ZPE
end zg13
section zg14
section ZPF
variable {xs : List Int32} {N D y : Nat} {as : List Value} {h : zH} {nc ns : Nat} {P : zO → Prop}
/-- what a whole call is known to come to, holds of its every run -/
theorem zpM_of (g : zMs xs D y as h nc ns P) : zpM xs N y as h nc ns P := by
  intro L0 e n hn d o eo
  obtain ⟨L1, e1, o1, N1, p, q⟩ := g
  rw [e] at e1
  cases e1
  have a1 := zev_up n d y 0 L0 [] h nc ns o eo (n + N1) (d + D) (by omega) (by omega)
  have a2 := q (d + D) (n + N1) (by omega) (by omega)
  rw [a1] at a2
  cases a2
  exact p
end ZPF
/-! The class's code, word for word. -/
section ZPC
variable {xs : List Int32} {N : Nat} {s : Nat → Int32} {a : Nat → List Int32} {T : zH} {nc ns : Nat}
theorem p_25 (k q r0 : Nat) {j : Int32} (hr : (zx s a T)[r0]? = some (2, [.ref q])) (hq : (zx s a T)[q]? = some (zar (a k))) (hL : zaL a) : zpM xs N 25 [.ref r0, .int j] (zx s a T) nc ns (fun o => o = (.inl (some (.int (zgt (a k) j))), zx s a T, nc, ns)) :=
  zpM_of (m_25 (xs := xs) (D := 0) (nc := nc) (ns := ns) (i := j) hr hq (hL k))
theorem zF_e1 {x y : Int32} (q : zcq .eq x y) : x = y := q
theorem zF_e0 {x y : Int32} (q : zcn9 .eq x y) : ¬ x = y := q
theorem zF_n1 {x y : Int32} (q : zcq .ne x y) : ¬ x = y := q
theorem zF_n0 {x y : Int32} (q : zcn9 .ne x y) : x = y := q
/-- one bit of a word -/
def zbt (w : Int32) (k : Nat) : Bool := decide ((w >>> (Int32.ofNat k &&& 31)) &&& Int32.ofInt 1 = Int32.ofInt 1)
/-- the syndrome of the first bits -/
def zsyn (c : Nat → Int32) (w : Int32) : Nat → Int32
  | 0 => Int32.ofInt 0
  | k + 1 => if zbt w k then zsyn c w k ^^^ c k else zsyn c w k
abbrev zco (a : Nat → List Int32) : Nat → Int32 := fun k => zgt (a 0) (Int32.ofNat k)
abbrev zwi (s : Nat → Int32) : Nat := (s 2).toInt.toNat
theorem znl31 (x : Int32) : x.toInt.toNat < 2147483648 := by
  have := Int32.toInt_lt x
  omega
theorem l_8 (hL : zaL a) {w : Int32} : ∀ (N k : Nat), k ≤ zwi s → zpE xs N 8 4 [some (.ref 1), some (.int w), some (.int (zsyn (zco a) w k)), some (.int (Int32.ofNat k))] [] (zx s a T) nc ns (fun o => o = (.inl (some (.int (zsyn (zco a) w (zwi s)))), zx s a T, nc, ns))
  | 0, _, _ => zpE_0
  | N + 1, k, hk => by
    have hw := znl31 (s 2)
    have hz : zwi s = (s 2).toInt.toNat := rfl
    refine zpE_run1 2 rfl ?_
    refine zpE_icmp rfl (fun q => ?_) (fun q => ?_)
    · have z := zF_ge_t q
      rw [zofI (by omega)] at z
      obtain rfl : k = zwi s := by omega
      exact zpE_run 1 rfl (zpE_end rfl rfl rfl)
    · have z := zF_ge_f q
      rw [zofI (by omega)] at z
      have K := l_8 hL (w := w) N (k + 1) (by omega)
      rw [← zof1] at K
      have ez : zsyn (zco a) w (k + 1) = if zbt w k then zsyn (zco a) w k ^^^ zco a k else zsyn (zco a) w k := rfl
      refine zpE_run 6 rfl ?_
      refine zpE_icmp rfl (fun q9 => ?_) (fun q9 => ?_)
      · rw [ez, if_neg (by
          rw [zbt, decide_eq_true_eq]
          exact q9)] at K
        exact zpE_run 2 rfl K
      · rw [ez, if_pos (by
          rw [zbt, decide_eq_true_eq]
          exact q9)] at K
        refine zpE_run 4 rfl ?_
        refine zpE_call rfl rfl (p_25 0 3 2 rfl rfl hL) (fun v h1 nc1 ns1 q8 => ?_) (fun E h1 nc1 ns1 q8 => by cases q8)
        cases q8
        exact zpE_run 4 rfl K
theorem p_8 (hL : zaL a) {w : Int32} : zpM xs N 8 [.ref 1, .int w] (zx s a T) nc ns (fun o => o = (.inl (some (.int (zsyn (zco a) w (zwi s)))), zx s a T, nc, ns)) := by
  intro L0 e
  cases e
  exact zpE_run 4 rfl (l_8 hL N 0 (Nat.zero_le _))
abbrev ztu (s : Nat → Int32) (a : Nat → List Int32) (w : Int32) : Int32 := zgt (a 1) (zsyn (zco a) w (zwi s))
theorem p_9 (hL : zaL a) {w : Int32} : zpM xs N 9 [.ref 1, .int w] (zx s a T) nc ns (fun o => o = (.inl (some (.int (ztu s a w))), zx s a T, nc, ns)) := by
  intro L0 e
  cases e
  refine zpE_run 4 rfl ?_
  refine zpE_call rfl rfl (p_8 hL) (fun v h1 nc1 ns1 q8 => ?_) (fun E h1 nc1 ns1 q8 => by cases q8)
  cases q8
  refine zpE_call rfl rfl (p_25 1 5 4 rfl rfl hL) (fun v h1 nc1 ns1 q8 => ?_) (fun E h1 nc1 ns1 q8 => by cases q8)
  cases q8
  exact zpE_end rfl rfl rfl
theorem p_10 (hL : zaL a) {w : Int32} : zpM xs N 10 [.ref 1, .int w] (zx s a T) nc ns (fun o => o = (.inl (some (.int (if zsyn (zco a) w (zwi s) = 0 then 1 else 0))), zx s a T, nc, ns)) := by
  intro L0 e
  cases e
  refine zpE_run 2 rfl ?_
  refine zpE_call rfl rfl (p_8 hL) (fun v h1 nc1 ns1 q8 => ?_) (fun E h1 nc1 ns1 q8 => by cases q8)
  cases q8
  refine zpE_if rfl (fun q => ?_) (fun q => ?_)
  · rw [if_neg (zF_n1 q)]
    exact zpE_run 1 rfl (zpE_end rfl rfl rfl)
  · rw [if_pos (zF_n0 q)]
    exact zpE_run 2 rfl (zpE_end rfl rfl rfl)
/-- 0 clean, 1 mended, 2 bad, by the bit that is turned -/
def zvd (t : Int32) : Int32 := if t = 0 then 0 else if t = Int32.ofInt (-1) then 2 else 1
theorem p_11 (hL : zaL a) {w : Int32} : zpM xs N 11 [.ref 1, .int w] (zx s a T) nc ns (fun o => o = (.inl (some (.int (zvd (ztu s a w)))), zx s a T, nc, ns)) := by
  intro L0 e
  cases e
  refine zpE_run 2 rfl ?_
  refine zpE_call rfl rfl (p_9 hL) (fun v h1 nc1 ns1 q8 => ?_) (fun E h1 nc1 ns1 q8 => by cases q8)
  cases q8
  refine zpE_run 2 rfl ?_
  unfold zvd
  refine zpE_if rfl (fun q => ?_) (fun q => ?_)
  · rw [if_neg (zF_n1 q)]
    refine zpE_run 2 rfl ?_
    refine zpE_icmp rfl (fun q9 => ?_) (fun q9 => ?_)
    · rw [if_neg (zF_n1 q9)]
      exact zpE_run 1 rfl (zpE_end rfl rfl rfl)
    · rw [if_pos (zF_n0 q9)]
      exact zpE_run 2 rfl (zpE_end rfl rfl rfl)
  · rw [if_pos (zF_n0 q)]
    exact zpE_run 1 rfl (zpE_end rfl rfl rfl)
/-- the bit of a turn -/
def zbo (t : Int32) : Int32 := if t = 0 then Int32.ofInt (-1) else if t = Int32.ofInt (-1) then Int32.ofInt (-1) else zbc (t - Int32.ofInt 1)
theorem p_12 {h : zH} {t : Int32} : zpM xs N 12 [.int t] h nc ns (fun o => o = (.inl (some (.int (zbo t))), h, nc, ns)) := by
  intro L0 e
  cases e
  refine zpE_run 1 rfl ?_
  unfold zbo
  refine zpE_if rfl (fun q => ?_) (fun q => ?_)
  · rw [if_pos (zF_e1 q)]
    exact zpE_run 2 rfl (zpE_end rfl rfl rfl)
  · rw [if_neg (zF_e0 q)]
    refine zpE_run 2 rfl ?_
    refine zpE_icmp rfl (fun q9 => ?_) (fun q9 => ?_)
    · rw [if_neg (zF_n1 q9)]
      refine zpE_run 3 rfl ?_
      refine zpE_call rfl rfl (zpM_of (t_229 (D := 0))) (fun v h1 nc1 ns1 q8 => ?_) (fun E h1 nc1 ns1 q8 => by cases q8)
      cases q8
      exact zpE_end rfl rfl rfl
    · rw [if_pos (zF_n0 q9)]
      exact zpE_run 2 rfl (zpE_end rfl rfl rfl)
abbrev zdma (s : Nat → Int32) : Int32 := Int32.ofInt 1 <<< (s 0 &&& 31) - Int32.ofInt 1
theorem p_6 : zpM xs N 6 [.ref 1] (zx s a T) nc ns (fun o => o = (.inl (some (.int (zdma s))), zx s a T, nc, ns)) := by
  intro L0 e
  cases e
  exact zpE_run 6 rfl (zpE_end rfl rfl rfl)
theorem p_5 : zpM xs N 5 [.ref 1] (zx s a T) nc ns (fun o => o = (.inl (some (.int (Int32.ofInt 1 <<< (s 2 &&& 31)))), zx s a T, nc, ns)) := by
  intro L0 e
  cases e
  exact zpE_run 4 rfl (zpE_end rfl rfl rfl)
def zda (s : Nat → Int32) (a : Nat → List Int32) (w : Int32) : Int32 := if ztu s a w = Int32.ofInt (-1) then Int32.ofInt (-1) else (w ^^^ ztu s a w) &&& zdma s
theorem p_13 (hL : zaL a) {w : Int32} : zpM xs N 13 [.ref 1, .int w] (zx s a T) nc ns (fun o => o = (.inl (some (.int (zda s a w))), zx s a T, nc, ns)) := by
  intro L0 e
  cases e
  refine zpE_run 2 rfl ?_
  refine zpE_call rfl rfl (p_9 hL) (fun v h1 nc1 ns1 q8 => ?_) (fun E h1 nc1 ns1 q8 => by cases q8)
  cases q8
  refine zpE_run 3 rfl ?_
  unfold zda
  refine zpE_icmp rfl (fun q9 => ?_) (fun q9 => ?_)
  · rw [if_neg (zF_n1 q9)]
    refine zpE_run 4 rfl ?_
    refine zpE_call rfl rfl p_6 (fun v h1 nc1 ns1 q8 => ?_) (fun E h1 nc1 ns1 q8 => by cases q8)
    cases q8
    exact zpE_run 1 rfl (zpE_end rfl rfl rfl)
  · rw [if_pos (zF_n0 q9)]
    exact zpE_run 2 rfl (zpE_end rfl rfl rfl)
theorem p_14 (hL : zaL a) {w : Int32} : zpM xs N 14 [.ref 1, .int w] (zx s a T) nc ns (fun o => o = (.inl (some (.int (w ||| zsyn (zco a) w (zwi s) <<< (s 0 &&& 31)))), zx s a T, nc, ns)) := by
  intro L0 e
  cases e
  refine zpE_run 3 rfl ?_
  refine zpE_call rfl rfl (p_8 hL) (fun v h1 nc1 ns1 q8 => ?_) (fun E h1 nc1 ns1 q8 => by cases q8)
  cases q8
  exact zpE_run 4 rfl (zpE_end rfl rfl rfl)
theorem p_17 (hL : zaL a) {x : Int32} : zpM xs N 17 [.ref 1, .int x] (zx s a T) nc ns (fun o => o = (.inl (some (.int (if 0 < zgt (a 1) x then 1 else 0))), zx s a T, nc, ns)) := by
  intro L0 e
  cases e
  refine zpE_run 3 rfl ?_
  refine zpE_call rfl rfl (p_25 1 5 4 rfl rfl hL) (fun v h1 nc1 ns1 q8 => ?_) (fun E h1 nc1 ns1 q8 => by cases q8)
  cases q8
  refine zpE_if rfl (fun q => ?_) (fun q => ?_)
  · rw [if_neg (fun z => absurd (zF_le_t q) (by
      have := zlt_z z
      omega))]
    exact zpE_run 1 rfl (zpE_end rfl rfl rfl)
  · rw [if_pos (Int32.lt_iff_toInt_lt.mpr (zF_le_f q))]
    exact zpE_run 2 rfl (zpE_end rfl rfl rfl)
theorem p_7 {x : Int32} : zpM xs N 7 [.ref 1, .int x] (zx s a T) nc ns (fun o => o = (.inl (some (.int (if 0 ≤ x.toInt ∧ x.toInt < (s 2).toInt then 1 else 0))), zx s a T, nc, ns)) := by
  have z0 : (0 : Int32).toInt = 0 := by decide
  intro L0 e
  cases e
  refine zpE_run 1 rfl ?_
  refine zpE_if rfl (fun q => ?_) (fun q => ?_)
  · have z := zF_lt_t q
    rw [if_neg (by omega)]
    exact zpE_run 1 rfl (zpE_end rfl rfl rfl)
  · have z := zF_lt_f q
    refine zpE_run 3 rfl ?_
    refine zpE_icmp rfl (fun q9 => ?_) (fun q9 => ?_)
    · have z9 := zF_ge_t q9
      rw [if_neg (fun k => absurd k.2 (Int.not_lt.mpr z9))]
      exact zpE_run 1 rfl (zpE_end rfl rfl rfl)
    · have z9 := zF_ge_f q9
      rw [if_pos ⟨by omega, z9⟩]
      exact zpE_run 2 rfl (zpE_end rfl rfl rfl)
end ZPC
end zg14
section zg15
section ZPG
variable {xs : List Int32} {N D y pc nx k yy m c tg : Nat} {i : Instr} {L : zL} {st : List Value} {h : zH} {nc ns : Nat} {P P' : zO → Prop}
theorem zpE_get {a kd : Nat} {t : Nat} {vs : List Value} {v : Value} {r : List Value} {j : Nat} (h1 : zat (zmc y) pc = some (.getfield j, nx, k, yy, m, c)) (ha : h[a]? = some (t, vs)) (hf : (zcf t)[k]? = some (yy, kd)) (hv : vs[k]? = some v) (g : zpE xs N y nx L (v :: r) h nc ns P) : zpE xs N y pc L (.ref a :: r) h nc ns P := by
  refine zpE_step (dc := 0) (ds := 0) h1 ?_ g
  show zget zcf yy k nx L (.ref a :: r) h = _
  unfold zget
  dsimp only
  rw [ha]
  dsimp only
  rw [hf]
  dsimp only
  rw [if_pos rfl, hv]
  rfl
theorem zpE_put {a kd t : Nat} {vs : List Value} {v : Value} {r : List Value} {j : Nat} (h1 : zat (zmc y) pc = some (.putfield j, nx, k, yy, m, c)) (ha : h[a]? = some (t, vs)) (hf : (zcf t)[k]? = some (yy, kd)) (hv : zfdk kd v = true) (hk : k < vs.length) (g : zpE xs N y nx L r (h.set a (t, vs.set k v)) nc ns P) : zpE xs N y pc L (v :: .ref a :: r) h nc ns P := by
  refine zpE_step (dc := 0) (ds := 0) h1 ?_ g
  show zput zcf yy k nx L (v :: .ref a :: r) h = _
  unfold zput
  dsimp only
  rw [ha]
  dsimp only
  rw [hf]
  dsimp only
  rw [if_pos rfl, if_pos hv, if_pos hk]
  rfl
theorem zpE_alen {a : Nat} {vs : List Value} {t : Nat} {r : List Value} (h1 : zat (zmc y) pc = some (.arraylength, nx, k, yy, m, c)) (ha : h[a]? = some (t, vs)) (ht : 100 ≤ t) (g : zpE xs N y nx L (.int (Int32.ofNat vs.length) :: r) h nc ns P) : zpE xs N y pc L (.ref a :: r) h nc ns P := by
  refine zpE_step (dc := 0) (ds := 0) h1 ?_ g
  show zalen xs nx L (.ref a :: r) h = _
  unfold zalen
  dsimp only
  rw [ha]
  exact if_pos ht
/-- a call on an object -/
theorem zpE_callM {j n a c9 : Nat} {vs as r : List Value} {P1 : zO → Prop} (e1 : zat (zmc y) pc = some (.invokevirtual j, nx, 0, yy, n, c9)) (hst : ztk (n + 1) [] st = some (.ref a :: as, r)) (m1 : h[a]? = some (c9, vs)) (hr : zcs r ≤ 8) (e3 : zpM xs N yy (.ref a :: as) h nc ns P1)
    (kv : ∀ v h1 nc1 ns1, P1 (.inl v, h1, nc1, ns1) → zpE xs N y nx L (v.toList ++ r) h1 nc1 ns1 P)
    (kx : ∀ E h1 nc1 ns1, P1 (.inr E, h1, nc1, ns1) → (zmh y = [] → P (.inr E, h1, nc1, ns1)) ∧ ∀ pc2 L2, zcatch y pc E L = some (pc2, L2) → zpE xs N y pc2 L2 [] h1 nc1 ns1 P) : zpE xs N y pc L st h nc ns P :=
  zpE_call e1 (show zcallV n c9 yy nx st h = _ from zcallV_eq hst m1 hr) e3 kv kx
/-- a load from a row: that it is in the row comes for nothing -/
theorem zpE_ald {j : Int32} {a : Nat} {l : List Int32} {r : List Value} (h1 : zat (zmc y) pc = some (.iaload, nx, k, yy, m, c)) (ha : h[a]? = some (100, l.map Value.int)) (g : ∀ v, ¬ j < 0 → l[j.toNatClampNeg]? = some v → zpE xs N y nx L (.int v :: r) h nc ns P) : zpE xs N y pc L (.int j :: .ref a :: r) h nc ns P := by
  have en : zstep zcf xs pc .iaload nx k yy m c L (.int j :: .ref a :: r) h = match l[j.toNatClampNeg]? with
      | some v => if j < 0 then none else zgo nx L (.int v :: r) h
      | none => none := by
    show zald 100 nx L (.int j :: .ref a :: r) h = _
    unfold zald
    dsimp only
    rw [ha]
    dsimp only
    rw [if_pos rfl, List.getElem?_map]
    cases l[j.toNatClampNeg]? <;> rfl
  refine zpE_le (Nat.le_succ _) (zpE_st1 h1 (fun pc' L' st' h' dc ds e => ?_) (fun r9 e => ?_))
  · rw [en] at e
    cases hv : l[j.toNatClampNeg]? with
    | none =>
      rw [hv] at e
      cases e
    | some v =>
      rw [hv] at e
      dsimp only at e
      by_cases hj : j < 0
      · rw [if_pos hj] at e
        cases e
      · rw [if_neg hj] at e
        cases e
        exact g v hj hv
  · rw [en] at e
    cases hv : l[j.toNatClampNeg]? with
    | none =>
      rw [hv] at e
      cases e
    | some v =>
      rw [hv] at e
      dsimp only at e
      by_cases hj : j < 0
      · rw [if_pos hj] at e
        cases e
      · rw [if_neg hj] at e
        cases e
end ZPG
/-! The reference's code, word for word. -/
section ZPM
variable {xs : List Int32} {N : Nat} {h : zH} {K R : Int32} {c : List Int32} {nc ns : Nat}
def zMc (h : zH) (K R : Int32) (c : List Int32) : Prop := ∃ (vs : List Value) (q : Nat), h[44]? = some (7, vs) ∧ vs[1]? = some (.int K) ∧ vs[2]? = some (.int R) ∧ vs[3]? = some (.ref q) ∧ h[q]? = some (100, c.map Value.int) ∧ c.length < 2147483648
theorem zcl_of {k : Nat} (hk : k < 2147483648) : (Int32.ofNat k).toNatClampNeg = k := by
  show (Int32.ofNat k).toInt.toNat = k
  rw [zofI hk]
  rfl
theorem r_113 {w : Int32} {k : Nat} : zpM xs N 113 [.int w, .int (Int32.ofNat k)] h nc ns (fun o => o = (.inl (some (.int (if zbt w k then 1 else 0))), h, nc, ns)) := by
  intro L0 e
  cases e
  refine zpE_run 6 rfl ?_
  refine zpE_icmp rfl (fun q => ?_) (fun q => ?_)
  · rw [if_neg (by
      rw [zbt, decide_eq_true_eq]
      exact zF_n1 q)]
    exact zpE_run 1 rfl (zpE_end rfl rfl rfl)
  · rw [if_pos (by
      rw [zbt, decide_eq_true_eq]
      exact zF_n0 q)]
    exact zpE_run 2 rfl (zpE_end rfl rfl rfl)
theorem r_117 (hM : zMc h K R c) : zpM xs N 117 [.ref 44] h nc ns (fun o => o = (.inl (some (.int (K + R))), h, nc, ns)) := by
  obtain ⟨vs, q, m1, m2, m3, m4, m5, m6⟩ := hM
  intro L0 e
  cases e
  refine zpE_run 1 rfl ?_
  refine zpE_get rfl m1 rfl m2 ?_
  refine zpE_run 1 rfl ?_
  refine zpE_get rfl m1 rfl m3 ?_
  exact zpE_run 1 rfl (zpE_end rfl rfl rfl)
abbrev zcm (c : List Int32) : Nat → Int32 := fun k => c.getD k 0
theorem l_118 (hM : zMc h K R c) {w : Int32} : ∀ (N k : Nat), k ≤ c.length → zpE xs N 118 4 [some (.ref 44), some (.int w), some (.int (zsyn (zcm c) w k)), some (.int (Int32.ofNat k))] [] h nc ns (fun o => o = (.inl (some (.int (zsyn (zcm c) w c.length))), h, nc, ns))
  | 0, _, _ => zpE_0
  | N + 1, k, hk => by
    have hM0 := hM
    obtain ⟨vs, q, m1, m2, m3, m4, m5, m6⟩ := hM
    refine zpE_run1 1 rfl ?_
    refine zpE_get rfl m1 rfl m4 ?_
    refine zpE_alen rfl m5 (by decide) ?_
    rw [List.length_map]
    refine zpE_icmp rfl (fun q => ?_) (fun q => ?_)
    · have z := zF_ge_t q
      rw [zofI (by omega), zofI (by omega)] at z
      obtain rfl : k = c.length := by omega
      exact zpE_run 1 rfl (zpE_end rfl rfl rfl)
    · have z := zF_ge_f q
      rw [zofI (by omega), zofI (by omega)] at z
      have G := l_118 hM0 (w := w) N (k + 1) (by omega)
      rw [← zof1] at G
      have ez : zsyn (zcm c) w (k + 1) = if zbt w k then zsyn (zcm c) w k ^^^ zcm c k else zsyn (zcm c) w k := rfl
      refine zpE_run 3 rfl ?_
      refine zpE_call rfl rfl r_113 (fun v h1 nc1 ns1 q8 => ?_) (fun E h1 nc1 ns1 q8 => by cases q8)
      cases q8
      cases hb : zbt w k with
      | true =>
        rw [ez, hb, if_pos rfl] at G
        rw [if_pos rfl]
        refine zpE_if rfl (fun q9 => ?_) (fun _ => ?_)
        · exact absurd (zF_e1 q9) (by decide)
        · refine zpE_run 1 rfl ?_
          refine zpE_get rfl m1 rfl m4 ?_
          refine zpE_run 1 rfl ?_
          refine zpE_ald rfl m5 (fun v n0 hv => ?_)
          rw [zcl_of (by omega)] at hv
          have e9 : zcm c k = v := by
            show c.getD k 0 = v
            rw [List.getD_eq_getElem?_getD, hv]
            rfl
          rw [e9] at G
          exact zpE_run 5 rfl G
      | false =>
        rw [ez, hb] at G
        have e0 : zsyn (zcm c) w k = zsyn (zcm c) w k ^^^ Int32.ofInt 0 := (Int32.xor_zero).symm
        rw [show (if (false : Bool) = true then zsyn (zcm c) w k ^^^ zcm c k else zsyn (zcm c) w k) = zsyn (zcm c) w k from rfl, e0] at G
        refine zpE_if rfl (fun _ => ?_) (fun q9 => ?_)
        · exact zpE_run 5 rfl G
        · exact absurd rfl (zF_e0 q9)
theorem r_118 (hM : zMc h K R c) {w : Int32} : zpM xs N 118 [.ref 44, .int w] h nc ns (fun o => o = (.inl (some (.int (zsyn (zcm c) w c.length))), h, nc, ns)) := by
  intro L0 e
  cases e
  exact zpE_run 4 rfl (l_118 hM N 0 (Nat.zero_le _))
abbrev zsm (c : List Int32) (w : Int32) : Int32 := zsyn (zcm c) w c.length
theorem r_119 (hM : zMc h K R c) {w : Int32} : zpM xs N 119 [.ref 44, .int w] h nc ns (fun o => o = (.inl (some (.int (w ||| zsm c w <<< (K &&& 31)))), h, nc, ns)) := by
  have hM0 := hM
  obtain ⟨vs, q, m1, m2, m3, m4, m5, m6⟩ := hM
  intro L0 e
  cases e
  refine zpE_run 3 rfl ?_
  refine zpE_callM rfl rfl m1 (Nat.le_of_ble_eq_true rfl) (r_118 hM0) (fun v h1 nc1 ns1 q8 => ?_) (fun E h1 nc1 ns1 q8 => by cases q8)
  cases q8
  refine zpE_run 1 rfl ?_
  refine zpE_get rfl m1 rfl m2 ?_
  exact zpE_run 2 rfl (zpE_end rfl rfl rfl)
/-- the place of a number, from k on -/
def zfn : List Int32 → Int32 → Nat → Int32
  | [], _, _ => Int32.ofInt (-1)
  | y :: r, x, k => if y = x then Int32.ofNat k else zfn r x (k + 1)
theorem l_120 (hM : zMc h K R c) {w x : Int32} : ∀ (N k : Nat), k ≤ c.length → zpE xs N 120 8 [some (.ref 44), some (.int w), some (.int x), some (.int (Int32.ofNat k))] [] h nc ns (fun o => o = (.inl (some (.int (zfn (c.drop k) x k))), h, nc, ns))
  | 0, _, _ => zpE_0
  | N + 1, k, hk => by
    have hM0 := hM
    obtain ⟨vs, q, m1, m2, m3, m4, m5, m6⟩ := hM
    refine zpE_run1 1 rfl ?_
    refine zpE_get rfl m1 rfl m4 ?_
    refine zpE_alen rfl m5 (by decide) ?_
    rw [List.length_map]
    refine zpE_icmp rfl (fun q => ?_) (fun q => ?_)
    · have z := zF_ge_t q
      rw [zofI (by omega), zofI (by omega)] at z
      obtain rfl : k = c.length := by omega
      rw [List.drop_length]
      exact zpE_run 1 rfl (zpE_end rfl rfl rfl)
    · have z := zF_ge_f q
      rw [zofI (by omega), zofI (by omega)] at z
      have hk9 : k < c.length := by omega
      have G := l_120 hM0 (w := w) (x := x) N (k + 1) (by omega)
      rw [← zof1] at G
      rw [List.drop_eq_getElem_cons hk9]
      refine zpE_run 1 rfl ?_
      refine zpE_get rfl m1 rfl m4 ?_
      refine zpE_run 1 rfl ?_
      refine zpE_ald rfl m5 (fun v n0 hv => ?_)
      rw [zcl_of (by omega), List.getElem?_eq_getElem hk9] at hv
      cases hv
      refine zpE_run 1 rfl ?_
      show zpE xs N 120 24 _ _ _ _ _ (fun o => o = (.inl (some (.int (if c[k] = x then Int32.ofNat k else zfn (c.drop (k + 1)) x (k + 1)))), h, nc, ns))
      refine zpE_icmp rfl (fun q9 => ?_) (fun q9 => ?_)
      · rw [if_neg (zF_n1 q9)]
        exact zpE_run 2 rfl G
      · rw [if_pos (zF_n0 q9)]
        exact zpE_run 1 rfl (zpE_end rfl rfl rfl)
abbrev zbm9 (c : List Int32) (w : Int32) : Int32 := zfn c (zsm c w) 0
theorem r_120 (hM : zMc h K R c) {w : Int32} : zpM xs N 120 [.ref 44, .int w] h nc ns (fun o => o = (.inl (some (.int (zbm9 c w))), h, nc, ns)) := by
  have hM0 := hM
  obtain ⟨vs, q0, m1, m2, m3, m4, m5, m6⟩ := hM
  intro L0 e
  cases e
  refine zpE_run 2 rfl ?_
  refine zpE_callM rfl rfl m1 (Nat.le_of_ble_eq_true rfl) (r_118 hM0) (fun v h1 nc1 ns1 q8 => ?_) (fun E h1 nc1 ns1 q8 => by cases q8)
  cases q8
  exact zpE_run 3 rfl (l_120 hM0 N 0 (Nat.zero_le _))
/-- 0 clean, 1 mended, 2 bad -/
def zkd (c : List Int32) (w : Int32) : Int32 := if zsm c w = 0 then 0 else if zbm9 c w = Int32.ofInt (-1) then 2 else 1
theorem r_121 (hM : zMc h K R c) {w : Int32} : zpM xs N 121 [.ref 44, .int w] h nc ns (fun o => o = (.inl (some (.int (zkd c w))), h, nc, ns)) := by
  have hM0 := hM
  obtain ⟨vs, q0, m1, m2, m3, m4, m5, m6⟩ := hM
  intro L0 e
  cases e
  refine zpE_run 2 rfl ?_
  refine zpE_callM rfl rfl m1 (Nat.le_of_ble_eq_true rfl) (r_118 hM0) (fun v h1 nc1 ns1 q8 => ?_) (fun E h1 nc1 ns1 q8 => by cases q8)
  cases q8
  unfold zkd
  refine zpE_if rfl (fun q => ?_) (fun q => ?_)
  · rw [if_neg (zF_n1 q)]
    refine zpE_run 2 rfl ?_
    refine zpE_callM rfl rfl m1 (Nat.le_of_ble_eq_true rfl) (r_120 hM0) (fun v h1 nc1 ns1 q8 => ?_) (fun E h1 nc1 ns1 q8 => by cases q8)
    cases q8
    refine zpE_run 1 rfl ?_
    refine zpE_icmp rfl (fun q9 => ?_) (fun q9 => ?_)
    · rw [if_neg (zF_n1 q9)]
      exact zpE_run 1 rfl (zpE_end rfl rfl rfl)
    · rw [if_pos (zF_n0 q9)]
      exact zpE_run 2 rfl (zpE_end rfl rfl rfl)
  · rw [if_pos (zF_n0 q)]
    exact zpE_run 2 rfl (zpE_end rfl rfl rfl)
def zme (c : List Int32) (w : Int32) : Int32 := if zkd c w = Int32.ofInt 1 then w ^^^ Int32.ofInt 1 <<< (zbm9 c w &&& 31) else w
theorem r_122 (hM : zMc h K R c) {w : Int32} : zpM xs N 122 [.ref 44, .int w] h nc ns (fun o => o = (.inl (some (.int (zme c w))), h, nc, ns)) := by
  have hM0 := hM
  obtain ⟨vs, q0, m1, m2, m3, m4, m5, m6⟩ := hM
  intro L0 e
  cases e
  refine zpE_run 2 rfl ?_
  refine zpE_callM rfl rfl m1 (Nat.le_of_ble_eq_true rfl) (r_121 hM0) (fun v h1 nc1 ns1 q8 => ?_) (fun E h1 nc1 ns1 q8 => by cases q8)
  cases q8
  unfold zme
  refine zpE_run 1 rfl ?_
  refine zpE_icmp rfl (fun q => ?_) (fun q => ?_)
  · rw [if_neg (zF_n1 q)]
    exact zpE_run 1 rfl (zpE_end rfl rfl rfl)
  · rw [if_pos (zF_n0 q)]
    refine zpE_run 4 rfl ?_
    refine zpE_callM rfl rfl m1 (Nat.le_of_ble_eq_true rfl) (r_120 hM0) (fun v h1 nc1 ns1 q8 => ?_) (fun E h1 nc1 ns1 q8 => by cases q8)
    cases q8
    exact zpE_run 3 rfl (zpE_end rfl rfl rfl)
abbrev zdo (c : List Int32) (K w : Int32) : Int32 := zme c w &&& (Int32.ofInt 1 <<< (K &&& 31) - Int32.ofInt 1)
theorem r_123 (hM : zMc h K R c) {w : Int32} : zpM xs N 123 [.ref 44, .int w] h nc ns (fun o => o = (.inl (some (.int (zdo c K w))), h, nc, ns)) := by
  have hM0 := hM
  obtain ⟨vs, q, m1, m2, m3, m4, m5, m6⟩ := hM
  intro L0 e
  cases e
  refine zpE_run 2 rfl ?_
  refine zpE_callM rfl rfl m1 (Nat.le_of_ble_eq_true rfl) (r_122 hM0) (fun v h1 nc1 ns1 q8 => ?_) (fun E h1 nc1 ns1 q8 => by cases q8)
  cases q8
  refine zpE_run 2 rfl ?_
  refine zpE_get rfl m1 rfl m2 ?_
  exact zpE_run 4 rfl (zpE_end rfl rfl rfl)
end ZPM
end zg15
section zg16
/-! The columns of the data bits. -/
/-- the numbers of weight w from n on, k of all at most -/
def zin (k top w : Nat) : Nat → Nat → List Int32 → List Int32
  | 0, _, acc => acc
  | f + 1, n, acc => if n < top ∧ acc.length < k then zin k top w f (n + 1) (if zwt 6 n = w then acc ++ [Int32.ofNat n] else acc) else acc
def zpf (a a' : Nat → List Int32) (acc : List Int32) : Prop := (a' 0).length = 16 ∧ (∀ j, j ≠ 0 → a' j = a j) ∧ ∃ t, a' 0 = acc ++ t
section ZPD
variable {xs : List Int32} {N : Nat} {s : Nat → Int32} {a : Nat → List Int32} {T : zH} {nc ns : Nat} {P : zO → Prop}
theorem p_26 (k q r0 : Nat) {j v : Int32} (hr : (zx s a T)[r0]? = some (2, [.ref q])) (hq : (zx s a T)[q]? = some (zar (a k))) (hs : ∀ l, (zx s a T).set q (zar l) = zx s (zup a k l) T) (hL : (a k).length < 2147483648) : zpM xs N 26 [.ref r0, .int j, .int v] (zx s a T) nc ns (fun o => o = (.inl none, zx s (zup a k (zst (a k) j v)) T, nc, ns)) := by
  have g := zpM_of (N := N) (m_26 (xs := xs) (D := 0) (nc := nc) (ns := ns) (i := j) (v := v) hr hq hL)
  rw [hs] at g
  exact g
theorem zst_at {acc t : List Int32} {v x : Int32} (h : acc.length < 2147483648) : zst (acc ++ x :: t) (Int32.ofNat acc.length) v = (acc ++ [v]) ++ t := by
  unfold zst
  rw [if_neg (fun z => by
    have z := zlt_z z
    rw [zofI h, zero_z] at z
    omega), zcl_of h, List.set_append_right _ _ (Nat.le_refl _), Nat.sub_self, List.set_cons_zero, List.append_assoc]
  rfl
theorem zpf_add {a' : Nat → List Int32} {acc : List Int32} {v : Int32} (g : zpf a a' acc) (h : acc.length < 16) : zpf a (zup a' 0 (zst (a' 0) (Int32.ofNat acc.length) v)) (acc ++ [v]) := by
  obtain ⟨g1, g2, t, g3⟩ := g
  cases t with
  | nil =>
    rw [List.append_nil] at g3
    rw [g3] at g1
    omega
  | cons x t =>
    refine ⟨?_, fun j hj => ?_, t, ?_⟩
    · show (zst (a' 0) _ _).length = 16
      rw [zst_len]
      exact g1
    · show (if j = 0 then _ else a' j) = a j
      rw [if_neg hj]
      exact g2 j hj
    · show zst (a' 0) _ _ = _
      rw [g3]
      exact zst_at (by omega)
theorem l_4i {k top w : Nat} {r : Int32} (hk : k ≤ 10) (hs0 : s 0 = Int32.ofNat k) (htop : Int32.ofInt 1 <<< (s 1 &&& 31) = Int32.ofNat top) (ht : top ≤ 64) (hw : w < 100) {N0 : Nat} : ∀ (N f n : Nat) (acc : List Int32) (a' : Nat → List Int32), N ≤ N0 → top - n ≤ f → n ≤ 64 → acc.length ≤ k → zpf a a' acc →
    (∀ a' n', zpf a a' (zin k top w f n acc) → (zin k top w f n acc).length ≤ k → zpE xs N0 4 58 [some (.ref 1), some (.int (Int32.ofNat (zin k top w f n acc).length)), some (.int (Int32.ofNat w)), some (.int n')] [] (zx s a' T) nc ns P) →
    zpE xs N 4 14 [some (.ref 1), some (.int (Int32.ofNat acc.length)), some (.int (Int32.ofNat w)), some (.int (Int32.ofNat n))] [] (zx s a' T) nc ns P
  | 0, _, _, _, _, _, _, _, _, _, _ => zpE_0
  | N + 1, f, n, acc, a', hN, hf, hn, ha, g, C => by
    have out : ¬ (n < top ∧ acc.length < k) → zin k top w f n acc = acc := by
      intro z
      cases f with
      | zero => rfl
      | succ f => exact if_neg z
    refine zpE_run1 4 (st' := [.int (Int32.ofInt 1 <<< (s 1 &&& 31)), .int (Int32.ofNat n)]) rfl ?_
    rw [htop]
    refine zpE_icmp rfl (fun q => ?_) (fun q => ?_)
    · have z := zF_ge_t q
      rw [zofI (by omega), zofI (by omega)] at z
      rw [out (by omega)] at C
      exact zpE_le (by omega) (C a' _ g ha)
    · have z := zF_ge_f q
      rw [zofI (by omega), zofI (by omega)] at z
      refine zpE_run 3 (st' := [.int (s 0), .int (Int32.ofNat acc.length)]) rfl ?_
      rw [hs0]
      refine zpE_icmp rfl (fun q2 => ?_) (fun q2 => ?_)
      · have z2 := zF_ge_t q2
        rw [zofI (by omega), zofI (by omega)] at z2
        rw [out (by omega)] at C
        exact zpE_le (by omega) (C a' _ g ha)
      · have z2 := zF_ge_f q2
        rw [zofI (by omega), zofI (by omega)] at z2
        refine zpE_run 1 rfl ?_
        refine zpE_call rfl rfl (zpM_of (t_229 (D := 0))) (fun v h1 nc1 ns1 q8 => ?_) (fun E h1 nc1 ns1 q8 => by cases q8)
        cases q8
        rw [zbc_wt n (by omega)]
        have hw7 := zwt_7 n (by omega)
        cases f with
        | zero => omega
        | succ f =>
          have ez : zin k top w (f + 1) n acc = zin k top w f (n + 1) (if zwt 6 n = w then acc ++ [Int32.ofNat n] else acc) := if_pos ⟨by omega, by omega⟩
          rw [ez] at C
          refine zpE_run 1 rfl ?_
          refine zpE_icmp rfl (fun q3 => ?_) (fun q3 => ?_)
          · have z3 := zF_ne_t q3
            rw [zofI (by omega), zofI (by omega)] at z3
            rw [if_neg (by omega)] at C
            have G := l_4i (r := r) hk hs0 htop ht hw N f (n + 1) acc a' (by omega) (by omega) (by omega) ha g C
            rw [← zof1] at G
            exact zpE_run 2 rfl G
          · have z3 := zF_ne_f q3
            rw [zofI (by omega), zofI (by omega)] at z3
            rw [if_pos (by omega)] at C
            refine zpE_run 4 rfl ?_
            refine zpE_call rfl rfl (p_26 0 3 2 rfl rfl (fun _ => rfl) (by rw [g.1]; decide)) (fun v h1 nc1 ns1 q8 => ?_) (fun E h1 nc1 ns1 q8 => by cases q8)
            cases q8
            have G := l_4i (r := r) hk hs0 htop ht hw N f (n + 1) (acc ++ [Int32.ofNat n]) (zup a' 0 (zst (a' 0) (Int32.ofNat acc.length) (Int32.ofNat n))) (by omega) (by omega) (by omega) (by simp; omega) (zpf_add g (by omega)) C
            rw [← zof1, List.length_append, show [Int32.ofNat n].length = 1 from rfl, ← zof1] at G
            exact zpE_run 3 rfl G
end ZPD
end zg16
section zg17
/-- the columns of the data bits -/
def zdl (k r : Nat) : List Int32 := if 5 ≤ r then zin k (2 ^ r) 5 64 1 (zin k (2 ^ r) 3 64 1 []) else zin k (2 ^ r) 3 64 1 []
section ZPH
variable {xs : List Int32} {N : Nat} {s : Nat → Int32} {a : Nat → List Int32} {T : zH} {nc ns : Nat} {P : zO → Prop}
theorem ztop {r : Nat} (hr : r = 4 ∨ r = 5 ∨ r = 6) : Int32.ofInt 1 <<< (Int32.ofNat r &&& 31) = Int32.ofNat (2 ^ r) ∧ 2 ^ r ≤ 64 := by
  rcases hr with rfl | rfl | rfl <;> decide
theorem p_4 {k r : Nat} (hk : k ≤ 10) (hr : r = 4 ∨ r = 5 ∨ r = 6) (hs0 : s 0 = Int32.ofNat k) (hs1 : s 1 = Int32.ofNat r) (hL : (a 0).length = 16) : zpM xs N 4 [.ref 1] (zx s a T) nc ns (fun o => ∃ a', o = (.inl none, zx s a' T, nc, ns) ∧ zpf a a' (zdl k r) ∧ (zdl k r).length ≤ k) := by
  intro L0 e
  cases e
  obtain ⟨top, ht⟩ := ztop hr
  rw [← hs1] at top
  refine zpE_run 7 (L' := [some (.ref 1), some (.int (Int32.ofNat 0)), some (.int (Int32.ofNat 3)), none]) (st' := [.int (s 1), .int (Int32.ofNat 3)]) rfl ?_
  have he : ∀ w : Nat, w < 100 → r < w → ∀ (a' : Nat → List Int32) (m n' : Option Value), zpf a a' (zdl k r) → (zdl k r).length ≤ k → zpE xs N 4 9 [some (.ref 1), m, some (.int (Int32.ofNat w)), n'] [.int (s 1), .int (Int32.ofNat w)] (zx s a' T) nc ns (fun o => ∃ a', o = (.inl none, zx s a' T, nc, ns) ∧ zpf a a' (zdl k r) ∧ (zdl k r).length ≤ k) := by
    intro w hw hrw a' m n' g h9
    rw [hs1]
    refine zpE_icmp rfl (fun _ => ?_) (fun q => ?_)
    · exact zpE_end rfl rfl ⟨a', rfl, g, h9⟩
    · have z := zF_gt_f q
      rw [zofI (by omega), zofI (by omega)] at z
      omega
  rw [hs1]
  refine zpE_icmp rfl (fun q => ?_) (fun _ => ?_)
  · have z := zF_gt_t q
    rw [zofI (by omega), zofI (by omega)] at z
    omega
  · refine zpE_run 2 (L' := [some (.ref 1), some (.int (Int32.ofNat ([] : List Int32).length)), some (.int (Int32.ofNat 3)), some (.int (Int32.ofNat 1))]) rfl ?_
    refine l_4i (r := s 1) hk hs0 top ht (by decide) N 64 1 [] a (Nat.le_refl _) (by omega) (by decide) (Nat.zero_le _) ⟨hL, fun _ _ => rfl, a 0, rfl⟩ (fun a1 n1 g1 h1 => ?_)
    refine zpE_run 5 (L' := [some (.ref 1), some (.int (Int32.ofNat (zin k (2 ^ r) 3 64 1 []).length)), some (.int (Int32.ofNat 5)), some (.int n1)]) (st' := [.int (s 1), .int (Int32.ofNat 5)]) rfl ?_
    by_cases h5 : 5 ≤ r
    · have ez : zdl k r = zin k (2 ^ r) 5 64 1 (zin k (2 ^ r) 3 64 1 []) := if_pos h5
      rw [hs1]
      refine zpE_icmp rfl (fun q => ?_) (fun _ => ?_)
      · have z := zF_gt_t q
        rw [zofI (by omega), zofI (by omega)] at z
        omega
      · refine zpE_run 2 (L' := [some (.ref 1), some (.int (Int32.ofNat (zin k (2 ^ r) 3 64 1 []).length)), some (.int (Int32.ofNat 5)), some (.int (Int32.ofNat 1))]) rfl ?_
        refine l_4i (r := s 1) hk hs0 top ht (by decide) N 64 1 _ a1 (Nat.le_refl _) (by omega) (by decide) h1 g1 (fun a2 n2 g2 h2 => ?_)
        rw [← ez] at g2 h2
        refine zpE_run 5 (L' := [some (.ref 1), some (.int (Int32.ofNat (zin k (2 ^ r) 5 64 1 (zin k (2 ^ r) 3 64 1 [])).length)), some (.int (Int32.ofNat 7)), some (.int n2)]) (st' := [.int (s 1), .int (Int32.ofNat 7)]) rfl ?_
        exact he 7 (by decide) (by omega) a2 _ _ g2 h2
    · have ez : zdl k r = zin k (2 ^ r) 3 64 1 [] := if_neg h5
      rw [← ez] at g1 h1
      exact he 5 (by decide) (by omega) a1 _ _ g1 h1
end ZPH
end zg17
section zg18
section ZPI
variable {xs : List Int32} {N y pc nx k yy m c : Nat} {L : zL} {h : zH} {nc ns : Nat} {P : zO → Prop}
theorem zpE_ast {j v : Int32} {a : Nat} {l : List Int32} {r : List Value} (h1 : zat (zmc y) pc = some (.iastore, nx, k, yy, m, c)) (ha : h[a]? = some (100, l.map Value.int)) (hj : ¬ j < 0) (hl : j.toNatClampNeg < l.length) (g : zpE xs N y nx L r (h.set a (100, (l.set j.toNatClampNeg v).map Value.int)) nc ns P) : zpE xs N y pc L (.int v :: .int j :: .ref a :: r) h nc ns P := by
  refine zpE_step (dc := 0) (ds := 0) h1 ?_ g
  show zast 100 some nx L (.int v :: .int j :: .ref a :: r) h = _
  unfold zast
  dsimp only
  rw [ha]
  dsimp only
  rw [if_pos rfl, if_neg hj, if_pos (by rw [List.length_map]; exact hl), List.map_set]
  rfl
end ZPI
section ZPJ
variable {xs : List Int32} {N : Nat} {s : Nat → Int32} {a : Nat → List Int32} {T : zH} {nc ns : Nat} {P : zO → Prop}
theorem zup2 {α : Type} {f : Nat → α} {k : Nat} {u v : α} : zup (zup f k u) k v = zup f k v := by
  funext j
  show (if j = k then v else if j = k then u else f j) = if j = k then v else f j
  split <;> rfl
theorem zrepd {l : List Int32} {v : Int32} {i : Nat} (hi : i < l.length) : (List.replicate i v ++ l.drop i).set i v = List.replicate (i + 1) v ++ l.drop (i + 1) := by
  rw [List.set_append_right _ _ (by rw [List.length_replicate]; exact Nat.le_refl _), List.length_replicate, Nat.sub_self, List.drop_eq_getElem_cons hi, List.set_cons_zero, List.replicate_succ', List.append_assoc]
  rfl
theorem l_27p (kk q r0 : Nat) {v : Int32} (hr : ∀ a, (zx s a T)[r0]? = some (2, [.ref q])) (hq : ∀ a, (zx s a T)[q]? = some (zar (a kk))) (hs : ∀ a l, (zx s a T).set q (zar l) = zx s (zup a kk l) T) (hl : (a kk).length < 2147483648) : ∀ (N i : Nat), i ≤ (a kk).length →
    zpE xs N 27 2 [some (.ref r0), some (.int v), some (.int (Int32.ofNat i))] [] (zx s (zup a kk (List.replicate i v ++ (a kk).drop i)) T) nc ns (fun o => o = (.inl none, zx s (zup a kk (List.replicate (a kk).length v)) T, nc, ns))
  | 0, _, _ => zpE_0
  | N + 1, i, hi => by
    have el : (List.replicate i v ++ (a kk).drop i).length = (a kk).length := by
      rw [List.length_append, List.length_replicate, List.length_drop]
      omega
    have e9 : zup a kk (List.replicate i v ++ (a kk).drop i) kk = List.replicate i v ++ (a kk).drop i := if_pos rfl
    have q9 := hq (zup a kk (List.replicate i v ++ (a kk).drop i))
    rw [e9] at q9
    refine zpE_run1 1 rfl ?_
    refine zpE_get rfl (hr _) rfl rfl ?_
    refine zpE_alen rfl q9 (by decide) ?_
    rw [List.length_map, el]
    refine zpE_icmp rfl (fun q1 => ?_) (fun q1 => ?_)
    · have z := zF_ge_t q1
      rw [zofI (by omega), zofI (by omega)] at z
      obtain rfl : i = (a kk).length := by omega
      refine zpE_end rfl rfl ?_
      rw [List.drop_length, List.append_nil]
      rfl
    · have z := zF_ge_f q1
      rw [zofI (by omega), zofI (by omega)] at z
      have G := l_27p kk q r0 (v := v) hr hq hs hl N (i + 1) (by omega)
      rw [← zof1, ← zrepd (by omega)] at G
      refine zpE_run 1 rfl ?_
      refine zpE_get rfl (hr _) rfl rfl ?_
      refine zpE_run 2 rfl ?_
      refine zpE_ast rfl q9 (fun z9 => by
        have z9 := zlt_z z9
        rw [zofI (by omega), zero_z] at z9
        omega) (by rw [zcl_of (by omega), el]; omega) ?_
      rw [zcl_of (by omega)]
      have es := hs (zup a kk (List.replicate i v ++ (a kk).drop i)) ((List.replicate i v ++ (a kk).drop i).set i v)
      rw [zup2] at es
      rw [show (100, List.map Value.int ((List.replicate i v ++ (a kk).drop i).set i v)) = zar ((List.replicate i v ++ (a kk).drop i).set i v) from rfl, es]
      exact zpE_run 2 rfl G
theorem p_27 (kk q r0 : Nat) {v : Int32} (hr : ∀ a, (zx s a T)[r0]? = some (2, [.ref q])) (hq : ∀ a, (zx s a T)[q]? = some (zar (a kk))) (hs : ∀ a l, (zx s a T).set q (zar l) = zx s (zup a kk l) T) (hl : (a kk).length < 2147483648) : zpM xs N 27 [.ref r0, .int v] (zx s a T) nc ns (fun o => o = (.inl none, zx s (zup a kk (List.replicate (a kk).length v)) T, nc, ns)) := by
  intro L0 e
  cases e
  have G := l_27p (xs := xs) (T := T) (nc := nc) (ns := ns) kk q r0 (v := v) hr hq hs hl N 0 (Nat.zero_le _)
  rw [List.drop_zero, List.replicate_zero, List.nil_append] at G
  rw [show zup a kk (a kk) = a by
    funext j
    show (if j = kk then a kk else a j) = a j
    split
    · next e => rw [e]
    · rfl] at G
  exact zpE_run 2 rfl G
/-- the turns by syndrome, of the first columns -/
def zts (c : List Int32) : Nat → List Int32
  | 0 => zst (List.replicate 64 (Int32.ofInt (-1))) (Int32.ofInt 0) (Int32.ofInt 0)
  | n + 1 => zst (zts c n) (c.getD n 0) (Int32.ofInt 1 <<< (Int32.ofNat n &&& 31))
def zck (n : Nat) : List Int32 := (List.range n).map (fun i => Int32.ofInt 1 <<< (Int32.ofNat i &&& 31))
/-- all columns -/
def zcol (k r : Nat) : List Int32 := zdl k r ++ zck r
theorem zck_len (n : Nat) : (zck n).length = n := by
  unfold zck
  rw [List.length_map, List.length_range]
theorem zck_s (n : Nat) : zck (n + 1) = zck n ++ [Int32.ofInt 1 <<< (Int32.ofNat n &&& 31)] := by
  unfold zck
  rw [List.range_succ, List.map_append]
  rfl
theorem zts_len (c : List Int32) : ∀ n, (zts c n).length = 64
  | 0 => by
    show (zst _ _ _).length = 64
    rw [zst_len, List.length_replicate]
  | n + 1 => by
    show (zst _ _ _).length = 64
    rw [zst_len]
    exact zts_len c n
end ZPJ
end zg18
section zg19
section ZPK
variable {xs : List Int32} {N : Nat} {s : Nat → Int32} {a : Nat → List Int32} {T : zH} {nc ns : Nat} {P : zO → Prop}
theorem p_25l (k q r0 : Nat) {j : Int32} (hr : (zx s a T)[r0]? = some (2, [.ref q])) (hq : (zx s a T)[q]? = some (zar (a k))) (hL : (a k).length < 2147483648) : zpM xs N 25 [.ref r0, .int j] (zx s a T) nc ns (fun o => o = (.inl (some (.int (zgt (a k) j))), zx s a T, nc, ns)) :=
  zpM_of (m_25 (xs := xs) (D := 0) (nc := nc) (ns := ns) (i := j) hr hq hL)
theorem zgt_n {l : List Int32} {i : Nat} (h : i < 2147483648) : zgt l (Int32.ofNat i) = l.getD i 0 := by
  unfold zgt
  rw [if_neg (fun z => by
    have z := zlt_z z
    rw [zofI h, zero_z] at z
    omega), zcl_of h]
theorem l_3a {k r : Nat} (hk : k ≤ 10) (hr : r ≤ 6) (hd : (zdl k r).length = k) {N0 : Nat} : ∀ (N i : Nat) (a' : Nat → List Int32), N ≤ N0 → i ≤ r → zpf a a' (zdl k r ++ zck i) →
    (∀ a', zpf a a' (zcol k r) → zpE xs N0 3 47 [some (.ref 1), some (.int (Int32.ofNat k)), some (.int (Int32.ofNat r)), some (.int (Int32.ofNat r))] [] (zx s a' T) nc ns P) →
    zpE xs N 3 23 [some (.ref 1), some (.int (Int32.ofNat k)), some (.int (Int32.ofNat r)), some (.int (Int32.ofNat i))] [] (zx s a' T) nc ns P
  | 0, _, _, _, _, _, _ => zpE_0
  | N + 1, i, a', hN, hi, g, C => by
    refine zpE_run1 1 rfl ?_
    refine zpE_icmp rfl (fun q => ?_) (fun q => ?_)
    · have z := zF_ge_t q
      rw [zofI (by omega), zofI (by omega)] at z
      obtain rfl : i = r := by omega
      exact zpE_le (by omega) (C a' g)
    · have z := zF_ge_f q
      rw [zofI (by omega), zofI (by omega)] at z
      have len : (zdl k r ++ zck i).length = k + i := by rw [List.length_append, hd, zck_len]
      have g9 := zpf_add (v := Int32.ofInt 1 <<< (Int32.ofNat i &&& 31)) g (by rw [len]; omega)
      rw [List.append_assoc, ← zck_s, len] at g9
      have G := l_3a hk hr hd N (i + 1) _ (by omega) (by omega) g9 C
      rw [← zof1] at G
      refine zpE_run 8 (st' := [.int (Int32.ofInt 1 <<< (Int32.ofNat i &&& 31)), .int (Int32.ofNat k + Int32.ofNat i), .ref 2]) rfl ?_
      rw [← Int32.ofNat_add]
      refine zpE_call rfl rfl (p_26 0 3 2 rfl rfl (fun _ => rfl) (by rw [g.1]; decide)) (fun v h1 nc1 ns1 q8 => ?_) (fun E h1 nc1 ns1 q8 => by cases q8)
      cases q8
      exact zpE_run 2 rfl G
theorem l_3b {c t : List Int32} {o1 : Option Value} {y2 : Int32} (hs2 : s 2 = Int32.ofNat c.length) (hc : c.length ≤ 16) (h0 : a 0 = c ++ t) (h16 : (a 0).length = 16) : ∀ (N i : Nat), i ≤ c.length →
    zpE xs N 3 66 [some (.ref 1), o1, some (.int y2), some (.int (Int32.ofNat i))] [] (zx s (zup a 1 (zts c i)) T) nc ns (fun o => o = (.inl none, zx s (zup a 1 (zts c c.length)) T, nc, ns))
  | 0, _, _ => zpE_0
  | N + 1, i, hi => by
    refine zpE_run1 2 (st' := [.int (s 2), .int (Int32.ofNat i)]) rfl ?_
    rw [hs2]
    refine zpE_icmp rfl (fun q => ?_) (fun q => ?_)
    · have z := zF_ge_t q
      rw [zofI (by omega), zofI (by omega)] at z
      obtain rfl : i = c.length := by omega
      exact zpE_end rfl rfl rfl
    · have z := zF_ge_f q
      rw [zofI (by omega), zofI (by omega)] at z
      have G := l_3b hs2 hc h0 h16 (o1 := o1) (y2 := y2) N (i + 1) (by omega)
      rw [← zof1] at G
      refine zpE_run 5 rfl ?_
      refine zpE_call rfl rfl (p_25l 0 3 2 rfl rfl (show (a 0).length < 2147483648 by rw [h16]; decide)) (fun v h1 nc1 ns1 q8 => ?_) (fun E h1 nc1 ns1 q8 => by cases q8)
      cases q8
      have eg : zgt (zup a 1 (zts c i) 0) (Int32.ofNat i) = c.getD i 0 := by
        rw [zgt_n (by omega)]
        show (a 0).getD i 0 = _
        rw [h0, List.getD_eq_getElem?_getD, List.getD_eq_getElem?_getD, List.getElem?_append_left (by omega)]
      rw [eg]
      refine zpE_run 3 (st' := [.int (Int32.ofInt 1 <<< (Int32.ofNat i &&& 31)), .int (c.getD i 0), .ref 4]) rfl ?_
      refine zpE_call rfl rfl (p_26 1 5 4 rfl rfl (fun _ => rfl) (show (zts c i).length < 2147483648 by rw [zts_len]; decide)) (fun v h1 nc1 ns1 q8 => ?_) (fun E h1 nc1 ns1 q8 => by cases q8)
      cases q8
      rw [zup2]
      exact zpE_run 2 rfl G
/-- the class's scalars with a code -/
abbrev zsc (s : Nat → Int32) (k r : Nat) : Nat → Int32 := zup (zup (zup s 0 (Int32.ofNat k)) 1 (Int32.ofNat r)) 2 (Int32.ofNat (k + r))
theorem p_3 {k r : Nat} (hk : k ≤ 10) (hr : r = 4 ∨ r = 5 ∨ r = 6) (hd : (zdl k r).length = k) (h0 : (a 0).length = 16) (h1 : (a 1).length = 64) : zpM xs N 3 [.ref 1, .int (Int32.ofNat k), .int (Int32.ofNat r)] (zx s a T) nc ns (fun o => ∃ a', o = (.inl none, zx (zsc s k r) a' T, nc, ns) ∧ (∃ t, a' 0 = zcol k r ++ t) ∧ (a' 0).length = 16 ∧ a' 1 = zts (zcol k r) (k + r) ∧ ∀ j, j ≠ 0 → j ≠ 1 → a' j = a j) := by
  intro L0 e
  cases e
  have e2 : Int32.ofNat k + Int32.ofNat r = Int32.ofNat (k + r) := (Int32.ofNat_add k r).symm
  refine zpE_run 12 (h' := zx (zup (zup (zup s 0 (Int32.ofNat k)) 1 (Int32.ofNat r)) 2 (Int32.ofNat k + Int32.ofNat r)) a T) rfl ?_
  rw [e2]
  refine zpE_call rfl rfl (p_4 hk hr rfl rfl h0) (fun v h9 nc1 ns1 q8 => ?_) (fun E h9 nc1 ns1 q8 => by obtain ⟨_, q8, _⟩ := q8; cases q8)
  obtain ⟨a1, q8, g1, g2⟩ := q8
  cases q8
  refine zpE_run 2 (L' := [some (.ref 1), some (.int (Int32.ofNat k)), some (.int (Int32.ofNat r)), some (.int (Int32.ofNat 0))]) rfl ?_
  refine l_3a (a := a) hk (by omega) hd N 0 a1 (Nat.le_refl _) (Nat.zero_le _) (by
    rw [show zck 0 = [] from rfl, List.append_nil]
    exact g1) (fun a2 g3 => ?_)
  refine zpE_run 3 rfl ?_
  have l1 : (a2 1).length = 64 := by rw [g3.2.1 1 (by decide)]; exact h1
  refine zpE_call rfl rfl (p_27 1 5 4 (fun _ => rfl) (fun _ => rfl) (fun _ _ => rfl) (by rw [l1]; decide)) (fun v h9 nc1 ns1 q8 => ?_) (fun E h9 nc1 ns1 q8 => by cases q8)
  cases q8
  rw [l1]
  refine zpE_run 4 rfl ?_
  refine zpE_call rfl rfl (p_26 1 5 4 rfl rfl (fun _ => rfl) (show (List.replicate 64 (Int32.ofInt (-1))).length < 2147483648 by rw [List.length_replicate]; decide)) (fun v h9 nc1 ns1 q8 => ?_) (fun E h9 nc1 ns1 q8 => by cases q8)
  cases q8
  rw [zup2]
  obtain ⟨b1, b2, t, b3⟩ := g3
  have lc : (zcol k r).length = k + r := by
    unfold zcol
    rw [List.length_append, hd, zck_len]
  refine zpE_run 2 (L' := [some (.ref 1), some (.int (Int32.ofNat k)), some (.int (Int32.ofNat r)), some (.int (Int32.ofNat 0))]) rfl ?_
  have G := l_3b (xs := xs) (s := zsc s k r) (a := a2) (T := T) (nc := nc) (ns := ns) (c := zcol k r) (t := t) (o1 := some (.int (Int32.ofNat k))) (y2 := Int32.ofNat r) (by rw [lc]; rfl) (by rw [lc]; omega) b3 b1 N 0 (Nat.zero_le _)
  refine zpE_post G (fun o ho => ?_)
  rw [lc] at ho
  refine ⟨_, ho, ⟨t, b3⟩, b1, rfl, fun j j0 j1 => ?_⟩
  show (if j = 1 then _ else a2 j) = a j
  rw [if_neg j1]
  exact b2 j j0
end ZPK
end zg19
section zg20
/-! The fifteen codes. -/
def zcds : List (Nat × Nat) := [(4, 4), (4, 5), (5, 5), (6, 5), (7, 5), (8, 5), (9, 5), (10, 5), (4, 6), (5, 6), (6, 6), (7, 6), (8, 6), (9, 6), (10, 6)]
/-- the turn of a syndrome -/
def ztn (c : List Int32) (x : Int32) : Int32 := if x = 0 then 0 else if zfn c x 0 = Int32.ofInt (-1) then Int32.ofInt (-1) else Int32.ofInt 1 <<< (zfn c x 0 &&& 31)
theorem zcds_dl : ∀ q ∈ zcds, (zdl q.1 q.2).length = q.1 := by
  have e : zcds.all (fun q => decide ((zdl q.1 q.2).length = q.1)) = true := by decide +kernel
  exact fun q hq => of_decide_eq_true (List.all_eq_true.mp e q hq)
theorem zcds_tn : ∀ q ∈ zcds, ∀ x, x < 64 → zgt (zts (zcol q.1 q.2) (q.1 + q.2)) (Int32.ofNat x) = ztn (zcol q.1 q.2) (Int32.ofNat x) := by
  have e : zcds.all (fun q => (List.range 64).all (fun x => decide (zgt (zts (zcol q.1 q.2) (q.1 + q.2)) (Int32.ofNat x) = ztn (zcol q.1 q.2) (Int32.ofNat x)))) = true := by decide +kernel
  exact fun q hq x hx => of_decide_eq_true (List.all_eq_true.mp (List.all_eq_true.mp e q hq) x (List.mem_range.mpr hx))
/-- which codes there are -/
def zCd (x1 x2 : Int32) : Prop := (4 ≤ x1.toInt ∧ x1.toInt ≤ 10) ∧ (4 ≤ x2.toInt ∧ x2.toInt ≤ 6) ∧ x1.toInt ≤ (zdm x2).toInt
theorem zCd_ok {x1 x2 : Int32} (h : zCd x1 x2) : ∃ k r : Nat, (k, r) ∈ zcds ∧ x1 = Int32.ofNat k ∧ x2 = Int32.ofNat r ∧ k ≤ 10 ∧ (r = 4 ∨ r = 5 ∨ r = 6) := by
  obtain ⟨⟨a1, a2⟩, ⟨b1, b2⟩, c⟩ := h
  have e1 : x1 = Int32.ofNat x1.toInt.toNat := Int32.toInt_inj.mp (by rw [zofI (by omega)]; omega)
  have e2 : x2 = Int32.ofNat x2.toInt.toNat := Int32.toInt_inj.mp (by rw [zofI (by omega)]; omega)
  refine ⟨x1.toInt.toNat, x2.toInt.toNat, ?_, e1, e2, by omega, by omega⟩
  have e4 : (4 : Int32).toInt = 4 := by decide
  have hz : x2.toInt = 4 → (zdm x2).toInt = 4 := by
    intro h
    obtain rfl : x2 = 4 := Int32.toInt_inj.mp (by omega)
    decide
  have e : (List.range 11).all (fun k => (List.range 7).all (fun r => decide (4 ≤ k → 4 ≤ r → (r = 4 → k ≤ 4) → (k, r) ∈ zcds))) = true := by decide +kernel
  exact of_decide_eq_true (List.all_eq_true.mp (List.all_eq_true.mp e x1.toInt.toNat (List.mem_range.mpr (by omega))) x2.toInt.toNat (List.mem_range.mpr (by omega))) (by omega) (by omega) (fun h => by
    have := hz (by omega)
    omega)
/-- a number below 64 -/
def zl64 (x : Int32) : Prop := ∃ n : Nat, n < 64 ∧ x = Int32.ofNat n
theorem zl64_xor {x y : Int32} (hx : zl64 x) (hy : zl64 y) : zl64 (x ^^^ y) := by
  obtain ⟨n, hn, rfl⟩ := hx
  obtain ⟨m, hm, rfl⟩ := hy
  refine ⟨n ^^^ m, Nat.xor_lt_two_pow (n := 6) hn hm, ?_⟩
  have e : (List.range 64).all (fun n => (List.range 64).all (fun m => decide (Int32.ofNat n ^^^ Int32.ofNat m = Int32.ofNat (n ^^^ m)))) = true := by decide +kernel
  exact of_decide_eq_true (List.all_eq_true.mp (List.all_eq_true.mp e n (List.mem_range.mpr hn)) m (List.mem_range.mpr hm))
theorem zsyn_l {c : Nat → Int32} {w : Int32} (h : ∀ k, zl64 (c k)) : ∀ n, zl64 (zsyn c w n)
  | 0 => ⟨0, by decide, rfl⟩
  | n + 1 => by
    show zl64 (if zbt w n then zsyn c w n ^^^ c n else zsyn c w n)
    split
    · exact zl64_xor (zsyn_l h n) (h n)
    · exact zsyn_l h n
theorem zsyn_congr {c d : Nat → Int32} {w : Int32} : ∀ n, (∀ k, k < n → c k = d k) → zsyn c w n = zsyn d w n
  | 0, _ => rfl
  | n + 1, h => by
    show (if zbt w n then zsyn c w n ^^^ c n else zsyn c w n) = (if zbt w n then zsyn d w n ^^^ d n else zsyn d w n)
    rw [zsyn_congr n (fun k hk => h k (by omega)), h n (by omega)]
theorem zcol_l : ∀ q ∈ zcds, ∀ k, zl64 (zcm (zcol q.1 q.2) k) := by
  have e : zcds.all (fun q => (List.range 16).all (fun k => (List.range 64).any (fun n => decide (zcm (zcol q.1 q.2) k = Int32.ofNat n)))) = true := by decide +kernel
  have e2 : zcds.all (fun q => decide ((zcol q.1 q.2).length ≤ 16)) = true := by decide +kernel
  intro q hq k
  by_cases hk : k < 16
  · obtain ⟨n, hn, z⟩ := List.any_eq_true.mp (List.all_eq_true.mp (List.all_eq_true.mp e q hq) k (List.mem_range.mpr hk))
    exact ⟨n, List.mem_range.mp hn, of_decide_eq_true z⟩
  · have l := of_decide_eq_true (List.all_eq_true.mp e2 q hq)
    refine ⟨0, by decide, ?_⟩
    show (zcol q.1 q.2).getD k 0 = 0
    rw [List.getD_eq_getElem?_getD, List.getElem?_eq_none (by omega)]
    rfl
end zg20
section zg21
/-! The class's code and the reference's, side by side. -/
/-- the class's rows tell the columns c of k and r -/
def zRC (s : Nat → Int32) (a : Nat → List Int32) (k r : Nat) : Prop := (k, r) ∈ zcds ∧ s 0 = Int32.ofNat k ∧ s 1 = Int32.ofNat r ∧ s 2 = Int32.ofNat (k + r) ∧ (∃ t, a 0 = zcol k r ++ t) ∧ a 1 = zts (zcol k r) (k + r)
section ZPL
variable {s : Nat → Int32} {a : Nat → List Int32} {k r : Nat} {w : Int32}
theorem zcds_kr : ∀ q ∈ zcds, 4 ≤ q.1 ∧ q.1 ≤ 10 ∧ 4 ≤ q.2 ∧ q.2 ≤ 6 ∧ (zcol q.1 q.2).length = q.1 + q.2 := by
  have e : zcds.all (fun q => decide (4 ≤ q.1 ∧ q.1 ≤ 10 ∧ 4 ≤ q.2 ∧ q.2 ≤ 6 ∧ (zcol q.1 q.2).length = q.1 + q.2)) = true := by decide +kernel
  exact fun q hq => of_decide_eq_true (List.all_eq_true.mp e q hq)
theorem zRC_syn (h : zRC s a k r) : zsyn (zco a) w (zwi s) = zsm (zcol k r) w := by
  obtain ⟨h1, h2, h3, h4, ⟨t, h5⟩, h6⟩ := h
  obtain ⟨b1, b2, b3, b4, b5⟩ := zcds_kr _ h1
  have b5 : (zcol k r).length = k + r := b5
  have b2 : k ≤ 10 := b2
  have b4 : r ≤ 6 := b4
  have e : zwi s = (zcol k r).length := by
    show (s 2).toInt.toNat = _
    rw [h4, zofI (by omega), b5]
    rfl
  rw [e]
  refine zsyn_congr _ (fun j hj => ?_)
  show zgt (a 0) (Int32.ofNat j) = (zcol k r).getD j 0
  rw [zgt_n (by omega), h5, List.getD_eq_getElem?_getD, List.getD_eq_getElem?_getD, List.getElem?_append_left hj]
theorem zRC_lo (h : (k, r) ∈ zcds) : zl64 (zsm (zcol k r) w) := zsyn_l (fun j => zcol_l _ h j) _
theorem zRC_turn (h : zRC s a k r) : ztu s a w = ztn (zcol k r) (zsm (zcol k r) w) := by
  show zgt (a 1) (zsyn (zco a) w (zwi s)) = _
  rw [zRC_syn h]
  obtain ⟨n, hn, e⟩ := zRC_lo (w := w) h.1
  rw [e, h.2.2.2.2.2]
  exact zcds_tn _ h.1 n hn
/-- a column's place is below 16 -/
theorem zfn_lt (x : Int32) : ∀ (c : List Int32) (i : Nat), zfn c x i = Int32.ofInt (-1) ∨ ∃ j, i ≤ j ∧ j < i + c.length ∧ zfn c x i = Int32.ofNat j
  | [], _ => Or.inl rfl
  | y :: c, i => by
    by_cases e : y = x
    · exact Or.inr ⟨i, Nat.le_refl _, by simp, if_pos e⟩
    · have z : zfn (y :: c) x i = zfn c x (i + 1) := if_neg e
      rcases zfn_lt x c (i + 1) with g | ⟨j, g1, g2, g3⟩
      · exact Or.inl (z.trans g)
      · exact Or.inr ⟨j, by omega, by simp; omega, z.trans g3⟩
theorem zsh16 : ∀ j, j < 16 → ¬ Int32.ofInt 1 <<< (Int32.ofNat j &&& 31) = 0 ∧ ¬ Int32.ofInt 1 <<< (Int32.ofNat j &&& 31) = Int32.ofInt (-1) ∧ zbc (Int32.ofInt 1 <<< (Int32.ofNat j &&& 31) - Int32.ofInt 1) = Int32.ofNat j ∧ ¬ Int32.ofNat j = Int32.ofInt (-1) ∧ 0 < Int32.ofInt 1 <<< (Int32.ofNat j &&& 31) := by
  have e : (List.range 16).all (fun j => decide (¬ Int32.ofInt 1 <<< (Int32.ofNat j &&& 31) = 0 ∧ ¬ Int32.ofInt 1 <<< (Int32.ofNat j &&& 31) = Int32.ofInt (-1) ∧ zbc (Int32.ofInt 1 <<< (Int32.ofNat j &&& 31) - Int32.ofInt 1) = Int32.ofNat j ∧ ¬ Int32.ofNat j = Int32.ofInt (-1) ∧ 0 < Int32.ofInt 1 <<< (Int32.ofNat j &&& 31))) = true := by decide +kernel
  exact fun j hj => of_decide_eq_true (List.all_eq_true.mp e j (List.mem_range.mpr hj))
/-- a word's turn, bit and kind: clean, mended or bad -/
theorem zRC_3 (h : zRC s a k r) : (ztu s a w = 0 ∧ zkd (zcol k r) w = 0 ∧ zsm (zcol k r) w = 0) ∨ (∃ j, j < 16 ∧ ztu s a w = Int32.ofInt 1 <<< (Int32.ofNat j &&& 31) ∧ zkd (zcol k r) w = 1 ∧ zbm9 (zcol k r) w = Int32.ofNat j ∧ ¬ zsm (zcol k r) w = 0) ∨ (ztu s a w = Int32.ofInt (-1) ∧ zkd (zcol k r) w = 2 ∧ zbm9 (zcol k r) w = Int32.ofInt (-1) ∧ ¬ zsm (zcol k r) w = 0) := by
  rw [zRC_turn h]
  unfold zkd ztn
  by_cases e : zsm (zcol k r) w = 0
  · exact Or.inl ⟨if_pos e, if_pos e, e⟩
  · rw [if_neg e, if_neg e]
    obtain ⟨b1, b2, b3, b4, b5⟩ := zcds_kr _ h.1
    have b5 : (zcol k r).length = k + r := b5
    have b2 : k ≤ 10 := b2
    have b4 : r ≤ 6 := b4
    rcases zfn_lt (zsm (zcol k r) w) (zcol k r) 0 with g | ⟨j, g1, g2, g3⟩
    · exact Or.inr (Or.inr ⟨if_pos g, if_pos g, g, e⟩)
    · have z := zsh16 j (by omega)
      refine Or.inr (Or.inl ⟨j, by omega, ?_, ?_, g3, e⟩)
      · rw [g3, if_neg z.2.2.2.1]
      · rw [show zbm9 (zcol k r) w = Int32.ofNat j from g3, if_neg z.2.2.2.1]
/-- verdicts -/
theorem zRC_vd (h : zRC s a k r) : zvd (ztu s a w) = zkd (zcol k r) w := by
  rcases zRC_3 (w := w) h with ⟨a1, a2, -⟩ | ⟨j, hj, a1, a2, a3, -⟩ | ⟨a1, a2, a3, -⟩
  · rw [a1, a2]
    decide
  · have z := zsh16 j hj
    rw [a1, a2]
    unfold zvd
    rw [if_neg z.1, if_neg z.2.1]
  · rw [a1, a2]
    decide
/-- bits -/
theorem zRC_bo (h : zRC s a k r) : zbo (ztu s a w) = if zkd (zcol k r) w = Int32.ofInt 1 then zbm9 (zcol k r) w else Int32.ofInt (-1) := by
  rcases zRC_3 (w := w) h with ⟨a1, a2, -⟩ | ⟨j, hj, a1, a2, a3, -⟩ | ⟨a1, a2, a3, -⟩
  · rw [a1, a2, if_neg (by decide)]
    decide
  · have z := zsh16 j hj
    rw [a1, a2, a3, if_pos (by decide)]
    unfold zbo
    rw [if_neg z.1, if_neg z.2.1]
    exact z.2.2.1
  · rw [a1, a2, if_neg (by decide)]
    decide
/-- data -/
theorem zRC_da (h : zRC s a k r) : zda s a w = if zkd (zcol k r) w = Int32.ofInt 2 then Int32.ofInt (-1) else zdo (zcol k r) (Int32.ofNat k) w := by
  have hm : zdma s = Int32.ofInt 1 <<< (Int32.ofNat k &&& 31) - Int32.ofInt 1 := by
    show Int32.ofInt 1 <<< (s 0 &&& 31) - Int32.ofInt 1 = _
    rw [h.2.1]
  unfold zda
  rw [hm]
  show _ = if _ then _ else zme (zcol k r) w &&& _
  unfold zme
  rcases zRC_3 (w := w) h with ⟨a1, a2, -⟩ | ⟨j, hj, a1, a2, a3, -⟩ | ⟨a1, a2, a3, -⟩
  · rw [a1, a2, if_neg (by decide), if_neg (by decide), if_neg (by decide), show w ^^^ (0 : Int32) = w from Int32.xor_zero]
  · have z := zsh16 j hj
    rw [a1, a2, a3, if_neg z.2.1, if_neg (by decide), if_pos (by decide)]
  · rw [a1, a2, if_pos rfl, if_pos (by decide)]
/-- what is mended -/
theorem zRC_me (h : zRC s a k r) : zme (zcol k r) w = if zkd (zcol k r) w = Int32.ofInt 1 then w ^^^ ztu s a w else w := by
  unfold zme
  rcases zRC_3 (w := w) h with ⟨a1, a2, -⟩ | ⟨j, hj, a1, a2, a3, -⟩ | ⟨a1, a2, a3, -⟩
  · rw [a2, if_neg (by decide), if_neg (by decide)]
  · rw [a1, a2, a3]
  · rw [a2, if_neg (by decide), if_neg (by decide)]
end ZPL
end zg21
section zg22
/-! The reference's columns, word for word. -/
section ZPN
variable {xs : List Int32} {N : Nat} {h : zH} {nc ns : Nat} {P : zO → Prop}
theorem zha_get {l : List Int32} : (h ++ [zar l])[h.length]? = some (100, l.map Value.int) := by
  rw [List.getElem?_append_right (Nat.le_refl _), Nat.sub_self]
  rfl
theorem zha_set {l l' : List Int32} : (h ++ [zar l]).set h.length (100, l'.map Value.int) = h ++ [zar l'] := by
  rw [List.set_append_right _ _ (Nat.le_refl _), Nat.sub_self]
  rfl
/-- a row whose first places are told, the others 0 -/
abbrev zrw (M : Nat) (acc : List Int32) : List Int32 := acc ++ List.replicate (M - acc.length) 0
theorem zrw_add {M : Nat} {acc : List Int32} {v : Int32} (hM : acc.length < M) : (zrw M acc).set acc.length v = zrw M (acc ++ [v]) := by
  show (acc ++ List.replicate (M - acc.length) 0).set acc.length v = (acc ++ [v]) ++ List.replicate (M - (acc ++ [v]).length) 0
  rw [List.set_append_right _ _ (Nat.le_refl _), Nat.sub_self, List.length_append, show [v].length = 1 from rfl, show M - acc.length = (M - (acc.length + 1)) + 1 by omega, List.replicate_succ, List.set_cons_zero, List.append_assoc]
  rfl
theorem zrw_len {M : Nat} {acc : List Int32} (hM : acc.length ≤ M) : (zrw M acc).length = M := by
  show (acc ++ List.replicate (M - acc.length) 0).length = M
  rw [List.length_append, List.length_replicate]
  omega
theorem l_116i {k top w M : Nat} {r : Int32} (hk : k ≤ 10) (hkM : k ≤ M) (hM : M ≤ 16) (htop : Int32.ofInt 1 <<< (r &&& 31) = Int32.ofNat top) (ht : top ≤ 64) (hw : w < 100) {N0 : Nat} : ∀ (N f n : Nat) (acc : List Int32), N ≤ N0 → top - n ≤ f → n ≤ 64 → acc.length ≤ k →
    (∀ n', (zin k top w f n acc).length ≤ k → zpE xs N0 116 57 [some (.int (Int32.ofNat k)), some (.int r), some (.ref h.length), some (.int (Int32.ofNat (zin k top w f n acc).length)), some (.int (Int32.ofNat w)), some (.int n')] [] (h ++ [zar (zrw M (zin k top w f n acc))]) nc ns P) →
    zpE xs N 116 20 [some (.int (Int32.ofNat k)), some (.int r), some (.ref h.length), some (.int (Int32.ofNat acc.length)), some (.int (Int32.ofNat w)), some (.int (Int32.ofNat n))] [] (h ++ [zar (zrw M acc)]) nc ns P
  | 0, _, _, _, _, _, _, _, _ => zpE_0
  | N + 1, f, n, acc, hN, hf, hn, ha, C => by
    have out : ¬ (n < top ∧ acc.length < k) → zin k top w f n acc = acc := by
      intro z
      cases f with
      | zero => rfl
      | succ f => exact if_neg z
    refine zpE_run1 3 (st' := [.int (Int32.ofInt 1 <<< (r &&& 31)), .int (Int32.ofNat n)]) rfl ?_
    rw [htop]
    refine zpE_icmp rfl (fun q => ?_) (fun q => ?_)
    · have z := zF_ge_t q
      rw [zofI (by omega), zofI (by omega)] at z
      rw [out (by omega)] at C
      exact zpE_le (by omega) (C _ ha)
    · have z := zF_ge_f q
      rw [zofI (by omega), zofI (by omega)] at z
      refine zpE_run 2 rfl ?_
      refine zpE_icmp rfl (fun q2 => ?_) (fun q2 => ?_)
      · have z2 := zF_ge_t q2
        rw [zofI (by omega), zofI (by omega)] at z2
        rw [out (by omega)] at C
        exact zpE_le (by omega) (C _ ha)
      · have z2 := zF_ge_f q2
        rw [zofI (by omega), zofI (by omega)] at z2
        refine zpE_run 1 rfl ?_
        refine zpE_call rfl rfl (zpM_of (t_114 (D := 0) (n := n) (by omega))) (fun v h1 nc1 ns1 q8 => ?_) (fun E h1 nc1 ns1 q8 => by cases q8)
        cases q8
        have hw7 := zwt_7 n (by omega)
        cases f with
        | zero => omega
        | succ f =>
          have ez : zin k top w (f + 1) n acc = zin k top w f (n + 1) (if zwt 6 n = w then acc ++ [Int32.ofNat n] else acc) := if_pos ⟨by omega, by omega⟩
          rw [ez] at C
          refine zpE_run 1 rfl ?_
          refine zpE_icmp rfl (fun q3 => ?_) (fun q3 => ?_)
          · have z3 := zF_ne_t q3
            rw [zofI (by omega), zofI (by omega)] at z3
            rw [if_neg (by omega)] at C
            have G := l_116i hk hkM hM htop ht hw N f (n + 1) acc (by omega) (by omega) (by omega) ha C
            rw [← zof1] at G
            exact zpE_run 2 rfl G
          · have z3 := zF_ne_f q3
            rw [zofI (by omega), zofI (by omega)] at z3
            rw [if_pos (by omega)] at C
            have G := l_116i hk hkM hM htop ht hw N f (n + 1) (acc ++ [Int32.ofNat n]) (by omega) (by omega) (by omega) (by simp; omega) C
            rw [← zof1, List.length_append, show [Int32.ofNat n].length = 1 from rfl, ← zof1, ← zrw_add (by omega)] at G
            refine zpE_run 4 rfl ?_
            refine zpE_ast rfl zha_get (fun z9 => by
              have z9 := zlt_z z9
              rw [zofI (by omega), zero_z] at z9
              omega) (by rw [zcl_of (by omega), zrw_len (by omega)]; omega) ?_
            rw [zcl_of (by omega), zha_set]
            exact zpE_run 2 rfl G
end ZPN
end zg22
section zg23
section ZPO
variable {xs : List Int32} {N y pc nx k yy m9 c : Nat} {L : zL} {h : zH} {nc ns : Nat} {P : zO → Prop}
theorem zpE_newi {m : Nat} {r : List Value} (hm : m ≤ 100) (h1 : zat (zmc y) pc = some (.newarray .int, nx, k, yy, m9, c)) (g : zpE xs N y nx L (.ref h.length :: r) (h ++ [zar (List.replicate m 0)]) (nc + 1) (ns + m) P) : zpE xs N y pc L (.int (Int32.ofNat m) :: r) h nc ns P := by
  refine zpE_step (dc := 1) (ds := m) h1 ?_ g
  show znewa 100 (.int 0) nx L (.int (Int32.ofNat m) :: r) h = _
  unfold znewa
  dsimp only
  rw [if_neg (fun z9 => by
    have z9 := zlt_z z9
    rw [zofI (by omega), zero_z] at z9
    omega), zcl_of (by omega), if_pos (by omega), if_neg (by decide)]
  unfold zar
  rw [List.map_replicate]
theorem l_116e {k r M : Nat} {o4 : Option Value} (hk : k ≤ 10) (hr : r ≤ 6) (hM : M = k + r) (hd : (zdl k r).length = k) : ∀ (N i : Nat), i ≤ r →
    zpE xs N 116 66 [some (.int (Int32.ofNat k)), some (.int (Int32.ofNat r)), some (.ref h.length), some (.int (Int32.ofNat k)), some (.int (Int32.ofNat i)), o4] [] (h ++ [zar (zrw M (zdl k r ++ zck i))]) nc ns (fun o => o = (.inl (some (.ref h.length)), h ++ [zar (zcol k r)], nc, ns))
  | 0, _, _ => zpE_0
  | N + 1, i, hi => by
    have len : (zdl k r ++ zck i).length = k + i := by rw [List.length_append, hd, zck_len]
    refine zpE_run1 1 rfl ?_
    refine zpE_icmp rfl (fun q => ?_) (fun q => ?_)
    · have z := zF_ge_t q
      rw [zofI (by omega), zofI (by omega)] at z
      obtain rfl : i = r := by omega
      refine zpE_run 1 rfl (zpE_end rfl rfl ?_)
      show (_, h ++ [zar ((zdl k i ++ zck i) ++ List.replicate (M - (zdl k i ++ zck i).length) 0)], _, _) = _
      rw [len, hM, Nat.sub_self, List.replicate_zero, List.append_nil]
      rfl
    · have z := zF_ge_f q
      rw [zofI (by omega), zofI (by omega)] at z
      have G := l_116e hk hr hM hd (o4 := o4) N (i + 1) (by omega)
      rw [← zof1, zck_s, ← List.append_assoc, ← zrw_add (by omega), len] at G
      refine zpE_run 7 (st' := [.int (Int32.ofInt 1 <<< (Int32.ofNat i &&& 31)), .int (Int32.ofNat k + Int32.ofNat i), .ref h.length]) rfl ?_
      rw [← Int32.ofNat_add]
      refine zpE_ast rfl zha_get (fun z9 => by
        have z9 := zlt_z z9
        rw [zofI (by omega), zero_z] at z9
        omega) (by rw [zcl_of (by omega), zrw_len (by omega)]; omega) ?_
      rw [zcl_of (by omega), zha_set]
      exact zpE_run 2 rfl G
theorem r_116 {k r : Nat} (hk : k ≤ 10) (hr : r = 4 ∨ r = 5 ∨ r = 6) (hd : (zdl k r).length = k) : zpM xs N 116 [.int (Int32.ofNat k), .int (Int32.ofNat r)] h nc ns (fun o => o = (.inl (some (.ref h.length)), h ++ [zar (zcol k r)], nc + 1, ns + (k + r))) := by
  intro L0 e
  cases e
  obtain ⟨top, ht⟩ := ztop hr
  refine zpE_run 3 (st' := [.int (Int32.ofNat k + Int32.ofNat r)]) rfl ?_
  rw [← Int32.ofNat_add]
  refine zpE_newi (by omega) rfl ?_
  have e0 : List.replicate (k + r) 0 = zrw (k + r) [] := by
    show _ = [] ++ List.replicate (k + r - 0) 0
    rw [List.nil_append, Nat.sub_zero]
  rw [e0]
  generalize hnc : nc + 1 = nc1
  generalize hns : ns + (k + r) = ns1
  have fin : ∀ (w : Nat) (v4 v5 : Option Value), w < 100 → r < w → zpE xs N 116 14 [some (.int (Int32.ofNat k)), some (.int (Int32.ofNat r)), some (.ref h.length), some (.int (Int32.ofNat (zdl k r).length)), some (.int (Int32.ofNat w)), v5] [.int (Int32.ofNat r), .int (Int32.ofNat w)] (h ++ [zar (zrw (k + r) (zdl k r))]) nc1 ns1 (fun o => o = (.inl (some (.ref h.length)), h ++ [zar (zcol k r)], nc1, ns1)) := by
    intro w v4 v5 hw hrw
    refine zpE_icmp rfl (fun _ => ?_) (fun q => ?_)
    · have G := l_116e (xs := xs) (h := h) (nc := nc1) (ns := ns1) (k := k) (r := r) (M := k + r) (o4 := v5) hk (by omega) rfl hd N 0 (Nat.zero_le _)
      rw [show zck 0 = [] from rfl, List.append_nil] at G
      rw [hd]
      exact zpE_run 2 rfl G
    · have z := zF_gt_f q
      rw [zofI (by omega), zofI (by omega)] at z
      omega
  refine zpE_run 7 (L' := [some (.int (Int32.ofNat k)), some (.int (Int32.ofNat r)), some (.ref h.length), some (.int (Int32.ofNat ([] : List Int32).length)), some (.int (Int32.ofNat 3)), none]) (st' := [.int (Int32.ofNat r), .int (Int32.ofNat 3)]) rfl ?_
  refine zpE_icmp rfl (fun q => ?_) (fun _ => ?_)
  · have z := zF_gt_t q
    rw [zofI (by omega), zofI (by omega)] at z
    omega
  · refine zpE_run 2 (L' := [some (.int (Int32.ofNat k)), some (.int (Int32.ofNat r)), some (.ref h.length), some (.int (Int32.ofNat ([] : List Int32).length)), some (.int (Int32.ofNat 3)), some (.int (Int32.ofNat 1))]) rfl ?_
    refine l_116i hk (show k ≤ k + r by omega) (by omega) top ht (by decide) N 64 1 [] (Nat.le_refl _) (by omega) (by decide) (Nat.zero_le _) (fun n1 h1 => ?_)
    refine zpE_run 4 (L' := [some (.int (Int32.ofNat k)), some (.int (Int32.ofNat r)), some (.ref h.length), some (.int (Int32.ofNat (zin k (2 ^ r) 3 64 1 []).length)), some (.int (Int32.ofNat 5)), some (.int n1)]) (st' := [.int (Int32.ofNat r), .int (Int32.ofNat 5)]) rfl ?_
    by_cases h5 : 5 ≤ r
    · have ez : zdl k r = zin k (2 ^ r) 5 64 1 (zin k (2 ^ r) 3 64 1 []) := if_pos h5
      refine zpE_icmp rfl (fun q => ?_) (fun _ => ?_)
      · have z := zF_gt_t q
        rw [zofI (by omega), zofI (by omega)] at z
        omega
      · refine zpE_run 2 (L' := [some (.int (Int32.ofNat k)), some (.int (Int32.ofNat r)), some (.ref h.length), some (.int (Int32.ofNat (zin k (2 ^ r) 3 64 1 []).length)), some (.int (Int32.ofNat 5)), some (.int (Int32.ofNat 1))]) rfl ?_
        refine l_116i hk (show k ≤ k + r by omega) (by omega) top ht (by decide) N 64 1 _ (Nat.le_refl _) (by omega) (by decide) h1 (fun n2 h2 => ?_)
        rw [← ez]
        refine zpE_run 4 (L' := [some (.int (Int32.ofNat k)), some (.int (Int32.ofNat r)), some (.ref h.length), some (.int (Int32.ofNat (zdl k r).length)), some (.int (Int32.ofNat 7)), some (.int n2)]) (st' := [.int (Int32.ofNat r), .int (Int32.ofNat 7)]) rfl ?_
        exact fin 7 none _ (by decide) (by omega)
    · have ez : zdl k r = zin k (2 ^ r) 3 64 1 [] := if_neg h5
      rw [← ez]
      exact fin 5 none _ (by decide) (by omega)
end ZPO
end zg23
section zg24
/-! column, encode, decode of the class. -/
section ZPQ
variable {xs : List Int32} {N : Nat} {s : Nat → Int32} {a : Nat → List Int32} {T : zH} {nc ns : Nat} {P : zO → Prop}
theorem p_66 (hL : zaL a) {x : Int32} : zpM xs N 66 [.ref 0, .int x] (zx s a T) nc ns (fun o => (0 ≤ x.toInt ∧ x.toInt < (s 2).toInt ∧ o = (.inl (some (.int (zgt (a 0) x))), zx s a T, nc, ns)) ∨ (¬ (0 ≤ x.toInt ∧ x.toInt < (s 2).toInt) ∧ o = (.inr 1, zx s a T, nc + 1, ns + 6))) := by
  intro L0 e
  cases e
  refine zpE_run 3 rfl ?_
  refine zpE_call rfl rfl p_7 (fun v h1 nc1 ns1 q8 => ?_) (fun E h1 nc1 ns1 q8 => by cases q8)
  cases q8
  by_cases hx : 0 ≤ x.toInt ∧ x.toInt < (s 2).toInt
  · rw [if_pos hx]
    refine zpE_if rfl (fun _ => ?_) (fun q => absurd (zF_n0 q) (by decide))
    refine zpE_run 4 rfl ?_
    refine zpE_call rfl rfl (p_25 0 3 2 rfl rfl hL) (fun v h1 nc1 ns1 q8 => ?_) (fun E h1 nc1 ns1 q8 => by cases q8)
    cases q8
    exact zpE_end rfl rfl (Or.inl ⟨hx.1, hx.2, rfl⟩)
  · rw [if_neg hx]
    refine zpE_if rfl (fun q => absurd rfl (zF_n1 q)) (fun _ => ?_)
    exact zpE_end rfl rfl (Or.inr ⟨hx, rfl⟩)
theorem p_86 {x : Int32} : zpM xs N 86 [.ref 0, .int x] (zx s a T) nc ns (fun o => (0 ≤ x.toInt ∧ x.toInt ≤ (zdma s).toInt ∧ o = (.inl none, zx s a T, nc, ns)) ∨ (¬ (0 ≤ x.toInt ∧ x.toInt ≤ (zdma s).toInt) ∧ o = (.inr 0, zx s a T, nc + 1, ns + 6))) := by
  have z0 : (0 : Int32).toInt = 0 := by decide
  intro L0 e
  cases e
  refine zpE_run 1 rfl ?_
  refine zpE_if rfl (fun q => ?_) (fun q => ?_)
  · have z := zF_lt_t q
    exact zpE_end rfl rfl (Or.inr ⟨fun k => by omega, rfl⟩)
  · have z := zF_lt_f q
    refine zpE_run 3 rfl ?_
    refine zpE_call rfl rfl p_6 (fun v h1 nc1 ns1 q8 => ?_) (fun E h1 nc1 ns1 q8 => by cases q8)
    cases q8
    refine zpE_icmp rfl (fun q9 => ?_) (fun q9 => ?_)
    · exact zpE_end rfl rfl (Or.inl ⟨by omega, zF_le_t q9, rfl⟩)
    · have z9 := zF_le_f q9
      exact zpE_end rfl rfl (Or.inr ⟨fun k => absurd k.2 (Int.not_le.mpr z9), rfl⟩)
theorem p_67 (hL : zaL a) {x : Int32} : zpM xs N 67 [.ref 0, .int x] (zx s a T) nc ns (fun o => (0 ≤ x.toInt ∧ x.toInt ≤ (zdma s).toInt ∧ o = (.inl (some (.int (x ||| zsyn (zco a) x (zwi s) <<< (s 0 &&& 31)))), zx s a T, nc, ns)) ∨ (¬ (0 ≤ x.toInt ∧ x.toInt ≤ (zdma s).toInt) ∧ o = (.inr 0, zx s a T, nc + 1, ns + 6))) := by
  intro L0 e
  cases e
  refine zpE_run 2 rfl ?_
  refine zpE_call rfl rfl p_86 (fun v h1 nc1 ns1 q8 => ?_) (fun E h1 nc1 ns1 q8 => ?_)
  · rcases q8 with ⟨b1, b2, q8⟩ | ⟨_, q8⟩
    · cases q8
      refine zpE_run 3 rfl ?_
      refine zpE_call rfl rfl (p_14 hL) (fun v h1 nc1 ns1 q8 => ?_) (fun E h1 nc1 ns1 q8 => by cases q8)
      cases q8
      exact zpE_end rfl rfl (Or.inl ⟨b1, b2, rfl⟩)
    · cases q8
  · rcases q8 with ⟨_, _, q8⟩ | ⟨b, q8⟩
    · cases q8
    · cases q8
      exact ⟨fun _ => Or.inr ⟨b, rfl⟩, fun pc2 L2 e => by cases e⟩
end ZPQ
end zg24
section zg25
section ZPR
variable {xs : List Int32} {N : Nat} {s : Nat → Int32} {a : Nat → List Int32} {T : zH} {nc ns : Nat} {P : zO → Prop}
def zdcd (s : Nat → Int32) (a : Nat → List Int32) (x y : Int32) : Int32 := if y = 0 then zsyn (zco a) x (zwi s) else if y = 1 then zvd (ztu s a x) else if y = 2 then zbo (ztu s a x) else zda s a x
abbrev zwc (s : Nat → Int32) : Int32 := Int32.ofInt 1 <<< (s 2 &&& 31)
theorem zpE_tabd {y pc nx k yy m c : Nat} {d lo hi : Int} {offs : Array Int} {L : zL} {h : zH} {x : Int32} {r : List Value} {t : Nat} (h1 : zat (zmc y) pc = some (.tableswitch d lo hi offs, nx, k, yy, m, c)) (hx : x.toInt < lo ∨ hi < x.toInt) (ht : (pc : Int) + d = .ofNat t) (g : zpE xs N y t L r h nc ns P) : zpE xs N y pc L (.int x :: r) h nc ns P := by
  refine zpE_step (dc := 0) (ds := 0) h1 ?_ g
  show ztab pc d lo hi offs L (.int x :: r) h = _
  unfold ztab
  dsimp only
  rw [if_pos hx]
  unfold zoff
  rw [ht]
  rfl
theorem p_68 (hL : zaL a) {x y : Int32} : zpM xs N 68 [.ref 0, .int x, .int y] (zx s a T) nc ns (fun o => ((0 ≤ x.toInt ∧ x.toInt < (zwc s).toInt) ∧ (0 ≤ y.toInt ∧ y.toInt ≤ 3) ∧ o = (.inl (some (.int (zdcd s a x y))), zx s a T, nc, ns)) ∨ (¬ ((0 ≤ x.toInt ∧ x.toInt < (zwc s).toInt) ∧ (0 ≤ y.toInt ∧ y.toInt ≤ 3)) ∧ o = (.inr 0, zx s a T, nc + 1, ns + 6))) := by
  have z0 : (0 : Int32).toInt = 0 := by decide
  intro L0 e
  cases e
  refine zpE_run 1 rfl ?_
  refine zpE_if rfl (fun q => ?_) (fun q => ?_)
  · have z := zF_lt_t q
    exact zpE_end rfl rfl (Or.inr ⟨fun k => by omega, rfl⟩)
  · have z := zF_lt_f q
    refine zpE_run 3 rfl ?_
    refine zpE_call rfl rfl p_5 (fun v h1 nc1 ns1 q8 => ?_) (fun E h1 nc1 ns1 q8 => by cases q8)
    cases q8
    refine zpE_icmp rfl (fun q9 => ?_) (fun q9 => ?_)
    · have z9 := zF_lt_t q9
      have hx : 0 ≤ x.toInt ∧ x.toInt < (zwc s).toInt := ⟨by omega, z9⟩
      refine zpE_run 1 rfl ?_
      by_cases hy : y.toInt < 0 ∨ 3 < y.toInt
      · refine zpE_tabd (t := 95) rfl hy rfl ?_
        exact zpE_end rfl rfl (Or.inr ⟨fun k => by omega, rfl⟩)
      · have hy2 : 0 ≤ y.toInt ∧ y.toInt ≤ 3 := by omega
        have e0 : (0 : Int32).toInt = 0 := by decide
        have e1 : (1 : Int32).toInt = 1 := by decide
        have e2 : (2 : Int32).toInt = 2 := by decide
        have e3 : (3 : Int32).toInt = 3 := by decide
        rcases (show y.toInt = 0 ∨ y.toInt = 1 ∨ y.toInt = 2 ∨ y.toInt = 3 by omega) with k | k | k | k
        · obtain rfl : y = 0 := Int32.toInt_inj.mp (by omega)
          refine zpE_run 4 rfl ?_
          refine zpE_call rfl rfl (p_8 hL) (fun v h1 nc1 ns1 q8 => ?_) (fun E h1 nc1 ns1 q8 => by cases q8)
          cases q8
          exact zpE_end rfl rfl (Or.inl ⟨hx, hy2, rfl⟩)
        · obtain rfl : y = 1 := Int32.toInt_inj.mp (by omega)
          refine zpE_run 4 rfl ?_
          refine zpE_call rfl rfl (p_11 hL) (fun v h1 nc1 ns1 q8 => ?_) (fun E h1 nc1 ns1 q8 => by cases q8)
          cases q8
          exact zpE_end rfl rfl (Or.inl ⟨hx, hy2, rfl⟩)
        · obtain rfl : y = 2 := Int32.toInt_inj.mp (by omega)
          refine zpE_run 4 rfl ?_
          refine zpE_call rfl rfl (p_9 hL) (fun v h1 nc1 ns1 q8 => ?_) (fun E h1 nc1 ns1 q8 => by cases q8)
          cases q8
          refine zpE_call rfl rfl p_12 (fun v h1 nc1 ns1 q8 => ?_) (fun E h1 nc1 ns1 q8 => by cases q8)
          cases q8
          exact zpE_end rfl rfl (Or.inl ⟨hx, hy2, rfl⟩)
        · obtain rfl : y = 3 := Int32.toInt_inj.mp (by omega)
          refine zpE_run 4 rfl ?_
          refine zpE_call rfl rfl (p_13 hL) (fun v h1 nc1 ns1 q8 => ?_) (fun E h1 nc1 ns1 q8 => by cases q8)
          cases q8
          exact zpE_end rfl rfl (Or.inl ⟨hx, hy2, rfl⟩)
    · have z9 := zF_lt_f q9
      exact zpE_end rfl rfl (Or.inr ⟨fun k => absurd k.1.2 (Int.not_lt.mpr z9), rfl⟩)
end ZPR
end zg25
section zg26
section ZPS
variable {xs : List Int32} {N : Nat} {s : Nat → Int32} {a : Nat → List Int32} {T : zH} {nc ns : Nat} {P : zO → Prop}
def zP53 (s : Nat → Int32) (a : Nat → List Int32) (T : zH) (x1 x2 : Int32) (nc ns : Nat) : zO → Prop := fun o => (¬ zCd x1 x2 ∧ o = (.inr 0, zx s a T, nc + 1, ns + 6)) ∨ (zCd x1 x2 ∧ ∃ (k r : Nat) (s' : Nat → Int32) (a' : Nat → List Int32), x1 = Int32.ofNat k ∧ x2 = Int32.ofNat r ∧ zRC s' a' k r ∧ (a' 0).length = 16 ∧ zaL a' ∧ s' 4 = s 4 ∧ o = (.inl (some (.int (Int32.ofNat (k + r)))), zx s' a' T, nc, ns))
theorem p_53 (hL : zaL a) (h0 : (a 0).length = 16) (h1 : (a 1).length = 64) {x1 x2 : Int32} : zpM xs N 53 [.ref 0, .int x1, .int x2] (zx s a T) nc ns (zP53 s a T x1 x2 nc ns) := by
  have e4 : (Int32.ofInt 4).toInt = 4 := by decide
  have e10 : ((Int8.ofInt 10).toInt32).toInt = 10 := by decide
  have e6 : ((Int8.ofInt 6).toInt32).toInt = 6 := by decide
  intro L0 e
  cases e
  have c11 : ¬ zCd x1 x2 → zpE xs N 53 11 [some (.ref 0), some (.int x1), some (.int x2)] [] (zx s a T) nc ns (zP53 s a T x1 x2 nc ns) := fun nr => zpE_end rfl rfl (Or.inl ⟨nr, rfl⟩)
  have c32 : ¬ zCd x1 x2 → zpE xs N 53 32 [some (.ref 0), some (.int x1), some (.int x2)] [] (zx s a T) nc ns (zP53 s a T x1 x2 nc ns) := fun nr => zpE_end rfl rfl (Or.inl ⟨nr, rfl⟩)
  refine zpE_run 2 rfl ?_
  refine zpE_icmp rfl (fun q1 => ?_) (fun q1 => ?_)
  · have z := zF_lt_t q1
    exact c11 (fun k => by
      have := k.1.1
      omega)
  · have z1 := zF_lt_f q1
    refine zpE_run 2 rfl ?_
    refine zpE_icmp rfl (fun q2 => ?_) (fun q2 => ?_)
    · have z2 := zF_le_t q2
      refine zpE_run 2 rfl ?_
      refine zpE_icmp rfl (fun q3 => ?_) (fun q3 => ?_)
      · have z := zF_lt_t q3
        exact c32 (fun k => by
          have := k.2.1.1
          omega)
      · have z3 := zF_lt_f q3
        refine zpE_run 2 rfl ?_
        refine zpE_icmp rfl (fun q4 => ?_) (fun q4 => ?_)
        · have z4 := zF_le_t q4
          refine zpE_run 1 rfl ?_
          refine zpE_call rfl rfl (zpM_of (x_2 (D := 0) (r := x2) (by omega) (by omega))) (fun v h9 nc1 ns1 q8 => ?_) (fun E h9 nc1 ns1 q8 => by cases q8)
          cases q8
          refine zpE_run 1 rfl ?_
          refine zpE_icmp rfl (fun q5 => ?_) (fun q5 => ?_)
          · have z5 := zF_ge_t q5
            have hC : zCd x1 x2 := ⟨⟨by omega, by omega⟩, ⟨by omega, by omega⟩, z5⟩
            obtain ⟨k, r, hm, rfl, rfl, hk, hr⟩ := zCd_ok hC
            refine zpE_run 4 rfl ?_
            refine zpE_call rfl rfl (p_3 hk hr (zcds_dl _ hm) h0 h1) (fun v h9 nc1 ns1 q8 => ?_) (fun E h9 nc1 ns1 q8 => by obtain ⟨_, q8, _⟩ := q8; cases q8)
            obtain ⟨a1, q8, g1, g2, g3, g4⟩ := q8
            cases q8
            have hL1 : zaL a1 := by
              intro j
              by_cases j0 : j = 0
              · rw [j0, g2]
                decide
              · by_cases j1 : j = 1
                · rw [j1, g3, zts_len]
                  decide
                · rw [g4 j j0 j1]
                  exact hL j
            refine zpE_run 5 rfl ?_
            refine zpE_call rfl rfl (zpM_of (k_40 (D := 0) hL1)) (fun v h9 nc1 ns1 q8 => ?_) (fun E h9 nc1 ns1 q8 => ?_)
            · rcases q8 with ⟨v', s2, a2, hv, f2, q8⟩ | ⟨E, hE, q8⟩
              · cases q8
                cases (show v = none from hv)
                refine zpE_run 3 rfl ?_
                refine zpE_call rfl rfl (p_27 17 41 40 (fun _ => rfl) (fun _ => rfl) (fun _ _ => rfl) (f2.2.2 17)) (fun v h9 nc1 ns1 q8 => ?_) (fun E h9 nc1 ns1 q8 => by cases q8)
                cases q8
                have hL3 : zaL (zup a2 17 (List.replicate (a2 17).length (Int32.ofInt 0))) := by
                  intro j
                  show (if j = 17 then _ else a2 j).length < _
                  split
                  · rw [List.length_replicate]
                    exact f2.2.2 17
                  · exact f2.2.2 j
                refine zpE_run 2 rfl ?_
                refine zpE_call rfl rfl (zpM_of (k_30 (D := 0) hL3)) (fun v h9 nc1 ns1 q8 => ?_) (fun E h9 nc1 ns1 q8 => ?_)
                · rcases q8 with ⟨v', s4, a4, hv, f4, q8⟩ | ⟨E, hE, q8⟩
                  · cases q8
                    cases (show v = none from hv)
                    have s0 : s4 0 = Int32.ofNat k := (f4.1 0 (by decide)).trans (f2.1 0 (by decide))
                    have s1 : s4 1 = Int32.ofNat r := (f4.1 1 (by decide)).trans (f2.1 1 (by decide))
                    have s2' : s4 2 = Int32.ofNat (k + r) := (f4.1 2 (by decide)).trans (f2.1 2 (by decide))
                    have b0 : a4 0 = a1 0 := (f4.2.1 0 (by decide)).trans (f2.2.1 0 (by decide))
                    have b1 : a4 1 = a1 1 := (f4.2.1 1 (by decide)).trans (f2.2.1 1 (by decide))
                    refine zpE_run 3 (st' := [.int (s4 2)]) rfl ?_
                    rw [s2']
                    exact zpE_end rfl rfl (Or.inr ⟨hC, k, r, s4, a4, rfl, rfl, ⟨hm, s0, s1, s2', by rw [b0]; exact g1, by rw [b1]; exact g3⟩, by rw [b0]; exact g2, f4.2.2, (f4.1 4 (by decide)).trans (f2.1 4 (by decide)), rfl⟩)
                  · cases hE
                · rcases q8 with ⟨_, _, _, _, _, q8⟩ | ⟨_, hE, _⟩
                  · cases q8
                  · cases hE
              · cases hE
            · rcases q8 with ⟨_, _, _, _, _, q8⟩ | ⟨_, hE, _⟩
              · cases q8
              · cases hE
          · have z5 := zF_ge_f q5
            exact zpE_end rfl rfl (Or.inl ⟨fun k => absurd k.2.2 (Int.not_le.mpr z5), rfl⟩)
        · have z := zF_le_f q4
          exact c32 (fun k => by
            have := k.2.1.2
            omega)
    · have z := zF_le_f q2
      exact c11 (fun k => by
        have := k.1.2
        omega)
end ZPS
end zg26
section zg27
/-! column and encode of the reference. -/
section ZPT
variable {xs : List Int32} {N : Nat} {h : zH} {K R : Int32} {c : List Int32} {vs : List Value} {nc ns : Nat}
/-- the reference's object with its code -/
def zMo (h : zH) (vs : List Value) (K R : Int32) (c : List Int32) : Prop := h[44]? = some (7, vs) ∧ vs.length = 26 ∧ vs[1]? = some (.int K) ∧ vs[2]? = some (.int R) ∧ (∃ q : Nat, vs[3]? = some (.ref q) ∧ h[q]? = some (100, c.map Value.int)) ∧ c.length < 2147483648
theorem zMo_c (g : zMo h vs K R c) : zMc h K R c := by
  obtain ⟨g1, g2, g3, g4, ⟨q, g5, g6⟩, g7⟩ := g
  exact ⟨vs, q, g1, g3, g4, g5, g6, g7⟩
theorem zMo_0 {t : Int32} (g : zMo h vs K R c) : zMo (h.set 44 (7, vs.set 0 (.int t))) (vs.set 0 (.int t)) K R c := by
  obtain ⟨g1, g2, g3, g4, ⟨q, g5, g6⟩, g7⟩ := g
  refine ⟨List.getElem?_set_self (List.getElem?_eq_some_iff.mp g1).1, by simpa using g2, ?_, ?_, ⟨q, ?_, ?_⟩, g7⟩
  · rw [List.getElem?_set_ne (by decide)]
    exact g3
  · rw [List.getElem?_set_ne (by decide)]
    exact g4
  · rw [List.getElem?_set_ne (by decide)]
    exact g5
  · rw [List.getElem?_set_ne (fun e => by
      subst e
      rw [g1] at g6
      cases g6)]
    exact g6
theorem r_154 (g : zMo h vs K R c) {x : Int32} : zpM xs N 154 [.ref 44, .int x] h nc ns (fun o => ∃ t v : Int32, o = (.inl (some (.int v)), h.set 44 (7, vs.set 0 (.int t)), nc, ns) ∧ ((0 ≤ x.toInt ∧ x.toInt ≤ (Int32.ofInt 1 <<< (K &&& 31) - Int32.ofInt 1).toInt) ∧ t = 0 ∧ v = (x ||| zsm c x <<< (K &&& 31)) ∨ ¬ (0 ≤ x.toInt ∧ x.toInt ≤ (Int32.ofInt 1 <<< (K &&& 31) - Int32.ofInt 1).toInt) ∧ t = 1)) := by
  have z0 : (Int32.ofInt 0).toInt = 0 := by decide
  have g0 := g
  obtain ⟨g1, g2, g3, g4, ⟨q, g5, g6⟩, g7⟩ := g
  have k := zMo_0 (t := Int32.ofInt 0) g0
  have k0 := k
  obtain ⟨k1, k2, k3, k4, ⟨q', k5, k6⟩, k7⟩ := k
  intro L0 e
  cases e
  refine zpE_run 2 rfl ?_
  refine zpE_put rfl g1 rfl rfl (by omega) ?_
  refine zpE_run 4 rfl ?_
  refine zpE_get rfl k1 rfl k3 ?_
  refine zpE_run 3 (st' := [.int (Int32.ofInt 1 <<< (K &&& 31) - Int32.ofInt 1), .int (Int32.ofInt 0), .int x]) rfl ?_
  refine zpE_call rfl rfl (zpM_of (m_112x (D := 0))) (fun v h1 nc1 ns1 q8 => ?_) (fun E h1 nc1 ns1 q8 => by obtain ⟨_, q8, _⟩ := q8; cases q8)
  obtain ⟨w, q8, hw⟩ := q8
  cases q8
  rw [z0] at hw
  refine zpE_if rfl (fun q1 => ?_) (fun q1 => ?_)
  · replace hw := hw.resolve_right (fun z => zF_n1 q1 z.1)
    refine zpE_run 2 rfl ?_
    refine zpE_callM rfl rfl k1 (Nat.le_of_ble_eq_true rfl) (r_119 (zMo_c k0)) (fun v h1 nc1 ns1 q8 => ?_) (fun E h1 nc1 ns1 q8 => by cases q8)
    cases q8
    exact zpE_end rfl rfl ⟨Int32.ofInt 0, _, rfl, Or.inl ⟨hw.2, by decide, rfl⟩⟩
  · replace hw := hw.resolve_left (fun z => by
      rw [z.1] at q1
      exact absurd (zF_n0 q1) (by decide))
    refine zpE_run 2 rfl ?_
    refine zpE_callM rfl rfl k1 (Nat.le_of_ble_eq_true rfl) (zpM_of (m_111 (D := 0) k1 k2)) (fun v h1 nc1 ns1 q8 => ?_) (fun E h1 nc1 ns1 q8 => by cases q8)
    cases q8
    rw [List.set_set, List.set_set]
    exact zpE_end rfl rfl ⟨Int32.ofInt 1, _, rfl, Or.inr ⟨hw.2, by decide⟩⟩
end ZPT
end zg27
section zg28
section ZPU
variable {xs : List Int32} {N : Nat} {h : zH} {K R : Int32} {c : List Int32} {vs : List Value} {nc ns : Nat}
theorem r_153 (g : zMo h vs K R c) {x : Int32} : zpM xs N 153 [.ref 44, .int x] h nc ns (fun o => ∃ t v : Int32, o = (.inl (some (.int v)), h.set 44 (7, vs.set 0 (.int t)), nc, ns) ∧ ((0 ≤ x.toInt ∧ x.toInt ≤ (K + R - Int32.ofInt 1).toInt) ∧ t = 0 ∧ v = c.getD x.toInt.toNat 0 ∨ ¬ (0 ≤ x.toInt ∧ x.toInt ≤ (K + R - Int32.ofInt 1).toInt) ∧ t = 1)) := by
  have z0 : (Int32.ofInt 0).toInt = 0 := by decide
  have g0 := g
  obtain ⟨g1, g2, g3, g4, ⟨q, g5, g6⟩, g7⟩ := g
  have k := zMo_0 (t := Int32.ofInt 0) g0
  have k0 := k
  obtain ⟨k1, k2, k3, k4, ⟨q', k5, k6⟩, k7⟩ := k
  intro L0 e
  cases e
  refine zpE_run 2 rfl ?_
  refine zpE_put rfl g1 rfl rfl (by omega) ?_
  refine zpE_run 3 rfl ?_
  refine zpE_callM rfl rfl k1 (Nat.le_of_ble_eq_true rfl) (r_117 (zMo_c k0)) (fun v h1 nc1 ns1 q8 => ?_) (fun E h1 nc1 ns1 q8 => by cases q8)
  cases q8
  refine zpE_run 2 (st' := [.int (K + R - Int32.ofInt 1), .int (Int32.ofInt 0), .int x]) rfl ?_
  refine zpE_call rfl rfl (zpM_of (m_112x (D := 0))) (fun v h1 nc1 ns1 q8 => ?_) (fun E h1 nc1 ns1 q8 => by obtain ⟨_, q8, _⟩ := q8; cases q8)
  obtain ⟨w, q8, hw⟩ := q8
  cases q8
  rw [z0] at hw
  refine zpE_if rfl (fun q1 => ?_) (fun q1 => ?_)
  · replace hw := hw.resolve_right (fun z => zF_n1 q1 z.1)
    refine zpE_run 1 rfl ?_
    refine zpE_get rfl k1 rfl k5 ?_
    refine zpE_run 1 rfl ?_
    refine zpE_ald rfl k6 (fun v n0 hv => ?_)
    refine zpE_end rfl rfl ⟨Int32.ofInt 0, _, rfl, Or.inl ⟨hw.2, by decide, ?_⟩⟩
    have hv : c[x.toInt.toNat]? = some v := hv
    rw [List.getD_eq_getElem?_getD, hv]
    rfl
  · replace hw := hw.resolve_left (fun z => by
      rw [z.1] at q1
      exact absurd (zF_n0 q1) (by decide))
    refine zpE_run 2 rfl ?_
    refine zpE_callM rfl rfl k1 (Nat.le_of_ble_eq_true rfl) (zpM_of (m_111 (D := 0) k1 k2)) (fun v h1 nc1 ns1 q8 => ?_) (fun E h1 nc1 ns1 q8 => by cases q8)
    cases q8
    rw [List.set_set, List.set_set]
    exact zpE_end rfl rfl ⟨Int32.ofInt 1, _, rfl, Or.inr ⟨hw.2, by decide⟩⟩
end ZPU
end zg28
section zg29
section ZPV
variable {xs : List Int32} {N : Nat} {h : zH} {K R : Int32} {c : List Int32} {vs : List Value} {nc ns : Nat}
def zmdc (c : List Int32) (K x y : Int32) : Int32 := if y = 0 then zsm c x else if y = Int32.ofInt 1 then zkd c x else if y = Int32.ofInt 2 then (if zkd c x = Int32.ofInt 1 then zbm9 c x else Int32.ofInt (-1)) else (if zkd c x = Int32.ofInt 2 then Int32.ofInt (-1) else zdo c K x)
abbrev zwm (K R : Int32) : Int32 := Int32.ofInt 1 <<< (K + R &&& 31) - Int32.ofInt 1
theorem r_155 (g : zMo h vs K R c) {x y : Int32} : zpM xs N 155 [.ref 44, .int x, .int y] h nc ns (fun o => ∃ t v : Int32, o = (.inl (some (.int v)), h.set 44 (7, vs.set 0 (.int t)), nc, ns) ∧ (((0 ≤ x.toInt ∧ x.toInt ≤ (zwm K R).toInt) ∧ (0 ≤ y.toInt ∧ y.toInt ≤ 3)) ∧ t = 0 ∧ v = zmdc c K x y ∨ ¬ ((0 ≤ x.toInt ∧ x.toInt ≤ (zwm K R).toInt) ∧ (0 ≤ y.toInt ∧ y.toInt ≤ 3)) ∧ t = 1)) := by
  have z0 : (Int32.ofInt 0).toInt = 0 := by decide
  have z3 : (Int32.ofInt 3).toInt = 3 := by decide
  have g0 := g
  obtain ⟨g1, g2, g3, g4, ⟨q, g5, g6⟩, g7⟩ := g
  have k := zMo_0 (t := Int32.ofInt 0) g0
  have k0 := k
  obtain ⟨k1, k2, k3, k4, ⟨q', k5, k6⟩, k7⟩ := k
  intro L0 e
  cases e
  refine zpE_run 2 rfl ?_
  refine zpE_put rfl g1 rfl rfl (by omega) ?_
  have no : ¬ ((0 ≤ x.toInt ∧ x.toInt ≤ (zwm K R).toInt) ∧ (0 ≤ y.toInt ∧ y.toInt ≤ 3)) → zpE xs N 155 30 [some (.ref 44), some (.int x), some (.int y), none] [] (h.set 44 (7, vs.set 0 (.int (Int32.ofInt 0)))) nc ns (fun o => ∃ t v : Int32, o = (.inl (some (.int v)), h.set 44 (7, vs.set 0 (.int t)), nc, ns) ∧ (((0 ≤ x.toInt ∧ x.toInt ≤ (zwm K R).toInt) ∧ (0 ≤ y.toInt ∧ y.toInt ≤ 3)) ∧ t = 0 ∧ v = zmdc c K x y ∨ ¬ ((0 ≤ x.toInt ∧ x.toInt ≤ (zwm K R).toInt) ∧ (0 ≤ y.toInt ∧ y.toInt ≤ 3)) ∧ t = 1)) := by
    intro nr
    refine zpE_run 2 rfl ?_
    refine zpE_callM rfl rfl k1 (Nat.le_of_ble_eq_true rfl) (zpM_of (m_111 (D := 0) k1 k2)) (fun v h1 nc1 ns1 q8 => ?_) (fun E h1 nc1 ns1 q8 => by cases q8)
    cases q8
    rw [List.set_set, List.set_set]
    exact zpE_end rfl rfl ⟨Int32.ofInt 1, _, rfl, Or.inr ⟨nr, by decide⟩⟩
  refine zpE_run 4 rfl ?_
  refine zpE_callM rfl rfl k1 (Nat.le_of_ble_eq_true rfl) (r_117 (zMo_c k0)) (fun v h1 nc1 ns1 q8 => ?_) (fun E h1 nc1 ns1 q8 => by cases q8)
  cases q8
  refine zpE_run 3 (st' := [.int (zwm K R), .int (Int32.ofInt 0), .int x]) rfl ?_
  refine zpE_call rfl rfl (zpM_of (m_112x (D := 0))) (fun v h1 nc1 ns1 q8 => ?_) (fun E h1 nc1 ns1 q8 => by obtain ⟨_, q8, _⟩ := q8; cases q8)
  obtain ⟨w, q8, hw⟩ := q8
  cases q8
  rw [z0] at hw
  refine zpE_if rfl (fun q1 => ?_) (fun q1 => ?_)
  · replace hw := hw.resolve_left (fun z => by
      rw [z.1] at q1
      exact absurd (zF_e1 q1) (by decide))
    exact no (fun k => hw.2 k.1)
  · replace hw := hw.resolve_right (fun z => zF_e0 q1 z.1)
    have hx := hw.2
    clear q1 hw
    refine zpE_run 3 rfl ?_
    refine zpE_call rfl rfl (zpM_of (m_112x (D := 0))) (fun v h1 nc1 ns1 q8 => ?_) (fun E h1 nc1 ns1 q8 => by obtain ⟨_, q8, _⟩ := q8; cases q8)
    obtain ⟨w, q8, hw⟩ := q8
    cases q8
    rw [z0, z3] at hw
    refine zpE_if rfl (fun q1 => ?_) (fun q1 => ?_)
    · replace hw := hw.resolve_right (fun z => zF_n1 q1 z.1)
      have hy := hw.2
      clear q1 hw
      have fin : ∀ v : Int32, v = zmdc c K x y → ∀ l3 : Option Value, zpE xs N 155 99 [some (.ref 44), some (.int x), some (.int y), l3] [.int v] (h.set 44 (7, vs.set 0 (.int (Int32.ofInt 0)))) nc ns (fun o => ∃ t v : Int32, o = (.inl (some (.int v)), h.set 44 (7, vs.set 0 (.int t)), nc, ns) ∧ (((0 ≤ x.toInt ∧ x.toInt ≤ (zwm K R).toInt) ∧ (0 ≤ y.toInt ∧ y.toInt ≤ 3)) ∧ t = 0 ∧ v = zmdc c K x y ∨ ¬ ((0 ≤ x.toInt ∧ x.toInt ≤ (zwm K R).toInt) ∧ (0 ≤ y.toInt ∧ y.toInt ≤ 3)) ∧ t = 1)) :=
        fun v hv l3 => zpE_end rfl rfl ⟨Int32.ofInt 0, v, rfl, Or.inl ⟨⟨hx, hy⟩, by decide, hv⟩⟩
      refine zpE_run 2 rfl ?_
      refine zpE_callM rfl rfl k1 (Nat.le_of_ble_eq_true rfl) (r_121 (zMo_c k0)) (fun v h1 nc1 ns1 q8 => ?_) (fun E h1 nc1 ns1 q8 => by cases q8)
      cases q8
      refine zpE_run 2 rfl ?_
      refine zpE_if rfl (fun q2 => ?_) (fun q2 => ?_)
      · have y0 := zF_n1 q2
        refine zpE_run 2 rfl ?_
        refine zpE_icmp rfl (fun q3 => ?_) (fun q3 => ?_)
        · have y1 := zF_n1 q3
          refine zpE_run 2 rfl ?_
          refine zpE_icmp rfl (fun q4 => ?_) (fun q4 => ?_)
          · have y2 := zF_n1 q4
            have ez : zmdc c K x y = if zkd c x = Int32.ofInt 2 then Int32.ofInt (-1) else zdo c K x := by
              unfold zmdc
              rw [if_neg y0, if_neg y1, if_neg y2]
            refine zpE_run 2 rfl ?_
            refine zpE_icmp rfl (fun q5 => ?_) (fun q5 => ?_)
            · refine zpE_run 2 rfl ?_
              refine zpE_callM rfl rfl k1 (Nat.le_of_ble_eq_true rfl) (r_123 (zMo_c k0)) (fun v h1 nc1 ns1 q8 => ?_) (fun E h1 nc1 ns1 q8 => by cases q8)
              cases q8
              exact fin _ (by rw [ez, if_neg (zF_n1 q5)]) _
            · exact zpE_run 2 rfl (fin _ (by rw [ez, if_pos (zF_n0 q5)]) _)
          · have y2 := zF_n0 q4
            have ez : zmdc c K x y = if zkd c x = Int32.ofInt 1 then zbm9 c x else Int32.ofInt (-1) := by
              unfold zmdc
              rw [if_neg y0, if_neg y1, if_pos y2]
            refine zpE_run 2 rfl ?_
            refine zpE_icmp rfl (fun q5 => ?_) (fun q5 => ?_)
            · exact zpE_run 2 rfl (fin _ (by rw [ez, if_neg (zF_n1 q5)]) _)
            · refine zpE_run 2 rfl ?_
              refine zpE_callM rfl rfl k1 (Nat.le_of_ble_eq_true rfl) (r_120 (zMo_c k0)) (fun v h1 nc1 ns1 q8 => ?_) (fun E h1 nc1 ns1 q8 => by cases q8)
              cases q8
              exact zpE_run 1 rfl (fin _ (by rw [ez, if_pos (zF_n0 q5)]) _)
        · have y1 := zF_n0 q3
          exact zpE_run 2 rfl (fin _ (by unfold zmdc; rw [if_neg y0, if_pos y1]) _)
      · have y0 := zF_n0 q2
        refine zpE_run 2 rfl ?_
        refine zpE_callM rfl rfl k1 (Nat.le_of_ble_eq_true rfl) (r_118 (zMo_c k0)) (fun v h1 nc1 ns1 q8 => ?_) (fun E h1 nc1 ns1 q8 => by cases q8)
        cases q8
        exact zpE_run 1 rfl (fin _ (by unfold zmdc; rw [if_pos y0]) _)
    · replace hw := hw.resolve_left (fun z => by
        rw [z.1] at q1
        exact absurd (zF_n0 q1) (by decide))
      exact no (fun k => hw.2 k.2)
end ZPV
end zg29
section zg30
section ZPW
variable {s : Nat → Int32} {a : Nat → List Int32} {k r : Nat}
/-- decode tells one and the same -/
theorem zRC_dc (h : zRC s a k r) {x y : Int32} : zdcd s a x y = zmdc (zcol k r) (Int32.ofNat k) x y := by
  unfold zdcd zmdc
  rw [zRC_syn h, zRC_vd h, zRC_bo h, zRC_da h, show (Int32.ofInt 1 : Int32) = 1 by decide, show (Int32.ofInt 2 : Int32) = 2 by decide]
/-- encode tells one and the same -/
theorem zRC_en (h : zRC s a k r) {x : Int32} : x ||| zsyn (zco a) x (zwi s) <<< (s 0 &&& 31) = x ||| zsm (zcol k r) x <<< (Int32.ofNat k &&& 31) := by
  rw [zRC_syn h, h.2.1]
/-- the bounds of column, encode and decode -/
theorem zRC_bd (h : zRC s a k r) : zdma s = Int32.ofInt 1 <<< (Int32.ofNat k &&& 31) - Int32.ofInt 1 ∧ (s 2).toInt = (Int32.ofNat k + Int32.ofNat r - Int32.ofInt 1).toInt + 1 ∧ (zwc s).toInt = (zwm (Int32.ofNat k) (Int32.ofNat r)).toInt + 1 := by
  have e : zcds.all (fun q => decide ((Int32.ofNat (q.1 + q.2)).toInt = (Int32.ofNat q.1 + Int32.ofNat q.2 - Int32.ofInt 1).toInt + 1 ∧ (Int32.ofInt 1 <<< (Int32.ofNat (q.1 + q.2) &&& 31)).toInt = (zwm (Int32.ofNat q.1) (Int32.ofNat q.2)).toInt + 1)) = true := by decide +kernel
  have z := of_decide_eq_true (List.all_eq_true.mp e _ h.1)
  refine ⟨?_, ?_, ?_⟩
  · show Int32.ofInt 1 <<< (s 0 &&& 31) - Int32.ofInt 1 = _
    rw [h.2.1]
  · rw [h.2.2.2.1]
    exact z.1
  · show (Int32.ofInt 1 <<< (s 2 &&& 31)).toInt = _
    rw [h.2.2.2.1]
    exact z.2
/-- column tells one and the same -/
theorem zRC_cl (h : zRC s a k r) {x : Int32} (h0 : 0 ≤ x.toInt) (h1 : x.toInt < (s 2).toInt) : zgt (a 0) x = (zcol k r).getD x.toInt.toNat 0 := by
  obtain ⟨b1, b2, b3, b4, b5⟩ := zcds_kr _ h.1
  have b5 : (zcol k r).length = k + r := b5
  have b2 : k ≤ 10 := b2
  have b4 : r ≤ 6 := b4
  obtain ⟨t, h5⟩ := h.2.2.2.2.1
  rw [h.2.2.2.1, zofI (by omega)] at h1
  have e : x = Int32.ofNat x.toInt.toNat := Int32.toInt_inj.mp (by rw [zofI (by omega)]; omega)
  have hn : x.toInt.toNat < 2147483648 := by omega
  generalize x.toInt.toNat = n at *
  subst e
  rw [zofI (by omega)] at h1
  rw [zgt_n (by omega), h5, List.getD_eq_getElem?_getD, List.getD_eq_getElem?_getD, List.getElem?_append_left (by omega)]
end ZPW
end zg30
section zg31
/-! The reference's lists: new ones, and which field holds which; new columns. -/
section ZHK
variable {xs : List Int32} {g g' : zG} {lg lg' : Nat} {h h' : zH} {D nc ns : Nat}
theorem m_242 : zMs xs (D + 2) 242 [.ref h.length] (h ++ [(10, [.int 0, .null, .int 0])]) nc ns (fun o => o = (.inl none, h ++ [(10, [.int 0, .retAddr 1, .int 0])], nc, ns)) := by
  have c0 : ∀ w : List Value, (h ++ [(10, w)])[h.length]? = some (10, w) := fun w => by
    rw [List.getElem?_append_right (Nat.le_refl _), Nat.sub_self]
    rfl
  refine ⟨_, rfl, zEs_run 1 rfl ?_⟩
  have m244 : zMs xs (D + 0) 244 [.ref h.length] (h ++ [(10, [.int 0, .null, .int 0])]) nc ns (fun o => o = (.inl none, h ++ [(10, [.int 0, .null, .int 0])], nc, ns)) := ⟨_, rfl, zEs_run 2 rfl (zEs_end rfl rfl rfl)⟩
  have m245 : zMs xs (D + 1) 245 [.ref h.length] (h ++ [(10, [.int 0, .null, .int 0])]) nc ns (fun o => o = (.inl none, h ++ [(10, [.int 0, .null, .int 0])], nc, ns)) := by
    refine ⟨_, rfl, zEs_run 1 rfl ?_⟩
    refine zEs_callG rfl rfl m244 (fun v h9 nc9 ns9 q => ?_) (fun E h9 nc9 ns9 q => by cases q)
    cases q
    refine zEs_run 2 rfl ?_
    refine zEs_put rfl (c0 _) rfl rfl (by show 0 < 3; decide) ?_
    rw [zset_app1]
    exact zEs_end rfl rfl rfl
  refine zEs_callG rfl rfl m245 (fun v h9 nc9 ns9 q => ?_) (fun E h9 nc9 ns9 q => by cases q)
  cases q
  refine zEs_run 2 rfl ?_
  refine zEs_put rfl (c0 _) rfl rfl (by show 1 < 3; decide) ?_
  rw [zset_app1]
  exact zEs_end rfl rfl rfl
/-- the invariant anew, where cells other than the object's stay -/
theorem zHI_mk (hI : zHI g lg h) (hk : ∀ (q : Nat) c, h[q]? = some c → q ≠ 44 → h'[q]? = some c) (hs : g'.s = g.s) (ha : g'.a = g.a) (obj' : ∃ vs, h'[44]? = some (7, vs) ∧ vs.length = 26 ∧ (∀ k, k < 26 → ∃ v, vs[k]? = some v ∧ zga g' lg' h' [] (zfs k) v) ∧ ∀ k ∈ zfz, vs[k]? = some (g'.f k)) (lists' : ∃ E : Nat → Option Nat, ∀ j, j < g'.nl → 73 ≤ g'.p j ∧ zLi h' (g'.p j) (zsz g' lg' j) (zQj j) (E j) ∧ (∀ q, E j = some q → 73 ≤ q) ∧ ∀ i, i < g'.nl → i ≠ j → g'.p i ≠ g'.p j ∧ ∀ q, E j = some q → E i ≠ some q) (bits' : ∃ x y : Int32, g'.f 1 = .int x ∧ g'.f 2 = .int y ∧ x.toInt + y.toInt = g'.zn) (sizes' : g'.zs ≤ 24 ∧ g'.zw ≤ 24 ∧ lg' ≤ 40 ∧ 8 ≤ g'.zn ∧ g'.zn ≤ 16 ∧ 3 ≤ g'.nl ∧ ∀ j, g'.ze j ≤ 24) : zHI g' lg' h' := by
  refine ⟨?_, obj', ?_, ?_, lists', bits', sizes'⟩
  · rw [hs, ha, ztake_mv hI (fun q c hq e => hk q c e (by omega))]
    exact hI.cls
  · exact hk _ _ hI.outer (by decide)
  · intro q t n lo hi e
    obtain ⟨l, p1, p2, p3⟩ := hI.rows q t n lo hi e
    have := zsp_b e
    exact ⟨l, hk _ _ p1 (by omega), p2, p3⟩
theorem zfs_mo3 {k : Nat} {v : Value} (hp : ∀ j, j < 3 → g'.p j = g.p j) (hn : g'.zn = g.zn) (hl : ∀ (q : Nat) l, 73 ≤ q → h[q]? = some (zar l) → h'[q]? = some (zar l)) (z : zga g lg h [] (zfs k) v) : zga g' lg' h' [] (zfs k) v := by
  unfold zfs at z ⊢
  split at z <;> first
    | exact z
    | (obtain ⟨q, l, a, b, c, d⟩ := z; exact ⟨q, l, a, b, hl q l b c, d.trans hn.symm⟩)
    | exact (show v = _ from z).trans (congrArg Value.ref (hp _ (by decide)).symm)
/-- which kinds do not speak of the log's size or of lists -/
theorem zLi_mk {r n : Nat} {Q : List Int32 → Prop} {dq : Option Nat} (hk : ∀ (q : Nat) c, h[q]? = some c → q ≠ 44 → h'[q]? = some c) (k : zLi h r n Q dq) (hr : 73 ≤ r) (hd : ∀ q, dq = some q → 73 ≤ q) : zLi h' r n Q dq := by
  obtain ⟨es, ⟨m, k1⟩, k2, k3⟩ := k
  refine ⟨es, ⟨m, ?_⟩, k2, fun e he => ?_⟩
  · cases dq with
    | none => exact ⟨k1.1, hk _ _ k1.2 (by omega)⟩
    | some q =>
      obtain ⟨vs, a1, a2, a3⟩ := k1
      have := hd q rfl
      exact ⟨vs, hk _ _ a1 (by omega), hk _ _ a2 (by omega), a3⟩
  · obtain ⟨a, l, b, c⟩ := k3 e he
    exact ⟨a, l, hk _ _ b (by omega), c⟩
def znl (g : zG) (r : Nat) : zG := (g.1, g.2.1, g.2.2.1, (fun i => if i = g.nl then r else g.p i), g.zs, g.zw, g.zn, g.nl + 1, fun i => if i = g.nl then 0 else g.ze i)
theorem zHI_new (hI : zHI g lg h) : zHI (znl g h.length) lg (h ++ [(10, [.int 0, .retAddr 1, .int 0])]) := by
  have hz := hI.sizes
  have hlen := zHI_len hI
  have hk := zapp_mv (h := h) [(10, [.int 0, .retAddr 1, .int 0])]
  have hp : ∀ j, j < g.nl → (znl g h.length).p j = g.p j := fun j hj => if_neg (by omega)
  have hp9 : (znl g h.length).p g.nl = h.length := if_pos rfl
  have hsz : ∀ j, j < g.nl → zsz (znl g h.length) lg j = zsz g lg j := by
    intro j hj
    unfold zsz
    split
    · rfl
    · rfl
    · rfl
    · exact if_neg (by omega)
  have hsz9 : zsz (znl g h.length) lg g.nl = 0 := by
    unfold zsz
    split
    · omega
    · omega
    · omega
    · exact if_pos rfl
  refine zHI_mk (g' := znl g h.length) hI (fun q c e _ => hk q c e) rfl rfl ?_ ?_ hI.bits ⟨hz.1, hz.2.1, hz.2.2.1, hz.2.2.2.1, hz.2.2.2.2.1, by show 3 ≤ g.nl + 1; omega, fun j => ?_⟩
  · obtain ⟨vs, m1, m2, m3, m4⟩ := hI.obj
    refine ⟨vs, hk _ _ m1, m2, fun k hk9 => ?_, m4⟩
    obtain ⟨v, v1, v2⟩ := m3 k hk9
    exact ⟨v, v1, zfs_mo3 (fun j hj => hp j (by omega)) rfl (fun q l _ b => hk q _ b) v2⟩
  · obtain ⟨E, k⟩ := hI.lists
    have low : ∀ {j q : Nat}, j < g.nl → E j = some q → q < h.length := by
      intro j q hj e
      obtain ⟨es, ⟨m, z⟩, -⟩ := (k j hj).2.1
      rw [e] at z
      obtain ⟨vs, z1, z2, -⟩ := z
      exact (List.getElem?_eq_some_iff.mp z2).1
    have lowr : ∀ {j : Nat}, j < g.nl → g.p j < h.length := by
      intro j hj
      obtain ⟨es, z, -⟩ := (k j hj).2.1
      obtain ⟨a, b, z⟩ := zLs_size z
      exact (List.getElem?_eq_some_iff.mp z).1
    refine ⟨fun i => if i = g.nl then none else E i, fun j hj => ?_⟩
    have hj : j < g.nl + 1 := hj
    dsimp only
    by_cases e : j = g.nl
    · subst e
      rw [if_pos rfl, hp9, hsz9]
      refine ⟨by omega, ⟨[], ⟨0, rfl, ?_⟩, rfl, fun e he => (by cases he)⟩, fun q z => (by cases z), fun i hi ne => ?_⟩
      · rw [List.getElem?_append_right (Nat.le_refl _), Nat.sub_self]
        rfl
      · have hi : i < g.nl + 1 := hi
        rw [hp i (by omega)]
        have := lowr (j := i) (by omega)
        exact ⟨by omega, fun q z => (by cases z)⟩
    · rw [if_neg e, hp j (by omega), hsz j (by omega)]
      obtain ⟨k1, k2, k3, k4⟩ := k j (by omega)
      refine ⟨k1, zLi_mv hk k2, k3, fun i hi ne => ?_⟩
      have hi : i < g.nl + 1 := hi
      by_cases e2 : i = g.nl
      · subst e2
        rw [if_pos rfl, hp9]
        have := lowr (j := j) (by omega)
        exact ⟨by omega, fun q _ z => by cases z⟩
      · rw [if_neg e2, hp i (by omega)]
        exact k4 i (by omega) ne
  · show (if j = g.nl then 0 else g.ze j) ≤ 24
    split
    · omega
    · exact hz.2.2.2.2.2.2 j
/-- a list's field takes another list; the lists are counted anew -/
theorem zHI_sg {j nl' : Nat} {σ : Nat → Nat} {vs : List Value} (hI : zHI g lg h) (h0 : h[44]? = some (7, vs)) (hj : j < 3) (hn3 : 3 ≤ nl') (hσ : ∀ i, i < nl' → σ i < g.nl) (hin : ∀ i i', i < nl' → i' < nl' → σ i = σ i' → i = i') (hid : ∀ i, i < 3 → i ≠ j → σ i = i) (hQ : ∀ i, i < nl' → zQj (σ i) = zQj i ∨ zsz g lg (σ i) = 0) (hs : g'.s = g.s) (ha : g'.a = g.a) (hf : g'.f = g.f) (hn : g'.zn = g.zn) (hnl : g'.nl = nl') (hp : ∀ i, i < nl' → g'.p i = g.p (σ i)) (hz : ∀ i, i < nl' → zsz g' lg' i = zsz g lg (σ i)) (hsz : g'.zs ≤ 24 ∧ g'.zw ≤ 24 ∧ lg' ≤ 40 ∧ ∀ j, g'.ze j ≤ 24) : zHI g' lg' (h.set 44 (7, vs.set (23 + j) (.ref (g.p (σ j))))) := by
  have hlen := zHI_len hI
  have hk : ∀ (q : Nat) c, h[q]? = some c → q ≠ 44 → (h.set 44 (7, vs.set (23 + j) (.ref (g.p (σ j)))))[q]? = some c := fun q c e ne => by
    rw [List.getElem?_set_ne (fun z => ne z.symm)]
    exact e
  have hz0 := hI.sizes
  refine zHI_mk hI hk hs ha ?_ ?_ (by rw [hf, hn]; exact hI.bits) ⟨hsz.1, hsz.2.1, hsz.2.2.1, by rw [hn]; exact hz0.2.2.2.1, by rw [hn]; exact hz0.2.2.2.2.1, by omega, hsz.2.2.2⟩
  · obtain ⟨vs', a, b, c, d⟩ := hI.obj
    rw [h0] at a
    cases a
    refine ⟨_, List.getElem?_set_self (by omega), by simpa using b, fun k hk9 => ?_, fun k hk9 => ?_⟩
    · by_cases e : k = 23 + j
      · subst e
        refine ⟨_, List.getElem?_set_self (by omega), ?_⟩
        rcases (show j = 0 ∨ j = 1 ∨ j = 2 by omega) with rfl | rfl | rfl
        · exact congrArg Value.ref (hp 0 (by omega)).symm
        · exact congrArg Value.ref (hp 1 (by omega)).symm
        · exact congrArg Value.ref (hp 2 (by omega)).symm
      · rw [List.getElem?_set_ne (fun z => e z.symm)]
        obtain ⟨v, v1, v2⟩ := c k hk9
        refine ⟨v, v1, ?_⟩
        have tr : ∀ i, i < 3 → i ≠ j → v = .ref (g.p i) → v = .ref (g'.p i) := fun i hi ne z => by rw [z, hp i (by omega), hid i hi ne]
        have nc : ∀ (q : Nat) l, 73 ≤ q → h[q]? = some (zar l) → (h.set 44 (7, vs.set (23 + j) (.ref (g.p (σ j)))))[q]? = some (zar l) := fun q l a b => hk q _ b (by omega)
        clear v1
        unfold zfs at v2 ⊢
        split at v2 <;> first
          | exact v2
          | (obtain ⟨q, l, a, b, c, d⟩ := v2; exact ⟨q, l, a, b, nc q l b c, d.trans hn.symm⟩)
          | skip
        · exact tr 0 (by omega) (by omega) v2
        · exact tr 1 (by omega) (by omega) v2
        · refine tr 2 (by omega) (by omega) v2
    · have : k ≠ 23 + j := by
        intro z
        subst z
        have : 23 + j ≤ 13 := by
          have := hk9
          simp [zfz] at this
          omega
        omega
      rw [List.getElem?_set_ne (fun z => this z.symm), hf]
      exact d k hk9
  · obtain ⟨E, k⟩ := hI.lists
    refine ⟨fun i => E (σ i), fun i hi => ?_⟩
    rw [hnl] at hi
    obtain ⟨k1, k2, k3, k4⟩ := k (σ i) (hσ i hi)
    rw [hp i hi, hz i hi]
    refine ⟨k1, zLi_mk hk ?_ k1 k3, k3, fun i2 hi2 ne => ?_⟩
    · rcases hQ i hi with q | q
      · rw [← q]
        exact k2
      · obtain ⟨es, z1, z2, z3⟩ := k2
        rw [q] at z2
        have : es = [] := List.length_eq_zero_iff.mp z2
        subst this
        exact ⟨[], z1, q.symm ▸ rfl, fun e he => by cases he⟩
    · rw [hnl] at hi2
      rw [hp i2 hi2]
      exact k4 (σ i2) (hσ i2 hi2) (fun z => ne (hin i2 i hi2 hi z))
/-- a new code's columns -/
def zgc (g : zG) (K R : Int32) (n c3 : Nat) : zG := (g.1, g.2.1, zup (zup (zup g.f 1 (.int K)) 2 (.int R)) 3 (.ref c3), g.p, g.zs, g.zw, n, g.nl, g.ze)
theorem zHI_col {K R : Int32} {l : List Int32} {vs : List Value} (hI : zHI g lg h) (h0 : h[44]? = some (7, vs)) (hK : 4 ≤ K.toInt ∧ K.toInt ≤ 10) (hR : 4 ≤ R.toInt ∧ R.toInt ≤ 6) (hl : (l.length : Int) = K.toInt + R.toInt) : zHI (zgc g K R l.length h.length) lg ((h ++ [zar l]).set 44 (7, ((vs.set 1 (.int K)).set 2 (.int R)).set 3 (.ref h.length))) := by
  have hlen := zHI_len hI
  have hk : ∀ (q : Nat) c, h[q]? = some c → q ≠ 44 → ((h ++ [zar l]).set 44 (7, ((vs.set 1 (.int K)).set 2 (.int R)).set 3 (.ref h.length)))[q]? = some c := fun q c e ne => by
    rw [List.getElem?_set_ne (fun z => ne z.symm)]
    exact zapp_mv _ _ _ e
  have hz0 := hI.sizes
  refine zHI_mk (g' := zgc g K R l.length h.length) hI hk rfl rfl ?_ ?_ ⟨K, R, rfl, rfl, hl.symm⟩ ⟨hz0.1, hz0.2.1, hz0.2.2.1, by show 8 ≤ l.length; omega, by show l.length ≤ 16; omega, hz0.2.2.2.2.2⟩
  · obtain ⟨vs', a, b, c, d⟩ := hI.obj
    rw [h0] at a
    cases a
    have nc : ∀ (q : Nat) l2, 73 ≤ q → h[q]? = some (zar l2) → ((h ++ [zar l]).set 44 (7, ((vs.set 1 (.int K)).set 2 (.int R)).set 3 (.ref h.length)))[q]? = some (zar l2) := fun q l a b => hk q _ b (by omega)
    refine ⟨_, List.getElem?_set_self (by rw [List.length_append]; omega), by simpa using b, fun k hk9 => ?_, fun k hk9 => ?_⟩
    · by_cases e3 : k = 3
      · subst e3
        refine ⟨_, List.getElem?_set_self (by simp; omega), h.length, l, rfl, hlen, ?_, rfl⟩
        rw [List.getElem?_set_ne (by omega), List.getElem?_append_right (Nat.le_refl _), Nat.sub_self]
        rfl
      · rw [List.getElem?_set_ne (fun z => e3 z.symm)]
        by_cases e2 : k = 2
        · subst e2
          exact ⟨_, List.getElem?_set_self (by simp; omega), R, rfl, hR.1, hR.2, trivial, Or.inl rfl⟩
        · rw [List.getElem?_set_ne (fun z => e2 z.symm)]
          by_cases e1 : k = 1
          · subst e1
            exact ⟨_, List.getElem?_set_self (by omega), K, rfl, hK.1, hK.2, trivial, Or.inl rfl⟩
          · rw [List.getElem?_set_ne (fun z => e1 z.symm)]
            obtain ⟨v, v1, v2⟩ := c k hk9
            refine ⟨v, v1, ?_⟩
            clear v1
            unfold zfs at v2 ⊢
            split at v2 <;> first
              | exact v2
              | exact absurd rfl e3
    · rcases (show k = 1 ∨ k = 2 ∨ k = 3 ∨ k = 4 ∨ k = 13 by simpa [zfz] using hk9) with rfl | rfl | rfl | rfl | rfl
      · rw [List.getElem?_set_ne (by decide), List.getElem?_set_ne (by decide), List.getElem?_set_self (by omega)]
        rfl
      · rw [List.getElem?_set_ne (by decide), List.getElem?_set_self (by simp; omega)]
        rfl
      · rw [List.getElem?_set_self (by simp; omega)]
        rfl
      · rw [List.getElem?_set_ne (by decide), List.getElem?_set_ne (by decide), List.getElem?_set_ne (by decide)]
        exact d 4 (by decide)
      · rw [List.getElem?_set_ne (by decide), List.getElem?_set_ne (by decide), List.getElem?_set_ne (by decide)]
        exact d 13 (by decide)
  · obtain ⟨E, k⟩ := hI.lists
    refine ⟨E, fun i hi => ?_⟩
    obtain ⟨k1, k2, k3, k4⟩ := k i hi
    exact ⟨k1, zLi_mk hk k2 k1 k3, k3, k4⟩
end ZHK
end zg31
section zg32
/-! The reference's methods, by hand: clear. -/
section ZHL
variable {xs : List Int32} {g : zG} {lg : Nat} {h : zH} {D nc ns y pc nx k yy m c : Nat} {L : zL} {r st : List Value} {P : zO → Prop}
theorem zLE_44 {c : Nat × List Value} : zLE h (h.set 44 c) := fun q d a b _ _ => by
  rw [List.getElem?_set_ne (by omega)]
  exact b
theorem zLE_app {X : zH} : zLE h (h ++ X) := fun q d a b _ _ => zapp_mv _ _ _ b
theorem zLE_aw {X : zH} {c : Nat × List Value} : zLE h ((h ++ X).set 44 c) := zLE_tr zLE_app zLE_44
theorem zsz3 {t : Nat} (ht : 3 ≤ t) : zsz g lg t = g.ze t := by
  unfold zsz
  split
  · omega
  · omega
  · omega
  · rfl
theorem zQj3 {t : Nat} (ht : 3 ≤ t) : zQj t = zel4 := by
  funext l
  unfold zQj
  split
  · omega
  · rfl
theorem znl_0 (hn : 3 ≤ g.nl) (q : Nat) : zsz (znl g q) lg g.nl = 0 := by
  rw [zsz3 hn]
  exact if_pos rfl
def zc3 (g : zG) (r : Nat) : zG := (g.1, g.2.1, g.2.2.1, (fun i => if i = 2 then r else g.p i), g.zs, g.zw, g.zn, 3, fun _ => 0)
/-- the log's field takes a new list -/
theorem zHI_c3 {vs : List Value} (hI : zHI g lg h) (h0 : h[44]? = some (7, vs)) : zHI (zc3 g h.length) 0 ((h ++ [((10 : Nat), [Value.int 0, Value.retAddr 1, Value.int 0])]).set 44 (7, vs.set 25 (.ref h.length))) := by
  have hz := hI.sizes
  have hn : 3 ≤ g.nl := hz.2.2.2.2.2.1
  have I2 := zHI_new hI
  have e9 : (znl g h.length).p g.nl = h.length := if_pos rfl
  have ep : ∀ j, j < 3 → (znl g h.length).p j = g.p j := fun j hj => if_neg (by omega)
  have z := zHI_sg (g' := zc3 g h.length) (lg' := 0) (j := 2) (nl' := 3) (σ := fun i => if i = 2 then g.nl else i) I2 (zapp_mv _ _ _ h0) (by decide) (by decide) (fun i hi => by
    show (if i = 2 then g.nl else i) < g.nl + 1
    split <;> omega) (fun i i' hi hi' e => by
    have e : (if i = 2 then g.nl else i) = (if i' = 2 then g.nl else i') := e
    split at e <;> split at e <;> omega) (fun i hi ne => if_neg ne) (fun i hi => by
    by_cases e : i = 2
    · right
      show zsz (znl g h.length) lg (if i = 2 then g.nl else i) = 0
      rw [if_pos e]
      exact znl_0 hn _
    · left
      show zQj (if i = 2 then g.nl else i) = zQj i
      rw [if_neg e]) rfl rfl rfl rfl rfl (fun i hi => by
    show (if i = 2 then h.length else g.p i) = (znl g h.length).p (if i = 2 then g.nl else i)
    by_cases e : i = 2
    · rw [if_pos e, if_pos e, e9]
    · rw [if_neg e, if_neg e, ep i hi]) (fun i hi => by
    show zsz (zc3 g h.length) 0 i = zsz (znl g h.length) lg (if i = 2 then g.nl else i)
    by_cases e : i = 2
    · subst e
      rw [if_pos rfl, znl_0 hn]
      rfl
    · rw [if_neg e]
      rcases (show i = 0 ∨ i = 1 by omega) with rfl | rfl <;> rfl) ⟨hz.1, hz.2.1, by decide, fun j => Nat.zero_le _⟩
  have e2 : (Value.ref ((znl g h.length).p ((fun i => if i = 2 then g.nl else i) 2))) = .ref h.length := congrArg Value.ref e9
  rw [e2] at z
  exact z
def ct_151 : zCt := (151, [(.inr (.inr (.inl (44, 44))))], some zIA, 16, 80, 4000)
theorem q_151 : zGq xs ct_151 := by
  intro g lg h nc ns as hI hS
  obtain ⟨v, rfl, k⟩ := zin1 hS
  obtain rfl := zP_eq k
  have hz := hI.sizes
  obtain ⟨vs, m1, m2, m3, m4⟩ := hI.obj
  refine ⟨_, rfl, zEs_run 2 rfl ?_⟩
  refine zEs_put rfl m1 rfl rfl (by omega) ?_
  obtain ⟨n1, n2⟩ := zHI_fld (k := 0) (v := .int (Int32.ofInt 0)) hI m1 (by decide) (zIA_ok _) (by decide)
  have hl := (List.getElem?_eq_some_iff.mp m1).1
  obtain ⟨vs1, c1, c2, c3, c4⟩ := n1.obj
  refine zEs_run 1 rfl ?_
  refine zEs_get rfl c1 rfl (zfldL (j := 2) c3 (k := 25) (by decide) rfl) ?_
  obtain ⟨ws, hw⟩ := zrow10 n1 (j := 2) (by omega)
  refine zEs_callG rfl (show zcallV 0 10 243 14 [.ref (g.p 2)] _ = _ from zcallV_eq rfl hw (by decide)) (zsize (D := 15) (j := 2) n1 (by omega) (show lg ≤ 1000 by omega)) (fun v h9 nc9 ns9 q => ?_) (fun E h9 nc9 ns9 q => by obtain ⟨_, _, q⟩ := q; cases q)
  obtain ⟨x, hx, q⟩ := q
  cases q
  refine zEs_run 4 (h' := (h.set 44 (7, vs.set 0 (.int (Int32.ofInt 0)))) ++ [(10, [.int 0, .null, .int 0])]) rfl ?_
  refine zEs_callG rfl rfl (m_242 (D := 13)) (fun v h9 nc9 ns9 q => ?_) (fun E h9 nc9 ns9 q => by cases q)
  cases q
  refine zEs_put rfl (zapp_mv _ _ _ c1) rfl rfl (by omega) ?_
  have I3 := zHI_c3 n1 c1
  refine zEs_run 1 rfl ?_
  exact zEs_end rfl rfl ⟨_, zc3 g (h.set 44 (7, vs.set 0 (.int (Int32.ofInt 0)))).length, 0, _, _, _, rfl, ⟨_, rfl, zIA_ok x⟩, I3, zLE_tr n2 zLE_aw, rfl, rfl, rfl, show _ ≤ nc + 80 by omega, show _ ≤ ns + 4000 by
    have : (List.map (fun q => zdf q.2) (zcf 10)).length = 3 := rfl
    have : (zcf 10).length = 3 := rfl
    omega⟩
end ZHL
end zg32
section zg33
/-! The reference's methods, by hand: code. -/
def ce_coA : List zCe := [(0, [(.inl 21)], (0, 0), [(.inr (.inr (.inl (44, 44)))), zIA, zIA, (.inr (.inr (.inr 0))), (.inr (.inr (.inr 0))), (.inr (.inr (.inr 0))), (.inr (.inr (.inr 0)))], []),
  (1, [(.inl 20)], (0, 0), [(.inr (.inr (.inl (44, 44)))), zIA, zIA, (.inr (.inr (.inr 0))), (.inr (.inr (.inr 0))), (.inr (.inr (.inr 0))), (.inr (.inr (.inr 0)))], [(.inr (.inr (.inl (44, 44))))]),
  (2, [(.inl 19)], (0, 0), [(.inr (.inr (.inl (44, 44)))), zIA, zIA, (.inr (.inr (.inr 0))), (.inr (.inr (.inr 0))), (.inr (.inr (.inr 0))), (.inr (.inr (.inr 0)))], [(.inl (0, 0, 0, 0)), (.inr (.inr (.inl (44, 44))))]),
  (5, [(.inl 18)], (0, 0), [(.inr (.inr (.inl (44, 44)))), zIA, zIA, (.inr (.inr (.inr 0))), (.inr (.inr (.inr 0))), (.inr (.inr (.inr 0))), (.inr (.inr (.inr 0)))], []),
  (6, [(.inl 17)], (0, 0), [(.inr (.inr (.inl (44, 44)))), zIA, zIA, (.inr (.inr (.inr 0))), (.inr (.inr (.inr 0))), (.inr (.inr (.inr 0))), (.inr (.inr (.inr 0)))], [(.inl ((-2147483648), 2147483647, 0, 2))]),
  (7, [(.inl 16)], (0, 0), [(.inr (.inr (.inl (44, 44)))), zIA, zIA, (.inr (.inr (.inr 0))), (.inr (.inr (.inr 0))), (.inr (.inr (.inr 0))), (.inr (.inr (.inr 0)))], [(.inl (4, 4, 0, 0)), (.inl ((-2147483648), 2147483647, 0, 2))]),
  (9, [(.inl 15)], (0, 0), [(.inr (.inr (.inl (44, 44)))), zIA, zIA, (.inr (.inr (.inr 0))), (.inr (.inr (.inr 0))), (.inr (.inr (.inr 0))), (.inr (.inr (.inr 0)))], [(.inl (10, 10, 0, 0)), (.inl (4, 4, 0, 0)), (.inl ((-2147483648), 2147483647, 0, 2))]),
  (12, [(.inl 14)], (0, 0), [(.inr (.inr (.inl (44, 44)))), zIA, zIA, (.inr (.inr (.inr 0))), (.inr (.inr (.inr 0))), (.inr (.inr (.inr 0))), (.inr (.inr (.inr 0)))], [(.inr (.inl (1, 4, 10, 0)))]),
  (15, [(.inl 13)], (0, 0), [(.inr (.inr (.inl (44, 44)))), (.inl (4, 10, 0, 0)), zIA, (.inr (.inr (.inr 0))), (.inr (.inr (.inr 0))), (.inr (.inr (.inr 0))), (.inr (.inr (.inr 0)))], []),
  (16, [(.inl 12)], (0, 0), [(.inr (.inr (.inl (44, 44)))), (.inl (4, 10, 0, 0)), zIA, (.inr (.inr (.inr 0))), (.inr (.inr (.inr 0))), (.inr (.inr (.inr 0))), (.inr (.inr (.inr 0)))], [(.inl ((-2147483648), 2147483647, 0, 3))]),
  (17, [(.inl 11)], (0, 0), [(.inr (.inr (.inl (44, 44)))), (.inl (4, 10, 0, 0)), zIA, (.inr (.inr (.inr 0))), (.inr (.inr (.inr 0))), (.inr (.inr (.inr 0))), (.inr (.inr (.inr 0)))], [(.inl (4, 4, 0, 0)), (.inl ((-2147483648), 2147483647, 0, 3))]),
  (19, [(.inl 10)], (0, 0), [(.inr (.inr (.inl (44, 44)))), (.inl (4, 10, 0, 0)), zIA, (.inr (.inr (.inr 0))), (.inr (.inr (.inr 0))), (.inr (.inr (.inr 0))), (.inr (.inr (.inr 0)))], [(.inl (6, 6, 0, 0)), (.inl (4, 4, 0, 0)), (.inl ((-2147483648), 2147483647, 0, 3))]),
  (22, [(.inl 9)], (0, 0), [(.inr (.inr (.inl (44, 44)))), (.inl (4, 10, 0, 0)), zIA, (.inr (.inr (.inr 0))), (.inr (.inr (.inr 0))), (.inr (.inr (.inr 0))), (.inr (.inr (.inr 0)))], [(.inr (.inl (2, 4, 6, 0)))]),
  (25, [(.inl 8)], (0, 0), [(.inr (.inr (.inl (44, 44)))), (.inl (4, 10, 0, 0)), (.inl (4, 6, 0, 0)), (.inr (.inr (.inr 0))), (.inr (.inr (.inr 0))), (.inr (.inr (.inr 0))), (.inr (.inr (.inr 0)))], []),
  (26, [(.inl 7)], (0, 0), [(.inr (.inr (.inl (44, 44)))), (.inl (4, 10, 0, 0)), (.inl (4, 6, 0, 0)), (.inr (.inr (.inr 0))), (.inr (.inr (.inr 0))), (.inr (.inr (.inr 0))), (.inr (.inr (.inr 0)))], [(.inl (4, 6, 0, 3))]),
  (29, [(.inl 6)], (0, 0), [(.inr (.inr (.inl (44, 44)))), (.inl (4, 10, 0, 0)), (.inl (4, 6, 0, 0)), (.inr (.inr (.inr 0))), (.inr (.inr (.inr 0))), (.inr (.inr (.inr 0))), (.inr (.inr (.inr 0)))], [zIA]),
  (30, [(.inl 5)], (0, 0), [(.inr (.inr (.inl (44, 44)))), (.inl (4, 10, 0, 0)), (.inl (4, 6, 0, 0)), (.inr (.inr (.inr 0))), (.inr (.inr (.inr 0))), (.inr (.inr (.inr 0))), (.inr (.inr (.inr 0)))], [(.inl (4, 10, 0, 2)), zIA]),
  (33, [(.inl 3)], (0, 0), [(.inr (.inr (.inl (44, 44)))), zIA, zIA, (.inr (.inr (.inr 0))), (.inr (.inr (.inr 0))), (.inr (.inr (.inr 0))), (.inr (.inr (.inr 0)))], []),
  (34, [(.inl 2)], (0, 0), [(.inr (.inr (.inl (44, 44)))), zIA, zIA, (.inr (.inr (.inr 0))), (.inr (.inr (.inr 0))), (.inr (.inr (.inr 0))), (.inr (.inr (.inr 0)))], [(.inr (.inr (.inl (44, 44))))]),
  (35, [(.inl 1)], (0, 0), [(.inr (.inr (.inl (44, 44)))), zIA, zIA, (.inr (.inr (.inr 0))), (.inr (.inr (.inr 0))), (.inr (.inr (.inr 0))), (.inr (.inr (.inr 0)))], [(.inl (1, 1, 0, 0)), (.inr (.inr (.inl (44, 44))))]),
  (38, [(.inl 0)], (0, 0), [(.inr (.inr (.inl (44, 44)))), zIA, zIA, (.inr (.inr (.inr 0))), (.inr (.inr (.inr 0))), (.inr (.inr (.inr 0))), (.inr (.inr (.inr 0)))], [(.inl (0, 0, 0, 0))]),
  (39, [(.inl 4)], (0, 0), [(.inr (.inr (.inl (44, 44)))), (.inl (4, 10, 0, 0)), (.inl (4, 6, 0, 0)), (.inr (.inr (.inr 0))), (.inr (.inr (.inr 0))), (.inr (.inr (.inr 0))), (.inr (.inr (.inr 0)))], [])]
def cs_coA : List zCt := [ct_111, ct_115]
theorem gs_coA {xs : List Int32} : ∀ ct ∈ cs_coA, zGd xs ct := List.forall_mem_cons.mpr ⟨g_111, List.forall_mem_cons.mpr ⟨g_115, fun _ h => absurd h List.not_mem_nil⟩⟩
def ce_coB : List zCe := [(230, [(.inl 8), (.inl 0), (.inl 0), (.inl 0), (.inl 0)], (0, 0), [(.inr (.inr (.inl (44, 44)))), zIA, zIA, (.inr (.inr (.inr 0))), (.inr (.inr (.inr 0))), (.inr (.inr (.inr 0))), (.inr (.inr (.inr 0)))], []),
  (231, [(.inl 7), (.inl 0), (.inl 0), (.inl 0), (.inl 0)], (0, 0), [(.inr (.inr (.inl (44, 44)))), zIA, zIA, (.inr (.inr (.inr 0))), (.inr (.inr (.inr 0))), (.inr (.inr (.inr 0))), (.inr (.inr (.inr 0)))], [(.inl (0, 0, 0, 0))]),
  (233, [(.inl 6), (.inr (128, 5)), (.inl 8), (.inl 0), (.inl 0)], (0, 0), [(.inr (.inr (.inl (44, 44)))), zIA, zIA, (.inr (.inr (.inr 0))), (.inr (.inr (.inr 0))), (.inl (0, 128, 0, 0)), (.inr (.inr (.inr 0)))], []),
  (235, [(.inl 6), (.inr (128, 5)), (.inl 7), (.inl 0), (.inl 0)], (0, 0), [(.inr (.inr (.inl (44, 44)))), zIA, zIA, (.inr (.inr (.inr 0))), (.inr (.inr (.inr 0))), (.inl (0, 128, 0, 0)), (.inr (.inr (.inr 0)))], [(.inl (0, 128, 0, 6))]),
  (238, [(.inl 6), (.inr (128, 5)), (.inl 6), (.inl 0), (.inl 0)], (0, 0), [(.inr (.inr (.inl (44, 44)))), zIA, zIA, (.inr (.inr (.inr 0))), (.inr (.inr (.inr 0))), (.inl (0, 128, 0, 0)), (.inr (.inr (.inr 0)))], [(.inl (128, 128, 0, 0)), (.inl (0, 128, 0, 6))]),
  (241, [(.inl 6), (.inr (128, 5)), (.inl 5), (.inl 0), (.inl 0)], (0, 0), [(.inr (.inr (.inl (44, 44)))), zIA, zIA, (.inr (.inr (.inr 0))), (.inr (.inr (.inr 0))), (.inl (0, 127, 0, 0)), (.inr (.inr (.inr 0)))], []),
  (242, [(.inl 6), (.inr (128, 5)), (.inl 4), (.inl 0), (.inl 0)], (0, 0), [(.inr (.inr (.inl (44, 44)))), zIA, zIA, (.inr (.inr (.inr 0))), (.inr (.inr (.inr 0))), (.inl (0, 127, 0, 0)), (.inr (.inr (.inr 0)))], [(.inr (.inr (.inl (44, 44))))]),
  (245, [(.inl 6), (.inr (128, 5)), (.inl 3), (.inl 0), (.inl 0)], (0, 0), [(.inr (.inr (.inl (44, 44)))), zIA, zIA, (.inr (.inr (.inr 0))), (.inr (.inr (.inr 0))), (.inl (0, 127, 0, 0)), (.inr (.inr (.inr 0)))], [(.inr (.inr (.inl (71, 71))))]),
  (247, [(.inl 6), (.inr (128, 5)), (.inl 2), (.inl 0), (.inl 0)], (0, 0), [(.inr (.inr (.inl (44, 44)))), zIA, zIA, (.inr (.inr (.inr 0))), (.inr (.inr (.inr 0))), (.inl (0, 127, 0, 0)), (.inr (.inr (.inr 0)))], [(.inl (0, 127, 0, 6)), (.inr (.inr (.inl (71, 71))))]),
  (248, [(.inl 6), (.inr (128, 5)), (.inl 1), (.inl 0), (.inl 0)], (0, 0), [(.inr (.inr (.inl (44, 44)))), zIA, zIA, (.inr (.inr (.inr 0))), (.inr (.inr (.inr 0))), (.inl (0, 127, 0, 0)), (.inr (.inr (.inr 0)))], [(.inl (0, 0, 0, 0)), (.inl (0, 127, 0, 6)), (.inr (.inr (.inl (71, 71))))]),
  (249, [(.inl 6), (.inr (128, 5)), (.inl 0), (.inl 0), (.inl 0)], (0, 0), [(.inr (.inr (.inl (44, 44)))), zIA, zIA, (.inr (.inr (.inr 0))), (.inr (.inr (.inr 0))), (.inl (0, 127, 0, 0)), (.inr (.inr (.inr 0)))], []),
  (252, [(.inl 6), (.inr (128, 5)), (.inl 9), (.inl 0), (.inl 0)], (0, 0), [(.inr (.inr (.inl (44, 44)))), zIA, zIA, (.inr (.inr (.inr 0))), (.inr (.inr (.inr 0))), (.inl (1, 128, 0, 0)), (.inr (.inr (.inr 0)))], []),
  (255, [(.inl 5), (.inl 0), (.inl 0), (.inl 0), (.inl 0)], (0, 0), [(.inr (.inr (.inl (44, 44)))), zIA, zIA, (.inr (.inr (.inr 0))), (.inr (.inr (.inr 0))), (.inl (128, 128, 0, 0)), (.inr (.inr (.inr 0)))], []),
  (256, [(.inl 4), (.inl 0), (.inl 0), (.inl 0), (.inl 0)], (0, 0), [(.inr (.inr (.inl (44, 44)))), zIA, zIA, (.inr (.inr (.inr 0))), (.inr (.inr (.inr 0))), (.inl (128, 128, 0, 0)), (.inr (.inr (.inr 0)))], [(.inl (0, 0, 0, 0))]),
  (258, [(.inl 3), (.inr (20, 5)), (.inl 13), (.inl 0), (.inl 0)], (0, 0), [(.inr (.inr (.inl (44, 44)))), zIA, zIA, (.inr (.inr (.inr 0))), (.inr (.inr (.inr 0))), (.inl (0, 20, 0, 0)), (.inr (.inr (.inr 0)))], []),
  (260, [(.inl 3), (.inr (20, 5)), (.inl 12), (.inl 0), (.inl 0)], (0, 0), [(.inr (.inr (.inl (44, 44)))), zIA, zIA, (.inr (.inr (.inr 0))), (.inr (.inr (.inr 0))), (.inl (0, 20, 0, 0)), (.inr (.inr (.inr 0)))], [(.inl (0, 20, 0, 6))]),
  (261, [(.inl 3), (.inr (20, 5)), (.inl 11), (.inl 0), (.inl 0)], (0, 0), [(.inr (.inr (.inl (44, 44)))), zIA, zIA, (.inr (.inr (.inr 0))), (.inr (.inr (.inr 0))), (.inl (0, 20, 0, 0)), (.inr (.inr (.inr 0)))], [(.inr (.inr (.inl (44, 44)))), (.inl (0, 20, 0, 6))]),
  (264, [(.inl 3), (.inr (20, 5)), (.inl 10), (.inl 0), (.inl 0)], (0, 0), [(.inr (.inr (.inl (44, 44)))), zIA, zIA, (.inr (.inr (.inr 0))), (.inr (.inr (.inr 0))), (.inl (0, 20, 0, 0)), (.inr (.inr (.inr 0)))], [(.inr (.inr (.inl (46, 46)))), (.inl (0, 20, 0, 6))]),
  (265, [(.inl 3), (.inr (20, 5)), (.inl 9), (.inl 0), (.inl 0)], (0, 0), [(.inr (.inr (.inl (44, 44)))), zIA, zIA, (.inr (.inr (.inr 0))), (.inr (.inr (.inr 0))), (.inl (0, 20, 0, 0)), (.inr (.inr (.inr 0)))], [(.inl (20, 20, 0, 0)), (.inl (0, 20, 0, 6))]),
  (268, [(.inl 3), (.inr (20, 5)), (.inl 8), (.inl 0), (.inl 0)], (0, 0), [(.inr (.inr (.inl (44, 44)))), zIA, zIA, (.inr (.inr (.inr 0))), (.inr (.inr (.inr 0))), (.inl (0, 19, 0, 0)), (.inr (.inr (.inr 0)))], []),
  (269, [(.inl 3), (.inr (20, 5)), (.inl 7), (.inl 0), (.inl 0)], (0, 0), [(.inr (.inr (.inl (44, 44)))), zIA, zIA, (.inr (.inr (.inr 0))), (.inr (.inr (.inr 0))), (.inl (0, 19, 0, 0)), (.inr (.inr (.inr 0)))], [(.inr (.inr (.inl (44, 44))))]),
  (272, [(.inl 3), (.inr (20, 5)), (.inl 6), (.inl 0), (.inl 0)], (0, 0), [(.inr (.inr (.inl (44, 44)))), zIA, zIA, (.inr (.inr (.inr 0))), (.inr (.inr (.inr 0))), (.inl (0, 19, 0, 0)), (.inr (.inr (.inr 0)))], [(.inr (.inr (.inl (67, 67))))]),
  (274, [(.inl 3), (.inr (20, 5)), (.inl 5), (.inl 0), (.inl 0)], (0, 0), [(.inr (.inr (.inl (44, 44)))), zIA, zIA, (.inr (.inr (.inr 0))), (.inr (.inr (.inr 0))), (.inl (0, 19, 0, 0)), (.inr (.inr (.inr 0)))], [(.inl (0, 19, 0, 6)), (.inr (.inr (.inl (67, 67))))]),
  (275, [(.inl 3), (.inr (20, 5)), (.inl 4), (.inl 0), (.inl 0)], (0, 0), [(.inr (.inr (.inl (44, 44)))), zIA, zIA, (.inr (.inr (.inr 0))), (.inr (.inr (.inr 0))), (.inl (0, 19, 0, 0)), (.inr (.inr (.inr 0)))], [(.inl (0, 0, 0, 0)), (.inl (0, 19, 0, 6)), (.inr (.inr (.inl (67, 67))))]),
  (276, [(.inl 3), (.inr (20, 5)), (.inl 3), (.inl 0), (.inl 0)], (0, 0), [(.inr (.inr (.inl (44, 44)))), zIA, zIA, (.inr (.inr (.inr 0))), (.inr (.inr (.inr 0))), (.inl (0, 19, 0, 0)), (.inr (.inr (.inr 0)))], []),
  (277, [(.inl 3), (.inr (20, 5)), (.inl 2), (.inl 0), (.inl 0)], (0, 0), [(.inr (.inr (.inl (44, 44)))), zIA, zIA, (.inr (.inr (.inr 0))), (.inr (.inr (.inr 0))), (.inl (0, 19, 0, 0)), (.inr (.inr (.inr 0)))], [(.inl (0, 0, 0, 0))]),
  (279, [(.inl 3), (.inr (20, 5)), (.inl 1), (.inr (8, 6)), (.inl 8)], (0, 0), [(.inr (.inr (.inl (44, 44)))), zIA, zIA, (.inr (.inr (.inr 0))), (.inr (.inr (.inr 0))), (.inl (0, 19, 0, 0)), (.inl (0, 8, 0, 0))], []),
  (281, [(.inl 3), (.inr (20, 5)), (.inl 1), (.inr (8, 6)), (.inl 7)], (0, 0), [(.inr (.inr (.inl (44, 44)))), zIA, zIA, (.inr (.inr (.inr 0))), (.inr (.inr (.inr 0))), (.inl (0, 19, 0, 0)), (.inl (0, 8, 0, 0))], [(.inl (0, 8, 0, 7))]),
  (283, [(.inl 3), (.inr (20, 5)), (.inl 1), (.inr (8, 6)), (.inl 6)], (0, 0), [(.inr (.inr (.inl (44, 44)))), zIA, zIA, (.inr (.inr (.inr 0))), (.inr (.inr (.inr 0))), (.inl (0, 19, 0, 0)), (.inl (0, 8, 0, 0))], [(.inl (8, 8, 0, 0)), (.inl (0, 8, 0, 7))]),
  (286, [(.inl 3), (.inr (20, 5)), (.inl 1), (.inr (8, 6)), (.inl 5)], (0, 0), [(.inr (.inr (.inl (44, 44)))), zIA, zIA, (.inr (.inr (.inr 0))), (.inr (.inr (.inr 0))), (.inl (0, 19, 0, 0)), (.inl (0, 7, 0, 0))], []),
  (287, [(.inl 3), (.inr (20, 5)), (.inl 1), (.inr (8, 6)), (.inl 4)], (0, 0), [(.inr (.inr (.inl (44, 44)))), zIA, zIA, (.inr (.inr (.inr 0))), (.inr (.inr (.inr 0))), (.inl (0, 19, 0, 0)), (.inl (0, 7, 0, 0))], [(.inr (.inr (.inl (44, 44))))]),
  (289, [(.inl 3), (.inr (20, 5)), (.inl 1), (.inr (8, 6)), (.inl 3)], (0, 0), [(.inr (.inr (.inl (44, 44)))), zIA, zIA, (.inr (.inr (.inr 0))), (.inr (.inr (.inr 0))), (.inl (0, 19, 0, 0)), (.inl (0, 7, 0, 0))], [(.inl (0, 19, 0, 6)), (.inr (.inr (.inl (44, 44))))]),
  (291, [(.inl 3), (.inr (20, 5)), (.inl 1), (.inr (8, 6)), (.inl 2)], (0, 0), [(.inr (.inr (.inl (44, 44)))), zIA, zIA, (.inr (.inr (.inr 0))), (.inr (.inr (.inr 0))), (.inl (0, 19, 0, 0)), (.inl (0, 7, 0, 0))], [(.inl (0, 7, 0, 7)), (.inl (0, 19, 0, 6)), (.inr (.inr (.inl (44, 44))))]),
  (292, [(.inl 3), (.inr (20, 5)), (.inl 1), (.inr (8, 6)), (.inl 1)], (0, 0), [(.inr (.inr (.inl (44, 44)))), zIA, zIA, (.inr (.inr (.inr 0))), (.inr (.inr (.inr 0))), (.inl (0, 19, 0, 0)), (.inl (0, 7, 0, 0))], [(.inl (0, 0, 0, 0)), (.inl (0, 7, 0, 7)), (.inl (0, 19, 0, 6)), (.inr (.inr (.inl (44, 44))))]),
  (295, [(.inl 3), (.inr (20, 5)), (.inl 1), (.inr (8, 6)), (.inl 0)], (0, 0), [(.inr (.inr (.inl (44, 44)))), zIA, zIA, (.inr (.inr (.inr 0))), (.inr (.inr (.inr 0))), (.inl (0, 19, 0, 0)), (.inl (0, 7, 0, 0))], []),
  (298, [(.inl 3), (.inr (20, 5)), (.inl 1), (.inr (8, 6)), (.inl 9)], (0, 0), [(.inr (.inr (.inl (44, 44)))), zIA, zIA, (.inr (.inr (.inr 0))), (.inr (.inr (.inr 0))), (.inl (0, 19, 0, 0)), (.inl (1, 8, 0, 0))], []),
  (301, [(.inl 3), (.inr (20, 5)), (.inl 0), (.inl 0), (.inl 0)], (0, 0), [(.inr (.inr (.inl (44, 44)))), zIA, zIA, (.inr (.inr (.inr 0))), (.inr (.inr (.inr 0))), (.inl (0, 19, 0, 0)), (.inl (8, 8, 0, 0))], []),
  (304, [(.inl 3), (.inr (20, 5)), (.inl 14), (.inl 0), (.inl 0)], (0, 0), [(.inr (.inr (.inl (44, 44)))), zIA, zIA, (.inr (.inr (.inr 0))), (.inr (.inr (.inr 0))), (.inl (1, 20, 0, 0)), (.inl (8, 8, 0, 0))], []),
  (307, [(.inl 2), (.inl 0), (.inl 0), (.inl 0), (.inl 0)], (0, 0), [(.inr (.inr (.inl (44, 44)))), zIA, zIA, (.inr (.inr (.inr 0))), (.inr (.inr (.inr 0))), (.inl (20, 20, 0, 0)), (.inr (.inr (.inr 0)))], []),
  (308, [(.inl 1), (.inl 0), (.inl 0), (.inl 0), (.inl 0)], (0, 0), [(.inr (.inr (.inl (44, 44)))), zIA, zIA, (.inr (.inr (.inr 0))), (.inr (.inr (.inr 0))), (.inl (20, 20, 0, 0)), (.inr (.inr (.inr 0)))], [(.inr (.inr (.inl (44, 44))))]),
  (311, [(.inl 0), (.inl 0), (.inl 0), (.inl 0), (.inl 0)], (0, 0), [(.inr (.inr (.inl (44, 44)))), zIA, zIA, (.inr (.inr (.inr 0))), (.inr (.inr (.inr 0))), (.inl (20, 20, 0, 0)), (.inr (.inr (.inr 0)))], [(.inl (8, 16, 8, 0))])]
def cs_coB : List zCt := [ct_117, ct_126]
theorem gs_coB {xs : List Int32} : ∀ ct ∈ cs_coB, zGd xs ct := List.forall_mem_cons.mpr ⟨g_117, List.forall_mem_cons.mpr ⟨g_126, fun _ h => absurd h List.not_mem_nil⟩⟩
section ZHM
variable {xs : List Int32} {g : zG} {lg : Nat} {h : zH} {D nc ns y pc nx k yy m c : Nat} {L : zL} {r st : List Value} {P : zO → Prop}
theorem zEs_chk {a : Nat} {vs : List Value} (h1 : zat (zmc y) pc = some (.checkcast m, nx, 100, yy, k, c)) (ha : h[a]? = some (100, vs)) (g9 : zEs xs D y nx L (.ref a :: r) h nc ns P) : zEs xs D y pc L (.ref a :: r) h nc ns P := by
  refine zEs_step (dc := 0) (ds := 0) h1 ?_ g9
  show zchk 100 nx L (.ref a :: r) h = _
  unfold zchk
  dsimp only
  rw [ha]
  exact if_pos rfl
def zwe (g : zG) (z : Nat → Nat) : zG := (g.1, g.2.1, g.2.2.1, g.2.2.2.1, g.zs, g.zw, g.zn, g.nl, z)
theorem l_139a {K R : Int32} {r3 r4 : Nat} {S : Nat} {o6 : Option Value} {t : Nat} (ht : 3 ≤ t) (htn : t < g.nl) (hr : g.p t = r3) (hS : g.zs = S) (hS2 : S ≤ 24) : ∀ (n : Nat) (i : Int32) (z : Nat → Nat) (h : zH) (nc ns : Nat), zHI (zwe g z) lg h → (z t : Int) ≤ i.toInt → i.toInt ≤ S → (S - i.toInt).toNat < n →
    (∀ (z' : Nat → Nat) (h' : zH) (nc' ns' : Nat) (i' : Int32), zHI (zwe g z') lg h' → (∀ u, u ≠ t → z' u = z u) → (nc' : Int) ≤ nc + (S - i.toInt) → (ns' : Int) ≤ ns + 91 * (S - i.toInt) → zLE h h' → zEs xs 30 139 141 [some (.ref 44), some (.int K), some (.int R), some (.ref r3), some (.ref r4), some (.int i'), o6] [] h' nc' ns' P) → zEs xs 30 139 78 [some (.ref 44), some (.int K), some (.int R), some (.ref r3), some (.ref r4), some (.int i), o6] [] h nc ns P
  | 0, _, _, _, _, _, _, _, _, hn, _ => absurd hn (Nat.not_lt_zero _)
  | n + 1, i, z, h, nc, ns, hI, hzt, i1, hn, Z => by
    have hz := hI.sizes
    have hnl : (zwe g z).nl = g.nl := rfl
    have hzs : (zwe g z).zs = S := hS
    obtain ⟨vs, m1, m2, m3, m4⟩ := hI.obj
    have ff := zfldL (j := 0) m3 (k := 23) (by decide) rfl
    obtain ⟨ws, hw⟩ := zrow10 hI (j := 0) (by omega)
    refine zEs_run 2 rfl ?_
    refine zEs_get rfl m1 rfl ff ?_
    refine zEs_callG rfl (show zcallV 0 10 243 89 (.ref ((zwe g z).p 0) :: _) h = _ from zcallV_eq rfl hw (Nat.le_of_ble_eq_true rfl)) (zsize (D := 29) (j := 0) hI (by omega) (show (zwe g z).zs ≤ 1000 by omega)) (fun v h9 nc9 ns9 q => ?_) (fun E h9 nc9 ns9 q => by obtain ⟨_, _, q⟩ := q; cases q)
    obtain ⟨x, hx, q⟩ := q
    cases q
    have hx : x.toInt = ((zwe g z).zs : Nat) := hx
    refine zEs_icmp rfl (fun gg => ?_) (fun gg => ?_)
    · exact Z z h _ _ i hI (fun _ _ => rfl) (by omega) (by omega) zLE_rf
    · have zz := zF_ge_f gg
      have hi := zinc_le (x := i) (n := 1) (by omega) (by decide) (by decide)
      have J : ∀ (z' : Nat → Nat) (h' : zH) (nc' ns' : Nat), zHI (zwe g z') lg h' → (∀ u, u ≠ t → z' u = z u) → z' t ≤ z t + 1 → nc' ≤ nc + 1 → ns' ≤ ns + 91 → zLE h h' → zEs xs 30 139 135 [some (.ref 44), some (.int K), some (.int R), some (.ref r3), some (.ref r4), some (.int i), o6] [] h' nc' ns' P := by
        intro z' h' nc' ns' f1 f2 f3 f4 f5 f6
        refine zEs_run 2 rfl ?_
        refine l_139a ht htn hr hS hS2 n _ z' h' _ _ f1 (by omega) (by omega) (by omega) (fun z2 h2 nc2 ns2 i2 e1 e2 e3 e4 e5 => ?_)
        exact Z z2 h2 nc2 ns2 i2 e1 (fun u hu => (e2 u hu).trans (f2 u hu)) (by omega) (by omega) (zLE_tr f6 e5)
      refine zEs_run 1 rfl ?_
      refine zEs_get rfl m1 rfl ff ?_
      refine zEs_run 1 rfl ?_
      have GT : zMs xs 29 239 [.ref ((zwe g z).p 0), .int i] h (nc + 0 + 0 + 0 + 0 + 0 + 0) (ns + 0 + 0 + 0 + 0 + 0 + 0) (fun o => ∃ e l, 73 ≤ e ∧ h[e]? = some (zar l) ∧ zQj 0 l ∧ o = (.inl (some (.ref e)), h, nc, ns)) := zgetl (D := 27) (j := 0) hI (by omega) (by omega) (show i.toInt < ((zwe g z).zs : Nat) by omega)
      refine zEs_callG rfl (show zcallV 1 10 239 103 (.int i :: .ref ((zwe g z).p 0) :: _) h = _ from zcallV_eq rfl hw (Nat.le_of_ble_eq_true rfl)) GT (fun v h9 nc9 ns9 q => ?_) (fun E h9 nc9 ns9 q => by obtain ⟨_, _, _, _, _, q⟩ := q; cases q)
      obtain ⟨e, l, e1, e2, ⟨a0, a1, a2, a3, rfl, b0, b1⟩, q⟩ := q
      cases q
      refine zEs_chk rfl e2 ?_
      refine zEs_run 1 rfl ?_
      refine zEs_ald (l := [a0, a1, a2, a3]) (v := a2) rfl e2 (by decide) rfl ?_
      refine zEs_run 3 rfl ?_
      refine zEs_icmp rfl (fun _ => J z h _ _ hI (fun _ _ => rfl) (by omega) (by omega) (by omega) zLE_rf) (fun _ => ?_)
      refine zEs_run 2 rfl ?_
      refine zEs_get rfl m1 rfl ff ?_
      refine zEs_run 1 rfl ?_
      refine zEs_callG rfl (show zcallV 1 10 239 126 (.int i :: .ref ((zwe g z).p 0) :: _) h = _ from zcallV_eq rfl hw (Nat.le_of_ble_eq_true rfl)) GT (fun v h9 nc9 ns9 q => ?_) (fun E h9 nc9 ns9 q => by obtain ⟨_, _, _, _, _, q⟩ := q; cases q)
      obtain ⟨e', l', f1, f2, f3, q⟩ := q
      cases q
      refine zEs_chk rfl f2 ?_
      obtain ⟨ws2, hw2⟩ := zrow10 hI (j := t) (by omega)
      have hr2 : (zwe g z).p t = r3 := hr
      rw [hr2] at hw2
      have AD := zadd (xs := xs) (D := 24) (nc := nc) (ns := ns) (g' := zwe g (fun u => if u = t then z t + 1 else z u)) (lg' := lg) (j := t) hI (by omega) f1 f2 (by rw [zQj3 ht]; exact f3) rfl rfl rfl rfl rfl rfl (fun u hu ne => by
        unfold zsz
        split
        · rfl
        · rfl
        · rfl
        · exact if_neg ne) (by
        rw [zsz3 ht, zsz3 ht]
        exact if_pos rfl) ⟨hz.1, hz.2.1, hz.2.2.1, fun u => by
        show (if u = t then z t + 1 else z u) ≤ 24
        split
        · omega
        · exact hz.2.2.2.2.2.2 u⟩
      rw [hr2] at AD
      refine zEs_callG rfl (show zcallV 1 10 237 134 [.ref e', .ref r3] h = _ from zcallV_eq rfl hw2 (by decide)) AD (fun v h9 nc9 ns9 q => ?_) (fun E h9 nc9 ns9 q => by obtain ⟨_, _, _, q, _⟩ := q; cases q)
      obtain ⟨h', nc', ns', q, g1, g2, g3, g4, g5⟩ := q
      cases q
      refine zEs_run 1 rfl ?_
      exact J _ h9 _ _ g1 (fun u hu => if_neg hu) (by show (if t = t then z t + 1 else z t) ≤ _; rw [if_pos rfl]; omega) g4 g5 g2
theorem l_139b {K R : Int32} {r3 r4 : Nat} {S : Nat} {o6 : Option Value} {t : Nat} (ht : 3 ≤ t) (htn : t < g.nl) (hr : g.p t = r4) (hS : g.zw = S) (hS2 : S ≤ 24) : ∀ (n : Nat) (i : Int32) (z : Nat → Nat) (h : zH) (nc ns : Nat), zHI (zwe g z) lg h → (z t : Int) ≤ i.toInt → i.toInt ≤ S → (S - i.toInt).toNat < n →
    (∀ (z' : Nat → Nat) (h' : zH) (nc' ns' : Nat) (i' : Int32), zHI (zwe g z') lg h' → (∀ u, u ≠ t → z' u = z u) → (nc' : Int) ≤ nc + (S - i.toInt) → (ns' : Int) ≤ ns + 91 * (S - i.toInt) → zLE h h' → zEs xs 30 139 208 [some (.ref 44), some (.int K), some (.int R), some (.ref r3), some (.ref r4), some (.int i'), o6] [] h' nc' ns' P) → zEs xs 30 139 144 [some (.ref 44), some (.int K), some (.int R), some (.ref r3), some (.ref r4), some (.int i), o6] [] h nc ns P
  | 0, _, _, _, _, _, _, _, _, hn, _ => absurd hn (Nat.not_lt_zero _)
  | n + 1, i, z, h, nc, ns, hI, hzt, i1, hn, Z => by
    have hz := hI.sizes
    have hnl : (zwe g z).nl = g.nl := rfl
    have hzs : (zwe g z).zw = S := hS
    obtain ⟨vs, m1, m2, m3, m4⟩ := hI.obj
    have ff := zfldL (j := 1) m3 (k := 24) (by decide) rfl
    obtain ⟨ws, hw⟩ := zrow10 hI (j := 1) (by omega)
    refine zEs_run 2 rfl ?_
    refine zEs_get rfl m1 rfl ff ?_
    refine zEs_callG rfl (show zcallV 0 10 243 155 (.ref ((zwe g z).p 1) :: _) h = _ from zcallV_eq rfl hw (Nat.le_of_ble_eq_true rfl)) (zsize (D := 29) (j := 1) hI (by omega) (show (zwe g z).zw ≤ 1000 by omega)) (fun v h9 nc9 ns9 q => ?_) (fun E h9 nc9 ns9 q => by obtain ⟨_, _, q⟩ := q; cases q)
    obtain ⟨x, hx, q⟩ := q
    cases q
    have hx : x.toInt = ((zwe g z).zw : Nat) := hx
    refine zEs_icmp rfl (fun gg => ?_) (fun gg => ?_)
    · exact Z z h _ _ i hI (fun _ _ => rfl) (by omega) (by omega) zLE_rf
    · have zz := zF_ge_f gg
      have hi := zinc_le (x := i) (n := 1) (by omega) (by decide) (by decide)
      have J : ∀ (z' : Nat → Nat) (h' : zH) (nc' ns' : Nat), zHI (zwe g z') lg h' → (∀ u, u ≠ t → z' u = z u) → z' t ≤ z t + 1 → nc' ≤ nc + 1 → ns' ≤ ns + 91 → zLE h h' → zEs xs 30 139 202 [some (.ref 44), some (.int K), some (.int R), some (.ref r3), some (.ref r4), some (.int i), o6] [] h' nc' ns' P := by
        intro z' h' nc' ns' f1 f2 f3 f4 f5 f6
        refine zEs_run 2 rfl ?_
        refine l_139b ht htn hr hS hS2 n _ z' h' _ _ f1 (by omega) (by omega) (by omega) (fun z2 h2 nc2 ns2 i2 e1 e2 e3 e4 e5 => ?_)
        exact Z z2 h2 nc2 ns2 i2 e1 (fun u hu => (e2 u hu).trans (f2 u hu)) (by omega) (by omega) (zLE_tr f6 e5)
      refine zEs_run 1 rfl ?_
      refine zEs_get rfl m1 rfl ff ?_
      refine zEs_run 1 rfl ?_
      have GT : zMs xs 29 239 [.ref ((zwe g z).p 1), .int i] h (nc + 0 + 0 + 0 + 0 + 0 + 0) (ns + 0 + 0 + 0 + 0 + 0 + 0) (fun o => ∃ e l, 73 ≤ e ∧ h[e]? = some (zar l) ∧ zQj 1 l ∧ o = (.inl (some (.ref e)), h, nc, ns)) := zgetl (D := 27) (j := 1) hI (by omega) (by omega) (show i.toInt < ((zwe g z).zw : Nat) by omega)
      refine zEs_callG rfl (show zcallV 1 10 239 169 (.int i :: .ref ((zwe g z).p 1) :: _) h = _ from zcallV_eq rfl hw (Nat.le_of_ble_eq_true rfl)) GT (fun v h9 nc9 ns9 q => ?_) (fun E h9 nc9 ns9 q => by obtain ⟨_, _, _, _, _, q⟩ := q; cases q)
      obtain ⟨e, l, e1, e2, ⟨a0, a1, a2, a3, rfl, b0, b1⟩, q⟩ := q
      cases q
      refine zEs_chk rfl e2 ?_
      refine zEs_run 1 rfl ?_
      refine zEs_ald (l := [a0, a1, a2, a3]) (v := a2) rfl e2 (by decide) rfl ?_
      refine zEs_run 3 rfl ?_
      refine zEs_icmp rfl (fun _ => J z h _ _ hI (fun _ _ => rfl) (by omega) (by omega) (by omega) zLE_rf) (fun _ => ?_)
      refine zEs_run 2 rfl ?_
      refine zEs_get rfl m1 rfl ff ?_
      refine zEs_run 1 rfl ?_
      refine zEs_callG rfl (show zcallV 1 10 239 193 (.int i :: .ref ((zwe g z).p 1) :: _) h = _ from zcallV_eq rfl hw (Nat.le_of_ble_eq_true rfl)) GT (fun v h9 nc9 ns9 q => ?_) (fun E h9 nc9 ns9 q => by obtain ⟨_, _, _, _, _, q⟩ := q; cases q)
      obtain ⟨e', l', f1, f2, f3, q⟩ := q
      cases q
      refine zEs_chk rfl f2 ?_
      obtain ⟨ws2, hw2⟩ := zrow10 hI (j := t) (by omega)
      have hr2 : (zwe g z).p t = r4 := hr
      rw [hr2] at hw2
      have AD := zadd (xs := xs) (D := 24) (nc := nc) (ns := ns) (g' := zwe g (fun u => if u = t then z t + 1 else z u)) (lg' := lg) (j := t) hI (by omega) f1 f2 (by rw [zQj3 ht]; exact f3) rfl rfl rfl rfl rfl rfl (fun u hu ne => by
        unfold zsz
        split
        · rfl
        · rfl
        · rfl
        · exact if_neg ne) (by
        rw [zsz3 ht, zsz3 ht]
        exact if_pos rfl) ⟨hz.1, hz.2.1, hz.2.2.1, fun u => by
        show (if u = t then z t + 1 else z u) ≤ 24
        split
        · omega
        · exact hz.2.2.2.2.2.2 u⟩
      rw [hr2] at AD
      refine zEs_callG rfl (show zcallV 1 10 237 201 [.ref e', .ref r4] h = _ from zcallV_eq rfl hw2 (by decide)) AD (fun v h9 nc9 ns9 q => ?_) (fun E h9 nc9 ns9 q => by obtain ⟨_, _, _, q, _⟩ := q; cases q)
      obtain ⟨h', nc', ns', q, g1, g2, g3, g4, g5⟩ := q
      cases q
      refine zEs_run 1 rfl ?_
      exact J _ h9 _ _ g1 (fun u hu => if_neg hu) (by show (if t = t then z t + 1 else z t) ≤ _; rw [if_pos rfl]; omega) g4 g5 g2
def zcA (g : zG) (z : Nat → Nat) (t : Nat) : zG := (g.1, g.2.1, g.2.2.1, (fun i => if i = 0 then g.p t else if i = 3 then g.p (t + 1) else g.p i), z t, g.zw, g.zn, 4, fun u => if u = 3 then z (t + 1) else 0)
def zcB (g : zG) (z : Nat → Nat) (t : Nat) : zG := (g.1, g.2.1, g.2.2.1, (fun i => if i = 0 then g.p t else if i = 1 then g.p (t + 1) else g.p i), z t, z (t + 1), g.zn, 3, fun _ => 0)
theorem zHI_A {z : Nat → Nat} {t : Nat} {vs : List Value} (hI : zHI (zwe g z) lg h) (h0 : h[44]? = some (7, vs)) (ht : 3 ≤ t) (hn : t + 1 < g.nl) (hz : ∀ u, z u ≤ 24) : zHI (zcA g z t) lg (h.set 44 (7, vs.set 23 (.ref (g.p t)))) := by
  have hs := hI.sizes
  exact zHI_sg (g := zwe g z) (g' := zcA g z t) (lg' := lg) (j := 0) (nl' := 4) (σ := fun i => if i = 0 then t else if i = 3 then t + 1 else i) hI h0 (by decide) (by decide) (fun i hi => by
    show (if i = 0 then t else if i = 3 then t + 1 else i) < g.nl
    split
    · omega
    · split <;> omega) (fun i i' hi hi' e => by
    have e : (if i = 0 then t else if i = 3 then t + 1 else i) = (if i' = 0 then t else if i' = 3 then t + 1 else i') := e
    rcases (show i = 0 ∨ i = 1 ∨ i = 2 ∨ i = 3 by omega) with rfl | rfl | rfl | rfl <;> rcases (show i' = 0 ∨ i' = 1 ∨ i' = 2 ∨ i' = 3 by omega) with rfl | rfl | rfl | rfl <;> simp at e ⊢ <;> omega) (fun i hi ne => by
    show (if i = 0 then t else if i = 3 then t + 1 else i) = i
    rw [if_neg ne, if_neg (by omega)]) (fun i hi => by
    left
    show zQj (if i = 0 then t else if i = 3 then t + 1 else i) = zQj i
    rcases (show i = 0 ∨ i = 1 ∨ i = 2 ∨ i = 3 by omega) with rfl | rfl | rfl | rfl
    · rw [if_pos rfl, zQj3 ht]
      rfl
    · rfl
    · rfl
    · rw [if_neg (by decide), if_pos rfl, zQj3 (by omega)]
      rfl) rfl rfl rfl rfl rfl (fun i hi => by
    show (if i = 0 then g.p t else if i = 3 then g.p (t + 1) else g.p i) = g.p (if i = 0 then t else if i = 3 then t + 1 else i)
    split
    · rfl
    · split <;> rfl) (fun i hi => by
    show zsz (zcA g z t) lg i = zsz (zwe g z) lg (if i = 0 then t else if i = 3 then t + 1 else i)
    rcases (show i = 0 ∨ i = 1 ∨ i = 2 ∨ i = 3 by omega) with rfl | rfl | rfl | rfl
    · rw [if_pos rfl, zsz3 ht]
      rfl
    · rfl
    · rfl
    · rw [if_neg (by decide), if_pos rfl, zsz3 (g := zwe g z) (show 3 ≤ t + 1 by omega)]
      rfl) ⟨hz t, hs.2.1, hs.2.2.1, fun u => by
    show (if u = 3 then z (t + 1) else 0) ≤ 24
    split
    · exact hz _
    · omega⟩
theorem zHI_B {z : Nat → Nat} {t : Nat} {vs : List Value} (hI : zHI (zcA g z t) lg h) (h0 : h[44]? = some (7, vs)) (hz : ∀ u, z u ≤ 24) : zHI (zcB g z t) lg (h.set 44 (7, vs.set 24 (.ref (g.p (t + 1))))) := by
  have hs := hI.sizes
  exact zHI_sg (g' := zcB g z t) (lg' := lg) (j := 1) (nl' := 3) (σ := fun i => if i = 1 then 3 else i) hI h0 (by decide) (by decide) (fun i hi => by
    show (if i = 1 then 3 else i) < 4
    split <;> omega) (fun i i' hi hi' e => by
    have e : (if i = 1 then 3 else i) = (if i' = 1 then 3 else i') := e
    split at e <;> split at e <;> omega) (fun i hi ne => if_neg ne) (fun i hi => by
    left
    rcases (show i = 0 ∨ i = 1 ∨ i = 2 by omega) with rfl | rfl | rfl <;> rfl) rfl rfl rfl rfl rfl (fun i hi => by
    rcases (show i = 0 ∨ i = 1 ∨ i = 2 by omega) with rfl | rfl | rfl <;> rfl) (fun i hi => by
    rcases (show i = 0 ∨ i = 1 ∨ i = 2 by omega) with rfl | rfl | rfl <;> rfl) ⟨hz t, hz _, hs.2.2.1, fun u => Nat.zero_le _⟩
theorem zset_w {x y : Nat × List Value} {X : zH} (hl : 44 < h.length) : (h.set 44 x ++ X).set 44 y = (h ++ X).set 44 y := by
  rw [List.set_append_left _ _ (by simpa using hl), List.set_append_left _ _ hl, List.set_set]
theorem zst_go {vs : List Value} {k : Nat} {v : Value} {g' : zG} (hk : k < 26) (m1 : h[44]? = some (7, vs)) (l : vs.length = 26) (q : zHI g' lg (h.set 44 (7, vs.set k v)) ∧ zLE h (h.set 44 (7, vs.set k v))) : ∃ (h' : zH) (ws : List Value), h.set 44 (7, vs.set k v) = h' ∧ zHI g' lg h' ∧ zLE h h' ∧ h'[44]? = some (7, ws) ∧ ws.length = 26 ∧ ws[k]? = some v ∧ ∀ j, j ≠ k → ws[j]? = vs[j]? :=
  ⟨_, _, rfl, q.1, q.2, List.getElem?_set_self (List.getElem?_eq_some_iff.mp m1).1, by simpa using l, List.getElem?_set_self (by omega), fun j hj => List.getElem?_set_ne (fun z => hj z.symm)⟩
/-- the reference's object tells the code c2 -/
def zMf (g : zG) (c2 : Nat × Nat) (h : zH) : Prop := c2 ∈ zcds ∧ g.f 1 = .int (Int32.ofNat c2.1) ∧ g.f 2 = .int (Int32.ofNat c2.2) ∧ ∃ q : Nat, g.f 3 = .ref q ∧ 73 ≤ q ∧ h[q]? = some (zar (zcol c2.1 c2.2))
def zP139 (g : zG) (h0 : zH) (x1 x2 : Int32) (nc ns : Nat) : zO → Prop := fun o => ∃ (v : Int32) (g' : zG) (lg' : Nat) (h' : zH) (nc' ns' : Nat), o = (.inl (some (.int v)), h', nc', ns') ∧ zHI g' lg' h' ∧ zLE h0 h' ∧ g'.s = g.s ∧ g'.a = g.a ∧ nc' ≤ nc + 300 ∧ ns' ≤ ns + 13000 ∧ (¬ zCd x1 x2 ∧ zfw g' = zfw g ∨ zCd x1 x2 ∧ ∃ k r : Nat, x1 = Int32.ofNat k ∧ x2 = Int32.ofNat r ∧ zMf g' (k, r) h')
theorem m_139 {x1 x2 : Int32} (hI : zHI g lg h) : zMs xs 30 139 [.ref 44, .int x1, .int x2] h nc ns (zP139 g h x1 x2 nc ns) := by
  obtain ⟨vs0, m01, m02, m03, m04⟩ := hI.obj
  refine ⟨_, rfl, zEs_run 2 rfl ?_⟩
  refine zEs_put rfl m01 rfl rfl (by omega) ?_
  obtain ⟨h1, w1, e1, b1, le1, c1, l1, s1, k1⟩ := zst_go (by decide) m01 m02 (zHI_fld (k := 0) (v := .int (Int32.ofInt 0)) hI m01 (by decide) (zIA_ok _) (by decide))
  rw [e1]
  have no : ¬ zCd x1 x2 → zEs xs 30 139 33 [some (.ref 44), some (.int x1), some (.int x2), none, none, none, none] [] h1 nc ns (zP139 g h x1 x2 nc ns) := by
    intro nr
    refine zEs_run 2 rfl ?_
    refine zEs_callG rfl (show zcallV 1 7 111 38 [.int (Int32.ofInt 1), .ref 44] h1 = _ from zcallV_eq rfl c1 (by decide)) (m_111 c1 l1) (fun v h9 nc1 ns1 q => ?_) (fun E h9 nc1 ns1 q => by cases q)
    cases q
    obtain ⟨i1, i2⟩ := zHI_fld (k := 0) (v := .int (Int32.ofInt 1)) b1 c1 (by decide) (zIA_ok _) (by decide)
    exact zEs_end rfl rfl ⟨_, g, lg, _, _, _, rfl, i1, zLE_tr le1 i2, rfl, rfl, by omega, by omega, Or.inl ⟨nr, rfl⟩⟩
  have e4 : (Int32.ofInt 4).toInt = 4 := by decide
  have e10 : ((Int8.ofInt 10).toInt32).toInt = 10 := by decide
  have e6 : ((Int8.ofInt 6).toInt32).toInt = 6 := by decide
  refine zEs_run 3 rfl ?_
  refine zEs_callG rfl rfl m_112x (fun v h9 nc1 ns1 q => ?_) (fun E h9 nc1 ns1 q => by obtain ⟨_, q, _⟩ := q; cases q)
  obtain ⟨w, q, hw⟩ := q
  cases q
  rw [e4, e10] at hw
  refine zEs_if rfl (fun q1 => ?_) (fun q1 => ?_)
  · rcases hw with ⟨rfl, -⟩ | ⟨rfl, z⟩
    · exact absurd (zF_eq_t q1) (by decide)
    · exact no (fun k => z k.1)
  replace hw := hw.resolve_right (fun z => by
    obtain ⟨rfl, -⟩ := z
    exact zF_eq_f q1 rfl)
  obtain ⟨-, A1⟩ := hw
  clear q1
  refine zEs_run 3 rfl ?_
  refine zEs_callG rfl rfl m_112x (fun v h9 nc1 ns1 q => ?_) (fun E h9 nc1 ns1 q => by obtain ⟨_, q, _⟩ := q; cases q)
  obtain ⟨w, q, hw⟩ := q
  cases q
  rw [e4, e6] at hw
  refine zEs_if rfl (fun q1 => ?_) (fun q1 => ?_)
  · rcases hw with ⟨rfl, -⟩ | ⟨rfl, z⟩
    · exact absurd (zF_eq_t q1) (by decide)
    · exact no (fun k => z k.2.1)
  replace hw := hw.resolve_right (fun z => by
    obtain ⟨rfl, -⟩ := z
    exact zF_eq_f q1 rfl)
  obtain ⟨-, A2⟩ := hw
  clear q1
  refine zEs_run 1 rfl ?_
  refine zEs_callG rfl rfl (x_115 (D := 28) (r := x2) A2.1 A2.2) (fun v h9 nc1 ns1 q => ?_) (fun E h9 nc1 ns1 q => by cases q)
  cases q
  refine zEs_run 1 rfl ?_
  refine zEs_icmp rfl ?_ (fun q1 => no (fun k => absurd k.2.2 (Int.not_le.mpr (zF_ge_f q1))))
  intro q1
  have z5 := zF_ge_t q1
  have hC : zCd x1 x2 := ⟨A1, A2, z5⟩
  clear q1 no
  obtain ⟨k, r, hm, rfl, rfl, hk, hr⟩ := zCd_ok hC
  obtain ⟨hk4, hk10, hr4, hr6, hlen9⟩ := zcds_kr _ hm
  have eK : (Int32.ofNat k).toInt = (k : Int) := zofI (by omega)
  have eR : (Int32.ofNat r).toInt = (r : Int) := zofI (by omega)
  have hz := b1.sizes
  obtain ⟨vs, m1, m2, m3, m4⟩ := b1.obj
  have hlen := zHI_len b1
  have hl := (List.getElem?_eq_some_iff.mp m1).1
  refine zEs_run 2 rfl ?_
  refine zEs_put rfl m1 rfl rfl (by omega) ?_
  refine zEs_run 2 rfl ?_
  refine zEs_put rfl (List.getElem?_set_self hl) rfl rfl (by rw [List.length_set]; omega) ?_
  rw [List.set_set]
  refine zEs_run 3 rfl ?_
  refine zEs_callG rfl rfl (zMs_and (zMs_mono (show 2 ≤ 29 by decide) (m_116 (K := Int32.ofNat k) (R := Int32.ofNat r) (by omega) (by omega) (by omega) (by omega))) (fun N => r_116 (k := k) (r := r) hk hr (zcds_dl _ hm))) (fun v h9 nc9 ns9 q => ?_) (fun E h9 nc9 ns9 q => by cases q.2)
  replace q := q.2
  cases q
  have hl2 : ((zcol k r).length : Int) = (Int32.ofNat k).toInt + (Int32.ofNat r).toInt := by
    rw [eK, eR]
    exact congrArg Int.ofNat hlen9
  obtain ⟨l, el⟩ : ∃ l, l = zcol k r := ⟨_, rfl⟩
  rw [← el] at hl2 ⊢
  refine zEs_put rfl (zapp_mv _ _ _ (List.getElem?_set_self hl)) rfl rfl (by rw [List.length_set, List.length_set]; omega) ?_
  rw [zset_w hl, List.length_set]
  have I1 := zHI_col b1 m1 ⟨by omega, by omega⟩ ⟨by omega, by omega⟩ hl2
  have row1 : ((h1 ++ [zar l]).set 44 (7, ((vs.set 1 (.int (Int32.ofNat k))).set 2 (.int (Int32.ofNat r))).set 3 (.ref h1.length)))[h1.length]? = some (zar l) := by
    rw [List.getElem?_set_ne (by omega), List.getElem?_append_right (Nat.le_refl _), Nat.sub_self]
    rfl
  -- two new lists
  refine zEs_run 2 rfl ?_
  refine zEs_callG rfl rfl (m_242 (D := 27)) (fun v h9 nc9 ns9 q => ?_) (fun E h9 nc9 ns9 q => by cases q)
  cases q
  have I2 := zHI_new I1
  refine zEs_run 3 rfl ?_
  refine zEs_callG rfl rfl (m_242 (D := 27)) (fun v h9 nc9 ns9 q => ?_) (fun E h9 nc9 ns9 q => by cases q)
  cases q
  have I3 := zHI_new I2
  have hn3 : 3 ≤ g.nl := hz.2.2.2.2.2.1
  have z0 : (Int32.ofInt 0).toInt = 0 := by decide
  have ez : ∀ (r3 r4 : Nat), (znl (znl (zgc g (Int32.ofNat k) (Int32.ofNat r) l.length h1.length) r3) r4).ze g.nl = 0 := fun r3 r4 => (if_neg (show ¬ g.nl = g.nl + 1 by omega)).trans (if_pos rfl)
  have ez2 : ∀ (r3 r4 : Nat), (znl (znl (zgc g (Int32.ofNat k) (Int32.ofNat r) l.length h1.length) r3) r4).ze (g.nl + 1) = 0 := fun r3 r4 => if_pos rfl
  have ep : ∀ (r3 r4 : Nat), (znl (znl (zgc g (Int32.ofNat k) (Int32.ofNat r) l.length h1.length) r3) r4).p g.nl = r3 := fun r3 r4 => (if_neg (show ¬ g.nl = g.nl + 1 by omega)).trans (if_pos rfl)
  have ep2 : ∀ (r3 r4 : Nat), (znl (znl (zgc g (Int32.ofNat k) (Int32.ofNat r) l.length h1.length) r3) r4).p (g.nl + 1) = r4 := fun r3 r4 => if_pos rfl
  refine zEs_run 3 rfl ?_
  refine l_139a (lg := lg) (t := g.nl) (S := g.zs) hn3 (show g.nl < g.nl + 1 + 1 by omega) (ep _ _) rfl hz.1 _ (Int32.ofInt 0) _ _ _ _ I3 (by rw [z0]; show _ ≤ ((0 : Nat) : Int); exact Int.ofNat_le.mpr (Nat.le_of_eq (show (if g.nl = g.nl + 1 then 0 else if g.nl = g.nl then 0 else g.ze g.nl) = 0 by rw [if_neg (by omega), if_pos rfl]))) (by omega) (Nat.lt_succ_self _) (fun z1 h4 nc4 ns4 i4 J1 J2 J3 J4 J5 => ?_)
  refine zEs_run 2 rfl ?_
  refine l_139b (lg := lg) (t := g.nl + 1) (S := g.zw) (by omega) (show g.nl + 1 < g.nl + 1 + 1 by omega) (ep2 _ _) rfl hz.2.1 _ (Int32.ofInt 0) z1 h4 _ _ J1 (by rw [J2 _ (by omega), z0]; show _ ≤ ((0 : Nat) : Int); exact Int.ofNat_le.mpr (Nat.le_of_eq (show (if g.nl + 1 = g.nl + 1 then 0 else if g.nl + 1 = g.nl then 0 else g.ze (g.nl + 1)) = 0 by rw [if_pos rfl]))) (by omega) (Nat.lt_succ_self _) (fun z2 h5 nc5 ns5 i5 E1 E2 E3 E4 E5 => ?_)
  obtain ⟨vs5, q1, q2, q3, q4⟩ := E1.obj
  have hz5 := E1.sizes
  refine zEs_run 2 rfl ?_
  refine zEs_put rfl q1 rfl rfl (by omega) ?_
  have IA := zHI_A E1 q1 hn3 (show g.nl + 1 < g.nl + 1 + 1 by omega) hz5.2.2.2.2.2.2
  rw [ep] at IA
  obtain ⟨vs6, s1, s2, s3, s4⟩ := IA.obj
  refine zEs_run 2 rfl ?_
  refine zEs_put rfl s1 rfl rfl (by omega) ?_
  have IB := zHI_B IA s1 hz5.2.2.2.2.2.2
  rw [ep2] at IB
  obtain ⟨vs7, t1, t2, t3, t4⟩ := IB.obj
  refine zEs_run 3 rfl ?_
  refine zEs_callG rfl rfl (m_242 (D := 27)) (fun v h9 nc9 ns9 q => ?_) (fun E h9 nc9 ns9 q => by cases q)
  cases q
  refine zEs_put rfl (zapp_mv _ _ _ t1) rfl rfl (by omega) ?_
  have IC := zHI_c3 IB t1
  refine zregE (cert := ce_coB) (cs := cs_coB) (rt := some zIA) 230 gs_coB rfl (by decide +kernel) IC ⟨Or.inr ⟨_, rfl, zP_in⟩, Or.inr ⟨_, rfl, zIA_ok _⟩, Or.inr ⟨_, rfl, zIA_ok _⟩, Or.inl rfl, Or.inl rfl, Or.inl rfl, Or.inl rfl, trivial⟩ trivial (fun v h' lg' nc' ns' c1 c2 c3 c4 c5 c6 => ?_)
  have c5 : nc' + 2 * 0 ≤ _ + 2 * lg' + 0 := c5
  have c6 : ns' + 100 * 0 ≤ _ + 100 * lg' + 0 := c6
  have hz6 := c2.sizes
  have u1 : (zcf 10).length = 3 := rfl
  obtain ⟨y, rfl, x9, rfl, -⟩ := c1
  have lst := zLE_tr zLE_app (zLE_tr zLE_app (zLE_tr J5 (zLE_tr E5 (zLE_tr zLE_44 (zLE_tr zLE_44 (zLE_tr zLE_aw c3))))))
  refine ⟨x9, _, lg', h', nc', ns', rfl, c2, zLE_tr le1 (zLE_tr zLE_aw lst), rfl, rfl, by omega, by omega, Or.inr ⟨hC, k, r, rfl, rfl, hm, rfl, rfl, h1.length, rfl, by omega, ?_⟩⟩
  rw [← el]
  exact lst _ _ (by omega) row1 (show ¬ (100 : Nat) = 10 by decide) (show ¬ (100 : Nat) = 103 by decide)
end ZHM
end zg33
