/-! The reference's lists: new ones, and which field holds which; new columns. -/
section ZHK
variable {xs : List Int32} {g g' : zG} {lg lg' : Nat} {h h' : zH} {D nc ns : Nat}
/-- the invariant anew, where cells other than the object's stay -/
theorem zHI_mk (hI : zHI g lg h) (hk : ∀ (q : Nat) c, h[q]? = some c → q ≠ 44 → h'[q]? = some c) (hs : g'.s = g.s) (ha : g'.a = g.a) (obj' : ∃ vs, h'[44]? = some (7, vs) ∧ vs.length = 26 ∧ (∀ k, k < 26 → ∃ v, vs[k]? = some v ∧ zga g' lg' h' [] (zfs k) v) ∧ ∀ k ∈ zfz, vs[k]? = some (g'.f k)) (lists' : ∃ E : Nat → Option Nat, ∀ j, j < g'.nl → 73 ≤ g'.p j ∧ zLi h' (g'.p j) (zsz g' lg' j) (zQj j) (E j) ∧ (∀ q, E j = some q → 73 ≤ q) ∧ ∀ i, i < g'.nl → i ≠ j → g'.p i ≠ g'.p j ∧ ∀ q, E j = some q → E i ≠ some q) (bits' : ∃ x y : Int32, g'.f 1 = .int x ∧ g'.f 2 = .int y ∧ x.toInt + y.toInt = g'.zn) (sizes' : g'.zs ≤ 24 ∧ g'.zw ≤ 24 ∧ lg' ≤ 40 ∧ 8 ≤ g'.zn ∧ g'.zn ≤ 16 ∧ 3 ≤ g'.nl ∧ ∀ j, g'.ze j ≤ 24) : zHI g' lg' h' := by
  refine ⟨?_, obj', ?_, ?_, lists', bits', sizes'⟩
  · rw [hs, ha, ztake_mv hI (fun q c hq e => hk q c e (by omega))]
    exact hI.cls
  · exact hk _ _ hI.outer (by decide)
  · intro q t n lo hi e
    obtain ⟨l, p1, p2, p3⟩ := hI.rows q t n lo hi e
    have := zsp_b e
    exact ⟨l, hk _ _ p1 (by omega), p2, p3⟩
theorem zfs_mo3 {k : Nat} {v : Value} (hp : ∀ j, j < 3 → g'.p j = g.p j) (hn : g'.zn = g.zn) (hl : ∀ (q : Nat) l, 73 ≤ q → h[q]? = some (zar l) → h'[q]? = some (zar l)) (z : zga g lg h [] (zfs k) v) : zga g' lg' h' [] (zfs k) v := by
  unfold zfs at z ⊢
  split at z <;> first
    | exact z
    | (obtain ⟨q, l, a, b, c, d⟩ := z; exact ⟨q, l, a, b, hl q l b c, d.trans hn.symm⟩)
    | exact (show v = _ from z).trans (congrArg Value.ref (hp _ (by decide)).symm)
/-- which kinds do not speak of the log's size or of lists -/
theorem zLi_mk {r n : Nat} {Q : List Int32 → Prop} {dq : Option Nat} (hk : ∀ (q : Nat) c, h[q]? = some c → q ≠ 44 → h'[q]? = some c) (k : zLi h r n Q dq) (hr : 73 ≤ r) (hd : ∀ q, dq = some q → 73 ≤ q) : zLi h' r n Q dq := by
  obtain ⟨es, ⟨m, k1⟩, k2, k3⟩ := k
  refine ⟨es, ⟨m, ?_⟩, k2, fun e he => ?_⟩
  · cases dq with
    | none => exact ⟨k1.1, hk _ _ k1.2 (by omega)⟩
    | some q =>
      obtain ⟨vs, a1, a2, a3⟩ := k1
      have := hd q rfl
      exact ⟨vs, hk _ _ a1 (by omega), hk _ _ a2 (by omega), a3⟩
  · obtain ⟨a, l, b, c⟩ := k3 e he
    exact ⟨a, l, hk _ _ b (by omega), c⟩
def znl (g : zG) (r : Nat) : zG := (g.1, g.2.1, g.2.2.1, (fun i => if i = g.nl then r else g.p i), g.zs, g.zw, g.zn, g.nl + 1, fun i => if i = g.nl then 0 else g.ze i)
theorem zHI_new (hI : zHI g lg h) : zHI (znl g h.length) lg (h ++ [(10, [.int 0, .retAddr 1, .int 0])]) := by
  have hz := hI.sizes
  have hlen := zHI_len hI
  have hk := zapp_mv (h := h) [(10, [.int 0, .retAddr 1, .int 0])]
  have hp : ∀ j, j < g.nl → (znl g h.length).p j = g.p j := fun j hj => if_neg (by omega)
  have hp9 : (znl g h.length).p g.nl = h.length := if_pos rfl
  have hsz : ∀ j, j < g.nl → zsz (znl g h.length) lg j = zsz g lg j := by
    intro j hj
    unfold zsz
    split
    · rfl
    · rfl
    · rfl
    · exact if_neg (by omega)
  have hsz9 : zsz (znl g h.length) lg g.nl = 0 := by
    unfold zsz
    split
    · omega
    · omega
    · omega
    · exact if_pos rfl
  refine zHI_mk (g' := znl g h.length) hI (fun q c e _ => hk q c e) rfl rfl ?_ ?_ hI.bits ⟨hz.1, hz.2.1, hz.2.2.1, hz.2.2.2.1, hz.2.2.2.2.1, by show 3 ≤ g.nl + 1; omega, fun j => ?_⟩
  · obtain ⟨vs, m1, m2, m3, m4⟩ := hI.obj
    refine ⟨vs, hk _ _ m1, m2, fun k hk9 => ?_, m4⟩
    obtain ⟨v, v1, v2⟩ := m3 k hk9
    exact ⟨v, v1, zfs_mo3 (fun j hj => hp j (by omega)) rfl (fun q l _ b => hk q _ b) v2⟩
  · obtain ⟨E, k⟩ := hI.lists
    have low : ∀ {j q : Nat}, j < g.nl → E j = some q → q < h.length := by
      intro j q hj e
      obtain ⟨es, ⟨m, z⟩, -⟩ := (k j hj).2.1
      rw [e] at z
      obtain ⟨vs, z1, z2, -⟩ := z
      exact (List.getElem?_eq_some_iff.mp z2).1
    have lowr : ∀ {j : Nat}, j < g.nl → g.p j < h.length := by
      intro j hj
      obtain ⟨es, z, -⟩ := (k j hj).2.1
      obtain ⟨a, b, z⟩ := zLs_size z
      exact (List.getElem?_eq_some_iff.mp z).1
    refine ⟨fun i => if i = g.nl then none else E i, fun j hj => ?_⟩
    have hj : j < g.nl + 1 := hj
    dsimp only
    by_cases e : j = g.nl
    · subst e
      rw [if_pos rfl, hp9, hsz9]
      refine ⟨by omega, ⟨[], ⟨0, rfl, ?_⟩, rfl, fun e he => (by cases he)⟩, fun q z => (by cases z), fun i hi ne => ?_⟩
      · rw [List.getElem?_append_right (Nat.le_refl _), Nat.sub_self]
        rfl
      · have hi : i < g.nl + 1 := hi
        rw [hp i (by omega)]
        have := lowr (j := i) (by omega)
        exact ⟨by omega, fun q z => (by cases z)⟩
    · rw [if_neg e, hp j (by omega), hsz j (by omega)]
      obtain ⟨k1, k2, k3, k4⟩ := k j (by omega)
      refine ⟨k1, zLi_mv hk k2, k3, fun i hi ne => ?_⟩
      have hi : i < g.nl + 1 := hi
      by_cases e2 : i = g.nl
      · subst e2
        rw [if_pos rfl, hp9]
        have := lowr (j := j) (by omega)
        exact ⟨by omega, fun q _ z => by cases z⟩
      · rw [if_neg e2, hp i (by omega)]
        exact k4 i (by omega) ne
  · show (if j = g.nl then 0 else g.ze j) ≤ 24
    split
    · omega
    · exact hz.2.2.2.2.2.2 j
/-- a list's field takes another list; the lists are counted anew -/
theorem zHI_sg {j nl' : Nat} {σ : Nat → Nat} {vs : List Value} (hI : zHI g lg h) (h0 : h[44]? = some (7, vs)) (hj : j < 3) (hn3 : 3 ≤ nl') (hσ : ∀ i, i < nl' → σ i < g.nl) (hin : ∀ i i', i < nl' → i' < nl' → σ i = σ i' → i = i') (hid : ∀ i, i < 3 → i ≠ j → σ i = i) (hQ : ∀ i, i < nl' → zQj (σ i) = zQj i ∨ zsz g lg (σ i) = 0) (hs : g'.s = g.s) (ha : g'.a = g.a) (hf : g'.f = g.f) (hn : g'.zn = g.zn) (hnl : g'.nl = nl') (hp : ∀ i, i < nl' → g'.p i = g.p (σ i)) (hz : ∀ i, i < nl' → zsz g' lg' i = zsz g lg (σ i)) (hsz : g'.zs ≤ 24 ∧ g'.zw ≤ 24 ∧ lg' ≤ 40 ∧ ∀ j, g'.ze j ≤ 24) : zHI g' lg' (h.set 44 (7, vs.set (23 + j) (.ref (g.p (σ j))))) := by
  have hlen := zHI_len hI
  have hk : ∀ (q : Nat) c, h[q]? = some c → q ≠ 44 → (h.set 44 (7, vs.set (23 + j) (.ref (g.p (σ j)))))[q]? = some c := fun q c e ne => by
    rw [List.getElem?_set_ne (fun z => ne z.symm)]
    exact e
  have hz0 := hI.sizes
  refine zHI_mk hI hk hs ha ?_ ?_ (by rw [hf, hn]; exact hI.bits) ⟨hsz.1, hsz.2.1, hsz.2.2.1, by rw [hn]; exact hz0.2.2.2.1, by rw [hn]; exact hz0.2.2.2.2.1, by omega, hsz.2.2.2⟩
  · obtain ⟨vs', a, b, c, d⟩ := hI.obj
    rw [h0] at a
    cases a
    refine ⟨_, List.getElem?_set_self (by omega), by simpa using b, fun k hk9 => ?_, fun k hk9 => ?_⟩
    · by_cases e : k = 23 + j
      · subst e
        refine ⟨_, List.getElem?_set_self (by omega), ?_⟩
        rcases (show j = 0 ∨ j = 1 ∨ j = 2 by omega) with rfl | rfl | rfl
        · exact congrArg Value.ref (hp 0 (by omega)).symm
        · exact congrArg Value.ref (hp 1 (by omega)).symm
        · exact congrArg Value.ref (hp 2 (by omega)).symm
      · rw [List.getElem?_set_ne (fun z => e z.symm)]
        obtain ⟨v, v1, v2⟩ := c k hk9
        refine ⟨v, v1, ?_⟩
        have tr : ∀ i, i < 3 → i ≠ j → v = .ref (g.p i) → v = .ref (g'.p i) := fun i hi ne z => by rw [z, hp i (by omega), hid i hi ne]
        have nc : ∀ (q : Nat) l, 73 ≤ q → h[q]? = some (zar l) → (h.set 44 (7, vs.set (23 + j) (.ref (g.p (σ j)))))[q]? = some (zar l) := fun q l a b => hk q _ b (by omega)
        clear v1
        unfold zfs at v2 ⊢
        split at v2 <;> first
          | exact v2
          | (obtain ⟨q, l, a, b, c, d⟩ := v2; exact ⟨q, l, a, b, nc q l b c, d.trans hn.symm⟩)
          | skip
        · exact tr 0 (by omega) (by omega) v2
        · exact tr 1 (by omega) (by omega) v2
        · refine tr 2 (by omega) (by omega) v2
    · have : k ≠ 23 + j := by
        intro z
        subst z
        have : 23 + j ≤ 13 := by
          have := hk9
          simp [zfz] at this
          omega
        omega
      rw [List.getElem?_set_ne (fun z => this z.symm), hf]
      exact d k hk9
  · obtain ⟨E, k⟩ := hI.lists
    refine ⟨fun i => E (σ i), fun i hi => ?_⟩
    rw [hnl] at hi
    obtain ⟨k1, k2, k3, k4⟩ := k (σ i) (hσ i hi)
    rw [hp i hi, hz i hi]
    refine ⟨k1, zLi_mk hk ?_ k1 k3, k3, fun i2 hi2 ne => ?_⟩
    · rcases hQ i hi with q | q
      · rw [← q]
        exact k2
      · obtain ⟨es, z1, z2, z3⟩ := k2
        rw [q] at z2
        have : es = [] := List.length_eq_zero_iff.mp z2
        subst this
        exact ⟨[], z1, q.symm ▸ rfl, fun e he => by cases he⟩
    · rw [hnl] at hi2
      rw [hp i2 hi2]
      exact k4 (σ i2) (hσ i2 hi2) (fun z => ne (hin i2 i hi2 hi z))
/-- a new code's columns -/
def zgc (g : zG) (K R : Int32) (n c3 : Nat) : zG := (g.1, g.2.1, zup (zup (zup g.f 1 (.int K)) 2 (.int R)) 3 (.ref c3), g.p, g.zs, g.zw, n, g.nl, g.ze)
theorem zHI_col {K R : Int32} {l : List Int32} {vs : List Value} (hI : zHI g lg h) (h0 : h[44]? = some (7, vs)) (hK : 4 ≤ K.toInt ∧ K.toInt ≤ 10) (hR : 4 ≤ R.toInt ∧ R.toInt ≤ 6) (hl : (l.length : Int) = K.toInt + R.toInt) : zHI (zgc g K R l.length h.length) lg ((h ++ [zar l]).set 44 (7, ((vs.set 1 (.int K)).set 2 (.int R)).set 3 (.ref h.length))) := by
  have hlen := zHI_len hI
  have hk : ∀ (q : Nat) c, h[q]? = some c → q ≠ 44 → ((h ++ [zar l]).set 44 (7, ((vs.set 1 (.int K)).set 2 (.int R)).set 3 (.ref h.length)))[q]? = some c := fun q c e ne => by
    rw [List.getElem?_set_ne (fun z => ne z.symm)]
    exact zapp_mv _ _ _ e
  have hz0 := hI.sizes
  refine zHI_mk (g' := zgc g K R l.length h.length) hI hk rfl rfl ?_ ?_ ⟨K, R, rfl, rfl, hl.symm⟩ ⟨hz0.1, hz0.2.1, hz0.2.2.1, by show 8 ≤ l.length; omega, by show l.length ≤ 16; omega, hz0.2.2.2.2.2⟩
  · obtain ⟨vs', a, b, c, d⟩ := hI.obj
    rw [h0] at a
    cases a
    have nc : ∀ (q : Nat) l2, 73 ≤ q → h[q]? = some (zar l2) → ((h ++ [zar l]).set 44 (7, ((vs.set 1 (.int K)).set 2 (.int R)).set 3 (.ref h.length)))[q]? = some (zar l2) := fun q l a b => hk q _ b (by omega)
    refine ⟨_, List.getElem?_set_self (by rw [List.length_append]; omega), by simpa using b, fun k hk9 => ?_, fun k hk9 => ?_⟩
    · by_cases e3 : k = 3
      · subst e3
        refine ⟨_, List.getElem?_set_self (by simp; omega), h.length, l, rfl, hlen, ?_, rfl⟩
        rw [List.getElem?_set_ne (by omega), List.getElem?_append_right (Nat.le_refl _), Nat.sub_self]
        rfl
      · rw [List.getElem?_set_ne (fun z => e3 z.symm)]
        by_cases e2 : k = 2
        · subst e2
          exact ⟨_, List.getElem?_set_self (by simp; omega), R, rfl, hR.1, hR.2, trivial, Or.inl rfl⟩
        · rw [List.getElem?_set_ne (fun z => e2 z.symm)]
          by_cases e1 : k = 1
          · subst e1
            exact ⟨_, List.getElem?_set_self (by omega), K, rfl, hK.1, hK.2, trivial, Or.inl rfl⟩
          · rw [List.getElem?_set_ne (fun z => e1 z.symm)]
            obtain ⟨v, v1, v2⟩ := c k hk9
            refine ⟨v, v1, ?_⟩
            clear v1
            unfold zfs at v2 ⊢
            split at v2 <;> first
              | exact v2
              | exact absurd rfl e3
    · rcases (show k = 1 ∨ k = 2 ∨ k = 3 ∨ k = 4 ∨ k = 13 by simpa [zfz] using hk9) with rfl | rfl | rfl | rfl | rfl
      · rw [List.getElem?_set_ne (by decide), List.getElem?_set_ne (by decide), List.getElem?_set_self (by omega)]
        rfl
      · rw [List.getElem?_set_ne (by decide), List.getElem?_set_self (by simp; omega)]
        rfl
      · rw [List.getElem?_set_self (by simp; omega)]
        rfl
      · rw [List.getElem?_set_ne (by decide), List.getElem?_set_ne (by decide), List.getElem?_set_ne (by decide)]
        exact d 4 (by decide)
      · rw [List.getElem?_set_ne (by decide), List.getElem?_set_ne (by decide), List.getElem?_set_ne (by decide)]
        exact d 13 (by decide)
  · obtain ⟨E, k⟩ := hI.lists
    refine ⟨E, fun i hi => ?_⟩
    obtain ⟨k1, k2, k3, k4⟩ := k i hi
    exact ⟨k1, zLi_mk hk k2 k1 k3, k3, k4⟩
end ZHK
