/-- the abstract values by the world's addresses: sp the three special ones -/
def zV (sp : Nat → Nat) (ads : List Nat) (v v' : Value) : Prop := match v with
  | .ref k => ∃ a, ads[k]? = some a ∧ v' = .ref a
  | .retAddr k => k < 4 ∧ v' = .ref (sp k)
  | w => v' = w
def zS (sp : Nat → Nat) (ads : List Nat) : List Value → List Value → Prop
  | [], st' => st' = []
  | v :: st, st' => ∃ v' r', st' = v' :: r' ∧ zV sp ads v v' ∧ zS sp ads st r'
/-- the locals -/
def zLR (sp : Nat → Nat) (ads : List Nat) (L : zL) (ls : Array Slot) (nL : Nat) : Prop := L.length = nL ∧ ∃ lv : List (Nat × Value), lv_has ls nL lv ∧ ∀ i v, L[i]? = some (some v) → ∃ v', zV sp ads v v' ∧ (i, v') ∈ lv
theorem zV_cat {sp : Nat → Nat} {ads : List Nat} {v v' : Value} (h : zV sp ads v v') : v'.category = if zcat v then 2 else 1 := by
  cases v with
  | ref k => obtain ⟨a, -, rfl⟩ := h; rfl
  | retAddr k => obtain ⟨-, rfl⟩ := h; rfl
  | int x => cases (show v' = _ from h); rfl
  | long x => cases (show v' = _ from h); rfl
  | float x => cases (show v' = _ from h); rfl
  | double x => cases (show v' = _ from h); rfl
  | null => cases (show v' = _ from h); rfl
theorem zV_mono {sp : Nat → Nat} {ads : List Nat} {v v' : Value} (q : List Nat) (h : zV sp ads v v') : zV sp (ads ++ q) v v' := by
  cases v with
  | ref k =>
    obtain ⟨a, h1, rfl⟩ := h
    exact ⟨a, by rw [List.getElem?_append_left (List.getElem?_eq_some_iff.mp h1).1]; exact h1, rfl⟩
  | _ => exact h
theorem zS_mono {sp : Nat → Nat} {ads : List Nat} (q : List Nat) : ∀ {st st' : List Value}, zS sp ads st st' → zS sp (ads ++ q) st st'
  | [], _, h => h
  | _ :: _, _, ⟨v', r', h1, h2, h3⟩ => ⟨v', r', h1, zV_mono q h2, zS_mono q h3⟩
theorem zLR_mono {sp : Nat → Nat} {ads : List Nat} {L : zL} {ls : Array Slot} {nL : Nat} (q : List Nat) (h : zLR sp ads L ls nL) : zLR sp (ads ++ q) L ls nL := by
  obtain ⟨h0, lv, h1, h2⟩ := h
  exact ⟨h0, lv, h1, fun i v hi => by obtain ⟨v', a, b⟩ := h2 i v hi; exact ⟨v', zV_mono q a, b⟩⟩
theorem zS_cs {sp : Nat → Nat} {ads : List Nat} : ∀ {st st' : List Value}, zS sp ads st st' → (st'.map fun v => v.category).sum = zcs st
  | [], _, h => by cases (show _ = [] from h); rfl
  | v :: st, _, ⟨v', r', rfl, h2, h3⟩ => by
    rw [List.map_cons, List.sum_cons, zS_cs h3, zV_cat h2]
    rfl
theorem zS_len {sp : Nat → Nat} {ads : List Nat} : ∀ {st st' : List Value}, zS sp ads st st' → st'.length = st.length
  | [], _, h => by cases (show _ = [] from h); rfl
  | _ :: _, _, ⟨_, _, rfl, _, h3⟩ => by rw [List.length_cons, List.length_cons, zS_len h3]
theorem zS_at {sp : Nat → Nat} {ads : List Nat} : ∀ {st st' : List Value}, zS sp ads st st' → ∀ {k : Nat} {v : Value}, st[k]? = some v → ∃ v', st'[k]? = some v' ∧ zV sp ads v v'
  | [], _, _, k, v, h => by simp at h
  | w :: st, _, ⟨w', r', rfl, h2, h3⟩, 0, v, h => ⟨w', rfl, by cases h; exact h2⟩
  | w :: st, _, ⟨w', r', rfl, h2, h3⟩, k + 1, v, h => zS_at h3 (k := k) h
theorem zS_set {sp : Nat → Nat} {ads : List Nat} {v v' : Value} (hv : zV sp ads v v') : ∀ {st st' : List Value}, zS sp ads st st' → ∀ (k : Nat), zS sp ads (st.set k v) (st'.set k v')
  | [], _, h, k => by cases (show _ = [] from h); exact rfl
  | w :: st, _, ⟨w', r', rfl, h2, h3⟩, 0 => ⟨v', r', rfl, hv, h3⟩
  | w :: st, _, ⟨w', r', rfl, h2, h3⟩, k + 1 => ⟨w', _, rfl, h2, zS_set hv h3 k⟩
theorem zS_app {sp : Nat → Nat} {ads : List Nat} {b b' : List Value} (hb : zS sp ads b b') : ∀ {a a' : List Value}, zS sp ads a a' → zS sp ads (a ++ b) (a' ++ b')
  | [], _, h => by cases (show _ = [] from h); exact hb
  | _ :: _, _, ⟨w', r', rfl, h2, h3⟩ => ⟨w', _, rfl, h2, zS_app hb h3⟩
/-- popping arguments -/
theorem ztk_S {sp : Nat → Nat} {ads : List Nat} : ∀ (n : Nat) {acc acc' st st' as r : List Value}, zS sp ads acc acc' → zS sp ads st st' → ztk n acc st = some (as, r) → ∃ as' r' : List Value, zS sp ads as as' ∧ zS sp ads r r' ∧ acc'.reverse ++ st' = as'.reverse ++ r' ∧ as.length = acc.length + n
  | 0, acc, acc', st, st', as, r, ha, hs, h => by
    cases (show some (acc, st) = some (as, r) from h)
    exact ⟨acc', st', ha, hs, rfl, rfl⟩
  | n + 1, acc, acc', [], st', as, r, ha, hs, h => by cases (show none = some (as, r) from h)
  | n + 1, acc, acc', v :: st, _, as, r, ha, ⟨v', r1, rfl, h2, h3⟩, h => by
    obtain ⟨as', r', a1, a2, a3, a4⟩ := ztk_S n (acc := v :: acc) (acc' := v' :: acc') ⟨v', acc', rfl, h2, ha⟩ h3 h
    exact ⟨as', r', a1, a2, by rw [← a3]; simp, by rw [a4, List.length_cons]; omega⟩
theorem zst1_spec {v : Value} : ∀ {i : Nat} {L L' : zL}, zst1 v i L = some L' → L'.length = L.length ∧ i < L.length ∧ L'[i]? = some (some v) ∧ ∀ j w, j ≠ i → L'[j]? = some (some w) → L[j]? = some (some w) ∧ (j + 1 = i → zcat w = false)
  | 0, a :: l, L', h => by
    cases (show some _ = some L' from h)
    refine ⟨rfl, Nat.succ_pos _, rfl, fun j w hj hw => ?_⟩
    cases j with
    | zero => exact absurd rfl hj
    | succ j => exact ⟨hw, fun e => by omega⟩
  | 1, a :: b :: l, L', h => by
    cases (show some _ = some L' from h)
    refine ⟨rfl, by simp, rfl, fun j w hj hw => ?_⟩
    match j, hj, hw with
    | 0, _, hw =>
      have hw' : zk a = some w := Option.some.inj hw
      cases a with
      | none => cases hw'
      | some x => cases x <;> first | (cases hw'; done) | (cases hw'; exact ⟨rfl, fun _ => rfl⟩)
    | 1, hj, _ => exact absurd rfl hj
    | j + 2, _, hw => exact ⟨hw, fun e => by omega⟩
  | i + 2, a :: l, L', h => by
    unfold zst1 at h
    split at h
    · next l' hl =>
      cases h
      obtain ⟨h1, h2, h3, h4⟩ := zst1_spec hl
      refine ⟨by simp [h1], by simp; omega, h3, fun j w hj hw => ?_⟩
      cases j with
      | zero => exact ⟨hw, fun e => by omega⟩
      | succ j =>
        obtain ⟨q1, q2⟩ := h4 j w (by omega) hw
        exact ⟨q1, fun e => q2 (by omega)⟩
    · cases h
  | 0, [], L', h => by cases (show none = some L' from h)
  | 1, [], L', h => by cases (show none = some L' from h)
  | 1, [_], L', h => by cases (show none = some L' from h)
  | i + 2, [], L', h => by cases (show none = some L' from h)
theorem zst2_spec {v : Value} : ∀ {i : Nat} {L L' : zL}, zst2 v i L = some L' → L'.length = L.length ∧ i + 1 < L.length ∧ L'[i]? = some (some v) ∧ ∀ j w, j ≠ i → L'[j]? = some (some w) → L[j]? = some (some w) ∧ j ≠ i + 1 ∧ (j + 1 = i → zcat w = false)
  | 0, a :: b :: l, L', h => by
    cases (show some _ = some L' from h)
    refine ⟨rfl, by simp, rfl, fun j w hj hw => ?_⟩
    match j, hj, hw with
    | 0, hj, _ => exact absurd rfl hj
    | 1, _, hw => cases hw
    | j + 2, _, hw => exact ⟨hw, by omega, fun e => by omega⟩
  | 1, a :: b :: d :: l, L', h => by
    cases (show some _ = some L' from h)
    refine ⟨rfl, by simp, rfl, fun j w hj hw => ?_⟩
    match j, hj, hw with
    | 0, _, hw =>
      have hw' : zk a = some w := Option.some.inj hw
      cases a with
      | none => cases hw'
      | some x => cases x <;> first | (cases hw'; done) | (cases hw'; exact ⟨rfl, by omega, fun _ => rfl⟩)
    | 1, hj, _ => exact absurd rfl hj
    | 2, _, hw => cases hw
    | j + 3, _, hw => exact ⟨hw, by omega, fun e => by omega⟩
  | i + 2, a :: l, L', h => by
    unfold zst2 at h
    split at h
    · next l' hl =>
      cases h
      obtain ⟨h1, h2, h3, h4⟩ := zst2_spec hl
      refine ⟨by simp [h1], by simp; omega, h3, fun j w hj hw => ?_⟩
      cases j with
      | zero => exact ⟨hw, by omega, fun e => by omega⟩
      | succ j =>
        obtain ⟨q1, q2, q3⟩ := h4 j w (by omega) hw
        exact ⟨q1, by omega, fun e => q3 (by omega)⟩
    · cases h
  | 0, [], L', h => by cases (show none = some L' from h)
  | 0, [_], L', h => by cases (show none = some L' from h)
  | 1, [], L', h => by cases (show none = some L' from h)
  | 1, [_], L', h => by cases (show none = some L' from h)
  | 1, [_, _], L', h => by cases (show none = some L' from h)
  | i + 2, [], L', h => by cases (show none = some L' from h)
theorem zLR_st1 {sp : Nat → Nat} {ads : List Nat} {L L' : zL} {ls : Array Slot} {nL i : Nat} {v v' : Value} (h : zLR sp ads L ls nL) (hs : zst1 v i L = some L') (hv : zV sp ads v v') : i < nL ∧ ∃ lv : List (Nat × Value), lv_has ls nL lv ∧ ∀ ls' : Array Slot, lv_has ls' nL ((i, v') :: lv.filter (fun q => !(q.1 == i) && !(q.1 + 1 == i && q.2.category == 2))) → zLR sp ads L' ls' nL := by
  obtain ⟨h0, lv, h1, h2⟩ := h
  obtain ⟨q1, q2, q3, q4⟩ := zst1_spec hs
  refine ⟨by omega, lv, h1, fun ls' h' => ⟨by omega, _, h', fun j w hj => ?_⟩⟩
  by_cases e : j = i
  · subst e
    rw [q3] at hj
    cases hj
    exact ⟨v', hv, List.mem_cons_self⟩
  · obtain ⟨r1, r2⟩ := q4 j w e hj
    obtain ⟨w', a, b⟩ := h2 j w r1
    refine ⟨w', a, List.mem_cons_of_mem _ (List.mem_filter.mpr ⟨b, ?_⟩)⟩
    have hc := zV_cat a
    by_cases e2 : j + 1 = i
    · rw [r2 e2] at hc
      simp [e, hc]
    · simp [e, e2]
theorem zLR_st2 {sp : Nat → Nat} {ads : List Nat} {L L' : zL} {ls : Array Slot} {nL i : Nat} {v v' : Value} (h : zLR sp ads L ls nL) (hs : zst2 v i L = some L') (hv : zV sp ads v v') : i + 1 < nL ∧ ∃ lv : List (Nat × Value), lv_has ls nL lv ∧ ∀ ls' : Array Slot, lv_has ls' nL ((i, v') :: lv.filter (fun q => !(q.1 == i) && (!(q.1 == i + 1) && !(q.1 + 1 == i && q.2.category == 2)))) → zLR sp ads L' ls' nL := by
  obtain ⟨h0, lv, h1, h2⟩ := h
  obtain ⟨q1, q2, q3, q4⟩ := zst2_spec hs
  refine ⟨by omega, lv, h1, fun ls' h' => ⟨by omega, _, h', fun j w hj => ?_⟩⟩
  by_cases e : j = i
  · subst e
    rw [q3] at hj
    cases hj
    exact ⟨v', hv, List.mem_cons_self⟩
  · obtain ⟨r1, r3, r2⟩ := q4 j w e hj
    obtain ⟨w', a, b⟩ := h2 j w r1
    refine ⟨w', a, List.mem_cons_of_mem _ (List.mem_filter.mpr ⟨b, ?_⟩)⟩
    have hc := zV_cat a
    by_cases e2 : j + 1 = i
    · rw [r2 e2] at hc
      simp [e, r3, hc]
    · simp [e, r3, e2]
theorem zLR_ld {sp : Nat → Nat} {ads : List Nat} {L : zL} {ls : Array Slot} {nL i : Nat} {v : Value} (h : zLR sp ads L ls nL) (hi : L[i]? = some (some v)) : ∃ v', zV sp ads v v' ∧ ls[i]? = some (.val v') := by
  obtain ⟨h0, lv, h1, h2⟩ := h
  obtain ⟨v', a, b⟩ := h2 i v hi
  exact ⟨v', a, h1.2.2 _ b⟩
