/-! A run of the abstract machine is a run of the machine. -/
def zrm (d mc ms : Nat) : Room := { frames := d + 5, cells := mc, slots := ms, locals := 40 * d + 168 }
def zVo (sp : Nat → Nat) (ads : List Nat) (v v' : Option Value) : Prop := match v with
  | none => v' = none
  | some w => ∃ w', v' = some w' ∧ zV sp ads w w'
def zEnd (sp : Nat → Nat) (ty : Nat → ClassId) (D : va_G) (A : Nat → Prop) (ads : List Nat) (h : zH) (t : State) : Prop :=
  ∃ ws : va_W, va_P D zcl ws t.heap ∧ va_D A ws ∧ ws.map (fun q => q.1) = ads ∧ h.length = ws.length ∧ ∀ (k : Nat) (c : Nat × List Value) (q : Nat × va_E), h[k]? = some c → ws[k]? = some q → zC sp ty ads c q.2
def zQc (sp : Nat → Nat) (ty : Nat → ClassId) (D : va_G) (A : Nat → Prop) (ads : List Nat) (r : Option Value ⊕ Nat) (h' : zH) : Array Value → State → Outcome → State → Prop := fun _ st oc t =>
  (∃ (v v' : Option Value) (q : List Nat), r = .inl v ∧ oc = .returned v' ∧ zVo sp (ads ++ q) v v' ∧ zEnd sp ty D A (ads ++ q) h' t) ∧ va_F A st t
def zXC (sp : Nat → Nat) (ty : Nat → ClassId) (D : va_G) (A : Nat → Prop) (ads : List Nat) (r : Option Value ⊕ Nat) (h' : zH) : String → State → State → Prop := fun E st t =>
  (∃ (k : Nat) (q : List Nat), r = .inr k ∧ E = zEn k ∧ zEnd sp ty D A (ads ++ q) h' t) ∧ va_F A st t
def zws (y : Nat) : List Jvm.Cond := (match zmh y with
  | [] => .code (zmn y) (zmb y) (zmL y) (zmr y)
  | _ => .codeWith (zmn y) (zmb y) (zmL y) (zmr y) (zmh y)) :: zB
theorem zB_good : GoodIn zB zB := fun w h => ⟨h, good_of_word (zB_gw h)⟩
theorem zws_good {y : Nat} (h : zMok y) : GoodIn zB (zws y) := by
  intro w hw
  rcases List.mem_cons.mp hw with rfl | hw
  · rcases h.1 with ⟨e, hm⟩ | ⟨e, hm⟩
    · rw [e]
      exact zB_good _ hm
    · split
      · next e2 => exact absurd e2 e
      · exact zB_good _ hm
  · exact zB_good _ hw
theorem zex_len {sp : Nat → Nat} {ads : List Nat} : ∀ {as as' : List Value}, zS sp ads as as' → (lg_sl as').length = (zex as).length
  | [], _, h => by cases (show _ = [] from h); rfl
  | v :: as, _, ⟨v', r', rfl, h2, h3⟩ => by
    have ih := zex_len h3
    unfold lg_sl at ih ⊢
    rw [List.flatMap_cons, List.length_append, ih, zV_cat h2]
    show _ = (if zcat v then some v :: none :: zex as else some v :: zex as).length
    cases zcat v <;> simp <;> omega
theorem zex_at {sp : Nat → Nat} {ads : List Nat} : ∀ {as as' : List Value}, zS sp ads as as' → ∀ (i0 j : Nat) (v : Value), (zex as)[j]? = some (some v) → ∃ v', zV sp ads v v' ∧ (i0 + j, v') ∈ lv_args i0 as'
  | [], _, h, i0, j, v, hj => by
    unfold zex at hj
    simp at hj
  | w :: as, _, ⟨w', r', rfl, h2, h3⟩, i0, j, v, hj => by
    unfold zex at hj
    unfold lv_args
    rw [zV_cat h2]
    cases hc : zcat w with
    | false =>
      rw [hc] at hj
      simp only [Bool.false_eq_true, if_false] at hj ⊢
      cases j with
      | zero =>
        cases hj
        exact ⟨w', h2, List.mem_cons_self⟩
      | succ j =>
        obtain ⟨v', a, b⟩ := zex_at h3 (i0 + 1) j v hj
        refine ⟨v', a, List.mem_cons_of_mem _ ?_⟩
        rw [show i0 + (j + 1) = i0 + 1 + j by omega]
        simpa using b
    | true =>
      rw [hc] at hj
      simp only [if_true] at hj ⊢
      match j, hj with
      | 0, hj =>
        cases hj
        exact ⟨w', h2, List.mem_cons_self⟩
      | 1, hj => cases hj
      | j + 2, hj =>
        obtain ⟨v', a, b⟩ := zex_at h3 (i0 + 2) j v hj
        refine ⟨v', a, List.mem_cons_of_mem _ ?_⟩
        rw [show i0 + (j + 2) = i0 + 2 + j by omega]
        simpa using b
theorem zen_ok {sp : Nat → Nat} {ads : List Nat} {as as' : List Value} {nL : Nat} {L0 : zL} (h : zS sp ads as as') (he : zen nL as = some L0) : zLR sp ads L0 ((lg_sl as' ++ List.replicate (nL - (lg_sl as').length) Slot.unset).toArray) nL := by
  unfold zen at he
  split at he
  · next hl =>
    cases he
    refine ⟨by simp; omega, _, lv_entry as' (by rw [zex_len h]; exact hl), fun i v hi => ?_⟩
    by_cases hj : i < (zex as).length
    · rw [List.getElem?_append_left hj] at hi
      obtain ⟨v', a, b⟩ := zex_at h 0 i v hi
      rw [Nat.zero_add] at b
      exact ⟨v', a, b⟩
    · rw [List.getElem?_append_right (by omega)] at hi
      have := List.mem_of_getElem? hi
      cases List.eq_of_mem_replicate this
  · cases he
section ZQ
variable {p : Program} {l : Launch} {e : Env} {R : Room} {s : State} {m : MethodId} {args : Array Value} {below : List Frame} {meth : Method} {c : Code} {H : Heap} {locs : List Loc} {cells slots : Nat} {Q : State → Prop}
variable {xs : List Int32} {sp : Nat → Nat} {ty : Nat → ClassId} {D : va_G} {A A1 : Nat → Prop} {ads : List Nat}
variable {pc : Nat} {h1 : zH} {ls : Array Slot} {st0 rest : List Value} {mc ms : Nat} {r : Option Value ⊕ Nat} {a9 : Array Value}
theorem zEnd_W {t : State} {H1 : Heap} {locs1 : List Loc} (h : zEnd sp ty D A1 ads h1 t) (hA : ∀ q, A1 q → A q) (ht : t.heap = H1) (hS : va_S A s.heap H1 locs1) : zW sp ty D A s.heap ads h1 H1 locs1 := by
  obtain ⟨ws, w1, w2, w4, w5, w6⟩ := h
  rw [ht] at w1
  exact ⟨ws, w1, w2.weaken (fun k q _ g => hA _ g), hS, w4, w5, w6⟩
/-- behind a call -/
theorem z_callW {len : Nat} (hr : ∀ T : State, T.heap = H → Stand p l e R s m args below meth c T locs cells slots →
    (∃ (v : Option Value) (st₀ t T' : State) (L : List Loc), st₀.heap = H ∧ Stand p l e R s m args below meth c T' (locs ++ L) (cells + mc) (slots + ms) ∧ (∀ q ∈ L, A1 q.base) ∧ T'.heap = t.heap ∧ T'.vm = t.vm ∧ zQc sp ty D A1 ads r h1 a9 st₀ (.returned v) t ∧
      Goes p e below T (F0 m pc ls st0) T' (F0 m (pc + len) ls (v.toList ++ rest))) ∨
    (∃ (q : Addr) (st₀ t T' : State) (L : List Loc) (E : String) (ce : Cell), st₀.heap = H ∧ Stand p l e R s m args below meth c T' (locs ++ L) (cells + mc) (slots + ms) ∧ (∀ z ∈ L, A1 z.base) ∧ T'.heap = t.heap ∧ T'.vm = t.vm ∧ zXC sp ty D A1 ads r h1 E st₀ t ∧ t.heap[q]? = some ce ∧ ce.vm = .none ∧ s.vm.findClass E = some ce.cls ∧
      Steps p.tables e below (T.setTop (F0 m pc ls st0)) ((T'.setTop (F0 m pc ls rest)).pushFrame (.throwing q)))) (hS : va_S A s.heap H locs) (hA : ∀ q, A1 q → A q)
    (kk : ∀ (v v' : Option Value) (q : List Nat) (H1 : Heap) (locs1 : List Loc), r = .inl v → zVo sp (ads ++ q) v v' → zW sp ty D A s.heap (ads ++ q) h1 H1 locs1 → W p l e R s m args below meth c H1 locs1 (cells + mc) (slots + ms) Q (F0 m (pc + len) ls (v'.toList ++ rest)))
    (kx : ∀ (k q9 : Nat) (ce : Cell) (q : List Nat) (H1 : Heap) (locs1 : List Loc), r = .inr k → zW sp ty D A s.heap (ads ++ q) h1 H1 locs1 → H1[q9]? = some ce → ce.vm = .none → s.vm.findClass (zEn k) = some ce.cls → vx_W p l e R s m args below meth c H1 locs1 (cells + mc) (slots + ms) Q (F0 m pc ls rest) q9) :
    W p l e R s m args below meth c H locs cells slots Q (F0 m pc ls st0) := by
  intro T hT X
  rcases hr T hT X with ⟨v9, st₀, t, T', L, h0, X', hL, e1, e2, ⟨⟨v, v', q, hv, ho, hV, hE⟩, hF⟩, st⟩ | ⟨q9, st₀, t, T', L, E, ce, h0, X', hL, e1, e2, ⟨⟨k, q, hv, rfl, hE⟩, hF⟩, hce, hcv, hcl, st⟩
  · cases ho
    obtain ⟨k1, k2, k3⟩ := vx_keep h0 e1 hS (fun q _ g => hA q g) hA hL hF
    obtain ⟨t2, a1, b1⟩ := kk v v9 q T'.heap (locs ++ L) hv hV (zEnd_W hE hA e1.symm k3) T' rfl X'
    exact ⟨t2, st t2 a1, b1⟩
  · obtain ⟨k1, k2, k3⟩ := vx_keep h0 e1 hS (fun q _ g => hA q g) hA hL hF
    obtain ⟨t2, a1, b1⟩ := kx k q9 ce q T'.heap (locs ++ L) hv (zEnd_W hE hA e1.symm k3) (by rw [e1]; exact hce) hcv hcl T' rfl X'
    exact ⟨t2, st.trans a1, b1⟩
/-- what is known of the special addresses goes on into a call -/
theorem zSP_call {A' : Nat → Prop} {U : State} (h : zSP xs sp A s) (hS : va_S A s.heap H locs) (hW : s.WarmedH U.vm) (hU : U.heap = H) (hA : ∀ q, A' q → A q) : zSP xs sp A' U := by
  obtain ⟨a1, ⟨a2, a3⟩, a4, ⟨a5, a6, a7⟩, b1, b2, b3⟩ := h
  have b4 := zSJ_call b3 hS hW hU hA
  subst hU
  refine ⟨zN_warm hW a1, ⟨((a2.kept hS.2.1).moved hW.alike).narrow hA, ((a3.kept hS.2.1).moved hW.alike).narrow hA⟩, fun q hq => ?_, ⟨va_X.moved hW.alike (a5.kept (hS.2.1 _ a6 a7)), Nat.lt_of_lt_of_le a6 hS.1, fun z => a7 (hA _ z)⟩, zN2_warm hW b1, fun q hq => va_Nc.moved hW.alike (b2 q hq), b4⟩
  obtain ⟨sa, g⟩ := a4 q hq
  exact ⟨sa, vk_R.warm hW g⟩
theorem zSP_blind {U : State} {g : JFrame} {mk : MethodId} {a : Array Value} (h : zSP xs sp A U) : zSP xs sp A (U.calling g mk a) :=
  zSP_call (s := U) (A := A) (A' := A) (H := U.heap) (locs := []) h va_S.rf (State.WarmedH.refl U) rfl (fun _ h => h)
/-- a callee's start -/
def zPre (xs : List Int32) (sp : Nat → Nat) (ty : Nat → ClassId) (D : va_G) (ws : va_W) (sz : Nat) : State → Prop := fun U => U.heap.size = sz ∧ va_P D zcl ws U.heap ∧ va_K D zcl (ztys ty) U ∧ va_D (fun _ => True) ws ∧ zSP xs sp (va_A ws sz) U
theorem zPre_blind {ws : va_W} {sz : Nat} {av : List Value} : FrameBlind (va_Pc av (zPre xs sp ty D ws sz)) := by
  rintro a U g mk ⟨rfl, q1, q2, q3, q4, q5⟩
  exact ⟨rfl, q1, q2, va_K.moved (u := U) (U := U.calling g mk _) (Vm.Alike.refl U.vm) q3, q4, zSP_blind q5⟩
theorem zPre_at {ws : va_W} {av : List Value} {U : State} (hK : va_K D zcl (ztys ty) s) (hSP : zSP xs sp A s) (hP : va_P D zcl ws H) (hD : va_D A ws) (hS : va_S A s.heap H locs) (hA : ∀ q, s.heap.size ≤ q → A q) (hU : U.heap = H) (hW : s.WarmedH U.vm) : va_Pc av (zPre xs sp ty D ws H.size) av.toArray U := by
  refine ⟨rfl, by rw [hU], by rw [hU]; exact hP, va_K.moved hW.alike hK, hD.weaken (fun _ _ _ _ => trivial), zSP_call hSP hS hW hU (fun q g => ?_)⟩
  rcases g with ⟨k, e, g⟩ | g
  · exact hD.2 k _ g
  · exact hA q (Nat.le_trans hS.1 g)
end ZQ
