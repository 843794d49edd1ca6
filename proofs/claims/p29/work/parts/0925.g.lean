section zg0
set_option maxRecDepth 20000 in
theorem zrows_ok (y : Nat) : ∀ r ∈ zmc y, zrok y r = true := by
  intro r hr
  by_cases h : y < 247
  · have e : (List.range 247).all (fun y => decide (y ∈ ([0, 1, 2, 3, 4, 5, 6, 7, 8, 9, 10, 11, 12, 13, 14, 15, 16, 17, 18, 19, 20, 21, 22, 23, 24, 25, 26, 27, 28, 29, 30, 31, 32, 33, 34, 35, 36, 37, 38, 39, 40] : List Nat) ++ ([41, 42, 43, 44, 45, 46, 47, 48, 49, 50, 51, 52, 53, 54, 55, 56, 57, 58, 59, 60, 61, 62, 63, 64, 65, 66, 67, 68, 69, 70, 71, 72, 73, 74, 75, 76, 77, 78, 79, 80, 81] : List Nat) ++ ([82, 83, 84, 85, 86, 87, 88, 89, 90, 91, 92, 93, 94, 95, 96, 97, 98, 99, 100, 101, 102, 103, 104, 105, 106, 107, 108, 109, 110, 111, 112, 113, 114, 115, 116, 117, 118, 119, 120, 121, 122] : List Nat) ++ ([123, 124, 125, 126, 127, 128, 129, 130, 131, 132, 133, 134, 135, 136, 137, 138, 139, 140, 141, 142, 143, 144, 145, 146, 147, 148, 149, 150, 151, 152, 153, 154, 155, 156, 157, 158, 159, 160, 161, 162, 163] : List Nat) ++ ([164, 165, 166, 167, 168, 169, 170, 171, 172, 173, 174, 175, 176, 177, 178, 179, 180, 181, 182, 183, 184, 185, 186, 187, 188, 189, 190, 191, 192, 193, 194, 195, 196, 197, 198, 199, 200, 201, 202, 203, 204] : List Nat) ++ ([205, 206, 207, 208, 209, 210, 211, 212, 213, 214, 215, 216, 217, 218, 219, 220, 221, 222, 223, 224, 225, 226, 227, 228, 229, 230, 231, 232, 233, 234, 235, 236, 237, 238, 239, 240, 241, 242, 243, 244, 245] : List Nat) ++ ([246] : List Nat))) = true := by decide +kernel
    have h3 := of_decide_eq_true (List.all_eq_true.mp e y (List.mem_range.mpr h))
    exact List.all_eq_true.mp ((List.forall_mem_append.mpr ⟨List.forall_mem_append.mpr ⟨List.forall_mem_append.mpr ⟨List.forall_mem_append.mpr ⟨List.forall_mem_append.mpr ⟨List.forall_mem_append.mpr ⟨zrs_0, zrs_1⟩, zrs_2⟩, zrs_3⟩, zrs_4⟩, zrs_5⟩, zrs_6⟩) y h3) r hr
  · have e : zmc y = [] := by
      unfold zmc
      rw [List.getD_eq_getElem?_getD, List.getElem?_eq_none (Nat.not_lt.mp h)]
      rfl
    rw [e] at hr
    cases hr
end zg0
section zg1
/-! Runs of the abstract machine. -/
abbrev zO : Type := (Option Value ⊕ Nat) × zH × Nat × Nat
def zat : List zRow → Nat → Option (Instr × Nat × Nat × Nat × Nat × Nat)
  | [], _ => none
  | (q, x) :: r, pc => if q = pc then some x else zat r pc
def zex : List Value → zL
  | [] => []
  | v :: r => if zcat v then some v :: none :: zex r else some v :: zex r
def zen (nL : Nat) (as : List Value) : Option zL := if (zex as).length ≤ nL then some (zex as ++ List.replicate (nL - (zex as).length) none) else none
def zhf : List (Nat × Nat × Nat × Nat) → Nat → Nat → Option Nat
  | [], _, _ => none
  | (a, b, hp, ct) :: r, pc, E => if a ≤ pc ∧ pc < b ∧ zhe ct = E then some hp else zhf r pc E
def zkill (j : Nat) (L : zL) : Option zL := match zst1 .null j L with
  | some L1 => some (L1.set j none)
  | none => none
def zcatch (y pc E : Nat) (L : zL) : Option (Nat × zL) := match zhf (zmh y) pc E with
  | some hp => match zat (zmc y) hp with
    | some (.astore j, nx, _) => match zkill j L with
      | some L1 => some (nx, L1)
      | none => none
    | some (.astore_n j, nx, _) => match zkill j L with
      | some L1 => some (nx, L1)
      | none => none
    | _ => none
  | none => none
def zev (xs : List Int32) : Nat → Nat → Nat → Nat → zL → List Value → zH → Nat → Nat → Option zO
  | 0, _, _, _, _, _, _, _, _ => none
  | n + 1, d, y, pc, L, st, h, nc, ns => match zat (zmc y) pc with
    | none => none
    | some (i, nx, k, yy, n9, c) => match zstep zcf xs pc i nx k yy n9 c L st h with
      | none => none
      | some (.inl (pc', L', st', h', dc, ds)) => zev xs n d y pc' L' st' h' (nc + dc) (ns + ds)
      | some (.inr (.inr (r, dc, ds))) => some (r, h, nc + dc, ns + ds)
      | some (.inr (.inl (y', as, r, nx'))) => match d with
        | 0 => none
        | d' + 1 => match zen (zmL y') as with
          | none => none
          | some L0 => match zev xs n d' y' 0 L0 [] h nc ns with
            | some (.inl v, h', nc', ns') => zev xs n (d' + 1) y nx' L (v.toList ++ r) h' nc' ns'
            | some (.inr E, h', nc', ns') => match zmh y with
              | [] => some (.inr E, h', nc', ns')
              | _ :: _ => match zcatch y pc E L with
                | some (pc2, L2) => zev xs n (d' + 1) y pc2 L2 [] h' nc' ns'
                | none => none
            | none => none
theorem zat_mem {pc : Nat} {x : Instr × Nat × Nat × Nat × Nat × Nat} : ∀ {l : List zRow}, zat l pc = some x → (pc, x) ∈ l
  | [], h => by cases (show none = some x from h)
  | (q, x') :: r, h => by
    unfold zat at h
    split at h
    · next e =>
      subst e
      cases h
      exact List.mem_cons_self
    · exact List.mem_cons_of_mem _ (zat_mem h)
theorem zev_mono {xs : List Int32} : ∀ (n d y pc : Nat) (L : zL) (st : List Value) (h : zH) (nc ns : Nat) (r : Option Value ⊕ Nat) (h' : zH) (nc' ns' : Nat), zev xs n d y pc L st h nc ns = some (r, h', nc', ns') → nc ≤ nc' ∧ ns ≤ ns'
  | 0, d, y, pc, L, st, h, nc, ns, r, h', nc', ns', e => by cases (show none = some _ from e)
  | n + 1, d, y, pc, L, st, h, nc, ns, r, h', nc', ns', e => by
    unfold zev at e
    split at e
    · cases e
    · split at e
      · cases e
      · have := zev_mono n _ _ _ _ _ _ _ _ _ _ _ _ e
        omega
      · cases e
        omega
      · split at e
        · cases e
        · split at e
          · cases e
          · split at e
            · next e1 =>
              have h1 := zev_mono n _ _ _ _ _ _ _ _ _ _ _ _ e1
              have h2 := zev_mono n _ _ _ _ _ _ _ _ _ _ _ _ e
              omega
            · next e1 =>
              have h1 := zev_mono n _ _ _ _ _ _ _ _ _ _ _ _ e1
              split at e
              · cases e
                exact h1
              · split at e
                · have h2 := zev_mono n _ _ _ _ _ _ _ _ _ _ _ _ e
                  omega
                · cases e
            · cases e
end zg1
section zg2
/-! A run of the abstract machine is a run of the machine. -/
def zrm (d mc ms : Nat) : Room := { frames := d + 30, cells := mc, slots := ms, locals := 40 * d + 3280 }
def zVo (sp : Nat → Nat) (ads : List Nat) (v v' : Option Value) : Prop := match v with
  | none => v' = none
  | some w => ∃ w', v' = some w' ∧ zV sp ads w w'
def zEnd (sp : Nat → Nat) (ty : Nat → ClassId) (D : va_G) (A : Nat → Prop) (ads : List Nat) (h : zH) (t : State) : Prop :=
  ∃ ws : va_W, va_P D zcl ws t.heap ∧ va_D A ws ∧ ws.map (fun q => q.1) = ads ∧ h.length = ws.length ∧ ∀ (k : Nat) (c : Nat × List Value) (q : Nat × va_E), h[k]? = some c → ws[k]? = some q → zC sp ty ads c q.2
def zQc (sp : Nat → Nat) (ty : Nat → ClassId) (D : va_G) (A : Nat → Prop) (ads : List Nat) (r : Option Value ⊕ Nat) (h' : zH) : Array Value → State → Outcome → State → Prop := fun _ st oc t =>
  (∃ (v v' : Option Value) (q : List Nat), r = .inl v ∧ oc = .returned v' ∧ zVo sp (ads ++ q) v v' ∧ zEnd sp ty D A (ads ++ q) h' t) ∧ va_F A st t
def zXC (sp : Nat → Nat) (ty : Nat → ClassId) (D : va_G) (A : Nat → Prop) (ads : List Nat) (r : Option Value ⊕ Nat) (h' : zH) : String → State → State → Prop := fun E st t =>
  (∃ (k : Nat) (q : List Nat), r = .inr k ∧ E = zEn k ∧ zEnd sp ty D A (ads ++ q) h' t) ∧ va_F A st t
def zws (y : Nat) : List Jvm.Cond := (match zmh y with
  | [] => .code (zmn y) (zmb y) (zmL y) (zmr y)
  | _ => .codeWith (zmn y) (zmb y) (zmL y) (zmr y) (zmh y)) :: zB
theorem zB_good : GoodIn zB zB := fun w h => ⟨h, good_of_word (zB_gw h)⟩
theorem zws_good {y : Nat} (h : zMok y) : GoodIn zB (zws y) := by
  intro w hw
  rcases List.mem_cons.mp hw with rfl | hw
  · rcases h.1 with ⟨e, hm⟩ | ⟨e, hm⟩
    · rw [e]
      exact zB_good _ hm
    · split
      · next e2 => exact absurd e2 e
      · exact zB_good _ hm
  · exact zB_good _ hw
theorem zex_len {sp : Nat → Nat} {ads : List Nat} : ∀ {as as' : List Value}, zS sp ads as as' → (lg_sl as').length = (zex as).length
  | [], _, h => by cases (show _ = [] from h); rfl
  | v :: as, _, ⟨v', r', rfl, h2, h3⟩ => by
    have ih := zex_len h3
    unfold lg_sl at ih ⊢
    rw [List.flatMap_cons, List.length_append, ih, zV_cat h2]
    show _ = (if zcat v then some v :: none :: zex as else some v :: zex as).length
    cases zcat v <;> simp <;> omega
theorem zex_at {sp : Nat → Nat} {ads : List Nat} : ∀ {as as' : List Value}, zS sp ads as as' → ∀ (i0 j : Nat) (v : Value), (zex as)[j]? = some (some v) → ∃ v', zV sp ads v v' ∧ (i0 + j, v') ∈ lv_args i0 as'
  | [], _, h, i0, j, v, hj => by
    unfold zex at hj
    simp at hj
  | w :: as, _, ⟨w', r', rfl, h2, h3⟩, i0, j, v, hj => by
    unfold zex at hj
    unfold lv_args
    rw [zV_cat h2]
    cases hc : zcat w with
    | false =>
      rw [hc] at hj
      simp only [Bool.false_eq_true, if_false] at hj ⊢
      cases j with
      | zero =>
        cases hj
        exact ⟨w', h2, List.mem_cons_self⟩
      | succ j =>
        obtain ⟨v', a, b⟩ := zex_at h3 (i0 + 1) j v hj
        refine ⟨v', a, List.mem_cons_of_mem _ ?_⟩
        rw [show i0 + (j + 1) = i0 + 1 + j by omega]
        simpa using b
    | true =>
      rw [hc] at hj
      simp only [if_true] at hj ⊢
      match j, hj with
      | 0, hj =>
        cases hj
        exact ⟨w', h2, List.mem_cons_self⟩
      | 1, hj => cases hj
      | j + 2, hj =>
        obtain ⟨v', a, b⟩ := zex_at h3 (i0 + 2) j v hj
        refine ⟨v', a, List.mem_cons_of_mem _ ?_⟩
        rw [show i0 + (j + 2) = i0 + 2 + j by omega]
        simpa using b
theorem zen_ok {sp : Nat → Nat} {ads : List Nat} {as as' : List Value} {nL : Nat} {L0 : zL} (h : zS sp ads as as') (he : zen nL as = some L0) : zLR sp ads L0 ((lg_sl as' ++ List.replicate (nL - (lg_sl as').length) Slot.unset).toArray) nL := by
  unfold zen at he
  split at he
  · next hl =>
    cases he
    refine ⟨by simp; omega, _, lv_entry as' (by rw [zex_len h]; exact hl), fun i v hi => ?_⟩
    by_cases hj : i < (zex as).length
    · rw [List.getElem?_append_left hj] at hi
      obtain ⟨v', a, b⟩ := zex_at h 0 i v hi
      rw [Nat.zero_add] at b
      exact ⟨v', a, b⟩
    · rw [List.getElem?_append_right (by omega)] at hi
      have := List.mem_of_getElem? hi
      cases List.eq_of_mem_replicate this
  · cases he
section ZQ
variable {p : Program} {l : Launch} {e : Env} {R : Room} {s : State} {m : MethodId} {args : Array Value} {below : List Frame} {meth : Method} {c : Code} {H : Heap} {locs : List Loc} {cells slots : Nat} {Q : State → Prop}
variable {xs : List Int32} {sp : Nat → Nat} {ty : Nat → ClassId} {D : va_G} {A A1 : Nat → Prop} {ads : List Nat}
variable {pc : Nat} {h1 : zH} {ls : Array Slot} {st0 rest : List Value} {mc ms : Nat} {r : Option Value ⊕ Nat} {a9 : Array Value}
theorem zEnd_W {t : State} {H1 : Heap} {locs1 : List Loc} (h : zEnd sp ty D A1 ads h1 t) (hA : ∀ q, A1 q → A q) (ht : t.heap = H1) (hS : va_S A s.heap H1 locs1) : zW sp ty D A s.heap ads h1 H1 locs1 := by
  obtain ⟨ws, w1, w2, w4, w5, w6⟩ := h
  rw [ht] at w1
  exact ⟨ws, w1, w2.weaken (fun k q _ g => hA _ g), hS, w4, w5, w6⟩
/-- behind a call -/
theorem z_callW {len : Nat} (hr : ∀ T : State, T.heap = H → Stand p l e R s m args below meth c T locs cells slots →
    (∃ (v : Option Value) (st₀ t T' : State) (L : List Loc), st₀.heap = H ∧ Stand p l e R s m args below meth c T' (locs ++ L) (cells + mc) (slots + ms) ∧ (∀ q ∈ L, A1 q.base) ∧ T'.heap = t.heap ∧ T'.vm = t.vm ∧ zQc sp ty D A1 ads r h1 a9 st₀ (.returned v) t ∧
      Goes p e below T (F0 m pc ls st0) T' (F0 m (pc + len) ls (v.toList ++ rest))) ∨
    (∃ (q : Addr) (st₀ t T' : State) (L : List Loc) (E : String) (ce : Cell), st₀.heap = H ∧ Stand p l e R s m args below meth c T' (locs ++ L) (cells + mc) (slots + ms) ∧ (∀ z ∈ L, A1 z.base) ∧ T'.heap = t.heap ∧ T'.vm = t.vm ∧ zXC sp ty D A1 ads r h1 E st₀ t ∧ t.heap[q]? = some ce ∧ ce.vm = .none ∧ s.vm.findClass E = some ce.cls ∧
      Steps p.tables e below (T.setTop (F0 m pc ls st0)) ((T'.setTop (F0 m pc ls rest)).pushFrame (.throwing q)))) (hS : va_S A s.heap H locs) (hA : ∀ q, A1 q → A q)
    (kk : ∀ (v v' : Option Value) (q : List Nat) (H1 : Heap) (locs1 : List Loc), r = .inl v → zVo sp (ads ++ q) v v' → zW sp ty D A s.heap (ads ++ q) h1 H1 locs1 → W p l e R s m args below meth c H1 locs1 (cells + mc) (slots + ms) Q (F0 m (pc + len) ls (v'.toList ++ rest)))
    (kx : ∀ (k q9 : Nat) (ce : Cell) (q : List Nat) (H1 : Heap) (locs1 : List Loc), r = .inr k → zW sp ty D A s.heap (ads ++ q) h1 H1 locs1 → H1[q9]? = some ce → ce.vm = .none → s.vm.findClass (zEn k) = some ce.cls → vx_W p l e R s m args below meth c H1 locs1 (cells + mc) (slots + ms) Q (F0 m pc ls rest) q9) :
    W p l e R s m args below meth c H locs cells slots Q (F0 m pc ls st0) := by
  intro T hT X
  rcases hr T hT X with ⟨v9, st₀, t, T', L, h0, X', hL, e1, e2, ⟨⟨v, v', q, hv, ho, hV, hE⟩, hF⟩, st⟩ | ⟨q9, st₀, t, T', L, E, ce, h0, X', hL, e1, e2, ⟨⟨k, q, hv, rfl, hE⟩, hF⟩, hce, hcv, hcl, st⟩
  · cases ho
    obtain ⟨k1, k2, k3⟩ := vx_keep h0 e1 hS (fun q _ g => hA q g) hA hL hF
    obtain ⟨t2, a1, b1⟩ := kk v v9 q T'.heap (locs ++ L) hv hV (zEnd_W hE hA e1.symm k3) T' rfl X'
    exact ⟨t2, st t2 a1, b1⟩
  · obtain ⟨k1, k2, k3⟩ := vx_keep h0 e1 hS (fun q _ g => hA q g) hA hL hF
    obtain ⟨t2, a1, b1⟩ := kx k q9 ce q T'.heap (locs ++ L) hv (zEnd_W hE hA e1.symm k3) (by rw [e1]; exact hce) hcv hcl T' rfl X'
    exact ⟨t2, st.trans a1, b1⟩
/-- what is known of the special addresses goes on into a call -/
theorem zSP_call {A' : Nat → Prop} {U : State} (h : zSP xs sp A s) (hS : va_S A s.heap H locs) (hW : s.WarmedH U.vm) (hU : U.heap = H) (hA : ∀ q, A' q → A q) : zSP xs sp A' U := by
  obtain ⟨a1, ⟨a2, a3⟩, a4, ⟨a5, a6, a7⟩, b1, b2, b3⟩ := h
  have b4 := zSJ_call b3 hS hW hU hA
  subst hU
  refine ⟨zN_warm hW a1, ⟨((a2.kept hS.2.1).moved hW.alike).narrow hA, ((a3.kept hS.2.1).moved hW.alike).narrow hA⟩, fun q hq => ?_, ⟨va_X.moved hW.alike (a5.kept (hS.2.1 _ a6 a7)), Nat.lt_of_lt_of_le a6 hS.1, fun z => a7 (hA _ z)⟩, zN2_warm hW b1, fun q hq => va_Nc.moved hW.alike (b2 q hq), b4⟩
  obtain ⟨sa, g⟩ := a4 q hq
  exact ⟨sa, vk_R.warm hW g⟩
theorem zSP_blind {U : State} {g : JFrame} {mk : MethodId} {a : Array Value} (h : zSP xs sp A U) : zSP xs sp A (U.calling g mk a) :=
  zSP_call (s := U) (A := A) (A' := A) (H := U.heap) (locs := []) h va_S.rf (State.WarmedH.refl U) rfl (fun _ h => h)
/-- a callee's start -/
def zPre (xs : List Int32) (sp : Nat → Nat) (ty : Nat → ClassId) (D : va_G) (ws : va_W) (sz : Nat) : State → Prop := fun U => U.heap.size = sz ∧ va_P D zcl ws U.heap ∧ va_K D zcl (ztys ty) U ∧ va_D (fun _ => True) ws ∧ zSP xs sp (va_A ws sz) U
theorem zPre_blind {ws : va_W} {sz : Nat} {av : List Value} : FrameBlind (va_Pc av (zPre xs sp ty D ws sz)) := by
  rintro a U g mk ⟨rfl, q1, q2, q3, q4, q5⟩
  exact ⟨rfl, q1, q2, va_K.moved (u := U) (U := U.calling g mk _) (Vm.Alike.refl U.vm) q3, q4, zSP_blind q5⟩
theorem zPre_at {ws : va_W} {av : List Value} {U : State} (hK : va_K D zcl (ztys ty) s) (hSP : zSP xs sp A s) (hP : va_P D zcl ws H) (hD : va_D A ws) (hS : va_S A s.heap H locs) (hA : ∀ q, s.heap.size ≤ q → A q) (hU : U.heap = H) (hW : s.WarmedH U.vm) : va_Pc av (zPre xs sp ty D ws H.size) av.toArray U := by
  refine ⟨rfl, by rw [hU], by rw [hU]; exact hP, va_K.moved hW.alike hK, hD.weaken (fun _ _ _ _ => trivial), zSP_call hSP hS hW hU (fun q g => ?_)⟩
  rcases g with ⟨k, e, g⟩ | g
  · exact hD.2 k _ g
  · exact hA q (Nat.le_trans hS.1 g)
end ZQ
end zg2
section zg3
/-- a method's run from its entry, as a contract -/
def zIH (xs : List Int32) (n : Nat) : Prop := ∀ (d y : Nat) (as : List Value) (L0 : zL) (h : zH) (nc ns : Nat) (r : Option Value ⊕ Nat) (h' : zH) (nc' ns' : Nat), y < 247 → y ≠ zlaw → zen (zmL y) as = some L0 → zev xs n d y 0 L0 [] h nc ns = some (r, h', nc', ns') →
  ∀ (l : Launch), l.stackTraces = false → ∀ (sp : Nat → Nat) (ty : Nat → ClassId) (D : va_G) (ws : va_W) (as' : List Value) (sz : Nat), zS sp (ws.map (fun q => q.1)) as as' → h.length = ws.length → (∀ (k : Nat) (c : Nat × List Value) (q : Nat × va_E), h[k]? = some c → ws[k]? = some q → zC sp ty (ws.map (fun q => q.1)) c q.2) →
  vx_Met l (zmn y) (zws y) (zrm d (nc' - nc) (ns' - ns)) (va_Pc as' (zPre xs sp ty D ws sz)) (zQc sp ty D (va_A ws sz) (ws.map (fun q => q.1)) r h') (zXC sp ty D (va_A ws sz) (ws.map (fun q => q.1)) r h') (nc' - nc) (ns' - ns) (va_A ws sz)
theorem zrm_loc {d mc ms mc0 ms0 k : Nat} (h : k ≤ 20) : 8 + (k + 11) + (zrm d mc ms).locals ≤ (zrm (d + 1) mc0 ms0).locals := by
  unfold zrm
  dsimp only
  omega
section ZP
variable {p : Program} {l : Launch} {e : Env} {s : State} {m : MethodId} {args : Array Value} {below : List Frame} {meth : Method} {c : Code} {H : Heap} {locs : List Loc} {cells slots : Nat} {Q : State → Prop}
variable {xs : List Int32} {sp : Nat → Nat} {ty : Nat → ClassId} {D : va_G} {A : Nat → Prop} {ads : List Nat}
variable {n d y y' idx n9 pc mc0 ms0 : Nat} {L L0 : zL} {st as rr str : List Value} {h h1 : zH} {ls : Array Slot} {r : Option Value ⊕ Nat} {nc ns nc1 ns1 : Nat}
theorem zM_facts (hy : zMok y') : (Jvm.Cond.initialized (zmn y').cls ∈ zB) ∧ ((zmn y').cls ≠ "java/lang/invoke/MethodHandle" ∧ (zmn y').cls ≠ "java/lang/invoke/VarHandle") ∧ (parseMethodDescriptor (zmn y').desc).map (fun d => d.parameters.length) = some (zmp y') ∧ zmL y' ≤ 20 ∧ plainName (zmn y').cls = true := by
  obtain ⟨-, h1, -, h2, h3, h4⟩ := hy
  obtain ⟨g1, g2, g3⟩ := Bundle.fit_spec h2
  exact ⟨h1, ⟨g2, g3⟩, h3, h4, g1⟩
theorem z_wA {ws : va_W} (w2 : va_D A ws) (w3 : va_S A s.heap H locs) (hA : ∀ q, s.heap.size ≤ q → A q) : ∀ q, va_A ws H.size q → A q := by
  intro q g
  rcases g with ⟨k, e, g⟩ | g
  · exact w2.2 k _ g
  · exact hA q (Nat.le_trans w3.1 g)
theorem z_callS (IH : zIH xs n) (hl9 : l.stackTraces = false) (hX : zX xs sp ty D A y p (zrm (d + 1) mc0 ms0) s m args meth c) (hl : zSok (zmo y, idx, y')) (hy1 : y' < 247) (hy2 : y' ≠ zlaw) (hdg : decode (zmb y) pc = .ok (.invokestatic idx, 3)) (hn : zmp y' = n9) (hpop : ztk n9 [] st = some (as, rr)) (hcs : zcs rr ≤ 8) (hen : zen (zmL y') as = some L0) (hev : zev xs n d y' 0 L0 [] h nc ns = some (r, h1, nc1, ns1))
    (I : zR sp ty D A s.heap (zmL y) ads L st h ls str H locs) (hc : cells + (nc1 - nc) ≤ mc0) (hs : slots + (ns1 - ns) ≤ ms0)
    (kk : ∀ (v v' : Option Value) (q : List Nat) (r' : List Value) (H1 : Heap) (locs1 : List Loc), r = .inl v → zVo sp (ads ++ q) v v' → zS sp ads rr r' → zW sp ty D A s.heap (ads ++ q) h1 H1 locs1 → W p l e (zrm (d + 1) mc0 ms0) s m args below meth c H1 locs1 (cells + (nc1 - nc)) (slots + (ns1 - ns)) Q (F0 m (pc + 3) ls (v'.toList ++ r')))
    (kx : ∀ (k q9 : Nat) (ce : Cell) (q : List Nat) (r' : List Value) (H1 : Heap) (locs1 : List Loc), r = .inr k → zS sp ads rr r' → zW sp ty D A s.heap (ads ++ q) h1 H1 locs1 → H1[q9]? = some ce → ce.vm = .none → s.vm.findClass (zEn k) = some ce.cls → vx_W p l e (zrm (d + 1) mc0 ms0) s m args below meth c H1 locs1 (cells + (nc1 - nc)) (slots + (ns1 - ns)) Q (F0 m pc ls r') q9) :
    W p l e (zrm (d + 1) mc0 ms0) s m args below meth c H locs cells slots Q (F0 m pc ls str) := by
  obtain ⟨hx, hb, hml, hret, hlk, hown, hnm, hts, hK, hA, hSP, hRf, hRl⟩ := hX
  obtain ⟨I1, I2, ws, w1, w2, w3, w4, w5, w6⟩ := I
  obtain ⟨as', r', q1, q2, q3, q4⟩ := ztk_S n9 (acc := []) (acc' := []) rfl I2 hpop
  have q3 : str = as'.reverse ++ r' := q3
  have hyM := zM_ok y' hy1 hy2
  obtain ⟨m1, m2, m3, m4, m5⟩ := zM_facts hyM
  have hA1 := z_wA w2 w3 hA
  subst w4
  have hM := IH d y' as L0 h nc ns r h1 nc1 ns1 hy1 hy2 hen hev l hl9 sp ty D ws as' H.size q1 w5 w6
  have hlen : as'.length = n9 := by rw [zS_len q1, q4]; simp
  have hlsz : ls.size = zmL y := by
    obtain ⟨-, lv, hlv, -⟩ := I1
    exact hlv.1
  rcases hyM.1 with ⟨e1, hcode⟩ | ⟨e1, hcode⟩
  · have ews : zws y' = .code (zmn y') (zmb y') (zmL y') (zmr y') :: zB := by unfold zws; rw [e1]
    have hrun := vx_runS (R := zrm (d + 1) mc0 ms0) (e := e) (below := below) (meth := meth) (s := s) (args := args) (m := m) (c := c) (p := p) (g := F0 m pc ls str) (As := as') (rest := r') (own := zon (zmo y)) (Ts := zB) (nL := zmL y) (cells := cells) (slots := slots) (locs := locs) (H := H) ⟨hx, hb, hml, hown, hts⟩ hM
      ⟨callB_of n9 hts (zws_good (zM_ok y' hy1 hy2)) ews rfl rfl (hts _ m1) (hts _ hl.1) ⟨m2.1, m2.2, by rw [m3, hn]⟩ ⟨by show d + 30 + 1 ≤ d + 1 + 30; omega, zrm_loc m4⟩, hts _ hl.2⟩
      ⟨zPre_blind, fun U hU hW => zPre_at hK hSP w1 w2 w3 hA hU hW⟩ rfl hlen hlsz (by show str = _; exact q3) (lv_room (by rw [zS_cs q2]; exact hcs)) hdg ⟨hc, hs⟩
    exact z_callW (len := 3) hrun w3 hA1 (fun v v' q H1 locs1 g1 g2 g3 => kk v v' q r' H1 locs1 g1 g2 q2 g3) (fun k q9 ce q H1 locs1 g1 g2 g3 g4 g5 => kx k q9 ce q r' H1 locs1 g1 q2 g2 g3 g4 g5)
  · have ews : zws y' = .codeWith (zmn y') (zmb y') (zmL y') (zmr y') (zmh y') :: zB := by
      unfold zws
      split
      · next e2 => exact absurd e2 e1
      · rfl
    have hG := zws_good (zM_ok y' hy1 hy2)
    have hrun := vx_runSX (e := e) (below := below) (meth := meth) (s := s) (m := m) (c := c) (p := p) (g := F0 m pc ls str) (As := as') (rest := r') (own := zon (zmo y)) (Ts := zB) (nL := zmL y) (cells := cells) (slots := slots) (locs := locs) (H := H) (y := zmn y') (bytes := zmb y') (maxL := zmL y') (ret := zmr y') (hh := zmh y') (n := n9) (index := idx) (R := zrm (d + 1) mc0 ms0) (args := args) ⟨hx, hb, hml, hown, hts⟩ hM
      ⟨⟨rfl, rfl, by show d + 30 + 1 ≤ d + 1 + 30; omega, zrm_loc m4, pay_in hts hG, by rw [ews]; exact List.mem_cons_self⟩, hts _ hcode, hts _ m1, m2, (fun sig h9 => by rw [h9] at m3; exact (Option.some.inj (m3.trans (congrArg some hn))).symm), hts _ hl.1, hts _ hl.2⟩
      ⟨zPre_blind, fun U hU hW => zPre_at hK hSP w1 w2 w3 hA hU hW⟩ rfl hlen hlsz (by show str = _; exact q3) (lv_room (by rw [zS_cs q2]; exact hcs)) hdg ⟨hc, hs⟩
    exact z_callW (len := 3) hrun w3 hA1 (fun v v' q H1 locs1 g1 g2 g3 => kk v v' q r' H1 locs1 g1 g2 q2 g3) (fun k q9 ce q H1 locs1 g1 g2 g3 g4 g5 => kx k q9 ce q r' H1 locs1 g1 q2 g2 g3 g4 g5)
theorem z_callV (IH : zIH xs n) (hl9 : l.stackTraces = false) (hX : zX xs sp ty D A y p (zrm (d + 1) mc0 ms0) s m args meth c) {c9 : Nat} (hc9 : c9 < 11) (hl : zVok (zmo y, idx, y', c9)) (hnh : zmh y' = []) (hy1 : y' < 247) (hy2 : y' ≠ zlaw) (hdg : decode (zmb y) pc = .ok (.invokevirtual idx, 3)) (hn : zmp y' = n9) (hpop : ztk (n9 + 1) [] st = some (as, rr)) {a : Nat} {as0 : List Value} (has : as = .ref a :: as0) {vs : List Value} (hcell : h[a]? = some (c9, vs)) (hcs : zcs rr ≤ 8) (hen : zen (zmL y') as = some L0) (hev : zev xs n d y' 0 L0 [] h nc ns = some (r, h1, nc1, ns1))
    (I : zR sp ty D A s.heap (zmL y) ads L st h ls str H locs) (hc : cells + (nc1 - nc) ≤ mc0) (hs : slots + (ns1 - ns) ≤ ms0)
    (kk : ∀ (v v' : Option Value) (q : List Nat) (r' : List Value) (H1 : Heap) (locs1 : List Loc), r = .inl v → zVo sp (ads ++ q) v v' → zS sp ads rr r' → zW sp ty D A s.heap (ads ++ q) h1 H1 locs1 → W p l e (zrm (d + 1) mc0 ms0) s m args below meth c H1 locs1 (cells + (nc1 - nc)) (slots + (ns1 - ns)) Q (F0 m (pc + 3) ls (v'.toList ++ r')))
    (kx : ∀ (k q9 : Nat) (ce : Cell) (q : List Nat) (r' : List Value) (H1 : Heap) (locs1 : List Loc), r = .inr k → zS sp ads rr r' → zW sp ty D A s.heap (ads ++ q) h1 H1 locs1 → H1[q9]? = some ce → ce.vm = .none → s.vm.findClass (zEn k) = some ce.cls → vx_W p l e (zrm (d + 1) mc0 ms0) s m args below meth c H1 locs1 (cells + (nc1 - nc)) (slots + (ns1 - ns)) Q (F0 m pc ls r') q9) :
    W p l e (zrm (d + 1) mc0 ms0) s m args below meth c H locs cells slots Q (F0 m pc ls str) := by
  obtain ⟨hx, hb, hml, hret, hlk, hown, hnm, hts, hK, hA, hSP, hRf, hRl⟩ := hX
  obtain ⟨I1, I2, I3⟩ := I
  obtain ⟨as', r', q1, q2, q3, q4⟩ := ztk_S (n9 + 1) (acc := []) (acc' := []) rfl I2 hpop
  have q3 : str = as'.reverse ++ r' := q3
  subst has
  obtain ⟨b', as0', rfl, hb9, q1'⟩ := id q1
  obtain ⟨ws, b, ec, rfl, -, wa, wb, w1, w2, w3, w4, w5, w6⟩ := z_W I3 hcell hb9
  obtain ⟨vs', rfl, -⟩ := z_obj (by omega) wb
  have hyM := zM_ok y' hy1 hy2
  obtain ⟨m1, m2, m3, m4, m5⟩ := zM_facts hyM
  have hA1 := z_wA w2 w3 hA
  subst w4
  have hM := IH d y' _ L0 h nc ns r h1 nc1 ns1 hy1 hy2 hen hev l hl9 sp ty D ws (.ref b :: as0') H.size q1 w5 w6
  have hlen : as0'.length = n9 := by
    have := zS_len q1
    rw [q4] at this
    simpa using this
  have hlsz : ls.size = zmL y := by
    obtain ⟨-, lv, hlv, -⟩ := I1
    exact hlv.1
  have hcode : Jvm.Cond.code (zmn y') (zmb y') (zmL y') (zmr y') ∈ zB := by
    rcases hyM.1 with ⟨-, h9⟩ | ⟨h8, -⟩
    · exact h9
    · exact absurd hnh h8
  have ews : zws y' = .code (zmn y') (zmb y') (zmL y') (zmr y') :: zB := by unfold zws; rw [hnh]
  obtain ⟨o1, o2, o3, o4, o5, o6⟩ := zc_ok c9 hc9
  have hrec : ∃ cellB : Cell, H[b]? = some cellB ∧ cellB.vm.isStatics = false ∧ s.vm.findClass (zcn c9) = some cellB.cls := va_recv hK w1 o6 wa
  have hrun := vx_runV (R := zrm (d + 1) mc0 ms0) (e := e) (below := below) (meth := meth) (s := s) (args := args) (m := m) (c := c) (p := p) (g := F0 m pc ls str) (As := as0') (b := b) (C := zcn c9) (rest := r') (own := zon (zmo y)) (Ts := zB) (nL := zmL y) (cells := cells) (slots := slots) (locs := locs) (H := H) ⟨hx, hb, hml, hown, hts⟩ hM
      ⟨callB_of n9 hts (zws_good (zM_ok y' hy1 hy2)) ews rfl rfl (hts _ m1) (hts _ hl.1) ⟨m2.1, m2.2, by rw [m3, hn]⟩ ⟨by show d + 30 + 1 ≤ d + 1 + 30; omega, zrm_loc m4⟩, hts _ hl.2.1, hts _ hl.2.2⟩
      ⟨zPre_blind, hrec, fun U hU hW => zPre_at hK hSP w1 w2 w3 hA hU hW⟩ rfl hlen hlsz (by show str = _; rw [q3]; simp) (lv_room (by rw [zS_cs q2]; exact hcs)) hdg ⟨hc, hs⟩
  exact z_callW (len := 3) hrun w3 hA1 (fun v v' q H1 locs1 g1 g2 g3 => kk v v' q r' H1 locs1 g1 g2 q2 g3) (fun k q9 ce q H1 locs1 g1 g2 g3 g4 g5 => kx k q9 ce q r' H1 locs1 g1 q2 g2 g3 g4 g5)
theorem z_callU (IH : zIH xs n) (hl9 : l.stackTraces = false) (hX : zX xs sp ty D A y p (zrm (d + 1) mc0 ms0) s m args meth c) {c9 : Nat} (hc9 : c9 < 11) (hl : zUok (zmo y, idx, y', c9)) (hnh : zmh y' = []) (hy1 : y' < 247) (hy2 : y' ≠ zlaw) (hdg : decode (zmb y) pc = .ok (.invokevirtual idx, 3)) (hn : zmp y' = n9) (hpop : ztk (n9 + 1) [] st = some (as, rr)) {a : Nat} {as0 : List Value} (has : as = .ref a :: as0) {vs : List Value} (hcell : h[a]? = some (c9, vs)) (hcs : zcs rr ≤ 8) (hen : zen (zmL y') as = some L0) (hev : zev xs n d y' 0 L0 [] h nc ns = some (r, h1, nc1, ns1))
    (I : zR sp ty D A s.heap (zmL y) ads L st h ls str H locs) (hc : cells + (nc1 - nc) ≤ mc0) (hs : slots + (ns1 - ns) ≤ ms0)
    (kk : ∀ (v v' : Option Value) (q : List Nat) (r' : List Value) (H1 : Heap) (locs1 : List Loc), r = .inl v → zVo sp (ads ++ q) v v' → zS sp ads rr r' → zW sp ty D A s.heap (ads ++ q) h1 H1 locs1 → W p l e (zrm (d + 1) mc0 ms0) s m args below meth c H1 locs1 (cells + (nc1 - nc)) (slots + (ns1 - ns)) Q (F0 m (pc + 3) ls (v'.toList ++ r')))
    (kx : ∀ (k q9 : Nat) (ce : Cell) (q : List Nat) (r' : List Value) (H1 : Heap) (locs1 : List Loc), r = .inr k → zS sp ads rr r' → zW sp ty D A s.heap (ads ++ q) h1 H1 locs1 → H1[q9]? = some ce → ce.vm = .none → s.vm.findClass (zEn k) = some ce.cls → vx_W p l e (zrm (d + 1) mc0 ms0) s m args below meth c H1 locs1 (cells + (nc1 - nc)) (slots + (ns1 - ns)) Q (F0 m pc ls r') q9) :
    W p l e (zrm (d + 1) mc0 ms0) s m args below meth c H locs cells slots Q (F0 m pc ls str) := by
  obtain ⟨hx, hb, hml, hret, hlk, hown, hnm, hts, hK, hA, hSP, hRf, hRl⟩ := hX
  obtain ⟨I1, I2, I3⟩ := I
  obtain ⟨as', r', q1, q2, q3, q4⟩ := ztk_S (n9 + 1) (acc := []) (acc' := []) rfl I2 hpop
  have q3 : str = as'.reverse ++ r' := q3
  subst has
  obtain ⟨b', as0', rfl, hb9, q1'⟩ := id q1
  obtain ⟨ws, b, ec, rfl, -, wa, wb, w1, w2, w3, w4, w5, w6⟩ := z_W I3 hcell hb9
  obtain ⟨vs', rfl, -⟩ := z_obj (by omega) wb
  have hyM := zM_ok y' hy1 hy2
  obtain ⟨m1, m2, m3, m4, m5⟩ := zM_facts hyM
  have hA1 := z_wA w2 w3 hA
  subst w4
  have hM := IH d y' _ L0 h nc ns r h1 nc1 ns1 hy1 hy2 hen hev l hl9 sp ty D ws (.ref b :: as0') H.size q1 w5 w6
  have hlen : as0'.length = n9 := by
    have := zS_len q1
    rw [q4] at this
    simpa using this
  have hlsz : ls.size = zmL y := by
    obtain ⟨-, lv, hlv, -⟩ := I1
    exact hlv.1
  have hcode : Jvm.Cond.code (zmn y') (zmb y') (zmL y') (zmr y') ∈ zB := by
    rcases hyM.1 with ⟨-, h9⟩ | ⟨h8, -⟩
    · exact h9
    · exact absurd hnh h8
  have ews : zws y' = .code (zmn y') (zmb y') (zmL y') (zmr y') :: zB := by unfold zws; rw [hnh]
  obtain ⟨o1, o2, o3, o4, o5, o6⟩ := zc_ok c9 hc9
  have hrec : ∃ cellB : Cell, H[b]? = some cellB ∧ cellB.vm.isStatics = false ∧ s.vm.findClass (zcn c9) = some cellB.cls := va_recv hK w1 o6 wa
  obtain ⟨x9, ow9, l1, l2, ⟨b9, mL9, rt9, l3⟩, l4, l5, l6, l7, l8, l9⟩ := hl
  have hrun := vx_runU (e := e) (below := below) (meth := meth) (s := s) (m := m) (c := c) (p := p) (R := zrm (d + 1) mc0 ms0) (args := args) (g := F0 m pc ls str) (As := as0') (b := b) (C := zcn c9) (x := x9) (owner := ow9) (y := zmn y') (bytes := zmb y') (maxL := zmL y') (ret := zmr y') (n := n9) (index := idx) (rest := r') (own := zon (zmo y)) (Ts := zB) (nL := zmL y) (cells := cells) (slots := slots) (locs := locs) (H := H) ⟨hx, hb, hml, hown, hts⟩ hM
      ⟨⟨rfl, rfl, by show d + 30 + 1 ≤ d + 1 + 30; omega, zrm_loc m4, pay_in hts (zws_good (zM_ok y' hy1 hy2)), by rw [ews]; exact List.mem_cons_self⟩, hts _ hcode, hts _ m1, ⟨l7, l8⟩, (fun sig h9 => by rw [h9] at l9; exact (Option.some.inj (l9.trans (congrArg some hn))).symm), hts _ l1, hts _ l2, va_Decl.of (hts _ l4) (hts _ l3), hts _ l5, hts _ l6⟩
      ⟨zPre_blind, hrec, fun U hU hW => zPre_at hK hSP w1 w2 w3 hA hU hW⟩ rfl hlen hlsz (by show str = _; rw [q3]; simp) (lv_room (by rw [zS_cs q2]; exact hcs)) hdg ⟨hc, hs⟩
  exact z_callW (len := 3) hrun w3 hA1 (fun v v' q H1 locs1 g1 g2 g3 => kk v v' q r' H1 locs1 g1 g2 q2 g3) (fun k q9 ce q H1 locs1 g1 g2 g3 g4 g5 => kx k q9 ce q r' H1 locs1 g1 q2 g2 g3 g4 g5)
theorem z_callG (IH : zIH xs n) (hl9 : l.stackTraces = false) (hX : zX xs sp ty D A y p (zrm (d + 1) mc0 ms0) s m args meth c) {c9 : Nat} (hc9 : c9 < 11) (hl : zGok (zmo y, idx, y', c9)) (hnh : zmh y' = []) (hy1 : y' < 247) (hy2 : y' ≠ zlaw) (hdg : decode (zmb y) pc = .ok (.invokespecial idx, 3)) (hn : zmp y' = n9) (hpop : ztk (n9 + 1) [] st = some (as, rr)) {a : Nat} {as0 : List Value} (has : as = .ref a :: as0) {vs : List Value} (hcell : h[a]? = some (c9, vs)) (hcs : zcs rr ≤ 8) (hen : zen (zmL y') as = some L0) (hev : zev xs n d y' 0 L0 [] h nc ns = some (r, h1, nc1, ns1))
    (I : zR sp ty D A s.heap (zmL y) ads L st h ls str H locs) (hc : cells + (nc1 - nc) ≤ mc0) (hs : slots + (ns1 - ns) ≤ ms0)
    (kk : ∀ (v v' : Option Value) (q : List Nat) (r' : List Value) (H1 : Heap) (locs1 : List Loc), r = .inl v → zVo sp (ads ++ q) v v' → zS sp ads rr r' → zW sp ty D A s.heap (ads ++ q) h1 H1 locs1 → W p l e (zrm (d + 1) mc0 ms0) s m args below meth c H1 locs1 (cells + (nc1 - nc)) (slots + (ns1 - ns)) Q (F0 m (pc + 3) ls (v'.toList ++ r')))
    (kx : ∀ (k q9 : Nat) (ce : Cell) (q : List Nat) (r' : List Value) (H1 : Heap) (locs1 : List Loc), r = .inr k → zS sp ads rr r' → zW sp ty D A s.heap (ads ++ q) h1 H1 locs1 → H1[q9]? = some ce → ce.vm = .none → s.vm.findClass (zEn k) = some ce.cls → vx_W p l e (zrm (d + 1) mc0 ms0) s m args below meth c H1 locs1 (cells + (nc1 - nc)) (slots + (ns1 - ns)) Q (F0 m pc ls r') q9) :
    W p l e (zrm (d + 1) mc0 ms0) s m args below meth c H locs cells slots Q (F0 m pc ls str) := by
  obtain ⟨hx, hb, hml, hret, hlk, hown, hnm, hts, hK, hA, hSP, hRf, hRl⟩ := hX
  obtain ⟨I1, I2, I3⟩ := I
  obtain ⟨as', r', q1, q2, q3, q4⟩ := ztk_S (n9 + 1) (acc := []) (acc' := []) rfl I2 hpop
  have q3 : str = as'.reverse ++ r' := q3
  subst has
  obtain ⟨b', as0', rfl, hb9, q1'⟩ := id q1
  obtain ⟨ws, b, ec, rfl, -, wa, wb, w1, w2, w3, w4, w5, w6⟩ := z_W I3 hcell hb9
  obtain ⟨vs', rfl, -⟩ := z_obj (by omega) wb
  have hyM := zM_ok y' hy1 hy2
  obtain ⟨m1, m2, m3, m4, m5⟩ := zM_facts hyM
  have hA1 := z_wA w2 w3 hA
  subst w4
  have hM := IH d y' _ L0 h nc ns r h1 nc1 ns1 hy1 hy2 hen hev l hl9 sp ty D ws (.ref b :: as0') H.size q1 w5 w6
  have hlen : as0'.length = n9 := by
    have := zS_len q1
    rw [q4] at this
    simpa using this
  have hlsz : ls.size = zmL y := by
    obtain ⟨-, lv, hlv, -⟩ := I1
    exact hlv.1
  have hcode : Jvm.Cond.code (zmn y') (zmb y') (zmL y') (zmr y') ∈ zB := by
    rcases hyM.1 with ⟨-, h9⟩ | ⟨h8, -⟩
    · exact h9
    · exact absurd hnh h8
  have ews : zws y' = .code (zmn y') (zmb y') (zmL y') (zmr y') :: zB := by unfold zws; rw [hnh]
  obtain ⟨o1, o2, o3, o4, o5, o6⟩ := zc_ok c9 hc9
  have hrec : ∃ cellB : Cell, H[b]? = some cellB ∧ cellB.vm.isStatics = false ∧ s.vm.findClass (zcn c9) = some cellB.cls := va_recv hK w1 o6 wa
  obtain ⟨l1, l2, l3, l4, l5⟩ := hl
  have hrun := vx_runSU (e := e) (below := below) (meth := meth) (s := s) (m := m) (c := c) (p := p) (R := zrm (d + 1) mc0 ms0) (args := args) (g := F0 m pc ls str) (As := as0') (b := b) (C := zcn c9) (cC := D.1 c9) (y := zmn y') (bytes := zmb y') (maxL := zmL y') (ret := zmr y') (n := n9) (index := idx) (rest := r') (own := zon (zmo y)) (Ts := zB) (nL := zmL y) (cells := cells) (slots := slots) (locs := locs) (H := H) (hK.1 c9 _ o6).2 ⟨hx, hb, hml, hown, hts⟩ hM
      ⟨⟨rfl, rfl, by show d + 30 + 1 ≤ d + 1 + 30; omega, zrm_loc m4, pay_in hts (zws_good (zM_ok y' hy1 hy2)), by rw [ews]; exact List.mem_cons_self⟩, hts _ l1, hts _ l2, hts _ l3, hts _ l4, hts _ m1, hts _ hcode, l5, (fun sig h9 => by rw [h9] at m3; exact (Option.some.inj (m3.trans (congrArg some hn))).symm)⟩
      ⟨zPre_blind, hrec, fun U hU hW => zPre_at hK hSP w1 w2 w3 hA hU hW⟩ rfl hlen hlsz (by show str = _; rw [q3]; simp) (lv_room (by rw [zS_cs q2]; exact hcs)) hdg ⟨hc, hs⟩
  exact z_callW (len := 3) hrun w3 hA1 (fun v v' q H1 locs1 g1 g2 g3 => kk v v' q r' H1 locs1 g1 g2 q2 g3) (fun k q9 ce q H1 locs1 g1 g2 g3 g4 g5 => kx k q9 ce q r' H1 locs1 g1 q2 g2 g3 g4 g5)
theorem z_callF (IH : zIH xs n) (hl9 : l.stackTraces = false) (hX : zX xs sp ty D A y p (zrm (d + 1) mc0 ms0) s m args meth c) {c9 : Nat} (hc9 : c9 < 11) (hc10 : zcn c9 = "java/util/ArrayList") {cnt : Nat} (hl : zNok (zmo y, idx, y')) (hnh : zmh y' = []) (hy1 : y' < 247) (hy2 : y' ≠ zlaw) (hdg : decode (zmb y) pc = .ok (.invokeinterface idx cnt, 5)) (hn : zmp y' = n9) (hpop : ztk (n9 + 1) [] st = some (as, rr)) {a : Nat} {as0 : List Value} (has : as = .ref a :: as0) {vs : List Value} (hcell : h[a]? = some (c9, vs)) (hcs : zcs rr ≤ 8) (hen : zen (zmL y') as = some L0) (hev : zev xs n d y' 0 L0 [] h nc ns = some (r, h1, nc1, ns1))
    (I : zR sp ty D A s.heap (zmL y) ads L st h ls str H locs) (hc : cells + (nc1 - nc) ≤ mc0) (hs : slots + (ns1 - ns) ≤ ms0)
    (kk : ∀ (v v' : Option Value) (q : List Nat) (r' : List Value) (H1 : Heap) (locs1 : List Loc), r = .inl v → zVo sp (ads ++ q) v v' → zS sp ads rr r' → zW sp ty D A s.heap (ads ++ q) h1 H1 locs1 → W p l e (zrm (d + 1) mc0 ms0) s m args below meth c H1 locs1 (cells + (nc1 - nc)) (slots + (ns1 - ns)) Q (F0 m (pc + 5) ls (v'.toList ++ r')))
    (kx : ∀ (k q9 : Nat) (ce : Cell) (q : List Nat) (r' : List Value) (H1 : Heap) (locs1 : List Loc), r = .inr k → zS sp ads rr r' → zW sp ty D A s.heap (ads ++ q) h1 H1 locs1 → H1[q9]? = some ce → ce.vm = .none → s.vm.findClass (zEn k) = some ce.cls → vx_W p l e (zrm (d + 1) mc0 ms0) s m args below meth c H1 locs1 (cells + (nc1 - nc)) (slots + (ns1 - ns)) Q (F0 m pc ls r') q9) :
    W p l e (zrm (d + 1) mc0 ms0) s m args below meth c H locs cells slots Q (F0 m pc ls str) := by
  obtain ⟨hx, hb, hml, hret, hlk, hown, hnm, hts, hK, hA, hSP, hRf, hRl⟩ := hX
  obtain ⟨I1, I2, I3⟩ := I
  obtain ⟨as', r', q1, q2, q3, q4⟩ := ztk_S (n9 + 1) (acc := []) (acc' := []) rfl I2 hpop
  have q3 : str = as'.reverse ++ r' := q3
  subst has
  obtain ⟨b', as0', rfl, hb9, q1'⟩ := id q1
  obtain ⟨ws, b, ec, rfl, -, wa, wb, w1, w2, w3, w4, w5, w6⟩ := z_W I3 hcell hb9
  obtain ⟨vs', rfl, -⟩ := z_obj (by omega) wb
  have hyM := zM_ok y' hy1 hy2
  obtain ⟨m1, m2, m3, m4, m5⟩ := zM_facts hyM
  have hA1 := z_wA w2 w3 hA
  subst w4
  have hM := IH d y' _ L0 h nc ns r h1 nc1 ns1 hy1 hy2 hen hev l hl9 sp ty D ws (.ref b :: as0') H.size q1 w5 w6
  have hlen : as0'.length = n9 := by
    have := zS_len q1
    rw [q4] at this
    simpa using this
  have hlsz : ls.size = zmL y := by
    obtain ⟨-, lv, hlv, -⟩ := I1
    exact hlv.1
  have hcode : Jvm.Cond.code (zmn y') (zmb y') (zmL y') (zmr y') ∈ zB := by
    rcases hyM.1 with ⟨-, h9⟩ | ⟨h8, -⟩
    · exact h9
    · exact absurd hnh h8
  have ews : zws y' = .code (zmn y') (zmb y') (zmL y') (zmr y') :: zB := by unfold zws; rw [hnh]
  obtain ⟨o1, o2, o3, o4, o5, o6⟩ := zc_ok c9 hc9
  have hrec : ∃ cellB : Cell, H[b]? = some cellB ∧ cellB.vm.isStatics = false ∧ s.vm.findClass (zcn c9) = some cellB.cls := va_recv hK w1 o6 wa
  obtain ⟨x9, l0, l1, l2, l3, l4, l5, l6⟩ := hl
  obtain ⟨f1, f2, f3, f4, f5⟩ := hSP.2.2.2.2.2.2.1 _ l0
  have hrun := vx_runF (e := e) (below := below) (meth := meth) (s := s) (m := m) (c := c) (p := p) (R := zrm (d + 1) mc0 ms0) (args := args) (g := F0 m pc ls str) (As := as0') (b := b) (C := zcn c9) (cC := D.1 c9) (x := x9) (y := zmn y') (bytes := zmb y') (maxL := zmL y') (ret := zmr y') (n := n9) (index := idx) (count := cnt) (rest := r') (own := zon (zmo y)) (Ts := zB) (nL := zmL y) (cells := cells) (slots := slots) (locs := locs) (H := H) (hK.1 c9 _ o6).2 ⟨hx, hb, hml, hown, hts⟩ hM
      ⟨⟨rfl, rfl, by show d + 30 + 1 ≤ d + 1 + 30; omega, zrm_loc m4, pay_in hts (zws_good (zM_ok y' hy1 hy2)), by rw [ews]; exact List.mem_cons_self⟩, hts _ l1, va_any rfl f1, va_any rfl f2, (by rw [hc10]; exact hts _ l2), hts _ l3, va_any rfl f3, (by rw [hc10]; exact va_any rfl f4), (by rw [hc10]; exact va_any rfl f5), hts _ m1, hts _ hcode, ⟨l5, l6⟩, (fun sig h9 => by rw [h9] at l4; exact (Option.some.inj (l4.trans (congrArg some hn))).symm)⟩
      ⟨zPre_blind, hrec, fun U hU hW => zPre_at hK hSP w1 w2 w3 hA hU hW⟩ rfl hlen hlsz (by show str = _; rw [q3]; simp) (lv_room (by rw [zS_cs q2]; exact hcs)) hdg ⟨hc, hs⟩
  exact z_callW (len := 5) hrun w3 hA1 (fun v v' q H1 locs1 g1 g2 g3 => kk v v' q r' H1 locs1 g1 g2 q2 g3) (fun k q9 ce q H1 locs1 g1 g2 g3 g4 g5 => kx k q9 ce q r' H1 locs1 g1 q2 g2 g3 g4 g5)
theorem z_callI (IH : zIH xs n) (hl9 : l.stackTraces = false) (hX : zX xs sp ty D A y p (zrm (d + 1) mc0 ms0) s m args meth c) (hl : zIok (zmo y, idx, y')) (hnh : zmh y' = []) (hnr : zmr y' = none) (hy1 : y' < 247) (hy2 : y' ≠ zlaw) (hdg : decode (zmb y) pc = .ok (.invokespecial idx, 3)) (hn : zmp y' = n9) (hpop : ztk (n9 + 1) [] st = some (as, rr)) {a : Nat} {as0 : List Value} (has : as = .ref a :: as0) (hcs : zcs rr ≤ 8) (hen : zen (zmL y') as = some L0) (hev : zev xs n d y' 0 L0 [] h nc ns = some (r, h1, nc1, ns1))
    (I : zR sp ty D A s.heap (zmL y) ads L st h ls str H locs) (hc : cells + (nc1 - nc) ≤ mc0) (hs : slots + (ns1 - ns) ≤ ms0)
    (kk : ∀ (v v' : Option Value) (q : List Nat) (r' : List Value) (H1 : Heap) (locs1 : List Loc), r = .inl v → zVo sp (ads ++ q) v v' → zS sp ads rr r' → zW sp ty D A s.heap (ads ++ q) h1 H1 locs1 → W p l e (zrm (d + 1) mc0 ms0) s m args below meth c H1 locs1 (cells + (nc1 - nc)) (slots + (ns1 - ns)) Q (F0 m (pc + 3) ls (v'.toList ++ r')))
    (kx : ∀ (k q9 : Nat) (ce : Cell) (q : List Nat) (r' : List Value) (H1 : Heap) (locs1 : List Loc), r = .inr k → zS sp ads rr r' → zW sp ty D A s.heap (ads ++ q) h1 H1 locs1 → H1[q9]? = some ce → ce.vm = .none → s.vm.findClass (zEn k) = some ce.cls → vx_W p l e (zrm (d + 1) mc0 ms0) s m args below meth c H1 locs1 (cells + (nc1 - nc)) (slots + (ns1 - ns)) Q (F0 m pc ls r') q9) :
    W p l e (zrm (d + 1) mc0 ms0) s m args below meth c H locs cells slots Q (F0 m pc ls str) := by
  obtain ⟨hx, hb, hml, hret, hlk, hown, hnm, hts, hK, hA, hSP, hRf, hRl⟩ := hX
  obtain ⟨I1, I2, ws, w1, w2, w3, w4, w5, w6⟩ := I
  obtain ⟨as', r', q1, q2, q3, q4⟩ := ztk_S (n9 + 1) (acc := []) (acc' := []) rfl I2 hpop
  have q3 : str = as'.reverse ++ r' := q3
  subst has
  obtain ⟨b', as0', rfl, ⟨b, hb9, rfl⟩, q1'⟩ := id q1
  have hyM := zM_ok y' hy1 hy2
  obtain ⟨m1, m2, m3, m4, m5⟩ := zM_facts hyM
  have hA1 := z_wA w2 w3 hA
  subst w4
  have hM := IH d y' _ L0 h nc ns r h1 nc1 ns1 hy1 hy2 hen hev l hl9 sp ty D ws (.ref b :: as0') H.size q1 w5 w6
  have hlen : as0'.length = n9 := by
    have := zS_len q1
    rw [q4] at this
    simpa using this
  have hlsz : ls.size = zmL y := by
    obtain ⟨-, lv, hlv, -⟩ := I1
    exact hlv.1
  have ews : zws y' = .code (zmn y') (zmb y') (zmL y') none :: zB := by unfold zws; rw [hnh, hnr]
  obtain ⟨hlink, hinst, hnmi⟩ := hl
  rcases hlink with hlink | ⟨host, hlink⟩
  · have hrun := vx_runI (R := zrm (d + 1) mc0 ms0) (e := e) (below := below) (meth := meth) (s := s) (args := args) (m := m) (c := c) (p := p) (g := F0 m pc ls str) (As := as0') (b := b) (rest := r') (own := zon (zmo y)) (Ts := zB) (nL := zmL y) (cells := cells) (slots := slots) (locs := locs) (H := H) ⟨hx, hb, hml, hown, hts⟩ hM
        ⟨callB_of n9 hts (zws_good (zM_ok y' hy1 hy2)) ews rfl rfl (hts _ m1) (hts _ hlink) ⟨m2.1, m2.2, by rw [m3, hn]⟩ ⟨by show d + 30 + 1 ≤ d + 1 + 30; omega, zrm_loc m4⟩, hnmi, hts _ hinst⟩
        ⟨zPre_blind, fun U hU hW => zPre_at hK hSP w1 w2 w3 hA hU hW⟩ rfl hlen hlsz (by show str = _; rw [q3]; simp) (lv_room (by rw [zS_cs q2]; exact hcs)) hdg ⟨hc, hs⟩
    exact z_callW (len := 3) hrun w3 hA1 (fun v v' q H1 locs1 g1 g2 g3 => kk v v' q r' H1 locs1 g1 g2 q2 g3) (fun k q9 ce q H1 locs1 g1 g2 g3 g4 g5 => kx k q9 ce q r' H1 locs1 g1 q2 g2 g3 g4 g5)
  · have hrun := vx_runIN (R := zrm (d + 1) mc0 ms0) (e := e) (below := below) (meth := meth) (s := s) (args := args) (m := m) (c := c) (p := p) (g := F0 m pc ls str) (As := as0') (b := b) (rest := r') (own := zon (zmo y)) (Ts := zB) (nL := zmL y) (cells := cells) (slots := slots) (locs := locs) (H := H) ⟨hx, hb, hml, hown, hts⟩ hM
        ⟨va_cnB n9 hts (zws_good (zM_ok y' hy1 hy2)) ews rfl rfl (hSP.1 _ hlink) (hts _ m1) ⟨m2.1, m2.2, by rw [m3, hn]⟩ ⟨by show d + 30 + 1 ≤ d + 1 + 30; omega, zrm_loc m4⟩, hnmi, hts _ hinst⟩
        ⟨zPre_blind, fun U hU hW => zPre_at hK hSP w1 w2 w3 hA hU hW⟩ rfl hlen hlsz (by show str = _; rw [q3]; simp) (lv_room (by rw [zS_cs q2]; exact hcs)) hdg ⟨hc, hs⟩
    exact z_callW (len := 3) hrun w3 hA1 (fun v v' q H1 locs1 g1 g2 g3 => kk v v' q r' H1 locs1 g1 g2 q2 g3) (fun k q9 ce q H1 locs1 g1 g2 g3 g4 g5 => kx k q9 ce q r' H1 locs1 g1 q2 g2 g3 g4 g5)
end ZP
end zg3
section zg4
/-! Steps that neither call nor end. -/
def zis (o : Option zA) : Prop := ∀ q, ¬ o = some (.inr q)
theorem zis_n : zis none := fun q h => by cases h
theorem zis_go {pc : Nat} {L : zL} {st : List Value} {h : zH} : zis (zgo pc L st h) := fun q h => by cases h
theorem zis_l {x : Nat × zL × List Value × zH × Nat × Nat} : zis (some (.inl x)) := fun q h => by cases h
theorem zldI_is {L : zL} {i nx : Nat} {st : List Value} {h : zH} : zis (zldI L i nx st h) := by
  unfold zldI
  repeat' (first | exact zis_n | exact zis_go | exact zis_l | split)
theorem zldL_is {L : zL} {i nx : Nat} {st : List Value} {h : zH} : zis (zldL L i nx st h) := by
  unfold zldL
  repeat' (first | exact zis_n | exact zis_go | exact zis_l | split)
theorem zldD_is {L : zL} {i nx : Nat} {st : List Value} {h : zH} : zis (zldD L i nx st h) := by
  unfold zldD
  repeat' (first | exact zis_n | exact zis_go | exact zis_l | split)
theorem zldA_is {L : zL} {i nx : Nat} {st : List Value} {h : zH} : zis (zldA L i nx st h) := by
  unfold zldA
  repeat' (first | exact zis_n | exact zis_go | exact zis_l | split)
theorem zsv1_is {L : zL} {i nx : Nat} {v : Value} {st : List Value} {h : zH} : zis (zsv1 L i nx v st h) := by
  unfold zsv1
  repeat' (first | exact zis_n | exact zis_go | exact zis_l | split)
theorem zsv2_is {L : zL} {i nx : Nat} {v : Value} {st : List Value} {h : zH} : zis (zsv2 L i nx v st h) := by
  unfold zsv2
  repeat' (first | exact zis_n | exact zis_go | exact zis_l | exact zsv1_is | split)
theorem zsI_is {L : zL} {i nx : Nat} {st : List Value} {h : zH} : zis (zsI L i nx st h) := by
  unfold zsI
  repeat' (first | exact zis_n | exact zis_go | exact zis_l | exact zsv1_is | exact zsv2_is | split)
theorem zsA_is {L : zL} {i nx : Nat} {st : List Value} {h : zH} : zis (zsA L i nx st h) := by
  unfold zsA
  repeat' (first | exact zis_n | exact zis_go | exact zis_l | exact zsv1_is | exact zsv2_is | split)
theorem zsL_is {L : zL} {i nx : Nat} {st : List Value} {h : zH} : zis (zsL L i nx st h) := by
  unfold zsL
  repeat' (first | exact zis_n | exact zis_go | exact zis_l | exact zsv1_is | exact zsv2_is | split)
theorem zsD_is {L : zL} {i nx : Nat} {st : List Value} {h : zH} : zis (zsD L i nx st h) := by
  unfold zsD
  repeat' (first | exact zis_n | exact zis_go | exact zis_l | exact zsv1_is | exact zsv2_is | split)
theorem zinc_is {L : zL} {i nx : Nat} {n : Int} {st : List Value} {h : zH} : zis (zinc L i n nx st h) := by
  unfold zinc
  repeat' (first | exact zis_n | exact zis_go | exact zis_l | exact zsv1_is | exact zsv2_is | split)
theorem zpu_is {L : zL} {v : Value} {nx : Nat} {st : List Value} {h : zH} : zis (zpu L v nx st h) := zis_go
theorem zbin_is {f : Int32 → Int32 → Int32} {L : zL} {nx : Nat} {st : List Value} {h : zH} : zis (zbin f nx L st h) := by
  unfold zbin
  repeat' (first | exact zis_n | exact zis_go | exact zis_l | exact zsv1_is | exact zsv2_is | split)
theorem zdiv_is {f : Int32 → Int32 → Int32} {L : zL} {nx : Nat} {st : List Value} {h : zH} : zis (zdiv f nx L st h) := by
  unfold zdiv
  repeat' (first | exact zis_n | exact zis_go | exact zis_l | exact zsv1_is | exact zsv2_is | split)
theorem zun_is {f : Int32 → Value} {L : zL} {nx : Nat} {st : List Value} {h : zH} : zis (zun f nx L st h) := by
  unfold zun
  repeat' (first | exact zis_n | exact zis_go | exact zis_l | exact zsv1_is | exact zsv2_is | split)
theorem zbinL_is {f : Int64 → Int64 → Int64} {L : zL} {nx : Nat} {st : List Value} {h : zH} : zis (zbinL f nx L st h) := by
  unfold zbinL
  repeat' (first | exact zis_n | exact zis_go | exact zis_l | exact zsv1_is | exact zsv2_is | split)
theorem zlc_is {L : zL} {nx : Nat} {st : List Value} {h : zH} : zis (zlc nx L st h) := by
  unfold zlc
  repeat' (first | exact zis_n | exact zis_go | exact zis_l | exact zsv1_is | exact zsv2_is | split)
theorem zbinD_is {f : UInt64 → UInt64 → UInt64} {L : zL} {nx : Nat} {st : List Value} {h : zH} : zis (zbinD f nx L st h) := by
  unfold zbinD
  repeat' (first | exact zis_n | exact zis_go | exact zis_l | exact zsv1_is | exact zsv2_is | split)
theorem zd2l_is {L : zL} {nx : Nat} {st : List Value} {h : zH} : zis (zd2l nx L st h) := by
  unfold zd2l
  repeat' (first | exact zis_n | exact zis_go | exact zis_l | exact zsv1_is | exact zsv2_is | split)
theorem zdup_is {L : zL} {nx : Nat} {st : List Value} {h : zH} : zis (zdup nx L st h) := by
  unfold zdup
  repeat' (first | exact zis_n | exact zis_go | exact zis_l | exact zsv1_is | exact zsv2_is | split)
theorem zpop_is {L : zL} {nx : Nat} {st : List Value} {h : zH} : zis (zpop nx L st h) := by
  unfold zpop
  repeat' (first | exact zis_n | exact zis_go | exact zis_l | exact zsv1_is | exact zsv2_is | split)
theorem zpop2_is {L : zL} {nx : Nat} {st : List Value} {h : zH} : zis (zpop2 nx L st h) := by
  unfold zpop2
  repeat' (first | exact zis_n | exact zis_go | exact zis_l | exact zsv1_is | exact zsv2_is | split)
theorem zdupx1_is {L : zL} {nx : Nat} {st : List Value} {h : zH} : zis (zdupx1 nx L st h) := by
  unfold zdupx1
  repeat' (first | exact zis_n | exact zis_go | exact zis_l | exact zsv1_is | exact zsv2_is | split)
theorem zdup2_is {L : zL} {nx : Nat} {st : List Value} {h : zH} : zis (zdup2 nx L st h) := by
  unfold zdup2
  repeat' (first | exact zis_n | exact zis_go | exact zis_l | exact zsv1_is | exact zsv2_is | split)
theorem zaald_is {L : zL} {nx : Nat} {st : List Value} {h : zH} : zis (zaald nx L st h) := by
  unfold zaald
  repeat' (first | exact zis_n | exact zis_go | exact zis_l | exact zsv1_is | exact zsv2_is | split)
theorem zaast_is {L : zL} {nx : Nat} {st : List Value} {h : zH} : zis (zaast nx L st h) := by
  unfold zaast
  repeat' (first | exact zis_n | exact zis_go | exact zis_l | exact zsv1_is | exact zsv2_is | split)
theorem zmulti_is {L : zL} {nx : Nat} {st : List Value} {h : zH} : zis (zmulti nx L st h) := by
  unfold zmulti
  repeat' (first | exact zis_n | exact zis_go | exact zis_l | exact zsv1_is | exact zsv2_is | split)
theorem zcopy_is {L : zL} {nx : Nat} {st : List Value} {h : zH} : zis (zcopy nx L st h) := by
  unfold zcopy
  repeat' (first | exact zis_n | exact zis_go | exact zis_l | exact zsv1_is | exact zsv2_is | split)
theorem zoi_is {L : zL} {nx : Nat} {st : List Value} {h : zH} : zis (zoi nx L st h) := by
  unfold zoi
  repeat' (first | exact zis_n | exact zis_go | exact zis_l | exact zsv1_is | exact zsv2_is | split)
theorem zbr_is {c : ClassFile.Cond} {x y : Int32} {tg nx : Nat} {L : zL} {r : List Value} {h : zH} : zis (zbr c x y tg nx L r h) := by
  unfold zbr
  repeat' (first | exact zis_n | exact zis_go | exact zis_l | exact zsv1_is | exact zsv2_is | split)
theorem zif_is {c : ClassFile.Cond} {tg nx : Nat} {L : zL} {st : List Value} {h : zH} : zis (zif c tg nx L st h) := by
  unfold zif
  repeat' (first | exact zis_n | exact zis_go | exact zis_l | exact zsv1_is | exact zsv2_is | exact zbr_is | split)
theorem zicmp_is {c : ClassFile.Cond} {tg nx : Nat} {L : zL} {st : List Value} {h : zH} : zis (zicmp c tg nx L st h) := by
  unfold zicmp
  repeat' (first | exact zis_n | exact zis_go | exact zis_l | exact zsv1_is | exact zsv2_is | exact zbr_is | split)
theorem zoff_is {pc : Nat} {o : Int} {L : zL} {r : List Value} {h : zH} : zis (zoff pc o L r h) := by
  unfold zoff
  repeat' (first | exact zis_n | exact zis_go | exact zis_l | exact zsv1_is | exact zsv2_is | exact zbr_is | split)
theorem ztab_is {pc : Nat} {d lo hi : Int} {offs : Array Int} {L : zL} {st : List Value} {h : zH} : zis (ztab pc d lo hi offs L st h) := by
  unfold ztab
  repeat' (first | exact zis_n | exact zis_go | exact zis_l | exact zsv1_is | exact zsv2_is | exact zbr_is | exact zoff_is | split)
theorem zlook_is {pc : Nat} {d : Int} {ps : Array (Int × Int)} {L : zL} {st : List Value} {h : zH} : zis (zlook pc d ps L st h) := by
  unfold zlook
  repeat' (first | exact zis_n | exact zis_go | exact zis_l | exact zsv1_is | exact zsv2_is | exact zbr_is | exact zoff_is | split)
theorem zald_is {t nx : Nat} {L : zL} {st : List Value} {h : zH} : zis (zald t nx L st h) := by
  unfold zald
  repeat' (first | exact zis_n | exact zis_go | exact zis_l | exact zsv1_is | exact zsv2_is | exact zbr_is | exact zoff_is | split)
theorem zast_is {t : Nat} {g : Int32 → Option Int32} {nx : Nat} {L : zL} {st : List Value} {h : zH} : zis (zast t g nx L st h) := by
  unfold zast
  repeat' (first | exact zis_n | exact zis_go | exact zis_l | exact zsv1_is | exact zsv2_is | exact zbr_is | exact zoff_is | exact zald_is | split)
theorem zialoadX_is {xs : List Int32} {nx : Nat} {L : zL} {st : List Value} {h : zH} : zis (zialoadX xs nx L st h) := by
  unfold zialoadX
  repeat' (first | exact zis_n | exact zis_go | exact zis_l | exact zsv1_is | exact zsv2_is | exact zbr_is | exact zoff_is | exact zald_is | split)
theorem zalen_is {xs : List Int32} {nx : Nat} {L : zL} {st : List Value} {h : zH} : zis (zalen xs nx L st h) := by
  unfold zalen
  repeat' (first | exact zis_n | exact zis_go | exact zis_l | exact zsv1_is | exact zsv2_is | exact zbr_is | exact zoff_is | exact zald_is | split)
theorem zchk_is {k nx : Nat} {L : zL} {st : List Value} {h : zH} : zis (zchk k nx L st h) := by
  unfold zchk
  repeat' (first | exact zis_n | exact zis_go | exact zis_l | split)
theorem zacmp_is {c : ACond} {tg nx : Nat} {L : zL} {st : List Value} {h : zH} : zis (zacmp c tg nx L st h) := by
  unfold zacmp
  repeat' (first | exact zis_n | exact zis_go | exact zis_l | split)
theorem zgetc_is {nx : Nat} {L : zL} {st : List Value} {h : zH} : zis (zgetc nx L st h) := by
  unfold zgetc
  repeat' (first | exact zis_n | exact zis_go | exact zis_l | split)
theorem znewa_is {t : Nat} {v : Value} {nx : Nat} {L : zL} {st : List Value} {h : zH} : zis (znewa t v nx L st h) := by
  unfold znewa
  repeat' (first | exact zis_n | exact zis_go | exact zis_l | exact zsv1_is | exact zsv2_is | exact zbr_is | exact zoff_is | exact zald_is | split)
theorem zget_is {cf : Nat → List (Nat × Nat)} {f k nx : Nat} {L : zL} {st : List Value} {h : zH} : zis (zget cf f k nx L st h) := by
  unfold zget
  repeat' (first | exact zis_n | exact zis_go | exact zis_l | exact zsv1_is | exact zsv2_is | exact zbr_is | exact zoff_is | exact zald_is | split)
theorem zput_is {cf : Nat → List (Nat × Nat)} {f k nx : Nat} {L : zL} {st : List Value} {h : zH} : zis (zput cf f k nx L st h) := by
  unfold zput
  repeat' (first | exact zis_n | exact zis_go | exact zis_l | exact zsv1_is | exact zsv2_is | exact zbr_is | exact zoff_is | exact zald_is | split)
theorem znew_is {cf : Nat → List (Nat × Nat)} {c nx : Nat} {L : zL} {st : List Value} {h : zH} : zis (znew cf c nx L st h) := zis_l
theorem zmm_is {f : Int32 → Int32 → Int32} {nx : Nat} {L : zL} {st : List Value} {h : zH} : zis (zmm f nx L st h) := by
  unfold zmm
  repeat' (first | exact zis_n | exact zis_go | exact zis_l | exact zsv1_is | exact zsv2_is | exact zbr_is | exact zoff_is | exact zald_is | split)
def znj (i : Instr) : Bool := match i with
  | .invokestatic _ => false
  | .invokevirtual _ => false
  | .invokeinterface _ _ => false
  | .invokespecial _ => false
  | .ireturn => false
  | .lreturn => false
  | .dreturn => false
  | .areturn => false
  | .return_ => false
  | .new _ => false
  | _ => true
theorem zis_ok {cf : Nat → List (Nat × Nat)} {xs : List Int32} {pc nx k y n c : Nat} {i : Instr} {L : zL} {st : List Value} {h : zH} (hi : znj i = true) : zis (zstep cf xs pc i nx k y n c L st h) := by
  cases i <;> first | exact zis_n | exact zis_go | exact zldI_is | exact zldL_is | exact zldD_is | exact zldA_is | exact zsI_is | exact zsA_is | exact zsL_is | exact zsD_is | exact zinc_is | exact zpu_is | exact zbin_is | exact zdiv_is | exact zun_is | exact zbinL_is | exact zlc_is | exact zbinD_is | exact zd2l_is | exact zdup_is | exact zpop_is | exact zpop2_is | exact zdupx1_is | exact zdup2_is | exact zaald_is | exact zaast_is | exact zmulti_is | exact zif_is | exact zicmp_is | exact ztab_is | exact zlook_is | exact zast_is | exact zialoadX_is | exact zalen_is | exact znewa_is | exact zget_is | exact zput_is | exact znew_is | exact zald_is | exact zchk_is | exact zacmp_is | (cases hi; done) | exact zast_is | (unfold zstep; dsimp only; repeat' (first | exact zast_is | exact zpu_is | exact zis_n | split))
theorem zcallI_nx {n y nx : Nat} {st : List Value} {q : (Option Value ⊕ Nat) × Nat × Nat} : ¬ zcallI n y nx st = some (.inr (.inr q)) := by
  intro h
  unfold zcallI at h
  repeat' (first | (cases h; done) | split at h)
theorem zcallV_nx {n c y nx : Nat} {st : List Value} {h : zH} {q : (Option Value ⊕ Nat) × Nat × Nat} : ¬ zcallV n c y nx st h = some (.inr (.inr q)) := by
  intro h
  unfold zcallV at h
  repeat' (first | (cases h; done) | split at h)
theorem zcall_nx {n y nx : Nat} {st : List Value} {q : (Option Value ⊕ Nat) × Nat × Nat} : ¬ zcall n y nx st = some (.inr (.inr q)) := by
  intro h
  unfold zcall at h
  repeat' (first | (cases h; done) | split at h)
end zg4
section zg5
theorem zcallV_sp {n c y nx y' nx' : Nat} {st as rr : List Value} {h : zH} (hs : zcallV n c y nx st h = some (.inr (.inl (y', as, rr, nx')))) : ∃ (a : Nat) (as1 : List Value) (vs : List Value), as = .ref a :: as1 ∧ ztk (n + 1) [] st = some (.ref a :: as1, rr) ∧ h[a]? = some (c, vs) ∧ zcs rr ≤ 8 ∧ nx' = nx ∧ y = y' := by
  unfold zcallV at hs
  split at hs
  · next as0 r0 hpop =>
    split at hs
    · next a as1 =>
      split at hs
      · next c' vs hc =>
        split at hs
        · next e =>
          subst e
          split at hs
          · next hcs =>
            cases hs
            exact ⟨a, as1, vs, rfl, hpop, hc, hcs, rfl, rfl⟩
          · cases hs
        · cases hs
      · cases hs
    · cases hs
  · cases hs
theorem zcallI_sp {n y nx y' nx' : Nat} {st as rr : List Value} (hs : zcallI n y nx st = some (.inr (.inl (y', as, rr, nx')))) : ∃ (a : Nat) (as1 : List Value), as = .ref a :: as1 ∧ ztk (n + 1) [] st = some (.ref a :: as1, rr) ∧ zcs rr ≤ 8 ∧ nx' = nx ∧ y = y' := by
  unfold zcallI at hs
  split at hs
  · next as0 r0 hpop =>
    split at hs
    · next a as1 =>
      split at hs
      · next hcs =>
        cases hs
        exact ⟨a, as1, rfl, hpop, hcs, rfl, rfl⟩
      · cases hs
    · cases hs
  · cases hs

/-- whatever the kind of call -/
theorem z_call_ok {p : Program} {l : Launch} {e : Env} {s : State} {m : MethodId} {args : Array Value} {below : List Frame} {meth : Method} {c : Code} {H : Heap} {locs : List Loc} {cells slots : Nat} {Q : State → Prop} {xs : List Int32} {sp : Nat → Nat} {ty : Nat → ClassId} {D : va_G} {A : Nat → Prop} {ads : List Nat}
    {n d y y' pc nx nx' k yy n9 c9 mc0 ms0 : Nat} {i : Instr} {L L0 : zL} {st as rr str : List Value} {h h1 : zH} {ls : Array Slot} {r : Option Value ⊕ Nat} {nc ns nc1 ns1 : Nat}
    (IH : zIH xs n) (hl9 : l.stackTraces = false) (hX : zX xs sp ty D A y p (zrm (d + 1) mc0 ms0) s m args meth c) (hr : zrok y (pc, i, nx, k, yy, n9, c9) = true) (hst : zstep zcf xs pc i nx k yy n9 c9 L st h = some (.inr (.inl (y', as, rr, nx')))) (hen : zen (zmL y') as = some L0) (hev : zev xs n d y' 0 L0 [] h nc ns = some (r, h1, nc1, ns1))
    (I : zR sp ty D A s.heap (zmL y) ads L st h ls str H locs) (hc : cells + (nc1 - nc) ≤ mc0) (hs : slots + (ns1 - ns) ≤ ms0)
    (kk : ∀ (v v' : Option Value) (q : List Nat) (r' : List Value) (H1 : Heap) (locs1 : List Loc), r = .inl v → zVo sp (ads ++ q) v v' → zS sp ads rr r' → zW sp ty D A s.heap (ads ++ q) h1 H1 locs1 → W p l e (zrm (d + 1) mc0 ms0) s m args below meth c H1 locs1 (cells + (nc1 - nc)) (slots + (ns1 - ns)) Q (F0 m nx' ls (v'.toList ++ r')))
    (kx : ∀ (k q9 : Nat) (ce : Cell) (q : List Nat) (r' : List Value) (H1 : Heap) (locs1 : List Loc), r = .inr k → zS sp ads rr r' → zW sp ty D A s.heap (ads ++ q) h1 H1 locs1 → H1[q9]? = some ce → ce.vm = .none → s.vm.findClass (zEn k) = some ce.cls → vx_W p l e (zrm (d + 1) mc0 ms0) s m args below meth c H1 locs1 (cells + (nc1 - nc)) (slots + (ns1 - ns)) Q (F0 m pc ls r') q9) :
    W p l e (zrm (d + 1) mc0 ms0) s m args below meth c H locs cells slots Q (F0 m pc ls str) := by
  cases i with
  | invokestatic j =>
    obtain ⟨hd, e, hl⟩ := zrok1 hr (Nat.succ_ne_zero _)
    have hst : (if k = 10 then zcopy nx L st h else if k = 12 then zmm (fun x y => if x < y then y else x) nx L st h else if k = 13 then zmm (fun x y => if y < x then y else x) nx L st h else zcall n9 yy nx st) = some (.inr (.inl (y', as, rr, nx'))) := hst
    have hl : (if k = 12 ∨ k = 13 then decide ((zmo y, j, k) ∈ zXL) else if k = 10 then decide (zon (zmo y) = "java/util/Arrays" ∧ j = 150) else (decide ((zmo y, j, yy) ∈ zSL) && decide (yy < 247) && decide (yy ≠ zlaw) && decide (zmp yy = n9))) = true := hl
    by_cases h10 : k = 10
    · rw [if_pos h10] at hst
      exact absurd hst (zcopy_is _)
    · rw [if_neg h10] at hst
      by_cases h12 : k = 12
      · rw [if_pos h12] at hst
        exact absurd hst (zmm_is _)
      · rw [if_neg h12] at hst
        by_cases h13 : k = 13
        · rw [if_pos h13] at hst
          exact absurd hst (zmm_is _)
        · rw [if_neg h13] at hst
          rw [if_neg (by omega), if_neg h10] at hl
          simp only [Bool.and_eq_true, decide_eq_true_eq] at hl
          unfold zcall at hst
          split at hst
          · next as1 rr1 hpop =>
            split at hst
            · next hcs =>
              cases hst
              have e : nx = pc + 3 := e
              subst e
              exact z_callS IH hl9 hX (zSL_ok _ hl.1.1.1) hl.1.1.2 hl.1.2 hd hl.2 hpop hcs hen hev I hc hs kk kx
            · cases hst
          · cases hst
  | invokevirtual j =>
    obtain ⟨hd, e, hl⟩ := zrok1 hr (Nat.succ_ne_zero _)
    have hst : (if k = 11 then zgetc nx L st h else zcallV n9 c9 yy nx st h) = some (.inr (.inl (y', as, rr, nx'))) := hst
    have hl : (if k = 11 then decide (zon (zmo y) = "java/util/Arrays" ∧ j = 86) else (if k = 6 then decide ((zmo y, j, yy, c9) ∈ zUL) else decide ((zmo y, j, yy, c9) ∈ zVL)) && decide (yy < 247) && decide (yy ≠ zlaw) && decide (zmp yy = n9) && decide (c9 < 11) && decide (zmh yy = [])) = true := hl
    by_cases h11 : k = 11
    · rw [if_pos h11] at hst
      exact absurd hst (zgetc_is _)
    · rw [if_neg h11] at hst hl
      simp only [Bool.and_eq_true, decide_eq_true_eq] at hl
      obtain ⟨a, as1, vs, q1, q2, q3, q4, q5, q6⟩ := zcallV_sp hst
      subst q1; subst q6
      have e : nx' = pc + 3 := by rw [q5]; exact e
      subst e
      have hl1 := hl.1.1.1.1.1
      by_cases h6 : k = 6
      · rw [if_pos h6] at hl1
        exact z_callU IH hl9 hX hl.1.2 (zUL_ok _ (of_decide_eq_true hl1)) hl.2 hl.1.1.1.1.2 hl.1.1.1.2 hd hl.1.1.2 q2 rfl q3 q4 hen hev I hc hs kk kx
      · rw [if_neg h6] at hl1
        exact z_callV IH hl9 hX hl.1.2 (zVL_ok _ (of_decide_eq_true hl1)) hl.2 hl.1.1.1.1.2 hl.1.1.1.2 hd hl.1.1.2 q2 rfl q3 q4 hen hev I hc hs kk kx
  | invokespecial j =>
    obtain ⟨hd, e, hl⟩ := zrok1 hr (Nat.succ_ne_zero _)
    have hst : (if k = 8 then zoi nx L st h else if k = 7 then zcallV n9 c9 yy nx st h else zcallI n9 yy nx st) = some (.inr (.inl (y', as, rr, nx'))) := hst
    have hl : (if k = 8 then decide ((zmo y, j) ∈ zOL) else if k = 7 then decide ((zmo y, j, yy, c9) ∈ zGL) && decide (yy < 247) && decide (yy ≠ zlaw) && decide (zmp yy = n9) && decide (c9 < 11) && decide (zmh yy = []) else decide ((zmo y, j, yy) ∈ zIL) && decide (yy < 247) && decide (yy ≠ zlaw) && decide (zmp yy = n9) && decide (zmh yy = []) && decide (zmr yy = none)) = true := hl
    by_cases h8 : k = 8
    · rw [if_pos h8] at hst
      exact absurd hst (zoi_is _)
    · rw [if_neg h8] at hst hl
      by_cases h7 : k = 7
      · rw [if_pos h7] at hst hl
        simp only [Bool.and_eq_true, decide_eq_true_eq] at hl
        obtain ⟨a, as1, vs, q1, q2, q3, q4, q5, q6⟩ := zcallV_sp hst
        subst q1; subst q6
        have e : nx' = pc + 3 := by rw [q5]; exact e
        subst e
        exact z_callG IH hl9 hX hl.1.2 (zGL_ok _ hl.1.1.1.1.1) hl.2 hl.1.1.1.1.2 hl.1.1.1.2 hd hl.1.1.2 q2 rfl q3 q4 hen hev I hc hs kk kx
      · rw [if_neg h7] at hst hl
        simp only [Bool.and_eq_true, decide_eq_true_eq] at hl
        obtain ⟨a, as1, q1, q2, q4, q5, q6⟩ := zcallI_sp hst
        subst q1; subst q6
        have e : nx' = pc + 3 := by rw [q5]; exact e
        subst e
        exact z_callI IH hl9 hX (zIL_ok _ hl.1.1.1.1.1) hl.1.2 hl.2 hl.1.1.1.1.2 hl.1.1.1.2 hd hl.1.1.2 q2 rfl q4 hen hev I hc hs kk kx
  | invokeinterface j q =>
    obtain ⟨hd, e, hl⟩ := zrok1 hr (Nat.succ_ne_zero _)
    have hst : zcallV n9 c9 yy nx st h = some (.inr (.inl (y', as, rr, nx'))) := hst
    have hl : (decide ((zmo y, j, yy) ∈ zNL) && decide (yy < 247) && decide (yy ≠ zlaw) && decide (zmp yy = n9) && decide (c9 = 10) && decide (zmh yy = [])) = true := hl
    simp only [Bool.and_eq_true, decide_eq_true_eq] at hl
    obtain ⟨a, as1, vs, q1, q2, q3, q4, q5, q6⟩ := zcallV_sp hst
    subst q1; subst q6
    have e : nx' = pc + 5 := by rw [q5]; exact e
    subst e
    have h10 := hl.1.2
    subst h10
    exact z_callF IH hl9 hX (by decide) (by decide +kernel) (zNL_ok _ hl.1.1.1.1.1) hl.2 hl.1.1.1.1.2 hl.1.1.1.2 hd hl.1.1.2 q2 rfl q3 q4 hen hev I hc hs kk kx
  | ireturn =>
    exfalso
    replace hst : (match st with
      | [.int v] => if k = 0 ∨ (k = 1 ∧ (v = 0 ∨ v = 1)) ∨ (k = 2 ∧ 0 ≤ v ∧ v ≤ 255) then zret (some (.int v)) else none
      | _ => none) = some (.inr (.inl (y', as, rr, nx'))) := hst
    repeat' (first | (cases hst; done) | split at hst)
  | lreturn =>
    exfalso
    replace hst : (match st with
      | [.long v] => zret (some (.long v))
      | _ => none) = some (.inr (.inl (y', as, rr, nx'))) := hst
    repeat' (first | (cases hst; done) | split at hst)
  | dreturn =>
    exfalso
    replace hst : (match st with
      | [.double v] => zret (some (.double v))
      | _ => none) = some (.inr (.inl (y', as, rr, nx'))) := hst
    repeat' (first | (cases hst; done) | split at hst)
  | areturn =>
    exfalso
    replace hst : (match st with
      | [.ref v] => zret (some (.ref v))
      | [.retAddr v] => zret (some (.retAddr v))
      | _ => none) = some (.inr (.inl (y', as, rr, nx'))) := hst
    repeat' (first | (cases hst; done) | split at hst)
  | return_ =>
    exfalso
    replace hst : (match st with
      | [] => zret none
      | _ => none) = some (.inr (.inl (y', as, rr, nx'))) := hst
    repeat' (first | (cases hst; done) | split at hst)
  | new j =>
    exfalso
    replace hst : (if k = 9 then (if zcs st ≤ 8 then some (.inr (.inr (.inr yy, 1, 6))) else none) else znew zcf c9 nx L st h) = some (.inr (.inl (y', as, rr, nx'))) := hst
    split at hst
    · split at hst <;> cases hst
    · exact znew_is _ hst
  | _ => exact absurd hst (zis_ok rfl _)

end zg5
section zg6
theorem zchr {v : Int32} (h1 : 0 ≤ v) (h2 : v ≤ 255) : narrow .char (.int v) = .int v := by
  obtain ⟨j, hj, rfl⟩ := nI_of2 (M := 255) (n := 255) (by decide) (Int32.not_lt.mpr h1) h2
  exact (pk_charN (by omega)).1
section ZE
variable {p : Program} {l : Launch} {e : Env} {s : State} {m : MethodId} {args : Array Value} {below : List Frame} {meth : Method} {c : Code} {H : Heap} {locs : List Loc} {cells slots : Nat}
variable {xs : List Int32} {sp : Nat → Nat} {ty : Nat → ClassId} {D : va_G} {A : Nat → Prop} {ads ads0 : List Nat}
variable {d y pc mc0 ms0 : Nat} {L : zL} {st str : List Value} {h h' : zH} {ls : Array Slot} {r : Option Value ⊕ Nat}
theorem zW_end {t : State} (I3 : zW sp ty D A s.heap ads h H locs) (ht : t.heap = H) : zEnd sp ty D A ads h t ∧ va_F A s t ∧ ∀ q ∈ locs, A q.base := by
  obtain ⟨ws, w1, w2, w3, w4, w5, w6⟩ := I3
  exact ⟨⟨ws, by rw [ht]; exact w1, w2, w4, w5, w6⟩, w3.F ht, w3.2.2⟩
theorem z_retv {v v' : Option Value} (I3 : zW sp ty D A s.heap ads h H locs) (hpre : ∃ q0, ads = ads0 ++ q0) (hv : zVo sp ads v v') {t : State} (ht : t.heap = H) : zQc sp ty D A ads0 (.inl v) h args s (.returned v') t := by
  obtain ⟨q0, rfl⟩ := hpre
  obtain ⟨g1, g2, -⟩ := zW_end (s := s) (t := t) I3 ht
  exact ⟨⟨v, v', q0, rfl, rfl, hv, g1⟩, g2⟩
theorem zW_locs (I3 : zW sp ty D A s.heap ads h H locs) : ∀ q ∈ locs, A q.base := by
  obtain ⟨ws, w1, w2, w3, -⟩ := I3
  exact w3.2.2
theorem z_throw {ik E : Nat} (hl9 : l.stackTraces = false) (hX : zX xs sp ty D A y p (zrm d mc0 ms0) s m args meth c) (hts9 : zTok (y, pc, ik, E)) (hdg : decode (zmb y) pc = .ok (.new ik, 3)) (htab : ∀ x ∈ c.exceptionTable.toList, False) (I : zR sp ty D A s.heap (zmL y) ads L st h ls str H locs) (hpre : ∃ q0, ads = ads0 ++ q0) (hcs : zcs st ≤ 8) (hc : cells + 1 ≤ mc0) (hs : slots + 6 ≤ ms0) :
    W p l e (zrm d mc0 ms0) s m args below meth c H locs cells slots (vx_MQ below (zQc sp ty D A ads0 (.inr E) h) (zXC sp ty D A ads0 (.inr E) h) args s mc0 ms0 A) (F0 m pc ls str) := by
  obtain ⟨hx, hb, hml, hret, hlk, hown, hnm, hts, hK, hA, hSP, hRf, hRl⟩ := hX
  obtain ⟨I1, I2, I3⟩ := I
  have hlsz : ls.size = c.maxLocals := by
    obtain ⟨-, lv, hlv, -⟩ := I1
    rw [hml, hlv.1]
  obtain ⟨is9, ic, tx, t1, t2, t3, t4, t5, t6, t7⟩ := hts9
  obtain ⟨sa, hsa⟩ := hSP.2.2.1 _ t3
  have hS : va_S A s.heap H locs := by obtain ⟨ws, w1, w2, w3, -⟩ := id I3; exact w3
  have hgood : ∀ w ∈ Jvm.Cond.classLink (zon (zmo y)) ik (zEn E) :: Jvm.Cond.initialized (zEn E) :: vx_atS (zon (zmo y)) ic (zEn E) zTn, vx_ot w = true := by
    intro w hw
    have hB : w ∈ zB ∨ w ∈ zN2 := by
      rcases List.mem_cons.mp hw with rfl | hw
      · exact Or.inl t1
      · rcases List.mem_cons.mp hw with rfl | hw
        · exact Or.inl t2
        · exact t4 w hw
    unfold vx_ot
    rcases hB with hB | hB
    · rw [zB_gw hB, Bool.or_true]
    · rw [zN2_on w hB, Bool.true_or]
  have hat : ∀ w ∈ vx_atS (zon (zmo y)) ic (zEn E) zTn, w.before args s = true := fun w hw => (t4 w hw).elim (fun g => hts _ g) (fun g => va_Nw.use (zN2_on w g) (hSP.2.2.2.2.1 w g))
  have hX9 : ∀ t : State, s.vm.Alike t.vm → H.size ≤ t.heap.size → (∀ q : Nat, q < H.size → t.heap[q]? = H[q]?) → zXC sp ty D A ads0 (.inr E) h (zEn E) s t := by
    intro t hvm hz hk
    obtain ⟨q0, rfl⟩ := hpre
    obtain ⟨ws, w1, w2, w3, w4, w5, w6⟩ := I3
    refine ⟨⟨E, q0, rfl, rfl, ⟨ws, w1.kept (fun k q hq => hk q.1 ((w1 k q hq).lt)), w2, w4, w5, w6⟩⟩, Nat.le_trans w3.1 hz, fun q h1 h2 => ?_⟩
    rw [hk q (Nat.lt_of_lt_of_le h1 w3.1)]
    exact w3.2.1 q h1 h2
  have hout : ∀ (z : Nat), ∀ x ∈ c.exceptionTable.toList, covers x z = false := fun z x hx => (htab x hx).elim
  have hcs2 : (str.map fun v => v.category).sum + (13 * (zTn.length + 1) + 43) ≤ 40 * d + 3280 := by
    rw [zS_cs I2]
    show zcs st + (13 * (2 + 1) + 43) ≤ _
    omega
  rcases t6 with ⟨g4, g6, g9⟩ | ⟨g4, g7, g10⟩
  · exact vx_throwS hx hb hl9 hown t7 zTn_fit (hts _ t1) (hts _ t2) hsa hat hgood hSP.2.1.1 hSP.2.1.2 hS hlsz hdg t5 g4 g6 g9 (hout _) (by show 2 + 3 < d + 30; omega) hcs2 hc hs hlk hX9 (zW_locs I3) hc hs
  · exact vx_throwSW hx hb hl9 hown t7 zTn_fit (hts _ t1) (hts _ t2) hsa hat hgood hSP.2.1.1 hSP.2.1.2 hS hlsz hdg t5 g4 g7 g10 (hout _) (by show 2 + 3 < d + 30; omega) hcs2 hc hs hlk hX9 (zW_locs I3) hc hs
theorem z_end_ok {i : Instr} {nx k yy n9 c9 dc ds : Nat} (hl9 : l.stackTraces = false) (hX : zX xs sp ty D A y p (zrm d mc0 ms0) s m args meth c) (hr : zrok y (pc, i, nx, k, yy, n9, c9) = true) (hs : zstep zcf xs pc i nx k yy n9 c9 L st h = some (.inr (.inr (r, dc, ds)))) (htab : zmh y = [] → ∀ x ∈ c.exceptionTable.toList, False) (I : zR sp ty D A s.heap (zmL y) ads L st h ls str H locs) (hpre : ∃ q0, ads = ads0 ++ q0) (hc : cells + dc ≤ mc0) (hsl : slots + ds ≤ ms0) :
    W p l e (zrm d mc0 ms0) s m args below meth c H locs cells slots (vx_MQ below (zQc sp ty D A ads0 r h) (zXC sp ty D A ads0 r h) args s mc0 ms0 A) (F0 m pc ls str) := by
  have hX0 := hX
  have I0 := I
  obtain ⟨hx, hb, hml, hret, hlk, hown, hnm, hts, hK, hA, hSP, hRf, hRl⟩ := hX
  obtain ⟨I1, I2, I3⟩ := I
  cases i with
  | ireturn =>
    obtain ⟨hd, -, hl⟩ := zrok1 hr (Nat.succ_ne_zero _)
    replace hs : (match st with
      | [.int v] => if k = 0 ∨ (k = 1 ∧ (v = 0 ∨ v = 1)) ∨ (k = 2 ∧ 0 ≤ v ∧ v ≤ 255) then zret (some (.int v)) else none
      | _ => none) = some (.inr (.inr (r, dc, ds))) := hs
    have hl : (decide (k = 0 ∧ zmr y = some .int) || decide (k = 1 ∧ zmr y = some .boolean) || decide (k = 2 ∧ zmr y = some .char)) = true := hl
    simp only [Bool.or_eq_true, decide_eq_true_eq] at hl
    split at hs
    · next v =>
      split at hs
      · next hk =>
        cases (show some (Sum.inr (Sum.inr (Sum.inl (some (Value.int v)), 0, 0))) = some (Sum.inr (Sum.inr (r, dc, ds))) from hs)
        obtain ⟨_, _, rfl, hv, hr9⟩ := I2
        cases (show _ = Value.int _ from hv)
        cases (show _ = [] from hr9)
        have key : ∃ t9, zmr y = some t9 ∧ narrow t9 (.int v) = .int v := by
          rcases hl with (⟨e1, e2⟩ | ⟨e1, e2⟩) | ⟨e1, e2⟩
          · exact ⟨_, e2, rfl⟩
          · refine ⟨_, e2, ?_⟩
            rcases hk with hk | ⟨-, rfl | rfl⟩ | ⟨hk, -⟩
            · omega
            · rfl
            · rfl
            · omega
          · refine ⟨_, e2, ?_⟩
            rcases hk with hk | ⟨hk, -⟩ | ⟨-, h1, h2⟩
            · omega
            · omega
            · exact zchr h1 h2
        obtain ⟨t9, e1, e2⟩ := key
        exact vx_ret (W.widen hc hsl (W.zret hx hb (hret.trans e1) e2 (fun t ht hW => z_retv I3 hpre (v := some (.int v)) (v' := some (.int v)) ⟨_, rfl, rfl⟩ ht) (zW_locs I3) hd (hlocks := hlk)))
      · cases hs
    · cases hs
  | lreturn =>
    obtain ⟨hd, -, hl⟩ := zrok1 hr (Nat.succ_ne_zero _)
    have hl := of_decide_eq_true (show decide (zmr y = some .long) = true from hl)
    replace hs : (match st with
      | [.long v] => zret (some (.long v))
      | _ => none) = some (.inr (.inr (r, dc, ds))) := hs
    split at hs
    · next v =>
      cases (show some (Sum.inr (Sum.inr (Sum.inl (some (Value.long v)), 0, 0))) = some (Sum.inr (Sum.inr (r, dc, ds))) from hs)
      obtain ⟨_, _, rfl, hv, hr9⟩ := I2
      cases (show _ = Value.long _ from hv)
      cases (show _ = [] from hr9)
      exact vx_ret (W.widen hc hsl (W.lret hx hb (hret.trans hl) (fun t ht hW => z_retv I3 hpre (v := some (.long v)) (v' := some (.long v)) ⟨_, rfl, rfl⟩ ht) (zW_locs I3) hd (hlocks := hlk)))
    · cases hs
  | dreturn =>
    obtain ⟨hd, -, hl⟩ := zrok1 hr (Nat.succ_ne_zero _)
    have hl := of_decide_eq_true (show decide (zmr y = some .double) = true from hl)
    replace hs : (match st with
      | [.double v] => zret (some (.double v))
      | _ => none) = some (.inr (.inr (r, dc, ds))) := hs
    split at hs
    · next v =>
      cases (show some (Sum.inr (Sum.inr (Sum.inl (some (Value.double v)), 0, 0))) = some (Sum.inr (Sum.inr (r, dc, ds))) from hs)
      obtain ⟨_, _, rfl, hv, hr9⟩ := I2
      cases (show _ = Value.double _ from hv)
      cases (show _ = [] from hr9)
      exact vx_ret (W.widen hc hsl (W.dret hx hb (hret.trans hl) (fun t ht hW => z_retv I3 hpre (v := some (.double v)) (v' := some (.double v)) ⟨_, rfl, rfl⟩ ht) (zW_locs I3) hd (hlocks := hlk)))
    · cases hs
  | areturn =>
    obtain ⟨hd, -, hl⟩ := zrok1 hr (Nat.succ_ne_zero _)
    have hl : (match zmr y with
      | some (.object _) => true
      | some (.array _) => true
      | _ => false) = true := hl
    replace hs : (match st with
      | [.ref v] => zret (some (.ref v))
      | [.retAddr v] => zret (some (.retAddr v))
      | _ => none) = some (.inr (.inr (r, dc, ds))) := hs
    have key : ∃ rt, zmr y = some rt ∧ ((∃ n, rt = .object n) ∨ ∃ t, rt = .array t) := by
      split at hl
      · next n e9 => exact ⟨_, e9, Or.inl ⟨_, rfl⟩⟩
      · next n e9 => exact ⟨_, e9, Or.inr ⟨_, rfl⟩⟩
      · cases hl
    obtain ⟨rt, e1, e2⟩ := key
    split at hs
    · next v =>
      cases (show some (Sum.inr (Sum.inr (Sum.inl (some (Value.ref v)), 0, 0))) = some (Sum.inr (Sum.inr (r, dc, ds))) from hs)
      obtain ⟨_, _, rfl, hv, hr9⟩ := I2
      cases (show _ = [] from hr9)
      obtain ⟨a, -, rfl⟩ := id hv
      exact vx_ret (W.widen hc hsl (W.aret hx hb (hret.trans e1) e2 (Or.inr ⟨_, rfl⟩) (fun t ht hW => z_retv I3 hpre (v := some (.ref v)) (v' := some (.ref a)) ⟨_, rfl, hv⟩ ht) (zW_locs I3) hd (hlocks := hlk)))
    · next v =>
      cases (show some (Sum.inr (Sum.inr (Sum.inl (some (Value.retAddr v)), 0, 0))) = some (Sum.inr (Sum.inr (r, dc, ds))) from hs)
      obtain ⟨_, _, rfl, hv, hr9⟩ := I2
      cases (show _ = [] from hr9)
      obtain ⟨-, rfl⟩ := id hv
      exact vx_ret (W.widen hc hsl (W.aret hx hb (hret.trans e1) e2 (Or.inr ⟨_, rfl⟩) (fun t ht hW => z_retv I3 hpre (v := some (.retAddr v)) (v' := some (.ref (sp v))) ⟨_, rfl, hv⟩ ht) (zW_locs I3) hd (hlocks := hlk)))
    · cases hs
  | return_ =>
    obtain ⟨hd, -, hl⟩ := zrok1 hr (Nat.succ_ne_zero _)
    have hl := of_decide_eq_true (show decide (zmr y = none) = true from hl)
    replace hs : (match st with
      | [] => zret none
      | _ => none) = some (.inr (.inr (r, dc, ds))) := hs
    split at hs
    · cases (show some (Sum.inr (Sum.inr (Sum.inl (none : Option Value), 0, 0))) = some (Sum.inr (Sum.inr (r, dc, ds))) from hs)
      cases (show _ = [] from I2)
      exact vx_ret (W.widen hc hsl (W.vret hx hb (hret.trans hl) (fun t ht hW => z_retv I3 hpre (v := none) (v' := none) rfl ht) (zW_locs I3) hd (hlocks := hlk)))
    · cases hs
  | new j =>
    obtain ⟨hd, -, hl⟩ := zrok1 hr (Nat.succ_ne_zero _)
    replace hs : (if k = 9 then (if zcs st ≤ 8 then some (.inr (.inr (.inr yy, 1, 6))) else none) else znew zcf c9 nx L st h) = some (.inr (.inr (r, dc, ds))) := hs
    have hl : ((decide (k = 9) && decide ((y, pc, j, yy) ∈ zTL) && decide (zmh y = [])) || (decide (k ≠ 9) && decide ((zmo y, j, c9) ∈ zCL) && decide (c9 < 11))) = true := hl
    simp only [Bool.and_eq_true, Bool.or_eq_true, decide_eq_true_eq] at hl
    split at hs
    · next hk9 =>
      split at hs
      · next hcs =>
        cases hs
        have hl := hl.resolve_right (fun q => q.1.1 hk9)
        exact z_throw hl9 hX0 (zTL_ok _ hl.1.2) hd (htab hl.2) I0 hpre hcs hc hsl
      · cases hs
    · cases (show some (Sum.inl (nx, L, Value.ref h.length :: st, h ++ [(c9, (zcf c9).map (fun q => zdf q.2))], 1, (zcf c9).length)) = some (Sum.inr (Sum.inr (r, dc, ds))) from hs)
  | invokestatic j =>
    replace hs : (if k = 10 then zcopy nx L st h else if k = 12 then zmm (fun x y => if x < y then y else x) nx L st h else if k = 13 then zmm (fun x y => if y < x then y else x) nx L st h else zcall n9 yy nx st) = some (.inr (.inr (r, dc, ds))) := hs
    split at hs
    · exact absurd hs (zcopy_is _)
    · split at hs
      · exact absurd hs (zmm_is _)
      · split at hs
        · exact absurd hs (zmm_is _)
        · exact absurd hs zcall_nx
  | invokevirtual j =>
    replace hs : (if k = 11 then zgetc nx L st h else zcallV n9 c9 yy nx st h) = some (.inr (.inr (r, dc, ds))) := hs
    split at hs
    · exact absurd hs (zgetc_is _)
    · exact absurd hs zcallV_nx
  | invokeinterface j q => exact absurd hs zcallV_nx
  | invokespecial j =>
    replace hs : (if k = 8 then zoi nx L st h else if k = 7 then zcallV n9 c9 yy nx st h else zcallI n9 yy nx st) = some (.inr (.inr (r, dc, ds))) := hs
    split at hs
    · exact absurd hs (zoi_is _)
    · split at hs
      · exact absurd hs zcallV_nx
      · exact absurd hs zcallI_nx
  | _ => exact absurd hs (zis_ok rfl _)
end ZE
end zg6
section zg7
section ZM
variable {p : Program} {l : Launch} {e : Env} {s : State} {m : MethodId} {args : Array Value} {below : List Frame} {meth : Method} {c : Code} {H : Heap} {locs : List Loc} {cells slots : Nat} {Q : State → Prop}
variable {xs : List Int32} {sp : Nat → Nat} {ty : Nat → ClassId} {D : va_G} {A : Nat → Prop} {ads : List Nat}
theorem zhf_ok {E hp : Nat} : ∀ {t : List (Nat × Nat × Nat × Nat)} {pc : Nat}, zhf t pc E = some hp → ∃ (pre suf : List (Nat × Nat × Nat × Nat)) (a b ct : Nat), t = pre ++ (a, b, hp, ct) :: suf ∧ a ≤ pc ∧ pc < b ∧ zhe ct = E ∧ ∀ z ∈ pre, ¬ (z.1 ≤ pc ∧ pc < z.2.1 ∧ zhe z.2.2.2 = E)
  | [], pc, h => by cases (show none = some hp from h)
  | (a, b, hp', ct) :: r, pc, h => by
    unfold zhf at h
    split at h
    · next g =>
      cases h
      exact ⟨[], r, a, b, ct, rfl, g.1, g.2.1, g.2.2, fun z hz => by cases hz⟩
    · next g =>
      obtain ⟨pre, suf, a', b', ct', rfl, h1, h2, h3, h4⟩ := zhf_ok h
      refine ⟨(a, b, hp', ct) :: pre, suf, a', b', ct', rfl, h1, h2, h3, fun z hz => ?_⟩
      rcases List.mem_cons.mp hz with rfl | hz
      · exact g
      · exact h4 z hz
/-- all the handlers of the tables name one of the three -/
def zhOK : Prop := ∀ y z, z ∈ zmh y → zhe z.2.2.2 < 3 ∧ zon (zmo y) = "ScrubwardLaw"
set_option maxRecDepth 20000 in
theorem zh_ok : zhOK := by
  intro y z hz
  by_cases h : y < 247
  · have e : (List.range 247).all (fun y => (zmh y).all (fun z => decide (zhe z.2.2.2 < 3) && decide (zon (zmo y) = "ScrubwardLaw"))) = true := by decide +kernel
    have h3 := List.all_eq_true.mp (List.all_eq_true.mp e y (List.mem_range.mpr h)) z hz
    rw [Bool.and_eq_true, decide_eq_true_eq, decide_eq_true_eq] at h3
    exact h3
  · have e : zmh y = [] := by
      unfold zmh
      rw [List.getD_eq_getElem?_getD, List.getElem?_eq_none (Nat.not_lt.mp h)]
      rfl
    rw [e] at hz
    cases hz
theorem zNP_in {E E' : Nat} (h : E < 3) (h' : E' < 3) (n : E ≠ E') : (zEn E, zEn E') ∈ zNP := by
  rcases (show E = 0 ∨ E = 1 ∨ E = 2 by omega) with rfl | rfl | rfl <;> rcases (show E' = 0 ∨ E' = 1 ∨ E' = 2 by omega) with rfl | rfl | rfl <;> first | exact absurd rfl n | decide +kernel
theorem zEc_in {E : Nat} (h : E < 3) : Jvm.Cond.castable (zEn E) (zEn E) ∈ zN2 := by
  rcases (show E = 0 ∨ E = 1 ∨ E = 2 by omega) with rfl | rfl | rfl <;> decide +kernel
theorem z_caught {y E pc pc2 mc0 ms0 d q9 : Nat} {L L2 : zL} {h : zH} {ls : Array Slot} {r' : List Value} {ce : Cell} (hok : zhOK) (hX : zX xs sp ty D A y p (zrm d mc0 ms0) s m args meth c) (htab : c.exceptionTable.toList = tableOf (zmh y)) (hc : zcatch y pc E L = some (pc2, L2))
    (I1 : zLR sp ads L ls (zmL y)) (I3 : zW sp ty D A s.heap ads h H locs) (hcell : H[q9]? = some ce) (hv : ce.vm = .none) (hcl : s.vm.findClass (zEn E) = some ce.cls)
    (kk : ∀ ls' : Array Slot, zLR sp ads L2 ls' (zmL y) → W p l e (zrm d mc0 ms0) s m args below meth c H locs cells slots Q (F0 m pc2 ls' [])) : vx_W p l e (zrm d mc0 ms0) s m args below meth c H locs cells slots Q (F0 m pc ls r') q9 := by
  obtain ⟨hx, hb, hml, hret, hlk, hown, hnm, hts, hK, hA, hSP, hRf, hRl⟩ := hX
  unfold zcatch at hc
  split at hc
  · next hp hhp =>
    obtain ⟨pre, suf, a, b, ct, e1, e2, e3, e4, e5⟩ := zhf_ok hhp
    have hin : ∀ z ∈ pre ++ (a, b, hp, ct) :: suf, zhe z.2.2.2 < 3 ∧ zon (zmo y) = "ScrubwardLaw" := fun z hz => hok y z (by rw [e1]; exact hz)
    have hlaw := (hin (a, b, hp, ct) (by simp)).2
    have hE : E < 3 := by rw [← e4]; exact (hin (a, b, hp, ct) (by simp)).1
    obtain ⟨g1, g2⟩ := zhe_ok e4 hE
    have key : ∀ (j nx : Nat) (L1 : zL), zkill j L = some L1 → (∀ ls' : Array Slot, zLR sp ads L1 ls' (zmL y) → W p l e (zrm d mc0 ms0) s m args below meth c H locs cells slots Q (F0 m nx ls' [])) → ∃ lv, lv_has ls (zmL y) lv ∧ j < zmL y ∧ ∀ ls' : Array Slot, lv_has ls' (zmL y) ((j, .ref q9) :: lv.filter (fun q => !(q.1 == j) && !(q.1 + 1 == j && q.2.category == 2))) → W p l e (zrm d mc0 ms0) s m args below meth c H locs cells slots Q (F0 m nx ls' []) := by
      intro j nx L1 hk kk1
      unfold zkill at hk
      split at hk
      · next L9 h9 =>
        cases hk
        obtain ⟨q1, q2, q3, q4⟩ := zst1_spec h9
        obtain ⟨h0, lv, k1, k2⟩ := I1
        refine ⟨lv, k1, by omega, fun ls' hls => kk1 ls' ⟨by simp; omega, _, hls, fun i w hi => ?_⟩⟩
        by_cases e9 : i = j
        · subst e9
          rw [List.getElem?_set_self (by omega)] at hi
          cases hi
        · rw [List.getElem?_set_ne (fun z => e9 z.symm)] at hi
          obtain ⟨r1, r2⟩ := q4 i w e9 hi
          obtain ⟨w', u1, u2⟩ := k2 i w r1
          refine ⟨w', u1, List.mem_cons_of_mem _ (List.mem_filter.mpr ⟨u2, ?_⟩)⟩
          have hc9 := zV_cat u1
          by_cases e8 : i + 1 = j
          · rw [r2 e8] at hc9
            simp [e9, hc9]
          · simp [e9, e8]
      · cases hk
    refine vx_catch (own := zon (zmo y)) (name := zEn E) (E := zEn E) (ce := ce) (q := q9) hown (tableOf pre) ⟨a, b, hp, ct⟩ (tableOf suf) (by rw [htab, e1]; unfold tableOf; simp) (fun z hz => ?_) (by simp [covers, e2, e3]) g1 (by rw [hlaw]; exact hts _ g2) (va_Nw.use rfl (hSP.2.2.2.2.1 _ (zEc_in hE))) hcell hv hcl ?_
    · unfold tableOf at hz
      obtain ⟨z0, hz0, rfl⟩ := List.mem_map.mp hz
      have hn := e5 z0 hz0
      by_cases q : z0.1 ≤ pc ∧ pc < z0.2.1
      · have hz3 := (hin z0 (by simp [hz0])).1
        obtain ⟨u1, u2⟩ := zhe_ok (rfl : zhe z0.2.2.2 = _) hz3
        exact Or.inr ⟨u1, zEn (zhe z0.2.2.2), by rw [hlaw]; exact hts _ u2, hSP.2.2.2.2.2.1 _ (zNP_in hE hz3 (fun z => hn ⟨q.1, q.2, z.symm⟩))⟩
      · left
        simp only [covers, Bool.and_eq_false_iff, decide_eq_false_iff_not]
        by_cases q1 : z0.1 ≤ pc
        · exact Or.inr (fun z => q ⟨q1, z⟩)
        · exact Or.inl q1
    · dsimp only
      split at hc
      · next j nx k9 hat =>
        obtain ⟨k1, k2, k3, k4⟩ := k9
        split at hc
        · next L1 hk =>
          cases hc
          obtain ⟨hd, rfl, -⟩ := zrok1 (zrows_ok y _ (zat_mem hat)) (Nat.succ_ne_zero _)
          obtain ⟨lv, u1, u2, u3⟩ := key j _ _ hk kk
          exact lv_astore hx hb hd u1 u2 rfl u3
        · cases hc
      · next j nx k9 hat =>
        obtain ⟨k1, k2, k3, k4⟩ := k9
        split at hc
        · next L1 hk =>
          cases hc
          obtain ⟨hd, rfl, -⟩ := zrok1 (zrows_ok y _ (zat_mem hat)) (Nat.succ_ne_zero _)
          obtain ⟨lv, u1, u2, u3⟩ := key j _ _ hk kk
          exact lv_astore_n hx hb hd rfl u1 u2 rfl u3
        · cases hc
      · cases hc
  · cases hc
end ZM

/-- THE RUN: what the abstract machine does from a point of a method, the machine does -/
theorem z_run {xs : List Int32} : ∀ (n d y pc : Nat) (L : zL) (st : List Value) (h : zH) (nc ns : Nat) (r : Option Value ⊕ Nat) (h' : zH) (nc' ns' : Nat), zev xs n d y pc L st h nc ns = some (r, h', nc', ns') →
    ∀ {p : Program} {l : Launch} {e : Env} {s : State} {m : MethodId} {args : Array Value} {below : List Frame} {meth : Method} {c : Code} {H : Heap} {locs : List Loc} {cells slots mc ms : Nat} {sp : Nat → Nat} {ty : Nat → ClassId} {D : va_G} {A : Nat → Prop} {ads0 ads : List Nat} {ls : Array Slot} {str : List Value}, l.stackTraces = false → zX xs sp ty D A y p (zrm d mc ms) s m args meth c → c.exceptionTable.toList = tableOf (zmh y) → (∃ q, ads = ads0 ++ q) → zR sp ty D A s.heap (zmL y) ads L st h ls str H locs → cells + (nc' - nc) ≤ mc → slots + (ns' - ns) ≤ ms →
      W p l e (zrm d mc ms) s m args below meth c H locs cells slots (vx_MQ below (zQc sp ty D A ads0 r h') (zXC sp ty D A ads0 r h') args s mc ms A) (F0 m pc ls str) := by
  intro n
  induction n with
  | zero =>
    intro d y pc L st h nc ns r h' nc' ns' e
    cases (show none = some _ from e)
  | succ n ih =>
    have IH : zIH xs n := by
      intro d y as L0 h nc ns r h' nc' ns' hy1 hy2 hen hev l hl9 sp ty D ws as' sz hS h5 h6
      have hyM := zM_ok y hy1 hy2
      obtain ⟨m1, m2, m3, m4, m5⟩ := zM_facts hyM
      have body : ∀ (p : Program) (e : Env) (s : State) (m : MethodId) (args : Array Value) (below : List Frame) (meth : Method) (c : Code) (s₁ : State), BodyLoose p l (zmn y) (headSpec (zws y) (zrm d (nc' - nc) (ns' - ns))) (zmb y) (zmL y) (zmr y) e s m args below meth c s₁ → c.maxLocals = zmL y → c.exceptionTable.toList = tableOf (zmh y) → va_Pc as' (zPre xs sp ty D ws sz) args s →
          W p l e (zrm d (nc' - nc) (ns' - ns)) s m args below meth c s.heap [] 0 0 (vx_MQ below (zQc sp ty D (va_A ws sz) (ws.map (fun q => q.1)) r h') (zXC sp ty D (va_A ws sz) (ws.map (fun q => q.1)) r h') args s (nc' - nc) (ns' - ns) (va_A ws sz)) (entryFrame m args (zmL y)) := by
        intro p e s m args below meth c s₁ B hml ht hv
        obtain ⟨rfl, hsz, hP, hK, hD, hSP⟩ := hv
        subst hsz
        rw [lg_entry_eq]
        have hX : zX xs sp ty D (va_A ws s.heap.size) y p (zrm d (nc' - nc) (ns' - ns)) s m as'.toArray meth c := by
          refine ⟨B.exec, B.bytes, hml, B.returns, B.notSynchronized, ?_, (fun q => (name_of_methodNamed B.named B.method).1.trans q), fun w hw => atoms_spec (ws := zws y) B.pre w (List.mem_cons_of_mem _ hw), hK, fun q g => Or.inr g, hSP, by show 20 ≤ d + 30; omega, by show 400 ≤ 40 * d + 3280; omega⟩
          rw [hyM.2.2.1]
          exact findClass_of_methodNamed B.named
        exact ih d y 0 L0 [] h nc ns r h' nc' ns' hev hl9 hX ht ⟨[], by simp⟩ ⟨zen_ok hS hen, rfl, ws, hP, hD.self, va_S.rf, rfl, h5, h6⟩ (by omega) (by omega)
      rcases hyM.1 with ⟨e1, -⟩ | ⟨e1, -⟩
      · have ews : zws y = .code (zmn y) (zmb y) (zmL y) (zmr y) :: zB := by unfold zws; rw [e1]
        refine vx_ofW (cc := zmb y) (maxL := zmL y) (ret := zmr y) m5 ews (fun p e s m args below meth c s₁ B hml ht hv => body p e s m args below meth c s₁ B hml ?_ hv)
        rw [e1]
        exact List.eq_nil_iff_forall_not_mem.mpr (fun x hx => ht x hx)
      · have ews : zws y = .codeWith (zmn y) (zmb y) (zmL y) (zmr y) (zmh y) :: zB := by
          unfold zws
          split
          · next e2 => exact absurd e2 e1
          · rfl
        refine vx_ofWH (cc := zmb y) (maxL := zmL y) (ret := zmr y) (hh := zmh y) m5 ews (fun p e s m args below meth c s₁ B hml hv => body p e s m args below meth c s₁ B hml ?_ hv)
        exact vx_table (x := zmn y) B (atoms_spec (ws := zws y) B.pre _ (by rw [ews]; exact List.mem_cons_self))
    intro d y pc L st h nc ns r h' nc' ns' e9 p l e s m args below meth c H locs cells slots mc ms sp ty D A ads0 ads ls str hl9 hX htab hpre I hc hs
    have hmono := zev_mono (n + 1) d y pc L st h nc ns r h' nc' ns' e9
    unfold zev at e9
    split at e9
    · cases e9
    · next i nx k yy n9 c9 hat =>
      have hrow := zrows_ok y _ (zat_mem hat)
      have htab0 : zmh y = [] → ∀ x ∈ c.exceptionTable.toList, False := by
        intro q x hx
        rw [htab, q] at hx
        cases hx
      split at e9
      · cases e9
      · next pc' L' st' h1 dc ds hst =>
        have hm1 := zev_mono n _ _ _ _ _ _ _ _ _ _ _ _ e9
        refine z_step_ok hX hrow hst I (by show cells + dc ≤ mc; omega) (by show slots + ds ≤ ms; omega) (fun q ls' str' H' locs' I' => ?_)
        obtain ⟨q0, rfl⟩ := hpre
        exact ih d y pc' L' st' h1 _ _ r h' nc' ns' e9 hl9 hX htab ⟨q0 ++ q, by rw [List.append_assoc]⟩ I' (by omega) (by omega)
      · next r1 dc ds hst =>
        cases e9
        exact z_end_ok hl9 hX hrow hst htab0 I hpre (by omega) (by omega)
      · next y' as rr nx' hst =>
        split at e9
        · cases e9
        · next d' =>
          split at e9
          · cases e9
          · next L0 hen =>
            split at e9
            · next v h1 nc1 ns1 hev =>
              have hm0 := zev_mono n _ _ _ _ _ _ _ _ _ _ _ _ hev
              have hm1 := zev_mono n _ _ _ _ _ _ _ _ _ _ _ _ e9
              refine z_call_ok IH hl9 hX hrow hst hen hev I (by omega) (by omega) (fun v1 v' q r' H1 locs1 g1 g2 g3 g4 => ?_) (fun k q9 ce q r' H1 locs1 g1 => by cases g1)
              cases g1
              obtain ⟨q0, rfl⟩ := hpre
              refine ih (d' + 1) y nx' L _ h1 nc1 ns1 r h' nc' ns' e9 hl9 hX htab ⟨q0 ++ q, by rw [List.append_assoc]⟩ ⟨zLR_mono q I.1, ?_, g4⟩ (by omega) (by omega)
              cases v with
              | none =>
                cases (show v' = none from g2)
                exact zS_mono q g3
              | some w =>
                obtain ⟨w', rfl, g2⟩ := g2
                exact ⟨w', r', rfl, g2, zS_mono q g3⟩
            · next E h1 nc1 ns1 hev =>
              have hm0 := zev_mono n _ _ _ _ _ _ _ _ _ _ _ _ hev
              split at e9
              · next hnil =>
                cases e9
                refine z_call_ok IH hl9 hX hrow hst hen hev I (by omega) (by omega) (fun v1 v' q r' H1 locs1 g1 => by cases g1) (fun k q9 ce q r' H1 locs1 g1 g3 g4 g5 g6 g7 => ?_)
                cases g1
                obtain ⟨q0, rfl⟩ := hpre
                refine vx_out (fun x hx => (htab0 hnil x hx).elim) hX.2.2.2.2.1 g5 g6 g7 (fun t ht hvm => ?_) (zW_locs g4) (by omega) (by omega)
                rw [List.append_assoc] at g4
                obtain ⟨u1, u2, -⟩ := zW_end (s := s) (t := t) g4 ht
                exact ⟨⟨E, q0 ++ q, rfl, rfl, u1⟩, u2⟩
              · split at e9
                · next pc2 L2 hct =>
                  have hm1 := zev_mono n _ _ _ _ _ _ _ _ _ _ _ _ e9
                  refine z_call_ok IH hl9 hX hrow hst hen hev I (by omega) (by omega) (fun v1 v' q r' H1 locs1 g1 => by cases g1) (fun k q9 ce q r' H1 locs1 g1 g3 g4 g5 g6 g7 => ?_)
                  cases g1
                  obtain ⟨q0, rfl⟩ := hpre
                  exact z_caught zh_ok hX htab hct (zLR_mono q I.1) g4 g5 g6 g7 (fun ls' g8 => ih (d' + 1) y pc2 L2 [] h1 nc1 ns1 r h' nc' ns' e9 hl9 hX htab ⟨q0 ++ q, by rw [List.append_assoc]⟩ ⟨g8, rfl, g4⟩ (by omega) (by omega))
                · cases e9
            · cases e9
end zg7
section zg8
/-! Rules for runs: 'from some fuel on'. -/
def zEv (xs : List Int32) (y pc : Nat) (L : zL) (st : List Value) (h : zH) (nc ns : Nat) (o : zO) : Prop := ∃ D N, ∀ d n, D ≤ d → N ≤ n → zev xs n d y pc L st h nc ns = some o
/-- a whole call -/
def zMt (xs : List Int32) (y : Nat) (as : List Value) (h : zH) (nc ns : Nat) (o : zO) : Prop := ∃ L0, zen (zmL y) as = some L0 ∧ zEv xs y 0 L0 [] h nc ns o
section ZR
variable {xs : List Int32} {y pc nx k yy m c : Nat} {i : Instr} {L : zL} {st : List Value} {h : zH} {nc ns : Nat} {o : zO}
theorem zEv_step {pc' dc ds : Nat} {L' : zL} {st' : List Value} {h' : zH} (h1 : zat (zmc y) pc = some (i, nx, k, yy, m, c)) (h2 : zstep zcf xs pc i nx k yy m c L st h = some (.inl (pc', L', st', h', dc, ds))) (h3 : zEv xs y pc' L' st' h' (nc + dc) (ns + ds) o) : zEv xs y pc L st h nc ns o := by
  obtain ⟨D, N, g⟩ := h3
  refine ⟨D, N + 1, fun d n hd hn => ?_⟩
  obtain ⟨n, rfl⟩ : ∃ q, n = q + 1 := ⟨n - 1, by omega⟩
  unfold zev
  rw [h1]
  dsimp only
  rw [h2]
  exact g d n hd (by omega)
theorem zEv_end {dc ds : Nat} {r : Option Value ⊕ Nat} (h1 : zat (zmc y) pc = some (i, nx, k, yy, m, c)) (h2 : zstep zcf xs pc i nx k yy m c L st h = some (.inr (.inr (r, dc, ds)))) (h3 : o = (r, h, nc + dc, ns + ds)) : zEv xs y pc L st h nc ns o := by
  refine ⟨0, 1, fun d n hd hn => ?_⟩
  obtain ⟨n, rfl⟩ : ∃ q, n = q + 1 := ⟨n - 1, by omega⟩
  unfold zev
  rw [h1]
  dsimp only
  rw [h2, h3]
theorem zEv_call {y' nx' nc1 ns1 : Nat} {as r : List Value} {v : Option Value} {h1 : zH} (e1 : zat (zmc y) pc = some (i, nx, k, yy, m, c)) (e2 : zstep zcf xs pc i nx k yy m c L st h = some (.inr (.inl (y', as, r, nx')))) (e3 : zMt xs y' as h nc ns (.inl v, h1, nc1, ns1)) (e4 : zEv xs y nx' L (v.toList ++ r) h1 nc1 ns1 o) : zEv xs y pc L st h nc ns o := by
  obtain ⟨L0, hL, D1, N1, g1⟩ := e3
  obtain ⟨D2, N2, g2⟩ := e4
  refine ⟨D1 + D2 + 1, N1 + N2 + 1, fun d n hd hn => ?_⟩
  obtain ⟨n, rfl⟩ : ∃ q, n = q + 1 := ⟨n - 1, by omega⟩
  obtain ⟨d, rfl⟩ : ∃ q, d = q + 1 := ⟨d - 1, by omega⟩
  unfold zev
  rw [e1]
  dsimp only
  rw [e2]
  dsimp only
  rw [hL]
  dsimp only
  rw [g1 d n (by omega) (by omega)]
  dsimp only
  exact g2 (d + 1) n (by omega) (by omega)
/-- the callee throws, and it is not caught here -/
theorem zEv_callx {y' nx' nc1 ns1 E : Nat} {as r : List Value} {h1 : zH} (e0 : zmh y = []) (e1 : zat (zmc y) pc = some (i, nx, k, yy, m, c)) (e2 : zstep zcf xs pc i nx k yy m c L st h = some (.inr (.inl (y', as, r, nx')))) (e3 : zMt xs y' as h nc ns (.inr E, h1, nc1, ns1)) (e4 : o = (.inr E, h1, nc1, ns1)) : zEv xs y pc L st h nc ns o := by
  obtain ⟨L0, hL, D1, N1, g1⟩ := e3
  refine ⟨D1 + 1, N1 + 1, fun d n hd hn => ?_⟩
  obtain ⟨n, rfl⟩ : ∃ q, n = q + 1 := ⟨n - 1, by omega⟩
  obtain ⟨d, rfl⟩ : ∃ q, d = q + 1 := ⟨d - 1, by omega⟩
  unfold zev
  rw [e1]
  dsimp only
  rw [e2]
  dsimp only
  rw [hL]
  dsimp only
  rw [g1 d n (by omega) (by omega)]
  dsimp only
  rw [e0, e4]
/-- .. and is caught -/
theorem zEv_callc {y' nx' nc1 ns1 E pc2 : Nat} {as r : List Value} {h1 : zH} {L2 : zL} (e0 : zmh y ≠ []) (e1 : zat (zmc y) pc = some (i, nx, k, yy, m, c)) (e2 : zstep zcf xs pc i nx k yy m c L st h = some (.inr (.inl (y', as, r, nx')))) (e3 : zMt xs y' as h nc ns (.inr E, h1, nc1, ns1)) (e4 : zcatch y pc E L = some (pc2, L2)) (e5 : zEv xs y pc2 L2 [] h1 nc1 ns1 o) : zEv xs y pc L st h nc ns o := by
  obtain ⟨L0, hL, D1, N1, g1⟩ := e3
  obtain ⟨D2, N2, g2⟩ := e5
  refine ⟨D1 + D2 + 1, N1 + N2 + 1, fun d n hd hn => ?_⟩
  obtain ⟨n, rfl⟩ : ∃ q, n = q + 1 := ⟨n - 1, by omega⟩
  obtain ⟨d, rfl⟩ : ∃ q, d = q + 1 := ⟨d - 1, by omega⟩
  unfold zev
  rw [e1]
  dsimp only
  rw [e2]
  dsimp only
  rw [hL]
  dsimp only
  rw [g1 d n (by omega) (by omega)]
  dsimp only
  split
  · next q => exact absurd q e0
  · rw [e4]
    exact g2 (d + 1) n (by omega) (by omega)
/-- several steps at once -/
def zrun (xs : List Int32) (y : Nat) : Nat → Nat → zL → List Value → zH → Nat → Nat → Option (Nat × zL × List Value × zH × Nat × Nat)
  | 0, pc, L, st, h, nc, ns => some (pc, L, st, h, nc, ns)
  | n + 1, pc, L, st, h, nc, ns => match zat (zmc y) pc with
    | none => none
    | some (i, nx, k, yy, m, c) => match zstep zcf xs pc i nx k yy m c L st h with
      | some (.inl (pc', L', st', h', dc, ds)) => zrun xs y n pc' L' st' h' (nc + dc) (ns + ds)
      | _ => none
theorem zEv_run : ∀ (n : Nat) {pc pc' nc ns nc' ns' : Nat} {L L' : zL} {st st' : List Value} {h h' : zH} {o : zO}, zrun xs y n pc L st h nc ns = some (pc', L', st', h', nc', ns') → zEv xs y pc' L' st' h' nc' ns' o → zEv xs y pc L st h nc ns o
  | 0, pc, pc', nc, ns, nc', ns', L, L', st, st', h, h', o, e, k => by
    cases (show some _ = some _ from e)
    exact k
  | n + 1, pc, pc', nc, ns, nc', ns', L, L', st, st', h, h', o, e, k => by
    unfold zrun at e
    split at e
    · cases e
    · next h1 =>
      split at e
      · next h2 => exact zEv_step h1 h2 (zEv_run n e k)
      · cases e
end ZR
end zg8
section zg9
/-! The class's objects: 44 cells at fixed places. -/
def zup {α : Type} (f : Nat → α) (k : Nat) (v : α) : Nat → α := fun j => if j = k then v else f j
def zar (l : List Int32) : Nat × List Value := (100, l.map Value.int)
def zx (s : Nat → Int32) (a : Nat → List Int32) (T : zH) : zH :=
  (5, [.ref 1, .ref 6, .ref 29, .ref 36, .ref 38, .ref 40, .ref 42, .int (s 14), .int (s 15), .int (s 16), .int (s 17), .int (s 18)]) ::
  (0, [.ref 2, .ref 4, .int (s 0), .int (s 1), .int (s 2)]) ::
  (2, [.ref 3]) :: zar (a 0) :: (2, [.ref 5]) :: zar (a 1) ::
  (4, [.ref 7, .ref 9, .ref 11, .ref 13, .ref 15, .ref 22, .int (s 3), .int (s 4), .int (s 5), .int (s 6), .int (s 7), .int (s 8)]) ::
  (2, [.ref 8]) :: zar (a 2) :: (2, [.ref 10]) :: zar (a 3) :: (2, [.ref 12]) :: zar (a 4) :: (2, [.ref 14]) :: zar (a 5) ::
  (1, [.ref 16, .ref 18, .ref 20, .int (s 9)]) :: (2, [.ref 17]) :: zar (a 6) :: (2, [.ref 19]) :: zar (a 7) :: (2, [.ref 21]) :: zar (a 8) ::
  (1, [.ref 23, .ref 25, .ref 27, .int (s 10)]) :: (2, [.ref 24]) :: zar (a 9) :: (2, [.ref 26]) :: zar (a 10) :: (2, [.ref 28]) :: zar (a 11) ::
  (3, [.ref 30, .ref 32, .ref 34, .int (s 11), .int (s 12), .int (s 13)]) :: (2, [.ref 31]) :: zar (a 12) :: (2, [.ref 33]) :: zar (a 13) :: (2, [.ref 35]) :: zar (a 14) ::
  (2, [.ref 37]) :: zar (a 15) :: (2, [.ref 39]) :: zar (a 16) :: (2, [.ref 41]) :: zar (a 17) :: (2, [.ref 43]) :: zar (a 18) :: T
section ZC1
variable {xs : List Int32} {s : Nat → Int32} {a : Nat → List Int32} {T : zH} {nc ns : Nat}
set_option maxRecDepth 10000 in
theorem m_call : zMt xs 65 [.ref 0] (zx s a T) nc ns (.inl (some (.int (s 18 + 1))), zx (zup s 18 (s 18 + 1)) a T, nc, ns) := by
  refine ⟨_, rfl, ?_⟩
  refine zEv_run 8 rfl ?_
  exact zEv_end rfl rfl rfl
end ZC1
end zg9
section zg10
/-! Runs with a postcondition: from a point, deep enough, the machine comes to an end that satisfies P. -/
def zEs (xs : List Int32) (D y pc : Nat) (L : zL) (st : List Value) (h : zH) (nc ns : Nat) (P : zO → Prop) : Prop := ∃ (o : zO) (N : Nat), P o ∧ ∀ d n, D ≤ d → N ≤ n → zev xs n d y pc L st h nc ns = some o
/-- a whole call -/
def zMs (xs : List Int32) (D y : Nat) (as : List Value) (h : zH) (nc ns : Nat) (P : zO → Prop) : Prop := ∃ L0, zen (zmL y) as = some L0 ∧ zEs xs D y 0 L0 [] h nc ns P
section ZS
variable {xs : List Int32} {D y pc nx k yy m c tg : Nat} {i : Instr} {L : zL} {st : List Value} {h : zH} {nc ns : Nat} {P P' : zO → Prop}
theorem zEs_post (g : zEs xs D y pc L st h nc ns P) (w : ∀ o, P o → P' o) : zEs xs D y pc L st h nc ns P' := by
  obtain ⟨o, N, g1, g2⟩ := g
  exact ⟨o, N, w o g1, g2⟩
theorem zEs_step {pc' dc ds : Nat} {L' : zL} {st' : List Value} {h' : zH} (h1 : zat (zmc y) pc = some (i, nx, k, yy, m, c)) (h2 : zstep zcf xs pc i nx k yy m c L st h = some (.inl (pc', L', st', h', dc, ds))) (h3 : zEs xs D y pc' L' st' h' (nc + dc) (ns + ds) P) : zEs xs D y pc L st h nc ns P := by
  obtain ⟨o, N, g0, g⟩ := h3
  refine ⟨o, N + 1, g0, fun d n hd hn => ?_⟩
  obtain ⟨n, rfl⟩ : ∃ q, n = q + 1 := ⟨n - 1, by omega⟩
  unfold zev
  rw [h1]
  dsimp only
  rw [h2]
  exact g d n hd (by omega)
theorem zEs_run : ∀ (n : Nat) {pc pc' nc ns nc' ns' : Nat} {L L' : zL} {st st' : List Value} {h h' : zH}, zrun xs y n pc L st h nc ns = some (pc', L', st', h', nc', ns') → zEs xs D y pc' L' st' h' nc' ns' P → zEs xs D y pc L st h nc ns P
  | 0, pc, pc', nc, ns, nc', ns', L, L', st, st', h, h', e, k => by
    cases (show some _ = some _ from e)
    exact k
  | n + 1, pc, pc', nc, ns, nc', ns', L, L', st, st', h, h', e, k => by
    unfold zrun at e
    split at e
    · cases e
    · next h1 =>
      split at e
      · next h2 => exact zEs_step h1 h2 (zEs_run n e k)
      · cases e
theorem zEs_end {dc ds : Nat} {r : Option Value ⊕ Nat} (h1 : zat (zmc y) pc = some (i, nx, k, yy, m, c)) (h2 : zstep zcf xs pc i nx k yy m c L st h = some (.inr (.inr (r, dc, ds)))) (h3 : P (r, h, nc + dc, ns + ds)) : zEs xs D y pc L st h nc ns P := by
  refine ⟨_, 1, h3, fun d n hd hn => ?_⟩
  obtain ⟨n, rfl⟩ : ∃ q, n = q + 1 := ⟨n - 1, by omega⟩
  unfold zev
  rw [h1]
  dsimp only
  rw [h2]
/-- a call, whatever comes of it -/
theorem zEs_callG {y' nx' : Nat} {as r : List Value} {P1 : zO → Prop} (e1 : zat (zmc y) pc = some (i, nx, k, yy, m, c)) (e2 : zstep zcf xs pc i nx k yy m c L st h = some (.inr (.inl (y', as, r, nx')))) (e3 : zMs xs D y' as h nc ns P1)
    (kv : ∀ v h1 nc1 ns1, P1 (.inl v, h1, nc1, ns1) → zEs xs (D + 1) y nx' L (v.toList ++ r) h1 nc1 ns1 P)
    (kx : ∀ E h1 nc1 ns1, P1 (.inr E, h1, nc1, ns1) → (zmh y = [] ∧ P (.inr E, h1, nc1, ns1)) ∨ ∃ pc2 L2, zmh y ≠ [] ∧ zcatch y pc E L = some (pc2, L2) ∧ zEs xs (D + 1) y pc2 L2 [] h1 nc1 ns1 P) : zEs xs (D + 1) y pc L st h nc ns P := by
  obtain ⟨L0, hL, ⟨r0, h1, nc1, ns1⟩, N1, p1, g1⟩ := e3
  cases r0 with
  | inl v =>
    obtain ⟨o, N2, p2, g2⟩ := kv v h1 nc1 ns1 p1
    refine ⟨o, N1 + N2 + 1, p2, fun d n hd hn => ?_⟩
    obtain ⟨n, rfl⟩ : ∃ q, n = q + 1 := ⟨n - 1, by omega⟩
    obtain ⟨d, rfl⟩ : ∃ q, d = q + 1 := ⟨d - 1, by omega⟩
    unfold zev
    rw [e1]
    dsimp only
    rw [e2]
    dsimp only
    rw [hL]
    dsimp only
    rw [g1 d n (by omega) (by omega)]
    dsimp only
    exact g2 (d + 1) n hd (by omega)
  | inr E =>
    rcases kx E h1 nc1 ns1 p1 with ⟨q1, q2⟩ | ⟨pc2, L2, q1, q2, o, N2, p2, g2⟩
    · refine ⟨_, N1 + 1, q2, fun d n hd hn => ?_⟩
      obtain ⟨n, rfl⟩ : ∃ q, n = q + 1 := ⟨n - 1, by omega⟩
      obtain ⟨d, rfl⟩ : ∃ q, d = q + 1 := ⟨d - 1, by omega⟩
      unfold zev
      rw [e1]
      dsimp only
      rw [e2]
      dsimp only
      rw [hL]
      dsimp only
      rw [g1 d n (by omega) (by omega)]
      dsimp only
      rw [q1]
    · refine ⟨o, N1 + N2 + 1, p2, fun d n hd hn => ?_⟩
      obtain ⟨n, rfl⟩ : ∃ q, n = q + 1 := ⟨n - 1, by omega⟩
      obtain ⟨d, rfl⟩ : ∃ q, d = q + 1 := ⟨d - 1, by omega⟩
      unfold zev
      rw [e1]
      dsimp only
      rw [e2]
      dsimp only
      rw [hL]
      dsimp only
      rw [g1 d n (by omega) (by omega)]
      dsimp only
      split
      · next q => exact absurd q q1
      · rw [q2]
        exact g2 (d + 1) n hd (by omega)
/-- what a condition says -/
def zcq (q : ClassFile.Cond) (x y : Int32) : Prop := match q with
  | .eq => x = y
  | .ne => ¬ x = y
  | .lt => x < y
  | .ge => y ≤ x
  | .gt => y < x
  | .le => x ≤ y
def zcn9 (q : ClassFile.Cond) (x y : Int32) : Prop := match q with
  | .eq => ¬ x = y
  | .ne => x = y
  | .lt => ¬ x < y
  | .ge => ¬ y ≤ x
  | .gt => ¬ y < x
  | .le => ¬ x ≤ y
theorem zbr_t {q : ClassFile.Cond} {x y : Int32} {r : List Value} (g : zcq q x y) : zbr q x y tg nx L r h = zgo tg L r h := by
  cases q <;> first | exact if_pos g | exact if_neg g
theorem zbr_f {q : ClassFile.Cond} {x y : Int32} {r : List Value} (g : zcn9 q x y) : zbr q x y tg nx L r h = zgo nx L r h := by
  cases q <;> first | exact if_neg g | exact if_pos g
theorem zcq_em (q : ClassFile.Cond) (x y : Int32) : zcq q x y ∨ zcn9 q x y := by
  cases q <;> first | exact Classical.em _ | exact (Classical.em _).symm
theorem zEs_icmp {q : ClassFile.Cond} {o : Int} {x z : Int32} {r : List Value} (h1 : zat (zmc y) pc = some (.if_icmp q o, nx, tg, yy, m, c)) (kt : zcq q x z → zEs xs D y tg L r h nc ns P) (kf : zcn9 q x z → zEs xs D y nx L r h nc ns P) : zEs xs D y pc L (.int z :: .int x :: r) h nc ns P := by
  rcases zcq_em q x z with g | g
  · exact zEs_step h1 (zbr_t g) (kt g)
  · exact zEs_step h1 (zbr_f g) (kf g)
theorem zEs_if {q : ClassFile.Cond} {o : Int} {x : Int32} {r : List Value} (h1 : zat (zmc y) pc = some (.ifCond q o, nx, tg, yy, m, c)) (kt : zcq q x 0 → zEs xs D y tg L r h nc ns P) (kf : zcn9 q x 0 → zEs xs D y nx L r h nc ns P) : zEs xs D y pc L (.int x :: r) h nc ns P := by
  rcases zcq_em q x 0 with g | g
  · exact zEs_step h1 (zbr_t g) (kt g)
  · exact zEs_step h1 (zbr_f g) (kf g)
theorem zEs_irem {x z : Int32} {r : List Value} (h1 : zat (zmc y) pc = some (.irem, nx, k, yy, m, c)) (hz : ¬ z = 0) (g : zEs xs D y nx L (.int (x - x / z * z) :: r) h nc ns P) : zEs xs D y pc L (.int z :: .int x :: r) h nc ns P :=
  zEs_step (dc := 0) (ds := 0) h1 (show zdiv (fun x y => x - x / y * y) nx L (.int z :: .int x :: r) h = some (.inl (nx, L, .int (x - x / z * z) :: r, h, 0, 0)) from if_neg hz) g
theorem zEs_ald {j : Int32} {a : Nat} {l : List Int32} {v : Int32} {r : List Value} (h1 : zat (zmc y) pc = some (.iaload, nx, k, yy, m, c)) (ha : h[a]? = some (100, l.map Value.int)) (hj : ¬ j < 0) (hv : l[j.toNatClampNeg]? = some v) (g : zEs xs D y nx L (.int v :: r) h nc ns P) : zEs xs D y pc L (.int j :: .ref a :: r) h nc ns P := by
  refine zEs_step (dc := 0) (ds := 0) h1 ?_ g
  show zald 100 nx L (.int j :: .ref a :: r) h = _
  unfold zald
  dsimp only
  rw [ha]
  dsimp only
  rw [if_pos rfl, List.getElem?_map, hv]
  exact if_neg hj
theorem zEs_ast {j v : Int32} {a : Nat} {l : List Int32} {r : List Value} (h1 : zat (zmc y) pc = some (.iastore, nx, k, yy, m, c)) (ha : h[a]? = some (100, l.map Value.int)) (hj : ¬ j < 0) (hl : j.toNatClampNeg < l.length) (g : zEs xs D y nx L r (h.set a (100, (l.set j.toNatClampNeg v).map Value.int)) nc ns P) : zEs xs D y pc L (.int v :: .int j :: .ref a :: r) h nc ns P := by
  refine zEs_step (dc := 0) (ds := 0) h1 ?_ g
  show zast 100 some nx L (.int v :: .int j :: .ref a :: r) h = _
  unfold zast
  dsimp only
  rw [ha]
  dsimp only
  rw [if_pos rfl, if_neg hj, if_pos (by rw [List.length_map]; exact hl), List.map_set]
  rfl
theorem zEs_alen {a : Nat} {vs : List Value} {t : Nat} {r : List Value} (h1 : zat (zmc y) pc = some (.arraylength, nx, k, yy, m, c)) (ha : h[a]? = some (t, vs)) (ht : 100 ≤ t) (g : zEs xs D y nx L (.int (Int32.ofNat vs.length) :: r) h nc ns P) : zEs xs D y pc L (.ref a :: r) h nc ns P := by
  refine zEs_step (dc := 0) (ds := 0) h1 ?_ g
  show zalen xs nx L (.ref a :: r) h = _
  unfold zalen
  dsimp only
  rw [ha]
  exact if_pos ht
theorem zEs_get {a kd : Nat} {t : Nat} {vs : List Value} {v : Value} {r : List Value} {j : Nat} (h1 : zat (zmc y) pc = some (.getfield j, nx, k, yy, m, c)) (ha : h[a]? = some (t, vs)) (hf : (zcf t)[k]? = some (yy, kd)) (hv : vs[k]? = some v) (g : zEs xs D y nx L (v :: r) h nc ns P) : zEs xs D y pc L (.ref a :: r) h nc ns P := by
  refine zEs_step (dc := 0) (ds := 0) h1 ?_ g
  show zget zcf yy k nx L (.ref a :: r) h = _
  unfold zget
  dsimp only
  rw [ha]
  dsimp only
  rw [hf]
  dsimp only
  rw [if_pos rfl, hv]
  rfl
end ZS
/-! Int32 facts. -/
theorem zlt_z {x y : Int32} (h : x < y) : x.toInt < y.toInt := Int32.lt_iff_toInt_lt.mp h
theorem znl_z {x y : Int32} (h : ¬ y ≤ x) : x.toInt < y.toInt := zlt_z (Int32.not_le.mp h)
theorem zinc_z {x y : Int32} (h : x < y) : (x + Int32.ofInt 1).toInt = x.toInt + 1 := by
  have h1 := zlt_z h
  have h2 := Int32.toInt_lt y
  have h3 := Int32.le_toInt x
  rw [Int32.toInt_add, Int32.toInt_ofInt]
  have e : (1 : Int).bmod Int32.size = 1 := by decide
  rw [e, Int.bmod_def]
  omega
theorem zdec {x y : Int32} (h : ¬ y ≤ x) : (y.toInt - (x + Int32.ofInt 1).toInt).toNat < (y.toInt - x.toInt).toNat := by
  have h := Int32.not_le.mp h
  have h1 := zlt_z h
  rw [zinc_z h]
  omega
/-- what Ints.get tells -/
def zgt (l : List Int32) (i : Int32) : Int32 := if i < 0 then 0 else l.getD i.toNatClampNeg 0
def zst (l : List Int32) (i v : Int32) : List Int32 := if i < 0 then l else l.set i.toNatClampNeg v
theorem zst_len (l : List Int32) (i v : Int32) : (zst l i v).length = l.length := by
  unfold zst
  split <;> simp
theorem zle_len {i : Int32} {n : Nat} (hn : n < 2147483648) (h0 : ¬ i < 0) : Int32.ofNat n ≤ i ↔ n ≤ i.toNatClampNeg := by
  have h0 := Int32.not_lt.mp h0
  have h1 := Int32.le_iff_toInt_le.mp h0
  have e : (0 : Int32).toInt = 0 := by decide
  rw [e] at h1
  rw [Int32.le_iff_toInt_le, Int32.toInt_ofNat_of_lt (by omega)]
  show (n : Int) ≤ i.toInt ↔ n ≤ i.toInt.toNat
  omega
section ZI
variable {xs : List Int32} {D : Nat} {h : zH} {nc ns r q : Nat} {l : List Int32} {i v : Int32}
theorem m_25 (hr : h[r]? = some (2, [.ref q])) (hq : h[q]? = some (zar l)) (hl : l.length < 2147483648) : zMs xs D 25 [.ref r, .int i] h nc ns (fun o => o = (.inl (some (.int (zgt l i))), h, nc, ns)) := by
  refine ⟨_, rfl, ?_⟩
  refine zEs_run 1 rfl ?_
  refine zEs_if rfl (fun g => ?_) (fun g => ?_)
  · have g : i < 0 := g
    refine zEs_run 1 rfl (zEs_end rfl rfl ?_)
    unfold zgt
    rw [if_pos g]
    rfl
  · have g : ¬ i < 0 := g
    refine zEs_run 2 rfl ?_
    refine zEs_get rfl hr rfl rfl ?_
    refine zEs_alen rfl hq (by decide) ?_
    rw [List.length_map]
    refine zEs_icmp rfl (fun g1 => ?_) (fun g1 => ?_)
    · have g1 := (zle_len hl g).mp g1
      refine zEs_run 1 rfl (zEs_end rfl rfl ?_)
      unfold zgt
      rw [if_neg g, List.getD_eq_getElem?_getD, List.getElem?_eq_none g1]
      rfl
    · have g1 : ¬ l.length ≤ i.toNatClampNeg := fun z => g1 ((zle_len hl g).mpr z)
      obtain ⟨w, hw⟩ : ∃ w, l[i.toNatClampNeg]? = some w := ⟨_, List.getElem?_eq_getElem (by omega)⟩
      refine zEs_run 1 rfl ?_
      refine zEs_get rfl hr rfl rfl ?_
      refine zEs_run 1 rfl ?_
      refine zEs_ald rfl hq g hw ?_
      refine zEs_run 1 rfl (zEs_end rfl rfl ?_)
      unfold zgt
      rw [if_neg g, List.getD_eq_getElem?_getD, hw]
      rfl
theorem m_26 (hr : h[r]? = some (2, [.ref q])) (hq : h[q]? = some (zar l)) (hl : l.length < 2147483648) : zMs xs D 26 [.ref r, .int i, .int v] h nc ns (fun o => o = (.inl none, h.set q (zar (zst l i v)), nc, ns)) := by
  have hsame : h.set q (zar l) = h := by
    refine List.ext_getElem? (fun j => ?_)
    by_cases e : j = q
    · subst e
      rw [List.getElem?_set_self (List.getElem?_eq_some_iff.mp hq).1, hq]
    · rw [List.getElem?_set_ne (fun z => e z.symm)]
  refine ⟨_, rfl, ?_⟩
  refine zEs_run 1 rfl ?_
  refine zEs_if rfl (fun g => ?_) (fun g => ?_)
  · have g : i < 0 := g
    refine zEs_end rfl rfl ?_
    unfold zst
    rw [if_pos g, hsame]
    rfl
  · have g : ¬ i < 0 := g
    refine zEs_run 2 rfl ?_
    refine zEs_get rfl hr rfl rfl ?_
    refine zEs_alen rfl hq (by decide) ?_
    rw [List.length_map]
    refine zEs_icmp rfl (fun g1 => ?_) (fun g1 => ?_)
    · have g1 := (zle_len hl g).mp g1
      refine zEs_end rfl rfl ?_
      unfold zst
      rw [if_neg g, List.set_eq_of_length_le g1, hsame]
      rfl
    · have g1 : ¬ l.length ≤ i.toNatClampNeg := fun z => g1 ((zle_len hl g).mpr z)
      refine zEs_run 1 rfl ?_
      refine zEs_get rfl hr rfl rfl ?_
      refine zEs_run 2 rfl ?_
      refine zEs_ast rfl hq g (by omega) ?_
      refine zEs_end rfl rfl ?_
      unfold zst
      rw [if_neg g]
      rfl
theorem zlen_z {l : List Int32} (hl : l.length < 2147483648) : (Int32.ofNat l.length).toInt = (l.length : Int) := Int32.toInt_ofNat_of_lt (by omega)
theorem zne_rq {h : zH} {r q : Nat} {l : List Int32} (hr : h[r]? = some (2, [.ref q])) (hq : h[q]? = some (zar l)) : ¬ q = r := by
  intro e
  subst e
  rw [hr] at hq
  cases hq
theorem zset_q {h : zH} {q : Nat} {l l' : List Int32} (hq : h[q]? = some (zar l)) : (h.set q (zar l'))[q]? = some (zar l') := List.getElem?_set_self (List.getElem?_eq_some_iff.mp hq).1
theorem zset_r {h : zH} {r q : Nat} {x : List Value} {l' : List Int32} (e : ¬ q = r) (hr : h[r]? = some (2, x)) : (h.set q (zar l'))[r]? = some (2, x) := by rw [List.getElem?_set_ne e]; exact hr
theorem zset_2 {h : zH} {q : Nat} {l' l2 : List Int32} : (h.set q (zar l')).set q (zar l2) = h.set q (zar l2) := List.set_set ..
theorem zset_id {h : zH} {q : Nat} {c : Nat × List Value} (hq : h[q]? = some c) : h.set q c = h := by
  refine List.ext_getElem? (fun j => ?_)
  by_cases e : j = q
  · subst e
    rw [List.getElem?_set_self (List.getElem?_eq_some_iff.mp hq).1, hq]
  · rw [List.getElem?_set_ne (fun z => e z.symm)]
theorem zinc_nn {x y : Int32} (h0 : ¬ x < 0) (h : ¬ y ≤ x) : ¬ x + Int32.ofInt 1 < 0 := by
  intro g
  have h1 := zlt_z g
  rw [zinc_z (Int32.not_le.mp h)] at h1
  have h2 := Int32.le_iff_toInt_le.mp (Int32.not_lt.mp h0)
  have e : (0 : Int32).toInt = 0 := by decide
  rw [e] at h1 h2
  omega
theorem l_27 (hr : h[r]? = some (2, [.ref q])) (hq : h[q]? = some (zar l)) (hl : l.length < 2147483648) : ∀ (n : Nat) (i : Int32) (l' : List Int32), l'.length = l.length → ¬ i < 0 → ((Int32.ofNat l.length).toInt - i.toInt).toNat < n → zEs xs D 27 2 [some (.ref r), some (.int v), some (.int i)] [] (h.set q (zar l')) nc ns (fun o => ∃ l2, l2.length = l.length ∧ o = (.inl none, h.set q (zar l2), nc, ns))
  | 0, i, l', e, h0, hn => by omega
  | n + 1, i, l', e, h0, hn => by
    have hrq := zne_rq hr hq
    refine zEs_run 2 rfl ?_
    refine zEs_get rfl (zset_r hrq hr) rfl rfl ?_
    refine zEs_alen rfl (zset_q hq) (by decide) ?_
    rw [List.length_map, e]
    refine zEs_icmp rfl (fun g1 => ?_) (fun g1 => ?_)
    · exact zEs_end rfl rfl ⟨l', e, rfl⟩
    · have g1 : ¬ Int32.ofNat l.length ≤ i := g1
      have g2 : ¬ l.length ≤ i.toNatClampNeg := fun z => g1 ((zle_len hl h0).mpr z)
      refine zEs_run 1 rfl ?_
      refine zEs_get rfl (zset_r hrq hr) rfl rfl ?_
      refine zEs_run 2 rfl ?_
      refine zEs_ast rfl (zset_q hq) h0 (by omega) ?_
      refine zEs_run 2 rfl ?_
      rw [show ((100 : Nat), (l'.set i.toNatClampNeg v).map Value.int) = zar (l'.set i.toNatClampNeg v) from rfl, zset_2]
      exact l_27 hr hq hl n _ _ (by simp [e]) (zinc_nn h0 g1) (Nat.lt_of_lt_of_le (zdec g1) (by omega))
theorem m_27 (hr : h[r]? = some (2, [.ref q])) (hq : h[q]? = some (zar l)) (hl : l.length < 2147483648) : zMs xs D 27 [.ref r, .int v] h nc ns (fun o => ∃ l2, l2.length = l.length ∧ o = (.inl none, h.set q (zar l2), nc, ns)) := by
  refine ⟨_, rfl, ?_⟩
  refine zEs_run 2 rfl ?_
  have g := l_27 (xs := xs) (D := D) (nc := nc) (ns := ns) (v := v) hr hq hl _ (Int32.ofInt 0) l rfl (by decide) (Nat.lt_succ_self _)
  rw [zset_id hq] at g
  exact g
theorem l_28 (hr : h[r]? = some (2, [.ref q])) (hq : h[q]? = some (zar l)) (hl : l.length < 2147483648) : ∀ (n : Nat) (i w : Int32), ¬ i < 0 → ((Int32.ofNat l.length).toInt - i.toInt).toNat < n → zEs xs D 28 4 [some (.ref r), some (.int w), some (.int i)] [] h nc ns (fun o => ∃ v, o = (.inl (some (.int v)), h, nc, ns))
  | 0, i, w, h0, hn => by omega
  | n + 1, i, w, h0, hn => by
    refine zEs_run 2 rfl ?_
    refine zEs_get rfl hr rfl rfl ?_
    refine zEs_alen rfl hq (by decide) ?_
    rw [List.length_map]
    refine zEs_icmp rfl (fun g1 => ?_) (fun g1 => ?_)
    · exact zEs_run 1 rfl (zEs_end rfl rfl ⟨_, rfl⟩)
    · have g1 : ¬ Int32.ofNat l.length ≤ i := g1
      have g2 : ¬ l.length ≤ i.toNatClampNeg := fun z => g1 ((zle_len hl h0).mpr z)
      obtain ⟨w2, hw⟩ : ∃ w, l[i.toNatClampNeg]? = some w := ⟨_, List.getElem?_eq_getElem (by omega)⟩
      refine zEs_run 2 rfl ?_
      refine zEs_get rfl hr rfl rfl ?_
      refine zEs_run 1 rfl ?_
      refine zEs_ald rfl hq h0 hw ?_
      refine zEs_run 4 rfl ?_
      exact l_28 hr hq hl n _ _ (zinc_nn h0 g1) (Nat.lt_of_lt_of_le (zdec g1) (by omega))
theorem m_28 (hr : h[r]? = some (2, [.ref q])) (hq : h[q]? = some (zar l)) (hl : l.length < 2147483648) : zMs xs D 28 [.ref r] h nc ns (fun o => ∃ v, o = (.inl (some (.int v)), h, nc, ns)) := by
  refine ⟨_, rfl, ?_⟩
  refine zEs_run 4 rfl ?_
  exact l_28 hr hq hl _ _ _ (by decide) (Nat.lt_succ_self _)
set_option maxRecDepth 20000 in
theorem m_229 : zMs xs D 229 [.int v] h nc ns (fun o => ∃ v, o = (.inl (some (.int v)), h, nc, ns)) := by
  refine ⟨_, rfl, ?_⟩
  refine zEs_run 41 rfl ?_
  exact zEs_end rfl rfl ⟨_, rfl⟩
end ZI
end zg10
section zg11
/-! The class's objects: what a method may change, and what comes of it. -/
def zaL (a : Nat → List Int32) : Prop := ∀ k, (a k).length < 2147483648
def zfr (W V : List Nat) (s : Nat → Int32) (a : Nat → List Int32) (s' : Nat → Int32) (a' : Nat → List Int32) : Prop := (∀ k, k ∉ W → s' k = s k) ∧ (∀ k, k ∉ V → a' k = a k) ∧ zaL a'
section ZFR
variable {W V W' V' : List Nat} {s s1 s2 : Nat → Int32} {a a1 a2 : Nat → List Int32} {k : Nat} {v : Int32} {l : List Int32}
theorem zfr_rf (h : zaL a) : zfr W V s a s a := ⟨fun _ _ => rfl, fun _ _ => rfl, h⟩
theorem zfr_tr (h1 : zfr W V s a s1 a1) (h2 : zfr W V s1 a1 s2 a2) : zfr W V s a s2 a2 := ⟨fun k hk => (h2.1 k hk).trans (h1.1 k hk), fun k hk => (h2.2.1 k hk).trans (h1.2.1 k hk), h2.2.2⟩
theorem zfr_mo (h : zfr W V s a s1 a1) (hW : ∀ k ∈ W, k ∈ W') (hV : ∀ k ∈ V, k ∈ V') : zfr W' V' s a s1 a1 := ⟨fun k hk => h.1 k (fun z => hk (hW k z)), fun k hk => h.2.1 k (fun z => hk (hV k z)), h.2.2⟩
theorem zfr_s (h : zfr W V s a s1 a1) (hk : k ∈ W) : zfr W V s a (zup s1 k v) a1 := ⟨fun j hj => by
  unfold zup
  rw [if_neg (show ¬ j = k from fun e => hj (by rw [e]; exact hk))]
  exact h.1 j hj, h.2⟩
theorem zfr_a (h : zfr W V s a s1 a1) (hk : k ∈ V) (hl : l.length < 2147483648) : zfr W V s a s1 (zup a1 k l) := ⟨h.1, fun j hj => by
  unfold zup
  rw [if_neg (show ¬ j = k from fun e => hj (by rw [e]; exact hk))]
  exact h.2.1 j hj, fun j => by
  unfold zup
  split
  · exact hl
  · exact h.2.2 j⟩
end ZFR
def zRi (v : Option Value) : Prop := ∃ x : Int32, v = some (.int x)
def zRb (v : Option Value) : Prop := ∃ x : Int32, (x = 0 ∨ x = 1) ∧ v = some (.int x)
def zRv (v : Option Value) : Prop := v = none
def zRj (v : Option Value) : Prop := ∃ x : Int64, v = some (.long x)
/-- nothing is changed: a value, or one of the exceptions Es -/
def zPr (R : Option Value → Prop) (Es : List Nat) (h : zH) (nc ns : Nat) : zO → Prop := fun o => (∃ v, R v ∧ o = (.inl v, h, nc, ns)) ∨ ∃ E, E ∈ Es ∧ o = (.inr E, h, nc + 1, ns + 6)
/-- only W, V are changed -/
def zPo (R : Option Value → Prop) (Es : List Nat) (W V : List Nat) (s : Nat → Int32) (a : Nat → List Int32) (T : zH) (nc ns : Nat) : zO → Prop := fun o => (∃ v s' a', R v ∧ zfr W V s a s' a' ∧ o = (.inl v, zx s' a' T, nc, ns)) ∨ ∃ E, E ∈ Es ∧ o = (.inr E, zx s a T, nc + 1, ns + 6)
section ZCR
variable {xs : List Int32} {D y pc nx nx' k yy m c y' : Nat} {i : Instr} {L : zL} {st as r : List Value} {h T : zH} {nc ns : Nat} {P : zO → Prop} {Es W V : List Nat} {s : Nat → Int32} {a : Nat → List Int32}
theorem zEs_cr {R : Option Value → Prop} (e1 : zat (zmc y) pc = some (i, nx, k, yy, m, c)) (e2 : zstep zcf xs pc i nx k yy m c L st h = some (.inr (.inl (y', as, r, nx')))) (e3 : zMs xs D y' as h nc ns (zPr R Es h nc ns)) (hx : ∀ E ∈ Es, zmh y = [] ∧ P (.inr E, h, nc + 1, ns + 6)) (kv : ∀ v, R v → zEs xs (D + 1) y nx' L (v.toList ++ r) h nc ns P) : zEs xs (D + 1) y pc L st h nc ns P := by
  refine zEs_callG e1 e2 e3 (fun v h1 nc1 ns1 g => ?_) (fun E h1 nc1 ns1 g => ?_)
  · rcases g with ⟨v', hv, g⟩ | ⟨E, -, g⟩
    · cases g
      exact kv v hv
    · cases g
  · rcases g with ⟨v', hv, g⟩ | ⟨E, hE, g⟩
    · cases g
    · cases g
      exact Or.inl (hx E hE)
theorem zEs_ci (e1 : zat (zmc y) pc = some (i, nx, k, yy, m, c)) (e2 : zstep zcf xs pc i nx k yy m c L st h = some (.inr (.inl (y', as, r, nx')))) (e3 : zMs xs D y' as h nc ns (zPr zRi Es h nc ns)) (hx : ∀ E ∈ Es, zmh y = [] ∧ P (.inr E, h, nc + 1, ns + 6)) (kv : ∀ x : Int32, zEs xs (D + 1) y nx' L (.int x :: r) h nc ns P) : zEs xs (D + 1) y pc L st h nc ns P :=
  zEs_cr e1 e2 e3 hx (fun v hv => by obtain ⟨x, rfl⟩ := hv; exact kv x)
theorem zEs_cb (e1 : zat (zmc y) pc = some (i, nx, k, yy, m, c)) (e2 : zstep zcf xs pc i nx k yy m c L st h = some (.inr (.inl (y', as, r, nx')))) (e3 : zMs xs D y' as h nc ns (zPr zRb Es h nc ns)) (hx : ∀ E ∈ Es, zmh y = [] ∧ P (.inr E, h, nc + 1, ns + 6)) (kv : ∀ x : Int32, (x = 0 ∨ x = 1) → zEs xs (D + 1) y nx' L (.int x :: r) h nc ns P) : zEs xs (D + 1) y pc L st h nc ns P :=
  zEs_cr e1 e2 e3 hx (fun v hv => by obtain ⟨x, hx, rfl⟩ := hv; exact kv x hx)
theorem zEs_cj (e1 : zat (zmc y) pc = some (i, nx, k, yy, m, c)) (e2 : zstep zcf xs pc i nx k yy m c L st h = some (.inr (.inl (y', as, r, nx')))) (e3 : zMs xs D y' as h nc ns (zPr zRj Es h nc ns)) (hx : ∀ E ∈ Es, zmh y = [] ∧ P (.inr E, h, nc + 1, ns + 6)) (kv : ∀ x : Int64, zEs xs (D + 1) y nx' L (.long x :: r) h nc ns P) : zEs xs (D + 1) y pc L st h nc ns P :=
  zEs_cr e1 e2 e3 hx (fun v hv => by obtain ⟨x, rfl⟩ := hv; exact kv x)
theorem zEs_cv (e1 : zat (zmc y) pc = some (i, nx, k, yy, m, c)) (e2 : zstep zcf xs pc i nx k yy m c L st h = some (.inr (.inl (y', as, r, nx')))) (e3 : zMs xs D y' as h nc ns (zPr zRv Es h nc ns)) (hx : ∀ E ∈ Es, zmh y = [] ∧ P (.inr E, h, nc + 1, ns + 6)) (kv : zEs xs (D + 1) y nx' L r h nc ns P) : zEs xs (D + 1) y pc L st h nc ns P :=
  zEs_cr e1 e2 e3 hx (fun v hv => by cases (show v = none from hv); exact kv)
theorem zEs_wr {R : Option Value → Prop} (e1 : zat (zmc y) pc = some (i, nx, k, yy, m, c)) (e2 : zstep zcf xs pc i nx k yy m c L st (zx s a T) = some (.inr (.inl (y', as, r, nx')))) (e3 : zMs xs D y' as (zx s a T) nc ns (zPo R Es W V s a T nc ns)) (hx : ∀ E ∈ Es, zmh y = [] ∧ P (.inr E, zx s a T, nc + 1, ns + 6)) (kv : ∀ v s' a', R v → zfr W V s a s' a' → zEs xs (D + 1) y nx' L (v.toList ++ r) (zx s' a' T) nc ns P) : zEs xs (D + 1) y pc L st (zx s a T) nc ns P := by
  refine zEs_callG e1 e2 e3 (fun v h1 nc1 ns1 g => ?_) (fun E h1 nc1 ns1 g => ?_)
  · rcases g with ⟨v', s', a', hv, hf, g⟩ | ⟨E, -, g⟩
    · cases g
      exact kv v s' a' hv hf
    · cases g
  · rcases g with ⟨v', s', a', hv, hf, g⟩ | ⟨E, hE, g⟩
    · cases g
    · cases g
      exact Or.inl (hx E hE)
theorem zEs_wi (e1 : zat (zmc y) pc = some (i, nx, k, yy, m, c)) (e2 : zstep zcf xs pc i nx k yy m c L st (zx s a T) = some (.inr (.inl (y', as, r, nx')))) (e3 : zMs xs D y' as (zx s a T) nc ns (zPo zRi Es W V s a T nc ns)) (hx : ∀ E ∈ Es, zmh y = [] ∧ P (.inr E, zx s a T, nc + 1, ns + 6)) (kv : ∀ (x : Int32) s' a', zfr W V s a s' a' → zEs xs (D + 1) y nx' L (.int x :: r) (zx s' a' T) nc ns P) : zEs xs (D + 1) y pc L st (zx s a T) nc ns P :=
  zEs_wr e1 e2 e3 hx (fun v s' a' hv hf => by obtain ⟨x, rfl⟩ := hv; exact kv x s' a' hf)
theorem zEs_wv (e1 : zat (zmc y) pc = some (i, nx, k, yy, m, c)) (e2 : zstep zcf xs pc i nx k yy m c L st (zx s a T) = some (.inr (.inl (y', as, r, nx')))) (e3 : zMs xs D y' as (zx s a T) nc ns (zPo zRv Es W V s a T nc ns)) (hx : ∀ E ∈ Es, zmh y = [] ∧ P (.inr E, zx s a T, nc + 1, ns + 6)) (kv : ∀ s' a', zfr W V s a s' a' → zEs xs (D + 1) y nx' L r (zx s' a' T) nc ns P) : zEs xs (D + 1) y pc L st (zx s a T) nc ns P :=
  zEs_wr e1 e2 e3 hx (fun v s' a' hv hf => by cases (show v = none from hv); exact kv s' a' hf)
/-- the class's int rows -/
theorem x_25 (k q r0 : Nat) {j : Int32} (hr : (zx s a T)[r0]? = some (2, [.ref q])) (hq : (zx s a T)[q]? = some (zar (a k))) (hL : zaL a) : zMs xs D 25 [.ref r0, .int j] (zx s a T) nc ns (zPr zRi [] (zx s a T) nc ns) := by
  obtain ⟨L0, g1, g2⟩ := m_25 (xs := xs) (D := D) (nc := nc) (ns := ns) (i := j) hr hq (hL k)
  exact ⟨L0, g1, zEs_post g2 (fun o ho => Or.inl ⟨_, ⟨_, rfl⟩, ho⟩)⟩
theorem x_28 (k q r0 : Nat) (hr : (zx s a T)[r0]? = some (2, [.ref q])) (hq : (zx s a T)[q]? = some (zar (a k))) (hL : zaL a) : zMs xs D 28 [.ref r0] (zx s a T) nc ns (zPr zRi [] (zx s a T) nc ns) := by
  obtain ⟨L0, g1, g2⟩ := m_28 (xs := xs) (D := D) (nc := nc) (ns := ns) hr hq (hL k)
  exact ⟨L0, g1, zEs_post g2 (fun o ho => by obtain ⟨v, rfl⟩ := ho; exact Or.inl ⟨_, ⟨_, rfl⟩, rfl⟩)⟩
theorem x_26 (k q r0 : Nat) {j v : Int32} (hr : (zx s a T)[r0]? = some (2, [.ref q])) (hq : (zx s a T)[q]? = some (zar (a k))) (hs : ∀ l, (zx s a T).set q (zar l) = zx s (zup a k l) T) (hL : zaL a) : zMs xs D 26 [.ref r0, .int j, .int v] (zx s a T) nc ns (zPo zRv [] [] [k] s a T nc ns) := by
  obtain ⟨L0, g1, g2⟩ := m_26 (xs := xs) (D := D) (nc := nc) (ns := ns) (i := j) (v := v) hr hq (hL k)
  refine ⟨L0, g1, zEs_post g2 (fun o ho => Or.inl ⟨_, s, zup a k (zst (a k) j v), rfl, zfr_a (zfr_rf hL) List.mem_cons_self (by rw [zst_len]; exact hL k), ?_⟩)⟩
  rw [ho, hs]
theorem x_27 (k q r0 : Nat) {v : Int32} (hr : (zx s a T)[r0]? = some (2, [.ref q])) (hq : (zx s a T)[q]? = some (zar (a k))) (hs : ∀ l, (zx s a T).set q (zar l) = zx s (zup a k l) T) (hL : zaL a) : zMs xs D 27 [.ref r0, .int v] (zx s a T) nc ns (zPo zRv [] [] [k] s a T nc ns) := by
  obtain ⟨L0, g1, g2⟩ := m_27 (xs := xs) (D := D) (nc := nc) (ns := ns) (v := v) hr hq (hL k)
  refine ⟨L0, g1, zEs_post g2 (fun o ho => ?_)⟩
  obtain ⟨l2, e, rfl⟩ := ho
  exact Or.inl ⟨_, s, zup a k l2, rfl, zfr_a (zfr_rf hL) List.mem_cons_self (by rw [e]; exact hL k), by rw [hs]⟩
theorem x_229 {v : Int32} : zMs xs D 229 [.int v] h nc ns (zPr zRi [] h nc ns) := by
  obtain ⟨L0, g1, g2⟩ := m_229 (xs := xs) (D := D) (nc := nc) (ns := ns) (h := h) (v := v)
  exact ⟨L0, g1, zEs_post g2 (fun o ho => by obtain ⟨v, rfl⟩ := ho; exact Or.inl ⟨_, ⟨_, rfl⟩, rfl⟩)⟩
/-- switches: every place that the table names -/
theorem zEs_tab {d lo hi : Int} {offs : Array Int} {x : Int32} (ts : List Nat) (h1 : zat (zmc y) pc = some (.tableswitch d lo hi offs, nx, k, yy, m, c)) (ht : (d :: offs.toList).all (fun o => match (pc : Int) + o with
  | .ofNat t => ts.contains t
  | .negSucc _ => false) = true) (hl : offs.size = (hi + 1 - lo).toNat) (kk : ∀ t ∈ ts, zEs xs D y t L r h nc ns P) : zEs xs D y pc L (.int x :: r) h nc ns P := by
  have key : ∀ o, o ∈ d :: offs.toList → ∃ t, t ∈ ts ∧ zoff pc o L r h = zgo t L r h := by
    intro o ho
    have g := List.all_eq_true.mp ht o ho
    unfold zoff
    split at g
    · next t e =>
      rw [e]
      exact ⟨t, List.contains_iff_mem.mp g, rfl⟩
    · cases g
  by_cases q : x.toInt < lo ∨ hi < x.toInt
  · obtain ⟨t, g1, g2⟩ := key d List.mem_cons_self
    refine zEs_step (dc := 0) (ds := 0) h1 ?_ (kk t g1)
    exact (if_pos q).trans g2
  · have hlt : (x.toInt - lo).toNat < offs.size := by omega
    obtain ⟨t, g1, g2⟩ := key offs[(x.toInt - lo).toNat] (List.mem_cons_of_mem _ (by simp))
    refine zEs_step (dc := 0) (ds := 0) h1 ?_ (kk t g1)
    refine (if_neg q).trans ?_
    rw [Array.getElem?_eq_getElem hlt]
    exact g2
theorem zEs_bret {x : Int32} (h1 : zat (zmc y) pc = some (.ireturn, nx, 1, yy, m, c)) (hx : x = 0 ∨ x = 1) (h3 : P (.inl (some (.int x)), h, nc, ns)) : zEs xs D y pc L [.int x] h nc ns P :=
  zEs_end (dc := 0) (ds := 0) h1 (show (if (1 : Nat) = 0 ∨ ((1 : Nat) = 1 ∧ (x = 0 ∨ x = 1)) ∨ ((1 : Nat) = 2 ∧ 0 ≤ x ∧ x ≤ 255) then zret (some (.int x)) else none) = _ from if_pos (Or.inr (Or.inl ⟨rfl, hx⟩))) h3
end ZCR
/-- loops that count up to a bound that is reached -/
theorem zdec_le {x y b : Int32} {n : Int} (h : ¬ y < x) (hb : y.toInt ≤ b.toInt) (hb2 : b.toInt < 2147483000) (hn : 0 < n) (hn2 : n < 100) : (b.toInt + 1 - (x + Int32.ofInt n).toInt).toNat < (b.toInt + 1 - x.toInt).toNat := by
  have h1 := Int32.le_iff_toInt_le.mp (Int32.not_lt.mp h)
  have h3 := Int32.le_toInt x
  rw [Int32.toInt_add, Int32.toInt_ofInt]
  have e : n.bmod Int32.size = n := by
    rw [Int.bmod_def, show ((Int32.size : Nat) : Int) = 4294967296 from rfl]
    split <;> omega
  rw [e, Int.bmod_def]
  split <;> omega
end zg11
section zg12
/-! The class's methods: written by wip/gen/cls.py out of the rows. Ints are opaque: whatever they are, the method comes to an end, and changes what it may. -/
theorem znz {x : Int32} (g : zcn9 .le x 0) : ¬ x = 0 := fun e => g (by rw [e]; exact Int32.le_refl _)
theorem zbd6 {x : Int32} (g : zcq .le x (Int8.ofInt 6).toInt32) : x.toInt < 2147483000 := by
  have h := Int32.le_iff_toInt_le.mp (show x ≤ (Int8.ofInt 6).toInt32 from g)
  have e : (Int8.ofInt 6).toInt32.toInt = 6 := by decide
  rw [e] at h
  omega
section ZK
variable {xs : List Int32} {D nc ns : Nat} {s : Nat → Int32} {a : Nat → List Int32} {T : zH}
set_option maxRecDepth 10000
theorem k_1 (hL : zaL a) {x1 : Int32} : zMs xs (D + 1) 1 [.int x1] (zx s a T) nc ns (zPr zRb [] (zx s a T) nc ns) := by
  refine ⟨_, rfl, ?_⟩
  refine zEs_run 1 rfl ?_
  refine zEs_ci rfl rfl x_229 (fun E hE => by cases hE) (fun v1 => ?_)
  refine zEs_run 3 rfl ?_
  refine zEs_icmp rfl (fun _ => ?_) (fun _ => ?_)
  · skip
    refine zEs_run 1 rfl ?_
    exact zEs_bret rfl (Or.inl rfl) (Or.inl ⟨_, ⟨_, Or.inl rfl, rfl⟩, rfl⟩)
  · skip
    refine zEs_run 4 rfl ?_
    refine zEs_icmp rfl (fun _ => ?_) (fun _ => ?_)
    · skip
      refine zEs_run 1 rfl ?_
      exact zEs_bret rfl (Or.inl rfl) (Or.inl ⟨_, ⟨_, Or.inl rfl, rfl⟩, rfl⟩)
    · skip
      refine zEs_run 2 rfl ?_
      exact zEs_bret rfl (Or.inr rfl) (Or.inl ⟨_, ⟨_, Or.inr rfl, rfl⟩, rfl⟩)
theorem k_2 (hL : zaL a) {x1 : Int32} : zMs xs (D + 2) 2 [.int x1] (zx s a T) nc ns (zPr zRi [] (zx s a T) nc ns) := by
  refine ⟨_, rfl, ?_⟩
  have c4 : ∀ (n4 : Nat) (i4_1 : Int32) (i4_2 : Int32), ((((Int32.ofInt 1) <<< (x1 &&& 31))).toInt - (i4_2).toInt).toNat < n4 → zEs xs (D + 2) 2 4 [some (.int x1), some (.int i4_1), some (.int i4_2)] [] (zx s a T) nc ns (zPr zRi [] (zx s a T) nc ns) := by
    intro n4
    induction n4 with
    | zero =>
      intro i4_1 i4_2 hn4
      exact absurd hn4 (Nat.not_lt_zero _)
    | succ n4 ih4 =>
      intro i4_1 i4_2 hn4
      refine zEs_run 4 rfl ?_
      refine zEs_icmp rfl (fun g4 => ?_) (fun g4 => ?_)
      · skip
        refine zEs_run 1 rfl ?_
        exact zEs_end rfl rfl (Or.inl ⟨_, ⟨_, rfl⟩, rfl⟩)
      · skip
        have g4 : ¬ ((Int32.ofInt 1) <<< (x1 &&& 31)) ≤ i4_2 := g4
        have c21 : ∀ (i21_1 : Int32), zEs xs (D + 2) 2 21 [some (.int x1), some (.int i21_1), some (.int i4_2)] [] (zx s a T) nc ns (zPr zRi [] (zx s a T) nc ns) := by
          intro i21_1
          refine zEs_run 2 rfl ?_
          exact ih4 _ _ (Nat.lt_of_lt_of_le (zdec g4) (Nat.le_of_lt_succ hn4))
        refine zEs_run 1 rfl ?_
        refine zEs_cb rfl rfl (k_1 hL) (fun E hE => by cases hE) (fun v1 hb1 => ?_)
        refine zEs_if rfl (fun _ => ?_) (fun _ => ?_)
        · skip
          exact c21 _
        · skip
          refine zEs_run 1 rfl ?_
          exact c21 _
  refine zEs_run 4 rfl ?_
  exact c4 _ _ _ (Nat.lt_succ_self _)
theorem k_4 (hL : zaL a) (hr : (s 1).toInt < 2147483000) : zMs xs (D + 1) 4 [.ref 1] (zx s a T) nc ns (zPo zRv [] [] [0] s a T nc ns) := by
  refine ⟨_, rfl, ?_⟩
  have f0 : zfr [] [0] s a s a := zfr_rf hL
  have c4 : ∀ (n4 : Nat) (i4_1 : Int32) (i4_2 : Int32) (o4_3 : Option Value) (s4 : Nat → Int32) (a4 : Nat → List Int32) (f4 : zfr [] [0] s a s4 a4), (((s 1)).toInt + 1 - (i4_2).toInt).toNat < n4 → zEs xs (D + 1) 4 4 [some (.ref 1), some (.int i4_1), some (.int i4_2), o4_3] [] (zx s4 a4 T) nc ns (zPo zRv [] [] [0] s a T nc ns) := by
    intro n4
    induction n4 with
    | zero =>
      intro i4_1 i4_2 o4_3 s4 a4 f4 hn4
      exact absurd hn4 (Nat.not_lt_zero _)
    | succ n4 ih4 =>
      intro i4_1 i4_2 o4_3 s4 a4 f4 hn4
      refine zEs_run 3 rfl ?_
      refine zEs_icmp rfl (fun g4 => ?_) (fun g4 => ?_)
      · skip
        exact zEs_end rfl rfl (Or.inl ⟨_, _, _, rfl, f4, rfl⟩)
      · skip
        have g4 : ¬ (s4 1) < i4_2 := g4
        rw [f4.1 1 (by decide)] at g4
        have c58 : ∀ (i58_1 : Int32) (i58_3 : Int32) (s58 : Nat → Int32) (a58 : Nat → List Int32) (f58 : zfr [] [0] s a s58 a58), zEs xs (D + 1) 4 58 [some (.ref 1), some (.int i58_1), some (.int i4_2), some (.int i58_3)] [] (zx s58 a58 T) nc ns (zPo zRv [] [] [0] s a T nc ns) := by
          intro i58_1 i58_3 s58 a58 f58
          refine zEs_run 2 rfl ?_
          exact ih4 _ _ (some (.int _)) _ _ f58 (Nat.lt_of_lt_of_le (zdec_le g4 (Int.le_refl _) hr (by decide) (by decide)) (Nat.le_of_lt_succ hn4))
        have c14 : ∀ (n14 : Nat) (i14_1 : Int32) (i14_3 : Int32) (s14 : Nat → Int32) (a14 : Nat → List Int32) (f14 : zfr [] [0] s a s14 a14), ((((Int32.ofInt 1) <<< ((s 1) &&& 31))).toInt - (i14_3).toInt).toNat < n14 → zEs xs (D + 1) 4 14 [some (.ref 1), some (.int i14_1), some (.int i4_2), some (.int i14_3)] [] (zx s14 a14 T) nc ns (zPo zRv [] [] [0] s a T nc ns) := by
          intro n14
          induction n14 with
          | zero =>
            intro i14_1 i14_3 s14 a14 f14 hn14
            exact absurd hn14 (Nat.not_lt_zero _)
          | succ n14 ih14 =>
            intro i14_1 i14_3 s14 a14 f14 hn14
            refine zEs_run 5 rfl ?_
            refine zEs_icmp rfl (fun g14 => ?_) (fun g14 => ?_)
            · skip
              exact c58 _ _ _ _ f14
            · skip
              have g14 : ¬ ((Int32.ofInt 1) <<< ((s14 1) &&& 31)) ≤ i14_3 := g14
              rw [f14.1 1 (by decide)] at g14
              have c52 : ∀ (i52_1 : Int32) (s52 : Nat → Int32) (a52 : Nat → List Int32) (f52 : zfr [] [0] s a s52 a52), zEs xs (D + 1) 4 52 [some (.ref 1), some (.int i52_1), some (.int i4_2), some (.int i14_3)] [] (zx s52 a52 T) nc ns (zPo zRv [] [] [0] s a T nc ns) := by
                intro i52_1 s52 a52 f52
                refine zEs_run 2 rfl ?_
                exact ih14 _ _ _ _ f52 (Nat.lt_of_lt_of_le (zdec g14) (Nat.le_of_lt_succ hn14))
              refine zEs_run 3 rfl ?_
              refine zEs_icmp rfl (fun _ => ?_) (fun _ => ?_)
              · skip
                exact c58 _ _ _ _ f14
              · skip
                refine zEs_run 1 rfl ?_
                refine zEs_ci rfl rfl x_229 (fun E hE => by cases hE) (fun v2 => ?_)
                refine zEs_run 1 rfl ?_
                refine zEs_icmp rfl (fun _ => ?_) (fun _ => ?_)
                · skip
                  exact c52 _ _ _ f14
                · skip
                  refine zEs_run 4 rfl ?_
                  refine zEs_wv rfl rfl (x_26 0 3 2 rfl rfl (fun _ => rfl) f14.2.2) (fun E hE => by cases hE) (fun s4_ a4_ e4_ => ?_)
                  have f4_ : zfr [] [0] s a s4_ a4_ := zfr_tr f14 (zfr_mo e4_ (by decide) (by decide))
                  refine zEs_run 1 rfl ?_
                  exact c52 _ _ _ f4_
        refine zEs_run 2 rfl ?_
        exact c14 _ _ _ _ _ f4 (Nat.lt_succ_self _)
  refine zEs_run 4 rfl ?_
  exact c4 _ _ _ (none) _ _ f0 (Nat.lt_succ_self _)
theorem k_3 (hL : zaL a) {x1 : Int32} {x2 : Int32} (hr2 : x2.toInt < 2147483000) : zMs xs (D + 2) 3 [.ref 1, .int x1, .int x2] (zx s a T) nc ns (zPo zRv [] [0, 1, 2] [0, 1] s a T nc ns) := by
  refine ⟨_, rfl, ?_⟩
  have f0 : zfr [0, 1, 2] [0, 1] s a s a := zfr_rf hL
  have c66 : ∀ (n66 : Nat) (i66_3 : Int32) (s66 : Nat → Int32) (a66 : Nat → List Int32) (f66 : zfr [0, 1, 2] [0, 1] s a s66 a66) (hb66 : s66 2 = (x1 + x2)), (((x1 + x2)).toInt - (i66_3).toInt).toNat < n66 → zEs xs (D + 2) 3 66 [some (.ref 1), some (.int x1), some (.int x2), some (.int i66_3)] [] (zx s66 a66 T) nc ns (zPo zRv [] [0, 1, 2] [0, 1] s a T nc ns) := by
    intro n66
    induction n66 with
    | zero =>
      intro i66_3 s66 a66 f66 hb66 hn66
      exact absurd hn66 (Nat.not_lt_zero _)
    | succ n66 ih66 =>
      intro i66_3 s66 a66 f66 hb66 hn66
      refine zEs_run 3 rfl ?_
      refine zEs_icmp rfl (fun g66 => ?_) (fun g66 => ?_)
      · skip
        exact zEs_end rfl rfl (Or.inl ⟨_, _, _, rfl, f66, rfl⟩)
      · skip
        have g66 : ¬ (s66 2) ≤ i66_3 := g66
        rw [hb66] at g66
        refine zEs_run 5 rfl ?_
        refine zEs_ci rfl rfl (x_25 0 3 2 rfl rfl f66.2.2) (fun E hE => by cases hE) (fun v1 => ?_)
        refine zEs_run 3 rfl ?_
        refine zEs_wv rfl rfl (x_26 1 5 4 rfl rfl (fun _ => rfl) f66.2.2) (fun E hE => by cases hE) (fun s2_ a2_ e2_ => ?_)
        have f2_ : zfr [0, 1, 2] [0, 1] s a s2_ a2_ := zfr_tr f66 (zfr_mo e2_ (by decide) (by decide))
        refine zEs_run 2 rfl ?_
        exact ih66 _ _ _ f2_ ((e2_.1 2 (by decide)).trans hb66) (Nat.lt_of_lt_of_le (zdec g66) (Nat.le_of_lt_succ hn66))
  have c23 : ∀ (n23 : Nat) (i23_3 : Int32) (s23 : Nat → Int32) (a23 : Nat → List Int32) (f23 : zfr [0, 1, 2] [0, 1] s a s23 a23) (hb23 : s23 2 = (x1 + x2)), ((x2).toInt - (i23_3).toInt).toNat < n23 → zEs xs (D + 2) 3 23 [some (.ref 1), some (.int x1), some (.int x2), some (.int i23_3)] [] (zx s23 a23 T) nc ns (zPo zRv [] [0, 1, 2] [0, 1] s a T nc ns) := by
    intro n23
    induction n23 with
    | zero =>
      intro i23_3 s23 a23 f23 hb23 hn23
      exact absurd hn23 (Nat.not_lt_zero _)
    | succ n23 ih23 =>
      intro i23_3 s23 a23 f23 hb23 hn23
      refine zEs_run 2 rfl ?_
      refine zEs_icmp rfl (fun g23 => ?_) (fun g23 => ?_)
      · skip
        refine zEs_run 3 rfl ?_
        refine zEs_wv rfl rfl (x_27 1 5 4 rfl rfl (fun _ => rfl) f23.2.2) (fun E hE => by cases hE) (fun s3_ a3_ e3_ => ?_)
        have f3_ : zfr [0, 1, 2] [0, 1] s a s3_ a3_ := zfr_tr f23 (zfr_mo e3_ (by decide) (by decide))
        refine zEs_run 4 rfl ?_
        refine zEs_wv rfl rfl (x_26 1 5 4 rfl rfl (fun _ => rfl) f3_.2.2) (fun E hE => by cases hE) (fun s4_ a4_ e4_ => ?_)
        have f4_ : zfr [0, 1, 2] [0, 1] s a s4_ a4_ := zfr_tr f3_ (zfr_mo e4_ (by decide) (by decide))
        refine zEs_run 2 rfl ?_
        exact c66 _ _ _ _ f4_ ((e4_.1 2 (by decide)).trans ((e3_.1 2 (by decide)).trans hb23)) (Nat.lt_succ_self _)
      · skip
        have g23 : ¬ x2 ≤ i23_3 := g23
        refine zEs_run 8 rfl ?_
        refine zEs_wv rfl rfl (x_26 0 3 2 rfl rfl (fun _ => rfl) f23.2.2) (fun E hE => by cases hE) (fun s5_ a5_ e5_ => ?_)
        have f5_ : zfr [0, 1, 2] [0, 1] s a s5_ a5_ := zfr_tr f23 (zfr_mo e5_ (by decide) (by decide))
        refine zEs_run 2 rfl ?_
        exact ih23 _ _ _ f5_ ((e5_.1 2 (by decide)).trans hb23) (Nat.lt_of_lt_of_le (zdec g23) (Nat.le_of_lt_succ hn23))
  refine zEs_run 12 (h' := zx (zup (zup (zup s 0 _) 1 _) 2 _) a T) rfl ?_
  refine zEs_wv rfl rfl (k_4 hL hr2) (fun E hE => by cases hE) (fun s6_ a6_ e6_ => ?_)
  have f6_ : zfr [0, 1, 2] [0, 1] s a s6_ a6_ := zfr_tr (zfr_s (k := 2) (zfr_s (k := 1) (zfr_s (k := 0) f0 (by decide)) (by decide)) (by decide)) (zfr_mo e6_ (by decide) (by decide))
  refine zEs_run 2 rfl ?_
  exact c23 _ _ _ _ f6_ ((e6_.1 2 (by decide)).trans rfl) (Nat.lt_succ_self _)
theorem k_5 (hL : zaL a) : zMs xs (D + 0) 5 [.ref 1] (zx s a T) nc ns (zPr zRi [] (zx s a T) nc ns) := by
  refine ⟨_, rfl, ?_⟩
  refine zEs_run 4 rfl ?_
  exact zEs_end rfl rfl (Or.inl ⟨_, ⟨_, rfl⟩, rfl⟩)
theorem k_6 (hL : zaL a) : zMs xs (D + 0) 6 [.ref 1] (zx s a T) nc ns (zPr zRi [] (zx s a T) nc ns) := by
  refine ⟨_, rfl, ?_⟩
  refine zEs_run 6 rfl ?_
  exact zEs_end rfl rfl (Or.inl ⟨_, ⟨_, rfl⟩, rfl⟩)
theorem k_7 (hL : zaL a) {x1 : Int32} : zMs xs (D + 0) 7 [.ref 1, .int x1] (zx s a T) nc ns (zPr zRb [] (zx s a T) nc ns) := by
  refine ⟨_, rfl, ?_⟩
  refine zEs_run 1 rfl ?_
  refine zEs_if rfl (fun _ => ?_) (fun _ => ?_)
  · skip
    refine zEs_run 1 rfl ?_
    exact zEs_bret rfl (Or.inl rfl) (Or.inl ⟨_, ⟨_, Or.inl rfl, rfl⟩, rfl⟩)
  · skip
    refine zEs_run 3 rfl ?_
    refine zEs_icmp rfl (fun _ => ?_) (fun _ => ?_)
    · skip
      refine zEs_run 1 rfl ?_
      exact zEs_bret rfl (Or.inl rfl) (Or.inl ⟨_, ⟨_, Or.inl rfl, rfl⟩, rfl⟩)
    · skip
      refine zEs_run 2 rfl ?_
      exact zEs_bret rfl (Or.inr rfl) (Or.inl ⟨_, ⟨_, Or.inr rfl, rfl⟩, rfl⟩)
theorem k_8 (hL : zaL a) {x1 : Int32} : zMs xs (D + 1) 8 [.ref 1, .int x1] (zx s a T) nc ns (zPr zRi [] (zx s a T) nc ns) := by
  refine ⟨_, rfl, ?_⟩
  have c4 : ∀ (n4 : Nat) (i4_2 : Int32) (i4_3 : Int32), (((s 2)).toInt - (i4_3).toInt).toNat < n4 → zEs xs (D + 1) 8 4 [some (.ref 1), some (.int x1), some (.int i4_2), some (.int i4_3)] [] (zx s a T) nc ns (zPr zRi [] (zx s a T) nc ns) := by
    intro n4
    induction n4 with
    | zero =>
      intro i4_2 i4_3 hn4
      exact absurd hn4 (Nat.not_lt_zero _)
    | succ n4 ih4 =>
      intro i4_2 i4_3 hn4
      refine zEs_run 3 rfl ?_
      refine zEs_icmp rfl (fun g4 => ?_) (fun g4 => ?_)
      · skip
        refine zEs_run 1 rfl ?_
        exact zEs_end rfl rfl (Or.inl ⟨_, ⟨_, rfl⟩, rfl⟩)
      · skip
        have g4 : ¬ (s 2) ≤ i4_3 := g4
        have c32 : ∀ (i32_2 : Int32), zEs xs (D + 1) 8 32 [some (.ref 1), some (.int x1), some (.int i32_2), some (.int i4_3)] [] (zx s a T) nc ns (zPr zRi [] (zx s a T) nc ns) := by
          intro i32_2
          refine zEs_run 2 rfl ?_
          exact ih4 _ _ (Nat.lt_of_lt_of_le (zdec g4) (Nat.le_of_lt_succ hn4))
        refine zEs_run 6 rfl ?_
        refine zEs_icmp rfl (fun _ => ?_) (fun _ => ?_)
        · skip
          exact c32 _
        · skip
          refine zEs_run 4 rfl ?_
          refine zEs_ci rfl rfl (x_25 0 3 2 rfl rfl hL) (fun E hE => by cases hE) (fun v2 => ?_)
          refine zEs_run 2 rfl ?_
          exact c32 _
  refine zEs_run 4 rfl ?_
  exact c4 _ _ _ (Nat.lt_succ_self _)
theorem k_9 (hL : zaL a) {x1 : Int32} : zMs xs (D + 2) 9 [.ref 1, .int x1] (zx s a T) nc ns (zPr zRi [] (zx s a T) nc ns) := by
  refine ⟨_, rfl, ?_⟩
  refine zEs_run 4 rfl ?_
  refine zEs_ci rfl rfl (k_8 hL) (fun E hE => by cases hE) (fun v1 => ?_)
  refine zEs_ci rfl rfl (x_25 1 5 4 rfl rfl hL) (fun E hE => by cases hE) (fun v2 => ?_)
  exact zEs_end rfl rfl (Or.inl ⟨_, ⟨_, rfl⟩, rfl⟩)
theorem k_10 (hL : zaL a) {x1 : Int32} : zMs xs (D + 2) 10 [.ref 1, .int x1] (zx s a T) nc ns (zPr zRb [] (zx s a T) nc ns) := by
  refine ⟨_, rfl, ?_⟩
  refine zEs_run 2 rfl ?_
  refine zEs_ci rfl rfl (k_8 hL) (fun E hE => by cases hE) (fun v1 => ?_)
  refine zEs_if rfl (fun _ => ?_) (fun _ => ?_)
  · skip
    refine zEs_run 1 rfl ?_
    exact zEs_bret rfl (Or.inl rfl) (Or.inl ⟨_, ⟨_, Or.inl rfl, rfl⟩, rfl⟩)
  · skip
    refine zEs_run 2 rfl ?_
    exact zEs_bret rfl (Or.inr rfl) (Or.inl ⟨_, ⟨_, Or.inr rfl, rfl⟩, rfl⟩)
theorem k_11 (hL : zaL a) {x1 : Int32} : zMs xs (D + 3) 11 [.ref 1, .int x1] (zx s a T) nc ns (zPr zRi [] (zx s a T) nc ns) := by
  refine ⟨_, rfl, ?_⟩
  refine zEs_run 2 rfl ?_
  refine zEs_ci rfl rfl (k_9 hL) (fun E hE => by cases hE) (fun v1 => ?_)
  refine zEs_run 2 rfl ?_
  refine zEs_if rfl (fun _ => ?_) (fun _ => ?_)
  · skip
    refine zEs_run 2 rfl ?_
    refine zEs_icmp rfl (fun _ => ?_) (fun _ => ?_)
    · skip
      refine zEs_run 1 rfl ?_
      exact zEs_end rfl rfl (Or.inl ⟨_, ⟨_, rfl⟩, rfl⟩)
    · skip
      refine zEs_run 2 rfl ?_
      exact zEs_end rfl rfl (Or.inl ⟨_, ⟨_, rfl⟩, rfl⟩)
  · skip
    refine zEs_run 1 rfl ?_
    exact zEs_end rfl rfl (Or.inl ⟨_, ⟨_, rfl⟩, rfl⟩)
theorem k_12 (hL : zaL a) {x1 : Int32} : zMs xs (D + 1) 12 [.int x1] (zx s a T) nc ns (zPr zRi [] (zx s a T) nc ns) := by
  refine ⟨_, rfl, ?_⟩
  refine zEs_run 1 rfl ?_
  refine zEs_if rfl (fun _ => ?_) (fun _ => ?_)
  · skip
    refine zEs_run 2 rfl ?_
    exact zEs_end rfl rfl (Or.inl ⟨_, ⟨_, rfl⟩, rfl⟩)
  · skip
    refine zEs_run 2 rfl ?_
    refine zEs_icmp rfl (fun _ => ?_) (fun _ => ?_)
    · skip
      refine zEs_run 3 rfl ?_
      refine zEs_ci rfl rfl x_229 (fun E hE => by cases hE) (fun v3 => ?_)
      exact zEs_end rfl rfl (Or.inl ⟨_, ⟨_, rfl⟩, rfl⟩)
    · skip
      refine zEs_run 2 rfl ?_
      exact zEs_end rfl rfl (Or.inl ⟨_, ⟨_, rfl⟩, rfl⟩)
theorem k_13 (hL : zaL a) {x1 : Int32} : zMs xs (D + 3) 13 [.ref 1, .int x1] (zx s a T) nc ns (zPr zRi [] (zx s a T) nc ns) := by
  refine ⟨_, rfl, ?_⟩
  refine zEs_run 2 rfl ?_
  refine zEs_ci rfl rfl (k_9 hL) (fun E hE => by cases hE) (fun v1 => ?_)
  refine zEs_run 3 rfl ?_
  refine zEs_icmp rfl (fun _ => ?_) (fun _ => ?_)
  · skip
    refine zEs_run 4 rfl ?_
    refine zEs_ci rfl rfl (k_6 hL) (fun E hE => by cases hE) (fun v3 => ?_)
    refine zEs_run 1 rfl ?_
    exact zEs_end rfl rfl (Or.inl ⟨_, ⟨_, rfl⟩, rfl⟩)
  · skip
    refine zEs_run 2 rfl ?_
    exact zEs_end rfl rfl (Or.inl ⟨_, ⟨_, rfl⟩, rfl⟩)
theorem k_14 (hL : zaL a) {x1 : Int32} : zMs xs (D + 2) 14 [.ref 1, .int x1] (zx s a T) nc ns (zPr zRi [] (zx s a T) nc ns) := by
  refine ⟨_, rfl, ?_⟩
  refine zEs_run 3 rfl ?_
  refine zEs_ci rfl rfl (k_8 hL) (fun E hE => by cases hE) (fun v1 => ?_)
  refine zEs_run 4 rfl ?_
  exact zEs_end rfl rfl (Or.inl ⟨_, ⟨_, rfl⟩, rfl⟩)
theorem k_17 (hL : zaL a) {x1 : Int32} : zMs xs (D + 1) 17 [.ref 1, .int x1] (zx s a T) nc ns (zPr zRi [] (zx s a T) nc ns) := by
  refine ⟨_, rfl, ?_⟩
  refine zEs_run 3 rfl ?_
  refine zEs_ci rfl rfl (x_25 1 5 4 rfl rfl hL) (fun E hE => by cases hE) (fun v1 => ?_)
  refine zEs_if rfl (fun _ => ?_) (fun _ => ?_)
  · skip
    refine zEs_run 1 rfl ?_
    exact zEs_end rfl rfl (Or.inl ⟨_, ⟨_, rfl⟩, rfl⟩)
  · skip
    refine zEs_run 2 rfl ?_
    exact zEs_end rfl rfl (Or.inl ⟨_, ⟨_, rfl⟩, rfl⟩)
theorem k_16 (hL : zaL a) {x1 : Int32} {x2 : Int32} : zMs xs (D + 2) 16 [.ref 1, .int x1, .int x2] (zx s a T) nc ns (zPr zRi [] (zx s a T) nc ns) := by
  refine ⟨_, rfl, ?_⟩
  have c5 : ∀ (n5 : Nat) (i5_3 : Int32) (i5_4 : Int32), (((s 2)).toInt - (i5_4).toInt).toNat < n5 → zEs xs (D + 2) 16 5 [some (.ref 1), some (.int x1), some (.int x2), some (.int i5_3), some (.int i5_4)] [] (zx s a T) nc ns (zPr zRi [] (zx s a T) nc ns) := by
    intro n5
    induction n5 with
    | zero =>
      intro i5_3 i5_4 hn5
      exact absurd hn5 (Nat.not_lt_zero _)
    | succ n5 ih5 =>
      intro i5_3 i5_4 hn5
      refine zEs_run 3 rfl ?_
      refine zEs_icmp rfl (fun g5 => ?_) (fun g5 => ?_)
      · skip
        refine zEs_run 1 rfl ?_
        exact zEs_end rfl rfl (Or.inl ⟨_, ⟨_, rfl⟩, rfl⟩)
      · skip
        have g5 : ¬ (s 2) ≤ i5_4 := g5
        refine zEs_run 6 rfl ?_
        refine zEs_ci rfl rfl (x_25 0 3 2 rfl rfl hL) (fun E hE => by cases hE) (fun v1 => ?_)
        refine zEs_run 1 rfl ?_
        refine zEs_ci rfl rfl (k_17 hL) (fun E hE => by cases hE) (fun v2 => ?_)
        refine zEs_run 4 rfl ?_
        exact ih5 _ _ (Nat.lt_of_lt_of_le (zdec g5) (Nat.le_of_lt_succ hn5))
  refine zEs_run 4 rfl ?_
  exact c5 _ _ _ (Nat.lt_succ_self _)
theorem k_15 (hL : zaL a) {x1 : Int32} : zMs xs (D + 3) 15 [.ref 1, .int x1] (zx s a T) nc ns (zPr zRi [] (zx s a T) nc ns) := by
  refine ⟨_, rfl, ?_⟩
  have c4 : ∀ (n4 : Nat) (i4_2 : Int32) (i4_3 : Int32) (o4_4 : Option Value) (o4_5 : Option Value), (((s 2)).toInt - (i4_3).toInt).toNat < n4 → zEs xs (D + 3) 15 4 [some (.ref 1), some (.int x1), some (.int i4_2), some (.int i4_3), o4_4, o4_5] [] (zx s a T) nc ns (zPr zRi [] (zx s a T) nc ns) := by
    intro n4
    induction n4 with
    | zero =>
      intro i4_2 i4_3 o4_4 o4_5 hn4
      exact absurd hn4 (Nat.not_lt_zero _)
    | succ n4 ih4 =>
      intro i4_2 i4_3 o4_4 o4_5 hn4
      refine zEs_run 3 rfl ?_
      refine zEs_icmp rfl (fun g4 => ?_) (fun g4 => ?_)
      · skip
        refine zEs_run 1 rfl ?_
        exact zEs_end rfl rfl (Or.inl ⟨_, ⟨_, rfl⟩, rfl⟩)
      · skip
        have g4 : ¬ (s 2) ≤ i4_3 := g4
        have c17 : ∀ (n17 : Nat) (i17_2 : Int32) (i17_4 : Int32) (o17_5 : Option Value), (((s 2)).toInt - (i17_4).toInt).toNat < n17 → zEs xs (D + 3) 15 17 [some (.ref 1), some (.int x1), some (.int i17_2), some (.int i4_3), some (.int i17_4), o17_5] [] (zx s a T) nc ns (zPr zRi [] (zx s a T) nc ns) := by
          intro n17
          induction n17 with
          | zero =>
            intro i17_2 i17_4 o17_5 hn17
            exact absurd hn17 (Nat.not_lt_zero _)
          | succ n17 ih17 =>
            intro i17_2 i17_4 o17_5 hn17
            refine zEs_run 3 rfl ?_
            refine zEs_icmp rfl (fun g17 => ?_) (fun g17 => ?_)
            · skip
              refine zEs_run 2 rfl ?_
              exact ih4 _ _ (some (.int _)) (o17_5) (Nat.lt_of_lt_of_le (zdec g4) (Nat.le_of_lt_succ hn4))
            · skip
              have g17 : ¬ (s 2) ≤ i17_4 := g17
              have c71 : ∀ (i71_5 : Int32) (t71_0 : Int32) (t71_1 : Int32), zEs xs (D + 3) 15 71 [some (.ref 1), some (.int x1), some (.int i17_2), some (.int i4_3), some (.int i17_4), some (.int i71_5)] [.int t71_0, .int t71_1] (zx s a T) nc ns (zPr zRi [] (zx s a T) nc ns) := by
                intro i71_5 t71_0 t71_1
                refine zEs_run 4 rfl ?_
                exact ih17 _ _ (some (.int _)) (Nat.lt_of_lt_of_le (zdec g17) (Nat.le_of_lt_succ hn17))
              refine zEs_run 3 rfl ?_
              refine zEs_ci rfl rfl (x_25 0 3 2 rfl rfl hL) (fun E hE => by cases hE) (fun v1 => ?_)
              refine zEs_run 3 rfl ?_
              refine zEs_ci rfl rfl (x_25 0 3 2 rfl rfl hL) (fun E hE => by cases hE) (fun v2 => ?_)
              refine zEs_run 5 rfl ?_
              refine zEs_icmp rfl (fun _ => ?_) (fun _ => ?_)
              · skip
                refine zEs_run 5 rfl ?_
                refine zEs_ci rfl rfl (k_16 hL) (fun E hE => by cases hE) (fun v4 => ?_)
                exact c71 _ _ _
              · skip
                refine zEs_run 2 rfl ?_
                refine zEs_ci rfl rfl (k_17 hL) (fun E hE => by cases hE) (fun v5 => ?_)
                refine zEs_run 1 rfl ?_
                exact c71 _ _ _
        refine zEs_run 4 rfl ?_
        exact c17 _ _ _ (o4_5) (Nat.lt_succ_self _)
  refine zEs_run 4 rfl ?_
  exact c4 _ _ _ (none) (none) (Nat.lt_succ_self _)
theorem k_18 (hL : zaL a) : zMs xs (D + 1) 18 [.ref 1] (zx s a T) nc ns (zPr zRb [] (zx s a T) nc ns) := by
  refine ⟨_, rfl, ?_⟩
  have c2 : ∀ (n2 : Nat) (i2_1 : Int32) (o2_2 : Option Value), (((s 2)).toInt - (i2_1).toInt).toNat < n2 → zEs xs (D + 1) 18 2 [some (.ref 1), some (.int i2_1), o2_2] [] (zx s a T) nc ns (zPr zRb [] (zx s a T) nc ns) := by
    intro n2
    induction n2 with
    | zero =>
      intro i2_1 o2_2 hn2
      exact absurd hn2 (Nat.not_lt_zero _)
    | succ n2 ih2 =>
      intro i2_1 o2_2 hn2
      refine zEs_run 3 rfl ?_
      refine zEs_icmp rfl (fun g2 => ?_) (fun g2 => ?_)
      · skip
        refine zEs_run 1 rfl ?_
        exact zEs_bret rfl (Or.inr rfl) (Or.inl ⟨_, ⟨_, Or.inr rfl, rfl⟩, rfl⟩)
      · skip
        have g2 : ¬ (s 2) ≤ i2_1 := g2
        have c32 : ∀ (n32 : Nat) (i32_2 : Int32), (((s 2)).toInt - (i32_2).toInt).toNat < n32 → zEs xs (D + 1) 18 32 [some (.ref 1), some (.int i2_1), some (.int i32_2)] [] (zx s a T) nc ns (zPr zRb [] (zx s a T) nc ns) := by
          intro n32
          induction n32 with
          | zero =>
            intro i32_2 hn32
            exact absurd hn32 (Nat.not_lt_zero _)
          | succ n32 ih32 =>
            intro i32_2 hn32
            refine zEs_run 3 rfl ?_
            refine zEs_icmp rfl (fun g32 => ?_) (fun g32 => ?_)
            · skip
              refine zEs_run 2 rfl ?_
              exact ih2 _ (some (.int _)) (Nat.lt_of_lt_of_le (zdec g2) (Nat.le_of_lt_succ hn2))
            · skip
              have g32 : ¬ (s 2) ≤ i32_2 := g32
              refine zEs_run 3 rfl ?_
              refine zEs_ci rfl rfl (x_25 0 3 2 rfl rfl hL) (fun E hE => by cases hE) (fun v1 => ?_)
              refine zEs_run 3 rfl ?_
              refine zEs_ci rfl rfl (x_25 0 3 2 rfl rfl hL) (fun E hE => by cases hE) (fun v2 => ?_)
              refine zEs_icmp rfl (fun _ => ?_) (fun _ => ?_)
              · skip
                refine zEs_run 2 rfl ?_
                exact ih32 _ (Nat.lt_of_lt_of_le (zdec g32) (Nat.le_of_lt_succ hn32))
              · skip
                refine zEs_run 1 rfl ?_
                exact zEs_bret rfl (Or.inl rfl) (Or.inl ⟨_, ⟨_, Or.inl rfl, rfl⟩, rfl⟩)
        refine zEs_run 3 rfl ?_
        refine zEs_ci rfl rfl (x_25 0 3 2 rfl rfl hL) (fun E hE => by cases hE) (fun v4 => ?_)
        refine zEs_ci rfl rfl x_229 (fun E hE => by cases hE) (fun v5 => ?_)
        refine zEs_run 2 rfl ?_
        refine zEs_if rfl (fun _ => ?_) (fun _ => ?_)
        · skip
          refine zEs_run 4 rfl ?_
          exact c32 _ _ (Nat.lt_succ_self _)
        · skip
          refine zEs_run 1 rfl ?_
          exact zEs_bret rfl (Or.inl rfl) (Or.inl ⟨_, ⟨_, Or.inl rfl, rfl⟩, rfl⟩)
  refine zEs_run 2 rfl ?_
  exact c2 _ _ (none) (Nat.lt_succ_self _)
theorem k_20_15 (hL : zaL a) : zMs xs (D + 0) 20 [.ref 15] (zx s a T) nc ns (zPr zRb [] (zx s a T) nc ns) := by
  refine ⟨_, rfl, ?_⟩
  refine zEs_run 3 rfl ?_
  refine zEs_icmp rfl (fun _ => ?_) (fun _ => ?_)
  · skip
    refine zEs_run 1 rfl ?_
    exact zEs_bret rfl (Or.inl rfl) (Or.inl ⟨_, ⟨_, Or.inl rfl, rfl⟩, rfl⟩)
  · skip
    refine zEs_run 2 rfl ?_
    exact zEs_bret rfl (Or.inr rfl) (Or.inl ⟨_, ⟨_, Or.inr rfl, rfl⟩, rfl⟩)
theorem k_20_22 (hL : zaL a) : zMs xs (D + 0) 20 [.ref 22] (zx s a T) nc ns (zPr zRb [] (zx s a T) nc ns) := by
  refine ⟨_, rfl, ?_⟩
  refine zEs_run 3 rfl ?_
  refine zEs_icmp rfl (fun _ => ?_) (fun _ => ?_)
  · skip
    refine zEs_run 1 rfl ?_
    exact zEs_bret rfl (Or.inl rfl) (Or.inl ⟨_, ⟨_, Or.inl rfl, rfl⟩, rfl⟩)
  · skip
    refine zEs_run 2 rfl ?_
    exact zEs_bret rfl (Or.inr rfl) (Or.inl ⟨_, ⟨_, Or.inr rfl, rfl⟩, rfl⟩)
theorem k_21_15 (hL : zaL a) {x1 : Int32} {x2 : Int32} {x3 : Int32} : zMs xs (D + 1) 21 [.ref 15, .int x1, .int x2, .int x3] (zx s a T) nc ns (zPo zRv [] [9] [6, 7, 8] s a T nc ns) := by
  refine ⟨_, rfl, ?_⟩
  have f0 : zfr [9] [6, 7, 8] s a s a := zfr_rf hL
  refine zEs_run 1 rfl ?_
  refine zEs_cb rfl rfl (k_20_15 hL) (fun E hE => by cases hE) (fun v1 hb1 => ?_)
  refine zEs_if rfl (fun _ => ?_) (fun _ => ?_)
  · skip
    refine zEs_run 5 rfl ?_
    refine zEs_wv rfl rfl (x_26 6 17 16 rfl rfl (fun _ => rfl) hL) (fun E hE => by cases hE) (fun s3_ a3_ e3_ => ?_)
    have f3_ : zfr [9] [6, 7, 8] s a s3_ a3_ := zfr_tr f0 (zfr_mo e3_ (by decide) (by decide))
    refine zEs_run 5 rfl ?_
    refine zEs_wv rfl rfl (x_26 7 19 18 rfl rfl (fun _ => rfl) f3_.2.2) (fun E hE => by cases hE) (fun s4_ a4_ e4_ => ?_)
    have f4_ : zfr [9] [6, 7, 8] s a s4_ a4_ := zfr_tr f3_ (zfr_mo e4_ (by decide) (by decide))
    refine zEs_run 5 rfl ?_
    refine zEs_wv rfl rfl (x_26 8 21 20 rfl rfl (fun _ => rfl) f4_.2.2) (fun E hE => by cases hE) (fun s5_ a5_ e5_ => ?_)
    have f5_ : zfr [9] [6, 7, 8] s a s5_ a5_ := zfr_tr f4_ (zfr_mo e5_ (by decide) (by decide))
    refine zEs_run 6 (h' := zx (zup s5_ 9 _) a5_ T) rfl ?_
    exact zEs_end rfl rfl (Or.inl ⟨_, _, _, rfl, (zfr_s (k := 9) f5_ (by decide)), rfl⟩)
  · skip
    exact zEs_end rfl rfl (Or.inl ⟨_, _, _, rfl, f0, rfl⟩)
theorem k_21_22 (hL : zaL a) {x1 : Int32} {x2 : Int32} {x3 : Int32} : zMs xs (D + 1) 21 [.ref 22, .int x1, .int x2, .int x3] (zx s a T) nc ns (zPo zRv [] [10] [9, 10, 11] s a T nc ns) := by
  refine ⟨_, rfl, ?_⟩
  have f0 : zfr [10] [9, 10, 11] s a s a := zfr_rf hL
  refine zEs_run 1 rfl ?_
  refine zEs_cb rfl rfl (k_20_22 hL) (fun E hE => by cases hE) (fun v1 hb1 => ?_)
  refine zEs_if rfl (fun _ => ?_) (fun _ => ?_)
  · skip
    refine zEs_run 5 rfl ?_
    refine zEs_wv rfl rfl (x_26 9 24 23 rfl rfl (fun _ => rfl) hL) (fun E hE => by cases hE) (fun s3_ a3_ e3_ => ?_)
    have f3_ : zfr [10] [9, 10, 11] s a s3_ a3_ := zfr_tr f0 (zfr_mo e3_ (by decide) (by decide))
    refine zEs_run 5 rfl ?_
    refine zEs_wv rfl rfl (x_26 10 26 25 rfl rfl (fun _ => rfl) f3_.2.2) (fun E hE => by cases hE) (fun s4_ a4_ e4_ => ?_)
    have f4_ : zfr [10] [9, 10, 11] s a s4_ a4_ := zfr_tr f3_ (zfr_mo e4_ (by decide) (by decide))
    refine zEs_run 5 rfl ?_
    refine zEs_wv rfl rfl (x_26 11 28 27 rfl rfl (fun _ => rfl) f4_.2.2) (fun E hE => by cases hE) (fun s5_ a5_ e5_ => ?_)
    have f5_ : zfr [10] [9, 10, 11] s a s5_ a5_ := zfr_tr f4_ (zfr_mo e5_ (by decide) (by decide))
    refine zEs_run 6 (h' := zx (zup s5_ 10 _) a5_ T) rfl ?_
    exact zEs_end rfl rfl (Or.inl ⟨_, _, _, rfl, (zfr_s (k := 10) f5_ (by decide)), rfl⟩)
  · skip
    exact zEs_end rfl rfl (Or.inl ⟨_, _, _, rfl, f0, rfl⟩)
theorem k_22_15 (hL : zaL a) {x1 : Int32} : zMs xs (D + 2) 22 [.ref 15, .int x1] (zx s a T) nc ns (zPo zRv [] [9] [6, 7, 8] s a T nc ns) := by
  refine ⟨_, rfl, ?_⟩
  have f0 : zfr [9] [6, 7, 8] s a s a := zfr_rf hL
  have c12 : ∀ (n12 : Nat) (i12_2 : Int32) (i12_3 : Int32) (s12 : Nat → Int32) (a12 : Nat → List Int32) (f12 : zfr [9] [6, 7, 8] s a s12 a12), ((i12_2).toInt - (i12_3).toInt).toNat < n12 → zEs xs (D + 2) 22 12 [some (.ref 15), some (.int x1), some (.int i12_2), some (.int i12_3)] [] (zx s12 a12 T) nc ns (zPo zRv [] [9] [6, 7, 8] s a T nc ns) := by
    intro n12
    induction n12 with
    | zero =>
      intro i12_2 i12_3 s12 a12 f12 hn12
      exact absurd hn12 (Nat.not_lt_zero _)
    | succ n12 ih12 =>
      intro i12_2 i12_3 s12 a12 f12 hn12
      refine zEs_run 2 rfl ?_
      refine zEs_icmp rfl (fun g12 => ?_) (fun g12 => ?_)
      · skip
        exact zEs_end rfl rfl (Or.inl ⟨_, _, _, rfl, f12, rfl⟩)
      · skip
        have g12 : ¬ i12_2 ≤ i12_3 := g12
        have c59 : ∀ (s59 : Nat → Int32) (a59 : Nat → List Int32) (f59 : zfr [9] [6, 7, 8] s a s59 a59), zEs xs (D + 2) 22 59 [some (.ref 15), some (.int x1), some (.int i12_2), some (.int i12_3)] [] (zx s59 a59 T) nc ns (zPo zRv [] [9] [6, 7, 8] s a T nc ns) := by
          intro s59 a59 f59
          refine zEs_run 2 rfl ?_
          exact ih12 _ _ _ _ f59 (Nat.lt_of_lt_of_le (zdec g12) (Nat.le_of_lt_succ hn12))
        refine zEs_run 3 rfl ?_
        refine zEs_ci rfl rfl (x_25 7 19 18 rfl rfl f12.2.2) (fun E hE => by cases hE) (fun v1 => ?_)
        refine zEs_run 3 rfl ?_
        refine zEs_icmp rfl (fun _ => ?_) (fun _ => ?_)
        · skip
          exact c59 _ _ f12
        · skip
          refine zEs_run 4 rfl ?_
          refine zEs_ci rfl rfl (x_25 6 17 16 rfl rfl f12.2.2) (fun E hE => by cases hE) (fun v3 => ?_)
          refine zEs_run 3 rfl ?_
          refine zEs_ci rfl rfl (x_25 7 19 18 rfl rfl f12.2.2) (fun E hE => by cases hE) (fun v4 => ?_)
          refine zEs_run 3 rfl ?_
          refine zEs_ci rfl rfl (x_25 8 21 20 rfl rfl f12.2.2) (fun E hE => by cases hE) (fun v5 => ?_)
          refine zEs_wv rfl rfl (k_21_15 f12.2.2) (fun E hE => by cases hE) (fun s6_ a6_ e6_ => ?_)
          have f6_ : zfr [9] [6, 7, 8] s a s6_ a6_ := zfr_tr f12 (zfr_mo e6_ (by decide) (by decide))
          exact c59 _ _ f6_
  refine zEs_run 8 (h' := zx (zup s 9 _) a T) rfl ?_
  exact c12 _ _ _ _ _ (zfr_s (k := 9) f0 (by decide)) (Nat.lt_succ_self _)
theorem k_22_22 (hL : zaL a) {x1 : Int32} : zMs xs (D + 2) 22 [.ref 22, .int x1] (zx s a T) nc ns (zPo zRv [] [10] [9, 10, 11] s a T nc ns) := by
  refine ⟨_, rfl, ?_⟩
  have f0 : zfr [10] [9, 10, 11] s a s a := zfr_rf hL
  have c12 : ∀ (n12 : Nat) (i12_2 : Int32) (i12_3 : Int32) (s12 : Nat → Int32) (a12 : Nat → List Int32) (f12 : zfr [10] [9, 10, 11] s a s12 a12), ((i12_2).toInt - (i12_3).toInt).toNat < n12 → zEs xs (D + 2) 22 12 [some (.ref 22), some (.int x1), some (.int i12_2), some (.int i12_3)] [] (zx s12 a12 T) nc ns (zPo zRv [] [10] [9, 10, 11] s a T nc ns) := by
    intro n12
    induction n12 with
    | zero =>
      intro i12_2 i12_3 s12 a12 f12 hn12
      exact absurd hn12 (Nat.not_lt_zero _)
    | succ n12 ih12 =>
      intro i12_2 i12_3 s12 a12 f12 hn12
      refine zEs_run 2 rfl ?_
      refine zEs_icmp rfl (fun g12 => ?_) (fun g12 => ?_)
      · skip
        exact zEs_end rfl rfl (Or.inl ⟨_, _, _, rfl, f12, rfl⟩)
      · skip
        have g12 : ¬ i12_2 ≤ i12_3 := g12
        have c59 : ∀ (s59 : Nat → Int32) (a59 : Nat → List Int32) (f59 : zfr [10] [9, 10, 11] s a s59 a59), zEs xs (D + 2) 22 59 [some (.ref 22), some (.int x1), some (.int i12_2), some (.int i12_3)] [] (zx s59 a59 T) nc ns (zPo zRv [] [10] [9, 10, 11] s a T nc ns) := by
          intro s59 a59 f59
          refine zEs_run 2 rfl ?_
          exact ih12 _ _ _ _ f59 (Nat.lt_of_lt_of_le (zdec g12) (Nat.le_of_lt_succ hn12))
        refine zEs_run 3 rfl ?_
        refine zEs_ci rfl rfl (x_25 10 26 25 rfl rfl f12.2.2) (fun E hE => by cases hE) (fun v1 => ?_)
        refine zEs_run 3 rfl ?_
        refine zEs_icmp rfl (fun _ => ?_) (fun _ => ?_)
        · skip
          exact c59 _ _ f12
        · skip
          refine zEs_run 4 rfl ?_
          refine zEs_ci rfl rfl (x_25 9 24 23 rfl rfl f12.2.2) (fun E hE => by cases hE) (fun v3 => ?_)
          refine zEs_run 3 rfl ?_
          refine zEs_ci rfl rfl (x_25 10 26 25 rfl rfl f12.2.2) (fun E hE => by cases hE) (fun v4 => ?_)
          refine zEs_run 3 rfl ?_
          refine zEs_ci rfl rfl (x_25 11 28 27 rfl rfl f12.2.2) (fun E hE => by cases hE) (fun v5 => ?_)
          refine zEs_wv rfl rfl (k_21_22 f12.2.2) (fun E hE => by cases hE) (fun s6_ a6_ e6_ => ?_)
          have f6_ : zfr [10] [9, 10, 11] s a s6_ a6_ := zfr_tr f12 (zfr_mo e6_ (by decide) (by decide))
          exact c59 _ _ f6_
  refine zEs_run 8 (h' := zx (zup s 10 _) a T) rfl ?_
  exact c12 _ _ _ _ _ (zfr_s (k := 10) f0 (by decide)) (Nat.lt_succ_self _)
theorem k_23_15 (hL : zaL a) {x1 : Int32} {x2 : Int32} : zMs xs (D + 1) 23 [.ref 15, .int x1, .int x2] (zx s a T) nc ns (zPr zRi [] (zx s a T) nc ns) := by
  refine ⟨_, rfl, ?_⟩
  have c5 : ∀ (n5 : Nat) (i5_3 : Int32) (i5_4 : Int32), (((s 9)).toInt - (i5_4).toInt).toNat < n5 → zEs xs (D + 1) 23 5 [some (.ref 15), some (.int x1), some (.int x2), some (.int i5_3), some (.int i5_4)] [] (zx s a T) nc ns (zPr zRi [] (zx s a T) nc ns) := by
    intro n5
    induction n5 with
    | zero =>
      intro i5_3 i5_4 hn5
      exact absurd hn5 (Nat.not_lt_zero _)
    | succ n5 ih5 =>
      intro i5_3 i5_4 hn5
      refine zEs_run 3 rfl ?_
      refine zEs_icmp rfl (fun g5 => ?_) (fun g5 => ?_)
      · skip
        refine zEs_run 1 rfl ?_
        exact zEs_end rfl rfl (Or.inl ⟨_, ⟨_, rfl⟩, rfl⟩)
      · skip
        have g5 : ¬ (s 9) ≤ i5_4 := g5
        have c43 : ∀ (i43_3 : Int32), zEs xs (D + 1) 23 43 [some (.ref 15), some (.int x1), some (.int x2), some (.int i43_3), some (.int i5_4)] [] (zx s a T) nc ns (zPr zRi [] (zx s a T) nc ns) := by
          intro i43_3
          refine zEs_run 2 rfl ?_
          exact ih5 _ _ (Nat.lt_of_lt_of_le (zdec g5) (Nat.le_of_lt_succ hn5))
        refine zEs_run 3 rfl ?_
        refine zEs_ci rfl rfl (x_25 6 17 16 rfl rfl hL) (fun E hE => by cases hE) (fun v1 => ?_)
        refine zEs_run 1 rfl ?_
        refine zEs_icmp rfl (fun _ => ?_) (fun _ => ?_)
        · skip
          exact c43 _
        · skip
          refine zEs_run 3 rfl ?_
          refine zEs_ci rfl rfl (x_25 6 17 16 rfl rfl hL) (fun E hE => by cases hE) (fun v3 => ?_)
          refine zEs_run 1 rfl ?_
          refine zEs_icmp rfl (fun _ => ?_) (fun _ => ?_)
          · skip
            exact c43 _
          · skip
            refine zEs_run 1 rfl ?_
            exact c43 _
  refine zEs_run 4 rfl ?_
  exact c5 _ _ _ (Nat.lt_succ_self _)
theorem k_23_22 (hL : zaL a) {x1 : Int32} {x2 : Int32} : zMs xs (D + 1) 23 [.ref 22, .int x1, .int x2] (zx s a T) nc ns (zPr zRi [] (zx s a T) nc ns) := by
  refine ⟨_, rfl, ?_⟩
  have c5 : ∀ (n5 : Nat) (i5_3 : Int32) (i5_4 : Int32), (((s 10)).toInt - (i5_4).toInt).toNat < n5 → zEs xs (D + 1) 23 5 [some (.ref 22), some (.int x1), some (.int x2), some (.int i5_3), some (.int i5_4)] [] (zx s a T) nc ns (zPr zRi [] (zx s a T) nc ns) := by
    intro n5
    induction n5 with
    | zero =>
      intro i5_3 i5_4 hn5
      exact absurd hn5 (Nat.not_lt_zero _)
    | succ n5 ih5 =>
      intro i5_3 i5_4 hn5
      refine zEs_run 3 rfl ?_
      refine zEs_icmp rfl (fun g5 => ?_) (fun g5 => ?_)
      · skip
        refine zEs_run 1 rfl ?_
        exact zEs_end rfl rfl (Or.inl ⟨_, ⟨_, rfl⟩, rfl⟩)
      · skip
        have g5 : ¬ (s 10) ≤ i5_4 := g5
        have c43 : ∀ (i43_3 : Int32), zEs xs (D + 1) 23 43 [some (.ref 22), some (.int x1), some (.int x2), some (.int i43_3), some (.int i5_4)] [] (zx s a T) nc ns (zPr zRi [] (zx s a T) nc ns) := by
          intro i43_3
          refine zEs_run 2 rfl ?_
          exact ih5 _ _ (Nat.lt_of_lt_of_le (zdec g5) (Nat.le_of_lt_succ hn5))
        refine zEs_run 3 rfl ?_
        refine zEs_ci rfl rfl (x_25 9 24 23 rfl rfl hL) (fun E hE => by cases hE) (fun v1 => ?_)
        refine zEs_run 1 rfl ?_
        refine zEs_icmp rfl (fun _ => ?_) (fun _ => ?_)
        · skip
          exact c43 _
        · skip
          refine zEs_run 3 rfl ?_
          refine zEs_ci rfl rfl (x_25 9 24 23 rfl rfl hL) (fun E hE => by cases hE) (fun v3 => ?_)
          refine zEs_run 1 rfl ?_
          refine zEs_icmp rfl (fun _ => ?_) (fun _ => ?_)
          · skip
            exact c43 _
          · skip
            refine zEs_run 1 rfl ?_
            exact c43 _
  refine zEs_run 4 rfl ?_
  exact c5 _ _ _ (Nat.lt_succ_self _)
theorem k_30 (hL : zaL a) : zMs xs (D + 0) 30 [.ref 29] (zx s a T) nc ns (zPo zRv [] [11] [] s a T nc ns) := by
  refine ⟨_, rfl, ?_⟩
  have f0 : zfr [11] [] s a s a := zfr_rf hL
  refine zEs_run 3 (h' := zx (zup s 11 _) a T) rfl ?_
  exact zEs_end rfl rfl (Or.inl ⟨_, _, _, rfl, (zfr_s (k := 11) f0 (by decide)), rfl⟩)
theorem k_31 (hL : zaL a) {x1 : Int32} {x2 : Int32} {x3 : Int32} : zMs xs (D + 1) 31 [.ref 29, .int x1, .int x2, .int x3] (zx s a T) nc ns (zPo zRv [] [11, 12, 13] [12, 13, 14] s a T nc ns) := by
  refine ⟨_, rfl, ?_⟩
  have f0 : zfr [11, 12, 13] [12, 13, 14] s a s a := zfr_rf hL
  have c28 : ∀ (s28 : Nat → Int32) (a28 : Nat → List Int32) (f28 : zfr [11, 12, 13] [12, 13, 14] s a s28 a28), zEs xs (D + 1) 31 28 [some (.ref 29), some (.int x1), some (.int x2), some (.int x3)] [] (zx s28 a28 T) nc ns (zPo zRv [] [11, 12, 13] [12, 13, 14] s a T nc ns) := by
    intro s28 a28 f28
    refine zEs_run 3 rfl ?_
    refine zEs_icmp rfl (fun _ => ?_) (fun _ => ?_)
    · skip
      exact zEs_end rfl rfl (Or.inl ⟨_, _, _, rfl, f28, rfl⟩)
    · skip
      refine zEs_run 5 rfl ?_
      refine zEs_wv rfl rfl (x_26 12 31 30 rfl rfl (fun _ => rfl) f28.2.2) (fun E hE => by cases hE) (fun s2_ a2_ e2_ => ?_)
      have f2_ : zfr [11, 12, 13] [12, 13, 14] s a s2_ a2_ := zfr_tr f28 (zfr_mo e2_ (by decide) (by decide))
      refine zEs_run 5 rfl ?_
      refine zEs_wv rfl rfl (x_26 13 33 32 rfl rfl (fun _ => rfl) f2_.2.2) (fun E hE => by cases hE) (fun s3_ a3_ e3_ => ?_)
      have f3_ : zfr [11, 12, 13] [12, 13, 14] s a s3_ a3_ := zfr_tr f2_ (zfr_mo e3_ (by decide) (by decide))
      refine zEs_run 5 rfl ?_
      refine zEs_wv rfl rfl (x_26 14 35 34 rfl rfl (fun _ => rfl) f3_.2.2) (fun E hE => by cases hE) (fun s4_ a4_ e4_ => ?_)
      have f4_ : zfr [11, 12, 13] [12, 13, 14] s a s4_ a4_ := zfr_tr f3_ (zfr_mo e4_ (by decide) (by decide))
      refine zEs_run 6 (h' := zx (zup s4_ 11 _) a4_ T) rfl ?_
      exact zEs_end rfl rfl (Or.inl ⟨_, _, _, rfl, (zfr_s (k := 11) f4_ (by decide)), rfl⟩)
  refine zEs_run 2 rfl ?_
  refine zEs_icmp rfl (fun _ => ?_) (fun _ => ?_)
  · skip
    refine zEs_run 6 (h' := zx (zup s 12 _) a T) rfl ?_
    exact c28 _ _ (zfr_s (k := 12) f0 (by decide))
  · skip
    refine zEs_run 7 (h' := zx (zup s 13 _) a T) rfl ?_
    exact c28 _ _ (zfr_s (k := 13) f0 (by decide))
theorem k_37 (hL : zaL a) {x1 : Int32} {x2 : Int32} : zMs xs (D + 1) 37 [.ref 29, .int x1, .int x2] (zx s a T) nc ns (zPr zRb [] (zx s a T) nc ns) := by
  refine ⟨_, rfl, ?_⟩
  refine zEs_run 3 rfl ?_
  refine zEs_ci rfl rfl (x_25 13 33 32 rfl rfl hL) (fun E hE => by cases hE) (fun v1 => ?_)
  refine zEs_run 1 rfl ?_
  refine zEs_icmp rfl (fun _ => ?_) (fun _ => ?_)
  · skip
    refine zEs_run 1 rfl ?_
    exact zEs_bret rfl (Or.inl rfl) (Or.inl ⟨_, ⟨_, Or.inl rfl, rfl⟩, rfl⟩)
  · skip
    refine zEs_run 3 rfl ?_
    refine zEs_ci rfl rfl (x_25 12 31 30 rfl rfl hL) (fun E hE => by cases hE) (fun v3 => ?_)
    refine zEs_run 3 rfl ?_
    refine zEs_icmp rfl (fun _ => ?_) (fun _ => ?_)
    · skip
      refine zEs_run 1 rfl ?_
      exact zEs_bret rfl (Or.inl rfl) (Or.inl ⟨_, ⟨_, Or.inl rfl, rfl⟩, rfl⟩)
    · skip
      refine zEs_run 2 rfl ?_
      exact zEs_bret rfl (Or.inr rfl) (Or.inl ⟨_, ⟨_, Or.inr rfl, rfl⟩, rfl⟩)
theorem k_36 (hL : zaL a) {x1 : Int32} : zMs xs (D + 1) 36 [.ref 29, .int x1] (zx s a T) nc ns (zPr zRb [] (zx s a T) nc ns) := by
  refine ⟨_, rfl, ?_⟩
  have c4 : ∀ (n4 : Nat) (i4_2 : Int32), (((s 11)).toInt - (i4_2).toInt).toNat < n4 → zEs xs (D + 1) 36 4 [some (.ref 29), some (.int x1), some (.int i4_2)] [] (zx s a T) nc ns (zPr zRb [] (zx s a T) nc ns) := by
    intro n4
    induction n4 with
    | zero =>
      intro i4_2 hn4
      exact absurd hn4 (Nat.not_lt_zero _)
    | succ n4 ih4 =>
      intro i4_2 hn4
      refine zEs_run 3 rfl ?_
      refine zEs_icmp rfl (fun g4 => ?_) (fun g4 => ?_)
      · skip
        refine zEs_run 1 rfl ?_
        exact zEs_bret rfl (Or.inl rfl) (Or.inl ⟨_, ⟨_, Or.inl rfl, rfl⟩, rfl⟩)
      · skip
        have g4 : ¬ (s 11) ≤ i4_2 := g4
        have c52 : zEs xs (D + 1) 36 52 [some (.ref 29), some (.int x1), some (.int i4_2)] [] (zx s a T) nc ns (zPr zRb [] (zx s a T) nc ns) := by
          refine zEs_run 2 rfl ?_
          exact ih4 _ (Nat.lt_of_lt_of_le (zdec g4) (Nat.le_of_lt_succ hn4))
        refine zEs_run 3 rfl ?_
        refine zEs_ci rfl rfl (x_25 12 31 30 rfl rfl hL) (fun E hE => by cases hE) (fun v1 => ?_)
        refine zEs_run 3 rfl ?_
        refine zEs_ci rfl rfl (x_25 12 31 30 rfl rfl hL) (fun E hE => by cases hE) (fun v2 => ?_)
        refine zEs_icmp rfl (fun _ => ?_) (fun _ => ?_)
        · skip
          exact c52 
        · skip
          refine zEs_run 3 rfl ?_
          refine zEs_ci rfl rfl (x_25 13 33 32 rfl rfl hL) (fun E hE => by cases hE) (fun v4 => ?_)
          refine zEs_run 3 rfl ?_
          refine zEs_ci rfl rfl (x_25 13 33 32 rfl rfl hL) (fun E hE => by cases hE) (fun v5 => ?_)
          refine zEs_icmp rfl (fun _ => ?_) (fun _ => ?_)
          · skip
            exact c52 
          · skip
            refine zEs_run 1 rfl ?_
            exact zEs_bret rfl (Or.inr rfl) (Or.inl ⟨_, ⟨_, Or.inr rfl, rfl⟩, rfl⟩)
  refine zEs_run 4 rfl ?_
  exact c4 _ _ (Nat.lt_succ_self _)
theorem k_35 (hL : zaL a) {x1 : Int32} : zMs xs (D + 2) 35 [.ref 29, .int x1] (zx s a T) nc ns (zPr zRi [] (zx s a T) nc ns) := by
  refine ⟨_, rfl, ?_⟩
  have c4 : ∀ (n4 : Nat) (i4_2 : Int32) (i4_3 : Int32) (o4_4 : Option Value) (o4_5 : Option Value), (((s 11)).toInt - (i4_3).toInt).toNat < n4 → zEs xs (D + 2) 35 4 [some (.ref 29), some (.int x1), some (.int i4_2), some (.int i4_3), o4_4, o4_5] [] (zx s a T) nc ns (zPr zRi [] (zx s a T) nc ns) := by
    intro n4
    induction n4 with
    | zero =>
      intro i4_2 i4_3 o4_4 o4_5 hn4
      exact absurd hn4 (Nat.not_lt_zero _)
    | succ n4 ih4 =>
      intro i4_2 i4_3 o4_4 o4_5 hn4
      refine zEs_run 3 rfl ?_
      refine zEs_icmp rfl (fun g4 => ?_) (fun g4 => ?_)
      · skip
        refine zEs_run 1 rfl ?_
        exact zEs_end rfl rfl (Or.inl ⟨_, ⟨_, rfl⟩, rfl⟩)
      · skip
        have g4 : ¬ (s 11) ≤ i4_3 := g4
        have c65 : ∀ (i65_2 : Int32) (i65_4 : Int32) (i65_5 : Int32), zEs xs (D + 2) 35 65 [some (.ref 29), some (.int x1), some (.int i65_2), some (.int i4_3), some (.int i65_4), some (.int i65_5)] [] (zx s a T) nc ns (zPr zRi [] (zx s a T) nc ns) := by
          intro i65_2 i65_4 i65_5
          refine zEs_run 2 rfl ?_
          exact ih4 _ _ (some (.int _)) (some (.int _)) (Nat.lt_of_lt_of_le (zdec g4) (Nat.le_of_lt_succ hn4))
        have c38 : ∀ (i38_4 : Int32) (t38_0 : Int32), zEs xs (D + 2) 35 38 [some (.ref 29), some (.int x1), some (.int i4_2), some (.int i4_3), some (.int i38_4), o4_5] [.int t38_0] (zx s a T) nc ns (zPr zRi [] (zx s a T) nc ns) := by
          intro i38_4 t38_0
          refine zEs_run 2 rfl ?_
          refine zEs_if rfl (fun _ => ?_) (fun _ => ?_)
          · skip
            exact c65 _ _ _
          · skip
            refine zEs_run 3 rfl ?_
            refine zEs_cb rfl rfl (k_37 hL) (fun E hE => by cases hE) (fun v2 hb2 => ?_)
            refine zEs_if rfl (fun _ => ?_) (fun _ => ?_)
            · skip
              exact c65 _ _ _
            · skip
              refine zEs_run 2 rfl ?_
              refine zEs_cb rfl rfl (k_36 hL) (fun E hE => by cases hE) (fun v4 hb4 => ?_)
              refine zEs_if rfl (fun _ => ?_) (fun _ => ?_)
              · skip
                exact c65 _ _ _
              · skip
                refine zEs_run 2 rfl ?_
                exact c65 _ _ _
        have c33 : ∀ (i33_4 : Int32), zEs xs (D + 2) 35 33 [some (.ref 29), some (.int x1), some (.int i4_2), some (.int i4_3), some (.int i33_4), o4_5] [] (zx s a T) nc ns (zPr zRi [] (zx s a T) nc ns) := by
          intro i33_4
          refine zEs_run 2 rfl ?_
          exact c38 _ _
        refine zEs_run 3 rfl ?_
        refine zEs_ci rfl rfl (x_25 12 31 30 rfl rfl hL) (fun E hE => by cases hE) (fun v6 => ?_)
        refine zEs_run 3 rfl ?_
        refine zEs_icmp rfl (fun _ => ?_) (fun _ => ?_)
        · skip
          exact c33 _
        · skip
          refine zEs_run 2 rfl ?_
          refine zEs_icmp rfl (fun _ => ?_) (fun _ => ?_)
          · skip
            refine zEs_run 1 rfl ?_
            exact c38 _ _
          · skip
            exact c33 _
  refine zEs_run 4 rfl ?_
  exact c4 _ _ _ (none) (none) (Nat.lt_succ_self _)
theorem k_34 (hL : zaL a) {x1 : Int32} {x2 : Int32} {x3 : Int32} {x4 : Int32} : zMs xs (D + 0) 34 [.int x1, .int x2, .int x3, .int x4] (zx s a T) nc ns (zPr zRi [] (zx s a T) nc ns) := by
  refine ⟨_, rfl, ?_⟩
  refine zEs_run 2 rfl ?_
  refine zEs_icmp rfl (fun _ => ?_) (fun _ => ?_)
  · skip
    refine zEs_run 2 rfl ?_
    refine zEs_icmp rfl (fun _ => ?_) (fun _ => ?_)
    · skip
      refine zEs_run 1 rfl ?_
      exact zEs_end rfl rfl (Or.inl ⟨_, ⟨_, rfl⟩, rfl⟩)
    · skip
      refine zEs_run 2 rfl ?_
      exact zEs_end rfl rfl (Or.inl ⟨_, ⟨_, rfl⟩, rfl⟩)
  · skip
    refine zEs_run 1 rfl ?_
    exact zEs_end rfl rfl (Or.inl ⟨_, ⟨_, rfl⟩, rfl⟩)
theorem k_33 (hL : zaL a) {x1 : Int32} {x2 : Int32} {x3 : Int32} : zMs xs (D + 2) 33 [.ref 29, .int x1, .int x2, .int x3] (zx s a T) nc ns (zPr zRb [] (zx s a T) nc ns) := by
  refine ⟨_, rfl, ?_⟩
  have c6 : ∀ (n6 : Nat) (i6_4 : Int32) (i6_5 : Int32) (o6_6 : Option Value) (o6_7 : Option Value), (((s 11)).toInt - (i6_5).toInt).toNat < n6 → zEs xs (D + 2) 33 6 [some (.ref 29), some (.int x1), some (.int x2), some (.int x3), some (.int i6_4), some (.int i6_5), o6_6, o6_7] [] (zx s a T) nc ns (zPr zRb [] (zx s a T) nc ns) := by
    intro n6
    induction n6 with
    | zero =>
      intro i6_4 i6_5 o6_6 o6_7 hn6
      exact absurd hn6 (Nat.not_lt_zero _)
    | succ n6 ih6 =>
      intro i6_4 i6_5 o6_6 o6_7 hn6
      refine zEs_run 3 rfl ?_
      refine zEs_icmp rfl (fun g6 => ?_) (fun g6 => ?_)
      · skip
        refine zEs_run 1 rfl ?_
        refine zEs_ci rfl rfl x_229 (fun E hE => by cases hE) (fun v1 => ?_)
        refine zEs_run 1 rfl ?_
        refine zEs_icmp rfl (fun _ => ?_) (fun _ => ?_)
        · skip
          refine zEs_run 1 rfl ?_
          exact zEs_bret rfl (Or.inl rfl) (Or.inl ⟨_, ⟨_, Or.inl rfl, rfl⟩, rfl⟩)
        · skip
          refine zEs_run 2 rfl ?_
          exact zEs_bret rfl (Or.inr rfl) (Or.inl ⟨_, ⟨_, Or.inr rfl, rfl⟩, rfl⟩)
      · skip
        have g6 : ¬ (s 11) ≤ i6_5 := g6
        have c96 : ∀ (i96_4 : Int32) (i96_6 : Int32) (i96_7 : Int32), zEs xs (D + 2) 33 96 [some (.ref 29), some (.int x1), some (.int x2), some (.int x3), some (.int i96_4), some (.int i6_5), some (.int i96_6), some (.int i96_7)] [] (zx s a T) nc ns (zPr zRb [] (zx s a T) nc ns) := by
          intro i96_4 i96_6 i96_7
          refine zEs_run 2 rfl ?_
          exact ih6 _ _ (some (.int _)) (some (.int _)) (Nat.lt_of_lt_of_le (zdec g6) (Nat.le_of_lt_succ hn6))
        have c92 : ∀ (i92_6 : Int32) (i92_7 : Int32) (t92_0 : Int32) (t92_1 : Int32) (t92_2 : Int32), zEs xs (D + 2) 33 92 [some (.ref 29), some (.int x1), some (.int x2), some (.int x3), some (.int i6_4), some (.int i6_5), some (.int i92_6), some (.int i92_7)] [.int t92_0, .int t92_1, .int t92_2] (zx s a T) nc ns (zPr zRb [] (zx s a T) nc ns) := by
          intro i92_6 i92_7 t92_0 t92_1 t92_2
          refine zEs_run 3 rfl ?_
          exact c96 _ _ _
        refine zEs_run 3 rfl ?_
        refine zEs_ci rfl rfl (x_25 12 31 30 rfl rfl hL) (fun E hE => by cases hE) (fun v3 => ?_)
        refine zEs_run 8 rfl ?_
        refine zEs_ci rfl rfl (x_25 12 31 30 rfl rfl hL) (fun E hE => by cases hE) (fun v4 => ?_)
        refine zEs_run 6 rfl ?_
        refine zEs_cb rfl rfl (k_37 hL) (fun E hE => by cases hE) (fun v5 hb5 => ?_)
        refine zEs_if rfl (fun _ => ?_) (fun _ => ?_)
        · skip
          exact c96 _ _ _
        · skip
          refine zEs_run 4 rfl ?_
          refine zEs_ci rfl rfl (x_25 13 33 32 rfl rfl hL) (fun E hE => by cases hE) (fun v7 => ?_)
          refine zEs_run 2 rfl ?_
          refine zEs_ci rfl rfl (k_34 hL) (fun E hE => by cases hE) (fun v8 => ?_)
          refine zEs_run 1 rfl ?_
          refine zEs_icmp rfl (fun _ => ?_) (fun _ => ?_)
          · skip
            exact c96 _ _ _
          · skip
            refine zEs_run 4 rfl ?_
            refine zEs_icmp rfl (fun _ => ?_) (fun _ => ?_)
            · skip
              refine zEs_run 1 rfl ?_
              exact c92 _ _ _ _ _
            · skip
              refine zEs_run 2 rfl ?_
              exact c92 _ _ _ _ _
  refine zEs_run 4 rfl ?_
  exact c6 _ _ _ (none) (none) (Nat.lt_succ_self _)
theorem k_32 (hL : zaL a) {x1 : Int32} {x2 : Int32} : zMs xs (D + 3) 32 [.ref 29, .int x1, .int x2] (zx s a T) nc ns (zPr zRi [] (zx s a T) nc ns) := by
  refine ⟨_, rfl, ?_⟩
  have c27 : ∀ (n27 : Nat) (i27_3 : Int32) (i27_4 : Int32), ((i27_3).toInt - (i27_4).toInt).toNat < n27 → zEs xs (D + 3) 32 27 [some (.ref 29), some (.int x1), some (.int x2), some (.int i27_3), some (.int i27_4)] [] (zx s a T) nc ns (zPr zRi [] (zx s a T) nc ns) := by
    intro n27
    induction n27 with
    | zero =>
      intro i27_3 i27_4 hn27
      exact absurd hn27 (Nat.not_lt_zero _)
    | succ n27 ih27 =>
      intro i27_3 i27_4 hn27
      refine zEs_run 2 rfl ?_
      refine zEs_icmp rfl (fun g27 => ?_) (fun g27 => ?_)
      · skip
        refine zEs_run 1 rfl ?_
        exact zEs_end rfl rfl (Or.inl ⟨_, ⟨_, rfl⟩, rfl⟩)
      · skip
        have g27 : ¬ i27_3 ≤ i27_4 := g27
        refine zEs_run 4 rfl ?_
        refine zEs_cb rfl rfl (k_33 hL) (fun E hE => by cases hE) (fun v1 hb1 => ?_)
        refine zEs_if rfl (fun _ => ?_) (fun _ => ?_)
        · skip
          refine zEs_run 2 rfl ?_
          exact ih27 _ _ (Nat.lt_of_lt_of_le (zdec g27) (Nat.le_of_lt_succ hn27))
        · skip
          refine zEs_run 1 rfl ?_
          exact zEs_end rfl rfl (Or.inl ⟨_, ⟨_, rfl⟩, rfl⟩)
  have c23 : ∀ (t23_0 : Int32), zEs xs (D + 3) 32 23 [some (.ref 29), some (.int x1), some (.int x2), none, none] [.int t23_0] (zx s a T) nc ns (zPr zRi [] (zx s a T) nc ns) := by
    intro t23_0
    refine zEs_run 3 rfl ?_
    exact c27 _ _ _ (Nat.lt_succ_self _)
  refine zEs_run 2 rfl ?_
  refine zEs_icmp rfl (fun _ => ?_) (fun _ => ?_)
  · skip
    refine zEs_run 2 rfl ?_
    refine zEs_icmp rfl (fun _ => ?_) (fun _ => ?_)
    · skip
      refine zEs_run 1 rfl ?_
      exact c23 _
    · skip
      refine zEs_run 2 rfl ?_
      exact c23 _
  · skip
    refine zEs_run 2 rfl ?_
    refine zEs_ci rfl rfl (k_35 hL) (fun E hE => by cases hE) (fun v5 => ?_)
    exact zEs_end rfl rfl (Or.inl ⟨_, ⟨_, rfl⟩, rfl⟩)
theorem k_38 (hL : zaL a) : zMs xs (D + 0) 38 [.ref 29] (zx s a T) nc ns (zPr zRb [] (zx s a T) nc ns) := by
  refine ⟨_, rfl, ?_⟩
  refine zEs_run 3 rfl ?_
  refine zEs_icmp rfl (fun _ => ?_) (fun _ => ?_)
  · skip
    refine zEs_run 1 rfl ?_
    exact zEs_bret rfl (Or.inl rfl) (Or.inl ⟨_, ⟨_, Or.inl rfl, rfl⟩, rfl⟩)
  · skip
    refine zEs_run 7 rfl ?_
    refine zEs_icmp rfl (fun _ => ?_) (fun _ => ?_)
    · skip
      refine zEs_run 1 rfl ?_
      exact zEs_bret rfl (Or.inl rfl) (Or.inl ⟨_, ⟨_, Or.inl rfl, rfl⟩, rfl⟩)
    · skip
      refine zEs_run 2 rfl ?_
      exact zEs_bret rfl (Or.inr rfl) (Or.inl ⟨_, ⟨_, Or.inr rfl, rfl⟩, rfl⟩)
theorem k_42 (hL : zaL a) {x1 : Int32} {x2 : Int32} : zMs xs (D + 1) 42 [.ref 6, .int x1, .int x2] (zx s a T) nc ns (zPr zRi [] (zx s a T) nc ns) := by
  refine ⟨_, rfl, ?_⟩
  have c5 : ∀ (n5 : Nat) (i5_3 : Int32) (i5_4 : Int32) (o5_5 : Option Value), (((s 9)).toInt - (i5_4).toInt).toNat < n5 → zEs xs (D + 1) 42 5 [some (.ref 6), some (.int x1), some (.int x2), some (.int i5_3), some (.int i5_4), o5_5] [] (zx s a T) nc ns (zPr zRi [] (zx s a T) nc ns) := by
    intro n5
    induction n5 with
    | zero =>
      intro i5_3 i5_4 o5_5 hn5
      exact absurd hn5 (Nat.not_lt_zero _)
    | succ n5 ih5 =>
      intro i5_3 i5_4 o5_5 hn5
      refine zEs_run 4 rfl ?_
      refine zEs_icmp rfl (fun g5 => ?_) (fun g5 => ?_)
      · skip
        refine zEs_run 1 rfl ?_
        exact zEs_end rfl rfl (Or.inl ⟨_, ⟨_, rfl⟩, rfl⟩)
      · skip
        have g5 : ¬ (s 9) ≤ i5_4 := g5
        have c77 : ∀ (i77_3 : Int32) (o77_5 : Option Value), zEs xs (D + 1) 42 77 [some (.ref 6), some (.int x1), some (.int x2), some (.int i77_3), some (.int i5_4), o77_5] [] (zx s a T) nc ns (zPr zRi [] (zx s a T) nc ns) := by
          intro i77_3 o77_5
          refine zEs_run 2 rfl ?_
          exact ih5 _ _ (o77_5) (Nat.lt_of_lt_of_le (zdec g5) (Nat.le_of_lt_succ hn5))
        have c76 : ∀ (i76_5 : Int32) (t76_0 : Int32), zEs xs (D + 1) 42 76 [some (.ref 6), some (.int x1), some (.int x2), some (.int i5_3), some (.int i5_4), some (.int i76_5)] [.int t76_0] (zx s a T) nc ns (zPr zRi [] (zx s a T) nc ns) := by
          intro i76_5 t76_0
          refine zEs_run 1 rfl ?_
          exact c77 _ (some (.int _))
        refine zEs_run 4 rfl ?_
        refine zEs_ci rfl rfl (x_25 6 17 16 rfl rfl hL) (fun E hE => by cases hE) (fun v1 => ?_)
        refine zEs_run 1 rfl ?_
        refine zEs_icmp rfl (fun _ => ?_) (fun _ => ?_)
        · skip
          exact c77 _ (o5_5)
        · skip
          refine zEs_run 4 rfl ?_
          refine zEs_ci rfl rfl (x_25 7 19 18 rfl rfl hL) (fun E hE => by cases hE) (fun v3 => ?_)
          refine zEs_run 5 rfl ?_
          refine zEs_ci rfl rfl (x_25 8 21 20 rfl rfl hL) (fun E hE => by cases hE) (fun v4 => ?_)
          refine zEs_run 1 rfl ?_
          refine zEs_icmp rfl (fun _ => ?_) (fun _ => ?_)
          · skip
            refine zEs_run 5 rfl ?_
            exact c76 _ _
          · skip
            refine zEs_run 4 rfl ?_
            exact c76 _ _
  refine zEs_run 4 rfl ?_
  exact c5 _ _ _ (none) (Nat.lt_succ_self _)
theorem k_41 (hL : zaL a) {x1 : Int32} {x2 : Int32} : zMs xs (D + 2) 41 [.ref 6, .int x1, .int x2] (zx s a T) nc ns (zPo zRv [] [] [2] s a T nc ns) := by
  refine ⟨_, rfl, ?_⟩
  have f0 : zfr [] [2] s a s a := zfr_rf hL
  refine zEs_run 6 rfl ?_
  refine zEs_ci rfl rfl (k_42 hL) (fun E hE => by cases hE) (fun v1 => ?_)
  refine zEs_wv rfl rfl (x_26 2 8 7 rfl rfl (fun _ => rfl) hL) (fun E hE => by cases hE) (fun s2_ a2_ e2_ => ?_)
  have f2_ : zfr [] [2] s a s2_ a2_ := zfr_tr f0 (zfr_mo e2_ (by decide) (by decide))
  exact zEs_end rfl rfl (Or.inl ⟨_, _, _, rfl, f2_, rfl⟩)
theorem k_40 (hL : zaL a) {x1 : Int32} : zMs xs (D + 3) 40 [.ref 6, .int x1] (zx s a T) nc ns (zPo zRv [] [3, 9, 10] [2, 3, 6, 7, 8, 9, 10, 11] s a T nc ns) := by
  refine ⟨_, rfl, ?_⟩
  have f0 : zfr [3, 9, 10] [2, 3, 6, 7, 8, 9, 10, 11] s a s a := zfr_rf hL
  have c37 : ∀ (n37 : Nat) (i37_2 : Int32) (s37 : Nat → Int32) (a37 : Nat → List Int32) (f37 : zfr [3, 9, 10] [2, 3, 6, 7, 8, 9, 10, 11] s a s37 a37), (((Int16.ofInt 160).toInt32).toInt - (i37_2).toInt).toNat < n37 → zEs xs (D + 3) 40 37 [some (.ref 6), some (.int x1), some (.int i37_2)] [] (zx s37 a37 T) nc ns (zPo zRv [] [3, 9, 10] [2, 3, 6, 7, 8, 9, 10, 11] s a T nc ns) := by
    intro n37
    induction n37 with
    | zero =>
      intro i37_2 s37 a37 f37 hn37
      exact absurd hn37 (Nat.not_lt_zero _)
    | succ n37 ih37 =>
      intro i37_2 s37 a37 f37 hn37
      refine zEs_run 2 rfl ?_
      refine zEs_icmp rfl (fun g37 => ?_) (fun g37 => ?_)
      · skip
        exact zEs_end rfl rfl (Or.inl ⟨_, _, _, rfl, f37, rfl⟩)
      · skip
        have g37 : ¬ (Int16.ofInt 160).toInt32 ≤ i37_2 := g37
        refine zEs_run 3 rfl ?_
        refine zEs_wv rfl rfl (k_41 f37.2.2) (fun E hE => by cases hE) (fun s1_ a1_ e1_ => ?_)
        have f1_ : zfr [3, 9, 10] [2, 3, 6, 7, 8, 9, 10, 11] s a s1_ a1_ := zfr_tr f37 (zfr_mo e1_ (by decide) (by decide))
        refine zEs_run 2 rfl ?_
        exact ih37 _ _ _ f1_ (Nat.lt_of_lt_of_le (zdec g37) (Nat.le_of_lt_succ hn37))
  refine zEs_run 7 (h' := zx (zup s 3 _) a T) rfl ?_
  refine zEs_wv rfl rfl (k_22_15 hL) (fun E hE => by cases hE) (fun s2_ a2_ e2_ => ?_)
  have f2_ : zfr [3, 9, 10] [2, 3, 6, 7, 8, 9, 10, 11] s a s2_ a2_ := zfr_tr (zfr_s (k := 3) f0 (by decide)) (zfr_mo e2_ (by decide) (by decide))
  refine zEs_run 4 rfl ?_
  refine zEs_wv rfl rfl (k_22_22 f2_.2.2) (fun E hE => by cases hE) (fun s3_ a3_ e3_ => ?_)
  have f3_ : zfr [3, 9, 10] [2, 3, 6, 7, 8, 9, 10, 11] s a s3_ a3_ := zfr_tr f2_ (zfr_mo e3_ (by decide) (by decide))
  refine zEs_run 3 rfl ?_
  refine zEs_wv rfl rfl (x_27 3 10 9 rfl rfl (fun _ => rfl) f3_.2.2) (fun E hE => by cases hE) (fun s4_ a4_ e4_ => ?_)
  have f4_ : zfr [3, 9, 10] [2, 3, 6, 7, 8, 9, 10, 11] s a s4_ a4_ := zfr_tr f3_ (zfr_mo e4_ (by decide) (by decide))
  refine zEs_run 2 rfl ?_
  exact c37 _ _ _ _ f4_ (Nat.lt_succ_self _)
theorem k_45 (hL : zaL a) : zMs xs (D + 0) 45 [.ref 6] (zx s a T) nc ns (zPo zRi [] [7, 8] [] s a T nc ns) := by
  refine ⟨_, rfl, ?_⟩
  have f0 : zfr [7, 8] [] s a s a := zfr_rf hL
  refine zEs_run 19 (h' := zx (zup (zup s 7 _) 8 _) a T) rfl ?_
  exact zEs_end rfl rfl (Or.inl ⟨_, _, _, ⟨_, rfl⟩, (zfr_s (k := 8) (zfr_s (k := 7) f0 (by decide)) (by decide)), rfl⟩)
theorem k_44 (hL : zaL a) {x1 : Int32} : zMs xs (D + 3) 44 [.ref 6, .int x1] (zx s a T) nc ns (zPo zRv [] [7, 8] [2] s a T nc ns) := by
  refine ⟨_, rfl, ?_⟩
  have f0 : zfr [7, 8] [2] s a s a := zfr_rf hL
  have c35 : ∀ (i35_2 : Int32) (i35_3 : Int32) (t35_0 : Int32) (s35 : Nat → Int32) (a35 : Nat → List Int32) (f35 : zfr [7, 8] [2] s a s35 a35), zEs xs (D + 3) 44 35 [some (.ref 6), some (.int x1), some (.int i35_2), some (.int i35_3), none] [.int t35_0] (zx s35 a35 T) nc ns (zPo zRv [] [7, 8] [2] s a T nc ns) := by
    intro i35_2 i35_3 t35_0 s35 a35 f35
    refine zEs_run 6 rfl ?_
    refine zEs_ci rfl rfl (x_25 2 8 7 rfl rfl f35.2.2) (fun E hE => by cases hE) (fun v1 => ?_)
    refine zEs_run 4 rfl ?_
    refine zEs_wv rfl rfl (k_41 f35.2.2) (fun E hE => by cases hE) (fun s2_ a2_ e2_ => ?_)
    have f2_ : zfr [7, 8] [2] s a s2_ a2_ := zfr_tr f35 (zfr_mo e2_ (by decide) (by decide))
    exact zEs_end rfl rfl (Or.inl ⟨_, _, _, rfl, f2_, rfl⟩)
  refine zEs_run 4 rfl ?_
  refine zEs_wi rfl rfl (k_45 hL) (fun E hE => by cases hE) (fun v3 s3_ a3_ e3_ => ?_)
  have f3_ : zfr [7, 8] [2] s a s3_ a3_ := zfr_tr f0 (zfr_mo e3_ (by decide) (by decide))
  refine zEs_run 5 rfl ?_
  refine zEs_wi rfl rfl (k_45 f3_.2.2) (fun E hE => by cases hE) (fun v4 s4_ a4_ e4_ => ?_)
  have f4_ : zfr [7, 8] [2] s a s4_ a4_ := zfr_tr f3_ (zfr_mo e4_ (by decide) (by decide))
  refine zEs_run 3 rfl ?_
  refine zEs_if rfl (fun gz22 => ?_) (fun gz22 => ?_)
  · skip
    refine zEs_run 1 rfl ?_
    exact c35 _ _ _ _ _ f4_
  · skip
    refine zEs_run 3 rfl ?_
    refine zEs_irem rfl (znz gz22) ?_
    refine zEs_run 1 rfl ?_
    exact c35 _ _ _ _ _ f4_
theorem k_43 (hL : zaL a) {x1 : Int32} : zMs xs (D + 4) 43 [.ref 6, .int x1] (zx s a T) nc ns (zPo zRv [] [7, 8] [2, 3, 4] s a T nc ns) := by
  refine ⟨_, rfl, ?_⟩
  have f0 : zfr [7, 8] [2, 3, 4] s a s a := zfr_rf hL
  have c64 : ∀ (i64_2 : Int32) (i64_3 : Int32) (s64 : Nat → Int32) (a64 : Nat → List Int32) (f64 : zfr [7, 8] [2, 3, 4] s a s64 a64), zEs xs (D + 4) 43 64 [some (.ref 6), some (.int x1), some (.int i64_2), some (.int i64_3)] [] (zx s64 a64 T) nc ns (zPo zRv [] [7, 8] [2, 3, 4] s a T nc ns) := by
    intro i64_2 i64_3 s64 a64 f64
    refine zEs_run 2 rfl ?_
    refine zEs_icmp rfl (fun _ => ?_) (fun _ => ?_)
    · skip
      exact zEs_end rfl rfl (Or.inl ⟨_, _, _, rfl, f64, rfl⟩)
    · skip
      refine zEs_run 4 rfl ?_
      refine zEs_wv rfl rfl (k_44 f64.2.2) (fun E hE => by cases hE) (fun s2_ a2_ e2_ => ?_)
      have f2_ : zfr [7, 8] [2, 3, 4] s a s2_ a2_ := zfr_tr f64 (zfr_mo e2_ (by decide) (by decide))
      exact zEs_end rfl rfl (Or.inl ⟨_, _, _, rfl, f2_, rfl⟩)
  refine zEs_run 3 rfl ?_
  refine zEs_ci rfl rfl (x_25 3 10 9 rfl rfl hL) (fun E hE => by cases hE) (fun v3 => ?_)
  refine zEs_run 7 rfl ?_
  refine zEs_wv rfl rfl (x_26 3 10 9 rfl rfl (fun _ => rfl) hL) (fun E hE => by cases hE) (fun s4_ a4_ e4_ => ?_)
  have f4_ : zfr [7, 8] [2, 3, 4] s a s4_ a4_ := zfr_tr f0 (zfr_mo e4_ (by decide) (by decide))
  refine zEs_run 5 rfl ?_
  refine zEs_wv rfl rfl (x_26 4 12 11 rfl rfl (fun _ => rfl) f4_.2.2) (fun E hE => by cases hE) (fun s5_ a5_ e5_ => ?_)
  have f5_ : zfr [7, 8] [2, 3, 4] s a s5_ a5_ := zfr_tr f4_ (zfr_mo e5_ (by decide) (by decide))
  refine zEs_run 2 rfl ?_
  refine zEs_if rfl (fun gz36 => ?_) (fun gz36 => ?_)
  · skip
    exact zEs_end rfl rfl (Or.inl ⟨_, _, _, rfl, f5_, rfl⟩)
  · skip
    refine zEs_run 3 rfl ?_
    refine zEs_irem rfl (znz gz36) ?_
    refine zEs_if rfl (fun _ => ?_) (fun _ => ?_)
    · skip
      exact zEs_end rfl rfl (Or.inl ⟨_, _, _, rfl, f5_, rfl⟩)
    · skip
      refine zEs_run 5 rfl ?_
      refine zEs_if rfl (fun _ => ?_) (fun _ => ?_)
      · skip
        exact c64 _ _ _ _ f5_
      · skip
        refine zEs_run 4 rfl ?_
        refine zEs_wv rfl rfl (k_44 f5_.2.2) (fun E hE => by cases hE) (fun s9_ a9_ e9_ => ?_)
        have f9_ : zfr [7, 8] [2, 3, 4] s a s9_ a9_ := zfr_tr f5_ (zfr_mo e9_ (by decide) (by decide))
        exact c64 _ _ _ _ f9_
theorem k_47 (hL : zaL a) {x1 : Int32} : zMs xs (D + 0) 47 [.ref 6, .int x1] (zx s a T) nc ns (zPr zRb [] (zx s a T) nc ns) := by
  refine ⟨_, rfl, ?_⟩
  refine zEs_run 2 rfl ?_
  refine zEs_if rfl (fun gz4 => ?_) (fun gz4 => ?_)
  · skip
    refine zEs_run 1 rfl ?_
    exact zEs_bret rfl (Or.inl rfl) (Or.inl ⟨_, ⟨_, Or.inl rfl, rfl⟩, rfl⟩)
  · skip
    refine zEs_run 3 rfl ?_
    refine zEs_irem rfl (znz gz4) ?_
    refine zEs_if rfl (fun _ => ?_) (fun _ => ?_)
    · skip
      refine zEs_run 1 rfl ?_
      exact zEs_bret rfl (Or.inl rfl) (Or.inl ⟨_, ⟨_, Or.inl rfl, rfl⟩, rfl⟩)
    · skip
      refine zEs_run 2 rfl ?_
      exact zEs_bret rfl (Or.inr rfl) (Or.inl ⟨_, ⟨_, Or.inr rfl, rfl⟩, rfl⟩)
theorem k_46 (hL : zaL a) : zMs xs (D + 3) 46 [.ref 6] (zx s a T) nc ns (zPo zRv [] [] [2, 3, 4] (zup s 4 (s 4 + Int32.ofInt 1)) a T nc ns) := by
  refine ⟨_, rfl, ?_⟩
  have f0 : zfr [] [2, 3, 4] (zup s 4 (s 4 + Int32.ofInt 1)) a (zup s 4 (s 4 + Int32.ofInt 1)) a := zfr_rf hL
  have c12 : ∀ (n12 : Nat) (i12_1 : Int32) (o12_2 : Option Value) (s12 : Nat → Int32) (a12 : Nat → List Int32) (f12 : zfr [] [2, 3, 4] (zup s 4 (s 4 + Int32.ofInt 1)) a s12 a12), (((s 10)).toInt - (i12_1).toInt).toNat < n12 → zEs xs (D + 3) 46 12 [some (.ref 6), some (.int i12_1), o12_2] [] (zx s12 a12 T) nc ns (zPo zRv [] [] [2, 3, 4] (zup s 4 (s 4 + Int32.ofInt 1)) a T nc ns) := by
    intro n12
    induction n12 with
    | zero =>
      intro i12_1 o12_2 s12 a12 f12 hn12
      exact absurd hn12 (Nat.not_lt_zero _)
    | succ n12 ih12 =>
      intro i12_1 o12_2 s12 a12 f12 hn12
      refine zEs_run 4 rfl ?_
      refine zEs_icmp rfl (fun g12 => ?_) (fun g12 => ?_)
      · skip
        refine zEs_run 3 rfl ?_
        refine zEs_cb rfl rfl (k_47 f12.2.2) (fun E hE => by cases hE) (fun v1 hb1 => ?_)
        refine zEs_if rfl (fun _ => ?_) (fun _ => ?_)
        · skip
          exact zEs_end rfl rfl (Or.inl ⟨_, _, _, rfl, f12, rfl⟩)
        · skip
          refine zEs_run 3 rfl ?_
          refine zEs_wv rfl rfl (x_27 3 10 9 rfl rfl (fun _ => rfl) f12.2.2) (fun E hE => by cases hE) (fun s3_ a3_ e3_ => ?_)
          have f3_ : zfr [] [2, 3, 4] (zup s 4 (s 4 + Int32.ofInt 1)) a s3_ a3_ := zfr_tr f12 (zfr_mo e3_ (by decide) (by decide))
          refine zEs_run 4 rfl ?_
          refine zEs_wv rfl rfl (x_27 4 12 11 rfl rfl (fun _ => rfl) f3_.2.2) (fun E hE => by cases hE) (fun s4_ a4_ e4_ => ?_)
          have f4_ : zfr [] [2, 3, 4] (zup s 4 (s 4 + Int32.ofInt 1)) a s4_ a4_ := zfr_tr f3_ (zfr_mo e4_ (by decide) (by decide))
          exact zEs_end rfl rfl (Or.inl ⟨_, _, _, rfl, f4_, rfl⟩)
      · skip
        have g12 : ¬ (s12 10) ≤ i12_1 := g12
        rw [f12.1 10 (by decide)] at g12
        have c92 : ∀ (i92_2 : Int32) (s92 : Nat → Int32) (a92 : Nat → List Int32) (f92 : zfr [] [2, 3, 4] (zup s 4 (s 4 + Int32.ofInt 1)) a s92 a92), zEs xs (D + 3) 46 92 [some (.ref 6), some (.int i12_1), some (.int i92_2)] [] (zx s92 a92 T) nc ns (zPo zRv [] [] [2, 3, 4] (zup s 4 (s 4 + Int32.ofInt 1)) a T nc ns) := by
          intro i92_2 s92 a92 f92
          refine zEs_run 2 rfl ?_
          exact ih12 _ (some (.int _)) _ _ f92 (Nat.lt_of_lt_of_le (zdec g12) (Nat.le_of_lt_succ hn12))
        refine zEs_run 4 rfl ?_
        refine zEs_ci rfl rfl (x_25 9 24 23 rfl rfl f12.2.2) (fun E hE => by cases hE) (fun v5 => ?_)
        refine zEs_run 8 rfl ?_
        refine zEs_ci rfl rfl (x_25 4 12 11 rfl rfl f12.2.2) (fun E hE => by cases hE) (fun v6 => ?_)
        refine zEs_run 5 rfl ?_
        refine zEs_ci rfl rfl (x_25 11 28 27 rfl rfl f12.2.2) (fun E hE => by cases hE) (fun v7 => ?_)
        refine zEs_icmp rfl (fun _ => ?_) (fun _ => ?_)
        · skip
          exact c92 _ _ _ f12
        · skip
          refine zEs_run 5 rfl ?_
          refine zEs_ci rfl rfl (x_25 2 8 7 rfl rfl f12.2.2) (fun E hE => by cases hE) (fun v9 => ?_)
          refine zEs_run 4 rfl ?_
          refine zEs_ci rfl rfl (x_25 10 26 25 rfl rfl f12.2.2) (fun E hE => by cases hE) (fun v10 => ?_)
          refine zEs_run 3 rfl ?_
          refine zEs_wv rfl rfl (k_41 f12.2.2) (fun E hE => by cases hE) (fun s11_ a11_ e11_ => ?_)
          have f11_ : zfr [] [2, 3, 4] (zup s 4 (s 4 + Int32.ofInt 1)) a s11_ a11_ := zfr_tr f12 (zfr_mo e11_ (by decide) (by decide))
          exact c92 _ _ _ f11_
  refine zEs_run 8 (h' := zx (zup s 4 (s 4 + Int32.ofInt 1)) a T) rfl ?_
  exact c12 _ _ (none) _ _ f0 (Nat.lt_succ_self _)
theorem k_49 (hL : zaL a) {x1 : Int32} {x2 : Int32} : zMs xs (D + 2) 49 [.ref 6, .int x1, .int x2] (zx s a T) nc ns (zPr zRb [] (zx s a T) nc ns) := by
  refine ⟨_, rfl, ?_⟩
  refine zEs_run 3 rfl ?_
  refine zEs_ci rfl rfl (x_25 2 8 7 rfl rfl hL) (fun E hE => by cases hE) (fun v1 => ?_)
  refine zEs_run 4 rfl ?_
  refine zEs_if rfl (fun _ => ?_) (fun _ => ?_)
  · skip
    refine zEs_run 1 rfl ?_
    exact zEs_bret rfl (Or.inl rfl) (Or.inl ⟨_, ⟨_, Or.inl rfl, rfl⟩, rfl⟩)
  · skip
    refine zEs_run 7 rfl ?_
    refine zEs_ci rfl rfl (k_42 hL) (fun E hE => by cases hE) (fun v3 => ?_)
    refine zEs_run 2 rfl ?_
    refine zEs_if rfl (fun _ => ?_) (fun _ => ?_)
    · skip
      refine zEs_run 1 rfl ?_
      exact zEs_bret rfl (Or.inl rfl) (Or.inl ⟨_, ⟨_, Or.inl rfl, rfl⟩, rfl⟩)
    · skip
      refine zEs_run 2 rfl ?_
      exact zEs_bret rfl (Or.inr rfl) (Or.inl ⟨_, ⟨_, Or.inr rfl, rfl⟩, rfl⟩)
theorem k_50 (hL : zaL a) {x1 : Int32} {x2 : Int32} (hb50 : (s 4 + x2).toInt < 2147483000) : zMs xs (D + 1) 50 [.ref 6, .int x1, .int x2] (zx s a T) nc ns (zPr zRb [] (zx s a T) nc ns) := by
  refine ⟨_, rfl, ?_⟩
  have c30 : ∀ (n30 : Nat) (i30_3 : Int32) (i30_4 : Int32), ((((s 4) + x2)).toInt + 1 - (i30_4).toInt).toNat < n30 → zEs xs (D + 1) 50 30 [some (.ref 6), some (.int x1), some (.int x2), some (.int i30_3), some (.int i30_4)] [] (zx s a T) nc ns (zPr zRb [] (zx s a T) nc ns) := by
    intro n30
    induction n30 with
    | zero =>
      intro i30_3 i30_4 hn30
      exact absurd hn30 (Nat.not_lt_zero _)
    | succ n30 ih30 =>
      intro i30_3 i30_4 hn30
      refine zEs_run 5 rfl ?_
      refine zEs_icmp rfl (fun g30 => ?_) (fun g30 => ?_)
      · skip
        refine zEs_run 1 rfl ?_
        exact zEs_bret rfl (Or.inl rfl) (Or.inl ⟨_, ⟨_, Or.inl rfl, rfl⟩, rfl⟩)
      · skip
        have g30 : ¬ ((s 4) + x2) < i30_4 := g30
        have c73 : ∀ (i73_3 : Int32), zEs xs (D + 1) 50 73 [some (.ref 6), some (.int x1), some (.int x2), some (.int i73_3), some (.int i30_4)] [] (zx s a T) nc ns (zPr zRb [] (zx s a T) nc ns) := by
          intro i73_3
          refine zEs_run 2 rfl ?_
          exact ih30 _ _ (Nat.lt_of_lt_of_le (zdec_le g30 (Int.le_refl _) hb50 (by decide) (by decide)) (Nat.le_of_lt_succ hn30))
        refine zEs_run 7 rfl ?_
        refine zEs_ci rfl rfl (x_25 11 28 27 rfl rfl hL) (fun E hE => by cases hE) (fun v1 => ?_)
        refine zEs_icmp rfl (fun _ => ?_) (fun _ => ?_)
        · skip
          refine zEs_run 2 rfl ?_
          refine zEs_cb rfl rfl (k_47 hL) (fun E hE => by cases hE) (fun v3 hb3 => ?_)
          refine zEs_if rfl (fun _ => ?_) (fun _ => ?_)
          · skip
            exact c73 _
          · skip
            refine zEs_run 2 rfl ?_
            exact c73 _
        · skip
          refine zEs_run 1 rfl ?_
          exact zEs_bret rfl (Or.inr rfl) (Or.inl ⟨_, ⟨_, Or.inr rfl, rfl⟩, rfl⟩)
  refine zEs_run 6 rfl ?_
  refine zEs_ci rfl rfl (x_25 9 24 23 rfl rfl hL) (fun E hE => by cases hE) (fun v5 => ?_)
  refine zEs_run 2 rfl ?_
  refine zEs_ci rfl rfl (x_25 4 12 11 rfl rfl hL) (fun E hE => by cases hE) (fun v6 => ?_)
  refine zEs_run 6 rfl ?_
  exact c30 _ _ _ (Nat.lt_succ_self _)
theorem k_48 (hL : zaL a) {x1 : Int32} (hb48 : (s 4 + x1).toInt < 2147483000) : zMs xs (D + 3) 48 [.ref 6, .int x1] (zx s a T) nc ns (zPo zRi [] [] [5] s a T nc ns) := by
  refine ⟨_, rfl, ?_⟩
  have f0 : zfr [] [5] s a s a := zfr_rf hL
  have c12 : ∀ (n12 : Nat) (i12_2 : Int32) (i12_3 : Int32) (o12_4 : Option Value) (o12_5 : Option Value) (o12_6 : Option Value) (s12 : Nat → Int32) (a12 : Nat → List Int32) (f12 : zfr [] [5] s a s12 a12), (((s 10)).toInt - (i12_3).toInt).toNat < n12 → zEs xs (D + 3) 48 12 [some (.ref 6), some (.int x1), some (.int i12_2), some (.int i12_3), o12_4, o12_5, o12_6] [] (zx s12 a12 T) nc ns (zPo zRi [] [] [5] s a T nc ns) := by
    intro n12
    induction n12 with
    | zero =>
      intro i12_2 i12_3 o12_4 o12_5 o12_6 s12 a12 f12 hn12
      exact absurd hn12 (Nat.not_lt_zero _)
    | succ n12 ih12 =>
      intro i12_2 i12_3 o12_4 o12_5 o12_6 s12 a12 f12 hn12
      refine zEs_run 4 rfl ?_
      refine zEs_icmp rfl (fun g12 => ?_) (fun g12 => ?_)
      · skip
        refine zEs_run 1 rfl ?_
        exact zEs_end rfl rfl (Or.inl ⟨_, _, _, ⟨_, rfl⟩, f12, rfl⟩)
      · skip
        have g12 : ¬ (s12 10) ≤ i12_3 := g12
        rw [f12.1 10 (by decide)] at g12
        have c120 : ∀ (i120_2 : Int32) (i120_4 : Int32) (i120_5 : Int32) (i120_6 : Int32) (s120 : Nat → Int32) (a120 : Nat → List Int32) (f120 : zfr [] [5] s a s120 a120), zEs xs (D + 3) 48 120 [some (.ref 6), some (.int x1), some (.int i120_2), some (.int i12_3), some (.int i120_4), some (.int i120_5), some (.int i120_6)] [] (zx s120 a120 T) nc ns (zPo zRi [] [] [5] s a T nc ns) := by
          intro i120_2 i120_4 i120_5 i120_6 s120 a120 f120
          refine zEs_run 2 rfl ?_
          exact ih12 _ _ (some (.int _)) (some (.int _)) (some (.int _)) _ _ f120 (Nat.lt_of_lt_of_le (zdec g12) (Nat.le_of_lt_succ hn12))
        have c69 : ∀ (i69_4 : Int32) (i69_5 : Int32) (t69_0 : Int32), zEs xs (D + 3) 48 69 [some (.ref 6), some (.int x1), some (.int i12_2), some (.int i12_3), some (.int i69_4), some (.int i69_5), o12_6] [.int t69_0] (zx s12 a12 T) nc ns (zPo zRi [] [] [5] s a T nc ns) := by
          intro i69_4 i69_5 t69_0
          refine zEs_run 2 rfl ?_
          refine zEs_if rfl (fun _ => ?_) (fun _ => ?_)
          · skip
            exact c120 _ _ _ _ _ _ f12
          · skip
            refine zEs_run 3 rfl ?_
            refine zEs_cb rfl rfl (k_49 f12.2.2) (fun E hE => by cases hE) (fun v2 hb2 => ?_)
            refine zEs_if rfl (fun _ => ?_) (fun _ => ?_)
            · skip
              exact c120 _ _ _ _ _ _ f12
            · skip
              refine zEs_run 3 rfl ?_
              refine zEs_cb rfl rfl (k_50 f12.2.2 (by rw [(f12).1 4 (by decide)]; exact hb48)) (fun E hE => by cases hE) (fun v4 hb4 => ?_)
              refine zEs_if rfl (fun _ => ?_) (fun _ => ?_)
              · skip
                exact c120 _ _ _ _ _ _ f12
              · skip
                refine zEs_run 6 rfl ?_
                refine zEs_ci rfl rfl (x_25 5 14 13 rfl rfl f12.2.2) (fun E hE => by cases hE) (fun v6 => ?_)
                refine zEs_run 2 rfl ?_
                refine zEs_wv rfl rfl (x_26 5 14 13 rfl rfl (fun _ => rfl) f12.2.2) (fun E hE => by cases hE) (fun s7_ a7_ e7_ => ?_)
                have f7_ : zfr [] [5] s a s7_ a7_ := zfr_tr f12 (zfr_mo e7_ (by decide) (by decide))
                refine zEs_run 1 rfl ?_
                exact c120 _ _ _ _ _ _ f7_
        refine zEs_run 4 rfl ?_
        refine zEs_ci rfl rfl (x_25 9 24 23 rfl rfl f12.2.2) (fun E hE => by cases hE) (fun v8 => ?_)
        refine zEs_run 5 rfl ?_
        refine zEs_ci rfl rfl (x_25 10 26 25 rfl rfl f12.2.2) (fun E hE => by cases hE) (fun v9 => ?_)
        refine zEs_run 4 rfl ?_
        refine zEs_ci rfl rfl (x_25 5 14 13 rfl rfl f12.2.2) (fun E hE => by cases hE) (fun v10 => ?_)
        refine zEs_run 2 rfl ?_
        refine zEs_if rfl (fun _ => ?_) (fun _ => ?_)
        · skip
          refine zEs_run 1 rfl ?_
          exact c69 _ _ _
        · skip
          refine zEs_run 2 rfl ?_
          exact c69 _ _ _
  refine zEs_run 3 rfl ?_
  refine zEs_wv rfl rfl (x_27 5 14 13 rfl rfl (fun _ => rfl) hL) (fun E hE => by cases hE) (fun s12_ a12_ e12_ => ?_)
  have f12_ : zfr [] [5] s a s12_ a12_ := zfr_tr f0 (zfr_mo e12_ (by decide) (by decide))
  refine zEs_run 4 rfl ?_
  exact c12 _ _ _ (none) (none) (none) _ _ f12_ (Nat.lt_succ_self _)
theorem k_51 (hL : zaL a) : zMs xs (D + 2) 51 [.ref 6] (zx s a T) nc ns (zPr zRb [] (zx s a T) nc ns) := by
  refine ⟨_, rfl, ?_⟩
  have c29 : ∀ (n29 : Nat) (i29_1 : Int32) (o29_2 : Option Value), (((s 9)).toInt - (i29_1).toInt).toNat < n29 → zEs xs (D + 2) 51 29 [some (.ref 6), some (.int i29_1), o29_2] [] (zx s a T) nc ns (zPr zRb [] (zx s a T) nc ns) := by
    intro n29
    induction n29 with
    | zero =>
      intro i29_1 o29_2 hn29
      exact absurd hn29 (Nat.not_lt_zero _)
    | succ n29 ih29 =>
      intro i29_1 o29_2 hn29
      refine zEs_run 4 rfl ?_
      refine zEs_icmp rfl (fun g29 => ?_) (fun g29 => ?_)
      · skip
        refine zEs_run 1 rfl ?_
        exact zEs_bret rfl (Or.inr rfl) (Or.inl ⟨_, ⟨_, Or.inr rfl, rfl⟩, rfl⟩)
      · skip
        have g29 : ¬ (s 9) ≤ i29_1 := g29
        refine zEs_run 4 rfl ?_
        refine zEs_ci rfl rfl (x_25 6 17 16 rfl rfl hL) (fun E hE => by cases hE) (fun v1 => ?_)
        refine zEs_run 6 rfl ?_
        refine zEs_ci rfl rfl (x_25 2 8 7 rfl rfl hL) (fun E hE => by cases hE) (fun v2 => ?_)
        refine zEs_ci rfl rfl (k_42 hL) (fun E hE => by cases hE) (fun v3 => ?_)
        refine zEs_run 3 rfl ?_
        refine zEs_ci rfl rfl (x_25 2 8 7 rfl rfl hL) (fun E hE => by cases hE) (fun v4 => ?_)
        refine zEs_icmp rfl (fun _ => ?_) (fun _ => ?_)
        · skip
          refine zEs_run 2 rfl ?_
          exact ih29 _ (some (.int _)) (Nat.lt_of_lt_of_le (zdec g29) (Nat.le_of_lt_succ hn29))
        · skip
          refine zEs_run 1 rfl ?_
          exact zEs_bret rfl (Or.inl rfl) (Or.inl ⟨_, ⟨_, Or.inl rfl, rfl⟩, rfl⟩)
  have c2 : ∀ (n2 : Nat) (i2_1 : Int32), (((Int8.ofInt 20).toInt32).toInt - (i2_1).toInt).toNat < n2 → zEs xs (D + 2) 51 2 [some (.ref 6), some (.int i2_1), none] [] (zx s a T) nc ns (zPr zRb [] (zx s a T) nc ns) := by
    intro n2
    induction n2 with
    | zero =>
      intro i2_1 hn2
      exact absurd hn2 (Nat.not_lt_zero _)
    | succ n2 ih2 =>
      intro i2_1 hn2
      refine zEs_run 2 rfl ?_
      refine zEs_icmp rfl (fun g2 => ?_) (fun g2 => ?_)
      · skip
        refine zEs_run 2 rfl ?_
        exact c29 _ _ (none) (Nat.lt_succ_self _)
      · skip
        have g2 : ¬ (Int8.ofInt 20).toInt32 ≤ i2_1 := g2
        refine zEs_run 3 rfl ?_
        refine zEs_ci rfl rfl (x_25 3 10 9 rfl rfl hL) (fun E hE => by cases hE) (fun v6 => ?_)
        refine zEs_if rfl (fun _ => ?_) (fun _ => ?_)
        · skip
          refine zEs_run 2 rfl ?_
          exact ih2 _ (Nat.lt_of_lt_of_le (zdec g2) (Nat.le_of_lt_succ hn2))
        · skip
          refine zEs_run 1 rfl ?_
          exact zEs_bret rfl (Or.inl rfl) (Or.inl ⟨_, ⟨_, Or.inl rfl, rfl⟩, rfl⟩)
  refine zEs_run 2 rfl ?_
  exact c2 _ _ (Nat.lt_succ_self _)
theorem k_53 (hL : zaL a) {x1 : Int32} {x2 : Int32} : zMs xs (D + 4) 53 [.ref 0, .int x1, .int x2] (zx s a T) nc ns (zPo zRi [0] [0, 1, 2, 3, 9, 10, 11] [0, 1, 2, 3, 6, 7, 8, 9, 10, 11, 17] s a T nc ns) := by
  refine ⟨_, rfl, ?_⟩
  have f0 : zfr [0, 1, 2, 3, 9, 10, 11] [0, 1, 2, 3, 6, 7, 8, 9, 10, 11, 17] s a s a := zfr_rf hL
  have c11 : zEs xs (D + 4) 53 11 [some (.ref 0), some (.int x1), some (.int x2)] [] (zx s a T) nc ns (zPo zRi [0] [0, 1, 2, 3, 9, 10, 11] [0, 1, 2, 3, 6, 7, 8, 9, 10, 11, 17] s a T nc ns) := by
    exact zEs_end rfl rfl (Or.inr ⟨0, by decide, rfl⟩)
  have c32 : zEs xs (D + 4) 53 32 [some (.ref 0), some (.int x1), some (.int x2)] [] (zx s a T) nc ns (zPo zRi [0] [0, 1, 2, 3, 9, 10, 11] [0, 1, 2, 3, 6, 7, 8, 9, 10, 11, 17] s a T nc ns) := by
    exact zEs_end rfl rfl (Or.inr ⟨0, by decide, rfl⟩)
  refine zEs_run 2 rfl ?_
  refine zEs_icmp rfl (fun _ => ?_) (fun _ => ?_)
  · skip
    exact c11 
  · skip
    refine zEs_run 2 rfl ?_
    refine zEs_icmp rfl (fun _ => ?_) (fun _ => ?_)
    · skip
      refine zEs_run 2 rfl ?_
      refine zEs_icmp rfl (fun _ => ?_) (fun _ => ?_)
      · skip
        exact c32 
      · skip
        refine zEs_run 2 rfl ?_
        refine zEs_icmp rfl (fun gz29 => ?_) (fun gz29 => ?_)
        · skip
          refine zEs_run 1 rfl ?_
          refine zEs_ci rfl rfl (k_2 hL) (fun E hE => by cases hE) (fun v5 => ?_)
          refine zEs_run 1 rfl ?_
          refine zEs_icmp rfl (fun _ => ?_) (fun _ => ?_)
          · skip
            refine zEs_run 4 rfl ?_
            refine zEs_wv rfl rfl (k_3 hL (zbd6 gz29)) (fun E hE => by cases hE) (fun s7_ a7_ e7_ => ?_)
            have f7_ : zfr [0, 1, 2, 3, 9, 10, 11] [0, 1, 2, 3, 6, 7, 8, 9, 10, 11, 17] s a s7_ a7_ := zfr_tr f0 (zfr_mo e7_ (by decide) (by decide))
            refine zEs_run 5 rfl ?_
            refine zEs_wv rfl rfl (k_40 f7_.2.2) (fun E hE => by cases hE) (fun s8_ a8_ e8_ => ?_)
            have f8_ : zfr [0, 1, 2, 3, 9, 10, 11] [0, 1, 2, 3, 6, 7, 8, 9, 10, 11, 17] s a s8_ a8_ := zfr_tr f7_ (zfr_mo e8_ (by decide) (by decide))
            refine zEs_run 3 rfl ?_
            refine zEs_wv rfl rfl (x_27 17 41 40 rfl rfl (fun _ => rfl) f8_.2.2) (fun E hE => by cases hE) (fun s9_ a9_ e9_ => ?_)
            have f9_ : zfr [0, 1, 2, 3, 9, 10, 11] [0, 1, 2, 3, 6, 7, 8, 9, 10, 11, 17] s a s9_ a9_ := zfr_tr f8_ (zfr_mo e9_ (by decide) (by decide))
            refine zEs_run 2 rfl ?_
            refine zEs_wv rfl rfl (k_30 f9_.2.2) (fun E hE => by cases hE) (fun s10_ a10_ e10_ => ?_)
            have f10_ : zfr [0, 1, 2, 3, 9, 10, 11] [0, 1, 2, 3, 6, 7, 8, 9, 10, 11, 17] s a s10_ a10_ := zfr_tr f9_ (zfr_mo e10_ (by decide) (by decide))
            refine zEs_run 3 rfl ?_
            exact zEs_end rfl rfl (Or.inl ⟨_, _, _, ⟨_, rfl⟩, f10_, rfl⟩)
          · skip
            exact zEs_end rfl rfl (Or.inr ⟨0, by decide, rfl⟩)
        · skip
          exact c32 
    · skip
      exact c11 
theorem k_82 (hL : zaL a) {x1 : Int32} : zMs xs (D + 0) 82 [.int x1] (zx s a T) nc ns (zPr zRv [1] (zx s a T) nc ns) := by
  refine ⟨_, rfl, ?_⟩
  have c11 : zEs xs (D + 0) 82 11 [some (.int x1)] [] (zx s a T) nc ns (zPr zRv [1] (zx s a T) nc ns) := by
    exact zEs_end rfl rfl (Or.inr ⟨1, by decide, rfl⟩)
  refine zEs_run 1 rfl ?_
  refine zEs_if rfl (fun _ => ?_) (fun _ => ?_)
  · skip
    exact c11 
  · skip
    refine zEs_run 2 rfl ?_
    refine zEs_icmp rfl (fun _ => ?_) (fun _ => ?_)
    · skip
      exact zEs_end rfl rfl (Or.inl ⟨_, rfl, rfl⟩)
    · skip
      exact c11 
theorem k_86 (hL : zaL a) {x1 : Int32} : zMs xs (D + 1) 86 [.ref 0, .int x1] (zx s a T) nc ns (zPr zRv [0] (zx s a T) nc ns) := by
  refine ⟨_, rfl, ?_⟩
  have c15 : zEs xs (D + 1) 86 15 [some (.ref 0), some (.int x1)] [] (zx s a T) nc ns (zPr zRv [0] (zx s a T) nc ns) := by
    exact zEs_end rfl rfl (Or.inr ⟨0, by decide, rfl⟩)
  refine zEs_run 1 rfl ?_
  refine zEs_if rfl (fun _ => ?_) (fun _ => ?_)
  · skip
    exact c15 
  · skip
    refine zEs_run 3 rfl ?_
    refine zEs_ci rfl rfl (k_6 hL) (fun E hE => by cases hE) (fun v2 => ?_)
    refine zEs_icmp rfl (fun _ => ?_) (fun _ => ?_)
    · skip
      exact zEs_end rfl rfl (Or.inl ⟨_, rfl, rfl⟩)
    · skip
      exact c15 
theorem k_96 (hL : zaL a) {x1 : Int32} : zMs xs (D + 1) 96 [.ref 0, .int x1] (zx s a T) nc ns (zPr zRb [] (zx s a T) nc ns) := by
  refine ⟨_, rfl, ?_⟩
  refine zEs_run 3 rfl ?_
  refine zEs_ci rfl rfl (x_25 18 43 42 rfl rfl hL) (fun E hE => by cases hE) (fun v1 => ?_)
  refine zEs_if rfl (fun _ => ?_) (fun _ => ?_)
  · skip
    refine zEs_run 1 rfl ?_
    exact zEs_bret rfl (Or.inl rfl) (Or.inl ⟨_, ⟨_, Or.inl rfl, rfl⟩, rfl⟩)
  · skip
    refine zEs_run 2 rfl ?_
    exact zEs_bret rfl (Or.inr rfl) (Or.inl ⟨_, ⟨_, Or.inr rfl, rfl⟩, rfl⟩)
theorem k_87 (hL : zaL a) {x1 : Int32} : zMs xs (D + 2) 87 [.ref 0, .int x1] (zx s a T) nc ns (zPr zRv [2] (zx s a T) nc ns) := by
  refine ⟨_, rfl, ?_⟩
  refine zEs_run 2 rfl ?_
  refine zEs_cb rfl rfl (k_96 hL) (fun E hE => by cases hE) (fun v1 hb1 => ?_)
  refine zEs_if rfl (fun _ => ?_) (fun _ => ?_)
  · skip
    exact zEs_end rfl rfl (Or.inl ⟨_, rfl, rfl⟩)
  · skip
    exact zEs_end rfl rfl (Or.inr ⟨2, by decide, rfl⟩)
theorem k_90 (hL : zaL a) {x1 : Int32} : zMs xs (D + 1) 90 [.ref 0, .int x1] (zx s a T) nc ns (zPr zRi [] (zx s a T) nc ns) := by
  refine ⟨_, rfl, ?_⟩
  refine zEs_run 10 rfl ?_
  refine zEs_ci rfl rfl (x_25 15 37 36 rfl rfl hL) (fun E hE => by cases hE) (fun v1 => ?_)
  refine zEs_run 1 rfl ?_
  exact zEs_end rfl rfl (Or.inl ⟨_, ⟨_, rfl⟩, rfl⟩)
theorem k_91 (hL : zaL a) {x1 : Int32} : zMs xs (D + 2) 91 [.ref 0, .int x1] (zx s a T) nc ns (zPr zRi [] (zx s a T) nc ns) := by
  refine ⟨_, rfl, ?_⟩
  refine zEs_run 2 rfl ?_
  refine zEs_ci rfl rfl (k_90 hL) (fun E hE => by cases hE) (fun v1 => ?_)
  refine zEs_run 6 rfl ?_
  exact zEs_end rfl rfl (Or.inl ⟨_, ⟨_, rfl⟩, rfl⟩)
theorem k_102 (hL : zaL a) {x1 : Int32} {x2 : Int32} : zMs xs (D + 3) 102 [.ref 0, .int x1, .int x2] (zx s a T) nc ns (zPo zRv [] [] [2, 17] s a T nc ns) := by
  refine ⟨_, rfl, ?_⟩
  have f0 : zfr [] [2, 17] s a s a := zfr_rf hL
  refine zEs_run 4 rfl ?_
  refine zEs_ci rfl rfl (k_91 hL) (fun E hE => by cases hE) (fun v1 => ?_)
  refine zEs_run 3 rfl ?_
  refine zEs_ci rfl rfl (k_14 hL) (fun E hE => by cases hE) (fun v2 => ?_)
  refine zEs_wv rfl rfl (k_41 hL) (fun E hE => by cases hE) (fun s3_ a3_ e3_ => ?_)
  have f3_ : zfr [] [2, 17] s a s3_ a3_ := zfr_tr f0 (zfr_mo e3_ (by decide) (by decide))
  refine zEs_run 4 rfl ?_
  refine zEs_wv rfl rfl (x_26 17 41 40 rfl rfl (fun _ => rfl) f3_.2.2) (fun E hE => by cases hE) (fun s4_ a4_ e4_ => ?_)
  have f4_ : zfr [] [2, 17] s a s4_ a4_ := zfr_tr f3_ (zfr_mo e4_ (by decide) (by decide))
  exact zEs_end rfl rfl (Or.inl ⟨_, _, _, rfl, f4_, rfl⟩)
theorem k_101 (hL : zaL a) {x1 : Int32} {x2 : Int32} : zMs xs (D + 5) 101 [.ref 0, .int x1, .int x2] (zx s a T) nc ns (zPo zRv [] [7, 8] [2, 3, 4, 17] s a T nc ns) := by
  refine ⟨_, rfl, ?_⟩
  have f0 : zfr [7, 8] [2, 3, 4, 17] s a s a := zfr_rf hL
  refine zEs_run 4 rfl ?_
  refine zEs_ci rfl rfl (k_90 hL) (fun E hE => by cases hE) (fun v1 => ?_)
  refine zEs_wv rfl rfl (k_43 hL) (fun E hE => by cases hE) (fun s2_ a2_ e2_ => ?_)
  have f2_ : zfr [7, 8] [2, 3, 4, 17] s a s2_ a2_ := zfr_tr f0 (zfr_mo e2_ (by decide) (by decide))
  refine zEs_run 3 rfl ?_
  refine zEs_wv rfl rfl (k_102 f2_.2.2) (fun E hE => by cases hE) (fun s3_ a3_ e3_ => ?_)
  have f3_ : zfr [7, 8] [2, 3, 4, 17] s a s3_ a3_ := zfr_tr f2_ (zfr_mo e3_ (by decide) (by decide))
  exact zEs_end rfl rfl (Or.inl ⟨_, _, _, rfl, f3_, rfl⟩)
theorem k_89 (hL : zaL a) {x1 : Int32} : zMs xs (D + 0) 89 [.int x1] (zx s a T) nc ns (zPr zRi [] (zx s a T) nc ns) := by
  refine ⟨_, rfl, ?_⟩
  refine zEs_run 2 rfl ?_
  refine zEs_icmp rfl (fun _ => ?_) (fun _ => ?_)
  · skip
    refine zEs_run 3 rfl ?_
    exact zEs_end rfl rfl (Or.inl ⟨_, ⟨_, rfl⟩, rfl⟩)
  · skip
    refine zEs_run 4 rfl ?_
    exact zEs_end rfl rfl (Or.inl ⟨_, ⟨_, rfl⟩, rfl⟩)
theorem k_92 (hL : zaL a) {x1 : Int32} : zMs xs (D + 3) 92 [.ref 0, .int x1] (zx s a T) nc ns (zPr zRi [] (zx s a T) nc ns) := by
  refine ⟨_, rfl, ?_⟩
  refine zEs_run 5 rfl ?_
  refine zEs_ci rfl rfl (k_91 hL) (fun E hE => by cases hE) (fun v1 => ?_)
  refine zEs_ci rfl rfl (x_25 2 8 7 rfl rfl hL) (fun E hE => by cases hE) (fun v2 => ?_)
  exact zEs_end rfl rfl (Or.inl ⟨_, ⟨_, rfl⟩, rfl⟩)
theorem k_54 (hL : zaL a) {x1 : Int32} {x2 : Int32} : zMs xs (D + 6) 54 [.ref 0, .int x1, .int x2] (zx s a T) nc ns (zPo zRi [0, 1, 2] [7, 8] [2, 3, 4, 17] s a T nc ns) := by
  refine ⟨_, rfl, ?_⟩
  have f0 : zfr [7, 8] [2, 3, 4, 17] s a s a := zfr_rf hL
  have c46 : ∀ (i46_3 : Int32) (s46 : Nat → Int32) (a46 : Nat → List Int32) (f46 : zfr [7, 8] [2, 3, 4, 17] s a s46 a46), zEs xs (D + 6) 54 46 [some (.ref 0), some (.int x1), some (.int x2), some (.int i46_3)] [] (zx s46 a46 T) nc ns (zPo zRi [0, 1, 2] [7, 8] [2, 3, 4, 17] s a T nc ns) := by
    intro i46_3 s46 a46 f46
    refine zEs_run 2 rfl ?_
    refine zEs_ci rfl rfl (k_92 f46.2.2) (fun E hE => by cases hE) (fun v1 => ?_)
    exact zEs_end rfl rfl (Or.inl ⟨_, _, _, ⟨_, rfl⟩, f46, rfl⟩)
  refine zEs_run 1 rfl ?_
  refine zEs_cv rfl rfl (k_82 hL) (fun E hE => ⟨rfl, Or.inr ⟨E, (show ∀ E ∈ ([1] : List Nat), E ∈ ([0, 1, 2] : List Nat) by decide) E hE, rfl⟩⟩) ?_
  refine zEs_run 2 rfl ?_
  refine zEs_cv rfl rfl (k_86 hL) (fun E hE => ⟨rfl, Or.inr ⟨E, (show ∀ E ∈ ([0] : List Nat), E ∈ ([0, 1, 2] : List Nat) by decide) E hE, rfl⟩⟩) ?_
  refine zEs_run 2 rfl ?_
  refine zEs_cv rfl rfl (k_87 hL) (fun E hE => ⟨rfl, Or.inr ⟨E, (show ∀ E ∈ ([2] : List Nat), E ∈ ([0, 1, 2] : List Nat) by decide) E hE, rfl⟩⟩) ?_
  refine zEs_run 3 rfl ?_
  refine zEs_wv rfl rfl (k_101 hL) (fun E hE => by cases hE) (fun s5_ a5_ e5_ => ?_)
  have f5_ : zfr [7, 8] [2, 3, 4, 17] s a s5_ a5_ := zfr_tr f0 (zfr_mo e5_ (by decide) (by decide))
  refine zEs_run 1 rfl ?_
  refine zEs_ci rfl rfl (k_89 f5_.2.2) (fun E hE => by cases hE) (fun v6 => ?_)
  refine zEs_run 3 rfl ?_
  refine zEs_if rfl (fun _ => ?_) (fun _ => ?_)
  · skip
    exact c46 _ _ _ f5_
  · skip
    refine zEs_run 2 rfl ?_
    refine zEs_cb rfl rfl (k_96 f5_.2.2) (fun E hE => by cases hE) (fun v8 hb8 => ?_)
    refine zEs_if rfl (fun _ => ?_) (fun _ => ?_)
    · skip
      exact c46 _ _ _ f5_
    · skip
      refine zEs_run 3 rfl ?_
      refine zEs_wv rfl rfl (k_101 f5_.2.2) (fun E hE => by cases hE) (fun s10_ a10_ e10_ => ?_)
      have f10_ : zfr [7, 8] [2, 3, 4, 17] s a s10_ a10_ := zfr_tr f5_ (zfr_mo e10_ (by decide) (by decide))
      exact c46 _ _ _ f10_
theorem k_95 (hL : zaL a) {x1 : Int32} : zMs xs (D + 1) 95 [.ref 0, .int x1] (zx s a T) nc ns (zPr zRb [] (zx s a T) nc ns) := by
  refine ⟨_, rfl, ?_⟩
  refine zEs_run 3 rfl ?_
  refine zEs_ci rfl rfl (x_25 17 41 40 rfl rfl hL) (fun E hE => by cases hE) (fun v1 => ?_)
  refine zEs_if rfl (fun _ => ?_) (fun _ => ?_)
  · skip
    refine zEs_run 1 rfl ?_
    exact zEs_bret rfl (Or.inl rfl) (Or.inl ⟨_, ⟨_, Or.inl rfl, rfl⟩, rfl⟩)
  · skip
    refine zEs_run 2 rfl ?_
    exact zEs_bret rfl (Or.inr rfl) (Or.inl ⟨_, ⟨_, Or.inr rfl, rfl⟩, rfl⟩)
theorem k_97 (hL : zaL a) {x1 : Int32} : zMs xs (D + 4) 97 [.ref 0, .int x1] (zx s a T) nc ns (zPr zRi [] (zx s a T) nc ns) := by
  refine ⟨_, rfl, ?_⟩
  refine zEs_run 2 rfl ?_
  refine zEs_cb rfl rfl (k_95 hL) (fun E hE => by cases hE) (fun v1 hb1 => ?_)
  refine zEs_if rfl (fun _ => ?_) (fun _ => ?_)
  · skip
    refine zEs_run 4 rfl ?_
    refine zEs_ci rfl rfl (k_92 hL) (fun E hE => by cases hE) (fun v3 => ?_)
    refine zEs_ci rfl rfl (k_13 hL) (fun E hE => by cases hE) (fun v4 => ?_)
    exact zEs_end rfl rfl (Or.inl ⟨_, ⟨_, rfl⟩, rfl⟩)
  · skip
    refine zEs_run 2 rfl ?_
    exact zEs_end rfl rfl (Or.inl ⟨_, ⟨_, rfl⟩, rfl⟩)
theorem k_103 (hL : zaL a) {x1 : Int32} {x2 : Int32} : zMs xs (D + 4) 103 [.ref 0, .int x1, .int x2] (zx s a T) nc ns (zPo zRv [] [11, 12, 13] [2, 12, 13, 14] s a T nc ns) := by
  refine ⟨_, rfl, ?_⟩
  have f0 : zfr [11, 12, 13] [2, 12, 13, 14] s a s a := zfr_rf hL
  refine zEs_run 2 rfl ?_
  refine zEs_ci rfl rfl (k_92 hL) (fun E hE => by cases hE) (fun v1 => ?_)
  refine zEs_run 4 rfl ?_
  refine zEs_ci rfl rfl (k_9 hL) (fun E hE => by cases hE) (fun v2 => ?_)
  refine zEs_run 2 rfl ?_
  refine zEs_if rfl (fun _ => ?_) (fun _ => ?_)
  · skip
    refine zEs_run 4 rfl ?_
    refine zEs_ci rfl rfl (k_12 hL) (fun E hE => by cases hE) (fun v4 => ?_)
    refine zEs_run 3 rfl ?_
    refine zEs_wv rfl rfl (k_31 hL) (fun E hE => by cases hE) (fun s5_ a5_ e5_ => ?_)
    have f5_ : zfr [11, 12, 13] [2, 12, 13, 14] s a s5_ a5_ := zfr_tr f0 (zfr_mo e5_ (by decide) (by decide))
    refine zEs_run 1 rfl ?_
    refine zEs_if rfl (fun _ => ?_) (fun _ => ?_)
    · skip
      exact zEs_end rfl rfl (Or.inl ⟨_, _, _, rfl, f5_, rfl⟩)
    · skip
      refine zEs_run 2 rfl ?_
      refine zEs_icmp rfl (fun _ => ?_) (fun _ => ?_)
      · skip
        exact zEs_end rfl rfl (Or.inl ⟨_, _, _, rfl, f5_, rfl⟩)
      · skip
        refine zEs_run 4 rfl ?_
        refine zEs_ci rfl rfl (k_91 f5_.2.2) (fun E hE => by cases hE) (fun v8 => ?_)
        refine zEs_run 3 rfl ?_
        refine zEs_wv rfl rfl (k_41 f5_.2.2) (fun E hE => by cases hE) (fun s9_ a9_ e9_ => ?_)
        have f9_ : zfr [11, 12, 13] [2, 12, 13, 14] s a s9_ a9_ := zfr_tr f5_ (zfr_mo e9_ (by decide) (by decide))
        exact zEs_end rfl rfl (Or.inl ⟨_, _, _, rfl, f9_, rfl⟩)
  · skip
    exact zEs_end rfl rfl (Or.inl ⟨_, _, _, rfl, f0, rfl⟩)
theorem k_104 (hL : zaL a) {x1 : Int32} : zMs xs (D + 5) 104 [.ref 0, .int x1] (zx s a T) nc ns (zPo zRi [] [7, 8, 11, 12, 13] [2, 3, 4, 12, 13, 14, 17] s a T nc ns) := by
  refine ⟨_, rfl, ?_⟩
  have f0 : zfr [7, 8, 11, 12, 13] [2, 3, 4, 12, 13, 14, 17] s a s a := zfr_rf hL
  have c40 : ∀ (i40_2 : Int32) (i40_3 : Int32) (s40 : Nat → Int32) (a40 : Nat → List Int32) (f40 : zfr [7, 8, 11, 12, 13] [2, 3, 4, 12, 13, 14, 17] s a s40 a40), zEs xs (D + 5) 104 40 [some (.ref 0), some (.int x1), some (.int i40_2), some (.int i40_3)] [] (zx s40 a40 T) nc ns (zPo zRi [] [7, 8, 11, 12, 13] [2, 3, 4, 12, 13, 14, 17] s a T nc ns) := by
    intro i40_2 i40_3 s40 a40 f40
    refine zEs_run 2 rfl ?_
    refine zEs_icmp rfl (fun _ => ?_) (fun _ => ?_)
    · skip
      refine zEs_run 4 rfl ?_
      refine zEs_wv rfl rfl (k_103 f40.2.2) (fun E hE => by cases hE) (fun s2_ a2_ e2_ => ?_)
      have f2_ : zfr [7, 8, 11, 12, 13] [2, 3, 4, 12, 13, 14, 17] s a s2_ a2_ := zfr_tr f40 (zfr_mo e2_ (by decide) (by decide))
      refine zEs_run 3 rfl ?_
      refine zEs_wv rfl rfl (k_102 f2_.2.2) (fun E hE => by cases hE) (fun s3_ a3_ e3_ => ?_)
      have f3_ : zfr [7, 8, 11, 12, 13] [2, 3, 4, 12, 13, 14, 17] s a s3_ a3_ := zfr_tr f2_ (zfr_mo e3_ (by decide) (by decide))
      refine zEs_run 1 rfl ?_
      exact zEs_end rfl rfl (Or.inl ⟨_, _, _, ⟨_, rfl⟩, f3_, rfl⟩)
    · skip
      refine zEs_run 4 rfl ?_
      refine zEs_wv rfl rfl (x_26 17 41 40 rfl rfl (fun _ => rfl) f40.2.2) (fun E hE => by cases hE) (fun s4_ a4_ e4_ => ?_)
      have f4_ : zfr [7, 8, 11, 12, 13] [2, 3, 4, 12, 13, 14, 17] s a s4_ a4_ := zfr_tr f40 (zfr_mo e4_ (by decide) (by decide))
      refine zEs_run 1 rfl ?_
      exact zEs_end rfl rfl (Or.inl ⟨_, _, _, ⟨_, rfl⟩, f4_, rfl⟩)
  refine zEs_run 3 rfl ?_
  refine zEs_ci rfl rfl (k_89 hL) (fun E hE => by cases hE) (fun v5 => ?_)
  refine zEs_run 3 rfl ?_
  refine zEs_if rfl (fun _ => ?_) (fun _ => ?_)
  · skip
    exact c40 _ _ _ _ f0
  · skip
    refine zEs_run 2 rfl ?_
    refine zEs_cb rfl rfl (k_96 hL) (fun E hE => by cases hE) (fun v7 hb7 => ?_)
    refine zEs_if rfl (fun _ => ?_) (fun _ => ?_)
    · skip
      exact c40 _ _ _ _ f0
    · skip
      refine zEs_run 4 rfl ?_
      refine zEs_ci rfl rfl (k_90 hL) (fun E hE => by cases hE) (fun v9 => ?_)
      refine zEs_wv rfl rfl (k_43 hL) (fun E hE => by cases hE) (fun s10_ a10_ e10_ => ?_)
      have f10_ : zfr [7, 8, 11, 12, 13] [2, 3, 4, 12, 13, 14, 17] s a s10_ a10_ := zfr_tr f0 (zfr_mo e10_ (by decide) (by decide))
      refine zEs_run 2 rfl ?_
      refine zEs_ci rfl rfl (k_97 f10_.2.2) (fun E hE => by cases hE) (fun v11 => ?_)
      refine zEs_run 1 rfl ?_
      exact c40 _ _ _ _ f10_
theorem k_55 (hL : zaL a) {x1 : Int32} : zMs xs (D + 6) 55 [.ref 0, .int x1] (zx s a T) nc ns (zPo zRi [1, 2] [7, 8, 11, 12, 13] [2, 3, 4, 12, 13, 14, 17] s a T nc ns) := by
  refine ⟨_, rfl, ?_⟩
  have f0 : zfr [7, 8, 11, 12, 13] [2, 3, 4, 12, 13, 14, 17] s a s a := zfr_rf hL
  have c44 : ∀ (i44_2 : Int32) (s44 : Nat → Int32) (a44 : Nat → List Int32) (f44 : zfr [7, 8, 11, 12, 13] [2, 3, 4, 12, 13, 14, 17] s a s44 a44), zEs xs (D + 6) 55 44 [some (.ref 0), some (.int x1), some (.int i44_2)] [] (zx s44 a44 T) nc ns (zPo zRi [1, 2] [7, 8, 11, 12, 13] [2, 3, 4, 12, 13, 14, 17] s a T nc ns) := by
    intro i44_2 s44 a44 f44
    refine zEs_run 2 rfl ?_
    refine zEs_icmp rfl (fun _ => ?_) (fun _ => ?_)
    · skip
      refine zEs_run 1 rfl ?_
      exact zEs_end rfl rfl (Or.inl ⟨_, _, _, ⟨_, rfl⟩, f44, rfl⟩)
    · skip
      refine zEs_run 2 rfl ?_
      refine zEs_wi rfl rfl (k_104 f44.2.2) (fun E hE => by cases hE) (fun v2 s2_ a2_ e2_ => ?_)
      have f2_ : zfr [7, 8, 11, 12, 13] [2, 3, 4, 12, 13, 14, 17] s a s2_ a2_ := zfr_tr f44 (zfr_mo e2_ (by decide) (by decide))
      refine zEs_run 1 rfl ?_
      exact zEs_end rfl rfl (Or.inl ⟨_, _, _, ⟨_, rfl⟩, f2_, rfl⟩)
  refine zEs_run 1 rfl ?_
  refine zEs_cv rfl rfl (k_82 hL) (fun E hE => ⟨rfl, Or.inr ⟨E, (show ∀ E ∈ ([1] : List Nat), E ∈ ([1, 2] : List Nat) by decide) E hE, rfl⟩⟩) ?_
  refine zEs_run 2 rfl ?_
  refine zEs_cv rfl rfl (k_87 hL) (fun E hE => ⟨rfl, Or.inr ⟨E, (show ∀ E ∈ ([2] : List Nat), E ∈ ([1, 2] : List Nat) by decide) E hE, rfl⟩⟩) ?_
  refine zEs_run 4 rfl ?_
  refine zEs_ci rfl rfl (k_90 hL) (fun E hE => by cases hE) (fun v5 => ?_)
  refine zEs_wv rfl rfl (k_43 hL) (fun E hE => by cases hE) (fun s6_ a6_ e6_ => ?_)
  have f6_ : zfr [7, 8, 11, 12, 13] [2, 3, 4, 12, 13, 14, 17] s a s6_ a6_ := zfr_tr f0 (zfr_mo e6_ (by decide) (by decide))
  refine zEs_run 2 rfl ?_
  refine zEs_ci rfl rfl (k_97 f6_.2.2) (fun E hE => by cases hE) (fun v7 => ?_)
  refine zEs_run 3 rfl ?_
  refine zEs_cb rfl rfl (k_95 f6_.2.2) (fun E hE => by cases hE) (fun v8 hb8 => ?_)
  refine zEs_if rfl (fun _ => ?_) (fun _ => ?_)
  · skip
    exact c44 _ _ _ f6_
  · skip
    refine zEs_run 4 rfl ?_
    refine zEs_wv rfl rfl (k_103 f6_.2.2) (fun E hE => by cases hE) (fun s10_ a10_ e10_ => ?_)
    have f10_ : zfr [7, 8, 11, 12, 13] [2, 3, 4, 12, 13, 14, 17] s a s10_ a10_ := zfr_tr f6_ (zfr_mo e10_ (by decide) (by decide))
    exact c44 _ _ _ f10_
theorem k_56 (hL : zaL a) {x1 : Int32} {x2 : Int32} : zMs xs (D + 4) 56 [.ref 0, .int x1, .int x2] (zx s a T) nc ns (zPo zRi [0, 1] [] [2] s a T nc ns) := by
  refine ⟨_, rfl, ?_⟩
  have f0 : zfr [] [2] s a s a := zfr_rf hL
  have c20 : zEs xs (D + 4) 56 20 [some (.ref 0), some (.int x1), some (.int x2)] [] (zx s a T) nc ns (zPo zRi [0, 1] [] [2] s a T nc ns) := by
    exact zEs_end rfl rfl (Or.inr ⟨0, by decide, rfl⟩)
  refine zEs_run 1 rfl ?_
  refine zEs_cv rfl rfl (k_82 hL) (fun E hE => ⟨rfl, Or.inr ⟨E, (show ∀ E ∈ ([1] : List Nat), E ∈ ([0, 1] : List Nat) by decide) E hE, rfl⟩⟩) ?_
  refine zEs_run 2 rfl ?_
  refine zEs_icmp rfl (fun _ => ?_) (fun _ => ?_)
  · skip
    exact c20 
  · skip
    refine zEs_run 3 rfl ?_
    refine zEs_ci rfl rfl (k_5 hL) (fun E hE => by cases hE) (fun v3 => ?_)
    refine zEs_icmp rfl (fun _ => ?_) (fun _ => ?_)
    · skip
      refine zEs_run 4 rfl ?_
      refine zEs_ci rfl rfl (k_91 hL) (fun E hE => by cases hE) (fun v5 => ?_)
      refine zEs_run 2 rfl ?_
      refine zEs_ci rfl rfl (k_92 hL) (fun E hE => by cases hE) (fun v6 => ?_)
      refine zEs_run 2 rfl ?_
      refine zEs_wv rfl rfl (k_41 hL) (fun E hE => by cases hE) (fun s7_ a7_ e7_ => ?_)
      have f7_ : zfr [] [2] s a s7_ a7_ := zfr_tr f0 (zfr_mo e7_ (by decide) (by decide))
      refine zEs_run 2 rfl ?_
      refine zEs_ci rfl rfl (k_92 f7_.2.2) (fun E hE => by cases hE) (fun v8 => ?_)
      exact zEs_end rfl rfl (Or.inl ⟨_, _, _, ⟨_, rfl⟩, f7_, rfl⟩)
    · skip
      exact c20 
theorem k_57 (hL : zaL a) {x1 : Int32} {x2 : Int32} {x3 : Int32} : zMs xs (D + 4) 57 [.ref 0, .int x1, .int x2, .int x3] (zx s a T) nc ns (zPo zRi [0, 1, 2] [9] [2, 6, 7, 8] s a T nc ns) := by
  refine ⟨_, rfl, ?_⟩
  have f0 : zfr [9] [2, 6, 7, 8] s a s a := zfr_rf hL
  have c72 : ∀ (t72_0 : Int32) (t72_1 : Int32) (t72_2 : Int32), zEs xs (D + 4) 57 72 [some (.ref 0), some (.int x1), some (.int x2), some (.int x3)] [.int t72_0, .int t72_1, .int t72_2, .ref 15] (zx s a T) nc ns (zPo zRi [0, 1, 2] [9] [2, 6, 7, 8] s a T nc ns) := by
    intro t72_0 t72_1 t72_2
    refine zEs_wv rfl rfl (k_21_15 hL) (fun E hE => by cases hE) (fun s1_ a1_ e1_ => ?_)
    have f1_ : zfr [9] [2, 6, 7, 8] s a s1_ a1_ := zfr_tr f0 (zfr_mo e1_ (by decide) (by decide))
    refine zEs_run 4 rfl ?_
    refine zEs_ci rfl rfl (k_91 f1_.2.2) (fun E hE => by cases hE) (fun v2 => ?_)
    refine zEs_run 2 rfl ?_
    refine zEs_ci rfl rfl (k_92 f1_.2.2) (fun E hE => by cases hE) (fun v3 => ?_)
    refine zEs_wv rfl rfl (k_41 f1_.2.2) (fun E hE => by cases hE) (fun s4_ a4_ e4_ => ?_)
    have f4_ : zfr [9] [2, 6, 7, 8] s a s4_ a4_ := zfr_tr f1_ (zfr_mo e4_ (by decide) (by decide))
    refine zEs_run 4 rfl ?_
    exact zEs_end rfl rfl (Or.inl ⟨_, _, _, ⟨_, rfl⟩, f4_, rfl⟩)
  refine zEs_run 1 rfl ?_
  refine zEs_cv rfl rfl (k_82 hL) (fun E hE => ⟨rfl, Or.inr ⟨E, (show ∀ E ∈ ([1] : List Nat), E ∈ ([0, 1, 2] : List Nat) by decide) E hE, rfl⟩⟩) ?_
  refine zEs_run 3 rfl ?_
  refine zEs_cb rfl rfl (k_7 hL) (fun E hE => by cases hE) (fun v6 hb6 => ?_)
  refine zEs_if rfl (fun _ => ?_) (fun _ => ?_)
  · skip
    refine zEs_run 3 rfl ?_
    refine zEs_cb rfl rfl (k_20_15 hL) (fun E hE => by cases hE) (fun v8 hb8 => ?_)
    refine zEs_if rfl (fun _ => ?_) (fun _ => ?_)
    · skip
      refine zEs_run 5 rfl ?_
      refine zEs_ci rfl rfl (k_91 hL) (fun E hE => by cases hE) (fun v10 => ?_)
      refine zEs_run 4 rfl ?_
      refine zEs_if rfl (fun _ => ?_) (fun _ => ?_)
      · skip
        refine zEs_run 1 rfl ?_
        exact c72 _ _ _
      · skip
        refine zEs_run 2 rfl ?_
        exact c72 _ _ _
    · skip
      exact zEs_end rfl rfl (Or.inr ⟨2, by decide, rfl⟩)
  · skip
    exact zEs_end rfl rfl (Or.inr ⟨0, by decide, rfl⟩)
theorem k_58 (hL : zaL a) {x1 : Int32} {x2 : Int32} {x3 : Int32} : zMs xs (D + 3) 58 [.ref 0, .int x1, .int x2, .int x3] (zx s a T) nc ns (zPo zRi [0, 1, 2] [10] [9, 10, 11] s a T nc ns) := by
  refine ⟨_, rfl, ?_⟩
  have f0 : zfr [10] [9, 10, 11] s a s a := zfr_rf hL
  have c36 : zEs xs (D + 3) 58 36 [some (.ref 0), some (.int x1), some (.int x2), some (.int x3)] [] (zx s a T) nc ns (zPo zRi [0, 1, 2] [10] [9, 10, 11] s a T nc ns) := by
    exact zEs_end rfl rfl (Or.inr ⟨0, by decide, rfl⟩)
  refine zEs_run 1 rfl ?_
  refine zEs_cv rfl rfl (k_82 hL) (fun E hE => ⟨rfl, Or.inr ⟨E, (show ∀ E ∈ ([1] : List Nat), E ∈ ([0, 1, 2] : List Nat) by decide) E hE, rfl⟩⟩) ?_
  refine zEs_run 3 rfl ?_
  refine zEs_cb rfl rfl (k_7 hL) (fun E hE => by cases hE) (fun v2 hb2 => ?_)
  refine zEs_if rfl (fun _ => ?_) (fun _ => ?_)
  · skip
    refine zEs_run 2 rfl ?_
    refine zEs_icmp rfl (fun _ => ?_) (fun _ => ?_)
    · skip
      exact c36 
    · skip
      refine zEs_run 2 rfl ?_
      refine zEs_icmp rfl (fun _ => ?_) (fun _ => ?_)
      · skip
        refine zEs_run 3 rfl ?_
        refine zEs_cb rfl rfl (k_20_22 hL) (fun E hE => by cases hE) (fun v6 hb6 => ?_)
        refine zEs_if rfl (fun _ => ?_) (fun _ => ?_)
        · skip
          refine zEs_run 5 rfl ?_
          refine zEs_ci rfl rfl (k_91 hL) (fun E hE => by cases hE) (fun v8 => ?_)
          refine zEs_run 4 rfl ?_
          refine zEs_wv rfl rfl (k_21_22 hL) (fun E hE => by cases hE) (fun s9_ a9_ e9_ => ?_)
          have f9_ : zfr [10] [9, 10, 11] s a s9_ a9_ := zfr_tr f0 (zfr_mo e9_ (by decide) (by decide))
          refine zEs_run 4 rfl ?_
          exact zEs_end rfl rfl (Or.inl ⟨_, _, _, ⟨_, rfl⟩, f9_, rfl⟩)
        · skip
          exact zEs_end rfl rfl (Or.inr ⟨2, by decide, rfl⟩)
      · skip
        exact c36 
  · skip
    exact zEs_end rfl rfl (Or.inr ⟨0, by decide, rfl⟩)
theorem k_83 (hL : zaL a) {x1 : Int32} : zMs xs (D + 0) 83 [.int x1] (zx s a T) nc ns (zPr zRv [1] (zx s a T) nc ns) := by
  refine ⟨_, rfl, ?_⟩
  have c9 : zEs xs (D + 0) 83 9 [some (.int x1)] [] (zx s a T) nc ns (zPr zRv [1] (zx s a T) nc ns) := by
    exact zEs_end rfl rfl (Or.inr ⟨1, by decide, rfl⟩)
  refine zEs_run 1 rfl ?_
  refine zEs_if rfl (fun _ => ?_) (fun _ => ?_)
  · skip
    exact c9 
  · skip
    refine zEs_run 2 rfl ?_
    refine zEs_icmp rfl (fun _ => ?_) (fun _ => ?_)
    · skip
      exact zEs_end rfl rfl (Or.inl ⟨_, rfl, rfl⟩)
    · skip
      exact c9 
theorem k_84 (hL : zaL a) {x1 : Int32} {x2 : Int32} : zMs xs (D + 1) 84 [.int x1, .int x2] (zx s a T) nc ns (zPr zRv [1] (zx s a T) nc ns) := by
  refine ⟨_, rfl, ?_⟩
  have c14 : zEs xs (D + 1) 84 14 [some (.int x1), some (.int x2)] [] (zx s a T) nc ns (zPr zRv [1] (zx s a T) nc ns) := by
    exact zEs_end rfl rfl (Or.inr ⟨1, by decide, rfl⟩)
  refine zEs_run 1 rfl ?_
  refine zEs_cv rfl rfl (k_83 hL) (fun E hE => ⟨rfl, Or.inr ⟨E, (show ∀ E ∈ ([1] : List Nat), E ∈ ([1] : List Nat) by decide) E hE, rfl⟩⟩) ?_
  refine zEs_run 1 rfl ?_
  refine zEs_if rfl (fun _ => ?_) (fun _ => ?_)
  · skip
    exact c14 
  · skip
    refine zEs_run 2 rfl ?_
    refine zEs_icmp rfl (fun _ => ?_) (fun _ => ?_)
    · skip
      exact zEs_end rfl rfl (Or.inl ⟨_, rfl, rfl⟩)
    · skip
      exact c14 
theorem k_88 (hL : zaL a) {x1 : Int32} {x2 : Int32} : zMs xs (D + 0) 88 [.int x1, .int x2] (zx s a T) nc ns (zPr zRi [] (zx s a T) nc ns) := by
  refine ⟨_, rfl, ?_⟩
  refine zEs_run 7 rfl ?_
  exact zEs_end rfl rfl (Or.inl ⟨_, ⟨_, rfl⟩, rfl⟩)
theorem k_59 (hL : zaL a) {x1 : Int32} {x2 : Int32} {x3 : Int32} : zMs xs (D + 5) 59 [.ref 0, .int x1, .int x2, .int x3] (zx s a T) nc ns (zPo zRi [0, 1] [7, 8] [2, 3, 4] s a T nc ns) := by
  refine ⟨_, rfl, ?_⟩
  have f0 : zfr [7, 8] [2, 3, 4] s a s a := zfr_rf hL
  have c16 : zEs xs (D + 5) 59 16 [some (.ref 0), some (.int x1), some (.int x2), some (.int x3), none, none] [] (zx s a T) nc ns (zPo zRi [0, 1] [7, 8] [2, 3, 4] s a T nc ns) := by
    exact zEs_end rfl rfl (Or.inr ⟨0, by decide, rfl⟩)
  have c40 : ∀ (n40 : Nat) (i40_4 : Int32) (i40_5 : Int32) (s40 : Nat → Int32) (a40 : Nat → List Int32) (f40 : zfr [7, 8] [2, 3, 4] s a s40 a40), ((x3).toInt - (i40_5).toInt).toNat < n40 → zEs xs (D + 5) 59 40 [some (.ref 0), some (.int x1), some (.int x2), some (.int x3), some (.int i40_4), some (.int i40_5)] [] (zx s40 a40 T) nc ns (zPo zRi [0, 1] [7, 8] [2, 3, 4] s a T nc ns) := by
    intro n40
    induction n40 with
    | zero =>
      intro i40_4 i40_5 s40 a40 f40 hn40
      exact absurd hn40 (Nat.not_lt_zero _)
    | succ n40 ih40 =>
      intro i40_4 i40_5 s40 a40 f40 hn40
      refine zEs_run 2 rfl ?_
      refine zEs_icmp rfl (fun g40 => ?_) (fun g40 => ?_)
      · skip
        refine zEs_run 4 rfl ?_
        refine zEs_ci rfl rfl (x_25 3 10 9 rfl rfl f40.2.2) (fun E hE => by cases hE) (fun v1 => ?_)
        exact zEs_end rfl rfl (Or.inl ⟨_, _, _, ⟨_, rfl⟩, f40, rfl⟩)
      · skip
        have g40 : ¬ x3 ≤ i40_5 := g40
        refine zEs_run 3 rfl ?_
        refine zEs_wv rfl rfl (k_43 f40.2.2) (fun E hE => by cases hE) (fun s2_ a2_ e2_ => ?_)
        have f2_ : zfr [7, 8] [2, 3, 4] s a s2_ a2_ := zfr_tr f40 (zfr_mo e2_ (by decide) (by decide))
        refine zEs_run 2 rfl ?_
        exact ih40 _ _ _ _ f2_ (Nat.lt_of_lt_of_le (zdec g40) (Nat.le_of_lt_succ hn40))
  refine zEs_run 2 rfl ?_
  refine zEs_cv rfl rfl (k_84 hL) (fun E hE => ⟨rfl, Or.inr ⟨E, (show ∀ E ∈ ([1] : List Nat), E ∈ ([0, 1] : List Nat) by decide) E hE, rfl⟩⟩) ?_
  refine zEs_run 2 rfl ?_
  refine zEs_icmp rfl (fun _ => ?_) (fun _ => ?_)
  · skip
    exact c16 
  · skip
    refine zEs_run 2 rfl ?_
    refine zEs_icmp rfl (fun _ => ?_) (fun _ => ?_)
    · skip
      refine zEs_run 3 rfl ?_
      refine zEs_ci rfl rfl (k_88 hL) (fun E hE => by cases hE) (fun v6 => ?_)
      refine zEs_ci rfl rfl (k_90 hL) (fun E hE => by cases hE) (fun v7 => ?_)
      refine zEs_run 3 rfl ?_
      exact c40 _ _ _ _ _ f0 (Nat.lt_succ_self _)
    · skip
      exact c16 
theorem k_60 (hL : zaL a) {x1 : Int32} {x2 : Int32} {x3 : Int32} {x4 : Int32} {x5 : Int32} (hx4 : x4 = 0 ∨ x4 = 1) (hx5 : x5 = 0 ∨ x5 = 1) : zMs xs (D + 0) 60 [.ref 0, .int x1, .int x2, .int x3, .int x4, .int x5] (zx s a T) nc ns (zPo zRi [0] [5, 6, 14, 15, 16] [] s a T nc ns) := by
  refine ⟨_, rfl, ?_⟩
  have f0 : zfr [5, 6, 14, 15, 16] [] s a s a := zfr_rf hL
  have c11 : zEs xs (D + 0) 60 11 [some (.ref 0), some (.int x1), some (.int x2), some (.int x3), some (.int x4), some (.int x5), none] [] (zx s a T) nc ns (zPo zRi [0] [5, 6, 14, 15, 16] [] s a T nc ns) := by
    exact zEs_end rfl rfl (Or.inr ⟨0, by decide, rfl⟩)
  have c32 : zEs xs (D + 0) 60 32 [some (.ref 0), some (.int x1), some (.int x2), some (.int x3), some (.int x4), some (.int x5), none] [] (zx s a T) nc ns (zPo zRi [0] [5, 6, 14, 15, 16] [] s a T nc ns) := by
    exact zEs_end rfl rfl (Or.inr ⟨0, by decide, rfl⟩)
  have c52 : zEs xs (D + 0) 60 52 [some (.ref 0), some (.int x1), some (.int x2), some (.int x3), some (.int x4), some (.int x5), none] [] (zx s a T) nc ns (zPo zRi [0] [5, 6, 14, 15, 16] [] s a T nc ns) := by
    exact zEs_end rfl rfl (Or.inr ⟨0, by decide, rfl⟩)
  refine zEs_run 2 rfl ?_
  refine zEs_icmp rfl (fun _ => ?_) (fun _ => ?_)
  · skip
    exact c11 
  · skip
    refine zEs_run 2 rfl ?_
    refine zEs_icmp rfl (fun _ => ?_) (fun _ => ?_)
    · skip
      refine zEs_run 2 rfl ?_
      refine zEs_icmp rfl (fun _ => ?_) (fun _ => ?_)
      · skip
        exact c32 
      · skip
        refine zEs_run 2 rfl ?_
        refine zEs_icmp rfl (fun _ => ?_) (fun _ => ?_)
        · skip
          refine zEs_run 1 rfl ?_
          refine zEs_if rfl (fun _ => ?_) (fun _ => ?_)
          · skip
            exact c52 
          · skip
            refine zEs_run 2 rfl ?_
            refine zEs_icmp rfl (fun _ => ?_) (fun _ => ?_)
            · skip
              rcases hx4 with rfl | rfl <;> rcases hx5 with rfl | rfl
              all_goals (refine zEs_run 21 (h' := zx (zup (zup (zup (zup (zup s 5 _) 6 _) 14 _) 15 _) 16 _) a T) rfl ?_)
              all_goals (exact zEs_end rfl rfl (Or.inl ⟨_, _, _, ⟨_, rfl⟩, (zfr_s (k := 16) (zfr_s (k := 15) (zfr_s (k := 14) (zfr_s (k := 6) (zfr_s (k := 5) f0 (by decide)) (by decide)) (by decide)) (by decide)) (by decide)), rfl⟩))
            · skip
              exact c52 
        · skip
          exact c32 
    · skip
      exact c11 
theorem k_106 (hL : zaL a) {x1 : Int32} {x2 : Int32} {x3 : Int32} : zMs xs (D + 4) 106 [.ref 0, .int x1, .int x2, .int x3] (zx s a T) nc ns (zPo zRv [] [] [2, 15, 17] s a T nc ns) := by
  refine ⟨_, rfl, ?_⟩
  have f0 : zfr [] [2, 15, 17] s a s a := zfr_rf hL
  have c21 : ∀ (n21 : Nat) (i21_4 : Int32) (i21_5 : Int32) (i21_6 : Int32) (o21_7 : Option Value) (o21_8 : Option Value) (s21 : Nat → Int32) (a21 : Nat → List Int32) (f21 : zfr [] [2, 15, 17] s a s21 a21), (((Int8.ofInt 8).toInt32).toInt - (i21_6).toInt).toNat < n21 → zEs xs (D + 4) 106 21 [some (.ref 0), some (.int x1), some (.int x2), some (.int x3), some (.int i21_4), some (.int i21_5), some (.int i21_6), o21_7, o21_8] [] (zx s21 a21 T) nc ns (zPo zRv [] [] [2, 15, 17] s a T nc ns) := by
    intro n21
    induction n21 with
    | zero =>
      intro i21_4 i21_5 i21_6 o21_7 o21_8 s21 a21 f21 hn21
      exact absurd hn21 (Nat.not_lt_zero _)
    | succ n21 ih21 =>
      intro i21_4 i21_5 i21_6 o21_7 o21_8 s21 a21 f21 hn21
      refine zEs_run 2 rfl ?_
      refine zEs_icmp rfl (fun g21 => ?_) (fun g21 => ?_)
      · skip
        refine zEs_run 8 rfl ?_
        refine zEs_wv rfl rfl (x_26 15 37 36 rfl rfl (fun _ => rfl) f21.2.2) (fun E hE => by cases hE) (fun s1_ a1_ e1_ => ?_)
        have f1_ : zfr [] [2, 15, 17] s a s1_ a1_ := zfr_tr f21 (zfr_mo e1_ (by decide) (by decide))
        exact zEs_end rfl rfl (Or.inl ⟨_, _, _, rfl, f1_, rfl⟩)
      · skip
        have g21 : ¬ (Int8.ofInt 8).toInt32 ≤ i21_6 := g21
        have c72 : ∀ (i72_7 : Int32) (i72_8 : Int32) (s72 : Nat → Int32) (a72 : Nat → List Int32) (f72 : zfr [] [2, 15, 17] s a s72 a72), zEs xs (D + 4) 106 72 [some (.ref 0), some (.int x1), some (.int x2), some (.int x3), some (.int i21_4), some (.int i21_5), some (.int i21_6), some (.int i72_7), some (.int i72_8)] [] (zx s72 a72 T) nc ns (zPo zRv [] [] [2, 15, 17] s a T nc ns) := by
          intro i72_7 i72_8 s72 a72 f72
          refine zEs_run 8 rfl ?_
          refine zEs_wv rfl rfl (k_41 f72.2.2) (fun E hE => by cases hE) (fun s2_ a2_ e2_ => ?_)
          have f2_ : zfr [] [2, 15, 17] s a s2_ a2_ := zfr_tr f72 (zfr_mo e2_ (by decide) (by decide))
          refine zEs_run 2 rfl ?_
          exact ih21 _ _ _ (some (.int _)) (some (.int _)) _ _ f2_ (Nat.lt_of_lt_of_le (zdec g21) (Nat.le_of_lt_succ hn21))
        refine zEs_run 4 rfl ?_
        refine zEs_ci rfl rfl (k_92 f21.2.2) (fun E hE => by cases hE) (fun v3 => ?_)
        refine zEs_run 4 rfl ?_
        refine zEs_ci rfl rfl (k_9 f21.2.2) (fun E hE => by cases hE) (fun v4 => ?_)
        refine zEs_run 3 rfl ?_
        refine zEs_icmp rfl (fun _ => ?_) (fun _ => ?_)
        · skip
          exact c72 _ _ _ _ f21
        · skip
          refine zEs_run 6 rfl ?_
          refine zEs_wv rfl rfl (x_26 17 41 40 rfl rfl (fun _ => rfl) f21.2.2) (fun E hE => by cases hE) (fun s6_ a6_ e6_ => ?_)
          have f6_ : zfr [] [2, 15, 17] s a s6_ a6_ := zfr_tr f21 (zfr_mo e6_ (by decide) (by decide))
          refine zEs_run 2 rfl ?_
          exact c72 _ _ _ _ f6_
  refine zEs_run 2 rfl ?_
  refine zEs_ci rfl rfl (k_88 hL) (fun E hE => by cases hE) (fun v7 => ?_)
  refine zEs_run 11 rfl ?_
  exact c21 _ _ _ _ (none) (none) _ _ f0 (Nat.lt_succ_self _)
theorem k_61 (hL : zaL a) {x1 : Int32} {x2 : Int32} : zMs xs (D + 5) 61 [.ref 0, .int x1, .int x2] (zx s a T) nc ns (zPo zRi [1, 2] [] [2, 15, 16, 17] s a T nc ns) := by
  refine ⟨_, rfl, ?_⟩
  have f0 : zfr [] [2, 15, 16, 17] s a s a := zfr_rf hL
  refine zEs_run 2 rfl ?_
  refine zEs_cv rfl rfl (k_84 hL) (fun E hE => ⟨rfl, Or.inr ⟨E, (show ∀ E ∈ ([1] : List Nat), E ∈ ([1, 2] : List Nat) by decide) E hE, rfl⟩⟩) ?_
  refine zEs_run 3 rfl ?_
  refine zEs_ci rfl rfl (x_25 16 39 38 rfl rfl hL) (fun E hE => by cases hE) (fun v2 => ?_)
  refine zEs_run 3 rfl ?_
  refine zEs_icmp rfl (fun _ => ?_) (fun _ => ?_)
  · skip
    refine zEs_run 6 rfl ?_
    refine zEs_wv rfl rfl (k_106 hL) (fun E hE => by cases hE) (fun s4_ a4_ e4_ => ?_)
    have f4_ : zfr [] [2, 15, 16, 17] s a s4_ a4_ := zfr_tr f0 (zfr_mo e4_ (by decide) (by decide))
    refine zEs_run 6 rfl ?_
    refine zEs_wv rfl rfl (x_26 16 39 38 rfl rfl (fun _ => rfl) f4_.2.2) (fun E hE => by cases hE) (fun s5_ a5_ e5_ => ?_)
    have f5_ : zfr [] [2, 15, 16, 17] s a s5_ a5_ := zfr_tr f4_ (zfr_mo e5_ (by decide) (by decide))
    refine zEs_run 3 rfl ?_
    exact zEs_end rfl rfl (Or.inl ⟨_, _, _, ⟨_, rfl⟩, f5_, rfl⟩)
  · skip
    exact zEs_end rfl rfl (Or.inr ⟨2, by decide, rfl⟩)
theorem k_62 (hL : zaL a) {x1 : Int32} {x2 : Int32} : zMs xs (D + 1) 62 [.ref 0, .int x1, .int x2] (zx s a T) nc ns (zPo zRi [1] [] [18] s a T nc ns) := by
  refine ⟨_, rfl, ?_⟩
  have f0 : zfr [] [18] s a s a := zfr_rf hL
  have c18 : ∀ (t18_0 : Int32) (t18_1 : Int32), zEs xs (D + 1) 62 18 [some (.ref 0), some (.int x1), some (.int x2)] [.int t18_0, .int t18_1, .ref 42] (zx s a T) nc ns (zPo zRi [1] [] [18] s a T nc ns) := by
    intro t18_0 t18_1
    refine zEs_wv rfl rfl (x_26 18 43 42 rfl rfl (fun _ => rfl) hL) (fun E hE => by cases hE) (fun s1_ a1_ e1_ => ?_)
    have f1_ : zfr [] [18] s a s1_ a1_ := zfr_tr f0 (zfr_mo e1_ (by decide) (by decide))
    refine zEs_run 2 rfl ?_
    refine zEs_ci rfl rfl (x_28 18 43 42 rfl rfl f1_.2.2) (fun E hE => by cases hE) (fun v2 => ?_)
    exact zEs_end rfl rfl (Or.inl ⟨_, _, _, ⟨_, rfl⟩, f1_, rfl⟩)
  refine zEs_run 1 rfl ?_
  refine zEs_cv rfl rfl (k_82 hL) (fun E hE => ⟨rfl, Or.inr ⟨E, (show ∀ E ∈ ([1] : List Nat), E ∈ ([1] : List Nat) by decide) E hE, rfl⟩⟩) ?_
  refine zEs_run 4 rfl ?_
  refine zEs_if rfl (fun _ => ?_) (fun _ => ?_)
  · skip
    refine zEs_run 1 rfl ?_
    exact c18 _ _
  · skip
    refine zEs_run 2 rfl ?_
    exact c18 _ _
theorem k_85 (hL : zaL a) {x1 : Int32} : zMs xs (D + 0) 85 [.int x1] (zx s a T) nc ns (zPr zRv [0] (zx s a T) nc ns) := by
  refine ⟨_, rfl, ?_⟩
  have c11 : zEs xs (D + 0) 85 11 [some (.int x1)] [] (zx s a T) nc ns (zPr zRv [0] (zx s a T) nc ns) := by
    exact zEs_end rfl rfl (Or.inr ⟨0, by decide, rfl⟩)
  refine zEs_run 2 rfl ?_
  refine zEs_icmp rfl (fun _ => ?_) (fun _ => ?_)
  · skip
    exact c11 
  · skip
    refine zEs_run 2 rfl ?_
    refine zEs_icmp rfl (fun _ => ?_) (fun _ => ?_)
    · skip
      exact zEs_end rfl rfl (Or.inl ⟨_, rfl, rfl⟩)
    · skip
      exact c11 
theorem k_105 (hL : zaL a) : zMs xs (D + 5) 105 [.ref 0] (zx s a T) nc ns (zPo zRv [] [11, 12, 13, 17] [2, 12, 13, 14, 17] s a T nc ns) := by
  refine ⟨_, rfl, ?_⟩
  have f0 : zfr [11, 12, 13, 17] [2, 12, 13, 14, 17] s a s a := zfr_rf hL
  have c2 : ∀ (n2 : Nat) (i2_1 : Int32) (o2_2 : Option Value) (o2_3 : Option Value) (s2 : Nat → Int32) (a2 : Nat → List Int32) (f2 : zfr [11, 12, 13, 17] [2, 12, 13, 14, 17] s a s2 a2), (((s 14)).toInt - (i2_1).toInt).toNat < n2 → zEs xs (D + 5) 105 2 [some (.ref 0), some (.int i2_1), o2_2, o2_3] [] (zx s2 a2 T) nc ns (zPo zRv [] [11, 12, 13, 17] [2, 12, 13, 14, 17] s a T nc ns) := by
    intro n2
    induction n2 with
    | zero =>
      intro i2_1 o2_2 o2_3 s2 a2 f2 hn2
      exact absurd hn2 (Nat.not_lt_zero _)
    | succ n2 ih2 =>
      intro i2_1 o2_2 o2_3 s2 a2 f2 hn2
      refine zEs_run 3 rfl ?_
      refine zEs_icmp rfl (fun g2 => ?_) (fun g2 => ?_)
      · skip
        exact zEs_end rfl rfl (Or.inl ⟨_, _, _, rfl, f2, rfl⟩)
      · skip
        have g2 : ¬ (s2 14) ≤ i2_1 := g2
        rw [f2.1 14 (by decide)] at g2
        have c69 : ∀ (i69_2 : Int32) (o69_3 : Option Value) (s69 : Nat → Int32) (a69 : Nat → List Int32) (f69 : zfr [11, 12, 13, 17] [2, 12, 13, 14, 17] s a s69 a69), zEs xs (D + 5) 105 69 [some (.ref 0), some (.int i2_1), some (.int i69_2), o69_3] [] (zx s69 a69 T) nc ns (zPo zRv [] [11, 12, 13, 17] [2, 12, 13, 14, 17] s a T nc ns) := by
          intro i69_2 o69_3 s69 a69 f69
          refine zEs_run 9 (h' := zx (zup s69 17 _) a69 T) rfl ?_
          exact ih2 _ (some (.int _)) (o69_3) _ _ (zfr_s (k := 17) f69 (by decide)) (Nat.lt_of_lt_of_le (zdec g2) (Nat.le_of_lt_succ hn2))
        have c66 : ∀ (i66_2 : Int32) (i66_3 : Int32) (t66_0 : Int32) (t66_1 : Int32) (s66 : Nat → Int32) (a66 : Nat → List Int32) (f66 : zfr [11, 12, 13, 17] [2, 12, 13, 14, 17] s a s66 a66), zEs xs (D + 5) 105 66 [some (.ref 0), some (.int i2_1), some (.int i66_2), some (.int i66_3)] [.int t66_0, .int t66_1, .ref 40] (zx s66 a66 T) nc ns (zPo zRv [] [11, 12, 13, 17] [2, 12, 13, 14, 17] s a T nc ns) := by
          intro i66_2 i66_3 t66_0 t66_1 s66 a66 f66
          refine zEs_wv rfl rfl (x_26 17 41 40 rfl rfl (fun _ => rfl) f66.2.2) (fun E hE => by cases hE) (fun s1_ a1_ e1_ => ?_)
          have f1_ : zfr [11, 12, 13, 17] [2, 12, 13, 14, 17] s a s1_ a1_ := zfr_tr f66 (zfr_mo e1_ (by decide) (by decide))
          exact c69 _ (some (.int _)) _ _ f1_
        have c45 : ∀ (i45_2 : Int32) (t45_0 : Int32), zEs xs (D + 5) 105 45 [some (.ref 0), some (.int i2_1), some (.int i45_2), o2_3] [.int t45_0] (zx s2 a2 T) nc ns (zPo zRv [] [11, 12, 13, 17] [2, 12, 13, 14, 17] s a T nc ns) := by
          intro i45_2 t45_0
          refine zEs_run 4 rfl ?_
          refine zEs_wv rfl rfl (k_103 f2.2.2) (fun E hE => by cases hE) (fun s2_ a2_ e2_ => ?_)
          have f2_ : zfr [11, 12, 13, 17] [2, 12, 13, 14, 17] s a s2_ a2_ := zfr_tr f2 (zfr_mo e2_ (by decide) (by decide))
          refine zEs_run 4 rfl ?_
          refine zEs_if rfl (fun _ => ?_) (fun _ => ?_)
          · skip
            refine zEs_run 1 rfl ?_
            exact c66 _ _ _ _ _ _ f2_
          · skip
            refine zEs_run 2 rfl ?_
            exact c66 _ _ _ _ _ _ f2_
        refine zEs_run 5 rfl ?_
        refine zEs_cb rfl rfl (k_95 f2.2.2) (fun E hE => by cases hE) (fun v4 hb4 => ?_)
        refine zEs_if rfl (fun _ => ?_) (fun _ => ?_)
        · skip
          exact c69 _ (o2_3) _ _ f2
        · skip
          refine zEs_run 2 rfl ?_
          refine zEs_cb rfl rfl (k_96 f2.2.2) (fun E hE => by cases hE) (fun v6 hb6 => ?_)
          refine zEs_if rfl (fun _ => ?_) (fun _ => ?_)
          · skip
            exact c69 _ (o2_3) _ _ f2
          · skip
            refine zEs_run 2 rfl ?_
            refine zEs_ci rfl rfl (k_97 f2.2.2) (fun E hE => by cases hE) (fun v8 => ?_)
            refine zEs_run 1 rfl ?_
            refine zEs_icmp rfl (fun _ => ?_) (fun _ => ?_)
            · skip
              refine zEs_run 1 rfl ?_
              exact c45 _ _
            · skip
              refine zEs_run 2 rfl ?_
              exact c45 _ _
  refine zEs_run 2 rfl ?_
  exact c2 _ _ (none) (none) _ _ f0 (Nat.lt_succ_self _)
theorem k_64 (hL : zaL a) : zMs xs (D + 1) 64 [.ref 0] (zx s a T) nc ns (zPo zRi [] [11] [] s a T nc ns) := by
  refine ⟨_, rfl, ?_⟩
  have f0 : zfr [11] [] s a s a := zfr_rf hL
  refine zEs_run 6 rfl ?_
  refine zEs_wv rfl rfl (k_30 hL) (fun E hE => by cases hE) (fun s1_ a1_ e1_ => ?_)
  have f1_ : zfr [11] [] s a s1_ a1_ := zfr_tr f0 (zfr_mo e1_ (by decide) (by decide))
  refine zEs_run 1 rfl ?_
  exact zEs_end rfl rfl (Or.inl ⟨_, _, _, ⟨_, rfl⟩, f1_, rfl⟩)
theorem k_65 (hL : zaL a) : zMs xs (D + 0) 65 [.ref 0] (zx s a T) nc ns (zPo zRi [] [18] [] s a T nc ns) := by
  refine ⟨_, rfl, ?_⟩
  have f0 : zfr [18] [] s a s a := zfr_rf hL
  refine zEs_run 8 (h' := zx (zup s 18 _) a T) rfl ?_
  exact zEs_end rfl rfl (Or.inl ⟨_, _, _, ⟨_, rfl⟩, (zfr_s (k := 18) f0 (by decide)), rfl⟩)
theorem k_66 (hL : zaL a) {x1 : Int32} : zMs xs (D + 1) 66 [.ref 0, .int x1] (zx s a T) nc ns (zPr zRi [1] (zx s a T) nc ns) := by
  refine ⟨_, rfl, ?_⟩
  refine zEs_run 3 rfl ?_
  refine zEs_cb rfl rfl (k_7 hL) (fun E hE => by cases hE) (fun v1 hb1 => ?_)
  refine zEs_if rfl (fun _ => ?_) (fun _ => ?_)
  · skip
    refine zEs_run 4 rfl ?_
    refine zEs_ci rfl rfl (x_25 0 3 2 rfl rfl hL) (fun E hE => by cases hE) (fun v3 => ?_)
    exact zEs_end rfl rfl (Or.inl ⟨_, ⟨_, rfl⟩, rfl⟩)
  · skip
    exact zEs_end rfl rfl (Or.inr ⟨1, by decide, rfl⟩)
theorem k_67 (hL : zaL a) {x1 : Int32} : zMs xs (D + 3) 67 [.ref 0, .int x1] (zx s a T) nc ns (zPr zRi [0] (zx s a T) nc ns) := by
  refine ⟨_, rfl, ?_⟩
  refine zEs_run 2 rfl ?_
  refine zEs_cv rfl rfl (k_86 hL) (fun E hE => ⟨rfl, Or.inr ⟨E, (show ∀ E ∈ ([0] : List Nat), E ∈ ([0] : List Nat) by decide) E hE, rfl⟩⟩) ?_
  refine zEs_run 3 rfl ?_
  refine zEs_ci rfl rfl (k_14 hL) (fun E hE => by cases hE) (fun v2 => ?_)
  exact zEs_end rfl rfl (Or.inl ⟨_, ⟨_, rfl⟩, rfl⟩)
theorem k_68 (hL : zaL a) {x1 : Int32} {x2 : Int32} : zMs xs (D + 4) 68 [.ref 0, .int x1, .int x2] (zx s a T) nc ns (zPr zRi [0] (zx s a T) nc ns) := by
  refine ⟨_, rfl, ?_⟩
  have c15 : zEs xs (D + 4) 68 15 [some (.ref 0), some (.int x1), some (.int x2)] [] (zx s a T) nc ns (zPr zRi [0] (zx s a T) nc ns) := by
    exact zEs_end rfl rfl (Or.inr ⟨0, by decide, rfl⟩)
  refine zEs_run 1 rfl ?_
  refine zEs_if rfl (fun _ => ?_) (fun _ => ?_)
  · skip
    exact c15 
  · skip
    refine zEs_run 3 rfl ?_
    refine zEs_ci rfl rfl (k_5 hL) (fun E hE => by cases hE) (fun v2 => ?_)
    refine zEs_icmp rfl (fun _ => ?_) (fun _ => ?_)
    · skip
      refine zEs_run 1 rfl ?_
      refine zEs_tab [95, 56, 65, 74, 86] rfl (by decide) (by decide) (List.forall_mem_cons.mpr ⟨?_, List.forall_mem_cons.mpr ⟨?_, List.forall_mem_cons.mpr ⟨?_, List.forall_mem_cons.mpr ⟨?_, List.forall_mem_cons.mpr ⟨?_, fun _ h => absurd h List.not_mem_nil⟩⟩⟩⟩⟩)
      · skip
        exact zEs_end rfl rfl (Or.inr ⟨0, by decide, rfl⟩)
      · skip
        refine zEs_run 3 rfl ?_
        refine zEs_ci rfl rfl (k_8 hL) (fun E hE => by cases hE) (fun v4 => ?_)
        exact zEs_end rfl rfl (Or.inl ⟨_, ⟨_, rfl⟩, rfl⟩)
      · skip
        refine zEs_run 3 rfl ?_
        refine zEs_ci rfl rfl (k_11 hL) (fun E hE => by cases hE) (fun v5 => ?_)
        exact zEs_end rfl rfl (Or.inl ⟨_, ⟨_, rfl⟩, rfl⟩)
      · skip
        refine zEs_run 3 rfl ?_
        refine zEs_ci rfl rfl (k_9 hL) (fun E hE => by cases hE) (fun v6 => ?_)
        refine zEs_ci rfl rfl (k_12 hL) (fun E hE => by cases hE) (fun v7 => ?_)
        exact zEs_end rfl rfl (Or.inl ⟨_, ⟨_, rfl⟩, rfl⟩)
      · skip
        refine zEs_run 3 rfl ?_
        refine zEs_ci rfl rfl (k_13 hL) (fun E hE => by cases hE) (fun v8 => ?_)
        exact zEs_end rfl rfl (Or.inl ⟨_, ⟨_, rfl⟩, rfl⟩)
    · skip
      exact c15 
theorem k_69 (hL : zaL a) {x1 : Int32} : zMs xs (D + 4) 69 [.ref 0, .int x1] (zx s a T) nc ns (zPr zRi [0] (zx s a T) nc ns) := by
  refine ⟨_, rfl, ?_⟩
  have c21 : zEs xs (D + 4) 69 21 [some (.ref 0), some (.int x1)] [] (zx s a T) nc ns (zPr zRi [0] (zx s a T) nc ns) := by
    refine zEs_run 3 rfl ?_
    refine zEs_ci rfl rfl (k_15 hL) (fun E hE => by cases hE) (fun v1 => ?_)
    exact zEs_end rfl rfl (Or.inl ⟨_, ⟨_, rfl⟩, rfl⟩)
  refine zEs_run 2 rfl ?_
  refine zEs_icmp rfl (fun _ => ?_) (fun _ => ?_)
  · skip
    exact c21 
  · skip
    refine zEs_run 2 rfl ?_
    refine zEs_icmp rfl (fun _ => ?_) (fun _ => ?_)
    · skip
      exact c21 
    · skip
      exact zEs_end rfl rfl (Or.inr ⟨0, by decide, rfl⟩)
theorem k_70 (hL : zaL a) {x1 : Int32} {x2 : Int32} : zMs xs (D + 4) 70 [.ref 0, .int x1, .int x2] (zx s a T) nc ns (zPr zRi [0, 1] (zx s a T) nc ns) := by
  refine ⟨_, rfl, ?_⟩
  refine zEs_run 1 rfl ?_
  refine zEs_cv rfl rfl (k_82 hL) (fun E hE => ⟨rfl, Or.inr ⟨E, (show ∀ E ∈ ([1] : List Nat), E ∈ ([0, 1] : List Nat) by decide) E hE, rfl⟩⟩) ?_
  refine zEs_run 2 rfl ?_
  refine zEs_ci rfl rfl (k_91 hL) (fun E hE => by cases hE) (fun v2 => ?_)
  refine zEs_run 2 rfl ?_
  refine zEs_tab [131, 52, 58, 71, 80, 89, 101, 116] rfl (by decide) (by decide) (List.forall_mem_cons.mpr ⟨?_, List.forall_mem_cons.mpr ⟨?_, List.forall_mem_cons.mpr ⟨?_, List.forall_mem_cons.mpr ⟨?_, List.forall_mem_cons.mpr ⟨?_, List.forall_mem_cons.mpr ⟨?_, List.forall_mem_cons.mpr ⟨?_, List.forall_mem_cons.mpr ⟨?_, fun _ h => absurd h List.not_mem_nil⟩⟩⟩⟩⟩⟩⟩⟩)
  · skip
    exact zEs_end rfl rfl (Or.inr ⟨0, by decide, rfl⟩)
  · skip
    refine zEs_run 2 rfl ?_
    refine zEs_ci rfl rfl (k_92 hL) (fun E hE => by cases hE) (fun v3 => ?_)
    exact zEs_end rfl rfl (Or.inl ⟨_, ⟨_, rfl⟩, rfl⟩)
  · skip
    refine zEs_run 4 rfl ?_
    refine zEs_ci rfl rfl (k_92 hL) (fun E hE => by cases hE) (fun v4 => ?_)
    refine zEs_ci rfl rfl (k_11 hL) (fun E hE => by cases hE) (fun v5 => ?_)
    exact zEs_end rfl rfl (Or.inl ⟨_, ⟨_, rfl⟩, rfl⟩)
  · skip
    refine zEs_run 3 rfl ?_
    refine zEs_ci rfl rfl (x_25 17 41 40 rfl rfl hL) (fun E hE => by cases hE) (fun v6 => ?_)
    exact zEs_end rfl rfl (Or.inl ⟨_, ⟨_, rfl⟩, rfl⟩)
  · skip
    refine zEs_run 3 rfl ?_
    refine zEs_ci rfl rfl (x_25 18 43 42 rfl rfl hL) (fun E hE => by cases hE) (fun v7 => ?_)
    exact zEs_end rfl rfl (Or.inl ⟨_, ⟨_, rfl⟩, rfl⟩)
  · skip
    refine zEs_run 5 rfl ?_
    refine zEs_ci rfl rfl (x_25 15 37 36 rfl rfl hL) (fun E hE => by cases hE) (fun v8 => ?_)
    exact zEs_end rfl rfl (Or.inl ⟨_, ⟨_, rfl⟩, rfl⟩)
  · skip
    refine zEs_run 7 rfl ?_
    refine zEs_ci rfl rfl (k_23_15 hL) (fun E hE => by cases hE) (fun v9 => ?_)
    exact zEs_end rfl rfl (Or.inl ⟨_, ⟨_, rfl⟩, rfl⟩)
  · skip
    refine zEs_run 7 rfl ?_
    refine zEs_ci rfl rfl (k_23_22 hL) (fun E hE => by cases hE) (fun v10 => ?_)
    exact zEs_end rfl rfl (Or.inl ⟨_, ⟨_, rfl⟩, rfl⟩)
theorem k_100 (hL : zaL a) {x1 : Int32} : zMs xs (D + 3) 100 [.ref 0, .int x1] (zx s a T) nc ns (zPr zRi [] (zx s a T) nc ns) := by
  refine ⟨_, rfl, ?_⟩
  have c4 : ∀ (n4 : Nat) (i4_2 : Int32) (i4_3 : Int32), (((Int8.ofInt 8).toInt32).toInt - (i4_3).toInt).toNat < n4 → zEs xs (D + 3) 100 4 [some (.ref 0), some (.int x1), some (.int i4_2), some (.int i4_3)] [] (zx s a T) nc ns (zPr zRi [] (zx s a T) nc ns) := by
    intro n4
    induction n4 with
    | zero =>
      intro i4_2 i4_3 hn4
      exact absurd hn4 (Nat.not_lt_zero _)
    | succ n4 ih4 =>
      intro i4_2 i4_3 hn4
      refine zEs_run 2 rfl ?_
      refine zEs_icmp rfl (fun g4 => ?_) (fun g4 => ?_)
      · skip
        refine zEs_run 1 rfl ?_
        exact zEs_end rfl rfl (Or.inl ⟨_, ⟨_, rfl⟩, rfl⟩)
      · skip
        have g4 : ¬ (Int8.ofInt 8).toInt32 ≤ i4_3 := g4
        have c39 : ∀ (i39_2 : Int32), zEs xs (D + 3) 100 39 [some (.ref 0), some (.int x1), some (.int i39_2), some (.int i4_3)] [] (zx s a T) nc ns (zPr zRi [] (zx s a T) nc ns) := by
          intro i39_2
          refine zEs_run 2 rfl ?_
          exact ih4 _ _ (Nat.lt_of_lt_of_le (zdec g4) (Nat.le_of_lt_succ hn4))
        refine zEs_run 10 rfl ?_
        refine zEs_ci rfl rfl (x_25 2 8 7 rfl rfl hL) (fun E hE => by cases hE) (fun v1 => ?_)
        refine zEs_cb rfl rfl (k_10 hL) (fun E hE => by cases hE) (fun v2 hb2 => ?_)
        refine zEs_if rfl (fun _ => ?_) (fun _ => ?_)
        · skip
          exact c39 _
        · skip
          refine zEs_run 1 rfl ?_
          exact c39 _
  refine zEs_run 4 rfl ?_
  exact c4 _ _ _ (Nat.lt_succ_self _)
theorem k_99 (hL : zaL a) {x1 : Int32} : zMs xs (D + 2) 99 [.ref 0, .int x1] (zx s a T) nc ns (zPr zRi [] (zx s a T) nc ns) := by
  refine ⟨_, rfl, ?_⟩
  refine zEs_run 11 rfl ?_
  refine zEs_ci rfl rfl (k_23_15 hL) (fun E hE => by cases hE) (fun v1 => ?_)
  exact zEs_end rfl rfl (Or.inl ⟨_, ⟨_, rfl⟩, rfl⟩)
theorem k_93 (hL : zaL a) {x1 : Int32} {x2 : Int32} : zMs xs (D + 1) 93 [.ref 0, .int x1, .int x2] (zx s a T) nc ns (zPr zRi [] (zx s a T) nc ns) := by
  refine ⟨_, rfl, ?_⟩
  have c2 : ∀ (n2 : Nat) (i2_3 : Int32), (((Int8.ofInt 8).toInt32).toInt - (i2_3).toInt).toNat < n2 → zEs xs (D + 1) 93 2 [some (.ref 0), some (.int x1), some (.int x2), some (.int i2_3)] [] (zx s a T) nc ns (zPr zRi [] (zx s a T) nc ns) := by
    intro n2
    induction n2 with
    | zero =>
      intro i2_3 hn2
      exact absurd hn2 (Nat.not_lt_zero _)
    | succ n2 ih2 =>
      intro i2_3 hn2
      refine zEs_run 2 rfl ?_
      refine zEs_icmp rfl (fun g2 => ?_) (fun g2 => ?_)
      · skip
        refine zEs_run 1 rfl ?_
        exact zEs_end rfl rfl (Or.inl ⟨_, ⟨_, rfl⟩, rfl⟩)
      · skip
        have g2 : ¬ (Int8.ofInt 8).toInt32 ≤ i2_3 := g2
        refine zEs_run 7 rfl ?_
        refine zEs_ci rfl rfl (x_25 15 37 36 rfl rfl hL) (fun E hE => by cases hE) (fun v1 => ?_)
        refine zEs_run 1 rfl ?_
        refine zEs_icmp rfl (fun _ => ?_) (fun _ => ?_)
        · skip
          refine zEs_run 2 rfl ?_
          exact ih2 _ (Nat.lt_of_lt_of_le (zdec g2) (Nat.le_of_lt_succ hn2))
        · skip
          refine zEs_run 1 rfl ?_
          exact zEs_end rfl rfl (Or.inl ⟨_, ⟨_, rfl⟩, rfl⟩)
  refine zEs_run 2 rfl ?_
  exact c2 _ _ (Nat.lt_succ_self _)
theorem k_71 (hL : zaL a) {x1 : Int32} {x2 : Int32} {x3 : Int32} : zMs xs (D + 4) 71 [.ref 0, .int x1, .int x2, .int x3] (zx s a T) nc ns (zPr zRi [0, 1] (zx s a T) nc ns) := by
  refine ⟨_, rfl, ?_⟩
  have c14 : zEs xs (D + 4) 71 14 [some (.ref 0), some (.int x1), some (.int x2), some (.int x3), none] [] (zx s a T) nc ns (zPr zRi [0, 1] (zx s a T) nc ns) := by
    exact zEs_end rfl rfl (Or.inr ⟨1, by decide, rfl⟩)
  refine zEs_run 1 rfl ?_
  refine zEs_cv rfl rfl (k_83 hL) (fun E hE => ⟨rfl, Or.inr ⟨E, (show ∀ E ∈ ([1] : List Nat), E ∈ ([0, 1] : List Nat) by decide) E hE, rfl⟩⟩) ?_
  refine zEs_run 1 rfl ?_
  refine zEs_if rfl (fun _ => ?_) (fun _ => ?_)
  · skip
    exact c14 
  · skip
    refine zEs_run 2 rfl ?_
    refine zEs_icmp rfl (fun _ => ?_) (fun _ => ?_)
    · skip
      refine zEs_run 7 rfl ?_
      refine zEs_tab [123, 68, 81, 88, 109, 116] rfl (by decide) (by decide) (List.forall_mem_cons.mpr ⟨?_, List.forall_mem_cons.mpr ⟨?_, List.forall_mem_cons.mpr ⟨?_, List.forall_mem_cons.mpr ⟨?_, List.forall_mem_cons.mpr ⟨?_, List.forall_mem_cons.mpr ⟨?_, fun _ h => absurd h List.not_mem_nil⟩⟩⟩⟩⟩⟩)
      · skip
        exact zEs_end rfl rfl (Or.inr ⟨0, by decide, rfl⟩)
      · skip
        refine zEs_run 4 rfl ?_
        refine zEs_ci rfl rfl (x_25 3 10 9 rfl rfl hL) (fun E hE => by cases hE) (fun v4 => ?_)
        exact zEs_end rfl rfl (Or.inl ⟨_, ⟨_, rfl⟩, rfl⟩)
      · skip
        refine zEs_run 3 rfl ?_
        refine zEs_ci rfl rfl (k_93 hL) (fun E hE => by cases hE) (fun v5 => ?_)
        exact zEs_end rfl rfl (Or.inl ⟨_, ⟨_, rfl⟩, rfl⟩)
      · skip
        refine zEs_run 7 rfl ?_
        refine zEs_ci rfl rfl (x_25 4 12 11 rfl rfl hL) (fun E hE => by cases hE) (fun v6 => ?_)
        refine zEs_run 1 rfl ?_
        exact zEs_end rfl rfl (Or.inl ⟨_, ⟨_, rfl⟩, rfl⟩)
      · skip
        refine zEs_run 2 rfl ?_
        refine zEs_ci rfl rfl (k_99 hL) (fun E hE => by cases hE) (fun v7 => ?_)
        exact zEs_end rfl rfl (Or.inl ⟨_, ⟨_, rfl⟩, rfl⟩)
      · skip
        refine zEs_run 2 rfl ?_
        refine zEs_ci rfl rfl (k_100 hL) (fun E hE => by cases hE) (fun v8 => ?_)
        exact zEs_end rfl rfl (Or.inl ⟨_, ⟨_, rfl⟩, rfl⟩)
    · skip
      exact c14 
theorem k_72 (hL : zaL a) {x1 : Int32} {x2 : Int32} : zMs xs (D + 1) 72 [.ref 0, .int x1, .int x2] (zx s a T) nc ns (zPr zRi [0, 1] (zx s a T) nc ns) := by
  refine ⟨_, rfl, ?_⟩
  have c15 : zEs xs (D + 1) 72 15 [some (.ref 0), some (.int x1), some (.int x2)] [] (zx s a T) nc ns (zPr zRi [0, 1] (zx s a T) nc ns) := by
    exact zEs_end rfl rfl (Or.inr ⟨1, by decide, rfl⟩)
  refine zEs_run 1 rfl ?_
  refine zEs_if rfl (fun _ => ?_) (fun _ => ?_)
  · skip
    exact c15 
  · skip
    refine zEs_run 4 rfl ?_
    refine zEs_icmp rfl (fun _ => ?_) (fun _ => ?_)
    · skip
      refine zEs_run 1 rfl ?_
      refine zEs_tab [88, 52, 64, 76] rfl (by decide) (by decide) (List.forall_mem_cons.mpr ⟨?_, List.forall_mem_cons.mpr ⟨?_, List.forall_mem_cons.mpr ⟨?_, List.forall_mem_cons.mpr ⟨?_, fun _ h => absurd h List.not_mem_nil⟩⟩⟩⟩)
      · skip
        exact zEs_end rfl rfl (Or.inr ⟨0, by decide, rfl⟩)
      · skip
        refine zEs_run 4 rfl ?_
        refine zEs_ci rfl rfl (x_25 12 31 30 rfl rfl hL) (fun E hE => by cases hE) (fun v3 => ?_)
        exact zEs_end rfl rfl (Or.inl ⟨_, ⟨_, rfl⟩, rfl⟩)
      · skip
        refine zEs_run 4 rfl ?_
        refine zEs_ci rfl rfl (x_25 13 33 32 rfl rfl hL) (fun E hE => by cases hE) (fun v4 => ?_)
        exact zEs_end rfl rfl (Or.inl ⟨_, ⟨_, rfl⟩, rfl⟩)
      · skip
        refine zEs_run 4 rfl ?_
        refine zEs_ci rfl rfl (x_25 14 35 34 rfl rfl hL) (fun E hE => by cases hE) (fun v5 => ?_)
        exact zEs_end rfl rfl (Or.inl ⟨_, ⟨_, rfl⟩, rfl⟩)
    · skip
      exact c15 
theorem k_73 (hL : zaL a) {x1 : Int32} {x2 : Int32} : zMs xs (D + 4) 73 [.ref 0, .int x1, .int x2] (zx s a T) nc ns (zPr zRi [1] (zx s a T) nc ns) := by
  refine ⟨_, rfl, ?_⟩
  have c6 : ∀ (n6 : Nat) (i6_3 : Int32) (o6_4 : Option Value), (((Int32.ofInt 4)).toInt + 1 - (i6_3).toInt).toNat < n6 → zEs xs (D + 4) 73 6 [some (.ref 0), some (.int x1), some (.int x2), some (.int i6_3), o6_4] [] (zx s a T) nc ns (zPr zRi [1] (zx s a T) nc ns) := by
    intro n6
    induction n6 with
    | zero =>
      intro i6_3 o6_4 hn6
      exact absurd hn6 (Nat.not_lt_zero _)
    | succ n6 ih6 =>
      intro i6_3 o6_4 hn6
      refine zEs_run 2 rfl ?_
      refine zEs_icmp rfl (fun g6 => ?_) (fun g6 => ?_)
      · skip
        refine zEs_run 1 rfl ?_
        refine zEs_if rfl (fun _ => ?_) (fun _ => ?_)
        · skip
          refine zEs_run 1 rfl ?_
          exact zEs_end rfl rfl (Or.inl ⟨_, ⟨_, rfl⟩, rfl⟩)
        · skip
          refine zEs_run 2 rfl ?_
          exact zEs_end rfl rfl (Or.inl ⟨_, ⟨_, rfl⟩, rfl⟩)
      · skip
        have g6 : ¬ (Int32.ofInt 4) < i6_3 := g6
        refine zEs_run 4 rfl ?_
        refine zEs_ci rfl rfl (k_32 hL) (fun E hE => by cases hE) (fun v2 => ?_)
        refine zEs_run 3 rfl ?_
        refine zEs_icmp rfl (fun _ => ?_) (fun _ => ?_)
        · skip
          refine zEs_run 2 rfl ?_
          exact ih6 _ (some (.int _)) (Nat.lt_of_lt_of_le (zdec_le g6 (Int.le_refl _) (by decide) (by decide) (by decide)) (Nat.le_of_lt_succ hn6))
        · skip
          refine zEs_run 1 rfl ?_
          refine zEs_if rfl (fun _ => ?_) (fun _ => ?_)
          · skip
            refine zEs_run 1 rfl ?_
            exact zEs_end rfl rfl (Or.inl ⟨_, ⟨_, rfl⟩, rfl⟩)
          · skip
            refine zEs_run 2 rfl ?_
            exact zEs_end rfl rfl (Or.inl ⟨_, ⟨_, rfl⟩, rfl⟩)
  refine zEs_run 1 rfl ?_
  refine zEs_cv rfl rfl (k_83 hL) (fun E hE => ⟨rfl, Or.inr ⟨E, (show ∀ E ∈ ([1] : List Nat), E ∈ ([1] : List Nat) by decide) E hE, rfl⟩⟩) ?_
  refine zEs_run 2 rfl ?_
  exact c6 _ _ (none) (Nat.lt_succ_self _)
theorem k_74 (hL : zaL a) {x1 : Int32} : zMs xs (D + 1) 74 [.ref 0, .int x1] (zx s a T) nc ns (zPr zRi [0] (zx s a T) nc ns) := by
  refine ⟨_, rfl, ?_⟩
  refine zEs_run 1 rfl ?_
  refine zEs_tab [239, 88, 96, 104, 112, 120, 128, 133, 146, 159, 164, 172, 180, 188, 196, 204, 215, 226, 234] rfl (by decide) (by decide) (List.forall_mem_cons.mpr ⟨?_, List.forall_mem_cons.mpr ⟨?_, List.forall_mem_cons.mpr ⟨?_, List.forall_mem_cons.mpr ⟨?_, List.forall_mem_cons.mpr ⟨?_, List.forall_mem_cons.mpr ⟨?_, List.forall_mem_cons.mpr ⟨?_, List.forall_mem_cons.mpr ⟨?_, List.forall_mem_cons.mpr ⟨?_, List.forall_mem_cons.mpr ⟨?_, List.forall_mem_cons.mpr ⟨?_, List.forall_mem_cons.mpr ⟨?_, List.forall_mem_cons.mpr ⟨?_, List.forall_mem_cons.mpr ⟨?_, List.forall_mem_cons.mpr ⟨?_, List.forall_mem_cons.mpr ⟨?_, List.forall_mem_cons.mpr ⟨?_, List.forall_mem_cons.mpr ⟨?_, List.forall_mem_cons.mpr ⟨?_, fun _ h => absurd h List.not_mem_nil⟩⟩⟩⟩⟩⟩⟩⟩⟩⟩⟩⟩⟩⟩⟩⟩⟩⟩⟩)
  · skip
    exact zEs_end rfl rfl (Or.inr ⟨0, by decide, rfl⟩)
  · skip
    refine zEs_run 3 rfl ?_
    exact zEs_end rfl rfl (Or.inl ⟨_, ⟨_, rfl⟩, rfl⟩)
  · skip
    refine zEs_run 3 rfl ?_
    exact zEs_end rfl rfl (Or.inl ⟨_, ⟨_, rfl⟩, rfl⟩)
  · skip
    refine zEs_run 3 rfl ?_
    exact zEs_end rfl rfl (Or.inl ⟨_, ⟨_, rfl⟩, rfl⟩)
  · skip
    refine zEs_run 3 rfl ?_
    exact zEs_end rfl rfl (Or.inl ⟨_, ⟨_, rfl⟩, rfl⟩)
  · skip
    refine zEs_run 3 rfl ?_
    exact zEs_end rfl rfl (Or.inl ⟨_, ⟨_, rfl⟩, rfl⟩)
  · skip
    refine zEs_run 2 rfl ?_
    exact zEs_end rfl rfl (Or.inl ⟨_, ⟨_, rfl⟩, rfl⟩)
  · skip
    refine zEs_run 2 rfl ?_
    refine zEs_if rfl (fun _ => ?_) (fun _ => ?_)
    · skip
      refine zEs_run 1 rfl ?_
      exact zEs_end rfl rfl (Or.inl ⟨_, ⟨_, rfl⟩, rfl⟩)
    · skip
      refine zEs_run 2 rfl ?_
      exact zEs_end rfl rfl (Or.inl ⟨_, ⟨_, rfl⟩, rfl⟩)
  · skip
    refine zEs_run 2 rfl ?_
    refine zEs_if rfl (fun _ => ?_) (fun _ => ?_)
    · skip
      refine zEs_run 1 rfl ?_
      exact zEs_end rfl rfl (Or.inl ⟨_, ⟨_, rfl⟩, rfl⟩)
    · skip
      refine zEs_run 2 rfl ?_
      exact zEs_end rfl rfl (Or.inl ⟨_, ⟨_, rfl⟩, rfl⟩)
  · skip
    refine zEs_run 2 rfl ?_
    exact zEs_end rfl rfl (Or.inl ⟨_, ⟨_, rfl⟩, rfl⟩)
  · skip
    refine zEs_run 3 rfl ?_
    exact zEs_end rfl rfl (Or.inl ⟨_, ⟨_, rfl⟩, rfl⟩)
  · skip
    refine zEs_run 3 rfl ?_
    exact zEs_end rfl rfl (Or.inl ⟨_, ⟨_, rfl⟩, rfl⟩)
  · skip
    refine zEs_run 3 rfl ?_
    exact zEs_end rfl rfl (Or.inl ⟨_, ⟨_, rfl⟩, rfl⟩)
  · skip
    refine zEs_run 2 rfl ?_
    refine zEs_ci rfl rfl (x_28 17 41 40 rfl rfl hL) (fun E hE => by cases hE) (fun v3 => ?_)
    exact zEs_end rfl rfl (Or.inl ⟨_, ⟨_, rfl⟩, rfl⟩)
  · skip
    refine zEs_run 2 rfl ?_
    refine zEs_ci rfl rfl (x_28 18 43 42 rfl rfl hL) (fun E hE => by cases hE) (fun v4 => ?_)
    exact zEs_end rfl rfl (Or.inl ⟨_, ⟨_, rfl⟩, rfl⟩)
  · skip
    refine zEs_run 4 rfl ?_
    exact zEs_end rfl rfl (Or.inl ⟨_, ⟨_, rfl⟩, rfl⟩)
  · skip
    refine zEs_run 4 rfl ?_
    exact zEs_end rfl rfl (Or.inl ⟨_, ⟨_, rfl⟩, rfl⟩)
  · skip
    refine zEs_run 3 rfl ?_
    exact zEs_end rfl rfl (Or.inl ⟨_, ⟨_, rfl⟩, rfl⟩)
  · skip
    refine zEs_run 2 rfl ?_
    exact zEs_end rfl rfl (Or.inl ⟨_, ⟨_, rfl⟩, rfl⟩)
theorem k_77 (hL : zaL a) {x1 : Int32} : zMs xs (D + 5) 77 [.ref 0, .int x1] (zx s a T) nc ns (zPr zRi [1] (zx s a T) nc ns) := by
  refine ⟨_, rfl, ?_⟩
  refine zEs_run 1 rfl ?_
  refine zEs_cv rfl rfl (k_82 hL) (fun E hE => ⟨rfl, Or.inr ⟨E, (show ∀ E ∈ ([1] : List Nat), E ∈ ([1] : List Nat) by decide) E hE, rfl⟩⟩) ?_
  refine zEs_run 2 rfl ?_
  refine zEs_cb rfl rfl (k_96 hL) (fun E hE => by cases hE) (fun v2 hb2 => ?_)
  refine zEs_if rfl (fun _ => ?_) (fun _ => ?_)
  · skip
    refine zEs_run 2 rfl ?_
    refine zEs_ci rfl rfl (k_97 hL) (fun E hE => by cases hE) (fun v4 => ?_)
    refine zEs_run 2 rfl ?_
    refine zEs_ci rfl rfl (k_89 hL) (fun E hE => by cases hE) (fun v5 => ?_)
    refine zEs_run 3 rfl ?_
    refine zEs_icmp rfl (fun _ => ?_) (fun _ => ?_)
    · skip
      refine zEs_run 1 rfl ?_
      exact zEs_end rfl rfl (Or.inl ⟨_, ⟨_, rfl⟩, rfl⟩)
    · skip
      refine zEs_run 2 rfl ?_
      refine zEs_if rfl (fun _ => ?_) (fun _ => ?_)
      · skip
        refine zEs_run 1 rfl ?_
        exact zEs_end rfl rfl (Or.inl ⟨_, ⟨_, rfl⟩, rfl⟩)
      · skip
        refine zEs_run 2 rfl ?_
        refine zEs_cb rfl rfl (k_96 hL) (fun E hE => by cases hE) (fun v8 hb8 => ?_)
        refine zEs_if rfl (fun _ => ?_) (fun _ => ?_)
        · skip
          refine zEs_run 1 rfl ?_
          exact zEs_end rfl rfl (Or.inl ⟨_, ⟨_, rfl⟩, rfl⟩)
        · skip
          refine zEs_run 2 rfl ?_
          refine zEs_ci rfl rfl (k_97 hL) (fun E hE => by cases hE) (fun v10 => ?_)
          refine zEs_run 2 rfl ?_
          exact zEs_end rfl rfl (Or.inl ⟨_, ⟨_, rfl⟩, rfl⟩)
  · skip
    refine zEs_run 1 rfl ?_
    exact zEs_end rfl rfl (Or.inl ⟨_, ⟨_, rfl⟩, rfl⟩)
theorem k_78 (hL : zaL a) {x1 : Int32} : zMs xs (D + 4) 78 [.ref 0, .int x1] (zx s a T) nc ns (zPr zRi [1] (zx s a T) nc ns) := by
  refine ⟨_, rfl, ?_⟩
  have c28 : ∀ (n28 : Nat) (i28_2 : Int32) (i28_3 : Int32) (i28_4 : Int32) (i28_5 : Int32) (o28_6 : Option Value) (o28_7 : Option Value) (o28_8 : Option Value), (((Int8.ofInt 8).toInt32).toInt - (i28_5).toInt).toNat < n28 → zEs xs (D + 4) 78 28 [some (.ref 0), some (.int x1), some (.int i28_2), some (.int i28_3), some (.int i28_4), some (.int i28_5), o28_6, o28_7, o28_8] [] (zx s a T) nc ns (zPr zRi [1] (zx s a T) nc ns) := by
    intro n28
    induction n28 with
    | zero =>
      intro i28_2 i28_3 i28_4 i28_5 o28_6 o28_7 o28_8 hn28
      exact absurd hn28 (Nat.not_lt_zero _)
    | succ n28 ih28 =>
      intro i28_2 i28_3 i28_4 i28_5 o28_6 o28_7 o28_8 hn28
      refine zEs_run 2 rfl ?_
      refine zEs_icmp rfl (fun g28 => ?_) (fun g28 => ?_)
      · skip
        refine zEs_run 1 rfl ?_
        exact zEs_end rfl rfl (Or.inl ⟨_, ⟨_, rfl⟩, rfl⟩)
      · skip
        have g28 : ¬ (Int8.ofInt 8).toInt32 ≤ i28_5 := g28
        have c97 : ∀ (i97_2 : Int32) (i97_3 : Int32) (i97_4 : Int32) (i97_6 : Int32) (i97_7 : Int32) (i97_8 : Int32), zEs xs (D + 4) 78 97 [some (.ref 0), some (.int x1), some (.int i97_2), some (.int i97_3), some (.int i97_4), some (.int i28_5), some (.int i97_6), some (.int i97_7), some (.int i97_8)] [] (zx s a T) nc ns (zPr zRi [1] (zx s a T) nc ns) := by
          intro i97_2 i97_3 i97_4 i97_6 i97_7 i97_8
          refine zEs_run 2 rfl ?_
          exact ih28 _ _ _ _ (some (.int _)) (some (.int _)) (some (.int _)) (Nat.lt_of_lt_of_le (zdec g28) (Nat.le_of_lt_succ hn28))
        have c87 : ∀ (i87_6 : Int32) (i87_7 : Int32) (i87_8 : Int32), zEs xs (D + 4) 78 87 [some (.ref 0), some (.int x1), some (.int i28_2), some (.int i28_3), some (.int i28_4), some (.int i28_5), some (.int i87_6), some (.int i87_7), some (.int i87_8)] [] (zx s a T) nc ns (zPr zRi [1] (zx s a T) nc ns) := by
          intro i87_6 i87_7 i87_8
          refine zEs_run 6 rfl ?_
          exact c97 _ _ _ _ _ _
        refine zEs_run 3 rfl ?_
        refine zEs_ci rfl rfl (k_88 hL) (fun E hE => by cases hE) (fun v1 => ?_)
        refine zEs_ci rfl rfl (k_90 hL) (fun E hE => by cases hE) (fun v2 => ?_)
        refine zEs_run 3 rfl ?_
        refine zEs_ci rfl rfl (k_100 hL) (fun E hE => by cases hE) (fun v3 => ?_)
        refine zEs_run 3 rfl ?_
        refine zEs_ci rfl rfl (k_99 hL) (fun E hE => by cases hE) (fun v4 => ?_)
        refine zEs_run 3 rfl ?_
        refine zEs_icmp rfl (fun _ => ?_) (fun _ => ?_)
        · skip
          exact c87 _ _ _
        · skip
          refine zEs_run 1 rfl ?_
          refine zEs_if rfl (fun _ => ?_) (fun _ => ?_)
          · skip
            exact c97 _ _ _ _ _ _
          · skip
            refine zEs_run 2 rfl ?_
            refine zEs_icmp rfl (fun _ => ?_) (fun _ => ?_)
            · skip
              exact c97 _ _ _ _ _ _
            · skip
              refine zEs_run 2 rfl ?_
              refine zEs_icmp rfl (fun _ => ?_) (fun _ => ?_)
              · skip
                exact c97 _ _ _ _ _ _
              · skip
                exact c87 _ _ _
  refine zEs_run 1 rfl ?_
  refine zEs_cv rfl rfl (k_83 hL) (fun E hE => ⟨rfl, Or.inr ⟨E, (show ∀ E ∈ ([1] : List Nat), E ∈ ([1] : List Nat) by decide) E hE, rfl⟩⟩) ?_
  refine zEs_run 3 rfl ?_
  refine zEs_ci rfl rfl (x_25 16 39 38 rfl rfl hL) (fun E hE => by cases hE) (fun v10 => ?_)
  refine zEs_run 1 rfl ?_
  refine zEs_icmp rfl (fun _ => ?_) (fun _ => ?_)
  · skip
    refine zEs_run 8 rfl ?_
    exact c28 _ _ _ _ _ (none) (none) (none) (Nat.lt_succ_self _)
  · skip
    refine zEs_run 1 rfl ?_
    exact zEs_end rfl rfl (Or.inl ⟨_, ⟨_, rfl⟩, rfl⟩)
theorem k_94 (hL : zaL a) : zMs xs (D + 2) 94 [.ref 0] (zx s a T) nc ns (zPr zRb [] (zx s a T) nc ns) := by
  refine ⟨_, rfl, ?_⟩
  have c2 : ∀ (n2 : Nat) (i2_1 : Int32), (((Int8.ofInt 16).toInt32).toInt - (i2_1).toInt).toNat < n2 → zEs xs (D + 2) 94 2 [some (.ref 0), some (.int i2_1)] [] (zx s a T) nc ns (zPr zRb [] (zx s a T) nc ns) := by
    intro n2
    induction n2 with
    | zero =>
      intro i2_1 hn2
      exact absurd hn2 (Nat.not_lt_zero _)
    | succ n2 ih2 =>
      intro i2_1 hn2
      refine zEs_run 2 rfl ?_
      refine zEs_icmp rfl (fun g2 => ?_) (fun g2 => ?_)
      · skip
        refine zEs_run 1 rfl ?_
        exact zEs_bret rfl (Or.inr rfl) (Or.inl ⟨_, ⟨_, Or.inr rfl, rfl⟩, rfl⟩)
      · skip
        have g2 : ¬ (Int8.ofInt 16).toInt32 ≤ i2_1 := g2
        refine zEs_run 7 rfl ?_
        refine zEs_ci rfl rfl (x_25 15 37 36 rfl rfl hL) (fun E hE => by cases hE) (fun v1 => ?_)
        refine zEs_ci rfl rfl (k_93 hL) (fun E hE => by cases hE) (fun v2 => ?_)
        refine zEs_run 3 rfl ?_
        refine zEs_icmp rfl (fun _ => ?_) (fun _ => ?_)
        · skip
          refine zEs_run 2 rfl ?_
          exact ih2 _ (Nat.lt_of_lt_of_le (zdec g2) (Nat.le_of_lt_succ hn2))
        · skip
          refine zEs_run 1 rfl ?_
          exact zEs_bret rfl (Or.inl rfl) (Or.inl ⟨_, ⟨_, Or.inl rfl, rfl⟩, rfl⟩)
  refine zEs_run 2 rfl ?_
  exact c2 _ _ (Nat.lt_succ_self _)
theorem k_80 (hL : zaL a) : zMs xs (D + 3) 80 [.ref 0] (zx s a T) nc ns (zPr zRb [] (zx s a T) nc ns) := by
  refine ⟨_, rfl, ?_⟩
  refine zEs_run 2 rfl ?_
  refine zEs_cb rfl rfl (k_18 hL) (fun E hE => by cases hE) (fun v1 hb1 => ?_)
  refine zEs_if rfl (fun _ => ?_) (fun _ => ?_)
  · skip
    refine zEs_run 1 rfl ?_
    exact zEs_bret rfl (Or.inl rfl) (Or.inl ⟨_, ⟨_, Or.inl rfl, rfl⟩, rfl⟩)
  · skip
    refine zEs_run 2 rfl ?_
    refine zEs_cb rfl rfl (k_51 hL) (fun E hE => by cases hE) (fun v3 hb3 => ?_)
    refine zEs_if rfl (fun _ => ?_) (fun _ => ?_)
    · skip
      refine zEs_run 1 rfl ?_
      exact zEs_bret rfl (Or.inl rfl) (Or.inl ⟨_, ⟨_, Or.inl rfl, rfl⟩, rfl⟩)
    · skip
      refine zEs_run 2 rfl ?_
      refine zEs_cb rfl rfl (k_38 hL) (fun E hE => by cases hE) (fun v5 hb5 => ?_)
      refine zEs_if rfl (fun _ => ?_) (fun _ => ?_)
      · skip
        refine zEs_run 1 rfl ?_
        exact zEs_bret rfl (Or.inl rfl) (Or.inl ⟨_, ⟨_, Or.inl rfl, rfl⟩, rfl⟩)
      · skip
        refine zEs_run 1 rfl ?_
        refine zEs_cb rfl rfl (k_94 hL) (fun E hE => by cases hE) (fun v7 hb7 => ?_)
        refine zEs_if rfl (fun _ => ?_) (fun _ => ?_)
        · skip
          refine zEs_run 1 rfl ?_
          exact zEs_bret rfl (Or.inl rfl) (Or.inl ⟨_, ⟨_, Or.inl rfl, rfl⟩, rfl⟩)
        · skip
          refine zEs_run 2 rfl ?_
          exact zEs_bret rfl (Or.inr rfl) (Or.inl ⟨_, ⟨_, Or.inr rfl, rfl⟩, rfl⟩)
theorem k_107 (hL : zaL a) {x1 : Int64} {x2 : Int64} : zMs xs (D + 0) 107 [.long x1, .long x2] (zx s a T) nc ns (zPr zRj [] (zx s a T) nc ns) := by
  refine ⟨_, rfl, ?_⟩
  refine zEs_run 5 rfl ?_
  exact zEs_end rfl rfl (Or.inl ⟨_, ⟨_, rfl⟩, rfl⟩)
end ZK
end zg12
section zg13
/-! The class's methods with arguments that are in order: no exception. Written by wip/gen/cls.py. -/
theorem zF_eq_t {x y : Int32} (g : zcq .eq x y) : x.toInt = y.toInt := congrArg _ (show x = y from g)
theorem zF_eq_f {x y : Int32} (g : zcn9 .eq x y) : ¬ x.toInt = y.toInt := fun e => g (Int32.toInt_inj.mp e)
theorem zF_ne_t {x y : Int32} (g : zcq .ne x y) : ¬ x.toInt = y.toInt := fun e => g (Int32.toInt_inj.mp e)
theorem zF_ne_f {x y : Int32} (g : zcn9 .ne x y) : x.toInt = y.toInt := congrArg _ (show x = y from g)
theorem zF_lt_t {x y : Int32} (g : zcq .lt x y) : x.toInt < y.toInt := Int32.lt_iff_toInt_lt.mp g
theorem zF_lt_f {x y : Int32} (g : zcn9 .lt x y) : y.toInt ≤ x.toInt := Int.not_lt.mp (fun z => g (Int32.lt_iff_toInt_lt.mpr z))
theorem zF_ge_t {x y : Int32} (g : zcq .ge x y) : y.toInt ≤ x.toInt := Int32.le_iff_toInt_le.mp g
theorem zF_ge_f {x y : Int32} (g : zcn9 .ge x y) : x.toInt < y.toInt := Int.not_le.mp (fun z => g (Int32.le_iff_toInt_le.mpr z))
theorem zF_gt_t {x y : Int32} (g : zcq .gt x y) : y.toInt < x.toInt := Int32.lt_iff_toInt_lt.mp g
theorem zF_gt_f {x y : Int32} (g : zcn9 .gt x y) : x.toInt ≤ y.toInt := Int.not_lt.mp (fun z => g (Int32.lt_iff_toInt_lt.mpr z))
theorem zF_le_t {x y : Int32} (g : zcq .le x y) : x.toInt ≤ y.toInt := Int32.le_iff_toInt_le.mp g
theorem zF_le_f {x y : Int32} (g : zcn9 .le x y) : y.toInt < x.toInt := Int.not_le.mp (fun z => g (Int32.le_iff_toInt_le.mpr z))
theorem zero_z : (0 : Int32).toInt = 0 := by decide
theorem zinc_le {x : Int32} {n : Int} (h : x.toInt < 2147483000) (hn : 0 < n) (hn2 : n < 100) : (x + Int32.ofInt n).toInt = x.toInt + n := by
  have h3 := Int32.le_toInt x
  rw [Int32.toInt_add, Int32.toInt_ofInt]
  have e : n.bmod Int32.size = n := by
    rw [Int.bmod_def, show ((Int32.size : Nat) : Int) = 4294967296 from rfl]
    split <;> omega
  rw [e, Int.bmod_def]
  split <;> omega
section ZK
variable {xs : List Int32} {D nc ns y pc nx k yy m c : Nat} {s : Nat → Int32} {a : Nat → List Int32} {T h : zH} {L : zL} {r : List Value} {P : zO → Prop}
/-- a switch whose value is in the table -/
theorem zEs_tabN {d lo hi : Int} {offs : Array Int} {x : Int32} (ts : List Nat) (h1 : zat (zmc y) pc = some (.tableswitch d lo hi offs, nx, k, yy, m, c)) (ht : (offs.toList).all (fun o => match (pc : Int) + o with
  | .ofNat t => ts.contains t
  | .negSucc _ => false) = true) (hl : offs.size = (hi + 1 - lo).toNat) (g1 : lo ≤ x.toInt) (g2 : x.toInt ≤ hi) (kk : ∀ t ∈ ts, zEs xs D y t L r h nc ns P) : zEs xs D y pc L (.int x :: r) h nc ns P := by
  have key : ∀ o, o ∈ offs.toList → ∃ t, t ∈ ts ∧ zoff pc o L r h = zgo t L r h := by
    intro o ho
    have g := List.all_eq_true.mp ht o ho
    unfold zoff
    split at g
    · next t e =>
      rw [e]
      exact ⟨t, List.contains_iff_mem.mp g, rfl⟩
    · cases g
  have q : ¬ (x.toInt < lo ∨ hi < x.toInt) := by omega
  have hlt : (x.toInt - lo).toNat < offs.size := by omega
  obtain ⟨t, g1, g2⟩ := key offs[(x.toInt - lo).toNat] (by simp)
  refine zEs_step (dc := 0) (ds := 0) h1 ?_ (kk t g1)
  refine (if_neg q).trans ?_
  rw [Array.getElem?_eq_getElem hlt]
  exact g2
set_option maxRecDepth 10000
theorem kn_82 (hL : zaL a) {x1 : Int32} (hx1 : 0 ≤ x1.toInt ∧ x1.toInt ≤ 127) : zMs xs (D + 0) 82 [.int x1] (zx s a T) nc ns (zPr zRv [] (zx s a T) nc ns) := by
  obtain ⟨hx1l, hx1u⟩ := hx1
  have hzz := zero_z
  refine ⟨_, rfl, ?_⟩
  refine zEs_run 1 rfl ?_
  refine zEs_if rfl (fun gz1 => ?_) (fun gz1 => ?_)
  · have z2_ := zF_lt_t gz1
    exfalso
    omega
  · have z3_ := zF_lt_f gz1
    refine zEs_run 2 rfl ?_
    refine zEs_icmp rfl (fun gz8 => ?_) (fun gz8 => ?_)
    · have z5_ := zF_lt_t gz8
      have y5_3 : ((Int16.ofInt 128).toInt32).toInt = 128 := by decide
      exact zEs_end rfl rfl (Or.inl ⟨_, rfl, rfl⟩)
    · have z6_ := zF_lt_f gz8
      have y6_6 : ((Int16.ofInt 128).toInt32).toInt = 128 := by decide
      exfalso
      omega
theorem kn_83 (hL : zaL a) {x1 : Int32} (hx1 : 0 ≤ x1.toInt ∧ x1.toInt ≤ 1) : zMs xs (D + 0) 83 [.int x1] (zx s a T) nc ns (zPr zRv [] (zx s a T) nc ns) := by
  obtain ⟨hx1l, hx1u⟩ := hx1
  have hzz := zero_z
  refine ⟨_, rfl, ?_⟩
  refine zEs_run 1 rfl ?_
  refine zEs_if rfl (fun gz1 => ?_) (fun gz1 => ?_)
  · have z2_ := zF_lt_t gz1
    exfalso
    omega
  · have z3_ := zF_lt_f gz1
    refine zEs_run 2 rfl ?_
    refine zEs_icmp rfl (fun gz6 => ?_) (fun gz6 => ?_)
    · have z5_ := zF_lt_t gz6
      have y5_3 : ((Int32.ofInt 2)).toInt = 2 := by decide
      exact zEs_end rfl rfl (Or.inl ⟨_, rfl, rfl⟩)
    · have z6_ := zF_lt_f gz6
      have y6_6 : ((Int32.ofInt 2)).toInt = 2 := by decide
      exfalso
      omega
theorem kn_85 (hL : zaL a) {x1 : Int32} (hx1 : 1 ≤ x1.toInt ∧ x1.toInt ≤ 100) : zMs xs (D + 0) 85 [.int x1] (zx s a T) nc ns (zPr zRv [] (zx s a T) nc ns) := by
  obtain ⟨hx1l, hx1u⟩ := hx1
  have hzz := zero_z
  refine ⟨_, rfl, ?_⟩
  refine zEs_run 2 rfl ?_
  refine zEs_icmp rfl (fun gz2 => ?_) (fun gz2 => ?_)
  · have z2_ := zF_lt_t gz2
    have y2_3 : ((Int32.ofInt 1)).toInt = 1 := by decide
    exfalso
    omega
  · have z3_ := zF_lt_f gz2
    have y3_7 : ((Int32.ofInt 1)).toInt = 1 := by decide
    refine zEs_run 2 rfl ?_
    refine zEs_icmp rfl (fun gz8 => ?_) (fun gz8 => ?_)
    · have z5_ := zF_le_t gz8
      have y5_3 : ((Int8.ofInt 100).toInt32).toInt = 100 := by decide
      exact zEs_end rfl rfl (Or.inl ⟨_, rfl, rfl⟩)
    · have z6_ := zF_le_f gz8
      have y6_6 : ((Int8.ofInt 100).toInt32).toInt = 100 := by decide
      exfalso
      omega
theorem kn_74 (hL : zaL a) {x1 : Int32} (hx1 : 0 ≤ x1.toInt ∧ x1.toInt ≤ 17) : zMs xs (D + 1) 74 [.ref 0, .int x1] (zx s a T) nc ns (zPr zRi [] (zx s a T) nc ns) := by
  obtain ⟨hx1l, hx1u⟩ := hx1
  have hzz := zero_z
  refine ⟨_, rfl, ?_⟩
  refine zEs_run 1 rfl ?_
  refine zEs_tabN [88, 96, 104, 112, 120, 128, 133, 146, 159, 164, 172, 180, 188, 196, 204, 215, 226, 234] rfl (by decide) (by decide) (by omega) (by omega) (List.forall_mem_cons.mpr ⟨?_, List.forall_mem_cons.mpr ⟨?_, List.forall_mem_cons.mpr ⟨?_, List.forall_mem_cons.mpr ⟨?_, List.forall_mem_cons.mpr ⟨?_, List.forall_mem_cons.mpr ⟨?_, List.forall_mem_cons.mpr ⟨?_, List.forall_mem_cons.mpr ⟨?_, List.forall_mem_cons.mpr ⟨?_, List.forall_mem_cons.mpr ⟨?_, List.forall_mem_cons.mpr ⟨?_, List.forall_mem_cons.mpr ⟨?_, List.forall_mem_cons.mpr ⟨?_, List.forall_mem_cons.mpr ⟨?_, List.forall_mem_cons.mpr ⟨?_, List.forall_mem_cons.mpr ⟨?_, List.forall_mem_cons.mpr ⟨?_, List.forall_mem_cons.mpr ⟨?_, fun _ h => absurd h List.not_mem_nil⟩⟩⟩⟩⟩⟩⟩⟩⟩⟩⟩⟩⟩⟩⟩⟩⟩⟩)
  · skip
    refine zEs_run 3 rfl ?_
    exact zEs_end rfl rfl (Or.inl ⟨_, ⟨_, rfl⟩, rfl⟩)
  · skip
    refine zEs_run 3 rfl ?_
    exact zEs_end rfl rfl (Or.inl ⟨_, ⟨_, rfl⟩, rfl⟩)
  · skip
    refine zEs_run 3 rfl ?_
    exact zEs_end rfl rfl (Or.inl ⟨_, ⟨_, rfl⟩, rfl⟩)
  · skip
    refine zEs_run 3 rfl ?_
    exact zEs_end rfl rfl (Or.inl ⟨_, ⟨_, rfl⟩, rfl⟩)
  · skip
    refine zEs_run 3 rfl ?_
    exact zEs_end rfl rfl (Or.inl ⟨_, ⟨_, rfl⟩, rfl⟩)
  · skip
    refine zEs_run 2 rfl ?_
    exact zEs_end rfl rfl (Or.inl ⟨_, ⟨_, rfl⟩, rfl⟩)
  · skip
    refine zEs_run 2 rfl ?_
    refine zEs_if rfl (fun gz137 => ?_) (fun gz137 => ?_)
    · have z2_ := zF_eq_t gz137
      refine zEs_run 1 rfl ?_
      exact zEs_end rfl rfl (Or.inl ⟨_, ⟨_, rfl⟩, rfl⟩)
    · have z3_ := zF_eq_f gz137
      refine zEs_run 2 rfl ?_
      exact zEs_end rfl rfl (Or.inl ⟨_, ⟨_, rfl⟩, rfl⟩)
  · skip
    refine zEs_run 2 rfl ?_
    refine zEs_if rfl (fun gz150 => ?_) (fun gz150 => ?_)
    · have z5_ := zF_eq_t gz150
      refine zEs_run 1 rfl ?_
      exact zEs_end rfl rfl (Or.inl ⟨_, ⟨_, rfl⟩, rfl⟩)
    · have z6_ := zF_eq_f gz150
      refine zEs_run 2 rfl ?_
      exact zEs_end rfl rfl (Or.inl ⟨_, ⟨_, rfl⟩, rfl⟩)
  · skip
    refine zEs_run 2 rfl ?_
    exact zEs_end rfl rfl (Or.inl ⟨_, ⟨_, rfl⟩, rfl⟩)
  · skip
    refine zEs_run 3 rfl ?_
    exact zEs_end rfl rfl (Or.inl ⟨_, ⟨_, rfl⟩, rfl⟩)
  · skip
    refine zEs_run 3 rfl ?_
    exact zEs_end rfl rfl (Or.inl ⟨_, ⟨_, rfl⟩, rfl⟩)
  · skip
    refine zEs_run 3 rfl ?_
    exact zEs_end rfl rfl (Or.inl ⟨_, ⟨_, rfl⟩, rfl⟩)
  · skip
    refine zEs_run 2 rfl ?_
    refine zEs_ci rfl rfl (x_28 17 41 40 rfl rfl hL) (fun E hE => by cases hE) (fun v7 => ?_)
    exact zEs_end rfl rfl (Or.inl ⟨_, ⟨_, rfl⟩, rfl⟩)
  · skip
    refine zEs_run 2 rfl ?_
    refine zEs_ci rfl rfl (x_28 18 43 42 rfl rfl hL) (fun E hE => by cases hE) (fun v8 => ?_)
    exact zEs_end rfl rfl (Or.inl ⟨_, ⟨_, rfl⟩, rfl⟩)
  · skip
    refine zEs_run 4 rfl ?_
    exact zEs_end rfl rfl (Or.inl ⟨_, ⟨_, rfl⟩, rfl⟩)
  · skip
    refine zEs_run 4 rfl ?_
    exact zEs_end rfl rfl (Or.inl ⟨_, ⟨_, rfl⟩, rfl⟩)
  · skip
    refine zEs_run 3 rfl ?_
    exact zEs_end rfl rfl (Or.inl ⟨_, ⟨_, rfl⟩, rfl⟩)
  · skip
    refine zEs_run 2 rfl ?_
    exact zEs_end rfl rfl (Or.inl ⟨_, ⟨_, rfl⟩, rfl⟩)
theorem kn_69 (hL : zaL a) {x1 : Int32} (hx1 : 2 ≤ x1.toInt ∧ x1.toInt ≤ 3) : zMs xs (D + 4) 69 [.ref 0, .int x1] (zx s a T) nc ns (zPr zRi [] (zx s a T) nc ns) := by
  obtain ⟨hx1l, hx1u⟩ := hx1
  have hzz := zero_z
  refine ⟨_, rfl, ?_⟩
  have c21 : zEs xs (D + 4) 69 21 [some (.ref 0), some (.int x1)] [] (zx s a T) nc ns (zPr zRi [] (zx s a T) nc ns) := by
    refine zEs_run 3 rfl ?_
    refine zEs_ci rfl rfl (k_15 hL) (fun E hE => by cases hE) (fun v1 => ?_)
    exact zEs_end rfl rfl (Or.inl ⟨_, ⟨_, rfl⟩, rfl⟩)
  refine zEs_run 2 rfl ?_
  refine zEs_icmp rfl (fun gz2 => ?_) (fun gz2 => ?_)
  · have z3_ := zF_eq_t gz2
    have y3_3 : ((Int32.ofInt 2)).toInt = 2 := by decide
    exact c21 
  · have z4_ := zF_eq_f gz2
    have y4_6 : ((Int32.ofInt 2)).toInt = 2 := by decide
    refine zEs_run 2 rfl ?_
    refine zEs_icmp rfl (fun gz7 => ?_) (fun gz7 => ?_)
    · have z6_ := zF_eq_t gz7
      have y6_3 : ((Int32.ofInt 3)).toInt = 3 := by decide
      exact c21 
    · have z7_ := zF_eq_f gz7
      have y7_6 : ((Int32.ofInt 3)).toInt = 3 := by decide
      exfalso
      omega
theorem kn_73 (hL : zaL a) {x1 : Int32} {x2 : Int32} (hx1 : 0 ≤ x1.toInt ∧ x1.toInt ≤ 1) : zMs xs (D + 4) 73 [.ref 0, .int x1, .int x2] (zx s a T) nc ns (zPr zRi [] (zx s a T) nc ns) := by
  obtain ⟨hx1l, hx1u⟩ := hx1
  have hzz := zero_z
  refine ⟨_, rfl, ?_⟩
  have c6 : ∀ (n6 : Nat) (i6_3 : Int32) (o6_4 : Option Value) (hz6 : 0 ≤ (i6_3).toInt), (((Int32.ofInt 4)).toInt + 1 - (i6_3).toInt).toNat < n6 → zEs xs (D + 4) 73 6 [some (.ref 0), some (.int x1), some (.int x2), some (.int i6_3), o6_4] [] (zx s a T) nc ns (zPr zRi [] (zx s a T) nc ns) := by
    intro n6
    induction n6 with
    | zero =>
      intro i6_3 o6_4 hz6 hn6
      exact absurd hn6 (Nat.not_lt_zero _)
    | succ n6 ih6 =>
      intro i6_3 o6_4 hz6 hn6
      refine zEs_run 2 rfl ?_
      refine zEs_icmp rfl (fun g6 => ?_) (fun g6 => ?_)
      · skip
        refine zEs_run 1 rfl ?_
        refine zEs_if rfl (fun gz46 => ?_) (fun gz46 => ?_)
        · have z2_ := zF_eq_t gz46
          refine zEs_run 1 rfl ?_
          exact zEs_end rfl rfl (Or.inl ⟨_, ⟨_, rfl⟩, rfl⟩)
        · have z3_ := zF_eq_f gz46
          refine zEs_run 2 rfl ?_
          exact zEs_end rfl rfl (Or.inl ⟨_, ⟨_, rfl⟩, rfl⟩)
      · skip
        have g6 : ¬ (Int32.ofInt 4) < i6_3 := g6
        have z6 := zF_gt_f g6
        have y6 : ((Int32.ofInt 4)).toInt = 4 := by decide
        refine zEs_run 4 rfl ?_
        refine zEs_ci rfl rfl (k_32 hL) (fun E hE => by cases hE) (fun v4 => ?_)
        refine zEs_run 3 rfl ?_
        refine zEs_icmp rfl (fun gz25 => ?_) (fun gz25 => ?_)
        · have z6_ := zF_eq_t gz25
          have y6_3 : ((Int32.ofInt (-1))).toInt = -1 := by decide
          refine zEs_run 2 rfl ?_
          exact ih6 _ (some (.int _)) (by rw [zinc_le (by omega) (by decide) (by decide)]; omega) (Nat.lt_of_lt_of_le (zdec_le g6 (Int.le_refl _) (by decide) (by decide) (by decide)) (Nat.le_of_lt_succ hn6))
        · have z7_ := zF_eq_f gz25
          have y7_7 : ((Int32.ofInt (-1))).toInt = -1 := by decide
          refine zEs_run 1 rfl ?_
          refine zEs_if rfl (fun gz29 => ?_) (fun gz29 => ?_)
          · have z9_ := zF_eq_t gz29
            refine zEs_run 1 rfl ?_
            exact zEs_end rfl rfl (Or.inl ⟨_, ⟨_, rfl⟩, rfl⟩)
          · have z10_ := zF_eq_f gz29
            refine zEs_run 2 rfl ?_
            exact zEs_end rfl rfl (Or.inl ⟨_, ⟨_, rfl⟩, rfl⟩)
  refine zEs_run 1 rfl ?_
  refine zEs_cv rfl rfl (kn_83 hL ⟨by omega, by omega⟩) (fun E hE => by cases hE) ?_
  refine zEs_run 2 rfl ?_
  exact c6 _ _ (none) (by decide) (Nat.lt_succ_self _)
theorem kn_78 (hL : zaL a) {x1 : Int32} (hx1 : 0 ≤ x1.toInt ∧ x1.toInt ≤ 1) : zMs xs (D + 4) 78 [.ref 0, .int x1] (zx s a T) nc ns (zPr zRi [] (zx s a T) nc ns) := by
  obtain ⟨hx1l, hx1u⟩ := hx1
  have hzz := zero_z
  refine ⟨_, rfl, ?_⟩
  have c28 : ∀ (n28 : Nat) (i28_2 : Int32) (i28_3 : Int32) (i28_4 : Int32) (i28_5 : Int32) (o28_6 : Option Value) (o28_7 : Option Value) (o28_8 : Option Value) (hz28 : 0 ≤ (i28_5).toInt), (((Int8.ofInt 8).toInt32).toInt - (i28_5).toInt).toNat < n28 → zEs xs (D + 4) 78 28 [some (.ref 0), some (.int x1), some (.int i28_2), some (.int i28_3), some (.int i28_4), some (.int i28_5), o28_6, o28_7, o28_8] [] (zx s a T) nc ns (zPr zRi [] (zx s a T) nc ns) := by
    intro n28
    induction n28 with
    | zero =>
      intro i28_2 i28_3 i28_4 i28_5 o28_6 o28_7 o28_8 hz28 hn28
      exact absurd hn28 (Nat.not_lt_zero _)
    | succ n28 ih28 =>
      intro i28_2 i28_3 i28_4 i28_5 o28_6 o28_7 o28_8 hz28 hn28
      refine zEs_run 2 rfl ?_
      refine zEs_icmp rfl (fun g28 => ?_) (fun g28 => ?_)
      · skip
        refine zEs_run 1 rfl ?_
        exact zEs_end rfl rfl (Or.inl ⟨_, ⟨_, rfl⟩, rfl⟩)
      · skip
        have g28 : ¬ (Int8.ofInt 8).toInt32 ≤ i28_5 := g28
        have z28 := zF_ge_f g28
        have y28 : ((Int8.ofInt 8).toInt32).toInt = 8 := by decide
        have c97 : ∀ (i97_2 : Int32) (i97_3 : Int32) (i97_4 : Int32) (i97_6 : Int32) (i97_7 : Int32) (i97_8 : Int32), zEs xs (D + 4) 78 97 [some (.ref 0), some (.int x1), some (.int i97_2), some (.int i97_3), some (.int i97_4), some (.int i28_5), some (.int i97_6), some (.int i97_7), some (.int i97_8)] [] (zx s a T) nc ns (zPr zRi [] (zx s a T) nc ns) := by
          intro i97_2 i97_3 i97_4 i97_6 i97_7 i97_8
          refine zEs_run 2 rfl ?_
          exact ih28 _ _ _ _ (some (.int _)) (some (.int _)) (some (.int _)) (by rw [zinc_z (Int32.not_le.mp g28)]; omega) (Nat.lt_of_lt_of_le (zdec g28) (Nat.le_of_lt_succ hn28))
        have c87 : ∀ (i87_6 : Int32) (i87_7 : Int32) (i87_8 : Int32), zEs xs (D + 4) 78 87 [some (.ref 0), some (.int x1), some (.int i28_2), some (.int i28_3), some (.int i28_4), some (.int i28_5), some (.int i87_6), some (.int i87_7), some (.int i87_8)] [] (zx s a T) nc ns (zPr zRi [] (zx s a T) nc ns) := by
          intro i87_6 i87_7 i87_8
          refine zEs_run 6 rfl ?_
          exact c97 _ _ _ _ _ _
        refine zEs_run 3 rfl ?_
        refine zEs_ci rfl rfl (k_88 hL) (fun E hE => by cases hE) (fun v1 => ?_)
        refine zEs_ci rfl rfl (k_90 hL) (fun E hE => by cases hE) (fun v2 => ?_)
        refine zEs_run 3 rfl ?_
        refine zEs_ci rfl rfl (k_100 hL) (fun E hE => by cases hE) (fun v3 => ?_)
        refine zEs_run 3 rfl ?_
        refine zEs_ci rfl rfl (k_99 hL) (fun E hE => by cases hE) (fun v4 => ?_)
        refine zEs_run 3 rfl ?_
        refine zEs_icmp rfl (fun gz66 => ?_) (fun gz66 => ?_)
        · have z6_ := zF_gt_t gz66
          exact c87 _ _ _
        · have z7_ := zF_gt_f gz66
          refine zEs_run 1 rfl ?_
          refine zEs_if rfl (fun gz71 => ?_) (fun gz71 => ?_)
          · have z9_ := zF_le_t gz71
            exact c97 _ _ _ _ _ _
          · have z10_ := zF_le_f gz71
            refine zEs_run 2 rfl ?_
            refine zEs_icmp rfl (fun gz77 => ?_) (fun gz77 => ?_)
            · have z12_ := zF_ne_t gz77
              exact c97 _ _ _ _ _ _
            · have z13_ := zF_ne_f gz77
              refine zEs_run 2 rfl ?_
              refine zEs_icmp rfl (fun gz84 => ?_) (fun gz84 => ?_)
              · have z15_ := zF_le_t gz84
                exact c97 _ _ _ _ _ _
              · have z16_ := zF_le_f gz84
                exact c87 _ _ _
  refine zEs_run 1 rfl ?_
  refine zEs_cv rfl rfl (kn_83 hL ⟨by omega, by omega⟩) (fun E hE => by cases hE) ?_
  refine zEs_run 3 rfl ?_
  refine zEs_ci rfl rfl (x_25 16 39 38 rfl rfl hL) (fun E hE => by cases hE) (fun v18 => ?_)
  refine zEs_run 1 rfl ?_
  refine zEs_icmp rfl (fun gz13 => ?_) (fun gz13 => ?_)
  · have z20_ := zF_lt_t gz13
    have y20_3 : ((Int32.ofInt 2)).toInt = 2 := by decide
    refine zEs_run 8 rfl ?_
    exact c28 _ _ _ _ _ (none) (none) (none) (by decide) (Nat.lt_succ_self _)
  · have z21_ := zF_lt_f gz13
    have y21_7 : ((Int32.ofInt 2)).toInt = 2 := by decide
    refine zEs_run 1 rfl ?_
    exact zEs_end rfl rfl (Or.inl ⟨_, ⟨_, rfl⟩, rfl⟩)
theorem kn_71 (hL : zaL a) {x1 : Int32} {x2 : Int32} {x3 : Int32} (hx1 : 0 ≤ x1.toInt ∧ x1.toInt ≤ 1) (hx2 : 0 ≤ x2.toInt ∧ x2.toInt ≤ 9) (hx3 : 0 ≤ x3.toInt ∧ x3.toInt ≤ 4) : zMs xs (D + 4) 71 [.ref 0, .int x1, .int x2, .int x3] (zx s a T) nc ns (zPr zRi [] (zx s a T) nc ns) := by
  obtain ⟨hx1l, hx1u⟩ := hx1
  obtain ⟨hx2l, hx2u⟩ := hx2
  obtain ⟨hx3l, hx3u⟩ := hx3
  have hzz := zero_z
  refine ⟨_, rfl, ?_⟩
  refine zEs_run 1 rfl ?_
  refine zEs_cv rfl rfl (kn_83 hL ⟨by omega, by omega⟩) (fun E hE => by cases hE) ?_
  refine zEs_run 1 rfl ?_
  refine zEs_if rfl (fun gz5 => ?_) (fun gz5 => ?_)
  · have z3_ := zF_lt_t gz5
    exfalso
    omega
  · have z4_ := zF_lt_f gz5
    refine zEs_run 2 rfl ?_
    refine zEs_icmp rfl (fun gz11 => ?_) (fun gz11 => ?_)
    · have z6_ := zF_lt_t gz11
      have y6_3 : ((Int8.ofInt 10).toInt32).toInt = 10 := by decide
      refine zEs_run 7 rfl ?_
      refine zEs_tabN [68, 81, 88, 109, 116] rfl (by decide) (by decide) (by omega) (by omega) (List.forall_mem_cons.mpr ⟨?_, List.forall_mem_cons.mpr ⟨?_, List.forall_mem_cons.mpr ⟨?_, List.forall_mem_cons.mpr ⟨?_, List.forall_mem_cons.mpr ⟨?_, fun _ h => absurd h List.not_mem_nil⟩⟩⟩⟩⟩)
      · skip
        refine zEs_run 4 rfl ?_
        refine zEs_ci rfl rfl (x_25 3 10 9 rfl rfl hL) (fun E hE => by cases hE) (fun v7 => ?_)
        exact zEs_end rfl rfl (Or.inl ⟨_, ⟨_, rfl⟩, rfl⟩)
      · skip
        refine zEs_run 3 rfl ?_
        refine zEs_ci rfl rfl (k_93 hL) (fun E hE => by cases hE) (fun v8 => ?_)
        exact zEs_end rfl rfl (Or.inl ⟨_, ⟨_, rfl⟩, rfl⟩)
      · skip
        refine zEs_run 7 rfl ?_
        refine zEs_ci rfl rfl (x_25 4 12 11 rfl rfl hL) (fun E hE => by cases hE) (fun v9 => ?_)
        refine zEs_run 1 rfl ?_
        exact zEs_end rfl rfl (Or.inl ⟨_, ⟨_, rfl⟩, rfl⟩)
      · skip
        refine zEs_run 2 rfl ?_
        refine zEs_ci rfl rfl (k_99 hL) (fun E hE => by cases hE) (fun v10 => ?_)
        exact zEs_end rfl rfl (Or.inl ⟨_, ⟨_, rfl⟩, rfl⟩)
      · skip
        refine zEs_run 2 rfl ?_
        refine zEs_ci rfl rfl (k_100 hL) (fun E hE => by cases hE) (fun v11 => ?_)
        exact zEs_end rfl rfl (Or.inl ⟨_, ⟨_, rfl⟩, rfl⟩)
    · have z12_ := zF_lt_f gz11
      have y12_28 : ((Int8.ofInt 10).toInt32).toInt = 10 := by decide
      exfalso
      omega
theorem kn_70 (hL : zaL a) {x1 : Int32} {x2 : Int32} (hx1 : 0 ≤ x1.toInt ∧ x1.toInt ≤ 127) (hx2 : 0 ≤ x2.toInt ∧ x2.toInt ≤ 6) : zMs xs (D + 4) 70 [.ref 0, .int x1, .int x2] (zx s a T) nc ns (zPr zRi [] (zx s a T) nc ns) := by
  obtain ⟨hx1l, hx1u⟩ := hx1
  obtain ⟨hx2l, hx2u⟩ := hx2
  have hzz := zero_z
  refine ⟨_, rfl, ?_⟩
  refine zEs_run 1 rfl ?_
  refine zEs_cv rfl rfl (kn_82 hL ⟨by omega, by omega⟩) (fun E hE => by cases hE) ?_
  refine zEs_run 2 rfl ?_
  refine zEs_ci rfl rfl (k_91 hL) (fun E hE => by cases hE) (fun v2 => ?_)
  refine zEs_run 2 rfl ?_
  refine zEs_tabN [52, 58, 71, 80, 89, 101, 116] rfl (by decide) (by decide) (by omega) (by omega) (List.forall_mem_cons.mpr ⟨?_, List.forall_mem_cons.mpr ⟨?_, List.forall_mem_cons.mpr ⟨?_, List.forall_mem_cons.mpr ⟨?_, List.forall_mem_cons.mpr ⟨?_, List.forall_mem_cons.mpr ⟨?_, List.forall_mem_cons.mpr ⟨?_, fun _ h => absurd h List.not_mem_nil⟩⟩⟩⟩⟩⟩⟩)
  · skip
    refine zEs_run 2 rfl ?_
    refine zEs_ci rfl rfl (k_92 hL) (fun E hE => by cases hE) (fun v3 => ?_)
    exact zEs_end rfl rfl (Or.inl ⟨_, ⟨_, rfl⟩, rfl⟩)
  · skip
    refine zEs_run 4 rfl ?_
    refine zEs_ci rfl rfl (k_92 hL) (fun E hE => by cases hE) (fun v4 => ?_)
    refine zEs_ci rfl rfl (k_11 hL) (fun E hE => by cases hE) (fun v5 => ?_)
    exact zEs_end rfl rfl (Or.inl ⟨_, ⟨_, rfl⟩, rfl⟩)
  · skip
    refine zEs_run 3 rfl ?_
    refine zEs_ci rfl rfl (x_25 17 41 40 rfl rfl hL) (fun E hE => by cases hE) (fun v6 => ?_)
    exact zEs_end rfl rfl (Or.inl ⟨_, ⟨_, rfl⟩, rfl⟩)
  · skip
    refine zEs_run 3 rfl ?_
    refine zEs_ci rfl rfl (x_25 18 43 42 rfl rfl hL) (fun E hE => by cases hE) (fun v7 => ?_)
    exact zEs_end rfl rfl (Or.inl ⟨_, ⟨_, rfl⟩, rfl⟩)
  · skip
    refine zEs_run 5 rfl ?_
    refine zEs_ci rfl rfl (x_25 15 37 36 rfl rfl hL) (fun E hE => by cases hE) (fun v8 => ?_)
    exact zEs_end rfl rfl (Or.inl ⟨_, ⟨_, rfl⟩, rfl⟩)
  · skip
    refine zEs_run 7 rfl ?_
    refine zEs_ci rfl rfl (k_23_15 hL) (fun E hE => by cases hE) (fun v9 => ?_)
    exact zEs_end rfl rfl (Or.inl ⟨_, ⟨_, rfl⟩, rfl⟩)
  · skip
    refine zEs_run 7 rfl ?_
    refine zEs_ci rfl rfl (k_23_22 hL) (fun E hE => by cases hE) (fun v10 => ?_)
    exact zEs_end rfl rfl (Or.inl ⟨_, ⟨_, rfl⟩, rfl⟩)
theorem kn_77 (hL : zaL a) {x1 : Int32} (hx1 : 0 ≤ x1.toInt ∧ x1.toInt ≤ 127) : zMs xs (D + 5) 77 [.ref 0, .int x1] (zx s a T) nc ns (zPr zRi [] (zx s a T) nc ns) := by
  obtain ⟨hx1l, hx1u⟩ := hx1
  have hzz := zero_z
  refine ⟨_, rfl, ?_⟩
  refine zEs_run 1 rfl ?_
  refine zEs_cv rfl rfl (kn_82 hL ⟨by omega, by omega⟩) (fun E hE => by cases hE) ?_
  refine zEs_run 2 rfl ?_
  refine zEs_cb rfl rfl (k_96 hL) (fun E hE => by cases hE) (fun v2 hb2 => ?_)
  refine zEs_if rfl (fun gz9 => ?_) (fun gz9 => ?_)
  · have z4_ := zF_eq_t gz9
    refine zEs_run 2 rfl ?_
    refine zEs_ci rfl rfl (k_97 hL) (fun E hE => by cases hE) (fun v5 => ?_)
    refine zEs_run 2 rfl ?_
    refine zEs_ci rfl rfl (k_89 hL) (fun E hE => by cases hE) (fun v6 => ?_)
    refine zEs_run 3 rfl ?_
    refine zEs_icmp rfl (fun gz28 => ?_) (fun gz28 => ?_)
    · have z8_ := zF_ne_t gz28
      have y8_3 : ((Int32.ofInt (-1))).toInt = -1 := by decide
      refine zEs_run 1 rfl ?_
      exact zEs_end rfl rfl (Or.inl ⟨_, ⟨_, rfl⟩, rfl⟩)
    · have z9_ := zF_ne_f gz28
      have y9_7 : ((Int32.ofInt (-1))).toInt = -1 := by decide
      refine zEs_run 2 rfl ?_
      refine zEs_if rfl (fun gz35 => ?_) (fun gz35 => ?_)
      · have z11_ := zF_eq_t gz35
        refine zEs_run 1 rfl ?_
        exact zEs_end rfl rfl (Or.inl ⟨_, ⟨_, rfl⟩, rfl⟩)
      · have z12_ := zF_eq_f gz35
        refine zEs_run 2 rfl ?_
        refine zEs_cb rfl rfl (k_96 hL) (fun E hE => by cases hE) (fun v13 hb13 => ?_)
        refine zEs_if rfl (fun gz43 => ?_) (fun gz43 => ?_)
        · have z15_ := zF_ne_t gz43
          refine zEs_run 1 rfl ?_
          exact zEs_end rfl rfl (Or.inl ⟨_, ⟨_, rfl⟩, rfl⟩)
        · have z16_ := zF_ne_f gz43
          refine zEs_run 2 rfl ?_
          refine zEs_ci rfl rfl (k_97 hL) (fun E hE => by cases hE) (fun v17 => ?_)
          refine zEs_run 2 rfl ?_
          exact zEs_end rfl rfl (Or.inl ⟨_, ⟨_, rfl⟩, rfl⟩)
  · have z18_ := zF_eq_f gz9
    refine zEs_run 1 rfl ?_
    exact zEs_end rfl rfl (Or.inl ⟨_, ⟨_, rfl⟩, rfl⟩)
theorem kn_72 (hL : zaL a) {x1 : Int32} {x2 : Int32} (hx1 : 0 ≤ x1.toInt ∧ x1.toInt < (s 11).toInt) (hx2 : 0 ≤ x2.toInt ∧ x2.toInt ≤ 2) : zMs xs (D + 1) 72 [.ref 0, .int x1, .int x2] (zx s a T) nc ns (zPr zRi [] (zx s a T) nc ns) := by
  obtain ⟨hx1l, hx1u⟩ := hx1
  obtain ⟨hx2l, hx2u⟩ := hx2
  have hzz := zero_z
  refine ⟨_, rfl, ?_⟩
  refine zEs_run 1 rfl ?_
  refine zEs_if rfl (fun gz1 => ?_) (fun gz1 => ?_)
  · have z2_ := zF_lt_t gz1
    exfalso
    omega
  · have z3_ := zF_lt_f gz1
    refine zEs_run 4 rfl ?_
    refine zEs_icmp rfl (fun gz12 => ?_) (fun gz12 => ?_)
    · have z5_ := zF_lt_t gz12
      refine zEs_run 1 rfl ?_
      refine zEs_tabN [52, 64, 76] rfl (by decide) (by decide) (by omega) (by omega) (List.forall_mem_cons.mpr ⟨?_, List.forall_mem_cons.mpr ⟨?_, List.forall_mem_cons.mpr ⟨?_, fun _ h => absurd h List.not_mem_nil⟩⟩⟩)
      · skip
        refine zEs_run 4 rfl ?_
        refine zEs_ci rfl rfl (x_25 12 31 30 rfl rfl hL) (fun E hE => by cases hE) (fun v6 => ?_)
        exact zEs_end rfl rfl (Or.inl ⟨_, ⟨_, rfl⟩, rfl⟩)
      · skip
        refine zEs_run 4 rfl ?_
        refine zEs_ci rfl rfl (x_25 13 33 32 rfl rfl hL) (fun E hE => by cases hE) (fun v7 => ?_)
        exact zEs_end rfl rfl (Or.inl ⟨_, ⟨_, rfl⟩, rfl⟩)
      · skip
        refine zEs_run 4 rfl ?_
        refine zEs_ci rfl rfl (x_25 14 35 34 rfl rfl hL) (fun E hE => by cases hE) (fun v8 => ?_)
        exact zEs_end rfl rfl (Or.inl ⟨_, ⟨_, rfl⟩, rfl⟩)
    · have z9_ := zF_lt_f gz12
      exfalso
      omega
end ZK
end zg13
section zg14
/-! The class's methods that want more than opaque ints: by hand. -/
theorem zoff_mem {ps : List (Int × Int)} {d v : Int} : Op.lookupswitch.offset ps d v = d ∨ ∃ q ∈ ps, Op.lookupswitch.offset ps d v = q.2 := by
  induction ps with
  | nil => exact Or.inl rfl
  | cons p ps ih =>
    unfold Op.lookupswitch.offset
    split
    · exact Or.inr ⟨p, List.mem_cons_self, rfl⟩
    · rcases ih with h | ⟨q, hq, h⟩
      · exact Or.inl h
      · exact Or.inr ⟨q, List.mem_cons_of_mem _ hq, h⟩
def zRc (v : Option Value) : Prop := ∃ x : Int32, (x = 120 ∨ x = 112 ∨ x = 46 ∨ x = 109 ∨ x = 66) ∧ v = some (.int x)
def zRh (v : Option Value) : Prop := ∃ k : Nat, k ≤ 64 ∧ v = some (.double (FP.ddiv (FP.i2d (Int32.ofNat k)) 4634204016564240384))
/-- pass: the tick stays small -/
def zPt (Es W V : List Nat) (s : Nat → Int32) (a : Nat → List Int32) (T : zH) (nc ns : Nat) : zO → Prop := fun o => (∃ v s' a', zRi v ∧ zfr W V s a s' a' ∧ (0 ≤ (s' 4).toInt ∧ (s' 4).toInt ≤ 2000) ∧ o = (.inl v, zx s' a' T, nc, ns)) ∨ ∃ E, E ∈ Es ∧ o = (.inr E, zx s a T, nc + 1, ns + 6)
theorem zdd_ok : (List.range 65).all (fun k => decide ((FP.ddiv (FP.i2d (Int32.ofNat k)) 4634204016564240384) &&& 0x7fffffffffffffff ≤ 0x7ff0000000000000) && decide ((FP.dmul 4634204016564240384 (FP.ddiv (FP.i2d (Int32.ofNat k)) 4634204016564240384)) &&& 0x7fffffffffffffff ≤ 0x7ff0000000000000)) = true := by decide +kernel
theorem zdd_1 {k : Nat} (h : k ≤ 64) : (FP.ddiv (FP.i2d (Int32.ofNat k)) 4634204016564240384) &&& 0x7fffffffffffffff ≤ 0x7ff0000000000000 ∧ (FP.dmul 4634204016564240384 (FP.ddiv (FP.i2d (Int32.ofNat k)) 4634204016564240384)) &&& 0x7fffffffffffffff ≤ 0x7ff0000000000000 := by
  have h1 := List.all_eq_true.mp zdd_ok k (List.mem_range.mpr (by omega))
  rw [Bool.and_eq_true, decide_eq_true_eq, decide_eq_true_eq] at h1
  exact h1
section ZK
variable {xs : List Int32} {D nc ns y pc nx k yy m c : Nat} {s : Nat → Int32} {a : Nat → List Int32} {T h : zH} {L : zL} {r : List Value} {P : zO → Prop}
theorem zEs_look {d : Int} {ps : Array (Int × Int)} {x : Int32} (ts : List Nat) (h1 : zat (zmc y) pc = some (.lookupswitch d ps, nx, k, yy, m, c)) (ht : (d :: ps.toList.map (fun q => q.2)).all (fun o => match (pc : Int) + o with
  | .ofNat t => ts.contains t
  | .negSucc _ => false) = true) (kk : ∀ t ∈ ts, zEs xs D y t L r h nc ns P) : zEs xs D y pc L (.int x :: r) h nc ns P := by
  have key : ∀ o, o ∈ d :: ps.toList.map (fun q => q.2) → ∃ t, t ∈ ts ∧ zoff pc o L r h = zgo t L r h := by
    intro o ho
    have g := List.all_eq_true.mp ht o ho
    unfold zoff
    split at g
    · next t e =>
      rw [e]
      exact ⟨t, List.contains_iff_mem.mp g, rfl⟩
    · cases g
  obtain ⟨t, g1, g2⟩ := key (Op.lookupswitch.offset ps.toList d x.toInt) (by
    rcases zoff_mem (ps := ps.toList) (d := d) (v := x.toInt) with e | ⟨q, hq, e⟩
    · rw [e]; exact List.mem_cons_self
    · rw [e]; exact List.mem_cons_of_mem _ (List.mem_map.mpr ⟨q, hq, rfl⟩))
  exact zEs_step (dc := 0) (ds := 0) h1 g2 (kk t g1)
set_option maxRecDepth 10000
theorem h_7 (hL : zaL a) {x1 : Int32} (h1 : 0 ≤ x1.toInt) (h2 : x1.toInt < (s 2).toInt) : zMs xs (D + 0) 7 [.ref 1, .int x1] (zx s a T) nc ns (zPr (fun v => v = some (.int 1)) [] (zx s a T) nc ns) := by
  have hzz := zero_z
  refine ⟨_, rfl, ?_⟩
  refine zEs_run 1 rfl ?_
  refine zEs_if rfl (fun g => ?_) (fun g => ?_)
  · have z := zF_lt_t g
    exfalso
    omega
  · refine zEs_run 3 rfl ?_
    refine zEs_icmp rfl (fun g => ?_) (fun g => ?_)
    · have z := zF_ge_t g
      exfalso
      omega
    · refine zEs_run 2 rfl ?_
      exact zEs_bret rfl (Or.inr rfl) (Or.inl ⟨_, rfl, rfl⟩)
theorem kn_66 (hL : zaL a) {x1 : Int32} (hx1 : 0 ≤ x1.toInt ∧ x1.toInt < (s 2).toInt) : zMs xs (D + 1) 66 [.ref 0, .int x1] (zx s a T) nc ns (zPr zRi [] (zx s a T) nc ns) := by
  refine ⟨_, rfl, ?_⟩
  refine zEs_run 3 rfl ?_
  refine zEs_cr rfl rfl (h_7 hL hx1.1 hx1.2) (fun E hE => by cases hE) (fun v hv => ?_)
  cases (show v = _ from hv)
  refine zEs_if rfl (fun _ => ?_) (fun g => ?_)
  · refine zEs_run 4 rfl ?_
    refine zEs_ci rfl rfl (x_25 0 3 2 rfl rfl hL) (fun E hE => by cases hE) (fun v3 => ?_)
    exact zEs_end rfl rfl (Or.inl ⟨_, ⟨_, rfl⟩, rfl⟩)
  · exact absurd (show (1 : Int32) = 0 from g) (by decide)
theorem k_98 (hL : zaL a) {x1 : Int32} : zMs xs (D + 4) 98 [.ref 0, .int x1] (zx s a T) nc ns (zPr zRc [] (zx s a T) nc ns) := by
  refine ⟨_, rfl, ?_⟩
  refine zEs_run 2 rfl ?_
  refine zEs_cb rfl rfl (k_96 hL) (fun E hE => by cases hE) (fun v1 hb1 => ?_)
  refine zEs_if rfl (fun _ => ?_) (fun _ => ?_)
  · refine zEs_run 2 rfl ?_
    refine zEs_cb rfl rfl (k_95 hL) (fun E hE => by cases hE) (fun v2 hb2 => ?_)
    refine zEs_if rfl (fun _ => ?_) (fun _ => ?_)
    · refine zEs_run 4 rfl ?_
      refine zEs_ci rfl rfl (k_92 hL) (fun E hE => by cases hE) (fun v3 => ?_)
      refine zEs_ci rfl rfl (k_11 hL) (fun E hE => by cases hE) (fun v4 => ?_)
      refine zEs_look [60, 63, 66] rfl (by decide) (List.forall_mem_cons.mpr ⟨?_, List.forall_mem_cons.mpr ⟨?_, List.forall_mem_cons.mpr ⟨?_, fun _ h => absurd h List.not_mem_nil⟩⟩⟩)
      · refine zEs_run 1 rfl ?_
        exact zEs_end rfl rfl (Or.inl ⟨_, ⟨46, by decide, rfl⟩, rfl⟩)
      · refine zEs_run 1 rfl ?_
        exact zEs_end rfl rfl (Or.inl ⟨_, ⟨109, by decide, rfl⟩, rfl⟩)
      · refine zEs_run 1 rfl ?_
        exact zEs_end rfl rfl (Or.inl ⟨_, ⟨66, by decide, rfl⟩, rfl⟩)
    · refine zEs_run 1 rfl ?_
      exact zEs_end rfl rfl (Or.inl ⟨_, ⟨112, by decide, rfl⟩, rfl⟩)
  · refine zEs_run 1 rfl ?_
    exact zEs_end rfl rfl (Or.inl ⟨_, ⟨120, by decide, rfl⟩, rfl⟩)
theorem y_85 (hL : zaL a) {x1 : Int32} : zMs xs (D + 0) 85 [.int x1] (zx s a T) nc ns (zPr (fun v => v = none ∧ 1 ≤ x1.toInt ∧ x1.toInt ≤ 100) [0] (zx s a T) nc ns) := by
  refine ⟨_, rfl, ?_⟩
  refine zEs_run 2 rfl ?_
  refine zEs_icmp rfl (fun _ => ?_) (fun g1 => ?_)
  · exact zEs_end rfl rfl (Or.inr ⟨0, by decide, rfl⟩)
  · refine zEs_run 2 rfl ?_
    refine zEs_icmp rfl (fun g2 => ?_) (fun _ => ?_)
    · have z1 := zF_lt_f g1
      have z2 := zF_le_t g2
      have e1 : (Int32.ofInt 1).toInt = 1 := by decide
      have e2 : ((Int8.ofInt 100).toInt32).toInt = 100 := by decide
      exact zEs_end rfl rfl (Or.inl ⟨_, ⟨rfl, by omega, by omega⟩, rfl⟩)
    · exact zEs_end rfl rfl (Or.inr ⟨0, by decide, rfl⟩)
theorem zadd_s {x z : Int32} (h1 : 0 ≤ x.toInt) (h2 : x.toInt ≤ 3000) (h3 : 0 ≤ z.toInt) (h4 : z.toInt ≤ 3000) : (x + z).toInt = x.toInt + z.toInt := by
  rw [Int32.toInt_add, Int.bmod_def]
  split <;> omega
theorem k_79 (hL : zaL a) (ht : 0 ≤ (s 4).toInt ∧ (s 4).toInt ≤ 2000) {x1 : Int32} : zMs xs (D + 4) 79 [.ref 0, .int x1] (zx s a T) nc ns (zPo zRi [0] [] [5] s a T nc ns) := by
  refine ⟨_, rfl, ?_⟩
  refine zEs_run 1 rfl ?_
  refine zEs_cr rfl rfl (y_85 hL) (fun E hE => ⟨rfl, Or.inr ⟨E, hE, rfl⟩⟩) (fun v hv => ?_)
  obtain ⟨rfl, h1, h2⟩ := hv
  refine zEs_run 3 rfl ?_
  refine zEs_wi rfl rfl (k_48 hL (by rw [zadd_s ht.1 (by omega) (by omega) (by omega)]; omega)) (fun E hE => by cases hE) (fun v1 s1 a1 e1 => ?_)
  exact zEs_end rfl rfl (Or.inl ⟨_, _, _, ⟨_, rfl⟩, e1, rfl⟩)
theorem kn_79 (hL : zaL a) (ht : 0 ≤ (s 4).toInt ∧ (s 4).toInt ≤ 2000) {x1 : Int32} (hx1 : 1 ≤ x1.toInt ∧ x1.toInt ≤ 100) : zMs xs (D + 4) 79 [.ref 0, .int x1] (zx s a T) nc ns (zPo zRi [] [] [5] s a T nc ns) := by
  refine ⟨_, rfl, ?_⟩
  refine zEs_run 1 rfl ?_
  refine zEs_cv rfl rfl (kn_85 hL hx1) (fun E hE => by cases hE) ?_
  obtain ⟨h1, h2⟩ := hx1
  refine zEs_run 3 rfl ?_
  refine zEs_wi rfl rfl (k_48 hL (by rw [zadd_s ht.1 (by omega) (by omega) (by omega)]; omega)) (fun E hE => by cases hE) (fun v1 s1 a1 e1 => ?_)
  exact zEs_end rfl rfl (Or.inl ⟨_, _, _, ⟨_, rfl⟩, e1, rfl⟩)
theorem k_63 (hL : zaL a) (ht : 0 ≤ (s 4).toInt ∧ (s 4).toInt ≤ 2000) {x1 : Int32} : zMs xs (D + 6) 63 [.ref 0, .int x1] (zx s a T) nc ns (zPt [0, 2] [4, 11, 12, 13, 17] [2, 3, 4, 12, 13, 14, 17] s a T nc ns) := by
  have hzz := zero_z
  refine ⟨_, rfl, ?_⟩
  refine zEs_run 1 rfl ?_
  refine zEs_cr rfl rfl (y_85 hL) (fun E hE => ⟨rfl, Or.inr ⟨E, (show ∀ E ∈ ([0] : List Nat), E ∈ ([0, 2] : List Nat) by decide) E hE, rfl⟩⟩) (fun v hv => ?_)
  obtain ⟨rfl, h1, h2⟩ := hv
  refine zEs_run 6 rfl ?_
  refine zEs_icmp rfl (fun gz => ?_) (fun _ => ?_)
  · have z1 : (s 4 + x1).toInt ≤ ((Int16.ofInt 2000).toInt32).toInt := zF_le_t gz
    have e1 : ((Int16.ofInt 2000).toInt32).toInt = 2000 := by decide
    rw [e1] at z1
    refine zEs_run 2 rfl ?_
    have lp : ∀ (n : Nat) (i : Int32) (s1 : Nat → Int32) (a1 : Nat → List Int32), zfr [4, 11, 12, 13, 17] [2, 3, 4, 12, 13, 14, 17] s a s1 a1 → s1 4 = s 4 + i → 0 ≤ i.toInt → i.toInt ≤ x1.toInt → (x1.toInt - i.toInt).toNat < n → zEs xs (D + 6) 63 31 [some (.ref 0), some (.int x1), some (.int i)] [] (zx s1 a1 T) nc ns (zPt [0, 2] [4, 11, 12, 13, 17] [2, 3, 4, 12, 13, 14, 17] s a T nc ns) := by
      intro n
      induction n with
      | zero =>
        intro i s1 a1 f1 e i0 i1 hn
        exact absurd hn (Nat.not_lt_zero _)
      | succ n ih =>
        intro i s1 a1 f1 e i0 i1 hn
        refine zEs_run 2 rfl ?_
        refine zEs_icmp rfl (fun g => ?_) (fun g => ?_)
        · have z2 := zF_ge_t g
          have e2 : i = x1 := Int32.toInt_inj.mp (by omega)
          subst e2
          refine zEs_run 3 rfl ?_
          refine zEs_end rfl rfl (Or.inl ⟨_, _, _, ⟨_, rfl⟩, f1, ?_, rfl⟩)
          rw [e]
          have := zadd_s ht.1 (by omega) (by omega) (show i.toInt ≤ 3000 by omega)
          omega
        · have g : ¬ x1 ≤ i := g
          have hi := zinc_z (Int32.not_le.mp g)
          have z2 := znl_z g
          refine zEs_run 2 rfl ?_
          refine zEs_callG rfl rfl (k_46 f1.2.2) (fun v h9 nc9 ns9 q => ?_) (fun E h9 nc9 ns9 q => ?_)
          · rcases q with ⟨v', s2, a2, hv, f2, q⟩ | ⟨E, hE, q⟩
            · cases q
              cases (show v = none from hv)
              have f3 : zfr [4, 11, 12, 13, 17] [2, 3, 4, 12, 13, 14, 17] s a s2 a2 := zfr_tr (zfr_s (k := 4) f1 (by decide)) (zfr_mo f2 (by decide) (by decide))
              have e3 : s2 4 = s 4 + (i + Int32.ofInt 1) := (f2.1 4 (by decide)).trans (by
                show s1 4 + Int32.ofInt 1 = _
                rw [e, Int32.add_assoc])
              refine zEs_run 1 rfl ?_
              refine zEs_wv rfl rfl (k_105 f2.2.2) (fun E hE => by cases hE) (fun s3 a3 f4 => ?_)
              refine zEs_run 2 rfl ?_
              exact ih _ _ _ (zfr_tr f3 (zfr_mo f4 (by decide) (by decide))) ((f4.1 4 (by decide)).trans e3) (by omega) (by omega) (by omega)
            · cases q
          · rcases q with ⟨v', s2, a2, hv, f2, q⟩ | ⟨E, hE, q⟩
            · cases q
            · cases hE
    exact lp _ _ _ _ (zfr_rf hL) (by show s 4 = s 4 + Int32.ofInt 0; rw [show Int32.ofInt 0 = 0 from by decide, Int32.add_zero]) (by decide) (by
      have e0 : (Int32.ofInt 0).toInt = 0 := by decide
      omega) (Nat.lt_succ_self _)
  · exact zEs_end rfl rfl (Or.inr ⟨2, by decide, rfl⟩)
end ZK
end zg14
section zg15
/-! health, by hand: the count of good words is at most 64. -/
section ZK
variable {xs : List Int32} {D nc ns y pc nx k yy m c : Nat} {s : Nat → Int32} {a : Nat → List Int32} {T h : zH} {L : zL} {r : List Value} {P : zO → Prop} {x1 : Int32}
theorem zEs_ddiv {x z : UInt64} (h1 : zat (zmc y) pc = some (.ddiv, nx, k, yy, m, c)) (hf : (FP.ddiv x z) &&& 0x7fffffffffffffff ≤ 0x7ff0000000000000) (g : zEs xs D y nx L (.double (FP.ddiv x z) :: r) h nc ns P) : zEs xs D y pc L (.double z :: .double x :: r) h nc ns P :=
  zEs_step (dc := 0) (ds := 0) h1 (show zbinD FP.ddiv nx L (.double z :: .double x :: r) h = some (.inl (nx, L, .double (FP.ddiv x z) :: r, h, 0, 0)) from if_pos hf) g
theorem zEs_dmul {x z : UInt64} (h1 : zat (zmc y) pc = some (.dmul, nx, k, yy, m, c)) (hf : (FP.dmul x z) &&& 0x7fffffffffffffff ≤ 0x7ff0000000000000) (g : zEs xs D y nx L (.double (FP.dmul x z) :: r) h nc ns P) : zEs xs D y pc L (.double z :: .double x :: r) h nc ns P :=
  zEs_step (dc := 0) (ds := 0) h1 (show zbinD FP.dmul nx L (.double z :: .double x :: r) h = some (.inl (nx, L, .double (FP.dmul x z) :: r, h, 0, 0)) from if_pos hf) g
set_option maxRecDepth 10000
theorem c_75 (hL : zaL a) (hP : ∀ k : Nat, k ≤ 64 → P (.inl (some (.double (FP.ddiv (FP.i2d (Int32.ofNat k)) 4634204016564240384))), zx s a T, nc, ns)) : zEs xs (D + 4) 75 4 [some (.ref 0), some (.int x1), none, none, none] [] (zx s a T) nc ns P := by
  refine zEs_run 4 rfl ?_
  have e64 : ((Int8.ofInt 64).toInt32).toInt = 64 := by decide
  have lp : ∀ (n : Nat) (i : Int32) (j : Nat) (o : Option Value), 0 ≤ i.toInt → (j : Int) ≤ i.toInt → i.toInt ≤ 64 → (((Int8.ofInt 64).toInt32).toInt - i.toInt).toNat < n → zEs xs (D + 4) 75 8 [some (.ref 0), some (.int x1), some (.int (Int32.ofNat j)), some (.int i), o] [] (zx s a T) nc ns P := by
    intro n
    induction n with
    | zero =>
      intro i j o i0 i1 i2 hn
      exact absurd hn (Nat.not_lt_zero _)
    | succ n ih =>
      intro i j o i0 i1 i2 hn
      refine zEs_run 2 rfl ?_
      refine zEs_icmp rfl (fun g => ?_) (fun g => ?_)
      · refine zEs_run 3 rfl ?_
        refine zEs_ddiv rfl (zdd_1 (k := j) (by omega)).1 ?_
        exact zEs_end rfl rfl (hP j (by omega))
      · have g : ¬ (Int8.ofInt 64).toInt32 ≤ i := g
        have hi := zinc_z (Int32.not_le.mp g)
        have z2 := znl_z g
        have J : ∀ (j' : Nat) (o : Option Value), (j' : Int) ≤ i.toInt + 1 → zEs xs (D + 4) 75 50 [some (.ref 0), some (.int x1), some (.int (Int32.ofNat j')), some (.int i), o] [] (zx s a T) nc ns P := by
          intro j' o hj
          refine zEs_run 2 rfl ?_
          exact ih _ _ _ (by omega) (by omega) (by omega) (by omega)
        refine zEs_run 8 rfl ?_
        refine zEs_cb rfl rfl (k_95 hL) (fun E hE => by cases hE) (fun v1 hb1 => ?_)
        refine zEs_if rfl (fun _ => ?_) (fun _ => ?_)
        · exact J _ _ (by omega)
        · refine zEs_run 4 rfl ?_
          refine zEs_ci rfl rfl (k_92 hL) (fun E hE => by cases hE) (fun v2 => ?_)
          refine zEs_cb rfl rfl (k_10 hL) (fun E hE => by cases hE) (fun v3 hb3 => ?_)
          refine zEs_if rfl (fun _ => ?_) (fun _ => ?_)
          · exact J _ _ (by omega)
          · refine zEs_run 1 rfl ?_
            have e : Int32.ofNat j + Int32.ofInt 1 = Int32.ofNat (j + 1) := (nI_succ j).symm
            rw [e]
            exact J _ _ (by omega)
  exact lp _ _ 0 _ (by decide) (by decide) (by decide) (Nat.lt_succ_self _)
theorem k_75 (hL : zaL a) : zMs xs (D + 4) 75 [.ref 0, .int x1] (zx s a T) nc ns (zPr zRh [1] (zx s a T) nc ns) := by
  refine ⟨_, rfl, ?_⟩
  refine zEs_run 1 rfl ?_
  refine zEs_cv rfl rfl (k_83 hL) (fun E hE => ⟨rfl, Or.inr ⟨E, hE, rfl⟩⟩) ?_
  exact c_75 hL (fun k hk => Or.inl ⟨_, ⟨k, hk, rfl⟩, rfl⟩)
theorem kn_75 (hL : zaL a) (hx1 : 0 ≤ x1.toInt ∧ x1.toInt ≤ 1) : zMs xs (D + 4) 75 [.ref 0, .int x1] (zx s a T) nc ns (zPr zRh [] (zx s a T) nc ns) := by
  refine ⟨_, rfl, ?_⟩
  refine zEs_run 1 rfl ?_
  refine zEs_cv rfl rfl (kn_83 hL hx1) (fun E hE => by cases hE) ?_
  exact c_75 hL (fun k hk => Or.inl ⟨_, ⟨k, hk, rfl⟩, rfl⟩)
end ZK
end zg15
section zg16
/-! mixBank and digest. Written by wip/gen/cls.py. -/
section ZK
variable {xs : List Int32} {D nc ns : Nat} {s : Nat → Int32} {a : Nat → List Int32} {T : zH}
set_option maxRecDepth 10000
theorem kn_108 (hL : zaL a) {x1 : Int64} {x2 : Int32} (hx2 : 0 ≤ x2.toInt ∧ x2.toInt ≤ 1) : zMs xs (D + 5) 108 [.ref 0, .long x1, .int x2] (zx s a T) nc ns (zPr zRj [] (zx s a T) nc ns) := by
  obtain ⟨hx2l, hx2u⟩ := hx2
  have hzz := zero_z
  refine ⟨_, rfl, ?_⟩
  have c60 : ∀ (n60 : Nat) (j60_4 : Int64) (i60_6 : Int32) (o60_7 : Option Value) (hz60 : 0 ≤ (i60_6).toInt), (((Int8.ofInt 10).toInt32).toInt - (i60_6).toInt).toNat < n60 → zEs xs (D + 5) 108 60 [some (.ref 0), some (.long x1), none, some (.int x2), some (.long j60_4), none, some (.int i60_6), o60_7] [] (zx s a T) nc ns (zPr zRj [] (zx s a T) nc ns) := by
    intro n60
    induction n60 with
    | zero =>
      intro j60_4 i60_6 o60_7 hz60 hn60
      exact absurd hn60 (Nat.not_lt_zero _)
    | succ n60 ih60 =>
      intro j60_4 i60_6 o60_7 hz60 hn60
      refine zEs_run 2 rfl ?_
      refine zEs_icmp rfl (fun g60 => ?_) (fun g60 => ?_)
      · skip
        refine zEs_run 1 rfl ?_
        exact zEs_end rfl rfl (Or.inl ⟨_, ⟨_, rfl⟩, rfl⟩)
      · skip
        have g60 : ¬ (Int8.ofInt 10).toInt32 ≤ i60_6 := g60
        have z60 := zF_ge_f g60
        have y60 : ((Int8.ofInt 10).toInt32).toInt = 10 := by decide
        have c70 : ∀ (n70 : Nat) (j70_4 : Int64) (i70_7 : Int32) (hz70 : 0 ≤ (i70_7).toInt), (((Int32.ofInt 5)).toInt - (i70_7).toInt).toNat < n70 → zEs xs (D + 5) 108 70 [some (.ref 0), some (.long x1), none, some (.int x2), some (.long j70_4), none, some (.int i60_6), some (.int i70_7)] [] (zx s a T) nc ns (zPr zRj [] (zx s a T) nc ns) := by
          intro n70
          induction n70 with
          | zero =>
            intro j70_4 i70_7 hz70 hn70
            exact absurd hn70 (Nat.not_lt_zero _)
          | succ n70 ih70 =>
            intro j70_4 i70_7 hz70 hn70
            refine zEs_run 2 rfl ?_
            refine zEs_icmp rfl (fun g70 => ?_) (fun g70 => ?_)
            · skip
              refine zEs_run 2 rfl ?_
              exact ih60 _ _ (some (.int _)) (by rw [zinc_z (Int32.not_le.mp g60)]; omega) (Nat.lt_of_lt_of_le (zdec g60) (Nat.le_of_lt_succ hn60))
            · skip
              have g70 : ¬ (Int32.ofInt 5) ≤ i70_7 := g70
              have z70 := zF_ge_f g70
              have y70 : ((Int32.ofInt 5)).toInt = 5 := by decide
              refine zEs_run 5 rfl ?_
              refine zEs_ci rfl rfl (kn_71 hL ⟨by first | omega | decide, by first | omega | decide⟩ ⟨by first | omega | decide, by first | omega | decide⟩ ⟨by first | omega | decide, by first | omega | decide⟩) (fun E hE => by cases hE) (fun v1 => ?_)
              refine zEs_run 1 rfl ?_
              refine zEs_cj rfl rfl (k_107 hL) (fun E hE => by cases hE) (fun v2 => ?_)
              refine zEs_run 3 rfl ?_
              exact ih70 _ _ (by rw [zinc_z (Int32.not_le.mp g70)]; omega) (Nat.lt_of_lt_of_le (zdec g70) (Nat.le_of_lt_succ hn70))
        refine zEs_run 2 rfl ?_
        exact c70 _ _ _ (by decide) (Nat.lt_succ_self _)
  refine zEs_run 4 rfl ?_
  refine zEs_ci rfl rfl (kn_73 hL ⟨by first | omega | decide, by first | omega | decide⟩) (fun E hE => by cases hE) (fun v3 => ?_)
  refine zEs_run 1 rfl ?_
  refine zEs_cj rfl rfl (k_107 hL) (fun E hE => by cases hE) (fun v4 => ?_)
  refine zEs_run 5 rfl ?_
  refine zEs_ci rfl rfl (kn_73 hL ⟨by first | omega | decide, by first | omega | decide⟩) (fun E hE => by cases hE) (fun v5 => ?_)
  refine zEs_run 1 rfl ?_
  refine zEs_cj rfl rfl (k_107 hL) (fun E hE => by cases hE) (fun v6 => ?_)
  refine zEs_run 4 rfl ?_
  refine zEs_ci rfl rfl (kn_78 hL ⟨by first | omega | decide, by first | omega | decide⟩) (fun E hE => by cases hE) (fun v7 => ?_)
  refine zEs_run 1 rfl ?_
  refine zEs_cj rfl rfl (k_107 hL) (fun E hE => by cases hE) (fun v8 => ?_)
  refine zEs_run 5 rfl ?_
  refine zEs_cr rfl rfl (kn_75 hL ⟨by first | omega | decide, by first | omega | decide⟩) (fun E hE => by cases hE) (fun v9 hv9 => ?_)
  obtain ⟨k9, hk9, rfl⟩ := hv9
  refine zEs_dmul rfl (zdd_1 hk9).2 ?_
  refine zEs_run 1 rfl ?_
  refine zEs_cj rfl rfl (k_107 hL) (fun E hE => by cases hE) (fun v10 => ?_)
  refine zEs_run 3 rfl ?_
  exact c60 _ _ _ (none) (by decide) (Nat.lt_succ_self _)
theorem kn_81 (hL : zaL a) (ht : 0 ≤ (s 4).toInt ∧ (s 4).toInt ≤ 2000) : zMs xs (D + 6) 81 [.ref 0] (zx s a T) nc ns (zPo zRj [] [] [5] s a T nc ns) := by
  have hzz := zero_z
  refine ⟨_, rfl, ?_⟩
  have f0 : zfr [] [5] s a s a := zfr_rf hL
  have c223 : ∀ (j223_1 : Int64) (i223_3 : Int32) (o223_4 : Option Value) (t223_0 : Int64) (t223_1 : Int64) (s223 : Nat → Int32) (a223 : Nat → List Int32) (f223 : zfr [] [5] s a s223 a223), zEs xs (D + 6) 81 223 [some (.ref 0), some (.long j223_1), none, some (.int i223_3), o223_4] [.long t223_0, .long t223_1] (zx s223 a223 T) nc ns (zPo zRj [] [] [5] s a T nc ns) := by
    intro j223_1 i223_3 o223_4 t223_0 t223_1 s223 a223 f223
    refine zEs_cj rfl rfl (k_107 f223.2.2) (fun E hE => by cases hE) (fun v1 => ?_)
    exact zEs_end rfl rfl (Or.inl ⟨_, _, _, ⟨_, rfl⟩, f223, rfl⟩)
  have c153 : ∀ (n153 : Nat) (j153_1 : Int64) (i153_3 : Int32) (o153_4 : Option Value) (hz153 : 0 ≤ (i153_3).toInt), (((s 11)).toInt - (i153_3).toInt).toNat < n153 → zEs xs (D + 6) 81 153 [some (.ref 0), some (.long j153_1), none, some (.int i153_3), o153_4] [] (zx s a T) nc ns (zPo zRj [] [] [5] s a T nc ns) := by
    intro n153
    induction n153 with
    | zero =>
      intro j153_1 i153_3 o153_4 hz153 hn153
      exact absurd hn153 (Nat.not_lt_zero _)
    | succ n153 ih153 =>
      intro j153_1 i153_3 o153_4 hz153 hn153
      refine zEs_run 4 rfl ?_
      refine zEs_icmp rfl (fun g153 => ?_) (fun g153 => ?_)
      · skip
        refine zEs_run 3 rfl ?_
        refine zEs_wi rfl rfl (kn_79 hL ht ⟨by first | omega | decide, by first | omega | decide⟩) (fun E hE => by cases hE) (fun v2 s2_ a2_ e2_ => ?_)
        have f2_ : zfr [] [5] s a s2_ a2_ := zfr_tr f0 (zfr_mo e2_ (by decide) (by decide))
        refine zEs_run 1 rfl ?_
        refine zEs_cj rfl rfl (k_107 f2_.2.2) (fun E hE => by cases hE) (fun v3 => ?_)
        refine zEs_run 3 rfl ?_
        refine zEs_cb rfl rfl (k_80 f2_.2.2) (fun E hE => by cases hE) (fun v4 hb4 => ?_)
        refine zEs_if rfl (fun gz215 => ?_) (fun gz215 => ?_)
        · have z6_ := zF_eq_t gz215
          refine zEs_run 1 rfl ?_
          exact c223 _ _ (o153_4) _ _ _ _ f2_
        · have z7_ := zF_eq_f gz215
          refine zEs_run 2 rfl ?_
          exact c223 _ _ (o153_4) _ _ _ _ f2_
      · skip
        have g153 : ¬ (s 11) ≤ i153_3 := g153
        have z153 := zF_ge_f g153
        have c167 : ∀ (n167 : Nat) (j167_1 : Int64) (i167_4 : Int32) (hz167 : 0 ≤ (i167_4).toInt), (((Int32.ofInt 3)).toInt - (i167_4).toInt).toNat < n167 → zEs xs (D + 6) 81 167 [some (.ref 0), some (.long j167_1), none, some (.int i153_3), some (.int i167_4)] [] (zx s a T) nc ns (zPo zRj [] [] [5] s a T nc ns) := by
          intro n167
          induction n167 with
          | zero =>
            intro j167_1 i167_4 hz167 hn167
            exact absurd hn167 (Nat.not_lt_zero _)
          | succ n167 ih167 =>
            intro j167_1 i167_4 hz167 hn167
            refine zEs_run 2 rfl ?_
            refine zEs_icmp rfl (fun g167 => ?_) (fun g167 => ?_)
            · skip
              refine zEs_run 2 rfl ?_
              exact ih153 _ _ (some (.int _)) (by rw [zinc_z (Int32.not_le.mp g153)]; omega) (Nat.lt_of_lt_of_le (zdec g153) (Nat.le_of_lt_succ hn153))
            · skip
              have g167 : ¬ (Int32.ofInt 3) ≤ i167_4 := g167
              have z167 := zF_ge_f g167
              have y167 : ((Int32.ofInt 3)).toInt = 3 := by decide
              refine zEs_run 4 rfl ?_
              refine zEs_ci rfl rfl (kn_72 hL ⟨by first | omega | decide, by first | omega | decide⟩ ⟨by first | omega | decide, by first | omega | decide⟩) (fun E hE => by cases hE) (fun v8 => ?_)
              refine zEs_run 1 rfl ?_
              refine zEs_cj rfl rfl (k_107 hL) (fun E hE => by cases hE) (fun v9 => ?_)
              refine zEs_run 3 rfl ?_
              exact ih167 _ _ (by rw [zinc_z (Int32.not_le.mp g167)]; omega) (Nat.lt_of_lt_of_le (zdec g167) (Nat.le_of_lt_succ hn167))
        refine zEs_run 2 rfl ?_
        exact c167 _ _ _ (by decide) (Nat.lt_succ_self _)
  have c103 : ∀ (n103 : Nat) (j103_1 : Int64) (i103_3 : Int32) (hz103 : 0 ≤ (i103_3).toInt), (((Int16.ofInt 128).toInt32).toInt - (i103_3).toInt).toNat < n103 → zEs xs (D + 6) 81 103 [some (.ref 0), some (.long j103_1), none, some (.int i103_3), none] [] (zx s a T) nc ns (zPo zRj [] [] [5] s a T nc ns) := by
    intro n103
    induction n103 with
    | zero =>
      intro j103_1 i103_3 hz103 hn103
      exact absurd hn103 (Nat.not_lt_zero _)
    | succ n103 ih103 =>
      intro j103_1 i103_3 hz103 hn103
      refine zEs_run 2 rfl ?_
      refine zEs_icmp rfl (fun g103 => ?_) (fun g103 => ?_)
      · skip
        refine zEs_run 2 rfl ?_
        exact c153 _ _ _ (none) (by decide) (Nat.lt_succ_self _)
      · skip
        have g103 : ¬ (Int16.ofInt 128).toInt32 ≤ i103_3 := g103
        have z103 := zF_ge_f g103
        have y103 : ((Int16.ofInt 128).toInt32).toInt = 128 := by decide
        refine zEs_run 4 rfl ?_
        refine zEs_ci rfl rfl (kn_70 hL ⟨by first | omega | decide, by first | omega | decide⟩ ⟨by first | omega | decide, by first | omega | decide⟩) (fun E hE => by cases hE) (fun v10 => ?_)
        refine zEs_run 1 rfl ?_
        refine zEs_cj rfl rfl (k_107 hL) (fun E hE => by cases hE) (fun v11 => ?_)
        refine zEs_run 5 rfl ?_
        refine zEs_ci rfl rfl (kn_70 hL ⟨by first | omega | decide, by first | omega | decide⟩ ⟨by first | omega | decide, by first | omega | decide⟩) (fun E hE => by cases hE) (fun v12 => ?_)
        refine zEs_run 1 rfl ?_
        refine zEs_cj rfl rfl (k_107 hL) (fun E hE => by cases hE) (fun v13 => ?_)
        refine zEs_run 4 rfl ?_
        refine zEs_ci rfl rfl (kn_77 hL ⟨by first | omega | decide, by first | omega | decide⟩) (fun E hE => by cases hE) (fun v14 => ?_)
        refine zEs_run 1 rfl ?_
        refine zEs_cj rfl rfl (k_107 hL) (fun E hE => by cases hE) (fun v15 => ?_)
        refine zEs_run 3 rfl ?_
        exact ih103 _ _ (by rw [zinc_z (Int32.not_le.mp g103)]; omega) (Nat.lt_of_lt_of_le (zdec g103) (Nat.le_of_lt_succ hn103))
  have c83 : ∀ (n83 : Nat) (j83_1 : Int64) (i83_3 : Int32) (hz83 : 0 ≤ (i83_3).toInt), (((Int32.ofInt 2)).toInt - (i83_3).toInt).toNat < n83 → zEs xs (D + 6) 81 83 [some (.ref 0), some (.long j83_1), none, some (.int i83_3), none] [] (zx s a T) nc ns (zPo zRj [] [] [5] s a T nc ns) := by
    intro n83
    induction n83 with
    | zero =>
      intro j83_1 i83_3 hz83 hn83
      exact absurd hn83 (Nat.not_lt_zero _)
    | succ n83 ih83 =>
      intro j83_1 i83_3 hz83 hn83
      refine zEs_run 2 rfl ?_
      refine zEs_icmp rfl (fun g83 => ?_) (fun g83 => ?_)
      · skip
        refine zEs_run 2 rfl ?_
        exact c103 _ _ _ (by decide) (Nat.lt_succ_self _)
      · skip
        have g83 : ¬ (Int32.ofInt 2) ≤ i83_3 := g83
        have z83 := zF_ge_f g83
        have y83 : ((Int32.ofInt 2)).toInt = 2 := by decide
        refine zEs_run 3 rfl ?_
        refine zEs_cj rfl rfl (kn_108 hL ⟨by first | omega | decide, by first | omega | decide⟩) (fun E hE => by cases hE) (fun v16 => ?_)
        refine zEs_run 3 rfl ?_
        exact ih83 _ _ (by rw [zinc_z (Int32.not_le.mp g83)]; omega) (Nat.lt_of_lt_of_le (zdec g83) (Nat.le_of_lt_succ hn83))
  have c31 : ∀ (n31 : Nat) (j31_1 : Int64) (i31_3 : Int32) (hz31 : 0 ≤ (i31_3).toInt), (((s 2)).toInt - (i31_3).toInt).toNat < n31 → zEs xs (D + 6) 81 31 [some (.ref 0), some (.long j31_1), none, some (.int i31_3), none] [] (zx s a T) nc ns (zPo zRj [] [] [5] s a T nc ns) := by
    intro n31
    induction n31 with
    | zero =>
      intro j31_1 i31_3 hz31 hn31
      exact absurd hn31 (Nat.not_lt_zero _)
    | succ n31 ih31 =>
      intro j31_1 i31_3 hz31 hn31
      refine zEs_run 4 rfl ?_
      refine zEs_icmp rfl (fun g31 => ?_) (fun g31 => ?_)
      · skip
        refine zEs_run 3 rfl ?_
        refine zEs_ci rfl rfl (kn_69 hL ⟨by first | omega | decide, by first | omega | decide⟩) (fun E hE => by cases hE) (fun v17 => ?_)
        refine zEs_run 1 rfl ?_
        refine zEs_cj rfl rfl (k_107 hL) (fun E hE => by cases hE) (fun v18 => ?_)
        refine zEs_run 4 rfl ?_
        refine zEs_ci rfl rfl (kn_69 hL ⟨by first | omega | decide, by first | omega | decide⟩) (fun E hE => by cases hE) (fun v19 => ?_)
        refine zEs_run 1 rfl ?_
        refine zEs_cj rfl rfl (k_107 hL) (fun E hE => by cases hE) (fun v20 => ?_)
        refine zEs_run 3 rfl ?_
        exact c83 _ _ _ (by decide) (Nat.lt_succ_self _)
      · skip
        have g31 : ¬ (s 2) ≤ i31_3 := g31
        have z31 := zF_ge_f g31
        refine zEs_run 3 rfl ?_
        refine zEs_ci rfl rfl (kn_66 hL ⟨by first | omega | decide, by first | omega | decide⟩) (fun E hE => by cases hE) (fun v21 => ?_)
        refine zEs_run 1 rfl ?_
        refine zEs_cj rfl rfl (k_107 hL) (fun E hE => by cases hE) (fun v22 => ?_)
        refine zEs_run 3 rfl ?_
        exact ih31 _ _ (by rw [zinc_z (Int32.not_le.mp g31)]; omega) (Nat.lt_of_lt_of_le (zdec g31) (Nat.le_of_lt_succ hn31))
  have c6 : ∀ (n6 : Nat) (j6_1 : Int64) (i6_3 : Int32) (hz6 : 0 ≤ (i6_3).toInt), (((Int8.ofInt 18).toInt32).toInt - (i6_3).toInt).toNat < n6 → zEs xs (D + 6) 81 6 [some (.ref 0), some (.long j6_1), none, some (.int i6_3), none] [] (zx s a T) nc ns (zPo zRj [] [] [5] s a T nc ns) := by
    intro n6
    induction n6 with
    | zero =>
      intro j6_1 i6_3 hz6 hn6
      exact absurd hn6 (Nat.not_lt_zero _)
    | succ n6 ih6 =>
      intro j6_1 i6_3 hz6 hn6
      refine zEs_run 2 rfl ?_
      refine zEs_icmp rfl (fun g6 => ?_) (fun g6 => ?_)
      · skip
        refine zEs_run 2 rfl ?_
        exact c31 _ _ _ (by decide) (Nat.lt_succ_self _)
      · skip
        have g6 : ¬ (Int8.ofInt 18).toInt32 ≤ i6_3 := g6
        have z6 := zF_ge_f g6
        have y6 : ((Int8.ofInt 18).toInt32).toInt = 18 := by decide
        refine zEs_run 3 rfl ?_
        refine zEs_ci rfl rfl (kn_74 hL ⟨by first | omega | decide, by first | omega | decide⟩) (fun E hE => by cases hE) (fun v23 => ?_)
        refine zEs_run 1 rfl ?_
        refine zEs_cj rfl rfl (k_107 hL) (fun E hE => by cases hE) (fun v24 => ?_)
        refine zEs_run 3 rfl ?_
        exact ih6 _ _ (by rw [zinc_z (Int32.not_le.mp g6)]; omega) (Nat.lt_of_lt_of_le (zdec g6) (Nat.le_of_lt_succ hn6))
  refine zEs_run 4 rfl ?_
  exact c6 _ _ _ (by decide) (Nat.lt_succ_self _)
end ZK
end zg16
section zg17
/-! Texts: a StringBuilder at the end of the heap, appended to at most 15 times, and its String. -/
section ZTX
variable {xs : List Int32} {D nc ns y pc nx k yy m c : Nat} {h H : zH} {L : zL} {r : List Value} {P : zO → Prop}
theorem zEs_put {a kd t : Nat} {vs : List Value} {v : Value} {j : Nat} (h1 : zat (zmc y) pc = some (.putfield j, nx, k, yy, m, c)) (ha : h[a]? = some (t, vs)) (hf : (zcf t)[k]? = some (yy, kd)) (hv : zfdk kd v = true) (hk : k < vs.length) (g : zEs xs D y nx L r (h.set a (t, vs.set k v)) nc ns P) : zEs xs D y pc L (v :: .ref a :: r) h nc ns P := by
  refine zEs_step (dc := 0) (ds := 0) h1 ?_ g
  show zput zcf yy k nx L (v :: .ref a :: r) h = _
  unfold zput
  dsimp only
  rw [ha]
  dsimp only
  rw [hf]
  dsimp only
  rw [if_pos rfl, if_pos hv, if_pos hk]
  rfl
theorem zEs_bast {j v : Int32} {a : Nat} {bs : List Value} (h1 : zat (zmc y) pc = some (.bastore, nx, 102, yy, m, c)) (ha : h[a]? = some (102, bs)) (hj : ¬ j < 0) (hl : j.toNatClampNeg < bs.length) (g : zEs xs D y nx L r (h.set a (102, bs.set j.toNatClampNeg (.int v.toInt8.toInt32))) nc ns P) : zEs xs D y pc L (.int v :: .int j :: .ref a :: r) h nc ns P := by
  refine zEs_step (dc := 0) (ds := 0) h1 ?_ g
  show zast 102 (fun x => some x.toInt8.toInt32) nx L (.int v :: .int j :: .ref a :: r) h = _
  unfold zast
  dsimp only
  rw [ha]
  dsimp only
  rw [if_pos rfl, if_neg hj, if_pos hl]
  rfl
/-- a call on an object: the receiver's cell by a fact -/
theorem zcallV_eq {n c y nx a : Nat} {as' : List Value} {r st : List Value} {vs : List Value} {h : zH} (hp : ztk (n + 1) [] st = some (.ref a :: as', r)) (ha : h[a]? = some (c, vs)) (hc : zcs r ≤ 8) : zcallV n c y nx st h = some (.inr (.inl (y, .ref a :: as', r, nx))) := by
  unfold zcallV
  rw [hp]
  dsimp only
  rw [ha]
  dsimp only
  rw [if_pos rfl, if_pos hc]
theorem zq0 {x z : Nat × List Value} : (H ++ [x, z])[H.length]? = some x := by
  rw [List.getElem?_append_right (Nat.le_refl _), Nat.sub_self]
  rfl
theorem zq1 {x z : Nat × List Value} : (H ++ [x, z])[H.length + 1]? = some z := by
  rw [List.getElem?_append_right (by omega), Nat.add_sub_cancel_left]
  rfl
theorem zs0 {x z w : Nat × List Value} : (H ++ [x, z]).set H.length w = H ++ [w, z] := by
  rw [List.set_append_right _ _ (Nat.le_refl _), Nat.sub_self]
  rfl
theorem zs1 {x z w : Nat × List Value} : (H ++ [x, z]).set (H.length + 1) w = H ++ [x, w] := by
  rw [List.set_append_right _ _ (by omega), Nat.add_sub_cancel_left]
  rfl
/-- the builder with c characters -/
def zsb (H : zH) (c : Nat) (ml : Value) (bs : List Value) : zH := H ++ [(8, [.ref (H.length + 1), .int 0, ml, .int (Int32.ofNat c)]), (102, bs)]
variable {ml : Value} {bs : List Value} {n : Nat}
theorem zsb0 : (zsb H n ml bs)[H.length]? = some (8, [.ref (H.length + 1), .int 0, ml, .int (Int32.ofNat n)]) := zq0
theorem zsb1 : (zsb H n ml bs)[H.length + 1]? = some (102, bs) := zq1
set_option maxRecDepth 10000
theorem m_227 : zMs xs (D + 0) 227 [.ref H.length] (zsb H n ml bs) nc ns (zPr (fun v => v = some (.int 1)) [] (zsb H n ml bs) nc ns) := by
  refine ⟨_, rfl, ?_⟩
  refine zEs_run 1 rfl ?_
  refine zEs_if rfl (fun g => absurd (show (1 : Int32) = 0 from g) (by decide)) (fun _ => ?_)
  refine zEs_run 1 rfl ?_
  refine zEs_get rfl zsb0 rfl rfl ?_
  refine zEs_if rfl (fun g => absurd rfl (show ¬ (0 : Int32) = 0 from g)) (fun _ => ?_)
  refine zEs_run 2 rfl ?_
  exact zEs_bret rfl (Or.inr rfl) (Or.inl ⟨_, rfl, rfl⟩)
theorem zcap : (List.range 16).all (fun n => decide (Int32.ofNat n + Int32.ofInt 1 - (Int32.ofNat 16 >>> ((0 : Int32) &&& 31)) ≤ 0)) = true := by decide +kernel
theorem m_224 (hb : bs.length = 16) (hn : n < 16) : zMs xs (D + 0) 224 [.ref H.length, .int (Int32.ofNat n + Int32.ofInt 1)] (zsb H n ml bs) nc ns (zPr zRv [] (zsb H n ml bs) nc ns) := by
  refine ⟨_, rfl, ?_⟩
  refine zEs_run 1 rfl ?_
  refine zEs_get rfl zsb0 rfl rfl ?_
  refine zEs_alen rfl zsb1 (by decide) ?_
  rw [hb]
  refine zEs_run 1 rfl ?_
  refine zEs_get rfl zsb0 rfl rfl ?_
  refine zEs_run 5 rfl ?_
  refine zEs_if rfl (fun _ => ?_) (fun g => ?_)
  · exact zEs_end rfl rfl (Or.inl ⟨_, rfl, rfl⟩)
  · have h9 := of_decide_eq_true (List.all_eq_true.mp zcap n (List.mem_range.mpr hn))
    exact absurd h9 g
theorem m_218 {x : Int32} (hx : x = 120 ∨ x = 112 ∨ x = 46 ∨ x = 109 ∨ x = 66) : zMs xs (D + 0) 218 [.int x] h nc ns (zPr (fun v => v = some (.int 1)) [] h nc ns) := by
  refine ⟨_, rfl, ?_⟩
  refine zEs_run 2 rfl ?_
  refine zEs_icmp rfl (fun g => ?_) (fun _ => ?_)
  · have g : (Int16.ofInt 255).toInt32 < x := g
    exfalso
    rcases hx with rfl | rfl | rfl | rfl | rfl <;> exact absurd g (by decide)
  · refine zEs_run 2 rfl ?_
    exact zEs_bret rfl (Or.inr rfl) (Or.inl ⟨_, rfl, rfl⟩)
theorem znat16 (hn : n < 16) : ¬ Int32.ofNat n < 0 ∧ (Int32.ofNat n).toNatClampNeg = n := by
  have e : (Int32.ofNat n).toInt = (n : Int) := Int32.toInt_ofNat_of_lt (by omega)
  constructor
  · intro g
    have g := zlt_z g
    rw [e, zero_z] at g
    omega
  · show (Int32.ofNat n).toInt.toNat = n
    rw [e]
    rfl
theorem m_223 {x : Int32} (hb : bs.length = 16) (hn : n < 16) (hx : x = 120 ∨ x = 112 ∨ x = 46 ∨ x = 109 ∨ x = 66) : zMs xs (D + 1) 223 [.ref H.length, .int x] (zsb H n ml bs) nc ns (fun o => o = (.inl (some (.ref H.length)), zsb H (n + 1) ml (bs.set n (.int x.toInt8.toInt32)), nc, ns)) := by
  refine ⟨_, rfl, ?_⟩
  refine zEs_run 2 rfl ?_
  refine zEs_get rfl zsb0 rfl rfl ?_
  refine zEs_run 2 rfl ?_
  refine zEs_cv rfl (show zcallV 1 8 224 10 [.int (Int32.ofNat n + Int32.ofInt 1), .ref H.length] (zsb H n ml bs) = _ from zcallV_eq rfl zsb0 (by decide)) (m_224 hb hn) (fun E hE => by cases hE) ?_
  refine zEs_run 1 rfl ?_
  refine zEs_cr rfl (show zcallV 0 8 227 14 [.ref H.length] (zsb H n ml bs) = _ from zcallV_eq rfl zsb0 (by decide)) m_227 (fun E hE => by cases hE) (fun v hv => ?_)
  cases (show v = _ from hv)
  refine zEs_if rfl (fun g => absurd (show (1 : Int32) = 0 from g) (by decide)) (fun _ => ?_)
  refine zEs_run 1 rfl ?_
  refine zEs_cr rfl rfl (m_218 hx) (fun E hE => by cases hE) (fun v hv => ?_)
  cases (show v = _ from hv)
  refine zEs_if rfl (fun g => absurd (show (1 : Int32) = 0 from g) (by decide)) (fun _ => ?_)
  refine zEs_run 1 rfl ?_
  refine zEs_get rfl zsb0 rfl rfl ?_
  refine zEs_run 2 rfl ?_
  refine zEs_get rfl zsb0 rfl rfl ?_
  refine zEs_run 3 rfl ?_
  refine zEs_put rfl zsb0 rfl rfl (by show 3 < 4; omega) ?_
  have e1 : (zsb H n ml bs).set H.length (8, [Value.ref (H.length + 1), Value.int 0, ml, Value.int (Int32.ofNat n)].set 3 (Value.int (Int32.ofNat n + Int32.ofInt 1))) = zsb H (n + 1) ml bs := by
    have e2 : Int32.ofNat n + Int32.ofInt 1 = Int32.ofNat (n + 1) := (nI_succ n).symm
    rw [e2]
    exact zs0
  rw [e1]
  refine zEs_run 2 rfl ?_
  obtain ⟨g1, g2⟩ := znat16 hn
  refine zEs_bast rfl zsb1 g1 (by rw [g2, hb]; exact hn) ?_
  rw [g2, show (zsb H (n + 1) ml bs).set (H.length + 1) (102, bs.set n (.int (x.toInt8.toInt32).toInt8.toInt32)) = zsb H (n + 1) ml (bs.set n (.int (x.toInt8.toInt32).toInt8.toInt32)) from zs1]
  refine zEs_run 2 rfl ?_
  refine zEs_end rfl rfl ?_
  rw [show (x.toInt8.toInt32).toInt8.toInt32 = x.toInt8.toInt32 from by rcases hx with rfl | rfl | rfl | rfl | rfl <;> decide]
  rfl
theorem m_220 {x : Int32} (hb : bs.length = 16) (hn : n < 16) (hx : x = 120 ∨ x = 112 ∨ x = 46 ∨ x = 109 ∨ x = 66) : zMs xs (D + 2) 220 [.ref H.length, .int x] (zsb H n ml bs) nc ns (fun o => o = (.inl (some (.ref H.length)), zsb H (n + 1) ml (bs.set n (.int x.toInt8.toInt32)), nc, ns)) := by
  refine ⟨_, rfl, ?_⟩
  refine zEs_run 2 rfl ?_
  refine zEs_callG rfl (show zcallV 1 8 223 5 [.int x, .ref H.length] (zsb H n ml bs) = _ from zcallV_eq rfl zsb0 (by decide)) (m_223 hb hn hx) (fun v h1 nc1 ns1 q => ?_) (fun E h1 nc1 ns1 q => by cases q)
  cases q
  refine zEs_run 2 rfl ?_
  exact zEs_end rfl rfl rfl
end ZTX
end zg17
section zg18
/-! Texts: new StringBuilder(), toString(). -/
section ZTX
variable {xs : List Int32} {D nc ns y pc nx k yy m c : Nat} {h H U : zH} {L : zL} {r : List Value} {P : zO → Prop}
theorem zqj {j : Nat} : (H ++ U)[H.length + j]? = U[j]? := by
  rw [List.getElem?_append_right (by omega), Nat.add_sub_cancel_left]
theorem zsj {j : Nat} {w : Nat × List Value} : (H ++ U).set (H.length + j) w = H ++ U.set j w := by
  rw [List.set_append_right _ _ (by omega), Nat.add_sub_cancel_left]
theorem zsj0 {w : Nat × List Value} : (H ++ U).set H.length w = H ++ U.set 0 w := zsj (j := 0)
theorem zlen1 {x : Nat × List Value} : List.length (H ++ [x]) = List.length H + 1 := by simp
theorem zEs_newa {t : ArrayType} {n : Int32} (h1 : zat (zmc y) pc = some (.newarray t, nx, k, yy, m, c)) (hn : ¬ n < 0) (hN : n.toNatClampNeg ≤ 100000) (ht : ¬ ztag t = 99) (g : zEs xs D y nx L (.ref h.length :: r) (h ++ [(ztag t, List.replicate n.toNatClampNeg (.int 0))]) (nc + 1) (ns + n.toNatClampNeg) P) : zEs xs D y pc L (.int n :: r) h nc ns P := by
  refine zEs_step (dc := 1) (ds := n.toNatClampNeg) h1 ?_ g
  show znewa (ztag t) (.int 0) nx L (.int n :: r) h = _
  unfold znewa
  dsimp only
  rw [if_neg hn, if_pos hN, if_neg ht]
theorem zEs_copyb {a d : Nat} {vs ws : List Value} {n : Int32} {j yy c m : Nat} (h1 : zat (zmc y) pc = some (.invokestatic j, nx, 10, yy, m, c)) (ha : h[a]? = some (102, vs)) (hd : h[d]? = some (102, ws)) (hb : (vs.take n.toNatClampNeg).all zbyt = true) (hr : zcs r ≤ 8) (hn : ¬ n < 0) (hv : n.toNatClampNeg ≤ vs.length) (hw : n.toNatClampNeg ≤ ws.length) (g : zEs xs D y nx L r (h.set d (102, vs.take n.toNatClampNeg ++ ws.drop n.toNatClampNeg)) nc ns P) : zEs xs D y pc L (.int n :: .int 0 :: .ref d :: .int 0 :: .ref a :: r) h nc ns P := by
  refine zEs_step (dc := 0) (ds := 0) h1 ?_ g
  show zcopy nx L (.int n :: .int 0 :: .ref d :: .int 0 :: .ref a :: r) h = _
  unfold zcopy
  dsimp only
  rw [ha, hd]
  exact if_pos ⟨rfl, Or.inl ⟨rfl, hb⟩, hr, hn, rfl, rfl, hv, hw⟩
set_option maxRecDepth 10000
theorem m_226 : zMs xs (D + 0) 226 [.ref H.length, .int (Int8.ofInt 16).toInt32] (H ++ [(8, [.null, .int 0, .int 0, .int 0])]) nc ns (fun o => o = (.inl none, zsb H 0 (.int 0) (List.replicate 16 (.int 0)), nc + 1, ns + 16)) := by
  refine ⟨_, rfl, ?_⟩
  refine zEs_run 3 rfl ?_
  refine zEs_if rfl (fun g => absurd (show (1 : Int32) = 0 from g) (by decide)) (fun _ => ?_)
  refine zEs_run 2 rfl ?_
  refine zEs_newa rfl (by decide) (by decide) (by decide) ?_
  rw [zlen1, List.append_assoc]
  refine zEs_put rfl (zqj (j := 0)) rfl rfl (by show 0 < 4; omega) ?_
  rw [zsj0]
  refine zEs_run 2 rfl ?_
  refine zEs_put rfl (zqj (j := 0)) rfl rfl (by show 1 < 4; omega) ?_
  rw [zsj0]
  refine zEs_run 1 rfl ?_
  exact zEs_end rfl rfl rfl
theorem m_221 : zMs xs (D + 1) 221 [.ref H.length] (H ++ [(8, [.null, .int 0, .int 0, .int 0])]) nc ns (fun o => o = (.inl none, zsb H 0 (.int 0) (List.replicate 16 (.int 0)), nc + 1, ns + 16)) := by
  refine ⟨_, rfl, ?_⟩
  refine zEs_run 2 rfl ?_
  refine zEs_callG rfl rfl m_226 (fun v h1 nc1 ns1 q => ?_) (fun E h1 nc1 ns1 q => by cases q)
  cases q
  exact zEs_end rfl rfl rfl
end ZTX
end zg18
section zg19
/-! toString. -/
section ZTX
variable {xs : List Int32} {D nc ns a b n : Nat} {h H U : zH} {P : zO → Prop} {ml : Value} {bs : List Value}
theorem zsub0 {x : Int32} : x - Int32.ofInt 0 = x := by
  rw [show Int32.ofInt 0 = 0 from by decide, Int32.sub_zero]
theorem znz16 (hn : n < 16) : (Int32.ofNat n).toInt = (n : Int) := Int32.toInt_ofNat_of_lt (by omega)
set_option maxRecDepth 10000
theorem g_225 (h0 : h[a]? = some (8, [.ref b, .int 0, ml, .int (Int32.ofNat n)])) : zMs xs (D + 0) 225 [.ref a] h nc ns (fun o => o = (.inl (some (.ref b)), h, nc, ns)) := by
  refine ⟨_, rfl, ?_⟩
  refine zEs_run 1 rfl ?_
  refine zEs_get rfl h0 rfl rfl ?_
  exact zEs_end rfl rfl rfl
theorem g_228 (h0 : h[a]? = some (8, [.ref b, .int 0, ml, .int (Int32.ofNat n)])) : zMs xs (D + 0) 228 [.ref a] h nc ns (fun o => o = (.inl (some (.int (Int32.ofNat n))), h, nc, ns)) := by
  refine ⟨_, rfl, ?_⟩
  refine zEs_run 1 rfl ?_
  refine zEs_get rfl h0 rfl rfl ?_
  exact zEs_end rfl rfl rfl
theorem g_246 (h0 : h[a]? = some (8, [.ref b, .int 0, ml, .int (Int32.ofNat n)])) : zMs xs (D + 1) 246 [.ref a] h nc ns (fun o => o = (.inl (some (.int (Int32.ofNat n))), h, nc, ns)) := by
  refine ⟨_, rfl, ?_⟩
  refine zEs_run 1 rfl ?_
  refine zEs_callG rfl (show zcallV 0 8 228 4 [.ref a] h = _ from zcallV_eq rfl h0 (by decide)) (g_228 h0) (fun v h1 nc1 ns1 q => ?_) (fun E h1 nc1 ns1 q => by cases q)
  cases q
  exact zEs_end rfl rfl rfl
theorem g_227 (h0 : h[a]? = some (8, [.ref b, .int 0, ml, .int (Int32.ofNat n)])) : zMs xs (D + 0) 227 [.ref a] h nc ns (fun o => o = (.inl (some (.int 1)), h, nc, ns)) := by
  refine ⟨_, rfl, ?_⟩
  refine zEs_run 1 rfl ?_
  refine zEs_if rfl (fun g => absurd (show (1 : Int32) = 0 from g) (by decide)) (fun _ => ?_)
  refine zEs_run 1 rfl ?_
  refine zEs_get rfl h0 rfl rfl ?_
  refine zEs_if rfl (fun g => absurd rfl (show ¬ (0 : Int32) = 0 from g)) (fun _ => ?_)
  refine zEs_run 2 rfl ?_
  exact zEs_bret rfl (Or.inr rfl) rfl
theorem g_230 (hn : n < 16) : zMs xs (D + 0) 230 [.int (Int32.ofInt 0), .int (Int32.ofNat n)] h nc ns (fun o => o = (.inl none, h, nc, ns)) := by
  refine ⟨_, rfl, ?_⟩
  refine zEs_run 2 rfl ?_
  refine zEs_icmp rfl (fun _ => ?_) (fun g => ?_)
  · exact zEs_end rfl rfl rfl
  · have z := zF_ge_f g
    rw [znz16 hn, show (Int32.ofInt 0).toInt = 0 from by decide] at z
    exfalso
    omega
theorem g_231 (hb0 : h[b]? = some (102, bs)) (hb : bs.length = 16) (hn : n < 16) (hz : (bs.take n).all zbyt = true) : zMs xs (D + 1) 231 [.ref b, .int (Int32.ofInt 0), .int (Int32.ofNat n)] h nc ns (fun o => o = (.inl (some (.ref h.length)), h ++ [(102, bs.take n)], nc + 1, ns + n)) := by
  obtain ⟨q1, q2⟩ := znat16 hn
  have hbl : b < h.length := (List.getElem?_eq_some_iff.mp hb0).1
  refine ⟨_, rfl, ?_⟩
  refine zEs_run 2 rfl ?_
  refine zEs_callG rfl rfl (g_230 hn) (fun v h1 nc1 ns1 q => ?_) (fun E h1 nc1 ns1 q => by cases q)
  cases q
  refine zEs_run 5 rfl ?_
  rw [show (fun x y : Int32 => x - y) (Int32.ofNat n) (Int32.ofInt 0) = Int32.ofNat n from zsub0]
  refine zEs_newa rfl q1 (by rw [q2]; omega) (by decide) ?_
  rw [q2]
  refine zEs_run 6 rfl ?_
  refine zEs_alen rfl (show (h ++ [(102, List.replicate n (Value.int 0))])[b]? = some (102, bs) from by rw [List.getElem?_append_left hbl]; exact hb0) (by decide) ?_
  rw [hb]
  refine zEs_run 4 rfl ?_
  have e : (if Int32.ofNat n < (fun x y : Int32 => x - y) (Int32.ofNat 16) (Int32.ofInt 0) then Int32.ofNat n else (fun x y : Int32 => x - y) (Int32.ofNat 16) (Int32.ofInt 0)) = Int32.ofNat n := by
    rw [show (fun x y : Int32 => x - y) (Int32.ofNat 16) (Int32.ofInt 0) = Int32.ofNat 16 from zsub0]
    rw [if_pos]
    rw [Int32.lt_iff_toInt_lt, znz16 hn, show (Int32.ofNat 16).toInt = 16 from by decide]
    omega
  rw [show (fun x y : Int32 => if y < x then y else x) ((fun x y : Int32 => x - y) (Int32.ofNat 16) (Int32.ofInt 0)) (Int32.ofNat n) = Int32.ofNat n from e]
  refine zEs_copyb rfl (show (h ++ [(102, List.replicate n (Value.int 0))])[b]? = some (102, bs) from by rw [List.getElem?_append_left hbl]; exact hb0) (show (h ++ [(102, List.replicate n (Value.int 0))])[h.length]? = some (102, List.replicate n (Value.int 0)) from by rw [List.getElem?_append_right (Nat.le_refl _), Nat.sub_self]; rfl) (by rw [q2]; exact hz) (by decide) q1 (by rw [q2]; omega) (by rw [q2]; simp) ?_
  rw [q2, show List.drop n (List.replicate n (Value.int 0)) = [] from by simp, List.append_nil (List.take n bs), show (h ++ [(ztag ArrayType.byte, List.replicate n (Value.int 0))]).set h.length (102, bs.take n) = h ++ [(102, bs.take n)] from by rw [List.set_append_right _ _ (Nat.le_refl _), Nat.sub_self]; rfl]
  refine zEs_run 1 rfl ?_
  exact zEs_end rfl rfl rfl
theorem g_232 (hb0 : h[b]? = some (102, bs)) (hb : bs.length = 16) (hn : n < 16) (hz : (bs.take n).all zbyt = true) : zMs xs (D + 2) 232 [.ref b, .int (Int32.ofInt 0), .int (Int32.ofNat n)] h nc ns (fun o => o = (.inl (some (.ref h.length)), h ++ [(102, bs.take n)], nc + 1, ns + n)) := by
  refine ⟨_, rfl, ?_⟩
  refine zEs_run 1 rfl ?_
  refine zEs_if rfl (fun g => absurd (show Int32.ofInt 0 = 0 from by decide) (show ¬ Int32.ofInt 0 = 0 from g)) (fun _ => ?_)
  refine zEs_run 2 rfl ?_
  refine zEs_alen rfl hb0 (by decide) ?_
  rw [hb]
  refine zEs_icmp rfl (fun g => ?_) (fun _ => ?_)
  · have z := zF_eq_t g
    rw [znz16 hn, show (Int32.ofNat 16).toInt = 16 from by decide] at z
    exfalso
    omega
  · refine zEs_run 3 rfl ?_
    refine zEs_callG rfl rfl (g_231 hb0 hb hn hz) (fun v h1 nc1 ns1 q => ?_) (fun E h1 nc1 ns1 q => by cases q)
    cases q
    exact zEs_end rfl rfl rfl
/-- toString of the builder at the end of the heap: two cells more -/
theorem m_222 (hb : bs.length = 16) (hn : n < 16) (hz : (bs.take n).all zbyt = true) : zMs xs (D + 5) 222 [.ref H.length] (zsb H n ml bs) nc ns (fun o => ∃ U, o = (.inl (some (.ref (H.length + 2))), H ++ U, nc + 2, ns + (4 + n))) := by
  have h0 : (H ++ [((8 : Nat), [Value.ref (H.length + 1), Value.int 0, ml, Value.int (Int32.ofNat n)]), (102, bs), (9, [Value.null, Value.int 0, Value.int 0, Value.int 0])])[H.length]? = some (8, [Value.ref (H.length + 1), Value.int 0, ml, Value.int (Int32.ofNat n)]) := zqj (j := 0)
  have h1 : (H ++ [((8 : Nat), [Value.ref (H.length + 1), Value.int 0, ml, Value.int (Int32.ofNat n)]), (102, bs), (9, [Value.null, Value.int 0, Value.int 0, Value.int 0])])[H.length + 1]? = some (102, bs) := zqj (j := 1)
  have h2 : (H ++ [((8 : Nat), [Value.ref (H.length + 1), Value.int 0, ml, Value.int (Int32.ofNat n)]), (102, bs), (9, [Value.null, Value.int 0, Value.int 0, Value.int 0])])[H.length + 2]? = some (9, [Value.null, Value.int 0, Value.int 0, Value.int 0]) := zqj (j := 2)
  generalize hG : H ++ [((8 : Nat), [Value.ref (H.length + 1), Value.int 0, ml, Value.int (Int32.ofNat n)]), (102, bs), (9, [Value.null, Value.int 0, Value.int 0, Value.int 0])] = G at h0 h1 h2
  have hGl : G.length = H.length + 3 := by rw [← hG]; simp
  have key216 : ∀ nc ns : Nat, zMs xs (D + 3) 216 [.ref (H.length + 2), .ref H.length, .null] G nc ns (fun o => o = (.inl none, (G ++ [(102, bs.take n)]).set (H.length + 2) (9, [.ref (H.length + 3), .int 0, .int 0, .int 0]), nc + 1, ns + n)) := by
    intro nc ns
    refine ⟨_, rfl, ?_⟩
    refine zEs_run 3 rfl ?_
    refine zEs_callG rfl (show zcallV 0 8 225 8 [.ref H.length] G = _ from zcallV_eq rfl h0 (by decide)) (g_225 h0) (fun v h9 nc1 ns1 q => ?_) (fun E h9 nc1 ns1 q => by cases q)
    cases q
    refine zEs_run 2 rfl ?_
    refine zEs_callG rfl (show zcallV 0 8 246 13 [.ref H.length] G = _ from zcallV_eq rfl h0 (by decide)) (g_246 h0) (fun v h9 nc1 ns1 q => ?_) (fun E h9 nc1 ns1 q => by cases q)
    cases q
    refine zEs_run 2 rfl ?_
    refine zEs_callG rfl (show zcallV 0 8 227 19 [.ref H.length] G = _ from zcallV_eq rfl h0 (by decide)) (g_227 h0) (fun v h9 nc1 ns1 q => ?_) (fun E h9 nc1 ns1 q => by cases q)
    cases q
    refine zEs_if rfl (fun g => absurd (show (1 : Int32) = 0 from g) (by decide)) (fun _ => ?_)
    refine zEs_run 2 rfl ?_
    refine zEs_put rfl h2 rfl rfl (by show 1 < 4; omega) ?_
    rw [show G.set (H.length + 2) (9, [Value.null, Value.int 0, Value.int 0, Value.int 0].set 1 (Value.int (Int32.ofInt 0))) = G from zset_id h2]
    refine zEs_run 4 rfl ?_
    refine zEs_callG rfl rfl (g_232 h1 hb hn hz) (fun v h9 nc1 ns1 q => ?_) (fun E h9 nc1 ns1 q => by cases q)
    cases q
    refine zEs_put rfl (show (G ++ [(102, bs.take n)])[H.length + 2]? = some (9, [Value.null, Value.int 0, Value.int 0, Value.int 0]) from by rw [List.getElem?_append_left (by omega)]; exact h2) rfl rfl (by show 0 < 4; omega) ?_
    refine zEs_run 1 rfl ?_
    refine zEs_end rfl rfl ?_
    rw [hGl]
    rfl
  refine ⟨_, rfl, ?_⟩
  refine zEs_run 3 rfl ?_
  rw [show zsb H n ml bs ++ [(9, (zcf 9).map (fun q => zdf q.2))] = G from by rw [← hG]; unfold zsb; rw [List.append_assoc]; rfl, show (zsb H n ml bs).length = H.length + 2 from by unfold zsb; simp]
  have key215 : ∀ nc ns : Nat, zMs xs (D + 4) 215 [.ref (H.length + 2), .ref H.length] G nc ns (fun o => o = (.inl none, (G ++ [(102, bs.take n)]).set (H.length + 2) (9, [.ref (H.length + 3), .int 0, .int 0, .int 0]), nc + 1, ns + n)) := by
    intro nc ns
    refine ⟨_, rfl, ?_⟩
    refine zEs_run 3 rfl ?_
    refine zEs_callG rfl rfl (key216 _ _) (fun v h9 nc1 ns1 q => ?_) (fun E h9 nc1 ns1 q => by cases q)
    cases q
    exact zEs_end rfl rfl rfl
  refine zEs_callG rfl rfl (key215 _ _) (fun v h9 nc1 ns1 q => ?_) (fun E h9 nc1 ns1 q => by cases q)
  cases q
  obtain ⟨U, hU⟩ : ∃ U : zH, (G ++ [(102, bs.take n)]).set (H.length + 2) (9, [.ref (H.length + 3), .int 0, .int 0, .int 0]) = H ++ U := ⟨([((8 : Nat), [Value.ref (H.length + 1), Value.int 0, ml, Value.int (Int32.ofNat n)]), (102, bs), (9, [Value.null, Value.int 0, Value.int 0, Value.int 0])] ++ [(102, bs.take n)]).set 2 (9, [.ref (H.length + 3), .int 0, .int 0, .int 0]), by rw [← hG, List.append_assoc, zsj]⟩
  have en : ∀ a b c d : Nat, a = b → c = d → ((.inl (some (.ref (H.length + 2))), H ++ U, a, c) : zO) = (.inl (some (.ref (H.length + 2))), H ++ U, b, d) := by
    intro a b c d e1 e2
    rw [e1, e2]
  have e4 : (zcf 9).length = 4 := rfl
  refine zEs_end rfl rfl ⟨U, ?_⟩
  rw [hU]
  exact en _ _ _ _ (by omega) (by omega)
end ZTX
end zg19
section zg20
/-! tell. -/
def zRr (v : Option Value) : Prop := ∃ q : Nat, v = some (.ref q)
/-- cells are only added -/
def zPa (R : Option Value → Prop) (Es : List Nat) (h : zH) (nc ns : Nat) : zO → Prop := fun o => (∃ v U nc' ns', R v ∧ nc' ≤ nc + 10 ∧ ns' ≤ ns + 100 ∧ o = (.inl v, h ++ U, nc', ns')) ∨ ∃ E, E ∈ Es ∧ o = (.inr E, h, nc + 1, ns + 6)
section ZTL
variable {xs : List Int32} {D nc ns : Nat} {s : Nat → Int32} {a : Nat → List Int32} {T : zH} {P : zO → Prop}
theorem zbyt_set {bs : List Value} {j : Nat} {v : Value} (h : ∀ x ∈ bs, zbyt x = true) (hv : zbyt v = true) : ∀ x ∈ bs.set j v, zbyt x = true := by
  intro x hx
  rcases List.mem_or_eq_of_mem_set hx with q | rfl
  · exact h x q
  · exact hv
set_option maxRecDepth 10000
theorem k_76 (hL : zaL a) {x1 x2 : Int32} : zMs xs (D + 6) 76 [.ref 0, .int x1, .int x2] (zx s a T) nc ns (zPa zRr [1] (zx s a T) nc ns) := by
  refine ⟨_, rfl, ?_⟩
  refine zEs_run 2 rfl ?_
  refine zEs_cv rfl rfl (k_84 hL) (fun E hE => ⟨rfl, Or.inr ⟨E, hE, rfl⟩⟩) ?_
  refine zEs_run 2 rfl ?_
  have e8 : ((Int8.ofInt 8).toInt32).toInt = 8 := by decide
  generalize hG : (zx s a T).length = g
  have lp : ∀ (n j : Nat) (bs : List Value), j ≤ 8 → bs.length = 16 → (∀ x ∈ bs, zbyt x = true) → 8 - j < n → zEs xs (D + 6) 76 16 [some (.ref 0), some (.int x1), some (.int x2), some (.ref g), some (.int (Int32.ofNat j))] [] (zsb (zx s a T) j (.int 0) bs) (nc + 2) (ns + 20) (zPa zRr [1] (zx s a T) nc ns) := by
    intro n
    induction n with
    | zero =>
      intro j bs h1 h2 h3 hn
      exact absurd hn (Nat.not_lt_zero _)
    | succ n ih =>
      intro j bs h1 h2 h3 hn
      have ej : (Int32.ofNat j).toInt = (j : Int) := Int32.toInt_ofNat_of_lt (by omega)
      refine zEs_run 2 rfl ?_
      refine zEs_icmp rfl (fun g1 => ?_) (fun g1 => ?_)
      · refine zEs_run 1 rfl ?_
        subst hG
        refine zEs_callG rfl (show zcallV 0 8 222 50 [.ref (zx s a T).length] (zsb (zx s a T) j (.int 0) bs) = _ from zcallV_eq rfl zsb0 (by decide)) (m_222 h2 (by omega) (List.all_eq_true.mpr (fun x hx => h3 x (List.mem_of_mem_take hx)))) (fun v h9 nc1 ns1 q => ?_) (fun E h9 nc1 ns1 q => by obtain ⟨U, q⟩ := q; cases q)
        obtain ⟨U, q⟩ := q
        cases q
        exact zEs_end rfl rfl (Or.inl ⟨_, U, _, _, ⟨_, rfl⟩, (by show nc + 2 + 2 + 0 ≤ nc + 10; omega), (by show ns + 20 + (4 + j) + 0 ≤ ns + 100; omega), rfl⟩)
      · have z := zF_ge_f g1
        rw [ej, e8] at z
        refine zEs_run 4 rfl ?_
        refine zEs_ci rfl rfl (k_88 (T := T ++ [(8, [.ref ((zx s a T).length + 1), .int 0, .int 0, .int (Int32.ofNat j)]), (102, bs)]) hL) (fun E hE => by cases hE) (fun v1 => ?_)
        refine zEs_run 2 rfl ?_
        refine zEs_cr rfl rfl (k_98 (T := T ++ [(8, [.ref ((zx s a T).length + 1), .int 0, .int 0, .int (Int32.ofNat j)]), (102, bs)]) hL) (fun E hE => by cases hE) (fun v hv => ?_)
        obtain ⟨x, hx, rfl⟩ := hv
        subst hG
        refine zEs_callG rfl (show zcallV 1 8 220 39 [.int x, .ref (zx s a T).length] (zsb (zx s a T) j (.int 0) bs) = _ from zcallV_eq rfl zsb0 (by decide)) (m_220 h2 (by omega) hx) (fun v h9 nc1 ns1 q => ?_) (fun E h9 nc1 ns1 q => by cases q)
        cases q
        refine zEs_run 3 rfl ?_
        rw [show Int32.ofNat j + Int32.ofInt 1 = Int32.ofNat (j + 1) from (nI_succ j).symm]
        exact ih (j + 1) _ (by omega) (by simp [h2]) (zbyt_set h3 (by rcases hx with rfl | rfl | rfl | rfl | rfl <;> decide)) (by omega)
  have e4 : (zcf 8).length = 4 := rfl
  subst hG
  refine zEs_callG rfl rfl m_221 (fun v h9 nc1 ns1 q => ?_) (fun E h9 nc1 ns1 q => by cases q)
  cases q
  refine zEs_run 3 rfl ?_
  exact lp _ 0 _ (by omega) (by simp) (fun x hx => by rw [List.eq_of_mem_replicate hx]; decide) (Nat.lt_succ_self _)
end ZTL
end zg20
section zg21
/-! A new object: by evaluation. -/
theorem zev_up {xs : List Int32} : ∀ (n d y pc : Nat) (L : zL) (st : List Value) (h : zH) (nc ns : Nat) (o : zO), zev xs n d y pc L st h nc ns = some o → ∀ (n' d' : Nat), n ≤ n' → d ≤ d' → zev xs n' d' y pc L st h nc ns = some o
  | 0, d, y, pc, L, st, h, nc, ns, o, e, n', d', hn, hd => by cases (show none = some _ from e)
  | n + 1, d, y, pc, L, st, h, nc, ns, o, e, n', d', hn, hd => by
    obtain ⟨n', rfl⟩ : ∃ q, n' = q + 1 := ⟨n' - 1, by omega⟩
    cases hat : zat (zmc y) pc with
    | none =>
      unfold zev at e
      rw [hat] at e
      cases e
    | some q =>
      obtain ⟨i, nx, k, yy, n9, c⟩ := q
      cases hst : zstep zcf xs pc i nx k yy n9 c L st h with
      | none =>
        unfold zev at e
        rw [hat] at e
        dsimp only at e
        rw [hst] at e
        cases e
      | some q =>
        rcases q with ⟨pc', L', st', h', dc, ds⟩ | ⟨y', as, r, nx'⟩ | ⟨r, dc, ds⟩
        · unfold zev at e ⊢
          rw [hat] at e ⊢
          dsimp only at e ⊢
          rw [hst] at e ⊢
          exact zev_up n _ _ _ _ _ _ _ _ _ e n' d' (by omega) hd
        · unfold zev at e ⊢
          rw [hat] at e ⊢
          dsimp only at e ⊢
          rw [hst] at e ⊢
          dsimp only at e ⊢
          cases d with
          | zero => cases e
          | succ d =>
            obtain ⟨d', rfl⟩ : ∃ q, d' = q + 1 := ⟨d' - 1, by omega⟩
            dsimp only at e ⊢
            cases hen : zen (zmL y') as with
            | none =>
              rw [hen] at e
              cases e
            | some L0 =>
              rw [hen] at e
              dsimp only at e ⊢
              cases hev : zev xs n d y' 0 L0 [] h nc ns with
              | none =>
                rw [hev] at e
                cases e
              | some q =>
                obtain ⟨r1, h1, nc1, ns1⟩ := q
                rw [hev] at e
                rw [zev_up n _ _ _ _ _ _ _ _ _ hev n' d' (by omega) (by omega)]
                cases r1 with
                | inl v =>
                  dsimp only at e ⊢
                  exact zev_up n _ _ _ _ _ _ _ _ _ e n' (d' + 1) (by omega) (by omega)
                | inr E =>
                  dsimp only at e ⊢
                  cases hnil : zmh y with
                  | nil =>
                    rw [hnil] at e
                    exact e
                  | cons z zs =>
                    rw [hnil] at e
                    dsimp only at e ⊢
                    cases hct : zcatch y pc E L with
                    | none =>
                      rw [hct] at e
                      cases e
                    | some q =>
                      rw [hct] at e
                      obtain ⟨pc2, L2⟩ := q
                      dsimp only at e ⊢
                      exact zev_up n _ _ _ _ _ _ _ _ _ e n' (d' + 1) (by omega) (by omega)
        · unfold zev at e ⊢
          rw [hat] at e ⊢
          dsimp only at e ⊢
          rw [hst] at e ⊢
          exact e
theorem zEs_of {xs : List Int32} {n D y pc nc ns : Nat} {L : zL} {st : List Value} {h : zH} {o : zO} {P : zO → Prop} (e : zev xs n D y pc L st h nc ns = some o) (g : P o) : zEs xs D y pc L st h nc ns P := ⟨o, n, g, fun d n' hd hn => zev_up n D y pc L st h nc ns o e n' d hn hd⟩
theorem zEs_callE {xs : List Int32} {D y pc nx k yy m c y' nx' nc ns nc1 ns1 : Nat} {i : Instr} {L L0 : zL} {st as r : List Value} {h h1 : zH} {P : zO → Prop} {v : Option Value} (n : Nat) (e1 : zat (zmc y) pc = some (i, nx, k, yy, m, c)) (e2 : zstep zcf xs pc i nx k yy m c L st h = some (.inr (.inl (y', as, r, nx')))) (e3 : zen (zmL y') as = some L0) (e4 : zev xs n D y' 0 L0 [] h nc ns = some (.inl v, h1, nc1, ns1)) (g : zEs xs (D + 1) y nx' L (v.toList ++ r) h1 nc1 ns1 P) : zEs xs (D + 1) y pc L st h nc ns P := by
  refine zEs_callG (P1 := fun o => o = (.inl v, h1, nc1, ns1)) e1 e2 ⟨L0, e3, zEs_of e4 rfl⟩ (fun v h9 nc9 ns9 q => ?_) (fun E h9 nc9 ns9 q => by cases q)
  cases q
  exact g
def zs00 (k : Nat) : Int32 := match k with
  | 5 => 16
  | 6 => 20
  | 7 => 5
  | _ => 0
def za00 (k : Nat) : List Int32 := List.replicate (([16, 64, 160, 20, 20, 160, 24, 24, 24, 24, 24, 24, 40, 40, 40, 16, 2, 128, 128] : List Nat).getD k 0) 0
theorem za00_L : zaL za00 := by
  intro k
  unfold za00
  rw [List.length_replicate]
  by_cases h : k < 19
  · have e : (List.range 19).all (fun k => decide (([16, 64, 160, 20, 20, 160, 24, 24, 24, 24, 24, 24, 40, 40, 40, 16, 2, 128, 128] : List Nat).getD k 0 < 2147483648)) = true := by decide
    exact of_decide_eq_true (List.all_eq_true.mp e k (List.mem_range.mpr h))
  · rw [List.getD_eq_getElem?_getD, List.getElem?_eq_none (Nat.not_lt.mp h)]
    decide
set_option maxRecDepth 20000 in
theorem m_52a {xs : List Int32} {D nc ns : Nat} {P : zO → Prop} (g : ∀ nc' ns' : Nat, nc' ≤ nc + 60 → ns' ≤ ns + 2000 → zEs xs (D + 6) 52 90 [some (.ref 0), none] [] (zx zs00 za00 []) nc' ns' P) : zEs xs (D + 6) 52 0 [some (.ref 0), none] [] [(5, (zcf 5).map (fun q => zdf q.2))] nc ns P := by
  refine zEs_run 5 rfl ?_
  refine zEs_callE 60 rfl rfl rfl rfl ?_
  refine zEs_run 4 rfl ?_
  refine zEs_callE 200 rfl rfl rfl rfl ?_
  refine zEs_run 4 rfl ?_
  refine zEs_callE 100 rfl rfl rfl rfl ?_
  refine zEs_run 5 rfl ?_
  refine zEs_callE 30 rfl rfl rfl rfl ?_
  refine zEs_run 5 rfl ?_
  refine zEs_callE 30 rfl rfl rfl rfl ?_
  refine zEs_run 5 rfl ?_
  refine zEs_callE 30 rfl rfl rfl rfl ?_
  refine zEs_run 5 rfl ?_
  refine zEs_callE 30 rfl rfl rfl rfl ?_
  refine zEs_run 1 (h' := zx zs00 za00 []) rfl ?_
  have f0 : (zcf 0).length = 5 := rfl
  have f1 : (zcf 1).length = 4 := rfl
  have f2 : (zcf 2).length = 1 := rfl
  have f3 : (zcf 3).length = 6 := rfl
  have f4 : (zcf 4).length = 12 := rfl
  have f5 : (Int8.ofInt 16).toInt32.toNatClampNeg = 16 := by decide
  have f6 : (Int16.ofInt 128).toInt32.toNatClampNeg = 128 := by decide
  have f7 : (Int32.ofInt 2).toNatClampNeg = 2 := by decide
  have f8 : (Int8.ofInt 24).toInt32.toNatClampNeg = 24 := by decide
  have f9 : (Int8.ofInt 64).toInt32.toNatClampNeg = 64 := by decide
  have g0 : (Int8.ofInt 20).toInt32.toNatClampNeg = 20 := by decide
  have g1 : (Int8.ofInt 40).toInt32.toNatClampNeg = 40 := by decide
  have g2 : (Int16.ofInt 160).toInt32.toNatClampNeg = 160 := by decide
  exact g _ _ (by omega) (by omega)
end zg21
section zg22
/-! A new object, whole. -/
set_option maxRecDepth 10000 in
theorem m_52 {xs : List Int32} {D nc ns : Nat} : zMs xs (D + 6) 52 [.ref 0] [(5, (zcf 5).map (fun q => zdf q.2))] nc ns (fun o => ∃ s a nc' ns', zaL a ∧ s 18 = 0 ∧ s 4 = 0 ∧ nc' ≤ nc + 60 ∧ ns' ≤ ns + 2000 ∧ o = (.inl none, zx s a [], nc', ns')) := by
  refine ⟨_, rfl, m_52a (fun nc' ns' h1 h2 => ?_)⟩
  have lp : ∀ (n : Nat) (i : Int32) (a : Nat → List Int32), zfr [] [15] zs00 za00 zs00 a → (((Int8.ofInt 16).toInt32).toInt - i.toInt).toNat < n → zEs xs (D + 6) 52 92 [some (.ref 0), some (.int i)] [] (zx zs00 a []) nc' ns' (fun o => ∃ s a nc' ns', zaL a ∧ s 18 = 0 ∧ s 4 = 0 ∧ nc' ≤ nc + 60 ∧ ns' ≤ ns + 2000 ∧ o = (.inl none, zx s a [], nc', ns')) := by
    intro n
    induction n with
    | zero =>
      intro i a f hn
      exact absurd hn (Nat.not_lt_zero _)
    | succ n ih =>
      intro i a f hn
      refine zEs_run 2 rfl ?_
      refine zEs_icmp rfl (fun _ => ?_) (fun g => ?_)
      · refine zEs_run 4 rfl ?_
        refine zEs_wv rfl rfl (k_3 f.2.2 (by decide)) (fun E hE => by cases hE) (fun s1 a1 e1 => ?_)
        refine zEs_run 5 rfl ?_
        refine zEs_wv rfl rfl (k_40 e1.2.2) (fun E hE => by cases hE) (fun s2 a2 e2 => ?_)
        refine zEs_end rfl rfl ⟨s2, a2, nc', ns', e2.2.2, ?_, ?_, h1, h2, rfl⟩
        · exact (e2.1 18 (by decide)).trans (e1.1 18 (by decide))
        · exact (e2.1 4 (by decide)).trans (e1.1 4 (by decide))
      · have g : ¬ (Int8.ofInt 16).toInt32 ≤ i := g
        refine zEs_run 6 rfl ?_
        refine zEs_callG rfl rfl (x_26 15 37 36 rfl rfl (fun _ => rfl) f.2.2) (fun v h9 nc1 ns1 q => ?_) (fun E h9 nc1 ns1 q => ?_)
        · rcases q with ⟨v', s2, a2, hv, f2, q⟩ | ⟨E, hE, q⟩
          · cases q
            cases (show v = none from hv)
            have e : s2 = zs00 := funext (fun k => f2.1 k (by simp))
            subst e
            refine zEs_run 2 rfl ?_
            exact ih _ _ (zfr_tr f f2) (Nat.lt_of_lt_of_le (zdec g) (Nat.le_of_lt_succ hn))
          · cases hE
        · rcases q with ⟨_, _, _, _, _, q⟩ | ⟨_, hE, _⟩
          · cases q
          · cases hE
  refine zEs_run 2 rfl ?_
  exact lp _ _ _ (zfr_rf za00_L) (Nat.lt_succ_self _)
end zg22
section zg23
/-! Lists of int rows: what an ArrayList's cells are; size and get. -/
/-- the list at r: its data (none: the empty row of all lists), its elements -/
def zLs (h : zH) (r : Nat) (dq : Option Nat) (es : List Nat) : Prop := ∃ m : Int32, match dq with
  | none => es = [] ∧ h[r]? = some (10, [.int m, .retAddr 1, .int (Int32.ofNat es.length)])
  | some q => ∃ vs : List Value, h[r]? = some (10, [.int m, .ref q, .int (Int32.ofNat es.length)]) ∧ h[q]? = some (103, vs) ∧ es.length ≤ vs.length ∧ (0 < vs.length ∧ vs.length ≤ 1000) ∧ vs.take es.length = es.map Value.ref
section ZLL
variable {xs : List Int32} {D nc ns y pc nx k yy m c r : Nat} {h : zH} {L : zL} {rs : List Value} {P : zO → Prop} {dq : Option Nat} {es : List Nat} {j : Int32}
theorem zEs_aald {j : Int32} {a t : Nat} {vs : List Value} {v : Value} (h1 : zat (zmc y) pc = some (.aaload, nx, k, yy, m, c)) (ha : h[a]? = some (t, vs)) (ht : t = 103 ∨ t = 104) (hj : ¬ j < 0) (hv : vs[j.toNatClampNeg]? = some v) (g : zEs xs D y nx L (v :: rs) h nc ns P) : zEs xs D y pc L (.int j :: .ref a :: rs) h nc ns P := by
  refine zEs_step (dc := 0) (ds := 0) h1 ?_ g
  show zaald nx L (.int j :: .ref a :: rs) h = _
  unfold zaald
  dsimp only
  rw [ha]
  dsimp only
  rw [if_pos ht, hv]
  exact if_neg hj
theorem zLs_size (g : zLs h r dq es) : ∃ (mv d : Value), h[r]? = some (10, [mv, d, .int (Int32.ofNat es.length)]) := by
  obtain ⟨m, g⟩ := g
  cases dq with
  | none => exact ⟨_, _, g.2⟩
  | some q =>
    obtain ⟨vs, g, -⟩ := g
    exact ⟨_, _, g⟩
set_option maxRecDepth 10000
theorem m_243 (g : zLs h r dq es) : zMs xs (D + 0) 243 [.ref r] h nc ns (fun o => o = (.inl (some (.int (Int32.ofNat es.length))), h, nc, ns)) := by
  obtain ⟨mv, d, g⟩ := zLs_size g
  refine ⟨_, rfl, ?_⟩
  refine zEs_run 1 rfl ?_
  refine zEs_get rfl g rfl rfl ?_
  exact zEs_end rfl rfl rfl
theorem m_219 {n : Nat} (hn : n ≤ 1000) (h1 : 0 ≤ j.toInt) (h2 : j.toInt < n) : zMs xs (D + 0) 219 [.int j, .int (Int32.ofNat n), .null] h nc ns (fun o => o = (.inl (some (.int j)), h, nc, ns)) := by
  have hzz := zero_z
  have en : (Int32.ofNat n).toInt = (n : Int) := Int32.toInt_ofNat_of_lt (by omega)
  refine ⟨_, rfl, ?_⟩
  refine zEs_run 1 rfl ?_
  refine zEs_if rfl (fun g => ?_) (fun g => ?_)
  · have z := zF_lt_t g
    exfalso
    omega
  · refine zEs_run 2 rfl ?_
    refine zEs_icmp rfl (fun g => ?_) (fun g => ?_)
    · refine zEs_run 1 rfl ?_
      exact zEs_end rfl rfl rfl
    · have z := zF_lt_f g
      exfalso
      omega
theorem m_217 {n : Nat} (hn : n ≤ 1000) (h1 : 0 ≤ j.toInt) (h2 : j.toInt < n) : zMs xs (D + 1) 217 [.int j, .int (Int32.ofNat n)] h nc ns (fun o => o = (.inl (some (.int j)), h, nc, ns)) := by
  refine ⟨_, rfl, ?_⟩
  refine zEs_run 3 rfl ?_
  refine zEs_callG rfl rfl (m_219 hn h1 h2) (fun v h9 nc1 ns1 q => ?_) (fun E h9 nc1 ns1 q => by cases q)
  cases q
  exact zEs_end rfl rfl rfl
/-- get: an element -/
theorem m_239 (g : zLs h r dq es) (h1 : 0 ≤ j.toInt) (h2 : j.toInt < es.length) : zMs xs (D + 2) 239 [.ref r, .int j] h nc ns (fun o => ∃ e, e ∈ es ∧ o = (.inl (some (.ref e)), h, nc, ns)) := by
  have hzz := zero_z
  have g0 := g
  obtain ⟨m, g⟩ := g
  cases dq with
  | none =>
    obtain ⟨rfl, -⟩ := g
    exfalso
    simp at h2
    omega
  | some q =>
    obtain ⟨vs, k1, k2, k3, k4, k5⟩ := g
    have hj : ¬ j < 0 := fun z => by
      have z := zlt_z z
      omega
    have hjn : j.toNatClampNeg < es.length := by
      show j.toInt.toNat < _
      omega
    obtain ⟨e, he⟩ : ∃ e, es[j.toNatClampNeg]? = some e := ⟨_, List.getElem?_eq_getElem hjn⟩
    have hv : vs[j.toNatClampNeg]? = some (.ref e) := by
      have z : (vs.take es.length)[j.toNatClampNeg]? = (es.map Value.ref)[j.toNatClampNeg]? := by rw [k5]
      rw [List.getElem?_take, if_pos hjn, List.getElem?_map, he] at z
      exact z
    refine ⟨_, rfl, ?_⟩
    refine zEs_run 2 rfl ?_
    refine zEs_get rfl k1 rfl rfl ?_
    refine zEs_callG rfl rfl (m_217 (by omega) h1 h2) (fun v h9 nc1 ns1 q => ?_) (fun E h9 nc1 ns1 q => by cases q)
    cases q
    refine zEs_run 3 rfl ?_
    have key : zMs xs (D + 1) 238 [.ref r, .int j] h nc ns (fun o => o = (.inl (some (.ref e)), h, nc, ns)) := by
      refine ⟨_, rfl, ?_⟩
      refine zEs_run 1 rfl ?_
      refine zEs_get rfl k1 rfl rfl ?_
      refine zEs_run 1 rfl ?_
      refine zEs_aald rfl k2 (Or.inl rfl) hj hv ?_
      exact zEs_end rfl rfl rfl
    refine zEs_callG rfl (show zcallV 1 10 238 14 [.int j, .ref r] h = _ from zcallV_eq rfl k1 (by decide)) key (fun v h9 nc1 ns1 q => ?_) (fun E h9 nc1 ns1 q => by cases q)
    cases q
    exact zEs_end rfl rfl ⟨e, List.mem_of_getElem? he, rfl⟩
end ZLL
end zg23
section zg24
/-! add: the list takes one element more; a data row that is full grows. -/
section ZLA
variable {xs : List Int32} {D nc ns y pc nx k yy m c r : Nat} {h : zH} {L : zL} {rs : List Value} {P : zO → Prop} {dq : Option Nat} {es : List Nat} {j : Int32}
theorem zEs_aast {j : Int32} {a x : Nat} {vs v2 : List Value} (h1 : zat (zmc y) pc = some (.aastore, nx, k, yy, m, c)) (ha : h[a]? = some (103, vs)) (hx : h[x]? = some (100, v2)) (hj : ¬ j < 0) (hl : j.toNatClampNeg < vs.length) (g : zEs xs D y nx L rs (h.set a (103, vs.set j.toNatClampNeg (.ref x))) nc ns P) : zEs xs D y pc L (.ref x :: .int j :: .ref a :: rs) h nc ns P := by
  refine zEs_step (dc := 0) (ds := 0) h1 ?_ g
  show zaast nx L (.ref x :: .int j :: .ref a :: rs) h = _
  unfold zaast
  dsimp only
  rw [ha, hx]
  dsimp only
  rw [if_pos ⟨rfl, rfl⟩, if_neg hj, if_pos hl]
  rfl
theorem zEs_anewa {i : Nat} {n : Int32} (h1 : zat (zmc y) pc = some (.anewarray i, nx, k, yy, m, c)) (hn : ¬ n < 0) (hN : n.toNatClampNeg ≤ 100000) (g : zEs xs D y nx L (.ref h.length :: rs) (h ++ [(103, List.replicate n.toNatClampNeg .null)]) (nc + 1) (ns + n.toNatClampNeg) P) : zEs xs D y pc L (.int n :: rs) h nc ns P := by
  refine zEs_step (dc := 1) (ds := n.toNatClampNeg) h1 ?_ g
  show znewa 103 .null nx L (.int n :: rs) h = _
  unfold znewa
  dsimp only
  rw [if_neg hn, if_pos hN, if_neg (by decide)]
theorem zEs_copyq {a d : Nat} {vs ws : List Value} {n : Int32} {j yy c m : Nat} (h1 : zat (zmc y) pc = some (.invokestatic j, nx, 10, yy, m, c)) (ha : h[a]? = some (103, vs)) (hd : h[d]? = some (103, ws)) (hb : (vs.take n.toNatClampNeg).all (zelt h) = true) (hr : zcs rs ≤ 8) (hn : ¬ n < 0) (hv : n.toNatClampNeg ≤ vs.length) (hw : n.toNatClampNeg ≤ ws.length) (g : zEs xs D y nx L rs (h.set d (103, vs.take n.toNatClampNeg ++ ws.drop n.toNatClampNeg)) nc ns P) : zEs xs D y pc L (.int n :: .int 0 :: .ref d :: .int 0 :: .ref a :: rs) h nc ns P := by
  refine zEs_step (dc := 0) (ds := 0) h1 ?_ g
  show zcopy nx L (.int n :: .int 0 :: .ref d :: .int 0 :: .ref a :: rs) h = _
  unfold zcopy
  dsimp only
  rw [ha, hd]
  exact if_pos ⟨rfl, Or.inr ⟨rfl, hb⟩, hr, hn, rfl, rfl, hv, hw⟩
end ZLA
end zg24
section zg25
/-! grow: an empty list, and a full one. -/
section ZLG
variable {xs : List Int32} {D nc ns r : Nat} {h : zH}
set_option maxRecDepth 10000
theorem m_240a {m : Int32} (h0 : h[r]? = some (10, [.int m, .retAddr 1, .int (Int32.ofNat 0)])) : zMs xs (D + 0) 240 [.ref r, .int (Int32.ofNat 0 + Int32.ofInt 1)] h nc ns (fun o => o = (.inl (some (.ref h.length)), (h ++ [(103, List.replicate 10 Value.null)]).set r (10, [Value.int m, Value.ref h.length, Value.int (Int32.ofNat 0)]), nc + 1, ns + 10)) := by
  have hrl : r < h.length := (List.getElem?_eq_some_iff.mp h0).1
  refine ⟨_, rfl, ?_⟩
  refine zEs_run 1 rfl ?_
  refine zEs_get rfl h0 rfl rfl ?_
  refine zEs_run 3 rfl ?_
  refine zEs_if rfl (fun g => absurd (show (0 : Int32) < 0 from g) (by decide)) (fun _ => ?_)
  refine zEs_run 1 rfl ?_
  refine zEs_get rfl h0 rfl rfl ?_
  refine zEs_run 6 rfl ?_
  refine zEs_anewa rfl (by decide) (by decide) ?_
  rw [show ((fun x y : Int32 => if x < y then y else x) ((Int8.ofInt 10).toInt32) (Int32.ofNat 0 + Int32.ofInt 1)).toNatClampNeg = 10 from by decide]
  refine zEs_run 1 rfl ?_
  refine zEs_put rfl (show (h ++ [(103, List.replicate 10 Value.null)])[r]? = some (10, [.int m, .retAddr 1, .int (Int32.ofNat 0)]) from by rw [List.getElem?_append_left hrl]; exact h0) rfl rfl (by show 1 < 3; omega) ?_
  exact zEs_end rfl rfl rfl
theorem m_241a {m : Int32} (h0 : h[r]? = some (10, [.int m, .retAddr 1, .int (Int32.ofNat 0)])) : zMs xs (D + 1) 241 [.ref r] h nc ns (fun o => o = (.inl (some (.ref h.length)), (h ++ [(103, List.replicate 10 Value.null)]).set r (10, [Value.int m, Value.ref h.length, Value.int (Int32.ofNat 0)]), nc + 1, ns + 10)) := by
  refine ⟨_, rfl, ?_⟩
  refine zEs_run 2 rfl ?_
  refine zEs_get rfl h0 rfl rfl ?_
  refine zEs_run 2 rfl ?_
  refine zEs_callG rfl (show zcallV 1 10 240 10 [.int (Int32.ofNat 0 + Int32.ofInt 1), .ref r] h = _ from zcallV_eq rfl h0 (by decide)) (m_240a h0) (fun v h9 nc1 ns1 q => ?_) (fun E h9 nc1 ns1 q => by cases q)
  cases q
  exact zEs_end rfl rfl rfl
end ZLG
end zg25
section zg26
/-! grow of a full list: half as much again, the elements copied. -/
def zgr (n : Nat) : Nat := n + (if 1 < n / 2 then n / 2 else 1)
theorem zgr_ok : (List.range 501).all (fun n => decide (Int32.ofNat n + (if Int32.ofNat n + Int32.ofInt 1 - Int32.ofNat n < Int32.ofNat n >>> (Int32.ofInt 1 &&& 31) then Int32.ofNat n >>> (Int32.ofInt 1 &&& 31) else Int32.ofNat n + Int32.ofInt 1 - Int32.ofNat n) = Int32.ofNat (zgr n))) = true := by decide +kernel
section ZLG
variable {xs : List Int32} {D nc ns r n q : Nat} {h : zH}
theorem zgr_b (hn : n ≤ 500) : n < zgr n ∧ zgr n ≤ 1001 := by
  unfold zgr
  split <;> omega
theorem zof_z (hn : n ≤ 2000) : (Int32.ofNat n).toInt = (n : Int) := Int32.toInt_ofNat_of_lt (by omega)
theorem zof_n (hn : n ≤ 2000) : ¬ Int32.ofNat n < 0 ∧ (Int32.ofNat n).toNatClampNeg = n := by
  have e := zof_z hn
  constructor
  · intro g
    have g := zlt_z g
    rw [e, zero_z] at g
    omega
  · show (Int32.ofNat n).toInt.toNat = n
    rw [e]
    rfl
set_option maxRecDepth 10000
theorem m_235 (hn : n ≤ 500) : zMs xs (D + 0) 235 [.int (Int32.ofNat n), .int (Int32.ofNat n + Int32.ofInt 1 - Int32.ofNat n), .int (Int32.ofNat n >>> (Int32.ofInt 1 &&& 31))] h nc ns (fun o => o = (.inl (some (.int (Int32.ofNat (zgr n)))), h, nc, ns)) := by
  obtain ⟨b1, b2⟩ := zgr_b hn
  have ez := zof_z (n := zgr n) (by omega)
  have e := of_decide_eq_true (List.all_eq_true.mp zgr_ok n (List.mem_range.mpr (by omega)))
  refine ⟨_, rfl, ?_⟩
  refine zEs_run 5 rfl ?_
  rw [show (fun x y : Int32 => x + y) (Int32.ofNat n) ((fun x y : Int32 => if x < y then y else x) (Int32.ofNat n + Int32.ofInt 1 - Int32.ofNat n) (Int32.ofNat n >>> (Int32.ofInt 1 &&& 31))) = Int32.ofNat (zgr n) from e]
  refine zEs_run 3 rfl ?_
  refine zEs_icmp rfl (fun g => ?_) (fun _ => ?_)
  · have z := zF_ge_t g
    rw [ez, show (Int32.ofInt 0).toInt = 0 from by decide] at z
    exfalso
    omega
  · refine zEs_run 2 rfl ?_
    refine zEs_icmp rfl (fun g => ?_) (fun _ => ?_)
    · have z := zF_gt_t g
      rw [ez, show (Int32.ofNat 2147483639).toInt = 2147483639 from by decide] at z
      exfalso
      omega
    · refine zEs_run 1 rfl ?_
      exact zEs_end rfl rfl rfl
end ZLG
end zg26
section zg27
/-! Arrays.copyOf of a row of references. -/
section ZLC
variable {xs : List Int32} {D nc ns n N a y pc nx k yy m c : Nat} {h X : zH} {vs : List Value} {L : zL} {rs : List Value} {P : zO → Prop}
theorem zset_app1 {x w : Nat × List Value} : (h ++ [x]).set h.length w = h ++ [w] := by
  rw [List.set_append_right _ _ (Nat.le_refl _), Nat.sub_self]
  rfl
theorem zelt_app {v : Value} (g : zelt h v = true) : zelt (h ++ X) v = true := by
  unfold zelt at g ⊢
  split at g
  · next k =>
    split at g
    · next t w e =>
      rw [List.getElem?_append_left (List.getElem?_eq_some_iff.mp e).1, e]
      exact g
    · cases g
  · rfl
  · cases g
theorem zEs_getc {j : Nat} {w : List Value} (h1 : zat (zmc y) pc = some (.invokevirtual j, nx, 11, yy, m, c)) (ha : h[a]? = some (103, w)) (hr : zcs rs ≤ 8) (g : zEs xs D y nx L (.retAddr 2 :: rs) h nc ns P) : zEs xs D y pc L (.ref a :: rs) h nc ns P := by
  refine zEs_step (dc := 0) (ds := 0) h1 ?_ g
  show zgetc nx L (.ref a :: rs) h = _
  unfold zgetc
  dsimp only
  rw [ha]
  exact if_pos ⟨rfl, hr⟩
set_option maxRecDepth 10000
theorem m_234 (h0 : h[a]? = some (103, vs)) (hv : vs.length = n) (hn : n ≤ 500) (hN : n ≤ N) (hN2 : N ≤ 1001) (hz : vs.all (zelt h) = true) : zMs xs (D + 0) 234 [.ref a, .int (Int32.ofNat N), .retAddr 2] h nc ns (fun o => o = (.inl (some (.ref h.length)), h ++ [(103, vs ++ List.replicate (N - n) Value.null)], nc + 1, ns + N)) := by
  obtain ⟨q1, q2⟩ := zof_n (n := N) (by omega)
  obtain ⟨p1, p2⟩ := zof_n (n := n) (by omega)
  have hal : a < h.length := (List.getElem?_eq_some_iff.mp h0).1
  refine ⟨_, rfl, ?_⟩
  refine zEs_run 4 rfl ?_
  refine zEs_anewa rfl q1 (by rw [q2]; omega) ?_
  rw [q2]
  have g0 : (h ++ [(103, List.replicate N Value.null)])[a]? = some (103, vs) := by rw [List.getElem?_append_left hal]; exact h0
  have g1 : (h ++ [(103, List.replicate N Value.null)])[h.length]? = some (103, List.replicate N Value.null) := by
    rw [List.getElem?_append_right (Nat.le_refl _), Nat.sub_self]
    rfl
  refine zEs_run 7 rfl ?_
  refine zEs_alen rfl g0 (by decide) ?_
  rw [hv]
  refine zEs_run 2 rfl ?_
  have e : (if Int32.ofNat N < Int32.ofNat n then Int32.ofNat N else Int32.ofNat n) = Int32.ofNat n := by
    rw [if_neg]
    intro g
    have g := zlt_z g
    rw [zof_z (n := N) (by omega), zof_z (n := n) (by omega)] at g
    omega
  rw [show (fun x y : Int32 => if y < x then y else x) (Int32.ofNat n) (Int32.ofNat N) = Int32.ofNat n from e]
  refine zEs_copyq rfl g0 g1 (by
    rw [p2, List.take_of_length_le (by omega)]
    exact List.all_eq_true.mpr (fun x hx => zelt_app (List.all_eq_true.mp hz x hx))) (by decide) p1 (by rw [p2]; omega) (by rw [p2]; simp; omega) ?_
  rw [p2, List.take_of_length_le (show vs.length ≤ n by omega), List.drop_replicate, zset_app1]
  refine zEs_run 1 rfl ?_
  exact zEs_end rfl rfl rfl
theorem m_233 (h0 : h[a]? = some (103, vs)) (hv : vs.length = n) (hn : n ≤ 500) (hN : n ≤ N) (hN2 : N ≤ 1001) (hz : vs.all (zelt h) = true) : zMs xs (D + 1) 233 [.ref a, .int (Int32.ofNat N)] h nc ns (fun o => o = (.inl (some (.ref h.length)), h ++ [(103, vs ++ List.replicate (N - n) Value.null)], nc + 1, ns + N)) := by
  refine ⟨_, rfl, ?_⟩
  refine zEs_run 3 rfl ?_
  refine zEs_getc rfl h0 (Nat.le_of_ble_eq_true rfl) ?_
  refine zEs_callG rfl rfl (m_234 h0 hv hn hN hN2 hz) (fun v h9 nc1 ns1 q => ?_) (fun E h9 nc1 ns1 q => by cases q)
  cases q
  exact zEs_end rfl rfl rfl
end ZLC
end zg27
section zg28
/-! grow of a full list. -/
section ZLG
variable {xs : List Int32} {D nc ns r q n : Nat} {h : zH} {vs : List Value} {m : Int32}
set_option maxRecDepth 10000
theorem m_240b (h0 : h[r]? = some (10, [.int m, .ref q, .int (Int32.ofNat n)])) (h1 : h[q]? = some (103, vs)) (hv : vs.length = n) (hn0 : 0 < n) (hn : n ≤ 500) (hz : vs.all (zelt h) = true) : zMs xs (D + 2) 240 [.ref r, .int (Int32.ofNat n + Int32.ofInt 1)] h nc ns (fun o => o = (.inl (some (.ref h.length)), (h ++ [(103, vs ++ List.replicate (zgr n - n) Value.null)]).set r (10, [Value.int m, Value.ref h.length, Value.int (Int32.ofNat n)]), nc + 1, ns + zgr n)) := by
  have hrl : r < h.length := (List.getElem?_eq_some_iff.mp h0).1
  obtain ⟨b1, b2⟩ := zgr_b hn
  refine ⟨_, rfl, ?_⟩
  refine zEs_run 1 rfl ?_
  refine zEs_get rfl h0 rfl rfl ?_
  refine zEs_alen rfl h1 (by decide) ?_
  rw [hv]
  refine zEs_run 2 rfl ?_
  refine zEs_if rfl (fun _ => ?_) (fun g => ?_)
  · refine zEs_run 7 rfl ?_
    refine zEs_callG rfl rfl (m_235 hn) (fun v h9 nc1 ns1 q => ?_) (fun E h9 nc1 ns1 q => by cases q)
    cases q
    refine zEs_run 3 rfl ?_
    refine zEs_get rfl h0 rfl rfl ?_
    refine zEs_run 1 rfl ?_
    refine zEs_callG rfl rfl (m_233 (N := zgr n) h1 hv hn (by omega) b2 hz) (fun v h9 nc1 ns1 q => ?_) (fun E h9 nc1 ns1 q => by cases q)
    cases q
    refine zEs_run 1 rfl ?_
    refine zEs_put rfl (show (h ++ [(103, vs ++ List.replicate (zgr n - n) Value.null)])[r]? = some (10, [.int m, .ref q, .int (Int32.ofNat n)]) from by rw [List.getElem?_append_left hrl]; exact h0) rfl rfl (by show 1 < 3; omega) ?_
    exact zEs_end rfl rfl rfl
  · have z := zF_gt_f g
    rw [zof_z (by omega), zero_z] at z
    exfalso
    omega
theorem m_241b (h0 : h[r]? = some (10, [.int m, .ref q, .int (Int32.ofNat n)])) (h1 : h[q]? = some (103, vs)) (hv : vs.length = n) (hn0 : 0 < n) (hn : n ≤ 500) (hz : vs.all (zelt h) = true) : zMs xs (D + 3) 241 [.ref r] h nc ns (fun o => o = (.inl (some (.ref h.length)), (h ++ [(103, vs ++ List.replicate (zgr n - n) Value.null)]).set r (10, [Value.int m, Value.ref h.length, Value.int (Int32.ofNat n)]), nc + 1, ns + zgr n)) := by
  refine ⟨_, rfl, ?_⟩
  refine zEs_run 2 rfl ?_
  refine zEs_get rfl h0 rfl rfl ?_
  refine zEs_run 2 rfl ?_
  refine zEs_callG rfl (show zcallV 1 10 240 10 [.int (Int32.ofNat n + Int32.ofInt 1), .ref r] h = _ from zcallV_eq rfl h0 (by decide)) (m_240b h0 h1 hv hn0 hn hz) (fun v h9 nc1 ns1 q => ?_) (fun E h9 nc1 ns1 q => by cases q)
  cases q
  exact zEs_end rfl rfl rfl
end ZLG
end zg28
section zg29
/-! add. -/
section ZLD
variable {xs : List Int32} {D nc ns r q n e : Nat} {h : zH} {vs w : List Value} {m : Int32} {P : zO → Prop}
set_option maxRecDepth 10000
theorem l_236 (h0 : h[r]? = some (10, [.int m, .ref q, .int (Int32.ofNat n)])) (h1 : h[q]? = some (103, vs)) (hn : n < vs.length) (hn5 : n ≤ 500) (he : h[e]? = some (100, w)) (hP : P (.inl none, (h.set q (103, vs.set n (.ref e))).set r (10, [Value.int m, Value.ref q, Value.int (Int32.ofNat (n + 1))]), nc, ns)) : zEs xs (D + 4) 236 11 [some (.ref r), some (.ref e), some (.ref q), some (.int (Int32.ofNat n))] [] h nc ns P := by
  obtain ⟨p1, p2⟩ := zof_n (n := n) (by omega)
  have hrq : ¬ q = r := by
    intro z
    subst z
    rw [h0] at h1
    cases h1
  refine zEs_run 3 rfl ?_
  refine zEs_aast rfl h1 he p1 (by rw [p2]; exact hn) ?_
  rw [p2]
  refine zEs_run 4 rfl ?_
  rw [show (fun x y : Int32 => x + y) (Int32.ofNat n) (Int32.ofInt 1) = Int32.ofNat (n + 1) from (nI_succ n).symm]
  refine zEs_put rfl (show (h.set q (103, vs.set n (.ref e)))[r]? = some (10, [.int m, .ref q, .int (Int32.ofNat n)]) from by rw [List.getElem?_set_ne hrq]; exact h0) rfl rfl (by show 2 < 3; omega) ?_
  exact zEs_end rfl rfl hP
end ZLD
end zg29
section zg30
/-! add, whole: the list takes e; what is neither the list nor its data stays. -/
/-- what add leaves: the cells of the list anew, the rest as it was -/
def zAd (h : zH) (r e : Nat) (dq : Option Nat) (es : List Nat) (nc ns : Nat) (v : Option Value) : zO → Prop := fun o => ∃ (h' : zH) (dq' : Option Nat) (nc' ns' : Nat), o = (.inl v, h', nc', ns') ∧ zLs h' r dq' (es ++ [e]) ∧ (dq' = dq ∨ dq' = some h.length) ∧ h.length ≤ h'.length ∧ nc' ≤ nc + 1 ∧ ns' ≤ ns + (2 * es.length + 11) ∧ ∀ k, k < h.length → k ≠ r → dq ≠ some k → h'[k]? = h[k]?
section ZLD
variable {xs : List Int32} {D nc ns r q n e : Nat} {h : zH} {vs w : List Value} {m : Int32} {es : List Nat}
theorem zls_fin {h1 : zH} {vs1 : List Value} (h0 : h1[r]? = some (10, [.int m, .ref q, .int (Int32.ofNat es.length)])) (hq : h1[q]? = some (103, vs1)) (hn : es.length < vs1.length) (hn5 : vs1.length ≤ 1000) (hvs : vs1.take es.length = es.map Value.ref) : zLs ((h1.set q (103, vs1.set es.length (.ref e))).set r (10, [Value.int m, Value.ref q, Value.int (Int32.ofNat (es.length + 1))])) r (some q) (es ++ [e]) := by
  have hrq : ¬ r = q := by
    intro z
    subst z
    rw [h0] at hq
    cases hq
  have hrl := (List.getElem?_eq_some_iff.mp h0).1
  have hql := (List.getElem?_eq_some_iff.mp hq).1
  refine ⟨m, vs1.set es.length (.ref e), ?_, ?_, by simp; omega, ⟨by rw [List.length_set]; omega, by rw [List.length_set]; omega⟩, ?_⟩
  · rw [List.getElem?_set_self (by simpa using hrl), List.length_append]
    rfl
  · rw [List.getElem?_set_ne hrq, List.getElem?_set_self hql]
  · refine List.ext_getElem? (fun k => ?_)
    rw [List.length_append, List.getElem?_take]
    by_cases k1 : k < es.length
    · rw [if_pos (by simp; omega), List.getElem?_set_ne (by omega), List.map_append, List.getElem?_append_left (by simpa using k1)]
      have z : (vs1.take es.length)[k]? = (es.map Value.ref)[k]? := by rw [hvs]
      rw [List.getElem?_take, if_pos k1] at z
      exact z
    · by_cases k2 : k = es.length
      · subst k2
        rw [if_pos (by simp), List.getElem?_set_self hn, List.map_append, List.getElem?_append_right (by simp)]
        simp
      · rw [if_neg (by simp; omega)]
        exact (List.getElem?_eq_none (by simp; omega)).symm
end ZLD
end zg30
section zg31
/-! add: the three cases. -/
section ZLD
variable {xs : List Int32} {D nc ns r q n e : Nat} {h : zH} {vs w : List Value} {m : Int32} {es : List Nat}
set_option maxRecDepth 10000
theorem m_236a (h0 : h[r]? = some (10, [.int m, .retAddr 1, .int (Int32.ofNat 0)])) (he : h[e]? = some (100, w)) : zMs xs (D + 4) 236 [.ref r, .ref e, .retAddr 1, .int (Int32.ofNat 0)] h nc ns (zAd h r e none [] nc ns none) := by
  have hrl := (List.getElem?_eq_some_iff.mp h0).1
  have hel := (List.getElem?_eq_some_iff.mp he).1
  have hre : ¬ r = e := by
    intro z
    subst z
    rw [h0] at he
    cases he
  refine ⟨_, rfl, ?_⟩
  refine zEs_run 3 rfl ?_
  refine zEs_icmp rfl (fun g => absurd (show Int32.ofNat 0 = 0 from by decide) g) (fun _ => ?_)
  refine zEs_run 1 rfl ?_
  refine zEs_callG rfl (show zcallV 0 10 241 10 [.ref r] h = _ from zcallV_eq rfl h0 (by decide)) (m_241a h0) (fun v h9 nc1 ns1 q => ?_) (fun E h9 nc1 ns1 q => by cases q)
  cases q
  refine zEs_run 1 rfl ?_
  have k0 : ((h ++ [(103, List.replicate 10 Value.null)]).set r (10, [Value.int m, Value.ref h.length, Value.int (Int32.ofNat 0)]))[r]? = some (10, [.int m, .ref h.length, .int (Int32.ofNat ([] : List Nat).length)]) := List.getElem?_set_self (by simp; omega)
  have k1 : ((h ++ [(103, List.replicate 10 Value.null)]).set r (10, [Value.int m, Value.ref h.length, Value.int (Int32.ofNat 0)]))[h.length]? = some (103, List.replicate 10 Value.null) := by
    rw [List.getElem?_set_ne (by omega), List.getElem?_append_right (Nat.le_refl _), Nat.sub_self]
    rfl
  have k2 : ((h ++ [(103, List.replicate 10 Value.null)]).set r (10, [Value.int m, Value.ref h.length, Value.int (Int32.ofNat 0)]))[e]? = some (100, w) := by
    rw [List.getElem?_set_ne hre, List.getElem?_append_left hel]
    exact he
  refine l_236 (n := 0) k0 k1 (by simp) (by omega) k2 ?_
  refine ⟨_, some h.length, _, _, rfl, zls_fin (es := []) k0 k1 (by simp) (by simp) rfl, Or.inr rfl, by simp, by omega, by omega, fun k a1 a2 a3 => ?_⟩
  rw [List.getElem?_set_ne (fun z => a2 z.symm), List.getElem?_set_ne (by omega), List.getElem?_set_ne (fun z => a2 z.symm), List.getElem?_append_left a1]
end ZLD
end zg31
section zg32
/-! add: room, or full. -/
section ZLD
variable {xs : List Int32} {D nc ns r q n e : Nat} {h : zH} {vs w : List Value} {m : Int32} {es : List Nat}
set_option maxRecDepth 10000
theorem m_236c (h0 : h[r]? = some (10, [.int m, .ref q, .int (Int32.ofNat es.length)])) (h1 : h[q]? = some (103, vs)) (hn : es.length < vs.length) (hc : vs.length ≤ 1000) (hn5 : es.length ≤ 500) (hvs : vs.take es.length = es.map Value.ref) (he : h[e]? = some (100, w)) : zMs xs (D + 4) 236 [.ref r, .ref e, .ref q, .int (Int32.ofNat es.length)] h nc ns (zAd h r e (some q) es nc ns none) := by
  refine ⟨_, rfl, ?_⟩
  refine zEs_run 2 rfl ?_
  refine zEs_alen rfl h1 (by decide) ?_
  refine zEs_icmp rfl (fun _ => ?_) (fun g => ?_)
  · refine l_236 h0 h1 hn hn5 he ?_
    refine ⟨_, some q, _, _, rfl, zls_fin h0 h1 hn hc hvs, Or.inl rfl, by simp, by omega, by omega, fun k a1 a2 a3 => ?_⟩
    rw [List.getElem?_set_ne (fun z => a2 z.symm), List.getElem?_set_ne (fun z => a3 (by rw [z]))]
  · have z := zF_ne_f g
    rw [zof_z (by omega), zof_z (by omega)] at z
    exfalso
    omega
theorem m_236b (h0 : h[r]? = some (10, [.int m, .ref q, .int (Int32.ofNat es.length)])) (h1 : h[q]? = some (103, vs)) (hn : vs.length = es.length) (hn0 : 0 < es.length) (hn5 : es.length ≤ 400) (hvs : vs.take es.length = es.map Value.ref) (he : h[e]? = some (100, w)) (hz : vs.all (zelt h) = true) : zMs xs (D + 4) 236 [.ref r, .ref e, .ref q, .int (Int32.ofNat es.length)] h nc ns (zAd h r e (some q) es nc ns none) := by
  have hrl := (List.getElem?_eq_some_iff.mp h0).1
  have hel := (List.getElem?_eq_some_iff.mp he).1
  have hre : ¬ r = e := by
    intro z
    subst z
    rw [h0] at he
    cases he
  obtain ⟨b1, b2⟩ := zgr_b (n := es.length) (by omega)
  have b3 : zgr es.length ≤ 700 := by
    unfold zgr
    split <;> omega
  have b4 : zgr es.length ≤ 2 * es.length + 11 := by
    unfold zgr
    split <;> omega
  refine ⟨_, rfl, ?_⟩
  refine zEs_run 2 rfl ?_
  refine zEs_alen rfl h1 (by decide) ?_
  rw [hn]
  refine zEs_icmp rfl (fun g => absurd rfl (show ¬ _ = _ from g)) (fun _ => ?_)
  refine zEs_run 1 rfl ?_
  refine zEs_callG rfl (show zcallV 0 10 241 10 [.ref r] h = _ from zcallV_eq rfl h0 (by decide)) (m_241b h0 h1 hn hn0 (by omega) hz) (fun v h9 nc1 ns1 q => ?_) (fun E h9 nc1 ns1 q => by cases q)
  cases q
  refine zEs_run 1 rfl ?_
  have k0 : ((h ++ [(103, vs ++ List.replicate (zgr es.length - es.length) Value.null)]).set r (10, [Value.int m, Value.ref h.length, Value.int (Int32.ofNat es.length)]))[r]? = some (10, [.int m, .ref h.length, .int (Int32.ofNat es.length)]) := List.getElem?_set_self (by simp; omega)
  have k1 : ((h ++ [(103, vs ++ List.replicate (zgr es.length - es.length) Value.null)]).set r (10, [Value.int m, Value.ref h.length, Value.int (Int32.ofNat es.length)]))[h.length]? = some (103, vs ++ List.replicate (zgr es.length - es.length) Value.null) := by
    rw [List.getElem?_set_ne (by omega), List.getElem?_append_right (Nat.le_refl _), Nat.sub_self]
    rfl
  have k2 : ((h ++ [(103, vs ++ List.replicate (zgr es.length - es.length) Value.null)]).set r (10, [Value.int m, Value.ref h.length, Value.int (Int32.ofNat es.length)]))[e]? = some (100, w) := by
    rw [List.getElem?_set_ne hre, List.getElem?_append_left hel]
    exact he
  refine l_236 k0 k1 (by simp; omega) (by omega) k2 ?_
  refine ⟨_, some h.length, _, _, rfl, zls_fin k0 k1 (by simp; omega) (by simp; omega) (by rw [← hvs, List.take_append_of_le_length (by omega)]), Or.inr rfl, by simp, by omega, by omega, fun k a1 a2 a3 => ?_⟩
  rw [List.getElem?_set_ne (fun z => a2 z.symm), List.getElem?_set_ne (by omega), List.getElem?_set_ne (fun z => a2 z.symm), List.getElem?_append_left a1]
end ZLD
end zg32
section zg33
/-! add, from outside. -/
section ZLD
variable {xs : List Int32} {D nc ns r q n e : Nat} {h : zH} {vs w : List Value} {m : Int32} {es : List Nat} {dq : Option Nat}
set_option maxRecDepth 10000
theorem m_237 (g : zLs h r dq es) (he : h[e]? = some (100, w)) (hel : ∀ x ∈ es, ∃ w, h[x]? = some (100, w)) (hn5 : es.length ≤ 400) : zMs xs (D + 5) 237 [.ref r, .ref e] h nc ns (zAd h r e dq es nc ns (some (.int 1))) := by
  have key : ∀ (d : Value) (m : Int32) (h0 : h[r]? = some (10, [.int m, d, .int (Int32.ofNat es.length)])), (zMs xs (D + 4) 236 [.ref r, .ref e, d, .int (Int32.ofNat es.length)] (h.set r (10, [.int (m + Int32.ofInt 1), d, .int (Int32.ofNat es.length)])) nc ns (zAd (h.set r (10, [.int (m + Int32.ofInt 1), d, .int (Int32.ofNat es.length)])) r e dq es nc ns none)) → zMs xs (D + 5) 237 [.ref r, .ref e] h nc ns (zAd h r e dq es nc ns (some (.int 1))) := by
    intro d m h0 hc
    have hrl := (List.getElem?_eq_some_iff.mp h0).1
    refine ⟨_, rfl, ?_⟩
    refine zEs_run 2 rfl ?_
    refine zEs_get rfl h0 rfl rfl ?_
    refine zEs_run 2 rfl ?_
    refine zEs_put rfl h0 rfl rfl (by show 0 < 3; omega) ?_
    have h1 : (h.set r (10, [.int (m + Int32.ofInt 1), d, .int (Int32.ofNat es.length)]))[r]? = some (10, [.int (m + Int32.ofInt 1), d, .int (Int32.ofNat es.length)]) := List.getElem?_set_self hrl
    refine zEs_run 3 rfl ?_
    refine zEs_get rfl h1 rfl rfl ?_
    refine zEs_run 1 rfl ?_
    refine zEs_get rfl h1 rfl rfl ?_
    refine zEs_callG rfl (show zcallV 3 10 236 23 [.int (Int32.ofNat es.length), d, .ref e, .ref r] (h.set r (10, [.int (m + Int32.ofInt 1), d, .int (Int32.ofNat es.length)])) = _ from zcallV_eq rfl h1 (by decide)) hc (fun v h9 nc1 ns1 q => ?_) (fun E h9 nc1 ns1 q => by obtain ⟨_, _, _, _, q, _⟩ := q; cases q)
    obtain ⟨h', dq', nc', ns', q, a1, a2, a3, a4, a5, a6⟩ := q
    cases q
    refine zEs_run 1 rfl ?_
    refine zEs_end rfl rfl ⟨h9, dq', nc1, ns1, rfl, a1, by simpa using a2, by simpa using a3, a4, a5, fun k b1 b2 b3 => ?_⟩
    rw [a6 k (by simpa using b1) b2 b3, List.getElem?_set_ne (fun z => b2 z.symm)]
  obtain ⟨m, g⟩ := g
  cases dq with
  | none =>
    obtain ⟨rfl, h0⟩ := g
    have hrl := (List.getElem?_eq_some_iff.mp h0).1
    have hre : ¬ r = e := by
      intro z
      subst z
      rw [h0] at he
      cases he
    exact key _ m h0 (m_236a (List.getElem?_set_self hrl) (by rw [List.getElem?_set_ne hre]; exact he))
  | some q =>
    obtain ⟨vs, h0, h1, h2, h3, h4⟩ := g
    have hrl := (List.getElem?_eq_some_iff.mp h0).1
    have hre : ¬ r = e := by
      intro z
      subst z
      rw [h0] at he
      cases he
    have hrq : ¬ r = q := by
      intro z
      subst z
      rw [h0] at h1
      cases h1
    have g0 : (h.set r (10, [.int (m + Int32.ofInt 1), .ref q, .int (Int32.ofNat es.length)]))[r]? = some (10, [.int (m + Int32.ofInt 1), .ref q, .int (Int32.ofNat es.length)]) := List.getElem?_set_self hrl
    have g1 : (h.set r (10, [.int (m + Int32.ofInt 1), .ref q, .int (Int32.ofNat es.length)]))[q]? = some (103, vs) := by rw [List.getElem?_set_ne hrq]; exact h1
    have g2 : (h.set r (10, [.int (m + Int32.ofInt 1), .ref q, .int (Int32.ofNat es.length)]))[e]? = some (100, w) := by rw [List.getElem?_set_ne hre]; exact he
    by_cases hf : es.length < vs.length
    · exact key _ m h0 (m_236c g0 g1 hf (by omega) (by omega) h4 g2)
    · refine key _ m h0 (m_236b g0 g1 (by omega) (by omega) hn5 h4 g2 (List.all_eq_true.mpr (fun x hx => ?_)))
      rw [List.take_of_length_le (by omega)] at h4
      rw [h4] at hx
      obtain ⟨k, hk, rfl⟩ := List.mem_map.mp hx
      obtain ⟨w2, hw⟩ := hel k hk
      have hrk : ¬ r = k := by
        intro z
        subst z
        rw [h0] at hw
        cases hw
      show (match (h.set r (10, [.int (m + Int32.ofInt 1), .ref q, .int (Int32.ofNat es.length)]))[k]? with
        | some (t, _) => decide (t = 100)
        | none => false) = true
      rw [List.getElem?_set_ne hrk, hw]
      rfl
end ZLD
end zg33
section zg34
/-! The reference: its cells, and kinds of values; what an accepted table of kinds says is proved in the parts behind this one. -/
abbrev zTy : Type := (Int × Int × Nat × Nat) ⊕ ((Nat × Int × Int × Nat) ⊕ ((Nat × Nat) ⊕ Nat))
theorem zTc {P : zTy → Prop} (t : zTy) (I : ∀ lo hi t s, P ((.inl (lo, hi, t, s)))) (B : ∀ i lo hi t, P ((.inr (.inl (i, lo, hi, t))))) (P' : ∀ lo hi, P ((.inr (.inr (.inl (lo, hi)))))) (N : P (.inr (.inr (.inr 0)))) (J : P (.inr (.inr (.inr 1)))) (D : P (.inr (.inr (.inr 2)))) (F : P (.inr (.inr (.inr 3)))) (Q : P (.inr (.inr (.inr 4)))) (C : P (.inr (.inr (.inr 5)))) (E4 : P (.inr (.inr (.inr 6)))) (E3 : P (.inr (.inr (.inr 7)))) (L : ∀ j, P ((.inr (.inr (.inr (j + 8)))))) : P t := match t with
  | (.inl (lo, hi, t, s)) => I lo hi t s
  | (.inr (.inl (i, lo, hi, t))) => B i lo hi t
  | (.inr (.inr (.inl (lo, hi)))) => P' lo hi
  | (.inr (.inr (.inr 0))) => N
  | (.inr (.inr (.inr 1))) => J
  | (.inr (.inr (.inr 2))) => D
  | (.inr (.inr (.inr 3))) => F
  | (.inr (.inr (.inr 4))) => Q
  | (.inr (.inr (.inr 5))) => C
  | (.inr (.inr (.inr 6))) => E4
  | (.inr (.inr (.inr 7))) => E3
  | (.inr (.inr (.inr (j + 8)))) => L j
abbrev zG : Type := (Nat → Int32) × (Nat → List Int32) × (Nat → Value) × (Nat → Nat) × Nat × Nat × Nat × Nat × (Nat → Nat)
abbrev zG.s (g : zG) : Nat → Int32 := g.1
abbrev zG.a (g : zG) : Nat → List Int32 := g.2.1
abbrev zG.f (g : zG) : Nat → Value := g.2.2.1
abbrev zG.p (g : zG) : Nat → Nat := g.2.2.2.1
abbrev zG.zs (g : zG) : Nat := g.2.2.2.2.1
abbrev zG.zw (g : zG) : Nat := g.2.2.2.2.2.1
abbrev zG.zn (g : zG) : Nat := g.2.2.2.2.2.2.1
abbrev zG.nl (g : zG) : Nat := g.2.2.2.2.2.2.2.1
abbrev zG.ze (g : zG) : Nat → Nat := g.2.2.2.2.2.2.2.2
/-- the bounds that are no numbers: the lists' sizes, the columns' -/
def zta (g : zG) (lg : Nat) : Nat → Int → Prop
  | 0, _ => True
  | 1, x => x < g.zs
  | 2, x => x ≤ g.zs
  | 3, x => x < g.zw
  | 4, x => x ≤ g.zw
  | 5, x => x < lg
  | 6, x => x ≤ lg
  | 7, x => x < g.zn
  | 8, x => x ≤ g.zn
  | _, _ => False
def zel4 (l : List Int32) : Prop := ∃ a b c d : Int32, l = [a, b, c, d] ∧ (0 ≤ a.toInt ∧ a.toInt ≤ 19) ∧ (0 ≤ b.toInt ∧ b.toInt ≤ 7)
def zsz (g : zG) (lg : Nat) : Nat → Nat
  | 0 => g.zs
  | 1 => g.zw
  | 2 => lg
  | j => g.ze j
def zQj : Nat → List Int32 → Prop
  | 2, l => l.length = 3
  | _, l => zel4 l
def zga (g : zG) (lg : Nat) (h : zH) (L : zL) : zTy → Value → Prop
  | (.inr (.inr (.inr 0))), _ => True
  | (.inl (lo, hi, t, src)), v => ∃ x : Int32, v = .int x ∧ lo ≤ x.toInt ∧ x.toInt ≤ hi ∧ zta g lg t x.toInt ∧ (src = 0 ∨ L[src - 1]? = some (some (.int x)))
  | (.inr (.inl (i, lo, hi, t))), v => ∃ x : Int32, v = .int x ∧ (x = 0 ∨ x = 1) ∧ (¬ x = 0 → ∃ w : Int32, L[i]? = some (some (.int w)) ∧ lo ≤ w.toInt ∧ w.toInt ≤ hi ∧ zta g lg t w.toInt)
  | (.inr (.inr (.inr 1))), v => ∃ x, v = .long x
  | (.inr (.inr (.inr 2))), v => ∃ k : Nat, k ≤ 64 ∧ v = .double (FP.ddiv (FP.i2d (Int32.ofNat k)) 4634204016564240384)
  | (.inr (.inr (.inr 3))), v => v = .double 4634204016564240384
  | (.inr (.inr (.inr 4))), v => ∃ x, v = .double x
  | (.inr (.inr (.inl (lo, hi)))), v => ∃ q, v = .ref q ∧ lo ≤ q ∧ q ≤ hi
  | (.inr (.inr (.inr 5))), v => ∃ q l, v = .ref q ∧ 73 ≤ q ∧ h[q]? = some (zar l) ∧ l.length = g.zn
  | (.inr (.inr (.inr 6))), v => ∃ q l, v = .ref q ∧ 73 ≤ q ∧ h[q]? = some (zar l) ∧ zel4 l
  | (.inr (.inr (.inr 7))), v => ∃ q l, v = .ref q ∧ 73 ≤ q ∧ h[q]? = some (zar l) ∧ l.length = 3
  | (.inr (.inr (.inr (j + 8)))), v => v = .ref (g.p j)
def zgs (g : zG) (lg : Nat) (h : zH) (L : zL) : List zTy → List Value → Prop
  | [], [] => True
  | t :: r, v :: s => zga g lg h L t v ∧ zgs g lg h L r s
  | _, _ => False
def zgl (g : zG) (lg : Nat) (h : zH) : List zTy → zL → Prop
  | [], [] => True
  | t :: r, o :: s => (t = (.inr (.inr (.inr 0))) ∨ ∃ v, o = some v ∧ zga g lg h [] t v) ∧ zgl g lg h r s
  | _, _ => False
abbrev zIA : zTy := (.inl ((-2147483648), 2147483647, 0, 0))
/-- the fields of the reference's object -/
def zfs : Nat → zTy
  | 0 => zIA
  | 1 => (.inl (4, 10, 0, 0))
  | 2 => (.inl (4, 6, 0, 0))
  | 3 => (.inr (.inr (.inr 5)))
  | 4 => (.inl (0, 2000, 0, 0))
  | 5 => (.inl (1, 100, 0, 0))
  | 6 => (.inl (2, 100, 0, 0))
  | 7 => (.inl (0, 8, 0, 0))
  | 8 => (.inl (0, 1, 0, 0))
  | 9 => (.inl (0, 1, 0, 0))
  | 10 => (.inl (0, 127, 0, 0))
  | 11 => (.inl ((-1), 250, 0, 0))
  | 12 => zIA
  | 13 => zIA
  | 14 => zIA
  | 15 => zIA
  | 16 => (.inr (.inr (.inl (46, 46))))
  | 17 => (.inr (.inr (.inl (67, 67))))
  | 18 => (.inr (.inr (.inl (68, 68))))
  | 19 => (.inr (.inr (.inl (69, 69))))
  | 20 => (.inr (.inr (.inl (70, 70))))
  | 21 => (.inr (.inr (.inl (71, 71))))
  | 22 => (.inr (.inr (.inl (72, 72))))
  | 23 => (.inr (.inr (.inr 8)))
  | 24 => (.inr (.inr (.inr 9)))
  | 25 => (.inr (.inr (.inr 10)))
  | _ => (.inr (.inr (.inr 0)))
/-- the rows of ints and booleans: tag, length, bounds -/
def zsp (q : Nat) : Option (Nat × Nat × Int × Int) :=
  if 47 ≤ q ∧ q ≤ 66 then some (100, 8, -2147483648, 2147483647)
  else if q = 67 ∨ q = 68 then some (100, 20, -2147483648, 2147483647)
  else if q = 69 then some (100, 16, 0, 19)
  else if q = 70 then some (100, 2, 0, 2)
  else if q = 71 ∨ q = 72 then some (101, 128, 0, 1) else none
/-- the fields that only methods written by hand may change -/
def zfz : List Nat := [1, 2, 3, 4, 13]
def zLi (h : zH) (r n : Nat) (Q : List Int32 → Prop) (dq : Option Nat) : Prop := ∃ es : List Nat, zLs h r dq es ∧ es.length = n ∧ ∀ e ∈ es, 73 ≤ e ∧ ∃ l, h[e]? = some (zar l) ∧ Q l
abbrev zHI (g : zG) (lg : Nat) (h : zH) : Prop := (h.take 44 = zx g.s g.a []) ∧ (∃ vs, h[44]? = some (7, vs) ∧ vs.length = 26 ∧ (∀ k, k < 26 → ∃ v, vs[k]? = some v ∧ zga g lg h [] (zfs k) v) ∧ ∀ k ∈ zfz, vs[k]? = some (g.f k)) ∧ (h[46]? = some (104, (List.range 20).map (fun j => .ref (47 + j)))) ∧ (∀ q t n lo hi, zsp q = some (t, n, lo, hi) → ∃ l : List Int32, h[q]? = some (t, l.map Value.int) ∧ l.length = n ∧ ∀ x ∈ l, lo ≤ x.toInt ∧ x.toInt ≤ hi) ∧ (∃ E : Nat → Option Nat, ∀ j, j < g.nl → 73 ≤ g.p j ∧ zLi h (g.p j) (zsz g lg j) (zQj j) (E j) ∧ (∀ q, E j = some q → 73 ≤ q) ∧ ∀ i, i < g.nl → i ≠ j → g.p i ≠ g.p j ∧ ∀ q, E j = some q → E i ≠ some q) ∧ (∃ x y : Int32, g.f 1 = .int x ∧ g.f 2 = .int y ∧ x.toInt + y.toInt = g.zn) ∧ (g.zs ≤ 24 ∧ g.zw ≤ 24 ∧ lg ≤ 40 ∧ 8 ≤ g.zn ∧ g.zn ≤ 16 ∧ 3 ≤ g.nl ∧ ∀ j, g.ze j ≤ 24)
theorem zHI.cls {g : zG} {lg : Nat} {h : zH} (k : zHI g lg h) : h.take 44 = zx g.s g.a [] := k.1
theorem zHI.obj {g : zG} {lg : Nat} {h : zH} (k : zHI g lg h) : ∃ vs, h[44]? = some (7, vs) ∧ vs.length = 26 ∧ (∀ k, k < 26 → ∃ v, vs[k]? = some v ∧ zga g lg h [] (zfs k) v) ∧ ∀ k ∈ zfz, vs[k]? = some (g.f k) := k.2.1
theorem zHI.outer {g : zG} {lg : Nat} {h : zH} (k : zHI g lg h) : h[46]? = some (104, (List.range 20).map (fun j => .ref (47 + j))) := k.2.2.1
theorem zHI.rows {g : zG} {lg : Nat} {h : zH} (k : zHI g lg h) : ∀ q t n lo hi, zsp q = some (t, n, lo, hi) → ∃ l : List Int32, h[q]? = some (t, l.map Value.int) ∧ l.length = n ∧ ∀ x ∈ l, lo ≤ x.toInt ∧ x.toInt ≤ hi := k.2.2.2.1
theorem zHI.lists {g : zG} {lg : Nat} {h : zH} (k : zHI g lg h) : ∃ E : Nat → Option Nat, ∀ j, j < g.nl → 73 ≤ g.p j ∧ zLi h (g.p j) (zsz g lg j) (zQj j) (E j) ∧ (∀ q, E j = some q → 73 ≤ q) ∧ ∀ i, i < g.nl → i ≠ j → g.p i ≠ g.p j ∧ ∀ q, E j = some q → E i ≠ some q := k.2.2.2.2.1
theorem zHI.bits {g : zG} {lg : Nat} {h : zH} (k : zHI g lg h) : ∃ x y : Int32, g.f 1 = .int x ∧ g.f 2 = .int y ∧ x.toInt + y.toInt = g.zn := k.2.2.2.2.2.1
theorem zHI.sizes {g : zG} {lg : Nat} {h : zH} (k : zHI g lg h) : g.zs ≤ 24 ∧ g.zw ≤ 24 ∧ lg ≤ 40 ∧ 8 ≤ g.zn ∧ g.zn ≤ 16 ∧ 3 ≤ g.nl ∧ ∀ j, g.ze j ≤ 24 := k.2.2.2.2.2.2
/-- what lies behind the fixed cells stays, but for lists -/
def zLE (h h' : zH) : Prop := ∀ q c, 73 ≤ q → h[q]? = some c → ¬ c.1 = 10 → ¬ c.1 = 103 → h'[q]? = some c
theorem zLEz {h h' : zH} {q : Nat} {l : List Int32} (k : zLE h h') (a : 73 ≤ q) (b : h[q]? = some (zar l)) : h'[q]? = some (zar l) := k q _ a b (show ¬ 100 = 10 by decide) (show ¬ 100 = 103 by decide)
/-- a method's contract: arguments, result, depth, cells, slots -/
abbrev zCt : Type := Nat × List zTy × Option zTy × Nat × Nat × Nat
abbrev zCt.y (c : zCt) : Nat := c.1
abbrev zCt.as (c : zCt) : List zTy := c.2.1
abbrev zCt.rt (c : zCt) : Option zTy := c.2.2.1
abbrev zCt.dep (c : zCt) : Nat := c.2.2.2.1
abbrev zCt.dc (c : zCt) : Nat := c.2.2.2.2.1
abbrev zCt.ds (c : zCt) : Nat := c.2.2.2.2.2
def zgo2 (g : zG) (lg : Nat) (h : zH) (L : zL) : Option zTy → Option Value → Prop
  | none, v => v = none
  | some t, v => ∃ w, v = some w ∧ zga g lg h L t w
def zPm (g : zG) (lg : Nat) (h : zH) (nc ns : Nat) (rt : Option zTy) (dc ds : Nat) (as : List Value) : zO → Prop := fun o => ∃ v h' lg' nc' ns', o = (.inl v, h', nc', ns') ∧ zgo2 g lg' h' (as.map some) rt v ∧ zHI g lg' h' ∧ zLE h h' ∧ lg ≤ lg' ∧ nc' + 2 * lg ≤ nc + 2 * lg' + dc ∧ ns' + 100 * lg ≤ ns + 100 * lg' + ds
def zGd (xs : List Int32) (ct : zCt) : Prop := ∀ g lg h nc ns as, zHI g lg h → zgs g lg h [] ct.as as → zMs xs ct.dep ct.y as h nc ns (zPm g lg h nc ns ct.rt ct.dc ct.ds as)
/-! What is kept. -/
theorem zta_mo {g : zG} {lg lg' t : Nat} {x : Int} (hl : lg ≤ lg') (h : zta g lg t x) : zta g lg' t x := by
  unfold zta at h ⊢
  split at h <;> first | exact h | (show x < _; have h : x < (lg : Int) := h; omega) | (show x ≤ _; have h : x ≤ (lg : Int) := h; omega)
theorem zga_mo {g : zG} {lg lg' : Nat} {h h' : zH} {L : zL} {t : zTy} {v : Value} (hl : lg ≤ lg') (hh : zLE h h') (k : zga g lg h L t v) : zga g lg' h' L t v := by
  induction t using zTc with
  | I lo hi t src =>
    obtain ⟨x, e, a, b, c, d⟩ := k
    exact ⟨x, e, a, b, zta_mo hl c, d⟩
  | B i lo hi t =>
    obtain ⟨x, e, a, b⟩ := k
    refine ⟨x, e, a, fun z => ?_⟩
    obtain ⟨w, c1, c2, c3, c4⟩ := b z
    exact ⟨w, c1, c2, c3, zta_mo hl c4⟩
  | C =>
    obtain ⟨q, l, e, a, b, c⟩ := k
    exact ⟨q, l, e, a, zLEz hh a b, c⟩
  | E4 =>
    obtain ⟨q, l, e, a, b, c⟩ := k
    exact ⟨q, l, e, a, zLEz hh a b, c⟩
  | E3 =>
    obtain ⟨q, l, e, a, b, c⟩ := k
    exact ⟨q, l, e, a, zLEz hh a b, c⟩
  | _ => exact k
theorem zgs_mo {g : zG} {lg lg' : Nat} {h h' : zH} {L : zL} (hl : lg ≤ lg') (hh : zLE h h') : ∀ {S : List zTy} {st : List Value}, zgs g lg h L S st → zgs g lg' h' L S st
  | [], [], _ => trivial
  | _ :: _, _ :: _, k => ⟨zga_mo hl hh k.1, zgs_mo hl hh k.2⟩
  | [], _ :: _, k => k.elim
  | _ :: _, [], k => k.elim
theorem zgl_mo {g : zG} {lg lg' : Nat} {h h' : zH} (hl : lg ≤ lg') (hh : zLE h h') : ∀ {S : List zTy} {L : zL}, zgl g lg h S L → zgl g lg' h' S L
  | [], [], _ => trivial
  | _ :: _, _ :: _, k => ⟨k.1.imp id (fun ⟨v, a, b⟩ => ⟨v, a, zga_mo hl hh b⟩), zgl_mo hl hh k.2⟩
  | [], _ :: _, k => k.elim
  | _ :: _, [], k => k.elim
theorem zga_L {g : zG} {lg : Nat} {h : zH} {L : zL} {t : zTy} {v : Value} (k : zga g lg h [] t v) : zga g lg h L t v := by
  induction t using zTc with
  | I lo hi t src =>
    obtain ⟨x, e, a, b, c, d⟩ := k
    refine ⟨x, e, a, b, c, Or.inl (d.resolve_right ?_)⟩
    intro z
    cases z
  | B i lo hi t =>
    obtain ⟨x, e, a, b⟩ := k
    refine ⟨x, e, a, fun z => ?_⟩
    obtain ⟨w, c1, c2, c3, c4⟩ := b z
    cases c1
  | _ => exact k
/-- without what it says of the locals -/
def zfl : zTy → zTy
  | (.inl (lo, hi, t, _)) => (.inl (lo, hi, t, 0))
  | (.inr (.inl (_, _, _, _))) => (.inl (0, 1, 0, 0))
  | t => t
theorem zga_fl {g : zG} {lg : Nat} {h : zH} {L L' : zL} {t : zTy} {v : Value} (k : zga g lg h L t v) : zga g lg h L' (zfl t) v := by
  induction t using zTc with
  | I lo hi t src =>
    obtain ⟨x, e, a, b, c, d⟩ := k
    exact ⟨x, e, a, b, c, Or.inl rfl⟩
  | B i lo hi t =>
    obtain ⟨x, e, a, b⟩ := k
    refine ⟨x, e, ?_, ?_, trivial, Or.inl rfl⟩ <;> rcases a with rfl | rfl <;> decide
  | _ => exact k
def zfree : zTy → Bool
  | (.inl (_, _, _, s)) => s == 0
  | (.inr (.inl (_, _, _, _))) => false
  | _ => true
theorem zgs_free {g : zG} {lg : Nat} {h : zH} {L L' : zL} : ∀ {S : List zTy} {st : List Value}, S.all zfree = true → zgs g lg h L S st → zgs g lg h L' S st
  | [], [], _, _ => trivial
  | t :: r, _ :: _, f, k => by
    rw [List.all_cons, Bool.and_eq_true] at f
    refine ⟨?_, zgs_free f.2 k.2⟩
    have e : zfl t = t := by
      induction t using zTc with
      | I lo hi t s =>
        have z : s = 0 := by simpa [zfree] using f.1
        subst z
        rfl
      | B i lo hi t => exact absurd f.1 (by simp [zfree])
      | _ => rfl
    have z := zga_fl (L' := L') k.1
    rw [e] at z
    exact z
  | [], _ :: _, _, k => k.elim
  | _ :: _, [], _, k => k.elim
/-- below -/
def zsub : zTy → zTy → Bool
  | _, (.inr (.inr (.inr 0))) => true
  | (.inl (a, b, t, s)), (.inl (a', b', t', s')) => decide (a' ≤ a) && decide (b ≤ b') && (t' == 0 || t' == t || (t % 2 == 1 && t' == t + 1)) && (s' == 0 || s' == s)
  | (.inr (.inl (_, _, _, _))), (.inl (a', b', t', s')) => decide (a' ≤ 0) && decide (1 ≤ b') && t' == 0 && s' == 0
  | (.inr (.inl (i, a, b, t))), (.inr (.inl (i', a', b', t'))) => i == i' && decide (a = a') && decide (b = b') && t == t'
  | (.inr (.inr (.inr 1))), (.inr (.inr (.inr 1))) => true
  | (.inr (.inr (.inr 2))), (.inr (.inr (.inr 2))) => true
  | (.inr (.inr (.inr 3))), (.inr (.inr (.inr 3))) => true
  | (.inr (.inr (.inr 4))), (.inr (.inr (.inr 4))) => true
  | (.inr (.inr (.inr 2))), (.inr (.inr (.inr 4))) => true
  | (.inr (.inr (.inl (a, b)))), (.inr (.inr (.inl (a', b')))) => decide (a' ≤ a) && decide (b ≤ b')
  | (.inr (.inr (.inr 5))), (.inr (.inr (.inr 5))) => true
  | (.inr (.inr (.inr 6))), (.inr (.inr (.inr 6))) => true
  | (.inr (.inr (.inr 7))), (.inr (.inr (.inr 7))) => true
  | (.inr (.inr (.inr (j + 8)))), (.inr (.inr (.inr (j' + 8)))) => j == j'
  | _, _ => false
theorem zta_w {g : zG} {lg t : Nat} {x : Int} (h : zta g lg t x) (ht : t % 2 = 1) : zta g lg (t + 1) x := by
  unfold zta at h
  split at h <;> first | omega | exact Int.le_of_lt h | exact h.elim
theorem zsb_ok {g : zG} {lg : Nat} {h : zH} {L : zL} {t t' : zTy} {v : Value} (e : zsub t t' = true) (k : zga g lg h L t v) : zga g lg h L t' v := by
  unfold zsub at e
  split at e
  · trivial
  · next a b t s a' b' t' s' =>
    simp only [Bool.and_eq_true, Bool.or_eq_true, decide_eq_true_eq, beq_iff_eq] at e
    obtain ⟨⟨⟨e1, e2⟩, e3⟩, e4⟩ := e
    obtain ⟨x, q, k1, k2, k3, k4⟩ := k
    refine ⟨x, q, Int.le_trans e1 k1, Int.le_trans k2 e2, ?_, ?_⟩
    · rcases e3 with (rfl | rfl) | ⟨z, rfl⟩
      · trivial
      · exact k3
      · exact zta_w k3 z
    · rcases e4 with rfl | rfl
      · exact Or.inl rfl
      · exact k4
  · next i a b t a' b' t' s' =>
    simp only [Bool.and_eq_true, decide_eq_true_eq, beq_iff_eq] at e
    obtain ⟨⟨⟨e1, e2⟩, rfl⟩, rfl⟩ := e
    obtain ⟨x, q, k1, k2⟩ := k
    refine ⟨x, q, ?_, ?_, trivial, Or.inl rfl⟩ <;> rcases k1 with rfl | rfl
    · show a' ≤ 0
      exact e1
    · show a' ≤ 1
      omega
    · show (0 : Int) ≤ b'
      omega
    · show (1 : Int) ≤ b'
      exact e2
  · next i a b t i' a' b' t' =>
    simp only [Bool.and_eq_true, decide_eq_true_eq, beq_iff_eq] at e
    obtain ⟨⟨⟨rfl, rfl⟩, rfl⟩, rfl⟩ := e
    exact k
  · exact k
  · exact k
  · exact k
  · exact k
  · obtain ⟨q, -, k⟩ := k
    exact ⟨_, k⟩
  · next a b a' b' =>
    simp only [Bool.and_eq_true, decide_eq_true_eq] at e
    obtain ⟨q, rfl, k1, k2⟩ := k
    exact ⟨q, rfl, Nat.le_trans e.1 k1, Nat.le_trans k2 e.2⟩
  · exact k
  · exact k
  · exact k
  · next j j' =>
    rw [beq_iff_eq] at e
    subst e
    exact k
  · cases e
def zsbs : List zTy → List zTy → Bool
  | [], [] => true
  | t :: r, t' :: r' => zsub t t' && zsbs r r'
  | _, _ => false
theorem zsbs_s {g : zG} {lg : Nat} {h : zH} {L : zL} : ∀ {S S' : List zTy} {st : List Value}, zsbs S S' = true → zgs g lg h L S st → zgs g lg h L S' st
  | [], [], [], _, _ => trivial
  | t :: r, t' :: r', v :: s, e, k => by
    have e : (zsub t t' && zsbs r r') = true := e
    rw [Bool.and_eq_true] at e
    exact ⟨zsb_ok e.1 k.1, zsbs_s e.2 k.2⟩
  | [], _, _ :: _, _, k => k.elim
  | _ :: _, _, [], _, k => k.elim
  | [], _ :: _, _, e, _ => by cases e
  | _ :: _, [], _, e, _ => by cases e
theorem zsbs_l {g : zG} {lg : Nat} {h : zH} : ∀ {S S' : List zTy} {L : zL}, zsbs S S' = true → zgl g lg h S L → zgl g lg h S' L
  | [], [], [], _, _ => trivial
  | t :: r, t' :: r', v :: s, e, k => by
    have e : (zsub t t' && zsbs r r') = true := e
    rw [Bool.and_eq_true] at e
    refine ⟨?_, zsbs_l e.2 k.2⟩
    rcases k.1 with rfl | ⟨v, rfl, k1⟩
    · left
      have e := e.1
      induction t' using zTc <;> first | rfl | cases e
    · exact Or.inr ⟨v, rfl, zsb_ok e.1 k1⟩
  | [], _, _ :: _, _, k => k.elim
  | _ :: _, _, [], _, k => k.elim
  | [], _ :: _, _, e, _ => by cases e
  | _ :: _, [], _, e, _ => by cases e
end zg34
section zg35
/-! Bounds of ints. -/
theorem zbm {n : Int} (h1 : -2147483648 ≤ n) (h2 : n ≤ 2147483647) : n.bmod (2 ^ 32) = n := by
  rw [Int.bmod_def, show (((2 : Nat) ^ 32 : Nat) : Int) = 4294967296 from rfl]
  split <;> omega
theorem zIA_ok {g : zG} {lg : Nat} {h : zH} {L : zL} (x : Int32) : zga g lg h L zIA (.int x) := ⟨x, rfl, Int32.le_toInt x, by have := Int32.toInt_lt x; omega, trivial, Or.inl rfl⟩
def zmk (lo hi : Int) : zTy := if -2147483648 ≤ lo ∧ hi ≤ 2147483647 then (.inl (lo, hi, 0, 0)) else zIA
theorem zmk_ok {g : zG} {lg : Nat} {h : zH} {L : zL} {x : Int32} {lo hi z : Int} (e : x.toInt = z.bmod (2 ^ 32)) (h1 : lo ≤ z) (h2 : z ≤ hi) : zga g lg h L (zmk lo hi) (.int x) := by
  unfold zmk
  split
  · next q =>
    rw [zbm (by omega) (by omega)] at e
    exact ⟨x, rfl, by omega, by omega, trivial, Or.inl rfl⟩
  · exact zIA_ok x
def zlo : zTy → Option (Int × Int × Nat)
  | (.inl (lo, hi, t, _)) => some (lo, hi, t)
  | (.inr (.inl (_, _, _, _))) => some (0, 1, 0)
  | _ => none
def zsrc : zTy → Nat
  | (.inl (_, _, _, s)) => s
  | _ => 0
theorem zlo_ok {g : zG} {lg : Nat} {h : zH} {L : zL} {t : zTy} {v : Value} {a b : Int} {c : Nat} (e : zlo t = some (a, b, c)) (k : zga g lg h L t v) : ∃ x : Int32, v = .int x ∧ a ≤ x.toInt ∧ x.toInt ≤ b ∧ zta g lg c x.toInt ∧ (zsrc t = 0 ∨ L[zsrc t - 1]? = some (some (.int x))) := by
  induction t using zTc with
  | I lo hi t src =>
    cases e
    exact k
  | B i lo hi t =>
    cases e
    obtain ⟨x, e, k, -⟩ := k
    refine ⟨x, e, ?_, ?_, trivial, Or.inl rfl⟩ <;> rcases k with rfl | rfl <;> decide
  | _ => cases e
/-- below the bound, strictly -/
def ztl : Nat → Nat
  | 2 => 1
  | 4 => 3
  | 6 => 5
  | 8 => 7
  | t => t
theorem ztl_ok {g : zG} {lg t : Nat} {x y : Int} (hx : x < y) (k : zta g lg t y) : zta g lg (ztl t) x := by
  unfold zta at k
  split at k <;> first | trivial | exact k.elim | exact Int.lt_of_lt_of_le hx k | exact Int.lt_trans hx k
theorem zta_le {g : zG} {lg t : Nat} {x y : Int} (hx : x ≤ y) (k : zta g lg t y) : zta g lg t x := by
  unfold zta at k ⊢
  split at k <;> first | trivial | exact k.elim | exact Int.le_trans hx k | exact Int.lt_of_le_of_lt hx k
/-- operations on two ints: x below, y on top -/
def zbA (i : Instr) (a b a2 b2 : Int) (t : Nat) : Option zTy := match i with
  | .iadd => some (zmk (a + a2) (b + b2))
  | .isub => some (if -2147483648 ≤ a - b2 ∧ b - a2 ≤ 2147483647 then (.inl ((a - b2), (b - a2), (if a2 = 1 ∧ b2 = 1 then ztl t else 0), 0)) else zIA)
  | .imul => some (if a2 = b2 ∧ 0 ≤ a2 then zmk (a * a2) (b * a2) else if a = b ∧ 0 ≤ a then zmk (a2 * a) (b2 * a) else zIA)
  | .idiv => if 0 < a2 then some (if 0 ≤ a ∧ a2 = b2 then (.inl ((a / a2), (b / a2), 0, 0)) else zIA) else none
  | .irem => if 0 < a2 then some (if 0 ≤ a then (.inl (0, (min b (b2 - 1)), 0, 0)) else zIA) else none
  | .iand => some zIA
  | .ior => some (if 0 ≤ a ∧ b ≤ 1 ∧ 0 ≤ a2 ∧ b2 ≤ 1 then (.inl (0, 1, 0, 0)) else zIA)
  | .ixor => some zIA
  | .ishl => some zIA
  | .ishr => some zIA
  | _ => none
theorem zbA_ok {g : zG} {lg : Nat} {h : zH} {L : zL} {xs : List Int32} {i : Instr} {a b a2 b2 : Int} {t pc nx k y n c : Nat} {T : zTy} {x z : Int32} {r : List Value} (e : zbA i a b a2 b2 t = some T) (h1 : a ≤ x.toInt) (h2 : x.toInt ≤ b) (h3 : a2 ≤ z.toInt) (h4 : z.toInt ≤ b2) (ht : zta g lg t x.toInt) : ∃ w, zstep zcf xs pc i nx k y n c L (.int z :: .int x :: r) h = some (.inl (nx, L, .int w :: r, h, 0, 0)) ∧ zga g lg h L T (.int w) := by
  unfold zbA at e
  split at e
  · cases e
    refine ⟨x + z, rfl, zmk_ok (Int32.toInt_add x z) (by omega) (by omega)⟩
  · cases e
    refine ⟨x - z, rfl, ?_⟩
    split
    · next q =>
      have e := Int32.toInt_sub x z
      rw [zbm (by omega) (by omega)] at e
      refine ⟨_, rfl, by omega, by omega, ?_, Or.inl rfl⟩
      split
      · exact ztl_ok (by omega) ht
      · trivial
    · exact zIA_ok _
  · cases e
    refine ⟨x * z, rfl, ?_⟩
    split
    · next q =>
      obtain ⟨q1, q2⟩ := q
      have e : z.toInt = a2 := by omega
      refine zmk_ok (Int32.toInt_mul x z) ?_ ?_
      · rw [e]
        exact Int.mul_le_mul_of_nonneg_right h1 q2
      · rw [e]
        exact Int.mul_le_mul_of_nonneg_right h2 q2
    · split
      · next q =>
        obtain ⟨q1, q2⟩ := q
        have e : x.toInt = a := by omega
        refine zmk_ok (Int32.toInt_mul x z) ?_ ?_
        · rw [e, Int.mul_comm]
          exact Int.mul_le_mul_of_nonneg_left h3 q2
        · rw [e, Int.mul_comm b2]
          exact Int.mul_le_mul_of_nonneg_left h4 q2
      · exact zIA_ok _
  · split at e
    · next q =>
      cases e
      have hz : ¬ z = 0 := by
        rintro rfl
        rw [zero_z] at h3
        omega
      refine ⟨x / z, if_neg hz, ?_⟩
      split
      · next q2 =>
        obtain ⟨q2, q3⟩ := q2
        have e2 := Int32.toInt_div_of_ne_right x z (by rintro rfl; have : (-1 : Int32).toInt = -1 := by decide
                                                       omega)
        rw [Int.tdiv_eq_ediv_of_nonneg (by omega), show z.toInt = a2 by omega] at e2
        refine ⟨_, rfl, ?_, ?_, trivial, Or.inl rfl⟩
        · rw [e2]
          exact Int.ediv_le_ediv q h1
        · rw [e2]
          exact Int.ediv_le_ediv q h2
      · exact zIA_ok _
    · cases e
  · split at e
    · next q =>
      cases e
      have hz : ¬ z = 0 := by
        rintro rfl
        rw [zero_z] at h3
        omega
      refine ⟨x - x / z * z, if_neg hz, ?_⟩
      split
      · next q2 =>
        have e2 := Int32.toInt_div_of_ne_right x z (by rintro rfl; have : (-1 : Int32).toInt = -1 := by decide
                                                       omega)
        rw [Int.tdiv_eq_ediv_of_nonneg (by omega)] at e2
        have hx := Int32.toInt_lt x
        have m1 := Int.emod_add_mul_ediv x.toInt z.toInt
        have m2 := Int.emod_nonneg x.toInt (show z.toInt ≠ 0 by omega)
        have m3 := Int.emod_lt_of_pos x.toInt (show 0 < z.toInt by omega)
        have m4 : 0 ≤ x.toInt / z.toInt := Int.ediv_nonneg (by omega) (by omega)
        have m5 : 0 ≤ z.toInt * (x.toInt / z.toInt) := Int.mul_nonneg (by omega) m4
        have e3 := Int32.toInt_mul (x / z) z
        rw [e2, Int.mul_comm, zbm (by omega) (by omega)] at e3
        have e4 := Int32.toInt_sub x (x / z * z)
        rw [e3, zbm (by omega) (by omega)] at e4
        refine ⟨_, rfl, by omega, by omega, trivial, Or.inl rfl⟩
      · exact zIA_ok _
    · cases e
  · cases e
    exact ⟨_, rfl, zIA_ok _⟩
  · cases e
    refine ⟨x ||| z, rfl, ?_⟩
    split
    · next q =>
      have u1 : x = 0 ∨ x = 1 := by
        rcases (show x.toInt = 0 ∨ x.toInt = 1 by omega) with w | w
        · exact Or.inl (Int32.toInt_inj.mp w)
        · exact Or.inr (Int32.toInt_inj.mp w)
      have u2 : z = 0 ∨ z = 1 := by
        rcases (show z.toInt = 0 ∨ z.toInt = 1 by omega) with w | w
        · exact Or.inl (Int32.toInt_inj.mp w)
        · exact Or.inr (Int32.toInt_inj.mp w)
      refine ⟨_, rfl, ?_, ?_, trivial, Or.inl rfl⟩ <;> rcases u1 with rfl | rfl <;> rcases u2 with rfl | rfl <;> decide
    · exact zIA_ok _
  all_goals first
    | (cases e; exact ⟨_, rfl, zIA_ok _⟩)
    | cases e
/-! Branches. -/
def zci (q : ClassFile.Cond) (a b : Int) : Prop := match q with
  | .eq => a = b
  | .ne => ¬ a = b
  | .lt => a < b
  | .ge => b ≤ a
  | .gt => b < a
  | .le => a ≤ b
def znq : ClassFile.Cond → ClassFile.Cond
  | .eq => .ne
  | .ne => .eq
  | .lt => .ge
  | .ge => .lt
  | .gt => .le
  | .le => .gt
def zfq : ClassFile.Cond → ClassFile.Cond
  | .eq => .eq
  | .ne => .ne
  | .lt => .gt
  | .ge => .le
  | .gt => .lt
  | .le => .ge
theorem zci_t {q : ClassFile.Cond} {x y : Int32} (g : zcq q x y) : zci q x.toInt y.toInt := by
  cases q
  · exact zF_eq_t g
  · exact zF_ne_t g
  · exact zF_lt_t g
  · exact zF_ge_t g
  · exact zF_gt_t g
  · exact zF_le_t g
theorem zci_f {q : ClassFile.Cond} {x y : Int32} (g : zcn9 q x y) : zci (znq q) x.toInt y.toInt := by
  cases q
  · exact zF_eq_f g
  · exact zF_ne_f g
  · exact zF_lt_f g
  · exact zF_ge_f g
  · exact zF_gt_f g
  · exact zF_le_f g
theorem zci_s {q : ClassFile.Cond} {a b : Int} (g : zci q a b) : zci (zfq q) b a := by
  cases q <;> first | exact g | exact Eq.symm g | exact fun z => g z.symm
def zrf (q : ClassFile.Cond) (a b : Int) (t : Nat) (a2 b2 : Int) (t2 : Nat) : Int × Int × Nat := match q with
  | .eq => (max a a2, min b b2, if t = 0 then t2 else t)
  | .ne => if a2 = b2 then (if a = a2 then (a + 1, b, t) else if b = a2 then (a, b - 1, t) else (a, b, t)) else (a, b, t)
  | .lt => (a, min b (b2 - 1), if t = 0 then ztl t2 else t)
  | .le => (a, min b b2, if t = 0 then t2 else t)
  | .gt => (max a (a2 + 1), b, t)
  | .ge => (max a a2, b, t)
theorem zrf_ok {g : zG} {lg : Nat} {q : ClassFile.Cond} {a b a2 b2 x y : Int} {t t2 : Nat} (h1 : a ≤ x) (h2 : x ≤ b) (h3 : zta g lg t x) (k1 : a2 ≤ y) (k2 : y ≤ b2) (k3 : zta g lg t2 y) (hq : zci q x y) : (zrf q a b t a2 b2 t2).1 ≤ x ∧ x ≤ (zrf q a b t a2 b2 t2).2.1 ∧ zta g lg (zrf q a b t a2 b2 t2).2.2 x := by
  cases q
  · have hq : x = y := hq
    subst hq
    refine ⟨show max a a2 ≤ x by omega, show x ≤ min b b2 by omega, ?_⟩
    show zta g lg (if t = 0 then t2 else t) x
    split <;> assumption
  · have hq : ¬ x = y := hq
    unfold zrf
    dsimp only
    split
    · split
      · exact ⟨show a + 1 ≤ x by omega, h2, h3⟩
      · split
        · exact ⟨h1, show x ≤ b - 1 by omega, h3⟩
        · exact ⟨h1, h2, h3⟩
    · exact ⟨h1, h2, h3⟩
  · have hq : x < y := hq
    refine ⟨h1, show x ≤ min b (b2 - 1) by omega, ?_⟩
    show zta g lg (if t = 0 then ztl t2 else t) x
    split
    · exact ztl_ok hq k3
    · exact h3
  · have hq : y ≤ x := hq
    exact ⟨show max a a2 ≤ x by omega, h2, h3⟩
  · have hq : y < x := hq
    exact ⟨show max a (a2 + 1) ≤ x by omega, h2, h3⟩
  · have hq : x ≤ y := hq
    refine ⟨h1, show x ≤ min b b2 by omega, ?_⟩
    show zta g lg (if t = 0 then t2 else t) x
    split
    · exact zta_le hq k3
    · exact h3
/-! Locals. -/
theorem zgl_set {g : zG} {lg : Nat} {h : zH} {T : zTy} {v : Value} : ∀ {A : List zTy} {L : zL} {i : Nat}, zgl g lg h A L → L[i]? = some (some v) → zga g lg h [] T v → zgl g lg h (A.set i T) L
  | [], [], _, _, e, _ => by cases e
  | _ :: _, _ :: _, 0, k, e, z => by
    cases e
    exact ⟨Or.inr ⟨_, rfl, z⟩, k.2⟩
  | _ :: _, _ :: _, i + 1, k, e, z => ⟨k.1, zgl_set (i := i) k.2 e z⟩
  | [], _ :: _, _, k, _, _ => k.elim
  | _ :: _, [], _, k, _, _ => k.elim
theorem zgl_get {g : zG} {lg : Nat} {h : zH} {T : zTy} : ∀ {A : List zTy} {L : zL} {i : Nat}, zgl g lg h A L → A[i]? = some T → T = (.inr (.inr (.inr 0))) ∨ ∃ v, L[i]? = some (some v) ∧ zga g lg h [] T v
  | [], [], _, _, e => by cases e
  | _ :: _, _ :: _, 0, k, e => by
    cases e
    exact k.1.imp id (fun ⟨v, a, b⟩ => ⟨v, congrArg some a, b⟩)
  | _ :: _, _ :: _, i + 1, k, e => zgl_get (i := i) k.2 e
  | [], _ :: _, _, k, _ => k.elim
  | _ :: _, [], _, k, _ => k.elim
def zput1 (A : List zTy) (s : Nat) (T : zTy) : List zTy := if s = 0 then A else A.set (s - 1) T
theorem zput1_ok {g : zG} {lg : Nat} {h : zH} {T : zTy} {v : Value} {A : List zTy} {L : zL} {s : Nat} (k : zgl g lg h A L) (e : s = 0 ∨ L[s - 1]? = some (some v)) (z : zga g lg h [] T v) : zgl g lg h (zput1 A s T) L := by
  unfold zput1
  split
  · exact k
  · next q => exact zgl_set k (e.resolve_left q) z
def zbrA (q : ClassFile.Cond) (x y : zTy) (A r : List zTy) (pc : Nat) : List (Nat × List zTy × List zTy) := match zlo x, zlo y with
  | some (a, b, t), some (a2, b2, t2) =>
    if (zrf q a b t a2 b2 t2).1 ≤ (zrf q a b t a2 b2 t2).2.1 ∧ (zrf (zfq q) a2 b2 t2 a b t).1 ≤ (zrf (zfq q) a2 b2 t2 a b t).2.1 then
      [(pc, zput1 (zput1 A (zsrc x) ((.inl ((zrf q a b t a2 b2 t2).1, (zrf q a b t a2 b2 t2).2.1, (zrf q a b t a2 b2 t2).2.2, 0)))) (zsrc y) ((.inl ((zrf (zfq q) a2 b2 t2 a b t).1, (zrf (zfq q) a2 b2 t2 a b t).2.1, (zrf (zfq q) a2 b2 t2 a b t).2.2, 0))), r)] else []
  | _, _ => []
theorem zbrA_ok {g : zG} {lg : Nat} {h : zH} {L : zL} {q : ClassFile.Cond} {X Y : zTy} {A r : List zTy} {pc : Nat} {x y : Int32} (hA : zgl g lg h A L) (hX : zga g lg h L X (.int x)) (hY : zga g lg h L Y (.int y)) (eX : (zlo X).isSome = true) (eY : (zlo Y).isSome = true) (hq : zci q x.toInt y.toInt) : ∃ A', (pc, A', r) ∈ zbrA q X Y A r pc ∧ zgl g lg h A' L := by
  obtain ⟨⟨a, b, t⟩, e1⟩ := Option.isSome_iff_exists.mp eX
  obtain ⟨⟨a2, b2, t2⟩, e2⟩ := Option.isSome_iff_exists.mp eY
  obtain ⟨x', ex, p1, p2, p3, p4⟩ := zlo_ok e1 hX
  obtain ⟨y', ey, s1, s2, s3, s4⟩ := zlo_ok e2 hY
  cases ex
  cases ey
  have u := zrf_ok p1 p2 p3 s1 s2 s3 hq
  have w := zrf_ok s1 s2 s3 p1 p2 p3 (zci_s hq)
  unfold zbrA
  rw [e1, e2]
  dsimp only
  rw [if_pos ⟨Int.le_trans u.1 u.2.1, Int.le_trans w.1 w.2.1⟩]
  exact ⟨_, List.mem_cons_self, zput1_ok (zput1_ok hA p4 ⟨x, rfl, u.1, u.2.1, u.2.2, Or.inl rfl⟩) s4 ⟨y, rfl, w.1, w.2.1, w.2.2, Or.inl rfl⟩⟩
/-! Stores. -/
def zkA : zTy → zTy
  | (.inr (.inr (.inr 1))) => (.inr (.inr (.inr 0)))
  | (.inr (.inr (.inr 2))) => (.inr (.inr (.inr 0)))
  | (.inr (.inr (.inr 3))) => (.inr (.inr (.inr 0)))
  | (.inr (.inr (.inr 4))) => (.inr (.inr (.inr 0)))
  | (.inr (.inl (_, _, _, _))) => (.inr (.inr (.inr 0)))
  | t => t
theorem zkA_ok {g : zG} {lg : Nat} {h : zH} {t : zTy} {o : Option Value} (k : t = (.inr (.inr (.inr 0))) ∨ ∃ v, o = some v ∧ zga g lg h [] t v) : zkA t = (.inr (.inr (.inr 0))) ∨ ∃ v, zk o = some v ∧ zga g lg h [] (zkA t) v := by
  rcases k with rfl | ⟨v, rfl, k⟩
  · exact Or.inl rfl
  · induction t using zTc with
    | N => exact Or.inl rfl
    | I lo hi t s =>
      obtain ⟨x, rfl, k⟩ := k
      exact Or.inr ⟨_, rfl, x, rfl, k⟩
    | P' lo hi =>
      obtain ⟨x, rfl, k⟩ := k
      exact Or.inr ⟨_, rfl, x, rfl, k⟩
    | C =>
      obtain ⟨x, l, rfl, k⟩ := k
      exact Or.inr ⟨_, rfl, x, l, rfl, k⟩
    | E4 =>
      obtain ⟨x, l, rfl, k⟩ := k
      exact Or.inr ⟨_, rfl, x, l, rfl, k⟩
    | E3 =>
      obtain ⟨x, l, rfl, k⟩ := k
      exact Or.inr ⟨_, rfl, x, l, rfl, k⟩
    | L j =>
      obtain rfl := (show v = _ from k)
      exact Or.inr ⟨_, rfl, rfl⟩
    | _ => exact Or.inl rfl
def zas (t : zTy) : Nat → List zTy → Option (List zTy)
  | 0, _ :: l => some (t :: l)
  | 1, a :: _ :: l => some (zkA a :: t :: l)
  | i + 2, a :: l => match zas t (i + 1) l with
    | some l' => some (a :: l')
    | none => none
  | _, _ => none
def zas2 (t : zTy) : Nat → List zTy → Option (List zTy)
  | 0, _ :: _ :: l => some (t :: (.inr (.inr (.inr 0))) :: l)
  | 1, a :: _ :: _ :: l => some (zkA a :: t :: (.inr (.inr (.inr 0))) :: l)
  | i + 2, a :: l => match zas2 t (i + 1) l with
    | some l' => some (a :: l')
    | none => none
  | _, _ => none
theorem zk_int {o : Option Value} {x : Int32} (e : o = some (.int x)) : zk o = some (.int x) := by rw [e]; rfl
theorem zas_ok {g : zG} {lg : Nat} {h : zH} {t : zTy} {v : Value} (hv : zga g lg h [] t v) : ∀ {j : Nat} {A A' : List zTy} {L : zL}, zas t j A = some A' → zgl g lg h A L → ∃ L', zst1 v j L = some L' ∧ zgl g lg h A' L' ∧ (∀ q x, q ≠ j → L[q]? = some (some (.int x)) → L'[q]? = some (some (.int x))) ∧ L'[j]? = some (some v)
  | 0, [], _, _, e, _ => by cases e
  | 0, _ :: _, _, [], _, k => k.elim
  | 0, _ :: _, _, o :: L, e, k => by
    cases e
    refine ⟨some v :: L, rfl, ⟨Or.inr ⟨v, rfl, hv⟩, k.2⟩, fun q x hq e => ?_, rfl⟩
    cases q with
    | zero => exact absurd rfl hq
    | succ q => exact e
  | 1, [], _, _, e, _ => by cases e
  | 1, [_], _, _, e, _ => by cases e
  | 1, _ :: _ :: _, _, [], _, k => k.elim
  | 1, _ :: _ :: _, _, [_], _, k => k.2.elim
  | 1, _ :: _ :: _, _, o :: o2 :: L, e, k => by
    cases e
    refine ⟨zk o :: some v :: L, rfl, ⟨zkA_ok k.1, Or.inr ⟨v, rfl, hv⟩, k.2.2⟩, fun q x hq e => ?_, rfl⟩
    match q with
    | 0 => exact congrArg some (zk_int (Option.some.inj e))
    | 1 => exact absurd rfl hq
    | q + 2 => exact e
  | i + 2, [], _, _, e, _ => by cases e
  | i + 2, _ :: _, _, [], _, k => k.elim
  | i + 2, a :: A, _, o :: L, e, k => by
    unfold zas at e
    split at e
    · next A1 e1 =>
      cases e
      obtain ⟨L', p1, p2, p3, p4⟩ := zas_ok hv (j := i + 1) e1 k.2
      refine ⟨o :: L', ?_, ⟨k.1, p2⟩, fun q x hq e => ?_, p4⟩
      · unfold zst1
        rw [p1]
      · cases q with
        | zero => exact e
        | succ q => exact p3 q x (by omega) e
    · cases e
theorem zas2_ok {g : zG} {lg : Nat} {h : zH} {t : zTy} {v : Value} (hv : zga g lg h [] t v) : ∀ {j : Nat} {A A' : List zTy} {L : zL}, zas2 t j A = some A' → zgl g lg h A L → ∃ L', zst2 v j L = some L' ∧ zgl g lg h A' L' ∧ (∀ q x, q ≠ j → q ≠ j + 1 → L[q]? = some (some (.int x)) → L'[q]? = some (some (.int x)))
  | 0, [], _, _, e, _ => by cases e
  | 0, [_], _, _, e, _ => by cases e
  | 0, _ :: _ :: _, _, [], _, k => k.elim
  | 0, _ :: _ :: _, _, [_], _, k => k.2.elim
  | 0, _ :: _ :: _, _, o :: o2 :: L, e, k => by
    cases e
    refine ⟨some v :: none :: L, rfl, ⟨Or.inr ⟨v, rfl, hv⟩, Or.inl rfl, k.2.2⟩, fun q x hq hq2 e => ?_⟩
    match q with
    | 0 => exact absurd rfl hq
    | 1 => exact absurd rfl hq2
    | q + 2 => exact e
  | 1, [], _, _, e, _ => by cases e
  | 1, [_], _, _, e, _ => by cases e
  | 1, [_, _], _, _, e, _ => by cases e
  | 1, _ :: _ :: _ :: _, _, [], _, k => k.elim
  | 1, _ :: _ :: _ :: _, _, [_], _, k => k.2.elim
  | 1, _ :: _ :: _ :: _, _, [_, _], _, k => k.2.2.elim
  | 1, _ :: _ :: _ :: _, _, o :: o2 :: o3 :: L, e, k => by
    cases e
    refine ⟨zk o :: some v :: none :: L, rfl, ⟨zkA_ok k.1, Or.inr ⟨v, rfl, hv⟩, Or.inl rfl, k.2.2.2⟩, fun q x hq hq2 e => ?_⟩
    match q with
    | 0 => exact congrArg some (zk_int (Option.some.inj e))
    | 1 => exact absurd rfl hq
    | 2 => exact absurd rfl hq2
    | q + 3 => exact e
  | i + 2, [], _, _, e, _ => by cases e
  | i + 2, _ :: _, _, [], _, k => k.elim
  | i + 2, a :: A, _, o :: L, e, k => by
    unfold zas2 at e
    split at e
    · next A1 e1 =>
      cases e
      obtain ⟨L', p1, p2, p3⟩ := zas2_ok hv (j := i + 1) e1 k.2
      refine ⟨o :: L', ?_, ⟨k.1, p2⟩, fun q x hq hq2 e => ?_⟩
      · unfold zst2
        rw [p1]
      · cases q with
        | zero => exact e
        | succ q => exact p3 q x (by omega) (by omega) e
    · cases e
end zg35
section zg36
/-! One step on kinds of values. -/
def zmd : Instr → Nat → Bool
  | .istore j, q => j == q
  | .istore_n j, q => j == q
  | .astore j, q => j == q
  | .astore_n j, q => j == q
  | .lstore j, q => j == q || j + 1 == q
  | .lstore_n j, q => j == q || j + 1 == q
  | .iinc j _, q => j == q
  | _, _ => false
def zLf (i : Instr) (L L' : zL) : Prop := (∀ q x, zmd i q = false → L[q]? = some (some (.int x)) → L'[q]? = some (some (.int x))) ∧ (∀ j d, i = .iinc j d → ∀ x, L[j]? = some (some (.int x)) → L'[j]? = some (some (.int (x + Int32.ofInt d))))
def zOk (g : zG) (lg : Nat) (h : zH) (i : Instr) (L : zL) (l : List (Nat × List zTy × List zTy)) (r : Option zA) : Prop := ∃ pc' L' st' h' A' S', r = some (.inl (pc', L', st', h', 0, 0)) ∧ (pc', A', S') ∈ l ∧ zHI g lg h' ∧ zLE h h' ∧ zgl g lg h' A' L' ∧ zgs g lg h' L' S' st' ∧ zLf i L L'
theorem zLE_rf {h : zH} : zLE h h := fun _ _ _ k _ _ => k
theorem zLE_tr {h h1 h2 : zH} (a : zLE h h1) (b : zLE h1 h2) : zLE h h2 := fun q c k1 k2 k3 k4 => b q c k1 (a q c k1 k2 k3 k4) k3 k4
theorem zOk_s {g : zG} {lg : Nat} {h : zH} {i : Instr} {L : zL} {r : Option zA} {nx : Nat} {A S' : List zTy} {st' : List Value} (hI : zHI g lg h) (hA : zgl g lg h A L) (hi : ∀ j d, i ≠ .iinc j d) (e : r = some (.inl (nx, L, st', h, 0, 0))) (hS' : zgs g lg h L S' st') : zOk g lg h i L [(nx, A, S')] r :=
  ⟨nx, L, st', h, A, S', e, List.mem_cons_self, hI, zLE_rf, hA, hS', fun _ _ _ k => k, fun j d e => absurd e (hi j d)⟩
/-! the heap -/
theorem zsp_b {q : Nat} {w : Nat × Nat × Int × Int} (e : zsp q = some w) : 47 ≤ q ∧ q ≤ 72 := by
  unfold zsp at e
  split at e
  · omega
  · split at e
    · omega
    · split at e
      · omega
      · split at e
        · omega
        · split at e
          · omega
          · cases e
theorem zLi_cg {h h' : zH} {r n : Nat} {Q : List Int32 → Prop} {dq : Option Nat} (hb : ∀ q, 73 ≤ q → h'[q]? = h[q]?) (k : zLi h r n Q dq) (hr : 73 ≤ r) (hd : ∀ q, dq = some q → 73 ≤ q) : zLi h' r n Q dq := by
  obtain ⟨es, ⟨m, k1⟩, k2, k3⟩ := k
  refine ⟨es, ⟨m, ?_⟩, k2, fun e he => ?_⟩
  · cases dq with
    | none => exact ⟨k1.1, by rw [hb r hr]; exact k1.2⟩
    | some q =>
      obtain ⟨vs, a1, a2, a3⟩ := k1
      exact ⟨vs, by rw [hb r hr]; exact a1, by rw [hb q (hd q rfl)]; exact a2, a3⟩
  · obtain ⟨a, l, b, c⟩ := k3 e he
    exact ⟨a, l, by rw [hb e a]; exact b, c⟩
theorem zHI_cg {g : zG} {lg : Nat} {h h' : zH} (hI : zHI g lg h) (hc : h'.take 44 = h.take 44) (hb : ∀ q, 73 ≤ q → h'[q]? = h[q]?) (obj' : ∃ vs, h'[44]? = some (7, vs) ∧ vs.length = 26 ∧ (∀ k, k < 26 → ∃ v, vs[k]? = some v ∧ zga g lg h [] (zfs k) v) ∧ ∀ k ∈ zfz, vs[k]? = some (g.f k)) (outer' : h'[46]? = h[46]?) (rows' : ∀ q t n lo hi, zsp q = some (t, n, lo, hi) → ∃ l : List Int32, h'[q]? = some (t, l.map Value.int) ∧ l.length = n ∧ ∀ x ∈ l, lo ≤ x.toInt ∧ x.toInt ≤ hi) : zHI g lg h' ∧ zLE h h' := by
  have hl : zLE h h' := fun q l a b _ _ => by rw [hb q a]; exact b
  refine ⟨⟨hc.trans hI.cls, ?_, outer'.trans hI.outer, rows', ?_, hI.bits, hI.sizes⟩, hl⟩
  · obtain ⟨vs, a, b, c, d⟩ := obj'
    refine ⟨vs, a, b, fun k hk => ?_, d⟩
    obtain ⟨v, p, q⟩ := c k hk
    exact ⟨v, p, zga_mo (Nat.le_refl _) hl q⟩
  · obtain ⟨E, k⟩ := hI.lists
    refine ⟨E, fun j hj => ?_⟩
    obtain ⟨k1, k2, k3, k4⟩ := k j hj
    exact ⟨k1, zLi_cg hb k2 k1 k3, k3, k4⟩
theorem ztake_set {h : zH} {q : Nat} {c : Nat × List Value} (hq : 44 ≤ q) : (h.set q c).take 44 = h.take 44 := by
  refine List.ext_getElem? (fun j => ?_)
  rw [List.getElem?_take, List.getElem?_take]
  split
  · rw [List.getElem?_set_ne (by omega)]
  · rfl
theorem zHI_row {g : zG} {lg : Nat} {h : zH} {q t n : Nat} {lo hi : Int} {l' : List Int32} (hI : zHI g lg h) (hq : zsp q = some (t, n, lo, hi)) (hl : l'.length = n) (hx : ∀ x ∈ l', lo ≤ x.toInt ∧ x.toInt ≤ hi) : zHI g lg (h.set q (t, l'.map Value.int)) ∧ zLE h (h.set q (t, l'.map Value.int)) := by
  have hb := zsp_b hq
  refine zHI_cg hI (ztake_set (by omega)) (fun j hj => List.getElem?_set_ne (by omega)) ?_ (List.getElem?_set_ne (by omega)) (fun j t2 n2 lo2 hi2 e => ?_)
  · obtain ⟨vs, a⟩ := hI.obj
    exact ⟨vs, by rw [List.getElem?_set_ne (by omega)]; exact a.1, a.2⟩
  · by_cases z : j = q
    · subst z
      rw [hq] at e
      cases e
      obtain ⟨l, p, -⟩ := hI.rows j _ _ _ _ hq
      exact ⟨l', List.getElem?_set_self (List.getElem?_eq_some_iff.mp p).1, hl, hx⟩
    · rw [List.getElem?_set_ne (fun w => z w.symm)]
      exact hI.rows j _ _ _ _ e
theorem zHI_fld {g : zG} {lg : Nat} {h : zH} {k : Nat} {v : Value} {vs : List Value} (hI : zHI g lg h) (h0 : h[44]? = some (7, vs)) (hk : k < 26) (hv : zga g lg h [] (zfs k) v) (hz : k ∉ zfz) : zHI g lg (h.set 44 (7, vs.set k v)) ∧ zLE h (h.set 44 (7, vs.set k v)) := by
  obtain ⟨vs', a, b, c, d⟩ := hI.obj
  rw [h0] at a
  cases a
  refine zHI_cg hI (ztake_set (by omega)) (fun j hj => List.getElem?_set_ne (by omega)) ?_ (List.getElem?_set_ne (by omega)) (fun j t2 n2 lo2 hi2 e => ?_)
  · refine ⟨vs.set k v, List.getElem?_set_self (List.getElem?_eq_some_iff.mp h0).1, by simpa using b, fun j hj => ?_, fun j hj => ?_⟩
    · by_cases z : j = k
      · subst z
        exact ⟨v, List.getElem?_set_self (by omega), hv⟩
      · rw [List.getElem?_set_ne (fun w => z w.symm)]
        exact c j hj
    · rw [List.getElem?_set_ne (fun w => hz (by rw [w]; exact hj))]
      exact d j hj
  · have := zsp_b e
    rw [List.getElem?_set_ne (by omega)]
    exact hI.rows j _ _ _ _ e
/-! what a step does to the stack and the locals -/
def zisR : zTy → Bool
  | (.inr (.inr (.inl (_, _)))) => true
  | (.inr (.inr (.inr 5))) => true
  | (.inr (.inr (.inr 6))) => true
  | (.inr (.inr (.inr 7))) => true
  | (.inr (.inr (.inr (_ + 8)))) => true
  | _ => false
def zis1 : zTy → Bool
  | (.inl (_, _, _, _)) => true
  | (.inr (.inl (_, _, _, _))) => true
  | t => zisR t
section ZAB
variable {g : zG} {lg : Nat} {h : zH} {L : zL} {A S : List zTy} {st : List Value} {l : List (Nat × List zTy × List zTy)} {t : zTy} {v : Value} {nx j pc y k n c : Nat} {xs : List Int32} {i : Instr}
theorem zisR_ok (e : zisR t = true) (k : zga g lg h L t v) : ∃ q, v = .ref q := by
  induction t using zTc with
  | P' lo hi =>
    obtain ⟨q, rfl, -⟩ := k
    exact ⟨q, rfl⟩
  | C =>
    obtain ⟨q, l, rfl, -⟩ := k
    exact ⟨q, rfl⟩
  | E4 =>
    obtain ⟨q, l, rfl, -⟩ := k
    exact ⟨q, rfl⟩
  | E3 =>
    obtain ⟨q, l, rfl, -⟩ := k
    exact ⟨q, rfl⟩
  | L j => exact ⟨_, k⟩
  | _ => cases e
theorem zis1_ok (e : zis1 t = true) (k : zga g lg h L t v) : zcat v = false := by
  induction t using zTc with
  | I lo hi t s =>
    obtain ⟨x, rfl, -⟩ := k
    rfl
  | B i lo hi t =>
    obtain ⟨x, rfl, -⟩ := k
    rfl
  | P' lo hi =>
    obtain ⟨q, rfl, -⟩ := k
    rfl
  | C =>
    obtain ⟨q, l, rfl, -⟩ := k
    rfl
  | E4 =>
    obtain ⟨q, l, rfl, -⟩ := k
    rfl
  | E3 =>
    obtain ⟨q, l, rfl, -⟩ := k
    rfl
  | L j =>
    obtain rfl := (show v = _ from k)
    rfl
  | _ => cases e
def zaLI (j nx : Nat) (A S : List zTy) : Option (List (Nat × List zTy × List zTy)) := match A[j]? with
  | some ((.inl (a, b, t, _))) => some [(nx, A, (.inl (a, b, t, (j + 1))) :: S)]
  | _ => none
theorem zaLI_ok (e : zaLI j nx A S = some l) (hI : zHI g lg h) (hA : zgl g lg h A L) (hS : zgs g lg h L S st) (hi : ∀ j d, i ≠ .iinc j d) : zOk g lg h i L l (zldI L j nx st h) := by
  unfold zaLI at e
  split at e
  · next a b t s q =>
    cases e
    rcases zgl_get hA q with z | ⟨v, e1, x, rfl, k1, k2, k3, -⟩
    · cases z
    · refine zOk_s hI hA hi (st' := .int x :: st) ?_ ⟨⟨x, rfl, k1, k2, k3, Or.inr e1⟩, hS⟩
      unfold zldI
      rw [e1]
      rfl
  · cases e
def zaLA (j nx : Nat) (A S : List zTy) : Option (List (Nat × List zTy × List zTy)) := match A[j]? with
  | some t => if zisR t = true then some [(nx, A, t :: S)] else none
  | _ => none
theorem zaLA_ok (e : zaLA j nx A S = some l) (hI : zHI g lg h) (hA : zgl g lg h A L) (hS : zgs g lg h L S st) (hi : ∀ j d, i ≠ .iinc j d) : zOk g lg h i L l (zldA L j nx st h) := by
  unfold zaLA at e
  split at e
  · next t q =>
    split at e
    · next q2 =>
      cases e
      rcases zgl_get hA q with z | ⟨v, e1, k⟩
      · rw [z] at q2
        cases q2
      · obtain ⟨r, rfl⟩ := zisR_ok q2 k
        refine zOk_s hI hA hi (st' := .ref r :: st) ?_ ⟨zga_L k, hS⟩
        unfold zldA
        rw [e1]
        rfl
    · cases e
  · cases e
def zaLL (j nx : Nat) (A S : List zTy) : Option (List (Nat × List zTy × List zTy)) := match A[j]? with
  | some (.inr (.inr (.inr 1))) => some [(nx, A, (.inr (.inr (.inr 1))) :: S)]
  | _ => none
theorem zaLL_ok (e : zaLL j nx A S = some l) (hI : zHI g lg h) (hA : zgl g lg h A L) (hS : zgs g lg h L S st) (hi : ∀ j d, i ≠ .iinc j d) : zOk g lg h i L l (zldL L j nx st h) := by
  unfold zaLL at e
  split at e
  · next q =>
    cases e
    rcases zgl_get hA q with z | ⟨v, e1, x, rfl⟩
    · cases z
    · refine zOk_s hI hA hi (st' := .long x :: st) ?_ ⟨⟨x, rfl⟩, hS⟩
      unfold zldL
      rw [e1]
      rfl
  · cases e
def zaSI (j nx : Nat) (A S : List zTy) : Option (List (Nat × List zTy × List zTy)) := match S with
  | t :: r => if (zlo t).isSome = true ∧ r.all zfree = true then (match zas (zfl t) j A with
    | some A' => some [(nx, A', r)]
    | none => none) else none
  | [] => none
theorem zaSI_ok (e : zaSI j nx A S = some l) (hI : zHI g lg h) (hA : zgl g lg h A L) (hS : zgs g lg h L S st) (hi : ∀ j d, i ≠ .iinc j d) (hj : ∀ q, zmd i q = (j == q)) : zOk g lg h i L l (zsI L j nx st h) := by
  unfold zaSI at e
  split at e
  · next t r =>
    split at e
    · next q =>
      split at e
      · next A' e1 =>
        cases e
        match st, hS with
        | v :: s, hS =>
          obtain ⟨⟨a, b, c⟩, e2⟩ := Option.isSome_iff_exists.mp q.1
          obtain ⟨x, rfl, -⟩ := zlo_ok e2 hS.1
          obtain ⟨L', p1, p2, p3, p4⟩ := zas_ok (zga_fl hS.1) e1 hA
          refine ⟨nx, L', s, h, A', r, ?_, List.mem_cons_self, hI, zLE_rf, p2, zgs_free q.2 hS.2, fun q x hq => p3 q x (fun z => ?_), fun j d e => absurd e (hi j d)⟩
          · show zsv1 L j nx (.int x) s h = _
            unfold zsv1
            rw [p1]
            rfl
          · rw [hj, z] at hq
            simp at hq
        | [], hS => exact hS.elim
      · cases e
    · cases e
  · cases e
def zaSA (j nx : Nat) (A S : List zTy) : Option (List (Nat × List zTy × List zTy)) := match S with
  | t :: r => if zisR t = true ∧ r.all zfree = true then (match zas (zfl t) j A with
    | some A' => some [(nx, A', r)]
    | none => none) else none
  | [] => none
theorem zaSA_ok (e : zaSA j nx A S = some l) (hI : zHI g lg h) (hA : zgl g lg h A L) (hS : zgs g lg h L S st) (hi : ∀ j d, i ≠ .iinc j d) (hj : ∀ q, zmd i q = (j == q)) : zOk g lg h i L l (zsA L j nx st h) := by
  unfold zaSA at e
  split at e
  · next t r =>
    split at e
    · next q =>
      split at e
      · next A' e1 =>
        cases e
        match st, hS with
        | v :: s, hS =>
          obtain ⟨x, rfl⟩ := zisR_ok q.1 hS.1
          obtain ⟨L', p1, p2, p3, p4⟩ := zas_ok (zga_fl hS.1) e1 hA
          refine ⟨nx, L', s, h, A', r, ?_, List.mem_cons_self, hI, zLE_rf, p2, zgs_free q.2 hS.2, fun q x hq => p3 q x (fun z => ?_), fun j d e => absurd e (hi j d)⟩
          · show zsv1 L j nx (.ref x) s h = _
            unfold zsv1
            rw [p1]
            rfl
          · rw [hj, z] at hq
            simp at hq
        | [], hS => exact hS.elim
      · cases e
    · cases e
  · cases e
def zaSL (j nx : Nat) (A S : List zTy) : Option (List (Nat × List zTy × List zTy)) := match S with
  | (.inr (.inr (.inr 1))) :: r => if r.all zfree = true then (match zas2 (.inr (.inr (.inr 1))) j A with
    | some A' => some [(nx, A', r)]
    | none => none) else none
  | _ => none
theorem zaSL_ok (e : zaSL j nx A S = some l) (hI : zHI g lg h) (hA : zgl g lg h A L) (hS : zgs g lg h L S st) (hi : ∀ j d, i ≠ .iinc j d) (hj : ∀ q, zmd i q = (j == q || j + 1 == q)) : zOk g lg h i L l (zsL L j nx st h) := by
  unfold zaSL at e
  split at e
  · next r =>
    split at e
    · next q =>
      split at e
      · next A' e1 =>
        cases e
        match st, hS with
        | v :: s, hS =>
          obtain ⟨x, rfl⟩ := hS.1
          obtain ⟨L', p1, p2, p3⟩ := zas2_ok (v := .long x) (show zga g lg h [] (.inr (.inr (.inr 1))) (.long x) from ⟨x, rfl⟩) e1 hA
          refine ⟨nx, L', s, h, A', r, ?_, List.mem_cons_self, hI, zLE_rf, p2, zgs_free q hS.2, fun q x hq => ?_, fun j d e => absurd e (hi j d)⟩
          · show zsv2 L j nx (.long x) s h = _
            unfold zsv2
            rw [p1]
            rfl
          · rw [hj] at hq
            simp at hq
            exact p3 q x (fun z => hq.1 z.symm) (fun z => hq.2 z.symm)
        | [], hS => exact hS.elim
      · cases e
    · cases e
  · cases e
def zaInc (j : Nat) (d : Int) (nx : Nat) (A S : List zTy) : Option (List (Nat × List zTy × List zTy)) := match A[j]? with
  | some ((.inl (a, b, _, _))) => if S.all zfree = true then (match zas (zmk (a + (Int32.ofInt d).toInt) (b + (Int32.ofInt d).toInt)) j A with
    | some A' => some [(nx, A', S)]
    | none => none) else none
  | _ => none
theorem zaInc_ok {d : Int} (e : zaInc j d nx A S = some l) (hI : zHI g lg h) (hA : zgl g lg h A L) (hS : zgs g lg h L S st) : zOk g lg h (.iinc j d) L l (zinc L j d nx st h) := by
  unfold zaInc at e
  split at e
  · next a b t s q =>
    split at e
    · next q2 =>
      split at e
      · next A' e1 =>
        cases e
        rcases zgl_get hA q with z | ⟨v, e2, x, rfl, k1, k2, k3, -⟩
        · cases z
        · obtain ⟨L', p1, p2, p3, p4⟩ := zas_ok (v := .int (x + Int32.ofInt d)) (zmk_ok (Int32.toInt_add x (Int32.ofInt d)) (by omega) (by omega)) e1 hA
          refine ⟨nx, L', st, h, A', S, ?_, List.mem_cons_self, hI, zLE_rf, p2, zgs_free q2 hS, fun q x hq => p3 q x (fun z => ?_), fun j' d' e x' hx => ?_⟩
          · unfold zinc
            rw [e2]
            show zsv1 L j nx (.int (x + Int32.ofInt d)) st h = _
            unfold zsv1
            rw [p1]
            rfl
          · rw [z] at hq
            have hq : (j == j) = false := hq
            simp at hq
          · cases e
            rw [e2] at hx
            cases hx
            exact p4
      · cases e
    · cases e
  · cases e
def zaBin (i : Instr) (nx : Nat) (A S : List zTy) : Option (List (Nat × List zTy × List zTy)) := match S with
  | u :: t :: r => (match zlo t, zlo u with
    | some (a, b, c), some (a2, b2, _) => (match zbA i a b a2 b2 c with
      | some T => some [(nx, A, T :: r)]
      | none => none)
    | _, _ => none)
  | _ => none
theorem zaBin_ok (e : zaBin i nx A S = some l) (hI : zHI g lg h) (hA : zgl g lg h A L) (hS : zgs g lg h L S st) (hi : ∀ j d, i ≠ .iinc j d) : zOk g lg h i L l (zstep zcf xs pc i nx k y n c L st h) := by
  unfold zaBin at e
  split at e
  · next u t r =>
    split at e
    · next a b c9 a2 b2 c2 e1 e2 =>
      split at e
      · next T e3 =>
        cases e
        match st, hS with
        | z :: x :: s, hS =>
          obtain ⟨x, rfl, k1, k2, k3, -⟩ := zlo_ok e1 hS.2.1
          obtain ⟨z, rfl, s1, s2, -⟩ := zlo_ok e2 hS.1
          obtain ⟨w, p1, p2⟩ := zbA_ok (xs := xs) (pc := pc) (nx := nx) (k := k) (y := y) (n := n) (c := c) (r := s) e3 k1 k2 s1 s2 k3
          exact zOk_s hI hA hi p1 ⟨p2, hS.2.2⟩
        | [], hS => exact hS.elim
        | [_], hS => exact hS.2.elim
      · cases e
    · cases e
  · cases e
def zaIf (q : ClassFile.Cond) (tg nx : Nat) (A S : List zTy) : Option (List (Nat × List zTy × List zTy)) := match S with
  | (.inr (.inl (i, lo, hi, t))) :: r => (match q with
    | .eq => some [(tg, A, r), (nx, A.set i ((.inl (lo, hi, t, 0))), r)]
    | .ne => some [(tg, A.set i ((.inl (lo, hi, t, 0))), r), (nx, A, r)]
    | _ => none)
  | (.inl (a, b, t, s)) :: r => some (zbrA q ((.inl (a, b, t, s))) ((.inl (0, 0, 0, 0))) A r tg ++ zbrA (znq q) ((.inl (a, b, t, s))) ((.inl (0, 0, 0, 0))) A r nx)
  | _ => none
theorem zaIf_ok {q : ClassFile.Cond} {tg : Nat} (e : zaIf q tg nx A S = some l) (hI : zHI g lg h) (hA : zgl g lg h A L) (hS : zgs g lg h L S st) (hi : ∀ j d, i ≠ .iinc j d) : zOk g lg h i L l (zif q tg nx L st h) := by
  have z0 : zga g lg h L ((.inl (0, 0, 0, 0))) (.int 0) := ⟨0, rfl, by decide, by decide, trivial, Or.inl rfl⟩
  have fin : ∀ {x : Int32} {s : List Value} {r : List zTy} {pc' : Nat} {A' : List zTy}, zgs g lg h L r s → zgl g lg h A' L → (pc', A', r) ∈ l → zbr q x 0 tg nx L s h = zgo pc' L s h → zOk g lg h i L l (zif q tg nx L (.int x :: s) h) := by
    intro x s r pc' A' hs hA' hm e
    exact ⟨pc', L, s, h, A', r, e, hm, hI, zLE_rf, hA', hs, fun _ _ _ k => k, fun j d e => absurd e (hi j d)⟩
  unfold zaIf at e
  split at e
  · next i' lo hi' t r =>
    match st, hS with
    | v :: s, hS =>
      obtain ⟨⟨x, rfl, hx, hx2⟩, hs⟩ := hS
      split at e
      · cases e
        by_cases z : x = 0
        · exact fin hs hA List.mem_cons_self (zbr_t (q := .eq) z)
        · obtain ⟨w, c1, c2, c3, c4⟩ := hx2 z
          exact fin hs (zgl_set (T := (.inl (lo, hi', t, 0))) hA c1 ⟨w, rfl, c2, c3, c4, Or.inl rfl⟩) (List.mem_cons_of_mem _ List.mem_cons_self) (zbr_f (q := .eq) z)
      · cases e
        by_cases z : x = 0
        · exact fin hs hA (List.mem_cons_of_mem _ List.mem_cons_self) (zbr_f (q := .ne) z)
        · obtain ⟨w, c1, c2, c3, c4⟩ := hx2 z
          exact fin hs (zgl_set (T := (.inl (lo, hi', t, 0))) hA c1 ⟨w, rfl, c2, c3, c4, Or.inl rfl⟩) List.mem_cons_self (zbr_t (q := .ne) z)
      · cases e
    | [], hS => exact hS.elim
  · next a b t s' r =>
    cases e
    match st, hS with
    | v :: s, hS =>
      obtain ⟨hX, hs⟩ := hS
      obtain ⟨x, rfl, hX'⟩ := id hX
      rcases zcq_em q x 0 with z | z
      · obtain ⟨A', m1, m2⟩ := zbrA_ok (r := r) (pc := tg) hA hX z0 rfl rfl (zci_t z)
        exact fin hs m2 (List.mem_append_left _ m1) (zbr_t z)
      · obtain ⟨A', m1, m2⟩ := zbrA_ok (r := r) (pc := nx) hA hX z0 rfl rfl (zci_f z)
        exact fin hs m2 (List.mem_append_right _ m1) (zbr_f z)
    | [], hS => exact hS.elim
  · cases e
def zaCmp (q : ClassFile.Cond) (tg nx : Nat) (A S : List zTy) : Option (List (Nat × List zTy × List zTy)) := match S with
  | u :: t :: r => if (zlo t).isSome = true ∧ (zlo u).isSome = true then some (zbrA q t u A r tg ++ zbrA (znq q) t u A r nx) else none
  | _ => none
theorem zaCmp_ok {q : ClassFile.Cond} {tg : Nat} (e : zaCmp q tg nx A S = some l) (hI : zHI g lg h) (hA : zgl g lg h A L) (hS : zgs g lg h L S st) (hi : ∀ j d, i ≠ .iinc j d) : zOk g lg h i L l (zicmp q tg nx L st h) := by
  unfold zaCmp at e
  split at e
  · next u t r =>
    split at e
    · next w =>
      cases e
      match st, hS with
      | z :: x :: s, hS =>
        obtain ⟨⟨a, b, c⟩, e1⟩ := Option.isSome_iff_exists.mp w.1
        obtain ⟨⟨a2, b2, c2⟩, e2⟩ := Option.isSome_iff_exists.mp w.2
        obtain ⟨x, rfl, -⟩ := zlo_ok e1 hS.2.1
        obtain ⟨z, rfl, -⟩ := zlo_ok e2 hS.1
        rcases zcq_em q x z with g1 | g1
        · obtain ⟨A', m1, m2⟩ := zbrA_ok (r := r) (pc := tg) hA hS.2.1 hS.1 w.1 w.2 (zci_t g1)
          exact ⟨tg, L, s, h, A', r, zbr_t g1, List.mem_append_left _ m1, hI, zLE_rf, m2, hS.2.2, fun _ _ _ k => k, fun j d e => absurd e (hi j d)⟩
        · obtain ⟨A', m1, m2⟩ := zbrA_ok (r := r) (pc := nx) hA hS.2.1 hS.1 w.1 w.2 (zci_f g1)
          exact ⟨nx, L, s, h, A', r, zbr_f g1, List.mem_append_right _ m1, hI, zLE_rf, m2, hS.2.2, fun _ _ _ k => k, fun j d e => absurd e (hi j d)⟩
      | [], hS => exact hS.elim
      | [_], hS => exact hS.2.elim
    · cases e
  · cases e
def zaTab (pc : Nat) (d lo hi : Int) (os : Array Int) (A S : List zTy) : Option (List (Nat × List zTy × List zTy)) := match S with
  | t :: r => if (zlo t).isSome = true ∧ os.size = (hi + 1 - lo).toNat ∧ (d :: os.toList).all (fun o => decide (0 ≤ (pc : Int) + o)) = true then some ((d :: os.toList).map (fun o => (((pc : Int) + o).toNat, A, r))) else none
  | [] => none
theorem zaTab_ok {d lo hi : Int} {os : Array Int} (e : zaTab pc d lo hi os A S = some l) (hI : zHI g lg h) (hA : zgl g lg h A L) (hS : zgs g lg h L S st) (hi9 : ∀ j d, i ≠ .iinc j d) : zOk g lg h i L l (ztab pc d lo hi os L st h) := by
  unfold zaTab at e
  split at e
  · next t r =>
    split at e
    · next w =>
      cases e
      match st, hS with
      | v :: s, hS =>
        obtain ⟨⟨a, b, c⟩, e1⟩ := Option.isSome_iff_exists.mp w.1
        obtain ⟨x, rfl, -⟩ := zlo_ok e1 hS.1
        have key : ∀ o, o ∈ d :: os.toList → zOk g lg h i L ((d :: os.toList).map (fun o => (((pc : Int) + o).toNat, A, r))) (zoff pc o L s h) := by
          intro o ho
          have g9 := of_decide_eq_true (List.all_eq_true.mp w.2.2 o ho)
          refine ⟨((pc : Int) + o).toNat, L, s, h, A, r, ?_, List.mem_map.mpr ⟨o, ho, rfl⟩, hI, zLE_rf, hA, hS.2, fun _ _ _ k => k, fun j d e => absurd e (hi9 j d)⟩
          unfold zoff
          obtain ⟨m, hm⟩ := Int.eq_ofNat_of_zero_le g9
          rw [hm]
          rfl
        show zOk g lg h i L _ (if x.toInt < lo ∨ hi < x.toInt then zoff pc d L s h else match os[(x.toInt - lo).toNat]? with
          | some o => zoff pc o L s h
          | none => none)
        split
        · exact key d List.mem_cons_self
        · next q =>
          have hlt : (x.toInt - lo).toNat < os.size := by omega
          rw [Array.getElem?_eq_getElem hlt]
          exact key _ (List.mem_cons_of_mem _ (by simp))
      | [], hS => exact hS.elim
    · cases e
  · cases e
end ZAB
end zg36
section zg37
/-! One step on kinds of values: rows, fields. -/
def zspr (p q : Nat) : Option (Nat × Nat × Int × Int) := match zsp p with
  | some w => if (List.range (q + 1 - p)).all (fun d => decide (zsp (p + d) = some w)) = true then some w else none
  | none => none
theorem zspr_ok {p q r : Nat} {w : Nat × Nat × Int × Int} (e : zspr p q = some w) (h1 : p ≤ r) (h2 : r ≤ q) : zsp r = some w := by
  unfold zspr at e
  split at e
  · split at e
    · next w' e1 g =>
      cases e
      have g := of_decide_eq_true (List.all_eq_true.mp g (r - p) (List.mem_range.mpr (by omega)))
      rw [show p + (r - p) = r by omega] at g
      exact g
    · cases e
  · cases e
theorem zald_eq {t nx a : Nat} {L : zL} {r : List Value} {h : zH} {l : List Int32} {j : Int32} (ha : h[a]? = some (t, l.map Value.int)) (h0 : 0 ≤ j.toInt) (h1 : j.toInt < l.length) : ∃ v, l[j.toInt.toNat]? = some v ∧ zald t nx L (.int j :: .ref a :: r) h = some (.inl (nx, L, .int v :: r, h, 0, 0)) := by
  have hj : ¬ j < 0 := fun z => by
    have z := zlt_z z
    rw [zero_z] at z
    omega
  have hlt : j.toInt.toNat < l.length := by omega
  refine ⟨l[j.toInt.toNat], List.getElem?_eq_getElem hlt, ?_⟩
  unfold zald
  dsimp only
  rw [ha]
  dsimp only
  rw [if_pos rfl, show j.toNatClampNeg = j.toInt.toNat from rfl, List.getElem?_map, List.getElem?_eq_getElem hlt]
  exact if_neg hj
theorem zast_eq {t nx a : Nat} {f : Int32 → Option Int32} {L : zL} {r : List Value} {h : zH} {l : List Int32} {j v : Int32} (ha : h[a]? = some (t, l.map Value.int)) (h0 : 0 ≤ j.toInt) (h1 : j.toInt < l.length) (hf : f v = some v) : zast t f nx L (.int v :: .int j :: .ref a :: r) h = some (.inl (nx, L, r, h.set a (t, (l.set j.toInt.toNat v).map Value.int), 0, 0)) := by
  have hj : ¬ j < 0 := fun z => by
    have z := zlt_z z
    rw [zero_z] at z
    omega
  unfold zast
  dsimp only
  rw [ha]
  dsimp only
  rw [if_pos rfl, if_neg hj, if_pos (by rw [List.length_map]; show j.toInt.toNat < _; omega), hf, List.map_set]
  rfl
section ZAB
variable {g : zG} {lg : Nat} {h : zH} {L : zL} {A S : List zTy} {st : List Value} {l : List (Nat × List zTy × List zTy)} {t : zTy} {v : Value} {nx j pc y k n c : Nat} {xs : List Int32} {i : Instr}
def zaIA (T : Nat) (nx : Nat) (A S : List zTy) : Option (List (Nat × List zTy × List zTy)) := match S with
  | u :: (.inr (.inr (.inl (p, q)))) :: r => (match zlo u, zspr p q with
    | some (a, b, _), some (tg, n, lo, hi) => if tg = T ∧ 0 ≤ a ∧ b < n then some [(nx, A, (.inl (lo, hi, 0, 0)) :: r)] else none
    | _, _ => none)
  | u :: (.inr (.inr (.inr 5))) :: r => (match zlo u with
    | some (a, _, tt) => if T = 100 ∧ 0 ≤ a ∧ tt = 7 then some [(nx, A, zIA :: r)] else none
    | none => none)
  | u :: (.inr (.inr (.inr 6))) :: r => (match zlo u with
    | some (a, b, _) => if T = 100 ∧ 0 ≤ a ∧ b ≤ 3 then some [(nx, A, (if b = 0 then (.inl (0, 19, 0, 0)) else if a = 1 ∧ b = 1 then (.inl (0, 7, 0, 0)) else zIA) :: r)] else none
    | none => none)
  | u :: (.inr (.inr (.inr 7))) :: r => (match zlo u with
    | some (a, b, _) => if T = 100 ∧ 0 ≤ a ∧ b ≤ 2 then some [(nx, A, zIA :: r)] else none
    | none => none)
  | _ => none
theorem zaIA_ok {T : Nat} (e : zaIA T nx A S = some l) (hI : zHI g lg h) (hA : zgl g lg h A L) (hS : zgs g lg h L S st) (hi : ∀ j d, i ≠ .iinc j d) (hz : ∀ a x s, st = .int x :: .ref a :: s → zstep zcf xs pc i nx k y n c L st h = zald T nx L st h) : zOk g lg h i L l (zstep zcf xs pc i nx k y n c L st h) := by
  unfold zaIA at e
  split at e
  · next u p q r =>
    split at e
    · next a b c9 tg n9 lo hi9 e1 e2 =>
      split at e
      · next w =>
        cases e
        match st, hS with
        | z :: x :: s, hS =>
          obtain ⟨z, rfl, s1, s2, -⟩ := zlo_ok e1 hS.1
          obtain ⟨a9, rfl, k1, k2⟩ := hS.2.1
          replace k1 : p ≤ a9 := k1
          replace k2 : a9 ≤ q := k2
          obtain ⟨l, p1, p2, p3⟩ := hI.rows a9 _ _ _ _ (zspr_ok e2 k1 k2)
          obtain ⟨rfl, w1, w2⟩ := w
          obtain ⟨v, v1, v2⟩ := zald_eq (nx := nx) (L := L) (r := s) (j := z) p1 (by omega) (by omega)
          have v3 := p3 v (List.mem_of_getElem? v1)
          exact zOk_s hI hA hi ((hz _ _ _ rfl).trans v2) ⟨⟨v, rfl, v3.1, v3.2, trivial, Or.inl rfl⟩, hS.2.2⟩
        | [], hS => exact hS.elim
        | [_], hS => exact hS.2.elim
      · cases e
    · cases e
  · next u r =>
    split at e
    · next a b tt e1 =>
      split at e
      · next w =>
        cases e
        match st, hS with
        | z :: x :: s, hS =>
          obtain ⟨z, rfl, s1, s2, s3, -⟩ := zlo_ok e1 hS.1
          obtain ⟨a9, l, rfl, k1, k2, k3⟩ := hS.2.1
          obtain ⟨rfl, w1, rfl⟩ := w
          have s3 : z.toInt < g.zn := s3
          obtain ⟨v, v1, v2⟩ := zald_eq (nx := nx) (L := L) (r := s) (j := z) k2 (by omega) (by omega)
          exact zOk_s hI hA hi ((hz _ _ _ rfl).trans v2) ⟨zIA_ok v, hS.2.2⟩
        | [], hS => exact hS.elim
        | [_], hS => exact hS.2.elim
      · cases e
    · cases e
  · next u r =>
    split at e
    · next a b tt e1 =>
      split at e
      · next w =>
        cases e
        match st, hS with
        | z :: x :: s, hS =>
          obtain ⟨z, rfl, s1, s2, s3, -⟩ := zlo_ok e1 hS.1
          obtain ⟨a9, l, rfl, k1, k2, d0, d1, d2, d3, rfl, b0, b1⟩ := hS.2.1
          obtain ⟨rfl, w1, w2⟩ := w
          obtain ⟨v, v1, v2⟩ := zald_eq (nx := nx) (L := L) (r := s) (j := z) k2 (by omega) (by show z.toInt < 4; omega)
          refine zOk_s hI hA hi ((hz _ _ _ rfl).trans v2) ⟨?_, hS.2.2⟩
          split
          · rw [show z.toInt.toNat = 0 by omega] at v1
            cases v1
            exact ⟨_, rfl, b0.1, b0.2, trivial, Or.inl rfl⟩
          · split
            · rw [show z.toInt.toNat = 1 by omega] at v1
              cases v1
              exact ⟨_, rfl, b1.1, b1.2, trivial, Or.inl rfl⟩
            · exact zIA_ok v
        | [], hS => exact hS.elim
        | [_], hS => exact hS.2.elim
      · cases e
    · cases e
  · next u r =>
    split at e
    · next a b tt e1 =>
      split at e
      · next w =>
        cases e
        match st, hS with
        | z :: x :: s, hS =>
          obtain ⟨z, rfl, s1, s2, s3, -⟩ := zlo_ok e1 hS.1
          obtain ⟨a9, l, rfl, k1, k2, k3⟩ := hS.2.1
          obtain ⟨rfl, w1, w2⟩ := w
          obtain ⟨v, v1, v2⟩ := zald_eq (nx := nx) (L := L) (r := s) (j := z) k2 (by omega) (by omega)
          exact zOk_s hI hA hi ((hz _ _ _ rfl).trans v2) ⟨zIA_ok v, hS.2.2⟩
        | [], hS => exact hS.elim
        | [_], hS => exact hS.2.elim
      · cases e
    · cases e
  · cases e
def zaIS (T : Nat) (nx : Nat) (A S : List zTy) : Option (List (Nat × List zTy × List zTy)) := match S with
  | w :: u :: (.inr (.inr (.inl (p, q)))) :: r => (match zlo w, zlo u, zspr p q with
    | some (a2, b2, _), some (a, b, _), some (tg, n, lo, hi) => if tg = T ∧ (T = 100 ∨ (T = 101 ∧ lo = 0 ∧ hi = 1)) ∧ 0 ≤ a ∧ b < n ∧ lo ≤ a2 ∧ b2 ≤ hi then some [(nx, A, r)] else none
    | _, _, _ => none)
  | _ => none
theorem zaIS_ok {T : Nat} {f : Int32 → Option Int32} (e : zaIS T nx A S = some l) (hI : zHI g lg h) (hA : zgl g lg h A L) (hS : zgs g lg h L S st) (hi : ∀ j d, i ≠ .iinc j d) (hf : ∀ x : Int32, T = 100 ∨ x = 0 ∨ x = 1 → f x = some x) : zOk g lg h i L l (zast T f nx L st h) := by
  unfold zaIS at e
  split at e
  · next w u p q r =>
    split at e
    · next a2 b2 c2 a b c9 tg n9 lo hi9 e0 e1 e2 =>
      split at e
      · next w =>
        cases e
        match st, hS with
        | v :: z :: x :: s, hS =>
          obtain ⟨v, rfl, q1, q2, -⟩ := zlo_ok e0 hS.1
          obtain ⟨z, rfl, s1, s2, -⟩ := zlo_ok e1 hS.2.1
          obtain ⟨a9, rfl, k1, k2⟩ := hS.2.2.1
          replace k1 : p ≤ a9 := k1
          replace k2 : a9 ≤ q := k2
          have e3 := zspr_ok e2 k1 k2
          obtain ⟨l, p1, p2, p3⟩ := hI.rows a9 _ _ _ _ e3
          obtain ⟨rfl, w0, w1, w2, w3, w4⟩ := w
          have hv : tg = 100 ∨ v = 0 ∨ v = 1 := by
            rcases w0 with w0 | ⟨-, rfl, rfl⟩
            · exact Or.inl w0
            · right
              rcases (show v.toInt = 0 ∨ v.toInt = 1 by omega) with z | z
              · exact Or.inl (Int32.toInt_inj.mp z)
              · exact Or.inr (Int32.toInt_inj.mp z)
          have v2 := zast_eq (f := f) (nx := nx) (L := L) (r := s) (j := z) p1 (by omega) (by omega) (hf v hv)
          obtain ⟨m1, m2⟩ := zHI_row (l' := l.set z.toInt.toNat v) hI e3 (by simpa using p2) (fun x hx => by
            rcases List.mem_or_eq_of_mem_set hx with hx | rfl
            · exact p3 x hx
            · omega)
          exact ⟨nx, L, s, _, A, r, v2, List.mem_cons_self, m1, m2, zgl_mo (Nat.le_refl _) m2 hA, zgs_mo (Nat.le_refl _) m2 hS.2.2.2, fun _ _ _ k => k, fun j d e => absurd e (hi j d)⟩
        | [], hS => exact hS.elim
        | [_], hS => exact hS.2.elim
        | [_, _], hS => exact hS.2.2.elim
      · cases e
    · cases e
  · cases e
def zaAA (nx : Nat) (A S : List zTy) : Option (List (Nat × List zTy × List zTy)) := match S with
  | u :: (.inr (.inr (.inl (p, q)))) :: r => (match zlo u with
    | some (a, b, _) => if p = 46 ∧ q = 46 ∧ 0 ≤ a ∧ b ≤ 19 then some [(nx, A, (.inr (.inr (.inl (47, 66)))) :: r)] else none
    | none => none)
  | _ => none
theorem zaAA_ok (e : zaAA nx A S = some l) (hI : zHI g lg h) (hA : zgl g lg h A L) (hS : zgs g lg h L S st) (hi : ∀ j d, i ≠ .iinc j d) : zOk g lg h i L l (zaald nx L st h) := by
  unfold zaAA at e
  split at e
  · next u p q r =>
    split at e
    · next a b c9 e1 =>
      split at e
      · next w =>
        cases e
        match st, hS with
        | z :: x :: s, hS =>
          obtain ⟨z, rfl, s1, s2, -⟩ := zlo_ok e1 hS.1
          obtain ⟨a9, rfl, k1, k2⟩ := hS.2.1
          replace k1 : p ≤ a9 := k1
          replace k2 : a9 ≤ q := k2
          obtain ⟨rfl, rfl, w1, w2⟩ := w
          obtain rfl : a9 = 46 := Nat.le_antisymm k2 k1
          have hj : ¬ z < 0 := fun z => by
            have z := zlt_z z
            rw [zero_z] at z
            omega
          refine zOk_s hI hA hi (st' := .ref (47 + z.toInt.toNat) :: s) ?_ ⟨⟨_, rfl, show 47 ≤ 47 + z.toInt.toNat by omega, show 47 + z.toInt.toNat ≤ 66 by omega⟩, hS.2.2⟩
          unfold zaald
          dsimp only
          rw [hI.outer]
          dsimp only
          rw [if_pos (Or.inr rfl), show z.toNatClampNeg = z.toInt.toNat from rfl, List.getElem?_map, List.getElem?_range (by omega)]
          exact if_neg hj
        | [], hS => exact hS.elim
        | [_], hS => exact hS.2.elim
      · cases e
    · cases e
  · cases e
def zaLen (nx : Nat) (A S : List zTy) : Option (List (Nat × List zTy × List zTy)) := match S with
  | (.inr (.inr (.inl (p, q)))) :: r => (match zspr p q with
    | some (_, n, _, _) => some [(nx, A, (.inl (n, n, 0, 0)) :: r)]
    | none => if p = 46 ∧ q = 46 then some [(nx, A, (.inl (20, 20, 0, 0)) :: r)] else none)
  | (.inr (.inr (.inr 5))) :: r => some [(nx, A, (.inl (8, 16, 8, 0)) :: r)]
  | _ => none
theorem zsp_t {q t n : Nat} {lo hi : Int} (e : zsp q = some (t, n, lo, hi)) : 100 ≤ t ∧ n ≤ 128 := by
  unfold zsp at e
  split at e
  · cases e
    omega
  · split at e
    · cases e
      omega
    · split at e
      · cases e
        omega
      · split at e
        · cases e
          omega
        · split at e
          · cases e
            omega
          · cases e
theorem zalen_eq {t a : Nat} {vs : List Value} {r : List Value} (ha : h[a]? = some (t, vs)) (ht : 100 ≤ t) : zalen xs nx L (.ref a :: r) h = some (.inl (nx, L, .int (Int32.ofNat vs.length) :: r, h, 0, 0)) := by
  unfold zalen
  dsimp only
  rw [ha]
  exact if_pos ht
theorem zaLen_ok (e : zaLen nx A S = some l) (hI : zHI g lg h) (hA : zgl g lg h A L) (hS : zgs g lg h L S st) (hi : ∀ j d, i ≠ .iinc j d) : zOk g lg h i L l (zalen xs nx L st h) := by
  unfold zaLen at e
  split at e
  · next p q r =>
    match st, hS with
    | z :: s, hS =>
      obtain ⟨⟨a9, rfl, k1, k2⟩, hs⟩ := hS
      replace k1 : p ≤ a9 := k1
      replace k2 : a9 ≤ q := k2
      split at e
      · next tg n9 lo hi9 e1 =>
        cases e
        have e3 := zspr_ok e1 k1 k2
        obtain ⟨h1, h2⟩ := zsp_t e3
        obtain ⟨l, p1, p2, p3⟩ := hI.rows a9 _ _ _ _ e3
        refine zOk_s hI hA hi (zalen_eq p1 h1) ⟨⟨_, rfl, ?_, ?_, trivial, Or.inl rfl⟩, hs⟩ <;> (rw [List.length_map, p2, Int32.toInt_ofNat_of_lt (by omega)]; exact Int.le_refl _)
      · split at e
        · next w =>
          cases e
          obtain ⟨rfl, rfl⟩ := w
          obtain rfl : a9 = 46 := Nat.le_antisymm k2 k1
          exact zOk_s hI hA hi (zalen_eq hI.outer (by decide)) ⟨⟨_, rfl, by simp, by simp, trivial, Or.inl rfl⟩, hs⟩
        · cases e
    | [], hS => exact hS.elim
  · next r =>
    cases e
    match st, hS with
    | z :: s, hS =>
      obtain ⟨⟨a9, l, rfl, k1, k2, k3⟩, hs⟩ := hS
      have hz := hI.sizes
      have e9 : (Int32.ofNat (l.map Value.int).length).toInt = g.zn := by
        rw [List.length_map, k3, Int32.toInt_ofNat_of_lt (by omega)]
      exact zOk_s hI hA hi (zalen_eq k2 (by decide)) ⟨⟨_, rfl, by omega, by omega, show _ ≤ (g.zn : Int) by omega, Or.inl rfl⟩, hs⟩
    | [], hS => exact hS.elim
  · cases e
def zaGet (k y nx : Nat) (A S : List zTy) : Option (List (Nat × List zTy × List zTy)) := match S with
  | (.inr (.inr (.inl (p, q)))) :: r => (match (zcf 7)[k]? with
    | some (f, _) => if p = 44 ∧ q = 44 ∧ f = y ∧ k < 26 then some [(nx, A, zfs k :: r)] else none
    | none => none)
  | _ => none
theorem zaGet_ok (e : zaGet k y nx A S = some l) (hI : zHI g lg h) (hA : zgl g lg h A L) (hS : zgs g lg h L S st) (hi : ∀ j d, i ≠ .iinc j d) : zOk g lg h i L l (zget zcf y k nx L st h) := by
  unfold zaGet at e
  split at e
  · next p q r =>
    split at e
    · next f kd e1 =>
      split at e
      · next w =>
        cases e
        match st, hS with
        | z :: s, hS =>
          obtain ⟨⟨a9, rfl, k1, k2⟩, hs⟩ := hS
          replace k1 : p ≤ a9 := k1
          replace k2 : a9 ≤ q := k2
          obtain ⟨rfl, rfl, rfl, w1⟩ := w
          obtain rfl : a9 = 44 := Nat.le_antisymm k2 k1
          obtain ⟨vs, m1, m2, m3, m4⟩ := hI.obj
          obtain ⟨v, v1, v2⟩ := m3 k w1
          refine zOk_s hI hA hi (st' := v :: s) ?_ ⟨zga_L v2, hs⟩
          unfold zget
          dsimp only
          rw [m1]
          dsimp only
          rw [e1]
          dsimp only
          rw [if_pos rfl, v1]
          rfl
        | [], hS => exact hS.elim
      · cases e
    · cases e
  · cases e
def zaPut (k y nx : Nat) (A S : List zTy) : Option (List (Nat × List zTy × List zTy)) := match S with
  | u :: (.inr (.inr (.inl (p, q)))) :: r => (match zlo u, (zcf 7)[k]?, zfs k with
    | some (a, b, _), some (f, kd), (.inl (lo, hi, t, s)) => if p = 44 ∧ q = 44 ∧ f = y ∧ k < 26 ∧ (kd = 0 ∨ (kd = 1 ∧ lo = 0 ∧ hi = 1)) ∧ zfz.contains k = false ∧ lo ≤ a ∧ b ≤ hi ∧ t = 0 ∧ s = 0 then some [(nx, A, r)] else none
    | _, _, _ => none)
  | _ => none
theorem zaPut_ok (e : zaPut k y nx A S = some l) (hI : zHI g lg h) (hA : zgl g lg h A L) (hS : zgs g lg h L S st) (hi : ∀ j d, i ≠ .iinc j d) : zOk g lg h i L l (zput zcf y k nx L st h) := by
  unfold zaPut at e
  split at e
  · next u p q r =>
    split at e
    · next a b c9 f kd lo hi9 t9 s9 e0 e1 e2 =>
      split at e
      · next w =>
        cases e
        match st, hS with
        | v :: z :: s, hS =>
          obtain ⟨v, rfl, q1, q2, -⟩ := zlo_ok e0 hS.1
          obtain ⟨a9, rfl, k1, k2⟩ := hS.2.1
          replace k1 : p ≤ a9 := k1
          replace k2 : a9 ≤ q := k2
          obtain ⟨rfl, rfl, rfl, w1, w2, w3, w4, w5, rfl, rfl⟩ := w
          obtain rfl : a9 = 44 := Nat.le_antisymm k2 k1
          obtain ⟨vs, m1, m2, m3, m4⟩ := hI.obj
          obtain ⟨n1, n2⟩ := zHI_fld (v := .int v) hI m1 w1 (by rw [e2]; exact ⟨v, rfl, by omega, by omega, trivial, Or.inl rfl⟩) (fun hz => by
            have := List.contains_iff_mem.mpr hz
            rw [w3] at this
            cases this)
          refine ⟨nx, L, s, _, A, r, ?_, List.mem_cons_self, n1, n2, zgl_mo (Nat.le_refl _) n2 hA, zgs_mo (Nat.le_refl _) n2 hS.2.2, fun _ _ _ k => k, fun j d e => absurd e (hi j d)⟩
          have hf : zfdk kd (.int v) = true := by
            rcases w2 with rfl | ⟨rfl, rfl, rfl⟩
            · rfl
            · refine decide_eq_true ?_
              rcases (show v.toInt = 0 ∨ v.toInt = 1 by omega) with z | z
              · exact Or.inl (Int32.toInt_inj.mp z)
              · exact Or.inr (Int32.toInt_inj.mp z)
          unfold zput
          dsimp only
          rw [m1]
          dsimp only
          rw [e1]
          dsimp only
          rw [if_pos rfl, if_pos hf, if_pos (by omega)]
          rfl
        | [], hS => exact hS.elim
        | [_], hS => exact hS.2.elim
      · cases e
    · cases e
  · cases e
def zaChk (k nx : Nat) (A S : List zTy) : Option (List (Nat × List zTy × List zTy)) := match S with
  | (.inr (.inr (.inr 6))) :: _ => if k = 100 then some [(nx, A, S)] else none
  | (.inr (.inr (.inr 7))) :: _ => if k = 100 then some [(nx, A, S)] else none
  | _ => none
theorem zaChk_ok (e : zaChk k nx A S = some l) (hI : zHI g lg h) (hA : zgl g lg h A L) (hS : zgs g lg h L S st) (hi : ∀ j d, i ≠ .iinc j d) : zOk g lg h i L l (zchk k nx L st h) := by
  have key : ∀ {a : Nat} {vs s : List Value}, k = 100 → st = .ref a :: s → h[a]? = some (100, vs) → zOk g lg h i L [(nx, A, S)] (zchk k nx L st h) := by
    intro a vs s hk hs ha
    refine zOk_s hI hA hi (st' := st) ?_ hS
    subst hk
    subst hs
    unfold zchk
    dsimp only
    rw [ha]
    exact if_pos rfl
  unfold zaChk at e
  split at e
  · split at e
    · next hk =>
      cases e
      match st, hS, @key with
      | v :: s, hS, key =>
        obtain ⟨⟨q, l, rfl, k1, k2, k3⟩, hs⟩ := hS
        exact key hk rfl k2
      | [], hS, _ => exact hS.elim
    · cases e
  · split at e
    · next hk =>
      cases e
      match st, hS, @key with
      | v :: s, hS, key =>
        obtain ⟨⟨q, l, rfl, k1, k2, k3⟩, hs⟩ := hS
        exact key hk rfl k2
      | [], hS, _ => exact hS.elim
    · cases e
  · cases e
/-- the whole step -/
def zaC (x : Int32) (nx : Nat) (A S : List zTy) : Option (List (Nat × List zTy × List zTy)) := some [(nx, A, (.inl (x.toInt, x.toInt, 0, 0)) :: S)]
theorem zaC_ok {x : Int32} {r : Option zA} (e : zaC x nx A S = some l) (hI : zHI g lg h) (hA : zgl g lg h A L) (hS : zgs g lg h L S st) (hi : ∀ j d, i ≠ .iinc j d) (hr : r = zpu L (.int x) nx st h) : zOk g lg h i L l r := by
  cases e
  exact zOk_s hI hA hi hr ⟨⟨x, rfl, Int.le_refl _, Int.le_refl _, trivial, Or.inl rfl⟩, hS⟩
def zaB (i : Instr) (k y nx : Nat) (A S : List zTy) : Option (List (Nat × List zTy × List zTy)) := match i, S with
  | .ldc2_w _, S => if k = 0 then some [(nx, A, (.inr (.inr (.inr 1))) :: S)] else if k = 1 ∧ y = 4634204016564240384 then some [(nx, A, (.inr (.inr (.inr 3))) :: S)] else none
  | .i2l, t :: r => if (zlo t).isSome = true then some [(nx, A, (.inr (.inr (.inr 1))) :: r)] else none
  | .i2d, t :: r => if (zlo t).isSome = true then some [(nx, A, (.inr (.inr (.inr 4))) :: r)] else none
  | .ladd, (.inr (.inr (.inr 1))) :: (.inr (.inr (.inr 1))) :: r => some [(nx, A, (.inr (.inr (.inr 1))) :: r)]
  | .lmul, (.inr (.inr (.inr 1))) :: (.inr (.inr (.inr 1))) :: r => some [(nx, A, (.inr (.inr (.inr 1))) :: r)]
  | .dmul, (.inr (.inr (.inr 2))) :: (.inr (.inr (.inr 3))) :: r => some [(nx, A, (.inr (.inr (.inr 4))) :: r)]
  | .d2l, (.inr (.inr (.inr 4))) :: r => some [(nx, A, (.inr (.inr (.inr 1))) :: r)]
  | .dup, t :: r => if zis1 t = true then some [(nx, A, t :: t :: r)] else none
  | .pop, t :: r => if zis1 t = true then some [(nx, A, r)] else none
  | .dup2, t :: u :: r => if zis1 t = true ∧ zis1 u = true then some [(nx, A, t :: u :: t :: u :: r)] else none
  | .goto _, S => some [(k, A, S)]
  | _, _ => none
theorem zaB_ok (e : zaB i k y nx A S = some l) (hI : zHI g lg h) (hA : zgl g lg h A L) (hS : zgs g lg h L S st) : zOk g lg h i L l (zstep zcf xs pc i nx k y n c L st h) := by
  unfold zaB at e
  split at e
  · next j S =>
    split at e
    · next q =>
      cases e
      refine zOk_s hI hA (by intro _ _ e; cases e) (st' := .long (Int64.ofNat y) :: st) (if_pos q) ⟨⟨_, rfl⟩, hS⟩
    · split at e
      · next q q2 =>
        cases e
        refine zOk_s hI hA (by intro _ _ e; cases e) (st' := .double (UInt64.ofNat y) :: st) ((if_neg q).trans (if_pos q2.1)) ⟨?_, hS⟩
        rw [q2.2]
        rfl
      · cases e
  · next t r =>
    split at e
    · next q =>
      cases e
      match st, hS with
      | v :: s, hS =>
        obtain ⟨⟨a, b, c⟩, e1⟩ := Option.isSome_iff_exists.mp q
        obtain ⟨x, rfl, -⟩ := zlo_ok e1 hS.1
        exact zOk_s hI hA (by intro _ _ e; cases e) rfl ⟨⟨_, rfl⟩, hS.2⟩
      | [], hS => exact hS.elim
    · cases e
  · next t r =>
    split at e
    · next q =>
      cases e
      match st, hS with
      | v :: s, hS =>
        obtain ⟨⟨a, b, c⟩, e1⟩ := Option.isSome_iff_exists.mp q
        obtain ⟨x, rfl, -⟩ := zlo_ok e1 hS.1
        exact zOk_s hI hA (by intro _ _ e; cases e) rfl ⟨⟨_, rfl⟩, hS.2⟩
      | [], hS => exact hS.elim
    · cases e
  · cases e
    match st, hS with
    | v :: w :: s, hS =>
      obtain ⟨x, rfl⟩ := hS.1
      obtain ⟨z, rfl⟩ := hS.2.1
      exact zOk_s hI hA (by intro _ _ e; cases e) rfl ⟨⟨_, rfl⟩, hS.2.2⟩
    | [], hS => exact hS.elim
    | [_], hS => exact hS.2.elim
  · cases e
    match st, hS with
    | v :: w :: s, hS =>
      obtain ⟨x, rfl⟩ := hS.1
      obtain ⟨z, rfl⟩ := hS.2.1
      exact zOk_s hI hA (by intro _ _ e; cases e) rfl ⟨⟨_, rfl⟩, hS.2.2⟩
    | [], hS => exact hS.elim
    | [_], hS => exact hS.2.elim
  · cases e
    match st, hS with
    | v :: w :: s, hS =>
      obtain ⟨k9, hk9, rfl⟩ := hS.1
      obtain rfl := (show w = _ from hS.2.1)
      exact zOk_s hI hA (by intro _ _ e; cases e) (if_pos (zdd_1 hk9).2) ⟨⟨_, rfl⟩, hS.2.2⟩
    | [], hS => exact hS.elim
    | [_], hS => exact hS.2.elim
  · cases e
    match st, hS with
    | v :: s, hS =>
      obtain ⟨x, rfl⟩ := hS.1
      exact zOk_s hI hA (by intro _ _ e; cases e) rfl ⟨⟨_, rfl⟩, hS.2⟩
    | [], hS => exact hS.elim
  · split at e
    · next q =>
      cases e
      match st, hS with
      | v :: s, hS =>
        have z := zis1_ok q hS.1
        exact zOk_s hI hA (st' := v :: v :: s) (by intro _ _ e; cases e) (show (if zcat v then none else zgo nx L (v :: v :: s) h) = _ by rw [z]; rfl) ⟨hS.1, hS.1, hS.2⟩
      | [], hS => exact hS.elim
    · cases e
  · split at e
    · next q =>
      cases e
      match st, hS with
      | v :: s, hS =>
        have z := zis1_ok q hS.1
        exact zOk_s hI hA (st' := s) (by intro _ _ e; cases e) (show (if zcat v then none else zgo nx L s h) = _ by rw [z]; rfl) hS.2
      | [], hS => exact hS.elim
    · cases e
  · split at e
    · next q =>
      cases e
      match st, hS with
      | v :: w :: s, hS =>
        have z := zis1_ok q.1 hS.1
        have z2 := zis1_ok q.2 hS.2.1
        exact zOk_s hI hA (st' := v :: w :: v :: w :: s) (by intro _ _ e; cases e) (show (if zcat v || zcat w then none else zgo nx L (v :: w :: v :: w :: s) h) = _ by rw [z, z2]; rfl) ⟨hS.1, hS.2.1, hS.1, hS.2.1, hS.2.2⟩
      | [], hS => exact hS.elim
      | [_], hS => exact hS.2.elim
    · cases e
  · cases e
    exact ⟨_, L, st, h, A, _, rfl, List.mem_cons_self, hI, zLE_rf, hA, hS, fun _ _ _ k => k, fun j d e => by cases e⟩
  · cases e
def zab (i : Instr) (nx k y pc : Nat) (A S : List zTy) : Option (List (Nat × List zTy × List zTy)) := match i with
  | .iload j => zaLI j nx A S
  | .iload_n j => zaLI j nx A S
  | .aload j => zaLA j nx A S
  | .aload_n j => zaLA j nx A S
  | .lload j => zaLL j nx A S
  | .lload_n j => zaLL j nx A S
  | .istore j => zaSI j nx A S
  | .istore_n j => zaSI j nx A S
  | .astore j => zaSA j nx A S
  | .astore_n j => zaSA j nx A S
  | .lstore j => zaSL j nx A S
  | .lstore_n j => zaSL j nx A S
  | .iinc j d => zaInc j d nx A S
  | .iconst z => zaC (Int32.ofInt z) nx A S
  | .bipush z => zaC (Int8.ofInt z).toInt32 nx A S
  | .sipush z => zaC (Int16.ofInt z).toInt32 nx A S
  | .ifCond q _ => zaIf q k nx A S
  | .if_icmp q _ => zaCmp q k nx A S
  | .tableswitch d lo hi os => zaTab pc d lo hi os A S
  | .iaload => zaIA 100 nx A S
  | .baload => if k = 101 then zaIA 101 nx A S else none
  | .iastore => zaIS 100 nx A S
  | .bastore => if k = 101 then zaIS 101 nx A S else none
  | .aaload => zaAA nx A S
  | .arraylength => zaLen nx A S
  | .getfield _ => zaGet k y nx A S
  | .putfield _ => zaPut k y nx A S
  | .checkcast _ => zaChk k nx A S
  | .ldc2_w j => zaB (.ldc2_w j) k y nx A S
  | .i2l => zaB .i2l k y nx A S
  | .i2d => zaB .i2d k y nx A S
  | .ladd => zaB .ladd k y nx A S
  | .lmul => zaB .lmul k y nx A S
  | .dmul => zaB .dmul k y nx A S
  | .d2l => zaB .d2l k y nx A S
  | .dup => zaB .dup k y nx A S
  | .pop => zaB .pop k y nx A S
  | .dup2 => zaB .dup2 k y nx A S
  | .goto j => zaB (.goto j) k y nx A S
  | .iadd => zaBin .iadd nx A S
  | .isub => zaBin .isub nx A S
  | .imul => zaBin .imul nx A S
  | .idiv => zaBin .idiv nx A S
  | .irem => zaBin .irem nx A S
  | .iand => zaBin .iand nx A S
  | .ior => zaBin .ior nx A S
  | .ixor => zaBin .ixor nx A S
  | .ishl => zaBin .ishl nx A S
  | .ishr => zaBin .ishr nx A S
  | _ => none
theorem zab_ok (e : zab i nx k y pc A S = some l) (hI : zHI g lg h) (hA : zgl g lg h A L) (hS : zgs g lg h L S st) : zOk g lg h i L l (zstep zcf xs pc i nx k y n c L st h) := by
  unfold zab at e
  split at e
  · exact zaLI_ok e hI hA hS (by intro _ _ e; cases e)
  · exact zaLI_ok e hI hA hS (by intro _ _ e; cases e)
  · exact zaLA_ok e hI hA hS (by intro _ _ e; cases e)
  · exact zaLA_ok e hI hA hS (by intro _ _ e; cases e)
  · exact zaLL_ok e hI hA hS (by intro _ _ e; cases e)
  · exact zaLL_ok e hI hA hS (by intro _ _ e; cases e)
  · exact zaSI_ok e hI hA hS (by intro _ _ e; cases e) (fun _ => rfl)
  · exact zaSI_ok e hI hA hS (by intro _ _ e; cases e) (fun _ => rfl)
  · exact zaSA_ok e hI hA hS (by intro _ _ e; cases e) (fun _ => rfl)
  · exact zaSA_ok e hI hA hS (by intro _ _ e; cases e) (fun _ => rfl)
  · exact zaSL_ok e hI hA hS (by intro _ _ e; cases e) (fun _ => rfl)
  · exact zaSL_ok e hI hA hS (by intro _ _ e; cases e) (fun _ => rfl)
  · exact zaInc_ok e hI hA hS
  · exact zaC_ok e hI hA hS (by intro _ _ e; cases e) rfl
  · exact zaC_ok e hI hA hS (by intro _ _ e; cases e) rfl
  · exact zaC_ok e hI hA hS (by intro _ _ e; cases e) rfl
  · exact zaIf_ok e hI hA hS (by intro _ _ e; cases e)
  · exact zaCmp_ok e hI hA hS (by intro _ _ e; cases e)
  · exact zaTab_ok e hI hA hS (by intro _ _ e; cases e)
  · refine zaIA_ok e hI hA hS (by intro _ _ e; cases e) (fun a x s hs => ?_)
    subst hs
    rfl
  · split at e
    · next q =>
      subst q
      exact zaIA_ok e hI hA hS (by intro _ _ e; cases e) (fun a x s hs => rfl)
    · cases e
  · exact zaIS_ok e hI hA hS (by intro _ _ e; cases e) (fun x hx => rfl)
  · split at e
    · next q =>
      subst q
      exact zaIS_ok e hI hA hS (by intro _ _ e; cases e) (fun x hx => if_pos (hx.resolve_left (by decide)))
    · cases e
  · exact zaAA_ok e hI hA hS (by intro _ _ e; cases e)
  · exact zaLen_ok e hI hA hS (by intro _ _ e; cases e)
  · exact zaGet_ok e hI hA hS (by intro _ _ e; cases e)
  · exact zaPut_ok e hI hA hS (by intro _ _ e; cases e)
  · exact zaChk_ok e hI hA hS (by intro _ _ e; cases e)
  · exact zaB_ok e hI hA hS
  · exact zaB_ok e hI hA hS
  · exact zaB_ok e hI hA hS
  · exact zaB_ok e hI hA hS
  · exact zaB_ok e hI hA hS
  · exact zaB_ok e hI hA hS
  · exact zaB_ok e hI hA hS
  · exact zaB_ok e hI hA hS
  · exact zaB_ok e hI hA hS
  · exact zaB_ok e hI hA hS
  · exact zaB_ok e hI hA hS
  · exact zaBin_ok e hI hA hS (by intro _ _ e; cases e)
  · exact zaBin_ok e hI hA hS (by intro _ _ e; cases e)
  · exact zaBin_ok e hI hA hS (by intro _ _ e; cases e)
  · exact zaBin_ok e hI hA hS (by intro _ _ e; cases e)
  · exact zaBin_ok e hI hA hS (by intro _ _ e; cases e)
  · exact zaBin_ok e hI hA hS (by intro _ _ e; cases e)
  · exact zaBin_ok e hI hA hS (by intro _ _ e; cases e)
  · exact zaBin_ok e hI hA hS (by intro _ _ e; cases e)
  · exact zaBin_ok e hI hA hS (by intro _ _ e; cases e)
  · exact zaBin_ok e hI hA hS (by intro _ _ e; cases e)
  · cases e
end ZAB
end zg37
section zg38
/-! A method whose table of kinds is in order keeps its contract. -/
abbrev zRk : Type := Nat ⊕ (Int × Nat)
def zrv (L : zL) : zRk → Nat
  | (.inl a) => a
  | (.inr (b, j)) => match L[j]? with
    | some (some (.int x)) => (b - x.toInt).toNat
    | _ => 0
def zrd (i : Instr) (A : List zTy) : List zRk → List zRk → Bool
  | (.inl a) :: r, (.inl b) :: s => decide (b < a) || (a == b && zrd i A r s)
  | (.inr (b, j)) :: r, (.inr (b', j')) :: s => decide (b = b') && j == j' && (match A[j]? with
    | some ((.inl (_, hi, _, _))) => (match i with
      | .iinc j2 d => if j2 = j then decide (0 < (Int32.ofInt d).toInt) && decide (hi < b) && decide (hi + (Int32.ofInt d).toInt ≤ 2147483647) else zrd i A r s
      | _ => zmd i j == false && zrd i A r s)
    | _ => false)
  | _, _ => false
def zlx : List Nat → List Nat → Prop
  | a :: r, b :: s => a < b ∨ (a = b ∧ zlx r s)
  | _, _ => False
theorem zlx_ind : ∀ (m : Nat) (P : List Nat → Prop), (∀ l, l.length = m → (∀ l', l'.length = m → zlx l' l → P l') → P l) → ∀ l, l.length = m → P l
  | 0, P, st, l, e => st l e (fun l' e' z => by
    have : l' = [] := List.length_eq_zero_iff.mp e'
    subst this
    exact z.elim)
  | m + 1, P, st, l, e => by
    have key : ∀ a : Nat, ∀ r : List Nat, r.length = m → P (a :: r) := by
      intro a
      induction a using Nat.strongRecOn with
      | ind a ih =>
        refine zlx_ind m (fun r => P (a :: r)) (fun r hr ih2 => st (a :: r) (by simp [hr]) (fun l' e' z => ?_))
        match l', e', z with
        | b :: s, e', z =>
          rcases z with z2 | ⟨z1, z2⟩
          · exact ih b z2 s (by simpa using e')
          · subst z1
            exact ih2 s (by simpa using e') z2
        | [], _, z => exact z.elim
    match l, e with
    | a :: r, e => exact key a r (by simpa using e)
    | [], e => cases e
theorem zrd_ok {g : zG} {lg : Nat} {h : zH} {i : Instr} {A : List zTy} {L L' : zL} (hA : zgl g lg h A L) (hf : zLf i L L') : ∀ {rk rk' : List zRk}, zrd i A rk rk' = true → zlx (rk'.map (zrv L')) (rk.map (zrv L))
  | (.inl a) :: r, (.inl b) :: s, e => by
    have e : (decide (b < a) || (a == b && zrd i A r s)) = true := e
    rw [Bool.or_eq_true, Bool.and_eq_true, decide_eq_true_eq, beq_iff_eq] at e
    rcases e with e | ⟨e1, e2⟩
    · exact Or.inl e
    · exact Or.inr ⟨e1.symm, zrd_ok hA hf e2⟩
  | (.inr (b, j)) :: r, (.inr (b', j')) :: s, e => by
    unfold zrd at e
    rw [Bool.and_eq_true, Bool.and_eq_true, decide_eq_true_eq, beq_iff_eq] at e
    obtain ⟨⟨rfl, rfl⟩, e⟩ := e
    split at e
    · next a hi t s9 q =>
      rcases zgl_get hA q with z | ⟨w, e1, x, rfl, k1, k2, k3, -⟩
      · cases z
      · have same : zmd i j = false → zrv L' ((.inr (b, j))) = zrv L ((.inr (b, j))) := fun z => by
          show (match L'[j]? with
            | some (some (.int x)) => (b - x.toInt).toNat
            | _ => 0) = (match L[j]? with
            | some (some (.int x)) => (b - x.toInt).toNat
            | _ => 0)
          rw [hf.1 j x z e1, e1]
        split at e
        · next j2 d =>
          split at e
          · next q2 =>
            subst q2
            simp only [Bool.and_eq_true, decide_eq_true_eq] at e
            left
            have e2 := Int32.toInt_add x (Int32.ofInt d)
            rw [zbm (by have := Int32.le_toInt x; omega) (by omega)] at e2
            show (match L'[j2]? with
              | some (some (.int x)) => (b - x.toInt).toNat
              | _ => 0) < (match L[j2]? with
              | some (some (.int x)) => (b - x.toInt).toNat
              | _ => 0)
            rw [hf.2 j2 d rfl x e1, e1]
            show (b - (x + Int32.ofInt d).toInt).toNat < (b - x.toInt).toNat
            rw [e2]
            exact (Int.toNat_lt_toNat (by omega)).mpr (by omega)
          · next q2 => exact Or.inr ⟨same (by show (j2 == j) = false; simpa using q2), zrd_ok hA hf e⟩
        · rw [Bool.and_eq_true, beq_iff_eq] at e
          exact Or.inr ⟨same e.1, zrd_ok hA hf e.2⟩
    · cases e
  | (.inl _) :: _, (.inr (_, _)) :: _, e => by cases e
  | (.inr (_, _)) :: _, (.inl _) :: _, e => by cases e
  | [], _, e => by cases e
  | (.inl _) :: _, [], e => by cases e
  | (.inr (_, _)) :: _, [], e => by cases e
/-- a table: place, rank, what may still be made, kinds of locals and stack -/
abbrev zCe : Type := Nat × List zRk × (Nat × Nat) × List zTy × List zTy
def zlkc : List zCe → Nat → Option (List zRk × (Nat × Nat) × List zTy × List zTy)
  | [], _ => none
  | (q, x) :: r, pc => if q = pc then some x else zlkc r pc
def zed (cert : List zCe) (i : Instr) (A : List zTy) (rk : List zRk) (bu : Nat × Nat) (s : Nat × List zTy × List zTy) : Bool := match zlkc cert s.1 with
  | some (rk', bu', A2, S2) => rk.length == rk'.length && zrd i A rk rk' && zsbs s.2.1 A2 && zsbs s.2.2 S2 && decide (bu'.1 ≤ bu.1) && decide (bu'.2 ≤ bu.2)
  | none => false
def zcsA : List zTy → Nat
  | [] => 0
  | t :: r => (if zis1 t = true then 1 else 2) + zcsA r
theorem zcsA_ok {g : zG} {lg : Nat} {h : zH} {L : zL} : ∀ {S : List zTy} {st : List Value}, zgs g lg h L S st → zcs st ≤ zcsA S
  | [], [], _ => Nat.le_refl _
  | t :: r, v :: s, k => by
    have ih := zcsA_ok k.2
    show (if zcat v then 2 else 1) + zcs s ≤ (if zis1 t = true then 1 else 2) + zcsA r
    split
    · split
      · next a b =>
        have := zis1_ok b k.1
        rw [a] at this
        cases this
      · omega
    · split <;> omega
  | [], _ :: _, k => k.elim
  | _ :: _, [], k => k.elim
theorem zgs_len {g : zG} {lg : Nat} {h : zH} {L : zL} : ∀ {S : List zTy} {st : List Value}, zgs g lg h L S st → S.length = st.length
  | [], [], _ => rfl
  | _ :: _, _ :: _, k => congrArg (· + 1) (zgs_len k.2)
  | [], _ :: _, k => k.elim
  | _ :: _, [], k => k.elim
theorem zgs_take {g : zG} {lg : Nat} {h : zH} {L : zL} : ∀ {n : Nat} {S : List zTy} {st : List Value}, zgs g lg h L S st → zgs g lg h L (S.take n) (st.take n)
  | 0, _, _, _ => by rw [List.take_zero, List.take_zero]; trivial
  | n + 1, [], [], _ => trivial
  | n + 1, _ :: _, _ :: _, k => ⟨k.1, zgs_take (n := n) k.2⟩
  | _ + 1, [], _ :: _, k => k.elim
  | _ + 1, _ :: _, [], k => k.elim
theorem zgs_drop {g : zG} {lg : Nat} {h : zH} {L : zL} : ∀ {n : Nat} {S : List zTy} {st : List Value}, zgs g lg h L S st → zgs g lg h L (S.drop n) (st.drop n)
  | 0, _, _, k => k
  | n + 1, [], [], _ => trivial
  | n + 1, _ :: _, _ :: _, k => zgs_drop (n := n) k.2
  | _ + 1, [], _ :: _, k => k.elim
  | _ + 1, _ :: _, [], k => k.elim
theorem zgs_app {g : zG} {lg : Nat} {h : zH} {L : zL} : ∀ {S S2 : List zTy} {st s2 : List Value}, zgs g lg h L S st → zgs g lg h L S2 s2 → zgs g lg h L (S ++ S2) (st ++ s2)
  | [], _, [], _, _, k => k
  | _ :: _, _, _ :: _, _, k, k2 => ⟨k.1, zgs_app k.2 k2⟩
  | [], _, _ :: _, _, k, _ => k.elim
  | _ :: _, _, [], _, k, _ => k.elim
theorem zgs_rev {g : zG} {lg : Nat} {h : zH} {L : zL} : ∀ {S : List zTy} {st : List Value}, zgs g lg h L S st → zgs g lg h L S.reverse st.reverse
  | [], [], _ => trivial
  | _ :: _, _ :: _, k => by
    rw [List.reverse_cons, List.reverse_cons]
    exact zgs_app (zgs_rev k.2) ⟨k.1, trivial⟩
  | [], _ :: _, k => k.elim
  | _ :: _, [], k => k.elim
theorem zgs_fl {g : zG} {lg : Nat} {h : zH} {L : zL} : ∀ {S : List zTy} {st : List Value}, zgs g lg h L S st → zgs g lg h [] (S.map zfl) st
  | [], [], _ => trivial
  | _ :: _, _ :: _, k => ⟨zga_fl k.1, zgs_fl k.2⟩
  | [], _ :: _, k => k.elim
  | _ :: _, [], k => k.elim
theorem zgs_get {g : zG} {lg : Nat} {h : zH} {L : zL} : ∀ {i : Nat} {S : List zTy} {st : List Value} {T : zTy}, zgs g lg h L S st → S[i]? = some T → ∃ v, st[i]? = some v ∧ zga g lg h L T v
  | _, [], [], _, _, e => by cases e
  | 0, _ :: _, _ :: _, _, k, e => by
    cases e
    exact ⟨_, rfl, k.1⟩
  | i + 1, _ :: _, _ :: _, _, k, e => zgs_get (i := i) k.2 e
  | _, [], _ :: _, _, k, _ => k.elim
  | _, _ :: _, [], _, k, _ => k.elim
theorem ztk_eq : ∀ {n : Nat} {acc st : List Value}, n ≤ st.length → ztk n acc st = some ((st.take n).reverse ++ acc, st.drop n)
  | 0, _, _, _ => rfl
  | n + 1, acc, v :: r, hn => by
    show ztk n (v :: acc) r = _
    rw [ztk_eq (by simpa using hn)]
    simp
  | _ + 1, _, [], hn => by cases hn
/-- what a call leaves on the stack -/
def zrtT (as : List zTy) : Option zTy → List zTy
  | none => []
  | some ((.inr (.inl (i, lo, hi, t)))) => [match as[i]? with
    | some ((.inl (_, _, _, (s + 1)))) => (.inr (.inl (s, lo, hi, t)))
    | _ => (.inl (0, 1, 0, 0))]
  | some t => [t]
theorem zrtT_ok {g : zG} {lg lg2 : Nat} {h h2 : zH} {L : zL} {as : List zTy} {vs : List Value} {rt : Option zTy} {v : Option Value} (ha : zgs g lg2 h2 L as vs) (k : zgo2 g lg h (vs.map some) rt v) (hr : ∀ T, rt = some T → zfree T = true ∨ ∃ i lo hi t, T = (.inr (.inl (i, lo, hi, t)))) : zgs g lg h L (zrtT as rt) v.toList := by
  cases rt with
  | none =>
    obtain rfl := (show v = none from k)
    trivial
  | some T =>
    obtain ⟨w, rfl, k⟩ := k
    rcases hr T rfl with f | ⟨i, lo, hi, t, rfl⟩
    · have e : zrtT as (some T) = [T] := by
        induction T using zTc <;> first | rfl | cases f
      rw [e]
      have z := zga_fl (L' := L) k
      have e2 : zfl T = T := by
        induction T using zTc with
        | I lo hi t s =>
          have z : s = 0 := by simpa [zfree] using f
          subst z
          rfl
        | B i lo hi t => exact absurd f (by simp [zfree])
        | _ => rfl
      rw [e2] at z
      exact ⟨z, trivial⟩
    · refine ⟨?_, trivial⟩
      split
      · next a b t9 s q =>
        obtain ⟨x, e1, k1, k2⟩ := k
        obtain ⟨u, u1, x2, rfl, -, -, -, u2⟩ := zgs_get ha q
        refine ⟨x, e1, k1, fun z => ?_⟩
        obtain ⟨w2, w3, w4⟩ := k2 z
        rw [List.getElem?_map, u1] at w3
        cases w3
        rcases u2 with u2 | u2
        · cases u2
        · exact ⟨_, u2, w4⟩
      · exact zga_fl (t := (.inr (.inl (i, lo, hi, t)))) k

def zcr : Option zTy → Bool
  | none => true
  | some ((.inr (.inl (_, _, _, _)))) => true
  | some T => zfree T
def zcp (dep y : Nat) (as : List zTy) (ct : zCt) : Bool := ct.y == y && zsbs (as.map zfl) ct.as && decide (ct.dep + 1 ≤ dep) && zcr ct.rt
def zcg (cs : List zCt) (dep y m : Nat) (S : List zTy) : Option (List zTy × Nat × Nat) := if m ≤ S.length ∧ zcsA (S.drop m) ≤ 8 then (match cs.find? (zcp dep y (S.take m).reverse) with
    | some ct => some (zrtT (S.take m).reverse ct.rt ++ S.drop m, ct.dc, ct.ds)
    | none => none) else none
def zcv (c : Nat) : List zTy → Bool
  | (.inr (.inr (.inl (p, q)))) :: _ => p == 44 && q == 44 && c == 7
  | (.inr (.inr (.inr (j + 8)))) :: _ => c == 10 && decide (j < 3)
  | _ => false
def zcin (dep : Nat) : List zTy → Option (List zTy × Nat × Nat)
  | u :: w :: t :: r => (match zlo u, zlo w, zlo t with
    | some (_, b, tt), some (a, _, _), some _ => if zcsA r ≤ 8 ∧ 1 ≤ dep then some ((match t with
      | (.inl (_, _, _, (s + 1))) => (.inr (.inl (s, a, b, tt)))
      | _ => (.inl (0, 1, 0, 0))) :: r, 0, 0) else none
    | _, _, _ => none)
  | _ => none
def zcll (cs : List zCt) (dep : Nat) (i : Instr) (k y n c : Nat) (S : List zTy) : Option (List zTy × Nat × Nat) := match i with
  | .invokestatic _ => if k = 10 ∨ k = 12 ∨ k = 13 then none else if y = 112 then (if n = 3 then zcin dep S else none) else zcg cs dep y n S
  | .invokevirtual _ => if k = 11 then none else if zcv c (S.take (n + 1)).reverse = true then zcg cs dep y (n + 1) S else none
  | .invokeinterface _ _ => if zcv c (S.take (n + 1)).reverse = true then zcg cs dep y (n + 1) S else none
  | _ => none
/-- Math.min, max -/
def zmmA (i : Instr) (k nx : Nat) (A S : List zTy) : Option (List (Nat × List zTy × List zTy)) := match i, S with
  | .invokestatic _, u :: t :: r => if (k = 12 ∨ k = 13) ∧ (zlo t).isSome = true ∧ (zlo u).isSome = true ∧ zcsA r ≤ 8 then some [(nx, A, zIA :: r)] else none
  | _, _ => none
def zrtc (i : Instr) (k : Nat) (S : List zTy) (rt : Option zTy) : Bool := match i, S, rt with
  | .ireturn, [t], some T => (match zlo t with
    | some (a, b, _) => (k == 0 || (k == 1 && decide (0 ≤ a) && decide (b ≤ 1))) && zsub (zfl t) T && zfree T
    | none => false)
  | .lreturn, [(.inr (.inr (.inr 1)))], some (.inr (.inr (.inr 1))) => true
  | .dreturn, [(.inr (.inr (.inr 2)))], some (.inr (.inr (.inr 2))) => true
  | .dreturn, [(.inr (.inr (.inr 2)))], some (.inr (.inr (.inr 4))) => true
  | .dreturn, [(.inr (.inr (.inr 4)))], some (.inr (.inr (.inr 4))) => true
  | .return_, [], none => true
  | _, _, _ => false
def zce (y : Nat) (cs : List zCt) (cert : List zCe) (dep : Nat) (rt : Option zTy) (e : zCe) : Bool := match zat (zmc y) e.1 with
  | none => false
  | some (i, nx, k, yy, n, c) => zrtc i k e.2.2.2.2 rt || (match zab i nx k yy e.1 e.2.2.2.1 e.2.2.2.2 with
    | some l => l.all (zed cert i e.2.2.2.1 e.2.1 e.2.2.1)
    | none => match zmmA i k nx e.2.2.2.1 e.2.2.2.2 with
      | some l => l.all (zed cert i e.2.2.2.1 e.2.1 e.2.2.1)
      | none => match zcll cs dep i k yy n c e.2.2.2.2 with
        | some (S', dc, ds) => decide (dc ≤ e.2.2.1.1) && decide (ds ≤ e.2.2.1.2) && zed cert i e.2.2.2.1 e.2.1 (e.2.2.1.1 - dc, e.2.2.1.2 - ds) (nx, e.2.2.2.1, S')
        | none => false)
section ZCH
variable {xs : List Int32} {g : zG} {lg : Nat} {h : zH} {L : zL} {A S : List zTy} {st : List Value} {cs : List zCt} {D y m nc ns k n c nx pc : Nat} {i : Instr} {S' : List zTy} {dc ds : Nat}
theorem zMs_mono {D D' y : Nat} {as : List Value} {P : zO → Prop} (hD : D ≤ D') (k : zMs xs D y as h nc ns P) : zMs xs D' y as h nc ns P := by
  obtain ⟨L0, e, o, N, p, q⟩ := k
  exact ⟨L0, e, o, N, p, fun d n hd hn => q d n (by omega) hn⟩
theorem zMs_post {D y : Nat} {as : List Value} {P P' : zO → Prop} (w : ∀ o, P o → P' o) (k : zMs xs D y as h nc ns P) : zMs xs D y as h nc ns P' := by
  obtain ⟨L0, e, o, N, p, q⟩ := k
  exact ⟨L0, e, o, N, w o p, q⟩
/-- what a call is known to leave -/
def zPc (g : zG) (lg : Nat) (h : zH) (L : zL) (nc ns : Nat) (S' : List zTy) (r : List Value) (dc ds : Nat) : zO → Prop := fun o => ∃ v h' lg' nc' ns', o = (.inl v, h', nc', ns') ∧ zgs g lg' h' L S' (v.toList ++ r) ∧ zHI g lg' h' ∧ zLE h h' ∧ lg ≤ lg' ∧ nc' + 2 * lg ≤ nc + 2 * lg' + dc ∧ ns' + 100 * lg ≤ ns + 100 * lg' + ds
theorem zcg_ok (hcs : ∀ ct ∈ cs, zGd xs ct) (e : zcg cs (D + 1) y m S = some (S', dc, ds)) (hI : zHI g lg h) (hS : zgs g lg h L S st) : m ≤ st.length ∧ zcs (st.drop m) ≤ 8 ∧ zMs xs D y (st.take m).reverse h nc ns (zPc g lg h L nc ns S' (st.drop m) dc ds) := by
  unfold zcg at e
  split at e
  · next w =>
    split at e
    · next ct q =>
      cases e
      have hm := List.mem_of_find?_eq_some q
      have hp := List.find?_some q
      unfold zcp at hp
      simp only [Bool.and_eq_true, beq_iff_eq, decide_eq_true_eq] at hp
      obtain ⟨⟨⟨rfl, p2⟩, p3⟩, p4⟩ := hp
      have hl := zgs_len hS
      have hd := zgs_drop (n := m) hS
      have ha := zgs_rev (zgs_take (n := m) hS)
      refine ⟨by omega, Nat.le_trans (zcsA_ok hd) w.2, zMs_mono (by omega) (zMs_post (fun o ho => ?_) (hcs ct hm g lg h nc ns _ hI (zsbs_s p2 (zgs_fl ha))))⟩
      obtain ⟨v, h', lg', nc', ns', rfl, b1, b2, b3, b4, b5, b6⟩ := ho
      refine ⟨v, h', lg', nc', ns', rfl, zgs_app (zrtT_ok ha b1 (fun T hT => ?_)) (zgs_mo b4 b3 hd), b2, b3, b4, b5, b6⟩
      rw [hT] at p4
      induction T using zTc <;> first | exact Or.inl p4 | exact Or.inr ⟨_, _, _, _, rfl⟩
    · cases e
  · cases e
/-- in -/
theorem m_112 {a b x : Int32} : zMs xs (D + 0) 112 [.int x, .int a, .int b] h nc ns (fun o => ∃ w : Int32, (w = 0 ∨ w = 1) ∧ (¬ w = 0 → a.toInt ≤ x.toInt ∧ x.toInt ≤ b.toInt) ∧ (w = 0 → x.toInt < a.toInt ∨ b.toInt < x.toInt) ∧ o = (.inl (some (.int w)), h, nc, ns)) := by
  refine ⟨_, rfl, ?_⟩
  refine zEs_run 2 rfl ?_
  refine zEs_icmp rfl (fun g => ?_) (fun g => ?_)
  · have z1 := zF_lt_t g
    refine zEs_run 1 rfl ?_
    exact zEs_bret rfl (Or.inl rfl) ⟨0, Or.inl rfl, fun z => absurd rfl z, fun _ => Or.inl z1, rfl⟩
  · have z1 := zF_lt_f g
    refine zEs_run 2 rfl ?_
    refine zEs_icmp rfl (fun g => ?_) (fun g => ?_)
    · have z2 := zF_gt_t g
      refine zEs_run 1 rfl ?_
      exact zEs_bret rfl (Or.inl rfl) ⟨0, Or.inl rfl, fun z => absurd rfl z, fun _ => Or.inr z2, rfl⟩
    · have z2 := zF_gt_f g
      refine zEs_run 2 rfl ?_
      exact zEs_bret rfl (Or.inr rfl) ⟨1, Or.inr rfl, fun _ => ⟨z1, z2⟩, fun z => absurd z (by decide), rfl⟩
theorem zcin_ok (e : zcin (D + 1) S = some (S', dc, ds)) (hI : zHI g lg h) (hS : zgs g lg h L S st) : 3 ≤ st.length ∧ zcs (st.drop 3) ≤ 8 ∧ zMs xs D 112 (st.take 3).reverse h nc ns (zPc g lg h L nc ns S' (st.drop 3) dc ds) := by
  unfold zcin at e
  split at e
  · next u w t r =>
    split at e
    · next a0 b tt a b0 t0 w3 e1 e2 e3 =>
      split at e
      · next q =>
        cases e
        match st, hS with
        | v1 :: v2 :: v3 :: s, hS =>
          obtain ⟨hi, rfl, -, i2, i3, -⟩ := zlo_ok e1 hS.1
          obtain ⟨lo, rfl, l1, -, -⟩ := zlo_ok e2 hS.2.1
          obtain ⟨a3, b3, c3⟩ := w3
          obtain ⟨x, rfl, -, -, -, x4⟩ := zlo_ok e3 hS.2.2.1
          refine ⟨by simp, Nat.le_trans (zcsA_ok hS.2.2.2) q.1, zMs_mono (Nat.zero_le _) (zMs_post (fun o ho => ?_) (m_112 (D := 0)))⟩
          obtain ⟨w9, w1, w2, -, rfl⟩ := ho
          refine ⟨_, h, lg, nc, ns, rfl, ⟨?_, hS.2.2.2⟩, hI, zLE_rf, Nat.le_refl _, Nat.le_refl _, Nat.le_refl _⟩
          split
          · next q1 q2 q3 p4 q5 =>
            refine ⟨w9, rfl, w1, fun z => ?_⟩
            obtain ⟨z1, z2⟩ := w2 z
            have x4 : p4 + 1 = 0 ∨ L[p4 + 1 - 1]? = some (some (.int x)) := x4
            exact ⟨x, x4.resolve_left (by omega), by omega, by omega, zta_le z2 i3⟩
          · refine ⟨w9, rfl, ?_, ?_, trivial, Or.inl rfl⟩ <;> rcases w1 with rfl | rfl <;> decide
        | [], hS => exact hS.elim
        | [_], hS => exact hS.2.elim
        | [_, _], hS => exact hS.2.2.elim
      · cases e
    · cases e
  · cases e
theorem zcv_ok {as : List zTy} {vs : List Value} (e : zcv c as = true) (hI : zHI g lg h) (k : zgs g lg h L as vs) : ∃ a as' ws, vs = .ref a :: as' ∧ h[a]? = some (c, ws) := by
  unfold zcv at e
  split at e
  · next p q r =>
    simp only [Bool.and_eq_true, beq_iff_eq] at e
    obtain ⟨⟨rfl, rfl⟩, rfl⟩ := e
    match vs, k with
    | v :: s, k =>
      obtain ⟨⟨a, rfl, k1, k2⟩, -⟩ := k
      replace k1 : 44 ≤ a := k1
      replace k2 : a ≤ 44 := k2
      obtain rfl : a = 44 := Nat.le_antisymm k2 k1
      obtain ⟨ws, w, -⟩ := hI.obj
      exact ⟨44, s, ws, rfl, w⟩
    | [], k => exact k.elim
  · next j r =>
    rw [Bool.and_eq_true, beq_iff_eq, decide_eq_true_eq] at e
    obtain ⟨rfl, hj⟩ := e
    match vs, k with
    | v :: s, k =>
      obtain rfl := (show v = _ from k.1)
      have key : ∀ {r n : Nat} {Q : List Int32 → Prop} {dq : Option Nat}, zLi h r n Q dq → ∃ ws, h[r]? = some (10, ws) := by
        intro r n Q dq z
        obtain ⟨es, z, -⟩ := z
        obtain ⟨a, b, z⟩ := zLs_size z
        exact ⟨_, z⟩
      obtain ⟨E, kk⟩ := hI.lists
      obtain ⟨ws, w⟩ := key (kk j (Nat.lt_of_lt_of_le hj hI.sizes.2.2.2.2.2.1)).2.1
      exact ⟨_, s, ws, rfl, w⟩
    | [], k => exact k.elim
  · cases e
theorem zcl_ok (hcs : ∀ ct ∈ cs, zGd xs ct) (e : zcll cs (D + 1) i k y n c S = some (S', dc, ds)) (hI : zHI g lg h) (hS : zgs g lg h L S st) : ∃ as r, zstep zcf xs pc i nx k y n c L st h = some (.inr (.inl (y, as, r, nx))) ∧ zMs xs D y as h nc ns (zPc g lg h L nc ns S' r dc ds) := by
  unfold zcll at e
  split at e
  · next j9 =>
    split at e
    · cases e
    · next q =>
      have hst : ∀ {m : Nat}, n = m → m ≤ st.length → zcs (st.drop m) ≤ 8 → zstep zcf xs pc (.invokestatic j9) nx k y n c L st h = some (.inr (.inl (y, (st.take m).reverse, st.drop m, nx))) := by
        intro m hm h1 h2
        subst hm
        refine (if_neg (fun z => q (Or.inl z))).trans ((if_neg (fun z => q (Or.inr (Or.inl z)))).trans ((if_neg (fun z => q (Or.inr (Or.inr z)))).trans ?_))
        unfold zcall
        rw [ztk_eq h1, List.append_nil]
        exact if_pos h2
      split at e
      · next q2 =>
        subst q2
        split at e
        · next q3 =>
          subst q3
          obtain ⟨p1, p2, p3⟩ := zcin_ok (xs := xs) (nc := nc) (ns := ns) e hI hS
          exact ⟨_, _, hst rfl p1 p2, p3⟩
        · cases e
      · obtain ⟨p1, p2, p3⟩ := zcg_ok (nc := nc) (ns := ns) hcs e hI hS
        exact ⟨_, _, hst rfl p1 p2, p3⟩
  · split at e
    · cases e
    · next q =>
      split at e
      · next q2 =>
        obtain ⟨p1, p2, p3⟩ := zcg_ok (nc := nc) (ns := ns) hcs e hI hS
        obtain ⟨a, as', ws, w1, w2⟩ := zcv_ok q2 hI (zgs_rev (zgs_take (n := n + 1) hS))
        refine ⟨_, _, (if_neg q).trans ?_, p3⟩
        rw [w1]
        exact zcallV_eq (by rw [ztk_eq p1, List.append_nil, w1]) w2 p2
      · cases e
  · split at e
    · next q2 =>
      obtain ⟨p1, p2, p3⟩ := zcg_ok (nc := nc) (ns := ns) hcs e hI hS
      obtain ⟨a, as', ws, w1, w2⟩ := zcv_ok q2 hI (zgs_rev (zgs_take (n := n + 1) hS))
      refine ⟨_, _, ?_, p3⟩
      rw [w1]
      exact zcallV_eq (by rw [ztk_eq p1, List.append_nil, w1]) w2 p2
    · cases e
  · cases e
theorem zmmA_ok {l : List (Nat × List zTy × List zTy)} (e : zmmA i k nx A S = some l) (hI : zHI g lg h) (hA : zgl g lg h A L) (hS : zgs g lg h L S st) : zOk g lg h i L l (zstep zcf xs pc i nx k y n c L st h) := by
  unfold zmmA at e
  split at e
  · next j u t r =>
    split at e
    · next q =>
      cases e
      match st, hS with
      | z :: x :: s, hS =>
        obtain ⟨⟨a, b, c9⟩, e1⟩ := Option.isSome_iff_exists.mp q.2.1
        obtain ⟨⟨a2, b2, c2⟩, e2⟩ := Option.isSome_iff_exists.mp q.2.2.1
        obtain ⟨x, rfl, -⟩ := zlo_ok e1 hS.2.1
        obtain ⟨z, rfl, -⟩ := zlo_ok e2 hS.1
        have hz : zcs s ≤ 8 := Nat.le_trans (zcsA_ok hS.2.2) q.2.2.2
        rcases q.1 with rfl | rfl
        · exact zOk_s hI hA (by intro _ _ e; cases e) (st' := .int (if x < z then z else x) :: s) (show (if zcs s ≤ 8 then zgo nx L (.int (if x < z then z else x) :: s) h else none) = _ from if_pos hz) ⟨zIA_ok _, hS.2.2⟩
        · exact zOk_s hI hA (by intro _ _ e; cases e) (st' := .int (if z < x then z else x) :: s) (show (if zcs s ≤ 8 then zgo nx L (.int (if z < x then z else x) :: s) h else none) = _ from if_pos hz) ⟨zIA_ok _, hS.2.2⟩
      | [], hS => exact hS.elim
      | [_], hS => exact hS.2.elim
    · cases e
  · cases e
theorem zlk_mem {pc : Nat} {x : List zRk × (Nat × Nat) × List zTy × List zTy} : ∀ {l : List zCe}, zlkc l pc = some x → (pc, x) ∈ l
  | [], e => by cases e
  | (q, x') :: r, e => by
    unfold zlkc at e
    split at e
    · next q =>
      subst q
      cases e
      exact List.mem_cons_self
    · exact List.mem_cons_of_mem _ (zlk_mem e)
theorem zck_g {cert : List zCe} {rt : Option zTy} {ex : List Nat} (P : zO → Prop) (lg0 nc0 ns0 dc0 ds0 : Nat) (h0 : zH) (hcs : ∀ ct ∈ cs, zGd xs ct) (hck : cert.all (fun e => ex.contains e.1 || zce y cs cert (D + 1) rt e) = true) (hret : ∀ v h' lg' nc' ns', zgo2 g lg' h' [] rt v → zHI g lg' h' → zLE h0 h' → lg0 ≤ lg' → nc' + 2 * lg0 ≤ nc0 + 2 * lg' + dc0 → ns' + 100 * lg0 ≤ ns0 + 100 * lg' + ds0 → P (.inl v, h', nc', ns')) (hex : ∀ pc rk (bu : Nat × Nat) A S, ex.contains pc = true → zlkc cert pc = some (rk, bu, A, S) → ∀ L st lg h nc ns, zHI g lg h → zgl g lg h A L → zgs g lg h L S st → zLE h0 h → lg0 ≤ lg → nc + 2 * lg0 + bu.1 ≤ nc0 + 2 * lg + dc0 → ns + 100 * lg0 + bu.2 ≤ ns0 + 100 * lg + ds0 → zEs xs (D + 1) y pc L st h nc ns P) (m : Nat) : ∀ l : List Nat, l.length = m → ∀ pc rk (bu : Nat × Nat) A S, zlkc cert pc = some (rk, bu, A, S) → ∀ L st lg h nc ns, rk.map (zrv L) = l → zHI g lg h → zgl g lg h A L → zgs g lg h L S st → zLE h0 h → lg0 ≤ lg → nc + 2 * lg0 + bu.1 ≤ nc0 + 2 * lg + dc0 → ns + 100 * lg0 + bu.2 ≤ ns0 + 100 * lg + ds0 → zEs xs (D + 1) y pc L st h nc ns P := by
  refine zlx_ind m _ (fun l hl ih pc rk bu A S hlk L st lg h nc ns hrk hI hA hS hLE hlg hnc hns => ?_)
  subst hrk
  have hent := List.all_eq_true.mp hck _ (zlk_mem hlk)
  dsimp only at hent
  rw [Bool.or_eq_true] at hent
  rcases hent with hent | hent
  · exact hex pc rk bu A S hent hlk L st lg h nc ns hI hA hS hLE hlg hnc hns
  unfold zce at hent
  dsimp only at hent
  split at hent
  · cases hent
  · next i nx k yy n c hrow =>
    have go : ∀ {lg' : Nat} {L' : zL} {st' : List Value} {h' : zH} {A' S' : List zTy} {pc' nc' ns' : Nat} {bu2 : Nat × Nat}, zed cert i A rk bu2 (pc', A', S') = true → zHI g lg' h' → zLE h h' → lg ≤ lg' → zgl g lg' h' A' L' → zgs g lg' h' L' S' st' → zLf i L L' → nc' + 2 * lg0 + bu2.1 ≤ nc0 + 2 * lg' + dc0 → ns' + 100 * lg0 + bu2.2 ≤ ns0 + 100 * lg' + ds0 → zEs xs (D + 1) y pc' L' st' h' nc' ns' P := by
      intro lg' L' st' h' A' S' pc' nc' ns' bu2 e1 e2 e3 e4 e5 e6 e7 e8 e9
      unfold zed at e1
      split at e1
      · next rk' bu' A2 S2 q =>
        simp only [Bool.and_eq_true, beq_iff_eq, decide_eq_true_eq] at e1
        obtain ⟨⟨⟨⟨⟨a1, a2⟩, a3⟩, a4⟩, a5⟩, a6⟩ := e1
        have hl' : (rk'.map (zrv L')).length = m := by
          rw [List.length_map, ← a1, ← hl, List.length_map]
        exact ih _ hl' (zrd_ok hA e7 a2) pc' rk' bu' A2 S2 q L' st' lg' h' nc' ns' rfl e2 (zsbs_l a3 e5) (zsbs_s a4 e6) (zLE_tr hLE e3) (by omega) (by omega) (by omega)
      · cases e1
    have one : ∀ {l9 : List (Nat × List zTy × List zTy)}, l9.all (zed cert i A rk bu) = true → zOk g lg h i L l9 (zstep zcf xs pc i nx k yy n c L st h) → zEs xs (D + 1) y pc L st h nc ns P := by
      intro l9 h9 ho
      obtain ⟨pc', L', st', h', A', S', o1, o2, o3, o4, o5, o6, o7⟩ := ho
      exact zEs_step hrow o1 (go (List.all_eq_true.mp h9 _ o2) o3 o4 (Nat.le_refl _) o5 o6 o7 hnc hns)
    rw [Bool.or_eq_true] at hent
    rcases hent with hent | hent
    · unfold zrtc at hent
      split at hent
      · next t T =>
        split at hent
        · next a b c9 e1 =>
          match st, hS with
          | [v], hS =>
            obtain ⟨x, rfl, x1, x2, -⟩ := zlo_ok e1 hS.1
            simp only [Bool.and_eq_true, Bool.or_eq_true, beq_iff_eq, decide_eq_true_eq] at hent
            obtain ⟨⟨q1, q2⟩, q3⟩ := hent
            refine zEs_end (dc := 0) (ds := 0) hrow (if_pos ?_) (hret _ h lg nc ns ⟨_, rfl, zga_L (zsb_ok q2 (zga_fl hS.1))⟩ hI hLE hlg (by omega) (by omega))
            rcases q1 with q1 | ⟨⟨q1, q4⟩, q5⟩
            · exact Or.inl q1
            · refine Or.inr (Or.inl ⟨q1, ?_⟩)
              rcases (show x.toInt = 0 ∨ x.toInt = 1 by omega) with z | z
              · exact Or.inl (Int32.toInt_inj.mp z)
              · exact Or.inr (Int32.toInt_inj.mp z)
          | [], hS => exact hS.elim
          | _ :: _ :: _, hS => exact hS.2.elim
        · cases hent
      · match st, hS with
        | [v], hS =>
          obtain ⟨x, rfl⟩ := hS.1
          exact zEs_end (dc := 0) (ds := 0) hrow rfl (hret _ h lg nc ns ⟨_, rfl, x, rfl⟩ hI hLE hlg (by omega) (by omega))
        | [], hS => exact hS.elim
        | _ :: _ :: _, hS => exact hS.2.elim
      · match st, hS with
        | [v], hS =>
          obtain ⟨x, x1, rfl⟩ := hS.1
          exact zEs_end (dc := 0) (ds := 0) hrow rfl (hret _ h lg nc ns ⟨_, rfl, x, x1, rfl⟩ hI hLE hlg (by omega) (by omega))
        | [], hS => exact hS.elim
        | _ :: _ :: _, hS => exact hS.2.elim
      · match st, hS with
        | [v], hS =>
          obtain ⟨x, x1, rfl⟩ := hS.1
          exact zEs_end (dc := 0) (ds := 0) hrow rfl (hret _ h lg nc ns ⟨_, rfl, _, rfl⟩ hI hLE hlg (by omega) (by omega))
        | [], hS => exact hS.elim
        | _ :: _ :: _, hS => exact hS.2.elim
      · match st, hS with
        | [v], hS =>
          obtain ⟨x, rfl⟩ := hS.1
          exact zEs_end (dc := 0) (ds := 0) hrow rfl (hret _ h lg nc ns ⟨_, rfl, x, rfl⟩ hI hLE hlg (by omega) (by omega))
        | [], hS => exact hS.elim
        | _ :: _ :: _, hS => exact hS.2.elim
      · match st, hS with
        | [], hS => exact zEs_end (dc := 0) (ds := 0) hrow rfl (hret _ h lg nc ns rfl hI hLE hlg (by omega) (by omega))
        | _ :: _, hS => exact hS.elim
      · cases hent
    · split at hent
      · next l9 e1 => exact one hent (zab_ok e1 hI hA hS)
      · split at hent
        · next l9 e1 => exact one hent (zmmA_ok e1 hI hA hS)
        · split at hent
          · next e0 S' dc ds e1 =>
            simp only [Bool.and_eq_true, decide_eq_true_eq] at hent
            obtain ⟨⟨b1, b2⟩, b3⟩ := hent
            obtain ⟨as', r, c1, c2⟩ := zcl_ok (xs := xs) (pc := pc) (nx := nx) (nc := nc) (ns := ns) hcs e1 hI hS
            have hi9 : ∀ j d, i ≠ .iinc j d := by
              intro j d z
              subst z
              cases e1
            refine zEs_callG hrow c1 c2 (fun v h1 nc1 ns1 w => ?_) (fun E h1 nc1 ns1 w => ?_)
            · obtain ⟨v', h', lg', nc', ns', w0, w1, w2, w3, w4, w5, w6⟩ := w
              cases w0
              exact go b3 w2 w3 w4 (zgl_mo w4 w3 hA) w1 ⟨fun _ _ _ k => k, fun j d e => absurd e (hi9 j d)⟩ (by dsimp only; omega) (by dsimp only; omega)
            · obtain ⟨v', h', lg', nc', ns', w0, -⟩ := w
              cases w0
          · cases hent
/-- a method -/
def zokM (ct : zCt) (cs : List zCt) (cert : List zCe) : Bool := (match zlkc cert 0 with
    | some (_, bu, A, S) => decide (bu.1 ≤ ct.dc) && decide (bu.2 ≤ ct.ds) && S.isEmpty && ct.as.all zis1 && ct.as.all zfree && decide (ct.as.length ≤ zmL ct.y) && zsbs (ct.as ++ List.replicate (zmL ct.y - ct.as.length) (.inr (.inr (.inr 0)))) A
    | none => false) && decide (1 ≤ ct.dep) && cert.all (zce ct.y cs cert ct.dep ct.rt)
theorem zex_1 : ∀ {as : List zTy} {vs : List Value}, as.all zis1 = true → zgs g lg h L as vs → zex vs = vs.map some
  | [], [], _, _ => rfl
  | t :: r, v :: s, f, k => by
    rw [List.all_cons, Bool.and_eq_true] at f
    have e := zis1_ok f.1 k.1
    show (if zcat v then some v :: none :: zex s else some v :: zex s) = some v :: s.map some
    rw [e, zex_1 f.2 k.2]
    rfl
  | [], _ :: _, _, k => k.elim
  | _ :: _, [], _, k => k.elim
theorem zgl_in : ∀ {as : List zTy} {vs : List Value} {n : Nat}, zgs g lg h [] as vs → zgl g lg h (as ++ List.replicate n (.inr (.inr (.inr 0)))) (vs.map some ++ List.replicate n none)
  | [], [], 0, _ => trivial
  | [], [], n + 1, k => ⟨Or.inl rfl, zgl_in (as := []) (vs := []) (n := n) k⟩
  | _ :: _, _ :: _, _, k => ⟨Or.inr ⟨_, rfl, k.1⟩, zgl_in k.2⟩
  | [], _ :: _, _, k => k.elim
  | _ :: _, [], _, k => k.elim
theorem zmeth (ct : zCt) (cert : List zCe) (hcs : ∀ c ∈ cs, zGd xs c) (hok : zokM ct cs cert = true) : zGd xs ct := by
  intro g lg h nc ns as hI hS
  unfold zokM at hok
  rw [Bool.and_eq_true, Bool.and_eq_true] at hok
  obtain ⟨⟨h1, h2⟩, h3⟩ := hok
  split at h1
  · next rk bu A S e =>
    simp only [Bool.and_eq_true, decide_eq_true_eq] at h1 h2
    obtain ⟨⟨⟨⟨⟨⟨a1, a2⟩, a3⟩, a4⟩, a5⟩, a6⟩, a7⟩ := h1
    have hl := zgs_len hS
    have a3 : S = [] := List.isEmpty_iff.mp a3
    subst a3
    obtain ⟨D, hD⟩ : ∃ q, ct.dep = q + 1 := ⟨ct.dep - 1, by omega⟩
    refine ⟨as.map some ++ List.replicate (zmL ct.y - ct.as.length) none, ?_, ?_⟩
    · unfold zen
      rw [zex_1 a4 hS, List.length_map, ← hl]
      exact if_pos a6
    · rw [hD] at h3 ⊢
      refine zck_g (ex := []) _ lg nc ns ct.dc ct.ds h hcs (by simpa using h3) (fun v h' lg' nc' ns' b1 b2 b3 b4 b5 b6 => ⟨v, h', lg', nc', ns', rfl, ?_, b2, b3, b4, b5, b6⟩) (fun pc rk bu A S z => by cases z) _ _ rfl 0 rk bu A [] e _ [] lg h nc ns rfl hI (zsbs_l a7 (zgl_in hS)) trivial zLE_rf (Nat.le_refl _) (by omega) (by omega)
      cases hrt : ct.rt with
      | none =>
        rw [hrt] at b1
        exact b1
      | some T =>
        rw [hrt] at b1
        obtain ⟨w, w1, w2⟩ := b1
        exact ⟨w, w1, zga_L w2⟩
  · cases h1
end ZCH
/-! A stretch of a method, up to a place. -/
abbrev zNo : zTy := (.inl (1, 0, 0, 0))
theorem zno {g : zG} {lg : Nat} {h : zH} {L : zL} {v : Option Value} (k : zgo2 g lg h L (some zNo) v) : False := by
  obtain ⟨w, -, x, -, a, b, -⟩ := k
  omega
theorem zreg {xs : List Int32} {g : zG} {lg : Nat} {h : zH} {D y nc ns : Nat} {cs : List zCt} {cert : List zCe} {P : zO → Prop} {rkx rk0 : List zRk} {bux bu0 : Nat × Nat} {Ax Sx A0 S0 : List zTy} {L : zL} {st : List Value} (s x : Nat) (hcs : ∀ ct ∈ cs, zGd xs ct) (hs : zlkc cert s = some (rk0, bu0, A0, S0)) (hx : zlkc cert x = some (rkx, bux, Ax, Sx)) (hok : cert.all (fun e => [x].contains e.1 || zce y cs cert (D + 1) (some zNo) e) = true) (hI : zHI g lg h) (hA : zgl g lg h A0 L) (hS : zgs g lg h L S0 st)
    (hk : ∀ L st lg' h' nc' ns', zHI g lg' h' → zgl g lg' h' Ax L → zgs g lg' h' L Sx st → zLE h h' → lg ≤ lg' → nc' + 2 * lg + bux.1 ≤ nc + 2 * lg' + bu0.1 → ns' + 100 * lg + bux.2 ≤ ns + 100 * lg' + bu0.2 → zEs xs (D + 1) y x L st h' nc' ns' P) : zEs xs (D + 1) y s L st h nc ns P := by
  refine zck_g (ex := [x]) P lg nc ns bu0.1 bu0.2 h hcs hok (fun v h' lg' nc' ns' b => (zno b).elim) (fun pc rk bu A S z e L st lg' h' nc' ns' b1 b2 b3 b4 b5 b6 b7 => ?_) _ _ rfl s rk0 bu0 A0 S0 hs L st lg h nc ns rfl hI hA hS zLE_rf (Nat.le_refl _) (Nat.le_of_eq (by omega)) (Nat.le_of_eq (by omega))
  have z : pc = x := by simpa using z
  subst z
  rw [hx] at e
  cases e
  exact hk L st lg' h' nc' ns' b1 b2 b3 b4 b5 b6 b7
end zg38
section zg39
/-! The reference's methods, by hand: small ones, the lists. -/
def ct_114 : zCt := (114, [zIA], some zIA, 1, 0, 0)
def ct_117 : zCt := (117, [(.inr (.inr (.inl (44, 44))))], some ((.inl (8, 16, 8, 0))), 1, 0, 0)
def ct_243a : zCt := (243, [(.inr (.inr (.inr 8)))], some ((.inl (0, 24, 2, 0))), 1, 0, 0)
def ct_243b : zCt := (243, [(.inr (.inr (.inr 9)))], some ((.inl (0, 24, 4, 0))), 1, 0, 0)
def ct_243c : zCt := (243, [(.inr (.inr (.inr 10)))], some ((.inl (0, 40, 6, 0))), 1, 0, 0)
def ct_239a : zCt := (239, [(.inr (.inr (.inr 8))), (.inl (0, 2147483647, 1, 0))], some (.inr (.inr (.inr 6))), 3, 0, 0)
def ct_239b : zCt := (239, [(.inr (.inr (.inr 9))), (.inl (0, 2147483647, 3, 0))], some (.inr (.inr (.inr 6))), 3, 0, 0)
def ct_239c : zCt := (239, [(.inr (.inr (.inr 10))), (.inl (0, 2147483647, 5, 0))], some (.inr (.inr (.inr 7))), 3, 0, 0)
def ct_128 : zCt := (128, [(.inr (.inr (.inl (44, 44))))], some ((.inl (0, 250, 0, 0))), 1, 0, 0)
def ct_138 : zCt := (138, [zIA], some ((.inr (.inl (0, 0, 127, 0)))), 1, 0, 0)
def ce_draw : List zCe := [(0, [(.inl 15)], (0, 0), [(.inr (.inr (.inl (44, 44))))], []),
  (1, [(.inl 14)], (0, 0), [(.inr (.inr (.inl (44, 44))))], [(.inr (.inr (.inl (44, 44))))]),
  (2, [(.inl 13)], (0, 0), [(.inr (.inr (.inl (44, 44))))], [(.inr (.inr (.inl (44, 44)))), (.inr (.inr (.inl (44, 44))))]),
  (5, [(.inl 12)], (0, 0), [(.inr (.inr (.inl (44, 44))))], [(.inl ((-1), 250, 0, 0)), (.inr (.inr (.inl (44, 44))))]),
  (6, [(.inl 11)], (0, 0), [(.inr (.inr (.inl (44, 44))))], [(.inl ((-1), (-1), 0, 0)), (.inl ((-1), 250, 0, 0)), (.inr (.inr (.inl (44, 44))))]),
  (9, [(.inl 10)], (0, 0), [(.inr (.inr (.inl (44, 44))))], [(.inr (.inr (.inl (44, 44))))]),
  (10, [(.inl 9)], (0, 0), [(.inr (.inr (.inl (44, 44))))], [(.inl (5, 5, 0, 0)), (.inr (.inr (.inl (44, 44))))]),
  (13, [(.inl 8)], (0, 0), [(.inr (.inr (.inl (44, 44))))], [(.inr (.inr (.inl (44, 44))))]),
  (15, [(.inl 7)], (0, 0), [(.inr (.inr (.inl (44, 44))))], [(.inl (17, 17, 0, 0)), (.inr (.inr (.inl (44, 44))))]),
  (16, [(.inl 6)], (0, 0), [(.inr (.inr (.inl (44, 44))))], [(.inr (.inr (.inl (44, 44)))), (.inl (17, 17, 0, 0)), (.inr (.inr (.inl (44, 44))))]),
  (19, [(.inl 5)], (0, 0), [(.inr (.inr (.inl (44, 44))))], [(.inl ((-1), 250, 0, 0)), (.inl (17, 17, 0, 0)), (.inr (.inr (.inl (44, 44))))]),
  (20, [(.inl 4)], (0, 0), [(.inr (.inr (.inl (44, 44))))], [(.inl ((-17), 4250, 0, 0)), (.inr (.inr (.inl (44, 44))))]),
  (22, [(.inl 3)], (0, 0), [(.inr (.inr (.inl (44, 44))))], [(.inl (43, 43, 0, 0)), (.inl ((-17), 4250, 0, 0)), (.inr (.inr (.inl (44, 44))))]),
  (23, [(.inl 2)], (0, 0), [(.inr (.inr (.inl (44, 44))))], [(.inl (26, 4293, 0, 0)), (.inr (.inr (.inl (44, 44))))]),
  (26, [(.inl 1)], (0, 0), [(.inr (.inr (.inl (44, 44))))], [(.inl (251, 251, 0, 0)), (.inl (26, 4293, 0, 0)), (.inr (.inr (.inl (44, 44))))]),
  (27, [(.inl 0)], (0, 0), [(.inr (.inr (.inl (44, 44))))], [(.inl (0, 250, 0, 0)), (.inr (.inr (.inl (44, 44))))])]
def cs_draw : List zCt := []
theorem gs_draw {xs : List Int32} : ∀ ct ∈ cs_draw, zGd xs ct := fun _ h => absurd h List.not_mem_nil
section ZHA
variable {xs : List Int32} {g : zG} {lg : Nat} {h : zH} {D nc ns : Nat} {as : List Value} {y : Nat}
/-- a method that changes nothing -/
theorem zPm_pure {rt : zTy} {w : Value} (hI : zHI g lg h) (hw : zga g lg h (as.map some) rt w) : zPm g lg h nc ns (some rt) 0 0 as (.inl (some w), h, nc, ns) := ⟨_, h, lg, nc, ns, rfl, ⟨w, rfl, hw⟩, hI, zLE_rf, Nat.le_refl _, Nat.le_refl _, Nat.le_refl _⟩
theorem zin1 {t : zTy} (hS : zgs g lg h [] [t] as) : ∃ v, as = [v] ∧ zga g lg h [] t v := by
  match as, hS with
  | [v], hS => exact ⟨v, rfl, hS.1⟩
  | [], hS => exact hS.elim
  | _ :: _ :: _, hS => exact hS.2.elim
theorem zin2 {t u : zTy} (hS : zgs g lg h [] [t, u] as) : ∃ v w, as = [v, w] ∧ zga g lg h [] t v ∧ zga g lg h [] u w := by
  match as, hS with
  | [v, w], hS => exact ⟨v, w, rfl, hS.1, hS.2.1⟩
  | [], hS => exact hS.elim
  | [_], hS => exact hS.2.elim
  | _ :: _ :: _ :: _, hS => exact hS.2.2.elim
theorem zin3 {t u r : zTy} (hS : zgs g lg h [] [t, u, r] as) : ∃ v w x, as = [v, w, x] ∧ zga g lg h [] t v ∧ zga g lg h [] u w ∧ zga g lg h [] r x := by
  match as, hS with
  | [v, w, x], hS => exact ⟨v, w, x, rfl, hS.1, hS.2.1, hS.2.2.1⟩
  | [], hS => exact hS.elim
  | [_], hS => exact hS.2.elim
  | [_, _], hS => exact hS.2.2.elim
  | _ :: _ :: _ :: _ :: _, hS => exact hS.2.2.2.elim
theorem zin4 {t u r q : zTy} (hS : zgs g lg h [] [t, u, r, q] as) : ∃ v w x z, as = [v, w, x, z] ∧ zga g lg h [] t v ∧ zga g lg h [] u w ∧ zga g lg h [] r x ∧ zga g lg h [] q z := by
  match as, hS with
  | [v, w, x, z], hS => exact ⟨v, w, x, z, rfl, hS.1, hS.2.1, hS.2.2.1, hS.2.2.2.1⟩
  | [], hS => exact hS.elim
  | [_], hS => exact hS.2.elim
  | [_, _], hS => exact hS.2.2.elim
  | [_, _, _], hS => exact hS.2.2.2.elim
  | _ :: _ :: _ :: _ :: _ :: _, hS => exact hS.2.2.2.2.elim
theorem zP_eq {L : zL} {v : Value} {q : Nat} (k : zga g lg h L ((.inr (.inr (.inl (q, q))))) v) : v = .ref q := by
  obtain ⟨a, rfl, k1, k2⟩ := k
  rw [Nat.le_antisymm k2 k1]
theorem zI_eq {L : zL} {v : Value} {a b : Int} {t s : Nat} (k : zga g lg h L ((.inl (a, b, t, s))) v) : ∃ x : Int32, v = .int x ∧ a ≤ x.toInt ∧ x.toInt ≤ b ∧ zta g lg t x.toInt := by
  obtain ⟨x, k1, k2, k3, k4, -⟩ := k
  exact ⟨x, k1, k2, k3, k4⟩
theorem zf_int {vs : List Value} {k : Nat} {a b : Int} (m3 : ∀ k, k < 26 → ∃ v, vs[k]? = some v ∧ zga g lg h [] (zfs k) v) (hk : k < 26) (e : zfs k = (.inl (a, b, 0, 0))) : ∃ x : Int32, vs[k]? = some (.int x) ∧ a ≤ x.toInt ∧ x.toInt ≤ b := by
  obtain ⟨v, k1, k2⟩ := m3 k hk
  rw [e] at k2
  obtain ⟨x, rfl, k3, k4, -⟩ := k2
  exact ⟨x, k1, k3, k4⟩
theorem l_114 : ∀ (n : Nat) (w m x : Int32), x.toInt.toNat < n → zEs xs D 114 4 [some (.int w), some (.int m), some (.int x)] [] h nc ns (fun o => ∃ v : Int32, o = (.inl (some (.int v)), h, nc, ns))
  | 0, _, _, _, hn => absurd hn (Nat.not_lt_zero _)
  | n + 1, w, m, x, hn => by
    refine zEs_run 1 rfl ?_
    refine zEs_if rfl (fun _ => ?_) (fun g => ?_)
    · refine zEs_run 1 rfl ?_
      exact zEs_end rfl rfl ⟨_, rfl⟩
    · have z := zF_le_f g
      rw [zero_z] at z
      refine zEs_run 3 rfl ?_
      refine zEs_irem rfl (by decide) ?_
      refine zEs_run 7 rfl ?_
      refine l_114 n _ _ _ ?_
      have e2 := Int32.toInt_div_of_ne_right x (Int32.ofInt 2) (by decide)
      rw [show (Int32.ofInt 2).toInt = 2 from by decide, Int.tdiv_eq_ediv_of_nonneg (by omega)] at e2
      show (x / Int32.ofInt 2).toInt.toNat < n
      omega
theorem g_114 : zGd xs ct_114 := by
  intro g lg h nc ns as hI hS
  obtain ⟨v, rfl, k⟩ := zin1 hS
  obtain ⟨x, rfl, -⟩ := zI_eq k
  refine ⟨_, rfl, zEs_run 4 rfl ?_⟩
  refine zEs_post (l_114 _ _ _ _ (Nat.lt_succ_self _)) (fun o ho => ?_)
  obtain ⟨v, rfl⟩ := ho
  exact zPm_pure hI (zIA_ok v)
theorem g_117 : zGd xs ct_117 := by
  intro g lg h nc ns as hI hS
  obtain ⟨v, rfl, k⟩ := zin1 hS
  obtain rfl := zP_eq k
  obtain ⟨vs, m1, m2, m3, m4⟩ := hI.obj
  obtain ⟨x, y, b1, b2, b3⟩ := hI.bits
  have v1 := m4 1 (by decide)
  have v2 := m4 2 (by decide)
  rw [b1] at v1
  rw [b2] at v2
  have hz := hI.sizes
  refine ⟨_, rfl, zEs_run 1 rfl ?_⟩
  refine zEs_get rfl m1 rfl v1 ?_
  refine zEs_run 1 rfl ?_
  refine zEs_get rfl m1 rfl v2 ?_
  refine zEs_run 1 rfl ?_
  have e := Int32.toInt_add x y
  rw [zbm (by omega) (by omega)] at e
  exact zEs_end rfl rfl (zPm_pure hI ⟨x + y, rfl, by omega, by omega, show _ ≤ (g.zn : Int) by omega, Or.inl rfl⟩)
theorem zls_of {j : Nat} (hI : zHI g lg h) (hj : j < g.nl) : ∃ dq, zLi h (g.p j) (zsz g lg j) (zQj j) dq := by
  obtain ⟨E, k⟩ := hI.lists
  exact ⟨_, (k j hj).2.1⟩
theorem zsize {j : Nat} (hI : zHI g lg h) (hj : j < g.nl) (hn : zsz g lg j ≤ 1000) : zMs xs (D + 0) 243 [.ref (g.p j)] h nc ns (fun o => ∃ x : Int32, x.toInt = (zsz g lg j : Nat) ∧ o = (.inl (some (.int x)), h, nc, ns)) := by
  obtain ⟨dq, es, k1, k2, -⟩ := zls_of hI hj
  refine zMs_post (fun o ho => ?_) (m_243 k1)
  rw [k2] at ho
  exact ⟨_, zof_z (by omega), ho⟩
theorem zgetl {j : Nat} {x : Int32} (hI : zHI g lg h) (hj : j < g.nl) (h0 : 0 ≤ x.toInt) (h1 : x.toInt < (zsz g lg j : Nat)) : zMs xs (D + 2) 239 [.ref (g.p j), .int x] h nc ns (fun o => ∃ e l, 73 ≤ e ∧ h[e]? = some (zar l) ∧ zQj j l ∧ o = (.inl (some (.ref e)), h, nc, ns)) := by
  obtain ⟨dq, es, k1, k2, k3⟩ := zls_of hI hj
  refine zMs_post (fun o ho => ?_) (m_239 k1 h0 (by rw [k2]; exact h1))
  obtain ⟨e, he, ho⟩ := ho
  obtain ⟨p1, l, p2, p3⟩ := k3 e he
  exact ⟨e, l, p1, p2, p3, ho⟩
theorem g_243a : zGd xs ct_243a := by
  intro g lg h nc ns as hI hS
  obtain ⟨v, rfl, k⟩ := zin1 hS
  obtain rfl := (show v = _ from k)
  have hz := hI.sizes
  refine zMs_mono (Nat.zero_le _) (zMs_post (fun o ho => ?_) (zsize (D := 0) (j := 0) hI (by omega) (show g.zs ≤ 1000 by omega)))
  obtain ⟨x, hx, rfl⟩ := ho
  have hx : x.toInt = (g.zs : Nat) := hx
  exact zPm_pure hI ⟨x, rfl, by omega, by omega, show _ ≤ (g.zs : Int) by omega, Or.inl rfl⟩
theorem g_243b : zGd xs ct_243b := by
  intro g lg h nc ns as hI hS
  obtain ⟨v, rfl, k⟩ := zin1 hS
  obtain rfl := (show v = _ from k)
  have hz := hI.sizes
  refine zMs_mono (Nat.zero_le _) (zMs_post (fun o ho => ?_) (zsize (D := 0) (j := 1) hI (by omega) (show g.zw ≤ 1000 by omega)))
  obtain ⟨x, hx, rfl⟩ := ho
  have hx : x.toInt = (g.zw : Nat) := hx
  exact zPm_pure hI ⟨x, rfl, by omega, by omega, show _ ≤ (g.zw : Int) by omega, Or.inl rfl⟩
theorem g_243c : zGd xs ct_243c := by
  intro g lg h nc ns as hI hS
  obtain ⟨v, rfl, k⟩ := zin1 hS
  obtain rfl := (show v = _ from k)
  have hz := hI.sizes
  refine zMs_mono (Nat.zero_le _) (zMs_post (fun o ho => ?_) (zsize (D := 0) (j := 2) hI (by omega) (show lg ≤ 1000 by omega)))
  obtain ⟨x, hx, rfl⟩ := ho
  have hx : x.toInt = (lg : Nat) := hx
  exact zPm_pure hI ⟨x, rfl, by omega, by omega, show _ ≤ (lg : Int) by omega, Or.inl rfl⟩
theorem g_239a : zGd xs ct_239a := by
  intro g lg h nc ns as hI hS
  obtain ⟨v, w, rfl, k, k2⟩ := zin2 hS
  obtain rfl := (show v = _ from k)
  obtain ⟨x, rfl, x1, x2, x3⟩ := zI_eq k2
  refine zMs_mono (Nat.le_succ _) (zMs_post (fun o ho => ?_) (zgetl (D := 0) (j := 0) hI (by have := hI.sizes; omega) x1 x3))
  obtain ⟨e, l, p1, p2, p3, rfl⟩ := ho
  exact zPm_pure hI ⟨e, l, rfl, p1, p2, p3⟩
theorem g_239b : zGd xs ct_239b := by
  intro g lg h nc ns as hI hS
  obtain ⟨v, w, rfl, k, k2⟩ := zin2 hS
  obtain rfl := (show v = _ from k)
  obtain ⟨x, rfl, x1, x2, x3⟩ := zI_eq k2
  refine zMs_mono (Nat.le_succ _) (zMs_post (fun o ho => ?_) (zgetl (D := 0) (j := 1) hI (by have := hI.sizes; omega) x1 x3))
  obtain ⟨e, l, p1, p2, p3, rfl⟩ := ho
  exact zPm_pure hI ⟨e, l, rfl, p1, p2, p3⟩
theorem g_239c : zGd xs ct_239c := by
  intro g lg h nc ns as hI hS
  obtain ⟨v, w, rfl, k, k2⟩ := zin2 hS
  obtain rfl := (show v = _ from k)
  obtain ⟨x, rfl, x1, x2, x3⟩ := zI_eq k2
  refine zMs_mono (Nat.le_succ _) (zMs_post (fun o ho => ?_) (zgetl (D := 0) (j := 2) hI (by have := hI.sizes; omega) x1 x3))
  obtain ⟨e, l, p1, p2, p3, rfl⟩ := ho
  exact zPm_pure hI ⟨e, l, rfl, p1, p2, p3⟩
theorem g_138 : zGd xs ct_138 := by
  intro g lg h nc ns as hI hS
  obtain ⟨v, rfl, k⟩ := zin1 hS
  obtain ⟨x, rfl, -⟩ := zI_eq k
  refine ⟨_, rfl, zEs_run 3 rfl ?_⟩
  refine zEs_callG rfl rfl (m_112 (D := 0)) (fun v h9 nc1 ns1 q => ?_) (fun E h9 nc1 ns1 q => by obtain ⟨_, _, _, _, q⟩ := q; cases q)
  obtain ⟨w, w1, w2, -, q⟩ := q
  cases q
  refine zEs_bret rfl w1 (zPm_pure hI ⟨w, rfl, w1, fun z => ⟨x, rfl, ?_, ?_, trivial⟩⟩)
  · exact (w2 z).1
  · exact (w2 z).2
theorem g_128 : zGd xs ct_128 := by
  intro g lg h nc ns as hI hS
  obtain ⟨v, rfl, k⟩ := zin1 hS
  obtain rfl := zP_eq k
  have J : ∀ {lg' : Nat} {h' : zH} {nc' ns' : Nat} (z : Int32), 0 ≤ z.toInt → z.toInt ≤ 250 → zHI g lg' h' → zLE h h' → lg ≤ lg' → nc' + 2 * lg + 0 ≤ nc + 2 * lg' + 0 → ns' + 100 * lg + 0 ≤ ns + 100 * lg' + 0 → zEs xs 1 128 27 [some (.ref 44)] [.int z, .ref 44] h' nc' ns' (zPm g lg h nc ns (some ((.inl (0, 250, 0, 0)))) 0 0 [.ref 44]) := by
    intro lg' h' nc' ns' z z1 z2 hI' b4 b5 b6 b7
    obtain ⟨vs, m1, m2, m3, m4⟩ := hI'.obj
    refine zEs_put rfl m1 rfl rfl (by omega) ?_
    obtain ⟨n1, n2⟩ := zHI_fld (k := 11) (v := .int z) hI' m1 (by decide) ⟨z, rfl, by omega, by omega, trivial, Or.inl rfl⟩ (by decide)
    have hl := (List.getElem?_eq_some_iff.mp m1).1
    have c1 : (h'.set 44 (7, vs.set 11 (.int z)))[44]? = some (7, vs.set 11 (.int z)) := List.getElem?_set_self hl
    obtain ⟨vs1, m1', m2', m3', -⟩ := n1.obj
    rw [c1] at m1'
    cases m1'
    obtain ⟨u, u1, -⟩ := zf_int m3' (k := 12) (by decide) rfl
    refine zEs_run 2 rfl ?_
    refine zEs_get rfl c1 rfl u1 ?_
    refine zEs_run 2 rfl ?_
    refine zEs_put rfl c1 rfl rfl (by omega) ?_
    obtain ⟨n3, n4⟩ := zHI_fld (k := 12) (v := .int (u + Int32.ofInt 1)) n1 c1 (by decide) (zIA_ok _) (by decide)
    have c2 : ((h'.set 44 (7, vs.set 11 (.int z))).set 44 (7, (vs.set 11 (.int z)).set 12 (.int (u + Int32.ofInt 1))))[44]? = some (7, (vs.set 11 (.int z)).set 12 (.int (u + Int32.ofInt 1))) := List.getElem?_set_self (by simpa using hl)
    refine zEs_run 1 rfl ?_
    refine zEs_get rfl c2 rfl (show ((vs.set 11 (.int z)).set 12 (.int (u + Int32.ofInt 1)))[11]? = some (.int z) from by rw [List.getElem?_set_ne (by decide), List.getElem?_set_self (by omega)]) ?_
    exact zEs_end rfl rfl ⟨_, _, lg', nc', ns', rfl, ⟨_, rfl, z, rfl, z1, z2, trivial, Or.inl rfl⟩, n3, zLE_tr b4 (zLE_tr n2 n4), b5, b6, b7⟩
  refine ⟨_, rfl, zreg (cert := ce_draw) (cs := cs_draw) 0 27 gs_draw rfl rfl (by decide +kernel) hI (⟨Or.inr ⟨_, rfl, k⟩, trivial⟩) trivial (fun L st lg' h' nc' ns' b1 b2 b3 b4 b5 b6 b7 => ?_)⟩
  match L, st, b2, b3 with
  | [o], [v1, v2], b2, b3 =>
    obtain ⟨z, rfl, z1, z2, -⟩ := b3.1
    obtain rfl := zP_eq b3.2.1
    rcases b2.1 with c2 | ⟨w, rfl, c2⟩
    · cases c2
    · obtain rfl := zP_eq c2
      exact J z z1 z2 b1 b4 b5 b6 b7
  | [], _, b2, _ => exact b2.elim
  | _ :: _ :: _, _, b2, _ => exact b2.2.elim
  | [_], [], _, b3 => exact b3.elim
  | [_], [_], _, b3 => exact b3.2.elim
  | [_], _ :: _ :: _ :: _, _, b3 => exact b3.2.2.elim
end ZHA
end zg39
section zg40
/-! The reference: methods by their tables. Written by wip/gen/mod.py. -/
def ct_111 : zCt := (111, [(.inr (.inr (.inl (44, 44)))), zIA], some ((.inl (0, 0, 0, 0))), 2, 0, 0)
def ce_111 : List zCe := [(0, [(.inl 4)], (0, 0), [(.inr (.inr (.inl (44, 44)))), zIA], []),
  (1, [(.inl 3)], (0, 0), [(.inr (.inr (.inl (44, 44)))), zIA], [(.inr (.inr (.inl (44, 44))))]),
  (2, [(.inl 2)], (0, 0), [(.inr (.inr (.inl (44, 44)))), zIA], [(.inl ((-2147483648), 2147483647, 0, 2)), (.inr (.inr (.inl (44, 44))))]),
  (5, [(.inl 1)], (0, 0), [(.inr (.inr (.inl (44, 44)))), zIA], []),
  (6, [(.inl 0)], (0, 0), [(.inr (.inr (.inl (44, 44)))), zIA], [(.inl (0, 0, 0, 0))])]
theorem g_111 {xs : List Int32} : zGd xs ct_111 := zmeth (cs := []) ct_111 ce_111 (fun _ h => absurd h List.not_mem_nil) (by decide +kernel)
def ct_113 : zCt := (113, [zIA, zIA], some ((.inl (0, 1, 0, 0))), 2, 0, 0)
def ce_113 : List zCe := [(0, [(.inl 10)], (0, 0), [zIA, zIA], []),
  (1, [(.inl 9)], (0, 0), [zIA, zIA], [(.inl ((-2147483648), 2147483647, 0, 1))]),
  (2, [(.inl 8)], (0, 0), [zIA, zIA], [(.inl ((-2147483648), 2147483647, 0, 2)), (.inl ((-2147483648), 2147483647, 0, 1))]),
  (3, [(.inl 7)], (0, 0), [zIA, zIA], [zIA]),
  (4, [(.inl 6)], (0, 0), [zIA, zIA], [(.inl (1, 1, 0, 0)), zIA]),
  (5, [(.inl 5)], (0, 0), [zIA, zIA], [zIA]),
  (6, [(.inl 4)], (0, 0), [zIA, zIA], [(.inl (1, 1, 0, 0)), zIA]),
  (9, [(.inl 3)], (0, 0), [zIA, zIA], []),
  (10, [(.inl 2)], (0, 0), [zIA, zIA], [(.inl (1, 1, 0, 0))]),
  (13, [(.inl 1)], (0, 0), [zIA, zIA], []),
  (14, [(.inl 0)], (0, 0), [zIA, zIA], [(.inl (0, 1, 0, 0))])]
theorem g_113 {xs : List Int32} : zGd xs ct_113 := zmeth (cs := []) ct_113 ce_113 (fun _ h => absurd h List.not_mem_nil) (by decide +kernel)
def ct_115 : zCt := (115, [zIA], some zIA, 2, 0, 0)
def ce_115 : List zCe := [(0, [(.inl 6), (.inl 0), (.inl 0)], (0, 0), [zIA, (.inr (.inr (.inr 0))), (.inr (.inr (.inr 0)))], []),
  (1, [(.inl 5), (.inl 0), (.inl 0)], (0, 0), [zIA, (.inr (.inr (.inr 0))), (.inr (.inr (.inr 0)))], [(.inl (0, 0, 0, 0))]),
  (2, [(.inl 4), (.inl 0), (.inl 0)], (0, 0), [zIA, (.inl (0, 0, 0, 0)), (.inr (.inr (.inr 0)))], []),
  (3, [(.inl 3), (.inl 0), (.inl 0)], (0, 0), [zIA, (.inl (0, 0, 0, 0)), (.inr (.inr (.inr 0)))], [(.inl (1, 1, 0, 0))]),
  (4, [(.inl 2), (.inr (2147483647, 2)), (.inl 21)], (0, 0), [zIA, zIA, (.inl (1, 2147483647, 0, 0))], []),
  (5, [(.inl 2), (.inr (2147483647, 2)), (.inl 20)], (0, 0), [zIA, zIA, (.inl (1, 2147483647, 0, 0))], [(.inl (1, 2147483647, 0, 3))]),
  (6, [(.inl 2), (.inr (2147483647, 2)), (.inl 19)], (0, 0), [zIA, zIA, (.inl (1, 2147483647, 0, 0))], [(.inl (1, 1, 0, 0)), (.inl (1, 2147483647, 0, 3))]),
  (7, [(.inl 2), (.inr (2147483647, 2)), (.inl 18)], (0, 0), [zIA, zIA, (.inl (1, 2147483647, 0, 0))], [(.inl ((-2147483648), 2147483647, 0, 1)), (.inl (1, 1, 0, 0)), (.inl (1, 2147483647, 0, 3))]),
  (8, [(.inl 2), (.inr (2147483647, 2)), (.inl 17)], (0, 0), [zIA, zIA, (.inl (1, 2147483647, 0, 0))], [zIA, (.inl (1, 2147483647, 0, 3))]),
  (11, [(.inl 2), (.inr (2147483647, 2)), (.inl 16)], (0, 0), [zIA, zIA, (.inl (1, 2147483646, 0, 0))], []),
  (12, [(.inl 2), (.inr (2147483647, 2)), (.inl 15)], (0, 0), [zIA, zIA, (.inl (1, 2147483646, 0, 0))], [(.inl ((-2147483648), 2147483647, 0, 2))]),
  (13, [(.inl 2), (.inr (2147483647, 2)), (.inl 14)], (0, 0), [zIA, zIA, (.inl (1, 2147483646, 0, 0))], [(.inl (1, 2147483646, 0, 3)), (.inl ((-2147483648), 2147483647, 0, 2))]),
  (16, [(.inl 2), (.inr (2147483647, 2)), (.inl 13)], (0, 0), [zIA, zIA, (.inl (1, 2147483646, 0, 0))], [zIA, (.inl ((-2147483648), 2147483647, 0, 2))]),
  (17, [(.inl 2), (.inr (2147483647, 2)), (.inl 12)], (0, 0), [zIA, zIA, (.inl (1, 2147483646, 0, 0))], [(.inl (2, 2, 0, 0)), zIA, (.inl ((-2147483648), 2147483647, 0, 2))]),
  (18, [(.inl 2), (.inr (2147483647, 2)), (.inl 11)], (0, 0), [zIA, zIA, (.inl (1, 2147483646, 0, 0))], [zIA, (.inl ((-2147483648), 2147483647, 0, 2))]),
  (19, [(.inl 2), (.inr (2147483647, 2)), (.inl 10)], (0, 0), [zIA, zIA, (.inl (1, 2147483646, 0, 0))], [(.inl (1, 1, 0, 0)), zIA, (.inl ((-2147483648), 2147483647, 0, 2))]),
  (22, [(.inl 2), (.inr (2147483647, 2)), (.inl 9)], (0, 0), [zIA, zIA, (.inl (1, 2147483646, 0, 0))], [(.inl ((-2147483648), 2147483647, 0, 2))]),
  (23, [(.inl 2), (.inr (2147483647, 2)), (.inl 8)], (0, 0), [zIA, zIA, (.inl (1, 2147483646, 0, 0))], [(.inl (1, 2147483646, 0, 3)), (.inl ((-2147483648), 2147483647, 0, 2))]),
  (26, [(.inl 2), (.inr (2147483647, 2)), (.inl 7)], (0, 0), [zIA, zIA, (.inl (1, 2147483646, 0, 0))], [zIA, (.inl ((-2147483648), 2147483647, 0, 2))]),
  (27, [(.inl 2), (.inr (2147483647, 2)), (.inl 6)], (0, 0), [zIA, zIA, (.inl (1, 2147483646, 0, 0))], [(.inl (3, 3, 0, 0)), zIA, (.inl ((-2147483648), 2147483647, 0, 2))]),
  (30, [(.inl 2), (.inr (2147483647, 2)), (.inl 5)], (0, 0), [zIA, zIA, (.inl (1, 2147483646, 0, 0))], [(.inl ((-2147483648), 2147483647, 0, 2))]),
  (31, [(.inl 2), (.inr (2147483647, 2)), (.inl 4)], (0, 0), [zIA, zIA, (.inl (1, 2147483646, 0, 0))], [(.inl (1, 1, 0, 0)), (.inl ((-2147483648), 2147483647, 0, 2))]),
  (34, [(.inl 2), (.inr (2147483647, 2)), (.inl 3)], (0, 0), [zIA, zIA, (.inl (1, 2147483646, 0, 0))], [(.inl ((-2147483648), 2147483647, 0, 2))]),
  (35, [(.inl 2), (.inr (2147483647, 2)), (.inl 2)], (0, 0), [zIA, zIA, (.inl (1, 2147483646, 0, 0))], [(.inl (0, 1, 0, 0)), (.inl ((-2147483648), 2147483647, 0, 2))]),
  (36, [(.inl 2), (.inr (2147483647, 2)), (.inl 1)], (0, 0), [zIA, zIA, (.inl (1, 2147483646, 0, 0))], [zIA]),
  (37, [(.inl 2), (.inr (2147483647, 2)), (.inl 0)], (0, 0), [zIA, zIA, (.inl (1, 2147483646, 0, 0))], []),
  (40, [(.inl 2), (.inr (2147483647, 2)), (.inl 22)], (0, 0), [zIA, zIA, (.inl (2, 2147483647, 0, 0))], []),
  (43, [(.inl 1), (.inl 0), (.inl 0)], (0, 0), [zIA, zIA, (.inl (1, 2147483647, 0, 0))], []),
  (44, [(.inl 0), (.inl 0), (.inl 0)], (0, 0), [zIA, zIA, (.inl (1, 2147483647, 0, 0))], [(.inl ((-2147483648), 2147483647, 0, 2))])]
theorem g_115 {xs : List Int32} : zGd xs ct_115 := zmeth (cs := [ct_114]) ct_115 ce_115 (List.forall_mem_cons.mpr ⟨g_114, fun _ h => absurd h List.not_mem_nil⟩) (by decide +kernel)
def ct_118 : zCt := (118, [(.inr (.inr (.inl (44, 44)))), zIA], some zIA, 3, 0, 0)
def ce_118 : List zCe := [(0, [(.inl 6), (.inl 0), (.inl 0)], (0, 0), [(.inr (.inr (.inl (44, 44)))), zIA, (.inr (.inr (.inr 0))), (.inr (.inr (.inr 0)))], []),
  (1, [(.inl 5), (.inl 0), (.inl 0)], (0, 0), [(.inr (.inr (.inl (44, 44)))), zIA, (.inr (.inr (.inr 0))), (.inr (.inr (.inr 0)))], [(.inl (0, 0, 0, 0))]),
  (2, [(.inl 4), (.inl 0), (.inl 0)], (0, 0), [(.inr (.inr (.inl (44, 44)))), zIA, (.inl (0, 0, 0, 0)), (.inr (.inr (.inr 0)))], []),
  (3, [(.inl 3), (.inl 0), (.inl 0)], (0, 0), [(.inr (.inr (.inl (44, 44)))), zIA, (.inl (0, 0, 0, 0)), (.inr (.inr (.inr 0)))], [(.inl (0, 0, 0, 0))]),
  (4, [(.inl 2), (.inr (16, 3)), (.inl 18)], (0, 0), [(.inr (.inr (.inl (44, 44)))), zIA, zIA, (.inl (0, 16, 0, 0))], []),
  (5, [(.inl 2), (.inr (16, 3)), (.inl 17)], (0, 0), [(.inr (.inr (.inl (44, 44)))), zIA, zIA, (.inl (0, 16, 0, 0))], [(.inl (0, 16, 0, 4))]),
  (6, [(.inl 2), (.inr (16, 3)), (.inl 16)], (0, 0), [(.inr (.inr (.inl (44, 44)))), zIA, zIA, (.inl (0, 16, 0, 0))], [(.inr (.inr (.inl (44, 44)))), (.inl (0, 16, 0, 4))]),
  (9, [(.inl 2), (.inr (16, 3)), (.inl 15)], (0, 0), [(.inr (.inr (.inl (44, 44)))), zIA, zIA, (.inl (0, 16, 0, 0))], [(.inr (.inr (.inr 5))), (.inl (0, 16, 0, 4))]),
  (10, [(.inl 2), (.inr (16, 3)), (.inl 14)], (0, 0), [(.inr (.inr (.inl (44, 44)))), zIA, zIA, (.inl (0, 16, 0, 0))], [(.inl (8, 16, 8, 0)), (.inl (0, 16, 0, 4))]),
  (13, [(.inl 2), (.inr (16, 3)), (.inl 13)], (0, 0), [(.inr (.inr (.inl (44, 44)))), zIA, zIA, (.inl (0, 15, 7, 0))], []),
  (14, [(.inl 2), (.inr (16, 3)), (.inl 12)], (0, 0), [(.inr (.inr (.inl (44, 44)))), zIA, zIA, (.inl (0, 15, 7, 0))], [(.inl ((-2147483648), 2147483647, 0, 3))]),
  (15, [(.inl 2), (.inr (16, 3)), (.inl 11)], (0, 0), [(.inr (.inr (.inl (44, 44)))), zIA, zIA, (.inl (0, 15, 7, 0))], [(.inl ((-2147483648), 2147483647, 0, 2)), (.inl ((-2147483648), 2147483647, 0, 3))]),
  (16, [(.inl 2), (.inr (16, 3)), (.inl 10)], (0, 0), [(.inr (.inr (.inl (44, 44)))), zIA, zIA, (.inl (0, 15, 7, 0))], [(.inl (0, 15, 7, 4)), (.inl ((-2147483648), 2147483647, 0, 2)), (.inl ((-2147483648), 2147483647, 0, 3))]),
  (19, [(.inl 2), (.inr (16, 3)), (.inl 9)], (0, 0), [(.inr (.inr (.inl (44, 44)))), zIA, zIA, (.inl (0, 15, 7, 0))], [(.inl (0, 1, 0, 0)), (.inl ((-2147483648), 2147483647, 0, 3))]),
  (22, [(.inl 2), (.inr (16, 3)), (.inl 8)], (0, 0), [(.inr (.inr (.inl (44, 44)))), zIA, zIA, (.inl (0, 15, 7, 0))], [(.inl ((-2147483648), 2147483647, 0, 3))]),
  (23, [(.inl 2), (.inr (16, 3)), (.inl 7)], (0, 0), [(.inr (.inr (.inl (44, 44)))), zIA, zIA, (.inl (0, 15, 7, 0))], [(.inr (.inr (.inl (44, 44)))), (.inl ((-2147483648), 2147483647, 0, 3))]),
  (26, [(.inl 2), (.inr (16, 3)), (.inl 6)], (0, 0), [(.inr (.inr (.inl (44, 44)))), zIA, zIA, (.inl (0, 15, 7, 0))], [(.inr (.inr (.inr 5))), (.inl ((-2147483648), 2147483647, 0, 3))]),
  (27, [(.inl 2), (.inr (16, 3)), (.inl 5)], (0, 0), [(.inr (.inr (.inl (44, 44)))), zIA, zIA, (.inl (0, 15, 7, 0))], [(.inl (0, 15, 7, 4)), (.inr (.inr (.inr 5))), (.inl ((-2147483648), 2147483647, 0, 3))]),
  (28, [(.inl 2), (.inr (16, 3)), (.inl 4)], (0, 0), [(.inr (.inr (.inl (44, 44)))), zIA, zIA, (.inl (0, 15, 7, 0))], [zIA, (.inl ((-2147483648), 2147483647, 0, 3))]),
  (31, [(.inl 2), (.inr (16, 3)), (.inl 3)], (0, 0), [(.inr (.inr (.inl (44, 44)))), zIA, zIA, (.inl (0, 15, 7, 0))], [(.inl ((-2147483648), 2147483647, 0, 3))]),
  (32, [(.inl 2), (.inr (16, 3)), (.inl 2)], (0, 0), [(.inr (.inr (.inl (44, 44)))), zIA, zIA, (.inl (0, 15, 7, 0))], [zIA, (.inl ((-2147483648), 2147483647, 0, 3))]),
  (33, [(.inl 2), (.inr (16, 3)), (.inl 1)], (0, 0), [(.inr (.inr (.inl (44, 44)))), zIA, zIA, (.inl (0, 15, 7, 0))], [zIA]),
  (34, [(.inl 2), (.inr (16, 3)), (.inl 0)], (0, 0), [(.inr (.inr (.inl (44, 44)))), zIA, zIA, (.inl (0, 15, 7, 0))], []),
  (37, [(.inl 2), (.inr (16, 3)), (.inl 19)], (0, 0), [(.inr (.inr (.inl (44, 44)))), zIA, zIA, (.inl (1, 16, 0, 0))], []),
  (40, [(.inl 1), (.inl 0), (.inl 0)], (0, 0), [(.inr (.inr (.inl (44, 44)))), zIA, zIA, (.inl (8, 16, 0, 0))], []),
  (41, [(.inl 0), (.inl 0), (.inl 0)], (0, 0), [(.inr (.inr (.inl (44, 44)))), zIA, zIA, (.inl (8, 16, 0, 0))], [(.inl ((-2147483648), 2147483647, 0, 3))])]
theorem g_118 {xs : List Int32} : zGd xs ct_118 := zmeth (cs := [ct_113]) ct_118 ce_118 (List.forall_mem_cons.mpr ⟨g_113, fun _ h => absurd h List.not_mem_nil⟩) (by decide +kernel)
def ct_119 : zCt := (119, [(.inr (.inr (.inl (44, 44)))), zIA], some zIA, 4, 0, 0)
def ce_119 : List zCe := [(0, [(.inl 8)], (0, 0), [(.inr (.inr (.inl (44, 44)))), zIA], []),
  (1, [(.inl 7)], (0, 0), [(.inr (.inr (.inl (44, 44)))), zIA], [(.inl ((-2147483648), 2147483647, 0, 2))]),
  (2, [(.inl 6)], (0, 0), [(.inr (.inr (.inl (44, 44)))), zIA], [(.inr (.inr (.inl (44, 44)))), (.inl ((-2147483648), 2147483647, 0, 2))]),
  (3, [(.inl 5)], (0, 0), [(.inr (.inr (.inl (44, 44)))), zIA], [(.inl ((-2147483648), 2147483647, 0, 2)), (.inr (.inr (.inl (44, 44)))), (.inl ((-2147483648), 2147483647, 0, 2))]),
  (6, [(.inl 4)], (0, 0), [(.inr (.inr (.inl (44, 44)))), zIA], [zIA, (.inl ((-2147483648), 2147483647, 0, 2))]),
  (7, [(.inl 3)], (0, 0), [(.inr (.inr (.inl (44, 44)))), zIA], [(.inr (.inr (.inl (44, 44)))), zIA, (.inl ((-2147483648), 2147483647, 0, 2))]),
  (10, [(.inl 2)], (0, 0), [(.inr (.inr (.inl (44, 44)))), zIA], [(.inl (4, 10, 0, 0)), zIA, (.inl ((-2147483648), 2147483647, 0, 2))]),
  (11, [(.inl 1)], (0, 0), [(.inr (.inr (.inl (44, 44)))), zIA], [zIA, (.inl ((-2147483648), 2147483647, 0, 2))]),
  (12, [(.inl 0)], (0, 0), [(.inr (.inr (.inl (44, 44)))), zIA], [zIA])]
theorem g_119 {xs : List Int32} : zGd xs ct_119 := zmeth (cs := [ct_118]) ct_119 ce_119 (List.forall_mem_cons.mpr ⟨g_118, fun _ h => absurd h List.not_mem_nil⟩) (by decide +kernel)
def ct_120 : zCt := (120, [(.inr (.inr (.inl (44, 44)))), zIA], some zIA, 4, 0, 0)
def ce_120 : List zCe := [(0, [(.inl 10), (.inl 0), (.inl 0)], (0, 0), [(.inr (.inr (.inl (44, 44)))), zIA, (.inr (.inr (.inr 0))), (.inr (.inr (.inr 0)))], []),
  (1, [(.inl 9), (.inl 0), (.inl 0)], (0, 0), [(.inr (.inr (.inl (44, 44)))), zIA, (.inr (.inr (.inr 0))), (.inr (.inr (.inr 0)))], [(.inr (.inr (.inl (44, 44))))]),
  (2, [(.inl 8), (.inl 0), (.inl 0)], (0, 0), [(.inr (.inr (.inl (44, 44)))), zIA, (.inr (.inr (.inr 0))), (.inr (.inr (.inr 0)))], [(.inl ((-2147483648), 2147483647, 0, 2)), (.inr (.inr (.inl (44, 44))))]),
  (5, [(.inl 7), (.inl 0), (.inl 0)], (0, 0), [(.inr (.inr (.inl (44, 44)))), zIA, (.inr (.inr (.inr 0))), (.inr (.inr (.inr 0)))], [zIA]),
  (6, [(.inl 6), (.inl 0), (.inl 0)], (0, 0), [(.inr (.inr (.inl (44, 44)))), zIA, zIA, (.inr (.inr (.inr 0)))], []),
  (7, [(.inl 5), (.inl 0), (.inl 0)], (0, 0), [(.inr (.inr (.inl (44, 44)))), zIA, zIA, (.inr (.inr (.inr 0)))], [(.inl (0, 0, 0, 0))]),
  (8, [(.inl 4), (.inr (16, 3)), (.inl 11)], (0, 0), [(.inr (.inr (.inl (44, 44)))), zIA, zIA, (.inl (0, 16, 0, 0))], []),
  (9, [(.inl 4), (.inr (16, 3)), (.inl 10)], (0, 0), [(.inr (.inr (.inl (44, 44)))), zIA, zIA, (.inl (0, 16, 0, 0))], [(.inl (0, 16, 0, 4))]),
  (10, [(.inl 4), (.inr (16, 3)), (.inl 9)], (0, 0), [(.inr (.inr (.inl (44, 44)))), zIA, zIA, (.inl (0, 16, 0, 0))], [(.inr (.inr (.inl (44, 44)))), (.inl (0, 16, 0, 4))]),
  (13, [(.inl 4), (.inr (16, 3)), (.inl 8)], (0, 0), [(.inr (.inr (.inl (44, 44)))), zIA, zIA, (.inl (0, 16, 0, 0))], [(.inr (.inr (.inr 5))), (.inl (0, 16, 0, 4))]),
  (14, [(.inl 4), (.inr (16, 3)), (.inl 7)], (0, 0), [(.inr (.inr (.inl (44, 44)))), zIA, zIA, (.inl (0, 16, 0, 0))], [(.inl (8, 16, 8, 0)), (.inl (0, 16, 0, 4))]),
  (17, [(.inl 4), (.inr (16, 3)), (.inl 6)], (0, 0), [(.inr (.inr (.inl (44, 44)))), zIA, zIA, (.inl (0, 15, 7, 0))], []),
  (18, [(.inl 4), (.inr (16, 3)), (.inl 5)], (0, 0), [(.inr (.inr (.inl (44, 44)))), zIA, zIA, (.inl (0, 15, 7, 0))], [(.inr (.inr (.inl (44, 44))))]),
  (21, [(.inl 4), (.inr (16, 3)), (.inl 4)], (0, 0), [(.inr (.inr (.inl (44, 44)))), zIA, zIA, (.inl (0, 15, 7, 0))], [(.inr (.inr (.inr 5)))]),
  (22, [(.inl 4), (.inr (16, 3)), (.inl 3)], (0, 0), [(.inr (.inr (.inl (44, 44)))), zIA, zIA, (.inl (0, 15, 7, 0))], [(.inl (0, 15, 7, 4)), (.inr (.inr (.inr 5)))]),
  (23, [(.inl 4), (.inr (16, 3)), (.inl 2)], (0, 0), [(.inr (.inr (.inl (44, 44)))), zIA, zIA, (.inl (0, 15, 7, 0))], [zIA]),
  (24, [(.inl 4), (.inr (16, 3)), (.inl 1)], (0, 0), [(.inr (.inr (.inl (44, 44)))), zIA, zIA, (.inl (0, 15, 7, 0))], [(.inl ((-2147483648), 2147483647, 0, 3)), zIA]),
  (27, [(.inl 3), (.inl 0), (.inl 0)], (0, 0), [(.inr (.inr (.inl (44, 44)))), zIA, zIA, (.inl (0, 15, 7, 0))], []),
  (28, [(.inl 2), (.inl 0), (.inl 0)], (0, 0), [(.inr (.inr (.inl (44, 44)))), zIA, zIA, (.inl (0, 15, 7, 0))], [(.inl (0, 15, 7, 4))]),
  (29, [(.inl 4), (.inr (16, 3)), (.inl 0)], (0, 0), [(.inr (.inr (.inl (44, 44)))), zIA, zIA, (.inl (0, 15, 7, 0))], []),
  (32, [(.inl 4), (.inr (16, 3)), (.inl 12)], (0, 0), [(.inr (.inr (.inl (44, 44)))), zIA, zIA, (.inl (1, 16, 0, 0))], []),
  (35, [(.inl 1), (.inl 0), (.inl 0)], (0, 0), [(.inr (.inr (.inl (44, 44)))), zIA, zIA, (.inl (8, 16, 0, 0))], []),
  (36, [(.inl 0), (.inl 0), (.inl 0)], (0, 0), [(.inr (.inr (.inl (44, 44)))), zIA, zIA, (.inl (8, 16, 0, 0))], [(.inl ((-1), (-1), 0, 0))])]
theorem g_120 {xs : List Int32} : zGd xs ct_120 := zmeth (cs := [ct_118]) ct_120 ce_120 (List.forall_mem_cons.mpr ⟨g_118, fun _ h => absurd h List.not_mem_nil⟩) (by decide +kernel)
def ct_121 : zCt := (121, [(.inr (.inr (.inl (44, 44)))), zIA], some ((.inl (0, 2, 0, 0))), 5, 0, 0)
def ce_121 : List zCe := [(0, [(.inl 14)], (0, 0), [(.inr (.inr (.inl (44, 44)))), zIA], []),
  (1, [(.inl 13)], (0, 0), [(.inr (.inr (.inl (44, 44)))), zIA], [(.inr (.inr (.inl (44, 44))))]),
  (2, [(.inl 12)], (0, 0), [(.inr (.inr (.inl (44, 44)))), zIA], [(.inl ((-2147483648), 2147483647, 0, 2)), (.inr (.inr (.inl (44, 44))))]),
  (5, [(.inl 11)], (0, 0), [(.inr (.inr (.inl (44, 44)))), zIA], [zIA]),
  (8, [(.inl 10)], (0, 0), [(.inr (.inr (.inl (44, 44)))), zIA], []),
  (9, [(.inl 9)], (0, 0), [(.inr (.inr (.inl (44, 44)))), zIA], [(.inl (0, 0, 0, 0))]),
  (12, [(.inl 8)], (0, 0), [(.inr (.inr (.inl (44, 44)))), zIA], []),
  (13, [(.inl 7)], (0, 0), [(.inr (.inr (.inl (44, 44)))), zIA], [(.inr (.inr (.inl (44, 44))))]),
  (14, [(.inl 6)], (0, 0), [(.inr (.inr (.inl (44, 44)))), zIA], [(.inl ((-2147483648), 2147483647, 0, 2)), (.inr (.inr (.inl (44, 44))))]),
  (17, [(.inl 5)], (0, 0), [(.inr (.inr (.inl (44, 44)))), zIA], [zIA]),
  (18, [(.inl 4)], (0, 0), [(.inr (.inr (.inl (44, 44)))), zIA], [(.inl ((-1), (-1), 0, 0)), zIA]),
  (21, [(.inl 3)], (0, 0), [(.inr (.inr (.inl (44, 44)))), zIA], []),
  (22, [(.inl 2)], (0, 0), [(.inr (.inr (.inl (44, 44)))), zIA], [(.inl (2, 2, 0, 0))]),
  (25, [(.inl 1)], (0, 0), [(.inr (.inr (.inl (44, 44)))), zIA], []),
  (26, [(.inl 0)], (0, 0), [(.inr (.inr (.inl (44, 44)))), zIA], [(.inl (0, 2, 0, 0))])]
theorem g_121 {xs : List Int32} : zGd xs ct_121 := zmeth (cs := [ct_118, ct_120]) ct_121 ce_121 (List.forall_mem_cons.mpr ⟨g_118, List.forall_mem_cons.mpr ⟨g_120, fun _ h => absurd h List.not_mem_nil⟩⟩) (by decide +kernel)
def ct_122 : zCt := (122, [(.inr (.inr (.inl (44, 44)))), zIA], some zIA, 6, 0, 0)
def ce_122 : List zCe := [(0, [(.inl 14)], (0, 0), [(.inr (.inr (.inl (44, 44)))), zIA], []),
  (1, [(.inl 13)], (0, 0), [(.inr (.inr (.inl (44, 44)))), zIA], [(.inr (.inr (.inl (44, 44))))]),
  (2, [(.inl 12)], (0, 0), [(.inr (.inr (.inl (44, 44)))), zIA], [(.inl ((-2147483648), 2147483647, 0, 2)), (.inr (.inr (.inl (44, 44))))]),
  (5, [(.inl 11)], (0, 0), [(.inr (.inr (.inl (44, 44)))), zIA], [(.inl (0, 2, 0, 0))]),
  (6, [(.inl 10)], (0, 0), [(.inr (.inr (.inl (44, 44)))), zIA], [(.inl (1, 1, 0, 0)), (.inl (0, 2, 0, 0))]),
  (9, [(.inl 9)], (0, 0), [(.inr (.inr (.inl (44, 44)))), zIA], []),
  (10, [(.inl 8)], (0, 0), [(.inr (.inr (.inl (44, 44)))), zIA], [(.inl ((-2147483648), 2147483647, 0, 2))]),
  (11, [(.inl 7)], (0, 0), [(.inr (.inr (.inl (44, 44)))), zIA], [(.inl (1, 1, 0, 0)), (.inl ((-2147483648), 2147483647, 0, 2))]),
  (12, [(.inl 6)], (0, 0), [(.inr (.inr (.inl (44, 44)))), zIA], [(.inr (.inr (.inl (44, 44)))), (.inl (1, 1, 0, 0)), (.inl ((-2147483648), 2147483647, 0, 2))]),
  (13, [(.inl 5)], (0, 0), [(.inr (.inr (.inl (44, 44)))), zIA], [(.inl ((-2147483648), 2147483647, 0, 2)), (.inr (.inr (.inl (44, 44)))), (.inl (1, 1, 0, 0)), (.inl ((-2147483648), 2147483647, 0, 2))]),
  (16, [(.inl 4)], (0, 0), [(.inr (.inr (.inl (44, 44)))), zIA], [zIA, (.inl (1, 1, 0, 0)), (.inl ((-2147483648), 2147483647, 0, 2))]),
  (17, [(.inl 3)], (0, 0), [(.inr (.inr (.inl (44, 44)))), zIA], [zIA, (.inl ((-2147483648), 2147483647, 0, 2))]),
  (18, [(.inl 2)], (0, 0), [(.inr (.inr (.inl (44, 44)))), zIA], [zIA]),
  (21, [(.inl 1)], (0, 0), [(.inr (.inr (.inl (44, 44)))), zIA], []),
  (22, [(.inl 0)], (0, 0), [(.inr (.inr (.inl (44, 44)))), zIA], [zIA])]
theorem g_122 {xs : List Int32} : zGd xs ct_122 := zmeth (cs := [ct_120, ct_121]) ct_122 ce_122 (List.forall_mem_cons.mpr ⟨g_120, List.forall_mem_cons.mpr ⟨g_121, fun _ h => absurd h List.not_mem_nil⟩⟩) (by decide +kernel)
def ct_123 : zCt := (123, [(.inr (.inr (.inl (44, 44)))), zIA], some zIA, 7, 0, 0)
def ce_123 : List zCe := [(0, [(.inl 10)], (0, 0), [(.inr (.inr (.inl (44, 44)))), zIA], []),
  (1, [(.inl 9)], (0, 0), [(.inr (.inr (.inl (44, 44)))), zIA], [(.inr (.inr (.inl (44, 44))))]),
  (2, [(.inl 8)], (0, 0), [(.inr (.inr (.inl (44, 44)))), zIA], [(.inl ((-2147483648), 2147483647, 0, 2)), (.inr (.inr (.inl (44, 44))))]),
  (5, [(.inl 7)], (0, 0), [(.inr (.inr (.inl (44, 44)))), zIA], [zIA]),
  (6, [(.inl 6)], (0, 0), [(.inr (.inr (.inl (44, 44)))), zIA], [(.inl (1, 1, 0, 0)), zIA]),
  (7, [(.inl 5)], (0, 0), [(.inr (.inr (.inl (44, 44)))), zIA], [(.inr (.inr (.inl (44, 44)))), (.inl (1, 1, 0, 0)), zIA]),
  (10, [(.inl 4)], (0, 0), [(.inr (.inr (.inl (44, 44)))), zIA], [(.inl (4, 10, 0, 0)), (.inl (1, 1, 0, 0)), zIA]),
  (11, [(.inl 3)], (0, 0), [(.inr (.inr (.inl (44, 44)))), zIA], [zIA, zIA]),
  (12, [(.inl 2)], (0, 0), [(.inr (.inr (.inl (44, 44)))), zIA], [(.inl (1, 1, 0, 0)), zIA, zIA]),
  (13, [(.inl 1)], (0, 0), [(.inr (.inr (.inl (44, 44)))), zIA], [zIA, zIA]),
  (14, [(.inl 0)], (0, 0), [(.inr (.inr (.inl (44, 44)))), zIA], [zIA])]
theorem g_123 {xs : List Int32} : zGd xs ct_123 := zmeth (cs := [ct_122]) ct_123 ce_123 (List.forall_mem_cons.mpr ⟨g_122, fun _ h => absurd h List.not_mem_nil⟩) (by decide +kernel)
def ct_124 : zCt := (124, [(.inr (.inr (.inl (44, 44)))), (.inl (0, 127, 0, 0))], some ((.inl (0, 19, 0, 0))), 2, 0, 0)
def ce_124 : List zCe := [(0, [(.inl 6)], (0, 0), [(.inr (.inr (.inl (44, 44)))), (.inl (0, 127, 0, 0))], []),
  (1, [(.inl 5)], (0, 0), [(.inr (.inr (.inl (44, 44)))), (.inl (0, 127, 0, 0))], [(.inr (.inr (.inl (44, 44))))]),
  (4, [(.inl 4)], (0, 0), [(.inr (.inr (.inl (44, 44)))), (.inl (0, 127, 0, 0))], [(.inr (.inr (.inl (69, 69))))]),
  (5, [(.inl 3)], (0, 0), [(.inr (.inr (.inl (44, 44)))), (.inl (0, 127, 0, 0))], [(.inl (0, 127, 0, 2)), (.inr (.inr (.inl (69, 69))))]),
  (7, [(.inl 2)], (0, 0), [(.inr (.inr (.inl (44, 44)))), (.inl (0, 127, 0, 0))], [(.inl (8, 8, 0, 0)), (.inl (0, 127, 0, 2)), (.inr (.inr (.inl (69, 69))))]),
  (8, [(.inl 1)], (0, 0), [(.inr (.inr (.inl (44, 44)))), (.inl (0, 127, 0, 0))], [(.inl (0, 15, 0, 0)), (.inr (.inr (.inl (69, 69))))]),
  (9, [(.inl 0)], (0, 0), [(.inr (.inr (.inl (44, 44)))), (.inl (0, 127, 0, 0))], [(.inl (0, 19, 0, 0))])]
theorem g_124 {xs : List Int32} : zGd xs ct_124 := zmeth (cs := []) ct_124 ce_124 (fun _ h => absurd h List.not_mem_nil) (by decide +kernel)
def ct_125 : zCt := (125, [(.inr (.inr (.inl (44, 44)))), (.inl (0, 127, 0, 0))], some zIA, 3, 0, 0)
def ce_125 : List zCe := [(0, [(.inl 10)], (0, 0), [(.inr (.inr (.inl (44, 44)))), (.inl (0, 127, 0, 0))], []),
  (1, [(.inl 9)], (0, 0), [(.inr (.inr (.inl (44, 44)))), (.inl (0, 127, 0, 0))], [(.inr (.inr (.inl (44, 44))))]),
  (4, [(.inl 8)], (0, 0), [(.inr (.inr (.inl (44, 44)))), (.inl (0, 127, 0, 0))], [(.inr (.inr (.inl (46, 46))))]),
  (5, [(.inl 7)], (0, 0), [(.inr (.inr (.inl (44, 44)))), (.inl (0, 127, 0, 0))], [(.inr (.inr (.inl (44, 44)))), (.inr (.inr (.inl (46, 46))))]),
  (6, [(.inl 6)], (0, 0), [(.inr (.inr (.inl (44, 44)))), (.inl (0, 127, 0, 0))], [(.inl (0, 127, 0, 2)), (.inr (.inr (.inl (44, 44)))), (.inr (.inr (.inl (46, 46))))]),
  (9, [(.inl 5)], (0, 0), [(.inr (.inr (.inl (44, 44)))), (.inl (0, 127, 0, 0))], [(.inl (0, 19, 0, 0)), (.inr (.inr (.inl (46, 46))))]),
  (10, [(.inl 4)], (0, 0), [(.inr (.inr (.inl (44, 44)))), (.inl (0, 127, 0, 0))], [(.inr (.inr (.inl (47, 66))))]),
  (11, [(.inl 3)], (0, 0), [(.inr (.inr (.inl (44, 44)))), (.inl (0, 127, 0, 0))], [(.inl (0, 127, 0, 2)), (.inr (.inr (.inl (47, 66))))]),
  (13, [(.inl 2)], (0, 0), [(.inr (.inr (.inl (44, 44)))), (.inl (0, 127, 0, 0))], [(.inl (8, 8, 0, 0)), (.inl (0, 127, 0, 2)), (.inr (.inr (.inl (47, 66))))]),
  (14, [(.inl 1)], (0, 0), [(.inr (.inr (.inl (44, 44)))), (.inl (0, 127, 0, 0))], [(.inl (0, 7, 0, 0)), (.inr (.inr (.inl (47, 66))))]),
  (15, [(.inl 0)], (0, 0), [(.inr (.inr (.inl (44, 44)))), (.inl (0, 127, 0, 0))], [zIA])]
theorem g_125 {xs : List Int32} : zGd xs ct_125 := zmeth (cs := [ct_124]) ct_125 ce_125 (List.forall_mem_cons.mpr ⟨g_124, fun _ h => absurd h List.not_mem_nil⟩) (by decide +kernel)
def ct_126 : zCt := (126, [(.inr (.inr (.inl (44, 44)))), (.inl (0, 19, 0, 0)), (.inl (0, 7, 0, 0)), zIA], none, 4, 0, 0)
def ce_126 : List zCe := [(0, [(.inl 12), (.inl 0), (.inl 0)], (0, 0), [(.inr (.inr (.inl (44, 44)))), (.inl (0, 19, 0, 0)), (.inl (0, 7, 0, 0)), zIA, (.inr (.inr (.inr 0))), (.inr (.inr (.inr 0))), (.inr (.inr (.inr 0)))], []),
  (1, [(.inl 11), (.inl 0), (.inl 0)], (0, 0), [(.inr (.inr (.inl (44, 44)))), (.inl (0, 19, 0, 0)), (.inl (0, 7, 0, 0)), zIA, (.inr (.inr (.inr 0))), (.inr (.inr (.inr 0))), (.inr (.inr (.inr 0)))], [(.inl ((-2147483648), 2147483647, 0, 4))]),
  (3, [(.inl 10), (.inl 0), (.inl 0)], (0, 0), [(.inr (.inr (.inl (44, 44)))), (.inl (0, 19, 0, 0)), (.inl (0, 7, 0, 0)), zIA, zIA, (.inr (.inr (.inr 0))), (.inr (.inr (.inr 0)))], []),
  (4, [(.inl 9), (.inl 0), (.inl 0)], (0, 0), [(.inr (.inr (.inl (44, 44)))), (.inl (0, 19, 0, 0)), (.inl (0, 7, 0, 0)), zIA, zIA, (.inr (.inr (.inr 0))), (.inr (.inr (.inr 0)))], [(.inl (0, 0, 0, 0))]),
  (6, [(.inl 8), (.inr (24, 5)), (.inl 44)], (0, 0), [(.inr (.inr (.inl (44, 44)))), (.inl (0, 19, 0, 0)), (.inl (0, 7, 0, 0)), zIA, zIA, (.inl (0, 24, 0, 0)), (.inr (.inr (.inr 0)))], []),
  (8, [(.inl 8), (.inr (24, 5)), (.inl 43)], (0, 0), [(.inr (.inr (.inl (44, 44)))), (.inl (0, 19, 0, 0)), (.inl (0, 7, 0, 0)), zIA, zIA, (.inl (0, 24, 0, 0)), (.inr (.inr (.inr 0)))], [(.inl (0, 24, 0, 6))]),
  (9, [(.inl 8), (.inr (24, 5)), (.inl 42)], (0, 0), [(.inr (.inr (.inl (44, 44)))), (.inl (0, 19, 0, 0)), (.inl (0, 7, 0, 0)), zIA, zIA, (.inl (0, 24, 0, 0)), (.inr (.inr (.inr 0)))], [(.inr (.inr (.inl (44, 44)))), (.inl (0, 24, 0, 6))]),
  (12, [(.inl 8), (.inr (24, 5)), (.inl 41)], (0, 0), [(.inr (.inr (.inl (44, 44)))), (.inl (0, 19, 0, 0)), (.inl (0, 7, 0, 0)), zIA, zIA, (.inl (0, 24, 0, 0)), (.inr (.inr (.inr 0)))], [(.inr (.inr (.inr 8))), (.inl (0, 24, 0, 6))]),
  (17, [(.inl 8), (.inr (24, 5)), (.inl 40)], (0, 0), [(.inr (.inr (.inl (44, 44)))), (.inl (0, 19, 0, 0)), (.inl (0, 7, 0, 0)), zIA, zIA, (.inl (0, 24, 0, 0)), (.inr (.inr (.inr 0)))], [(.inl (0, 24, 2, 0)), (.inl (0, 24, 0, 6))]),
  (20, [(.inl 8), (.inr (24, 5)), (.inl 39)], (0, 0), [(.inr (.inr (.inl (44, 44)))), (.inl (0, 19, 0, 0)), (.inl (0, 7, 0, 0)), zIA, zIA, (.inl (0, 23, 1, 0)), (.inr (.inr (.inr 0)))], []),
  (21, [(.inl 8), (.inr (24, 5)), (.inl 38)], (0, 0), [(.inr (.inr (.inl (44, 44)))), (.inl (0, 19, 0, 0)), (.inl (0, 7, 0, 0)), zIA, zIA, (.inl (0, 23, 1, 0)), (.inr (.inr (.inr 0)))], [(.inr (.inr (.inl (44, 44))))]),
  (24, [(.inl 8), (.inr (24, 5)), (.inl 37)], (0, 0), [(.inr (.inr (.inl (44, 44)))), (.inl (0, 19, 0, 0)), (.inl (0, 7, 0, 0)), zIA, zIA, (.inl (0, 23, 1, 0)), (.inr (.inr (.inr 0)))], [(.inr (.inr (.inr 8)))]),
  (26, [(.inl 8), (.inr (24, 5)), (.inl 36)], (0, 0), [(.inr (.inr (.inl (44, 44)))), (.inl (0, 19, 0, 0)), (.inl (0, 7, 0, 0)), zIA, zIA, (.inl (0, 23, 1, 0)), (.inr (.inr (.inr 0)))], [(.inl (0, 23, 1, 6)), (.inr (.inr (.inr 8)))]),
  (31, [(.inl 8), (.inr (24, 5)), (.inl 35)], (0, 0), [(.inr (.inr (.inl (44, 44)))), (.inl (0, 19, 0, 0)), (.inl (0, 7, 0, 0)), zIA, zIA, (.inl (0, 23, 1, 0)), (.inr (.inr (.inr 0)))], [(.inr (.inr (.inr 6)))]),
  (34, [(.inl 8), (.inr (24, 5)), (.inl 34)], (0, 0), [(.inr (.inr (.inl (44, 44)))), (.inl (0, 19, 0, 0)), (.inl (0, 7, 0, 0)), zIA, zIA, (.inl (0, 23, 1, 0)), (.inr (.inr (.inr 0)))], [(.inr (.inr (.inr 6)))]),
  (36, [(.inl 8), (.inr (24, 5)), (.inl 33)], (0, 0), [(.inr (.inr (.inl (44, 44)))), (.inl (0, 19, 0, 0)), (.inl (0, 7, 0, 0)), zIA, zIA, (.inl (0, 23, 1, 0)), (.inr (.inr (.inr 6)))], []),
  (38, [(.inl 8), (.inr (24, 5)), (.inl 32)], (0, 0), [(.inr (.inr (.inl (44, 44)))), (.inl (0, 19, 0, 0)), (.inl (0, 7, 0, 0)), zIA, zIA, (.inl (0, 23, 1, 0)), (.inr (.inr (.inr 6)))], [(.inr (.inr (.inr 6)))]),
  (39, [(.inl 8), (.inr (24, 5)), (.inl 31)], (0, 0), [(.inr (.inr (.inl (44, 44)))), (.inl (0, 19, 0, 0)), (.inl (0, 7, 0, 0)), zIA, zIA, (.inl (0, 23, 1, 0)), (.inr (.inr (.inr 6)))], [(.inl (0, 0, 0, 0)), (.inr (.inr (.inr 6)))]),
  (40, [(.inl 8), (.inr (24, 5)), (.inl 30)], (0, 0), [(.inr (.inr (.inl (44, 44)))), (.inl (0, 19, 0, 0)), (.inl (0, 7, 0, 0)), zIA, zIA, (.inl (0, 23, 1, 0)), (.inr (.inr (.inr 6)))], [(.inl (0, 19, 0, 0))]),
  (41, [(.inl 8), (.inr (24, 5)), (.inl 29)], (0, 0), [(.inr (.inr (.inl (44, 44)))), (.inl (0, 19, 0, 0)), (.inl (0, 7, 0, 0)), zIA, zIA, (.inl (0, 23, 1, 0)), (.inr (.inr (.inr 6)))], [(.inl (0, 19, 0, 2)), (.inl (0, 19, 0, 0))]),
  (44, [(.inl 8), (.inr (24, 5)), (.inl 28)], (0, 0), [(.inr (.inr (.inl (44, 44)))), (.inl (0, 19, 0, 0)), (.inl (0, 7, 0, 0)), zIA, zIA, (.inl (0, 23, 1, 0)), (.inr (.inr (.inr 6)))], []),
  (46, [(.inl 8), (.inr (24, 5)), (.inl 27)], (0, 0), [(.inr (.inr (.inl (44, 44)))), (.inl (0, 19, 0, 0)), (.inl (0, 7, 0, 0)), zIA, zIA, (.inl (0, 23, 1, 0)), (.inr (.inr (.inr 6)))], [(.inr (.inr (.inr 6)))]),
  (47, [(.inl 8), (.inr (24, 5)), (.inl 26)], (0, 0), [(.inr (.inr (.inl (44, 44)))), (.inl (0, 19, 0, 0)), (.inl (0, 7, 0, 0)), zIA, zIA, (.inl (0, 23, 1, 0)), (.inr (.inr (.inr 6)))], [(.inl (1, 1, 0, 0)), (.inr (.inr (.inr 6)))]),
  (48, [(.inl 8), (.inr (24, 5)), (.inl 25)], (0, 0), [(.inr (.inr (.inl (44, 44)))), (.inl (0, 19, 0, 0)), (.inl (0, 7, 0, 0)), zIA, zIA, (.inl (0, 23, 1, 0)), (.inr (.inr (.inr 6)))], [(.inl (0, 7, 0, 0))]),
  (49, [(.inl 8), (.inr (24, 5)), (.inl 24)], (0, 0), [(.inr (.inr (.inl (44, 44)))), (.inl (0, 19, 0, 0)), (.inl (0, 7, 0, 0)), zIA, zIA, (.inl (0, 23, 1, 0)), (.inr (.inr (.inr 6)))], [(.inl (0, 7, 0, 3)), (.inl (0, 7, 0, 0))]),
  (52, [(.inl 8), (.inr (24, 5)), (.inl 23)], (0, 0), [(.inr (.inr (.inl (44, 44)))), (.inl (0, 19, 0, 0)), (.inl (0, 7, 0, 0)), zIA, zIA, (.inl (0, 23, 1, 0)), (.inr (.inr (.inr 6)))], []),
  (54, [(.inl 8), (.inr (24, 5)), (.inl 22)], (0, 0), [(.inr (.inr (.inl (44, 44)))), (.inl (0, 19, 0, 0)), (.inl (0, 7, 0, 0)), zIA, zIA, (.inl (0, 23, 1, 0)), (.inr (.inr (.inr 6)))], [(.inr (.inr (.inr 6)))]),
  (55, [(.inl 8), (.inr (24, 5)), (.inl 21)], (0, 0), [(.inr (.inr (.inl (44, 44)))), (.inl (0, 19, 0, 0)), (.inl (0, 7, 0, 0)), zIA, zIA, (.inl (0, 23, 1, 0)), (.inr (.inr (.inr 6)))], [(.inl (3, 3, 0, 0)), (.inr (.inr (.inr 6)))]),
  (56, [(.inl 8), (.inr (24, 5)), (.inl 20)], (0, 0), [(.inr (.inr (.inl (44, 44)))), (.inl (0, 19, 0, 0)), (.inl (0, 7, 0, 0)), zIA, zIA, (.inl (0, 23, 1, 0)), (.inr (.inr (.inr 6)))], [zIA]),
  (57, [(.inl 8), (.inr (24, 5)), (.inl 19)], (0, 0), [(.inr (.inr (.inl (44, 44)))), (.inl (0, 19, 0, 0)), (.inl (0, 7, 0, 0)), zIA, zIA, (.inl (0, 23, 1, 0)), (.inr (.inr (.inr 6)))], [(.inl (1, 1, 0, 0)), zIA]),
  (60, [(.inl 8), (.inr (24, 5)), (.inl 18)], (0, 0), [(.inr (.inr (.inl (44, 44)))), (.inl (0, 19, 0, 0)), (.inl (0, 7, 0, 0)), zIA, zIA, (.inl (0, 23, 1, 0)), (.inr (.inr (.inr 6)))], []),
  (62, [(.inl 8), (.inr (24, 5)), (.inl 17)], (0, 0), [(.inr (.inr (.inl (44, 44)))), (.inl (0, 19, 0, 0)), (.inl (0, 7, 0, 0)), zIA, zIA, (.inl (0, 23, 1, 0)), (.inr (.inr (.inr 6)))], [(.inl ((-2147483648), 2147483647, 0, 5))]),
  (63, [(.inl 8), (.inr (24, 5)), (.inl 16)], (0, 0), [(.inr (.inr (.inl (44, 44)))), (.inl (0, 19, 0, 0)), (.inl (0, 7, 0, 0)), zIA, zIA, (.inl (0, 23, 1, 0)), (.inr (.inr (.inr 6)))], [(.inl (1, 1, 0, 0)), (.inl ((-2147483648), 2147483647, 0, 5))]),
  (65, [(.inl 8), (.inr (24, 5)), (.inl 15)], (0, 0), [(.inr (.inr (.inl (44, 44)))), (.inl (0, 19, 0, 0)), (.inl (0, 7, 0, 0)), zIA, zIA, (.inl (0, 23, 1, 0)), (.inr (.inr (.inr 6)))], [(.inr (.inr (.inr 6))), (.inl (1, 1, 0, 0)), (.inl ((-2147483648), 2147483647, 0, 5))]),
  (66, [(.inl 8), (.inr (24, 5)), (.inl 14)], (0, 0), [(.inr (.inr (.inl (44, 44)))), (.inl (0, 19, 0, 0)), (.inl (0, 7, 0, 0)), zIA, zIA, (.inl (0, 23, 1, 0)), (.inr (.inr (.inr 6)))], [(.inl (2, 2, 0, 0)), (.inr (.inr (.inr 6))), (.inl (1, 1, 0, 0)), (.inl ((-2147483648), 2147483647, 0, 5))]),
  (67, [(.inl 8), (.inr (24, 5)), (.inl 13)], (0, 0), [(.inr (.inr (.inl (44, 44)))), (.inl (0, 19, 0, 0)), (.inl (0, 7, 0, 0)), zIA, zIA, (.inl (0, 23, 1, 0)), (.inr (.inr (.inr 6)))], [zIA, (.inl (1, 1, 0, 0)), (.inl ((-2147483648), 2147483647, 0, 5))]),
  (68, [(.inl 8), (.inr (24, 5)), (.inl 12)], (0, 0), [(.inr (.inr (.inl (44, 44)))), (.inl (0, 19, 0, 0)), (.inl (0, 7, 0, 0)), zIA, zIA, (.inl (0, 23, 1, 0)), (.inr (.inr (.inr 6)))], [zIA, (.inl ((-2147483648), 2147483647, 0, 5))]),
  (69, [(.inl 8), (.inr (24, 5)), (.inl 11)], (0, 0), [(.inr (.inr (.inl (44, 44)))), (.inl (0, 19, 0, 0)), (.inl (0, 7, 0, 0)), zIA, zIA, (.inl (0, 23, 1, 0)), (.inr (.inr (.inr 6)))], [zIA]),
  (72, [(.inl 8), (.inr (24, 5)), (.inl 10)], (0, 0), [(.inr (.inr (.inl (44, 44)))), (.inl (0, 19, 0, 0)), (.inl (0, 7, 0, 0)), zIA, zIA, (.inl (0, 23, 1, 0)), (.inr (.inr (.inr 6)))], []),
  (74, [(.inl 8), (.inr (24, 5)), (.inl 9)], (0, 0), [(.inr (.inr (.inl (44, 44)))), (.inl (0, 19, 0, 0)), (.inl (0, 7, 0, 0)), zIA, zIA, (.inl (0, 23, 1, 0)), (.inr (.inr (.inr 6)))], [(.inl ((-2147483648), 2147483647, 0, 5))]),
  (75, [(.inl 8), (.inr (24, 5)), (.inl 8)], (0, 0), [(.inr (.inr (.inl (44, 44)))), (.inl (0, 19, 0, 0)), (.inl (0, 7, 0, 0)), zIA, zIA, (.inl (0, 23, 1, 0)), (.inr (.inr (.inr 6)))], [(.inl (1, 1, 0, 0)), (.inl ((-2147483648), 2147483647, 0, 5))]),
  (77, [(.inl 8), (.inr (24, 5)), (.inl 7)], (0, 0), [(.inr (.inr (.inl (44, 44)))), (.inl (0, 19, 0, 0)), (.inl (0, 7, 0, 0)), zIA, zIA, (.inl (0, 23, 1, 0)), (.inr (.inr (.inr 6)))], [(.inr (.inr (.inr 6))), (.inl (1, 1, 0, 0)), (.inl ((-2147483648), 2147483647, 0, 5))]),
  (78, [(.inl 8), (.inr (24, 5)), (.inl 6)], (0, 0), [(.inr (.inr (.inl (44, 44)))), (.inl (0, 19, 0, 0)), (.inl (0, 7, 0, 0)), zIA, zIA, (.inl (0, 23, 1, 0)), (.inr (.inr (.inr 6)))], [(.inl (2, 2, 0, 0)), (.inr (.inr (.inr 6))), (.inl (1, 1, 0, 0)), (.inl ((-2147483648), 2147483647, 0, 5))]),
  (79, [(.inl 8), (.inr (24, 5)), (.inl 5)], (0, 0), [(.inr (.inr (.inl (44, 44)))), (.inl (0, 19, 0, 0)), (.inl (0, 7, 0, 0)), zIA, zIA, (.inl (0, 23, 1, 0)), (.inr (.inr (.inr 6)))], [zIA, (.inl (1, 1, 0, 0)), (.inl ((-2147483648), 2147483647, 0, 5))]),
  (80, [(.inl 8), (.inr (24, 5)), (.inl 4)], (0, 0), [(.inr (.inr (.inl (44, 44)))), (.inl (0, 19, 0, 0)), (.inl (0, 7, 0, 0)), zIA, zIA, (.inl (0, 23, 1, 0)), (.inr (.inr (.inr 6)))], [zIA, (.inl ((-2147483648), 2147483647, 0, 5))]),
  (81, [(.inl 8), (.inr (24, 5)), (.inl 3)], (0, 0), [(.inr (.inr (.inl (44, 44)))), (.inl (0, 19, 0, 0)), (.inl (0, 7, 0, 0)), zIA, zIA, (.inl (0, 23, 1, 0)), (.inr (.inr (.inr 6)))], [(.inl ((-1), (-1), 0, 0)), zIA, (.inl ((-2147483648), 2147483647, 0, 5))]),
  (82, [(.inl 8), (.inr (24, 5)), (.inl 2)], (0, 0), [(.inr (.inr (.inl (44, 44)))), (.inl (0, 19, 0, 0)), (.inl (0, 7, 0, 0)), zIA, zIA, (.inl (0, 23, 1, 0)), (.inr (.inr (.inr 6)))], [zIA, (.inl ((-2147483648), 2147483647, 0, 5))]),
  (83, [(.inl 8), (.inr (24, 5)), (.inl 1)], (0, 0), [(.inr (.inr (.inl (44, 44)))), (.inl (0, 19, 0, 0)), (.inl (0, 7, 0, 0)), zIA, zIA, (.inl (0, 23, 1, 0)), (.inr (.inr (.inr 6)))], [zIA]),
  (85, [(.inl 8), (.inr (24, 5)), (.inl 0)], (0, 0), [(.inr (.inr (.inl (44, 44)))), (.inl (0, 19, 0, 0)), (.inl (0, 7, 0, 0)), zIA, zIA, (.inl (0, 23, 1, 0)), (.inr (.inr (.inr 6)))], []),
  (88, [(.inl 8), (.inr (24, 5)), (.inl 45)], (0, 0), [(.inr (.inr (.inl (44, 44)))), (.inl (0, 19, 0, 0)), (.inl (0, 7, 0, 0)), zIA, zIA, (.inl (1, 24, 0, 0)), (.inr (.inr (.inr 6)))], []),
  (91, [(.inl 7), (.inl 0), (.inl 0)], (0, 0), [(.inr (.inr (.inl (44, 44)))), (.inl (0, 19, 0, 0)), (.inl (0, 7, 0, 0)), zIA, zIA, (.inl (0, 24, 0, 0)), (.inr (.inr (.inr 0)))], []),
  (92, [(.inl 6), (.inl 0), (.inl 0)], (0, 0), [(.inr (.inr (.inl (44, 44)))), (.inl (0, 19, 0, 0)), (.inl (0, 7, 0, 0)), zIA, zIA, (.inl (0, 24, 0, 0)), (.inr (.inr (.inr 0)))], [(.inr (.inr (.inl (44, 44))))]),
  (95, [(.inl 5), (.inl 0), (.inl 0)], (0, 0), [(.inr (.inr (.inl (44, 44)))), (.inl (0, 19, 0, 0)), (.inl (0, 7, 0, 0)), zIA, zIA, (.inl (0, 24, 0, 0)), (.inr (.inr (.inr 0)))], [(.inr (.inr (.inl (46, 46))))]),
  (96, [(.inl 4), (.inl 0), (.inl 0)], (0, 0), [(.inr (.inr (.inl (44, 44)))), (.inl (0, 19, 0, 0)), (.inl (0, 7, 0, 0)), zIA, zIA, (.inl (0, 24, 0, 0)), (.inr (.inr (.inr 0)))], [(.inl (0, 19, 0, 2)), (.inr (.inr (.inl (46, 46))))]),
  (97, [(.inl 3), (.inl 0), (.inl 0)], (0, 0), [(.inr (.inr (.inl (44, 44)))), (.inl (0, 19, 0, 0)), (.inl (0, 7, 0, 0)), zIA, zIA, (.inl (0, 24, 0, 0)), (.inr (.inr (.inr 0)))], [(.inr (.inr (.inl (47, 66))))]),
  (98, [(.inl 2), (.inl 0), (.inl 0)], (0, 0), [(.inr (.inr (.inl (44, 44)))), (.inl (0, 19, 0, 0)), (.inl (0, 7, 0, 0)), zIA, zIA, (.inl (0, 24, 0, 0)), (.inr (.inr (.inr 0)))], [(.inl (0, 7, 0, 3)), (.inr (.inr (.inl (47, 66))))]),
  (100, [(.inl 1), (.inl 0), (.inl 0)], (0, 0), [(.inr (.inr (.inl (44, 44)))), (.inl (0, 19, 0, 0)), (.inl (0, 7, 0, 0)), zIA, zIA, (.inl (0, 24, 0, 0)), (.inr (.inr (.inr 0)))], [(.inl ((-2147483648), 2147483647, 0, 5)), (.inl (0, 7, 0, 3)), (.inr (.inr (.inl (47, 66))))]),
  (101, [(.inl 0), (.inl 0), (.inl 0)], (0, 0), [(.inr (.inr (.inl (44, 44)))), (.inl (0, 19, 0, 0)), (.inl (0, 7, 0, 0)), zIA, zIA, (.inl (0, 24, 0, 0)), (.inr (.inr (.inr 0)))], [])]
theorem g_126 {xs : List Int32} : zGd xs ct_126 := zmeth (cs := [ct_239a, ct_243a]) ct_126 ce_126 (List.forall_mem_cons.mpr ⟨g_239a, List.forall_mem_cons.mpr ⟨g_243a, fun _ h => absurd h List.not_mem_nil⟩⟩) (by decide +kernel)
def ct_127 : zCt := (127, [(.inr (.inr (.inl (44, 44)))), (.inl (0, 127, 0, 0)), zIA], none, 5, 0, 0)
def ce_127 : List zCe := [(0, [(.inl 9)], (0, 0), [(.inr (.inr (.inl (44, 44)))), (.inl (0, 127, 0, 0)), zIA], []),
  (1, [(.inl 8)], (0, 0), [(.inr (.inr (.inl (44, 44)))), (.inl (0, 127, 0, 0)), zIA], [(.inr (.inr (.inl (44, 44))))]),
  (2, [(.inl 7)], (0, 0), [(.inr (.inr (.inl (44, 44)))), (.inl (0, 127, 0, 0)), zIA], [(.inr (.inr (.inl (44, 44)))), (.inr (.inr (.inl (44, 44))))]),
  (3, [(.inl 6)], (0, 0), [(.inr (.inr (.inl (44, 44)))), (.inl (0, 127, 0, 0)), zIA], [(.inl (0, 127, 0, 2)), (.inr (.inr (.inl (44, 44)))), (.inr (.inr (.inl (44, 44))))]),
  (6, [(.inl 5)], (0, 0), [(.inr (.inr (.inl (44, 44)))), (.inl (0, 127, 0, 0)), zIA], [(.inl (0, 19, 0, 0)), (.inr (.inr (.inl (44, 44))))]),
  (7, [(.inl 4)], (0, 0), [(.inr (.inr (.inl (44, 44)))), (.inl (0, 127, 0, 0)), zIA], [(.inl (0, 127, 0, 2)), (.inl (0, 19, 0, 0)), (.inr (.inr (.inl (44, 44))))]),
  (9, [(.inl 3)], (0, 0), [(.inr (.inr (.inl (44, 44)))), (.inl (0, 127, 0, 0)), zIA], [(.inl (8, 8, 0, 0)), (.inl (0, 127, 0, 2)), (.inl (0, 19, 0, 0)), (.inr (.inr (.inl (44, 44))))]),
  (10, [(.inl 2)], (0, 0), [(.inr (.inr (.inl (44, 44)))), (.inl (0, 127, 0, 0)), zIA], [(.inl (0, 7, 0, 0)), (.inl (0, 19, 0, 0)), (.inr (.inr (.inl (44, 44))))]),
  (11, [(.inl 1)], (0, 0), [(.inr (.inr (.inl (44, 44)))), (.inl (0, 127, 0, 0)), zIA], [(.inl ((-2147483648), 2147483647, 0, 3)), (.inl (0, 7, 0, 0)), (.inl (0, 19, 0, 0)), (.inr (.inr (.inl (44, 44))))]),
  (14, [(.inl 0)], (0, 0), [(.inr (.inr (.inl (44, 44)))), (.inl (0, 127, 0, 0)), zIA], [])]
theorem g_127 {xs : List Int32} : zGd xs ct_127 := zmeth (cs := [ct_124, ct_126]) ct_127 ce_127 (List.forall_mem_cons.mpr ⟨g_124, List.forall_mem_cons.mpr ⟨g_126, fun _ h => absurd h List.not_mem_nil⟩⟩) (by decide +kernel)
def ct_131 : zCt := (131, [(.inl (0, 127, 0, 0))], some ((.inl (0, 127, 0, 0))), 2, 0, 0)
def ce_131 : List zCe := [(0, [(.inl 5)], (0, 0), [(.inl (0, 127, 0, 0))], []),
  (1, [(.inl 4)], (0, 0), [(.inl (0, 127, 0, 0))], [(.inl (0, 127, 0, 1))]),
  (3, [(.inl 3)], (0, 0), [(.inl (0, 127, 0, 0))], [(.inl (64, 64, 0, 0)), (.inl (0, 127, 0, 1))]),
  (4, [(.inl 2)], (0, 0), [(.inl (0, 127, 0, 0))], [(.inl (64, 191, 0, 0))]),
  (7, [(.inl 1)], (0, 0), [(.inl (0, 127, 0, 0))], [(.inl (128, 128, 0, 0)), (.inl (64, 191, 0, 0))]),
  (8, [(.inl 0)], (0, 0), [(.inl (0, 127, 0, 0))], [(.inl (0, 127, 0, 0))])]
theorem g_131 {xs : List Int32} : zGd xs ct_131 := zmeth (cs := []) ct_131 ce_131 (fun _ h => absurd h List.not_mem_nil) (by decide +kernel)
def ct_135 : zCt := (135, [(.inr (.inr (.inl (44, 44))))], none, 5, 0, 0)
def ce_135 : List zCe := [(0, [(.inl 3), (.inl 0), (.inl 0)], (0, 0), [(.inr (.inr (.inl (44, 44)))), (.inr (.inr (.inr 0))), (.inr (.inr (.inr 0)))], []),
  (1, [(.inl 2), (.inl 0), (.inl 0)], (0, 0), [(.inr (.inr (.inl (44, 44)))), (.inr (.inr (.inr 0))), (.inr (.inr (.inr 0)))], [(.inl (0, 0, 0, 0))]),
  (2, [(.inl 1), (.inr (24, 1)), (.inl 50)], (0, 0), [(.inr (.inr (.inl (44, 44)))), (.inl (0, 24, 0, 0)), (.inr (.inr (.inr 0)))], []),
  (3, [(.inl 1), (.inr (24, 1)), (.inl 49)], (0, 0), [(.inr (.inr (.inl (44, 44)))), (.inl (0, 24, 0, 0)), (.inr (.inr (.inr 0)))], [(.inl (0, 24, 0, 2))]),
  (4, [(.inl 1), (.inr (24, 1)), (.inl 48)], (0, 0), [(.inr (.inr (.inl (44, 44)))), (.inl (0, 24, 0, 0)), (.inr (.inr (.inr 0)))], [(.inr (.inr (.inl (44, 44)))), (.inl (0, 24, 0, 2))]),
  (7, [(.inl 1), (.inr (24, 1)), (.inl 47)], (0, 0), [(.inr (.inr (.inl (44, 44)))), (.inl (0, 24, 0, 0)), (.inr (.inr (.inr 0)))], [(.inr (.inr (.inr 9))), (.inl (0, 24, 0, 2))]),
  (12, [(.inl 1), (.inr (24, 1)), (.inl 46)], (0, 0), [(.inr (.inr (.inl (44, 44)))), (.inl (0, 24, 0, 0)), (.inr (.inr (.inr 0)))], [(.inl (0, 24, 4, 0)), (.inl (0, 24, 0, 2))]),
  (15, [(.inl 1), (.inr (24, 1)), (.inl 45)], (0, 0), [(.inr (.inr (.inl (44, 44)))), (.inl (0, 23, 3, 0)), (.inr (.inr (.inr 0)))], []),
  (16, [(.inl 1), (.inr (24, 1)), (.inl 44)], (0, 0), [(.inr (.inr (.inl (44, 44)))), (.inl (0, 23, 3, 0)), (.inr (.inr (.inr 0)))], [(.inr (.inr (.inl (44, 44))))]),
  (19, [(.inl 1), (.inr (24, 1)), (.inl 43)], (0, 0), [(.inr (.inr (.inl (44, 44)))), (.inl (0, 23, 3, 0)), (.inr (.inr (.inr 0)))], [(.inr (.inr (.inr 9)))]),
  (20, [(.inl 1), (.inr (24, 1)), (.inl 42)], (0, 0), [(.inr (.inr (.inl (44, 44)))), (.inl (0, 23, 3, 0)), (.inr (.inr (.inr 0)))], [(.inl (0, 23, 3, 2)), (.inr (.inr (.inr 9)))]),
  (25, [(.inl 1), (.inr (24, 1)), (.inl 41)], (0, 0), [(.inr (.inr (.inl (44, 44)))), (.inl (0, 23, 3, 0)), (.inr (.inr (.inr 0)))], [(.inr (.inr (.inr 6)))]),
  (28, [(.inl 1), (.inr (24, 1)), (.inl 40)], (0, 0), [(.inr (.inr (.inl (44, 44)))), (.inl (0, 23, 3, 0)), (.inr (.inr (.inr 0)))], [(.inr (.inr (.inr 6)))]),
  (29, [(.inl 1), (.inr (24, 1)), (.inl 39)], (0, 0), [(.inr (.inr (.inl (44, 44)))), (.inl (0, 23, 3, 0)), (.inr (.inr (.inr 6)))], []),
  (30, [(.inl 1), (.inr (24, 1)), (.inl 38)], (0, 0), [(.inr (.inr (.inl (44, 44)))), (.inl (0, 23, 3, 0)), (.inr (.inr (.inr 6)))], [(.inr (.inr (.inl (44, 44))))]),
  (33, [(.inl 1), (.inr (24, 1)), (.inl 37)], (0, 0), [(.inr (.inr (.inl (44, 44)))), (.inl (0, 23, 3, 0)), (.inr (.inr (.inr 6)))], [(.inl (0, 2000, 0, 0))]),
  (34, [(.inl 1), (.inr (24, 1)), (.inl 36)], (0, 0), [(.inr (.inr (.inl (44, 44)))), (.inl (0, 23, 3, 0)), (.inr (.inr (.inr 6)))], [(.inr (.inr (.inl (44, 44)))), (.inl (0, 2000, 0, 0))]),
  (37, [(.inl 1), (.inr (24, 1)), (.inl 35)], (0, 0), [(.inr (.inr (.inl (44, 44)))), (.inl (0, 23, 3, 0)), (.inr (.inr (.inr 6)))], [(.inr (.inr (.inl (68, 68)))), (.inl (0, 2000, 0, 0))]),
  (38, [(.inl 1), (.inr (24, 1)), (.inl 34)], (0, 0), [(.inr (.inr (.inl (44, 44)))), (.inl (0, 23, 3, 0)), (.inr (.inr (.inr 6)))], [(.inr (.inr (.inr 6))), (.inr (.inr (.inl (68, 68)))), (.inl (0, 2000, 0, 0))]),
  (39, [(.inl 1), (.inr (24, 1)), (.inl 33)], (0, 0), [(.inr (.inr (.inl (44, 44)))), (.inl (0, 23, 3, 0)), (.inr (.inr (.inr 6)))], [(.inl (0, 0, 0, 0)), (.inr (.inr (.inr 6))), (.inr (.inr (.inl (68, 68)))), (.inl (0, 2000, 0, 0))]),
  (40, [(.inl 1), (.inr (24, 1)), (.inl 32)], (0, 0), [(.inr (.inr (.inl (44, 44)))), (.inl (0, 23, 3, 0)), (.inr (.inr (.inr 6)))], [(.inl (0, 19, 0, 0)), (.inr (.inr (.inl (68, 68)))), (.inl (0, 2000, 0, 0))]),
  (41, [(.inl 1), (.inr (24, 1)), (.inl 31)], (0, 0), [(.inr (.inr (.inl (44, 44)))), (.inl (0, 23, 3, 0)), (.inr (.inr (.inr 6)))], [zIA, (.inl (0, 2000, 0, 0))]),
  (42, [(.inl 1), (.inr (24, 1)), (.inl 30)], (0, 0), [(.inr (.inr (.inl (44, 44)))), (.inl (0, 23, 3, 0)), (.inr (.inr (.inr 6)))], [zIA]),
  (43, [(.inl 1), (.inr (24, 1)), (.inl 29)], (0, 0), [(.inr (.inr (.inl (44, 44)))), (.inl (0, 23, 3, 0)), (.inr (.inr (.inr 6)))], [(.inr (.inr (.inr 6))), zIA]),
  (44, [(.inl 1), (.inr (24, 1)), (.inl 28)], (0, 0), [(.inr (.inr (.inl (44, 44)))), (.inl (0, 23, 3, 0)), (.inr (.inr (.inr 6)))], [(.inl (3, 3, 0, 0)), (.inr (.inr (.inr 6))), zIA]),
  (45, [(.inl 1), (.inr (24, 1)), (.inl 27)], (0, 0), [(.inr (.inr (.inl (44, 44)))), (.inl (0, 23, 3, 0)), (.inr (.inr (.inr 6)))], [zIA, zIA]),
  (48, [(.inl 1), (.inr (24, 1)), (.inl 26)], (0, 0), [(.inr (.inr (.inl (44, 44)))), (.inl (0, 23, 3, 0)), (.inr (.inr (.inr 6)))], []),
  (49, [(.inl 1), (.inr (24, 1)), (.inl 25)], (0, 0), [(.inr (.inr (.inl (44, 44)))), (.inl (0, 23, 3, 0)), (.inr (.inr (.inr 6)))], [(.inr (.inr (.inl (44, 44))))]),
  (50, [(.inl 1), (.inr (24, 1)), (.inl 24)], (0, 0), [(.inr (.inr (.inl (44, 44)))), (.inl (0, 23, 3, 0)), (.inr (.inr (.inr 6)))], [(.inr (.inr (.inr 6))), (.inr (.inr (.inl (44, 44))))]),
  (51, [(.inl 1), (.inr (24, 1)), (.inl 23)], (0, 0), [(.inr (.inr (.inl (44, 44)))), (.inl (0, 23, 3, 0)), (.inr (.inr (.inr 6)))], [(.inl (0, 0, 0, 0)), (.inr (.inr (.inr 6))), (.inr (.inr (.inl (44, 44))))]),
  (52, [(.inl 1), (.inr (24, 1)), (.inl 22)], (0, 0), [(.inr (.inr (.inl (44, 44)))), (.inl (0, 23, 3, 0)), (.inr (.inr (.inr 6)))], [(.inl (0, 19, 0, 0)), (.inr (.inr (.inl (44, 44))))]),
  (53, [(.inl 1), (.inr (24, 1)), (.inl 21)], (0, 0), [(.inr (.inr (.inl (44, 44)))), (.inl (0, 23, 3, 0)), (.inr (.inr (.inr 6)))], [(.inr (.inr (.inr 6))), (.inl (0, 19, 0, 0)), (.inr (.inr (.inl (44, 44))))]),
  (54, [(.inl 1), (.inr (24, 1)), (.inl 20)], (0, 0), [(.inr (.inr (.inl (44, 44)))), (.inl (0, 23, 3, 0)), (.inr (.inr (.inr 6)))], [(.inl (1, 1, 0, 0)), (.inr (.inr (.inr 6))), (.inl (0, 19, 0, 0)), (.inr (.inr (.inl (44, 44))))]),
  (55, [(.inl 1), (.inr (24, 1)), (.inl 19)], (0, 0), [(.inr (.inr (.inl (44, 44)))), (.inl (0, 23, 3, 0)), (.inr (.inr (.inr 6)))], [(.inl (0, 7, 0, 0)), (.inl (0, 19, 0, 0)), (.inr (.inr (.inl (44, 44))))]),
  (56, [(.inl 1), (.inr (24, 1)), (.inl 18)], (0, 0), [(.inr (.inr (.inl (44, 44)))), (.inl (0, 23, 3, 0)), (.inr (.inr (.inr 6)))], [(.inr (.inr (.inl (44, 44)))), (.inl (0, 7, 0, 0)), (.inl (0, 19, 0, 0)), (.inr (.inr (.inl (44, 44))))]),
  (59, [(.inl 1), (.inr (24, 1)), (.inl 17)], (0, 0), [(.inr (.inr (.inl (44, 44)))), (.inl (0, 23, 3, 0)), (.inr (.inr (.inr 6)))], [(.inr (.inr (.inl (46, 46)))), (.inl (0, 7, 0, 0)), (.inl (0, 19, 0, 0)), (.inr (.inr (.inl (44, 44))))]),
  (60, [(.inl 1), (.inr (24, 1)), (.inl 16)], (0, 0), [(.inr (.inr (.inl (44, 44)))), (.inl (0, 23, 3, 0)), (.inr (.inr (.inr 6)))], [(.inr (.inr (.inr 6))), (.inr (.inr (.inl (46, 46)))), (.inl (0, 7, 0, 0)), (.inl (0, 19, 0, 0)), (.inr (.inr (.inl (44, 44))))]),
  (61, [(.inl 1), (.inr (24, 1)), (.inl 15)], (0, 0), [(.inr (.inr (.inl (44, 44)))), (.inl (0, 23, 3, 0)), (.inr (.inr (.inr 6)))], [(.inl (0, 0, 0, 0)), (.inr (.inr (.inr 6))), (.inr (.inr (.inl (46, 46)))), (.inl (0, 7, 0, 0)), (.inl (0, 19, 0, 0)), (.inr (.inr (.inl (44, 44))))]),
  (62, [(.inl 1), (.inr (24, 1)), (.inl 14)], (0, 0), [(.inr (.inr (.inl (44, 44)))), (.inl (0, 23, 3, 0)), (.inr (.inr (.inr 6)))], [(.inl (0, 19, 0, 0)), (.inr (.inr (.inl (46, 46)))), (.inl (0, 7, 0, 0)), (.inl (0, 19, 0, 0)), (.inr (.inr (.inl (44, 44))))]),
  (63, [(.inl 1), (.inr (24, 1)), (.inl 13)], (0, 0), [(.inr (.inr (.inl (44, 44)))), (.inl (0, 23, 3, 0)), (.inr (.inr (.inr 6)))], [(.inr (.inr (.inl (47, 66)))), (.inl (0, 7, 0, 0)), (.inl (0, 19, 0, 0)), (.inr (.inr (.inl (44, 44))))]),
  (64, [(.inl 1), (.inr (24, 1)), (.inl 12)], (0, 0), [(.inr (.inr (.inl (44, 44)))), (.inl (0, 23, 3, 0)), (.inr (.inr (.inr 6)))], [(.inr (.inr (.inr 6))), (.inr (.inr (.inl (47, 66)))), (.inl (0, 7, 0, 0)), (.inl (0, 19, 0, 0)), (.inr (.inr (.inl (44, 44))))]),
  (65, [(.inl 1), (.inr (24, 1)), (.inl 11)], (0, 0), [(.inr (.inr (.inl (44, 44)))), (.inl (0, 23, 3, 0)), (.inr (.inr (.inr 6)))], [(.inl (1, 1, 0, 0)), (.inr (.inr (.inr 6))), (.inr (.inr (.inl (47, 66)))), (.inl (0, 7, 0, 0)), (.inl (0, 19, 0, 0)), (.inr (.inr (.inl (44, 44))))]),
  (66, [(.inl 1), (.inr (24, 1)), (.inl 10)], (0, 0), [(.inr (.inr (.inl (44, 44)))), (.inl (0, 23, 3, 0)), (.inr (.inr (.inr 6)))], [(.inl (0, 7, 0, 0)), (.inr (.inr (.inl (47, 66)))), (.inl (0, 7, 0, 0)), (.inl (0, 19, 0, 0)), (.inr (.inr (.inl (44, 44))))]),
  (67, [(.inl 1), (.inr (24, 1)), (.inl 9)], (0, 0), [(.inr (.inr (.inl (44, 44)))), (.inl (0, 23, 3, 0)), (.inr (.inr (.inr 6)))], [zIA, (.inl (0, 7, 0, 0)), (.inl (0, 19, 0, 0)), (.inr (.inr (.inl (44, 44))))]),
  (68, [(.inl 1), (.inr (24, 1)), (.inl 8)], (0, 0), [(.inr (.inr (.inl (44, 44)))), (.inl (0, 23, 3, 0)), (.inr (.inr (.inr 6)))], [(.inl (1, 1, 0, 0)), zIA, (.inl (0, 7, 0, 0)), (.inl (0, 19, 0, 0)), (.inr (.inr (.inl (44, 44))))]),
  (69, [(.inl 1), (.inr (24, 1)), (.inl 7)], (0, 0), [(.inr (.inr (.inl (44, 44)))), (.inl (0, 23, 3, 0)), (.inr (.inr (.inr 6)))], [(.inr (.inr (.inr 6))), (.inl (1, 1, 0, 0)), zIA, (.inl (0, 7, 0, 0)), (.inl (0, 19, 0, 0)), (.inr (.inr (.inl (44, 44))))]),
  (70, [(.inl 1), (.inr (24, 1)), (.inl 6)], (0, 0), [(.inr (.inr (.inl (44, 44)))), (.inl (0, 23, 3, 0)), (.inr (.inr (.inr 6)))], [(.inl (2, 2, 0, 0)), (.inr (.inr (.inr 6))), (.inl (1, 1, 0, 0)), zIA, (.inl (0, 7, 0, 0)), (.inl (0, 19, 0, 0)), (.inr (.inr (.inl (44, 44))))]),
  (71, [(.inl 1), (.inr (24, 1)), (.inl 5)], (0, 0), [(.inr (.inr (.inl (44, 44)))), (.inl (0, 23, 3, 0)), (.inr (.inr (.inr 6)))], [zIA, (.inl (1, 1, 0, 0)), zIA, (.inl (0, 7, 0, 0)), (.inl (0, 19, 0, 0)), (.inr (.inr (.inl (44, 44))))]),
  (72, [(.inl 1), (.inr (24, 1)), (.inl 4)], (0, 0), [(.inr (.inr (.inl (44, 44)))), (.inl (0, 23, 3, 0)), (.inr (.inr (.inr 6)))], [zIA, zIA, (.inl (0, 7, 0, 0)), (.inl (0, 19, 0, 0)), (.inr (.inr (.inl (44, 44))))]),
  (73, [(.inl 1), (.inr (24, 1)), (.inl 3)], (0, 0), [(.inr (.inr (.inl (44, 44)))), (.inl (0, 23, 3, 0)), (.inr (.inr (.inr 6)))], [(.inl ((-1), (-1), 0, 0)), zIA, zIA, (.inl (0, 7, 0, 0)), (.inl (0, 19, 0, 0)), (.inr (.inr (.inl (44, 44))))]),
  (74, [(.inl 1), (.inr (24, 1)), (.inl 2)], (0, 0), [(.inr (.inr (.inl (44, 44)))), (.inl (0, 23, 3, 0)), (.inr (.inr (.inr 6)))], [zIA, zIA, (.inl (0, 7, 0, 0)), (.inl (0, 19, 0, 0)), (.inr (.inr (.inl (44, 44))))]),
  (75, [(.inl 1), (.inr (24, 1)), (.inl 1)], (0, 0), [(.inr (.inr (.inl (44, 44)))), (.inl (0, 23, 3, 0)), (.inr (.inr (.inr 6)))], [zIA, (.inl (0, 7, 0, 0)), (.inl (0, 19, 0, 0)), (.inr (.inr (.inl (44, 44))))]),
  (78, [(.inl 1), (.inr (24, 1)), (.inl 0)], (0, 0), [(.inr (.inr (.inl (44, 44)))), (.inl (0, 23, 3, 0)), (.inr (.inr (.inr 6)))], []),
  (81, [(.inl 1), (.inr (24, 1)), (.inl 51)], (0, 0), [(.inr (.inr (.inl (44, 44)))), (.inl (1, 24, 0, 0)), (.inr (.inr (.inr 6)))], []),
  (84, [(.inl 0), (.inl 0), (.inl 0)], (0, 0), [(.inr (.inr (.inl (44, 44)))), (.inl (0, 24, 0, 0)), (.inr (.inr (.inr 0)))], [])]
theorem g_135 {xs : List Int32} : zGd xs ct_135 := zmeth (cs := [ct_126, ct_239b, ct_243b]) ct_135 ce_135 (List.forall_mem_cons.mpr ⟨g_126, List.forall_mem_cons.mpr ⟨g_239b, List.forall_mem_cons.mpr ⟨g_243b, fun _ h => absurd h List.not_mem_nil⟩⟩⟩) (by decide +kernel)
def ct_142 : zCt := (142, [(.inr (.inr (.inl (44, 44)))), zIA, zIA], some zIA, 6, 0, 0)
def ce_142 : List zCe := [(0, [(.inl 35)], (0, 0), [(.inr (.inr (.inl (44, 44)))), zIA, zIA], []),
  (1, [(.inl 34)], (0, 0), [(.inr (.inr (.inl (44, 44)))), zIA, zIA], [(.inr (.inr (.inl (44, 44))))]),
  (2, [(.inl 33)], (0, 0), [(.inr (.inr (.inl (44, 44)))), zIA, zIA], [(.inl (0, 0, 0, 0)), (.inr (.inr (.inl (44, 44))))]),
  (5, [(.inl 32)], (0, 0), [(.inr (.inr (.inl (44, 44)))), zIA, zIA], []),
  (6, [(.inl 31)], (0, 0), [(.inr (.inr (.inl (44, 44)))), zIA, zIA], [(.inl ((-2147483648), 2147483647, 0, 2))]),
  (9, [(.inl 30)], (0, 0), [(.inr (.inr (.inl (44, 44)))), zIA, zIA], [(.inr (.inl (1, 0, 127, 0)))]),
  (12, [(.inl 29)], (0, 0), [(.inr (.inr (.inl (44, 44)))), zIA, zIA], []),
  (13, [(.inl 28)], (0, 0), [(.inr (.inr (.inl (44, 44)))), zIA, zIA], [(.inr (.inr (.inl (44, 44))))]),
  (14, [(.inl 27)], (0, 0), [(.inr (.inr (.inl (44, 44)))), zIA, zIA], [(.inl (1, 1, 0, 0)), (.inr (.inr (.inl (44, 44))))]),
  (17, [(.inl 26)], (0, 0), [(.inr (.inr (.inl (44, 44)))), zIA, zIA], [(.inl (0, 0, 0, 0))]),
  (18, [(.inl 25)], (0, 0), [(.inr (.inr (.inl (44, 44)))), (.inl (0, 127, 0, 0)), zIA], []),
  (19, [(.inl 24)], (0, 0), [(.inr (.inr (.inl (44, 44)))), (.inl (0, 127, 0, 0)), zIA], [(.inl ((-2147483648), 2147483647, 0, 3))]),
  (20, [(.inl 23)], (0, 0), [(.inr (.inr (.inl (44, 44)))), (.inl (0, 127, 0, 0)), zIA], [(.inl (1, 1, 0, 0)), (.inl ((-2147483648), 2147483647, 0, 3))]),
  (21, [(.inl 22)], (0, 0), [(.inr (.inr (.inl (44, 44)))), (.inl (0, 127, 0, 0)), zIA], [(.inl (1, 1, 0, 0)), (.inl (1, 1, 0, 0)), (.inl ((-2147483648), 2147483647, 0, 3))]),
  (22, [(.inl 21)], (0, 0), [(.inr (.inr (.inl (44, 44)))), (.inl (0, 127, 0, 0)), zIA], [(.inr (.inr (.inl (44, 44)))), (.inl (1, 1, 0, 0)), (.inl (1, 1, 0, 0)), (.inl ((-2147483648), 2147483647, 0, 3))]),
  (25, [(.inl 20)], (0, 0), [(.inr (.inr (.inl (44, 44)))), (.inl (0, 127, 0, 0)), zIA], [(.inl (8, 16, 8, 0)), (.inl (1, 1, 0, 0)), (.inl (1, 1, 0, 0)), (.inl ((-2147483648), 2147483647, 0, 3))]),
  (26, [(.inl 19)], (0, 0), [(.inr (.inr (.inl (44, 44)))), (.inl (0, 127, 0, 0)), zIA], [zIA, (.inl (1, 1, 0, 0)), (.inl ((-2147483648), 2147483647, 0, 3))]),
  (27, [(.inl 18)], (0, 0), [(.inr (.inr (.inl (44, 44)))), (.inl (0, 127, 0, 0)), zIA], [(.inl (1, 1, 0, 0)), zIA, (.inl (1, 1, 0, 0)), (.inl ((-2147483648), 2147483647, 0, 3))]),
  (28, [(.inl 17)], (0, 0), [(.inr (.inr (.inl (44, 44)))), (.inl (0, 127, 0, 0)), zIA], [zIA, (.inl (1, 1, 0, 0)), (.inl ((-2147483648), 2147483647, 0, 3))]),
  (31, [(.inl 16)], (0, 0), [(.inr (.inr (.inl (44, 44)))), (.inl (0, 127, 0, 0)), zIA], [(.inr (.inl (2, 1, 2147483647, 0)))]),
  (34, [(.inl 15)], (0, 0), [(.inr (.inr (.inl (44, 44)))), (.inl (0, 127, 0, 0)), zIA], []),
  (35, [(.inl 14)], (0, 0), [(.inr (.inr (.inl (44, 44)))), (.inl (0, 127, 0, 0)), zIA], [(.inr (.inr (.inl (44, 44))))]),
  (36, [(.inl 13)], (0, 0), [(.inr (.inr (.inl (44, 44)))), (.inl (0, 127, 0, 0)), zIA], [(.inl (2, 2, 0, 0)), (.inr (.inr (.inl (44, 44))))]),
  (39, [(.inl 12)], (0, 0), [(.inr (.inr (.inl (44, 44)))), (.inl (0, 127, 0, 0)), zIA], [(.inl (0, 0, 0, 0))]),
  (40, [(.inl 11)], (0, 0), [(.inr (.inr (.inl (44, 44)))), (.inl (0, 127, 0, 0)), (.inl (1, 2147483647, 0, 0))], []),
  (41, [(.inl 10)], (0, 0), [(.inr (.inr (.inl (44, 44)))), (.inl (0, 127, 0, 0)), (.inl (1, 2147483647, 0, 0))], [(.inr (.inr (.inl (44, 44))))]),
  (42, [(.inl 9)], (0, 0), [(.inr (.inr (.inl (44, 44)))), (.inl (0, 127, 0, 0)), (.inl (1, 2147483647, 0, 0))], [(.inl (0, 127, 0, 2)), (.inr (.inr (.inl (44, 44))))]),
  (43, [(.inl 8)], (0, 0), [(.inr (.inr (.inl (44, 44)))), (.inl (0, 127, 0, 0)), (.inl (1, 2147483647, 0, 0))], [(.inr (.inr (.inl (44, 44)))), (.inl (0, 127, 0, 2)), (.inr (.inr (.inl (44, 44))))]),
  (44, [(.inl 7)], (0, 0), [(.inr (.inr (.inl (44, 44)))), (.inl (0, 127, 0, 0)), (.inl (1, 2147483647, 0, 0))], [(.inl (0, 127, 0, 2)), (.inr (.inr (.inl (44, 44)))), (.inl (0, 127, 0, 2)), (.inr (.inr (.inl (44, 44))))]),
  (47, [(.inl 6)], (0, 0), [(.inr (.inr (.inl (44, 44)))), (.inl (0, 127, 0, 0)), (.inl (1, 2147483647, 0, 0))], [zIA, (.inl (0, 127, 0, 2)), (.inr (.inr (.inl (44, 44))))]),
  (48, [(.inl 5)], (0, 0), [(.inr (.inr (.inl (44, 44)))), (.inl (0, 127, 0, 0)), (.inl (1, 2147483647, 0, 0))], [(.inl (1, 2147483647, 0, 3)), zIA, (.inl (0, 127, 0, 2)), (.inr (.inr (.inl (44, 44))))]),
  (49, [(.inl 4)], (0, 0), [(.inr (.inr (.inl (44, 44)))), (.inl (0, 127, 0, 0)), (.inl (1, 2147483647, 0, 0))], [zIA, (.inl (0, 127, 0, 2)), (.inr (.inr (.inl (44, 44))))]),
  (52, [(.inl 3)], (0, 0), [(.inr (.inr (.inl (44, 44)))), (.inl (0, 127, 0, 0)), (.inl (1, 2147483647, 0, 0))], []),
  (53, [(.inl 2)], (0, 0), [(.inr (.inr (.inl (44, 44)))), (.inl (0, 127, 0, 0)), (.inl (1, 2147483647, 0, 0))], [(.inr (.inr (.inl (44, 44))))]),
  (54, [(.inl 1)], (0, 0), [(.inr (.inr (.inl (44, 44)))), (.inl (0, 127, 0, 0)), (.inl (1, 2147483647, 0, 0))], [(.inl (0, 127, 0, 2)), (.inr (.inr (.inl (44, 44))))]),
  (57, [(.inl 0)], (0, 0), [(.inr (.inr (.inl (44, 44)))), (.inl (0, 127, 0, 0)), (.inl (1, 2147483647, 0, 0))], [zIA])]
theorem g_142 {xs : List Int32} : zGd xs ct_142 := zmeth (cs := [ct_111, ct_117, ct_125, ct_127, ct_138]) ct_142 ce_142 (List.forall_mem_cons.mpr ⟨g_111, List.forall_mem_cons.mpr ⟨g_117, List.forall_mem_cons.mpr ⟨g_125, List.forall_mem_cons.mpr ⟨g_127, List.forall_mem_cons.mpr ⟨g_138, fun _ h => absurd h List.not_mem_nil⟩⟩⟩⟩⟩) (by decide +kernel)
def ct_146 : zCt := (146, [(.inr (.inr (.inl (44, 44)))), zIA, zIA, zIA, (.inl (0, 1, 0, 0)), (.inl (0, 1, 0, 0))], some zIA, 3, 0, 0)
def ce_146 : List zCe := [(0, [(.inl 41)], (0, 0), [(.inr (.inr (.inl (44, 44)))), zIA, zIA, zIA, (.inl (0, 1, 0, 0)), (.inl (0, 1, 0, 0)), (.inr (.inr (.inr 0)))], []),
  (1, [(.inl 40)], (0, 0), [(.inr (.inr (.inl (44, 44)))), zIA, zIA, zIA, (.inl (0, 1, 0, 0)), (.inl (0, 1, 0, 0)), (.inr (.inr (.inr 0)))], [(.inr (.inr (.inl (44, 44))))]),
  (2, [(.inl 39)], (0, 0), [(.inr (.inr (.inl (44, 44)))), zIA, zIA, zIA, (.inl (0, 1, 0, 0)), (.inl (0, 1, 0, 0)), (.inr (.inr (.inr 0)))], [(.inl (0, 0, 0, 0)), (.inr (.inr (.inl (44, 44))))]),
  (5, [(.inl 38)], (0, 0), [(.inr (.inr (.inl (44, 44)))), zIA, zIA, zIA, (.inl (0, 1, 0, 0)), (.inl (0, 1, 0, 0)), (.inr (.inr (.inr 0)))], []),
  (6, [(.inl 37)], (0, 0), [(.inr (.inr (.inl (44, 44)))), zIA, zIA, zIA, (.inl (0, 1, 0, 0)), (.inl (0, 1, 0, 0)), (.inr (.inr (.inr 0)))], [(.inl ((-2147483648), 2147483647, 0, 2))]),
  (7, [(.inl 36)], (0, 0), [(.inr (.inr (.inl (44, 44)))), zIA, zIA, zIA, (.inl (0, 1, 0, 0)), (.inl (0, 1, 0, 0)), (.inr (.inr (.inr 0)))], [(.inl (1, 1, 0, 0)), (.inl ((-2147483648), 2147483647, 0, 2))]),
  (9, [(.inl 35)], (0, 0), [(.inr (.inr (.inl (44, 44)))), zIA, zIA, zIA, (.inl (0, 1, 0, 0)), (.inl (0, 1, 0, 0)), (.inr (.inr (.inr 0)))], [(.inl (100, 100, 0, 0)), (.inl (1, 1, 0, 0)), (.inl ((-2147483648), 2147483647, 0, 2))]),
  (12, [(.inl 34)], (0, 0), [(.inr (.inr (.inl (44, 44)))), zIA, zIA, zIA, (.inl (0, 1, 0, 0)), (.inl (0, 1, 0, 0)), (.inr (.inr (.inr 0)))], [(.inr (.inl (1, 1, 100, 0)))]),
  (15, [(.inl 33)], (0, 0), [(.inr (.inr (.inl (44, 44)))), (.inl (1, 100, 0, 0)), zIA, zIA, (.inl (0, 1, 0, 0)), (.inl (0, 1, 0, 0)), (.inr (.inr (.inr 0)))], []),
  (16, [(.inl 32)], (0, 0), [(.inr (.inr (.inl (44, 44)))), (.inl (1, 100, 0, 0)), zIA, zIA, (.inl (0, 1, 0, 0)), (.inl (0, 1, 0, 0)), (.inr (.inr (.inr 0)))], [(.inl ((-2147483648), 2147483647, 0, 3))]),
  (17, [(.inl 31)], (0, 0), [(.inr (.inr (.inl (44, 44)))), (.inl (1, 100, 0, 0)), zIA, zIA, (.inl (0, 1, 0, 0)), (.inl (0, 1, 0, 0)), (.inr (.inr (.inr 0)))], [(.inl (2, 2, 0, 0)), (.inl ((-2147483648), 2147483647, 0, 3))]),
  (19, [(.inl 30)], (0, 0), [(.inr (.inr (.inl (44, 44)))), (.inl (1, 100, 0, 0)), zIA, zIA, (.inl (0, 1, 0, 0)), (.inl (0, 1, 0, 0)), (.inr (.inr (.inr 0)))], [(.inl (100, 100, 0, 0)), (.inl (2, 2, 0, 0)), (.inl ((-2147483648), 2147483647, 0, 3))]),
  (22, [(.inl 29)], (0, 0), [(.inr (.inr (.inl (44, 44)))), (.inl (1, 100, 0, 0)), zIA, zIA, (.inl (0, 1, 0, 0)), (.inl (0, 1, 0, 0)), (.inr (.inr (.inr 0)))], [(.inr (.inl (2, 2, 100, 0)))]),
  (25, [(.inl 28)], (0, 0), [(.inr (.inr (.inl (44, 44)))), (.inl (1, 100, 0, 0)), (.inl (2, 100, 0, 0)), zIA, (.inl (0, 1, 0, 0)), (.inl (0, 1, 0, 0)), (.inr (.inr (.inr 0)))], []),
  (26, [(.inl 27)], (0, 0), [(.inr (.inr (.inl (44, 44)))), (.inl (1, 100, 0, 0)), (.inl (2, 100, 0, 0)), zIA, (.inl (0, 1, 0, 0)), (.inl (0, 1, 0, 0)), (.inr (.inr (.inr 0)))], [(.inl ((-2147483648), 2147483647, 0, 4))]),
  (27, [(.inl 26)], (0, 0), [(.inr (.inr (.inl (44, 44)))), (.inl (1, 100, 0, 0)), (.inl (2, 100, 0, 0)), zIA, (.inl (0, 1, 0, 0)), (.inl (0, 1, 0, 0)), (.inr (.inr (.inr 0)))], [(.inl (0, 0, 0, 0)), (.inl ((-2147483648), 2147483647, 0, 4))]),
  (29, [(.inl 25)], (0, 0), [(.inr (.inr (.inl (44, 44)))), (.inl (1, 100, 0, 0)), (.inl (2, 100, 0, 0)), zIA, (.inl (0, 1, 0, 0)), (.inl (0, 1, 0, 0)), (.inr (.inr (.inr 0)))], [(.inl (8, 8, 0, 0)), (.inl (0, 0, 0, 0)), (.inl ((-2147483648), 2147483647, 0, 4))]),
  (32, [(.inl 24)], (0, 0), [(.inr (.inr (.inl (44, 44)))), (.inl (1, 100, 0, 0)), (.inl (2, 100, 0, 0)), zIA, (.inl (0, 1, 0, 0)), (.inl (0, 1, 0, 0)), (.inr (.inr (.inr 0)))], [(.inr (.inl (3, 0, 8, 0)))]),
  (35, [(.inl 3)], (0, 0), [(.inr (.inr (.inl (44, 44)))), zIA, zIA, zIA, (.inl (0, 1, 0, 0)), (.inl (0, 1, 0, 0)), (.inr (.inr (.inr 0)))], []),
  (36, [(.inl 2)], (0, 0), [(.inr (.inr (.inl (44, 44)))), zIA, zIA, zIA, (.inl (0, 1, 0, 0)), (.inl (0, 1, 0, 0)), (.inr (.inr (.inr 0)))], [(.inr (.inr (.inl (44, 44))))]),
  (37, [(.inl 1)], (0, 0), [(.inr (.inr (.inl (44, 44)))), zIA, zIA, zIA, (.inl (0, 1, 0, 0)), (.inl (0, 1, 0, 0)), (.inr (.inr (.inr 0)))], [(.inl (1, 1, 0, 0)), (.inr (.inr (.inl (44, 44))))]),
  (40, [(.inl 0)], (0, 0), [(.inr (.inr (.inl (44, 44)))), zIA, zIA, zIA, (.inl (0, 1, 0, 0)), (.inl (0, 1, 0, 0)), (.inr (.inr (.inr 0)))], [(.inl (0, 0, 0, 0))]),
  (41, [(.inl 23)], (0, 0), [(.inr (.inr (.inl (44, 44)))), (.inl (1, 100, 0, 0)), (.inl (2, 100, 0, 0)), (.inl (0, 8, 0, 0)), (.inl (0, 1, 0, 0)), (.inl (0, 1, 0, 0)), (.inr (.inr (.inr 0)))], []),
  (42, [(.inl 22)], (0, 0), [(.inr (.inr (.inl (44, 44)))), (.inl (1, 100, 0, 0)), (.inl (2, 100, 0, 0)), (.inl (0, 8, 0, 0)), (.inl (0, 1, 0, 0)), (.inl (0, 1, 0, 0)), (.inr (.inr (.inr 0)))], [(.inr (.inr (.inl (44, 44))))]),
  (45, [(.inl 21)], (0, 0), [(.inr (.inr (.inl (44, 44)))), (.inl (1, 100, 0, 0)), (.inl (2, 100, 0, 0)), (.inl (0, 8, 0, 0)), (.inl (0, 1, 0, 0)), (.inl (0, 1, 0, 0)), (.inr (.inr (.inr 0)))], [(.inl (0, 8, 0, 0))]),
  (47, [(.inl 20)], (0, 0), [(.inr (.inr (.inl (44, 44)))), (.inl (1, 100, 0, 0)), (.inl (2, 100, 0, 0)), (.inl (0, 8, 0, 0)), (.inl (0, 1, 0, 0)), (.inl (0, 1, 0, 0)), (.inl (0, 8, 0, 0))], []),
  (48, [(.inl 19)], (0, 0), [(.inr (.inr (.inl (44, 44)))), (.inl (1, 100, 0, 0)), (.inl (2, 100, 0, 0)), (.inl (0, 8, 0, 0)), (.inl (0, 1, 0, 0)), (.inl (0, 1, 0, 0)), (.inl (0, 8, 0, 0))], [(.inr (.inr (.inl (44, 44))))]),
  (49, [(.inl 18)], (0, 0), [(.inr (.inr (.inl (44, 44)))), (.inl (1, 100, 0, 0)), (.inl (2, 100, 0, 0)), (.inl (0, 8, 0, 0)), (.inl (0, 1, 0, 0)), (.inl (0, 1, 0, 0)), (.inl (0, 8, 0, 0))], [(.inl (1, 100, 0, 2)), (.inr (.inr (.inl (44, 44))))]),
  (52, [(.inl 17)], (0, 0), [(.inr (.inr (.inl (44, 44)))), (.inl (1, 100, 0, 0)), (.inl (2, 100, 0, 0)), (.inl (0, 8, 0, 0)), (.inl (0, 1, 0, 0)), (.inl (0, 1, 0, 0)), (.inl (0, 8, 0, 0))], []),
  (53, [(.inl 16)], (0, 0), [(.inr (.inr (.inl (44, 44)))), (.inl (1, 100, 0, 0)), (.inl (2, 100, 0, 0)), (.inl (0, 8, 0, 0)), (.inl (0, 1, 0, 0)), (.inl (0, 1, 0, 0)), (.inl (0, 8, 0, 0))], [(.inr (.inr (.inl (44, 44))))]),
  (54, [(.inl 15)], (0, 0), [(.inr (.inr (.inl (44, 44)))), (.inl (1, 100, 0, 0)), (.inl (2, 100, 0, 0)), (.inl (0, 8, 0, 0)), (.inl (0, 1, 0, 0)), (.inl (0, 1, 0, 0)), (.inl (0, 8, 0, 0))], [(.inl (2, 100, 0, 3)), (.inr (.inr (.inl (44, 44))))]),
  (57, [(.inl 14)], (0, 0), [(.inr (.inr (.inl (44, 44)))), (.inl (1, 100, 0, 0)), (.inl (2, 100, 0, 0)), (.inl (0, 8, 0, 0)), (.inl (0, 1, 0, 0)), (.inl (0, 1, 0, 0)), (.inl (0, 8, 0, 0))], []),
  (58, [(.inl 13)], (0, 0), [(.inr (.inr (.inl (44, 44)))), (.inl (1, 100, 0, 0)), (.inl (2, 100, 0, 0)), (.inl (0, 8, 0, 0)), (.inl (0, 1, 0, 0)), (.inl (0, 1, 0, 0)), (.inl (0, 8, 0, 0))], [(.inr (.inr (.inl (44, 44))))]),
  (59, [(.inl 12)], (0, 0), [(.inr (.inr (.inl (44, 44)))), (.inl (1, 100, 0, 0)), (.inl (2, 100, 0, 0)), (.inl (0, 8, 0, 0)), (.inl (0, 1, 0, 0)), (.inl (0, 1, 0, 0)), (.inl (0, 8, 0, 0))], [(.inl (0, 8, 0, 4)), (.inr (.inr (.inl (44, 44))))]),
  (62, [(.inl 11)], (0, 0), [(.inr (.inr (.inl (44, 44)))), (.inl (1, 100, 0, 0)), (.inl (2, 100, 0, 0)), (.inl (0, 8, 0, 0)), (.inl (0, 1, 0, 0)), (.inl (0, 1, 0, 0)), (.inl (0, 8, 0, 0))], []),
  (63, [(.inl 10)], (0, 0), [(.inr (.inr (.inl (44, 44)))), (.inl (1, 100, 0, 0)), (.inl (2, 100, 0, 0)), (.inl (0, 8, 0, 0)), (.inl (0, 1, 0, 0)), (.inl (0, 1, 0, 0)), (.inl (0, 8, 0, 0))], [(.inr (.inr (.inl (44, 44))))]),
  (65, [(.inl 9)], (0, 0), [(.inr (.inr (.inl (44, 44)))), (.inl (1, 100, 0, 0)), (.inl (2, 100, 0, 0)), (.inl (0, 8, 0, 0)), (.inl (0, 1, 0, 0)), (.inl (0, 1, 0, 0)), (.inl (0, 8, 0, 0))], [(.inl (0, 1, 0, 5)), (.inr (.inr (.inl (44, 44))))]),
  (68, [(.inl 8)], (0, 0), [(.inr (.inr (.inl (44, 44)))), (.inl (1, 100, 0, 0)), (.inl (2, 100, 0, 0)), (.inl (0, 8, 0, 0)), (.inl (0, 1, 0, 0)), (.inl (0, 1, 0, 0)), (.inl (0, 8, 0, 0))], []),
  (69, [(.inl 7)], (0, 0), [(.inr (.inr (.inl (44, 44)))), (.inl (1, 100, 0, 0)), (.inl (2, 100, 0, 0)), (.inl (0, 8, 0, 0)), (.inl (0, 1, 0, 0)), (.inl (0, 1, 0, 0)), (.inl (0, 8, 0, 0))], [(.inr (.inr (.inl (44, 44))))]),
  (71, [(.inl 6)], (0, 0), [(.inr (.inr (.inl (44, 44)))), (.inl (1, 100, 0, 0)), (.inl (2, 100, 0, 0)), (.inl (0, 8, 0, 0)), (.inl (0, 1, 0, 0)), (.inl (0, 1, 0, 0)), (.inl (0, 8, 0, 0))], [(.inl (0, 1, 0, 6)), (.inr (.inr (.inl (44, 44))))]),
  (74, [(.inl 5)], (0, 0), [(.inr (.inr (.inl (44, 44)))), (.inl (1, 100, 0, 0)), (.inl (2, 100, 0, 0)), (.inl (0, 8, 0, 0)), (.inl (0, 1, 0, 0)), (.inl (0, 1, 0, 0)), (.inl (0, 8, 0, 0))], []),
  (76, [(.inl 4)], (0, 0), [(.inr (.inr (.inl (44, 44)))), (.inl (1, 100, 0, 0)), (.inl (2, 100, 0, 0)), (.inl (0, 8, 0, 0)), (.inl (0, 1, 0, 0)), (.inl (0, 1, 0, 0)), (.inl (0, 8, 0, 0))], [(.inl (0, 8, 0, 7))])]
theorem g_146 {xs : List Int32} : zGd xs ct_146 := zmeth (cs := [ct_111]) ct_146 ce_146 (List.forall_mem_cons.mpr ⟨g_111, fun _ h => absurd h List.not_mem_nil⟩) (by decide +kernel)
def ct_149 : zCt := (149, [(.inr (.inr (.inl (71, 72))))], some zIA, 2, 0, 0)
def ce_149 : List zCe := [(0, [(.inl 11), (.inl 0), (.inl 0)], (0, 0), [(.inr (.inr (.inl (71, 72)))), (.inr (.inr (.inr 0))), (.inr (.inr (.inr 0))), (.inr (.inr (.inr 0))), (.inr (.inr (.inr 0))), (.inr (.inr (.inr 0)))], []),
  (1, [(.inl 10), (.inl 0), (.inl 0)], (0, 0), [(.inr (.inr (.inl (71, 72)))), (.inr (.inr (.inr 0))), (.inr (.inr (.inr 0))), (.inr (.inr (.inr 0))), (.inr (.inr (.inr 0))), (.inr (.inr (.inr 0)))], [(.inl (0, 0, 0, 0))]),
  (2, [(.inl 9), (.inl 0), (.inl 0)], (0, 0), [(.inr (.inr (.inl (71, 72)))), (.inl (0, 0, 0, 0)), (.inr (.inr (.inr 0))), (.inr (.inr (.inr 0))), (.inr (.inr (.inr 0))), (.inr (.inr (.inr 0)))], []),
  (3, [(.inl 8), (.inl 0), (.inl 0)], (0, 0), [(.inr (.inr (.inl (71, 72)))), (.inl (0, 0, 0, 0)), (.inr (.inr (.inr 0))), (.inr (.inr (.inr 0))), (.inr (.inr (.inr 0))), (.inr (.inr (.inr 0)))], [(.inr (.inr (.inl (71, 72))))]),
  (4, [(.inl 7), (.inl 0), (.inl 0)], (0, 0), [(.inr (.inr (.inl (71, 72)))), (.inl (0, 0, 0, 0)), (.inr (.inr (.inl (71, 72)))), (.inr (.inr (.inr 0))), (.inr (.inr (.inr 0))), (.inr (.inr (.inr 0)))], []),
  (5, [(.inl 6), (.inl 0), (.inl 0)], (0, 0), [(.inr (.inr (.inl (71, 72)))), (.inl (0, 0, 0, 0)), (.inr (.inr (.inl (71, 72)))), (.inr (.inr (.inr 0))), (.inr (.inr (.inr 0))), (.inr (.inr (.inr 0)))], [(.inr (.inr (.inl (71, 72))))]),
  (6, [(.inl 5), (.inl 0), (.inl 0)], (0, 0), [(.inr (.inr (.inl (71, 72)))), (.inl (0, 0, 0, 0)), (.inr (.inr (.inl (71, 72)))), (.inr (.inr (.inr 0))), (.inr (.inr (.inr 0))), (.inr (.inr (.inr 0)))], [(.inl (128, 128, 0, 0))]),
  (7, [(.inl 4), (.inl 0), (.inl 0)], (0, 0), [(.inr (.inr (.inl (71, 72)))), (.inl (0, 0, 0, 0)), (.inr (.inr (.inl (71, 72)))), (.inl (128, 128, 0, 0)), (.inr (.inr (.inr 0))), (.inr (.inr (.inr 0)))], []),
  (8, [(.inl 3), (.inl 0), (.inl 0)], (0, 0), [(.inr (.inr (.inl (71, 72)))), (.inl (0, 0, 0, 0)), (.inr (.inr (.inl (71, 72)))), (.inl (128, 128, 0, 0)), (.inr (.inr (.inr 0))), (.inr (.inr (.inr 0)))], [(.inl (0, 0, 0, 0))]),
  (10, [(.inl 2), (.inr (128, 4)), (.inl 15)], (0, 0), [(.inr (.inr (.inl (71, 72)))), zIA, (.inr (.inr (.inl (71, 72)))), (.inl (128, 128, 0, 0)), (.inl (0, 128, 0, 0)), (.inr (.inr (.inr 0)))], []),
  (12, [(.inl 2), (.inr (128, 4)), (.inl 14)], (0, 0), [(.inr (.inr (.inl (71, 72)))), zIA, (.inr (.inr (.inl (71, 72)))), (.inl (128, 128, 0, 0)), (.inl (0, 128, 0, 0)), (.inr (.inr (.inr 0)))], [(.inl (0, 128, 0, 5))]),
  (13, [(.inl 2), (.inr (128, 4)), (.inl 13)], (0, 0), [(.inr (.inr (.inl (71, 72)))), zIA, (.inr (.inr (.inl (71, 72)))), (.inl (128, 128, 0, 0)), (.inl (0, 128, 0, 0)), (.inr (.inr (.inr 0)))], [(.inl (128, 128, 0, 4)), (.inl (0, 128, 0, 5))]),
  (16, [(.inl 2), (.inr (128, 4)), (.inl 12)], (0, 0), [(.inr (.inr (.inl (71, 72)))), zIA, (.inr (.inr (.inl (71, 72)))), (.inl (128, 128, 0, 0)), (.inl (0, 127, 0, 0)), (.inr (.inr (.inr 0)))], []),
  (17, [(.inl 2), (.inr (128, 4)), (.inl 11)], (0, 0), [(.inr (.inr (.inl (71, 72)))), zIA, (.inr (.inr (.inl (71, 72)))), (.inl (128, 128, 0, 0)), (.inl (0, 127, 0, 0)), (.inr (.inr (.inr 0)))], [(.inr (.inr (.inl (71, 72))))]),
  (19, [(.inl 2), (.inr (128, 4)), (.inl 10)], (0, 0), [(.inr (.inr (.inl (71, 72)))), zIA, (.inr (.inr (.inl (71, 72)))), (.inl (128, 128, 0, 0)), (.inl (0, 127, 0, 0)), (.inr (.inr (.inr 0)))], [(.inl (0, 127, 0, 5)), (.inr (.inr (.inl (71, 72))))]),
  (20, [(.inl 2), (.inr (128, 4)), (.inl 9)], (0, 0), [(.inr (.inr (.inl (71, 72)))), zIA, (.inr (.inr (.inl (71, 72)))), (.inl (128, 128, 0, 0)), (.inl (0, 127, 0, 0)), (.inr (.inr (.inr 0)))], [(.inl (0, 1, 0, 0))]),
  (22, [(.inl 2), (.inr (128, 4)), (.inl 8)], (0, 0), [(.inr (.inr (.inl (71, 72)))), zIA, (.inr (.inr (.inl (71, 72)))), (.inl (128, 128, 0, 0)), (.inl (0, 127, 0, 0)), (.inl (0, 1, 0, 0))], []),
  (23, [(.inl 2), (.inr (128, 4)), (.inl 7)], (0, 0), [(.inr (.inr (.inl (71, 72)))), zIA, (.inr (.inr (.inl (71, 72)))), (.inl (128, 128, 0, 0)), (.inl (0, 127, 0, 0)), (.inl (0, 1, 0, 0))], [(.inl ((-2147483648), 2147483647, 0, 2))]),
  (25, [(.inl 2), (.inr (128, 4)), (.inl 6)], (0, 0), [(.inr (.inr (.inl (71, 72)))), zIA, (.inr (.inr (.inl (71, 72)))), (.inl (128, 128, 0, 0)), (.inl (0, 127, 0, 0)), (.inl (0, 1, 0, 0))], [(.inl (0, 1, 0, 6)), (.inl ((-2147483648), 2147483647, 0, 2))]),
  (28, [(.inl 2), (.inr (128, 4)), (.inl 5)], (0, 0), [(.inr (.inr (.inl (71, 72)))), zIA, (.inr (.inr (.inl (71, 72)))), (.inl (128, 128, 0, 0)), (.inl (0, 127, 0, 0)), (.inl (1, 1, 0, 0))], [(.inl ((-2147483648), 2147483647, 0, 2))]),
  (29, [(.inl 2), (.inr (128, 4)), (.inl 4)], (0, 0), [(.inr (.inr (.inl (71, 72)))), zIA, (.inr (.inr (.inl (71, 72)))), (.inl (128, 128, 0, 0)), (.inl (0, 127, 0, 0)), (.inl (1, 1, 0, 0))], [(.inl (1, 1, 0, 0)), (.inl ((-2147483648), 2147483647, 0, 2))]),
  (32, [(.inl 2), (.inr (128, 4)), (.inl 3)], (0, 0), [(.inr (.inr (.inl (71, 72)))), zIA, (.inr (.inr (.inl (71, 72)))), (.inl (128, 128, 0, 0)), (.inl (0, 127, 0, 0)), (.inl (0, 0, 0, 0))], [(.inl ((-2147483648), 2147483647, 0, 2))]),
  (33, [(.inl 2), (.inr (128, 4)), (.inl 2)], (0, 0), [(.inr (.inr (.inl (71, 72)))), zIA, (.inr (.inr (.inl (71, 72)))), (.inl (128, 128, 0, 0)), (.inl (0, 127, 0, 0)), (.inl (0, 1, 0, 0))], [(.inl (0, 1, 0, 0)), (.inl ((-2147483648), 2147483647, 0, 2))]),
  (34, [(.inl 2), (.inr (128, 4)), (.inl 1)], (0, 0), [(.inr (.inr (.inl (71, 72)))), zIA, (.inr (.inr (.inl (71, 72)))), (.inl (128, 128, 0, 0)), (.inl (0, 127, 0, 0)), (.inl (0, 1, 0, 0))], [zIA]),
  (35, [(.inl 2), (.inr (128, 4)), (.inl 0)], (0, 0), [(.inr (.inr (.inl (71, 72)))), zIA, (.inr (.inr (.inl (71, 72)))), (.inl (128, 128, 0, 0)), (.inl (0, 127, 0, 0)), (.inl (0, 1, 0, 0))], []),
  (38, [(.inl 2), (.inr (128, 4)), (.inl 16)], (0, 0), [(.inr (.inr (.inl (71, 72)))), zIA, (.inr (.inr (.inl (71, 72)))), (.inl (128, 128, 0, 0)), (.inl (1, 128, 0, 0)), (.inl (0, 1, 0, 0))], []),
  (41, [(.inl 1), (.inl 0), (.inl 0)], (0, 0), [(.inr (.inr (.inl (71, 72)))), zIA, (.inr (.inr (.inl (71, 72)))), (.inl (128, 128, 0, 0)), (.inl (128, 128, 0, 0)), (.inr (.inr (.inr 0)))], []),
  (42, [(.inl 0), (.inl 0), (.inl 0)], (0, 0), [(.inr (.inr (.inl (71, 72)))), zIA, (.inr (.inr (.inl (71, 72)))), (.inl (128, 128, 0, 0)), (.inl (128, 128, 0, 0)), (.inr (.inr (.inr 0)))], [(.inl ((-2147483648), 2147483647, 0, 2))])]
theorem g_149 {xs : List Int32} : zGd xs ct_149 := zmeth (cs := []) ct_149 ce_149 (fun _ h => absurd h List.not_mem_nil) (by decide +kernel)
def ct_148 : zCt := (148, [(.inr (.inr (.inl (44, 44)))), zIA, (.inl (0, 1, 0, 0))], some zIA, 3, 0, 0)
def ce_148 : List zCe := [(0, [(.inl 18)], (0, 0), [(.inr (.inr (.inl (44, 44)))), zIA, (.inl (0, 1, 0, 0))], []),
  (1, [(.inl 17)], (0, 0), [(.inr (.inr (.inl (44, 44)))), zIA, (.inl (0, 1, 0, 0))], [(.inr (.inr (.inl (44, 44))))]),
  (2, [(.inl 16)], (0, 0), [(.inr (.inr (.inl (44, 44)))), zIA, (.inl (0, 1, 0, 0))], [(.inl (0, 0, 0, 0)), (.inr (.inr (.inl (44, 44))))]),
  (5, [(.inl 15)], (0, 0), [(.inr (.inr (.inl (44, 44)))), zIA, (.inl (0, 1, 0, 0))], []),
  (6, [(.inl 14)], (0, 0), [(.inr (.inr (.inl (44, 44)))), zIA, (.inl (0, 1, 0, 0))], [(.inl ((-2147483648), 2147483647, 0, 2))]),
  (9, [(.inl 13)], (0, 0), [(.inr (.inr (.inl (44, 44)))), zIA, (.inl (0, 1, 0, 0))], [(.inr (.inl (1, 0, 127, 0)))]),
  (12, [(.inl 12)], (0, 0), [(.inr (.inr (.inl (44, 44)))), zIA, (.inl (0, 1, 0, 0))], []),
  (13, [(.inl 11)], (0, 0), [(.inr (.inr (.inl (44, 44)))), zIA, (.inl (0, 1, 0, 0))], [(.inr (.inr (.inl (44, 44))))]),
  (14, [(.inl 10)], (0, 0), [(.inr (.inr (.inl (44, 44)))), zIA, (.inl (0, 1, 0, 0))], [(.inl (1, 1, 0, 0)), (.inr (.inr (.inl (44, 44))))]),
  (17, [(.inl 9)], (0, 0), [(.inr (.inr (.inl (44, 44)))), zIA, (.inl (0, 1, 0, 0))], [(.inl (0, 0, 0, 0))]),
  (18, [(.inl 8)], (0, 0), [(.inr (.inr (.inl (44, 44)))), (.inl (0, 127, 0, 0)), (.inl (0, 1, 0, 0))], []),
  (19, [(.inl 7)], (0, 0), [(.inr (.inr (.inl (44, 44)))), (.inl (0, 127, 0, 0)), (.inl (0, 1, 0, 0))], [(.inr (.inr (.inl (44, 44))))]),
  (22, [(.inl 6)], (0, 0), [(.inr (.inr (.inl (44, 44)))), (.inl (0, 127, 0, 0)), (.inl (0, 1, 0, 0))], [(.inr (.inr (.inl (72, 72))))]),
  (23, [(.inl 5)], (0, 0), [(.inr (.inr (.inl (44, 44)))), (.inl (0, 127, 0, 0)), (.inl (0, 1, 0, 0))], [(.inl (0, 127, 0, 2)), (.inr (.inr (.inl (72, 72))))]),
  (24, [(.inl 4)], (0, 0), [(.inr (.inr (.inl (44, 44)))), (.inl (0, 127, 0, 0)), (.inl (0, 1, 0, 0))], [(.inl (0, 1, 0, 3)), (.inl (0, 127, 0, 2)), (.inr (.inr (.inl (72, 72))))]),
  (25, [(.inl 3)], (0, 0), [(.inr (.inr (.inl (44, 44)))), (.inl (0, 127, 0, 0)), (.inl (0, 1, 0, 0))], []),
  (26, [(.inl 2)], (0, 0), [(.inr (.inr (.inl (44, 44)))), (.inl (0, 127, 0, 0)), (.inl (0, 1, 0, 0))], [(.inr (.inr (.inl (44, 44))))]),
  (29, [(.inl 1)], (0, 0), [(.inr (.inr (.inl (44, 44)))), (.inl (0, 127, 0, 0)), (.inl (0, 1, 0, 0))], [(.inr (.inr (.inl (72, 72))))]),
  (32, [(.inl 0)], (0, 0), [(.inr (.inr (.inl (44, 44)))), (.inl (0, 127, 0, 0)), (.inl (0, 1, 0, 0))], [zIA])]
theorem g_148 {xs : List Int32} : zGd xs ct_148 := zmeth (cs := [ct_111, ct_138, ct_149]) ct_148 ce_148 (List.forall_mem_cons.mpr ⟨g_111, List.forall_mem_cons.mpr ⟨g_138, List.forall_mem_cons.mpr ⟨g_149, fun _ h => absurd h List.not_mem_nil⟩⟩⟩) (by decide +kernel)
def ct_153 : zCt := (153, [(.inr (.inr (.inl (44, 44)))), zIA], some zIA, 3, 0, 0)
def ce_153 : List zCe := [(0, [(.inl 19)], (0, 0), [(.inr (.inr (.inl (44, 44)))), zIA], []),
  (1, [(.inl 18)], (0, 0), [(.inr (.inr (.inl (44, 44)))), zIA], [(.inr (.inr (.inl (44, 44))))]),
  (2, [(.inl 17)], (0, 0), [(.inr (.inr (.inl (44, 44)))), zIA], [(.inl (0, 0, 0, 0)), (.inr (.inr (.inl (44, 44))))]),
  (5, [(.inl 16)], (0, 0), [(.inr (.inr (.inl (44, 44)))), zIA], []),
  (6, [(.inl 15)], (0, 0), [(.inr (.inr (.inl (44, 44)))), zIA], [(.inl ((-2147483648), 2147483647, 0, 2))]),
  (7, [(.inl 14)], (0, 0), [(.inr (.inr (.inl (44, 44)))), zIA], [(.inl (0, 0, 0, 0)), (.inl ((-2147483648), 2147483647, 0, 2))]),
  (8, [(.inl 13)], (0, 0), [(.inr (.inr (.inl (44, 44)))), zIA], [(.inr (.inr (.inl (44, 44)))), (.inl (0, 0, 0, 0)), (.inl ((-2147483648), 2147483647, 0, 2))]),
  (11, [(.inl 12)], (0, 0), [(.inr (.inr (.inl (44, 44)))), zIA], [(.inl (8, 16, 8, 0)), (.inl (0, 0, 0, 0)), (.inl ((-2147483648), 2147483647, 0, 2))]),
  (12, [(.inl 11)], (0, 0), [(.inr (.inr (.inl (44, 44)))), zIA], [(.inl (1, 1, 0, 0)), (.inl (8, 16, 8, 0)), (.inl (0, 0, 0, 0)), (.inl ((-2147483648), 2147483647, 0, 2))]),
  (13, [(.inl 10)], (0, 0), [(.inr (.inr (.inl (44, 44)))), zIA], [(.inl (7, 15, 7, 0)), (.inl (0, 0, 0, 0)), (.inl ((-2147483648), 2147483647, 0, 2))]),
  (16, [(.inl 9)], (0, 0), [(.inr (.inr (.inl (44, 44)))), zIA], [(.inr (.inl (1, 0, 15, 7)))]),
  (19, [(.inl 8)], (0, 0), [(.inr (.inr (.inl (44, 44)))), zIA], []),
  (20, [(.inl 7)], (0, 0), [(.inr (.inr (.inl (44, 44)))), zIA], [(.inr (.inr (.inl (44, 44))))]),
  (21, [(.inl 6)], (0, 0), [(.inr (.inr (.inl (44, 44)))), zIA], [(.inl (1, 1, 0, 0)), (.inr (.inr (.inl (44, 44))))]),
  (24, [(.inl 5)], (0, 0), [(.inr (.inr (.inl (44, 44)))), zIA], [(.inl (0, 0, 0, 0))]),
  (25, [(.inl 4)], (0, 0), [(.inr (.inr (.inl (44, 44)))), (.inl (0, 15, 7, 0))], []),
  (26, [(.inl 3)], (0, 0), [(.inr (.inr (.inl (44, 44)))), (.inl (0, 15, 7, 0))], [(.inr (.inr (.inl (44, 44))))]),
  (29, [(.inl 2)], (0, 0), [(.inr (.inr (.inl (44, 44)))), (.inl (0, 15, 7, 0))], [(.inr (.inr (.inr 5)))]),
  (30, [(.inl 1)], (0, 0), [(.inr (.inr (.inl (44, 44)))), (.inl (0, 15, 7, 0))], [(.inl (0, 15, 7, 2)), (.inr (.inr (.inr 5)))]),
  (31, [(.inl 0)], (0, 0), [(.inr (.inr (.inl (44, 44)))), (.inl (0, 15, 7, 0))], [zIA])]
theorem g_153 {xs : List Int32} : zGd xs ct_153 := zmeth (cs := [ct_111, ct_117]) ct_153 ce_153 (List.forall_mem_cons.mpr ⟨g_111, List.forall_mem_cons.mpr ⟨g_117, fun _ h => absurd h List.not_mem_nil⟩⟩) (by decide +kernel)
def ct_154 : zCt := (154, [(.inr (.inr (.inl (44, 44)))), zIA], some zIA, 5, 0, 0)
def ce_154 : List zCe := [(0, [(.inl 20)], (0, 0), [(.inr (.inr (.inl (44, 44)))), zIA], []),
  (1, [(.inl 19)], (0, 0), [(.inr (.inr (.inl (44, 44)))), zIA], [(.inr (.inr (.inl (44, 44))))]),
  (2, [(.inl 18)], (0, 0), [(.inr (.inr (.inl (44, 44)))), zIA], [(.inl (0, 0, 0, 0)), (.inr (.inr (.inl (44, 44))))]),
  (5, [(.inl 17)], (0, 0), [(.inr (.inr (.inl (44, 44)))), zIA], []),
  (6, [(.inl 16)], (0, 0), [(.inr (.inr (.inl (44, 44)))), zIA], [(.inl ((-2147483648), 2147483647, 0, 2))]),
  (7, [(.inl 15)], (0, 0), [(.inr (.inr (.inl (44, 44)))), zIA], [(.inl (0, 0, 0, 0)), (.inl ((-2147483648), 2147483647, 0, 2))]),
  (8, [(.inl 14)], (0, 0), [(.inr (.inr (.inl (44, 44)))), zIA], [(.inl (1, 1, 0, 0)), (.inl (0, 0, 0, 0)), (.inl ((-2147483648), 2147483647, 0, 2))]),
  (9, [(.inl 13)], (0, 0), [(.inr (.inr (.inl (44, 44)))), zIA], [(.inr (.inr (.inl (44, 44)))), (.inl (1, 1, 0, 0)), (.inl (0, 0, 0, 0)), (.inl ((-2147483648), 2147483647, 0, 2))]),
  (12, [(.inl 12)], (0, 0), [(.inr (.inr (.inl (44, 44)))), zIA], [(.inl (4, 10, 0, 0)), (.inl (1, 1, 0, 0)), (.inl (0, 0, 0, 0)), (.inl ((-2147483648), 2147483647, 0, 2))]),
  (13, [(.inl 11)], (0, 0), [(.inr (.inr (.inl (44, 44)))), zIA], [zIA, (.inl (0, 0, 0, 0)), (.inl ((-2147483648), 2147483647, 0, 2))]),
  (14, [(.inl 10)], (0, 0), [(.inr (.inr (.inl (44, 44)))), zIA], [(.inl (1, 1, 0, 0)), zIA, (.inl (0, 0, 0, 0)), (.inl ((-2147483648), 2147483647, 0, 2))]),
  (15, [(.inl 9)], (0, 0), [(.inr (.inr (.inl (44, 44)))), zIA], [zIA, (.inl (0, 0, 0, 0)), (.inl ((-2147483648), 2147483647, 0, 2))]),
  (18, [(.inl 8)], (0, 0), [(.inr (.inr (.inl (44, 44)))), zIA], [(.inr (.inl (1, 0, 2147483647, 0)))]),
  (21, [(.inl 7)], (0, 0), [(.inr (.inr (.inl (44, 44)))), zIA], []),
  (22, [(.inl 6)], (0, 0), [(.inr (.inr (.inl (44, 44)))), zIA], [(.inr (.inr (.inl (44, 44))))]),
  (23, [(.inl 5)], (0, 0), [(.inr (.inr (.inl (44, 44)))), zIA], [(.inl (1, 1, 0, 0)), (.inr (.inr (.inl (44, 44))))]),
  (26, [(.inl 4)], (0, 0), [(.inr (.inr (.inl (44, 44)))), zIA], [(.inl (0, 0, 0, 0))]),
  (27, [(.inl 3)], (0, 0), [(.inr (.inr (.inl (44, 44)))), (.inl (0, 2147483647, 0, 0))], []),
  (28, [(.inl 2)], (0, 0), [(.inr (.inr (.inl (44, 44)))), (.inl (0, 2147483647, 0, 0))], [(.inr (.inr (.inl (44, 44))))]),
  (29, [(.inl 1)], (0, 0), [(.inr (.inr (.inl (44, 44)))), (.inl (0, 2147483647, 0, 0))], [(.inl (0, 2147483647, 0, 2)), (.inr (.inr (.inl (44, 44))))]),
  (32, [(.inl 0)], (0, 0), [(.inr (.inr (.inl (44, 44)))), (.inl (0, 2147483647, 0, 0))], [zIA])]
theorem g_154 {xs : List Int32} : zGd xs ct_154 := zmeth (cs := [ct_111, ct_119]) ct_154 ce_154 (List.forall_mem_cons.mpr ⟨g_111, List.forall_mem_cons.mpr ⟨g_119, fun _ h => absurd h List.not_mem_nil⟩⟩) (by decide +kernel)
def ct_155 : zCt := (155, [(.inr (.inr (.inl (44, 44)))), zIA, zIA], some zIA, 8, 0, 0)
def ce_155 : List zCe := [(0, [(.inl 57)], (0, 0), [(.inr (.inr (.inl (44, 44)))), zIA, zIA, (.inr (.inr (.inr 0)))], []),
  (1, [(.inl 56)], (0, 0), [(.inr (.inr (.inl (44, 44)))), zIA, zIA, (.inr (.inr (.inr 0)))], [(.inr (.inr (.inl (44, 44))))]),
  (2, [(.inl 55)], (0, 0), [(.inr (.inr (.inl (44, 44)))), zIA, zIA, (.inr (.inr (.inr 0)))], [(.inl (0, 0, 0, 0)), (.inr (.inr (.inl (44, 44))))]),
  (5, [(.inl 54)], (0, 0), [(.inr (.inr (.inl (44, 44)))), zIA, zIA, (.inr (.inr (.inr 0)))], []),
  (6, [(.inl 53)], (0, 0), [(.inr (.inr (.inl (44, 44)))), zIA, zIA, (.inr (.inr (.inr 0)))], [(.inl ((-2147483648), 2147483647, 0, 2))]),
  (7, [(.inl 52)], (0, 0), [(.inr (.inr (.inl (44, 44)))), zIA, zIA, (.inr (.inr (.inr 0)))], [(.inl (0, 0, 0, 0)), (.inl ((-2147483648), 2147483647, 0, 2))]),
  (8, [(.inl 51)], (0, 0), [(.inr (.inr (.inl (44, 44)))), zIA, zIA, (.inr (.inr (.inr 0)))], [(.inl (1, 1, 0, 0)), (.inl (0, 0, 0, 0)), (.inl ((-2147483648), 2147483647, 0, 2))]),
  (9, [(.inl 50)], (0, 0), [(.inr (.inr (.inl (44, 44)))), zIA, zIA, (.inr (.inr (.inr 0)))], [(.inr (.inr (.inl (44, 44)))), (.inl (1, 1, 0, 0)), (.inl (0, 0, 0, 0)), (.inl ((-2147483648), 2147483647, 0, 2))]),
  (12, [(.inl 49)], (0, 0), [(.inr (.inr (.inl (44, 44)))), zIA, zIA, (.inr (.inr (.inr 0)))], [(.inl (8, 16, 8, 0)), (.inl (1, 1, 0, 0)), (.inl (0, 0, 0, 0)), (.inl ((-2147483648), 2147483647, 0, 2))]),
  (13, [(.inl 48)], (0, 0), [(.inr (.inr (.inl (44, 44)))), zIA, zIA, (.inr (.inr (.inr 0)))], [zIA, (.inl (0, 0, 0, 0)), (.inl ((-2147483648), 2147483647, 0, 2))]),
  (14, [(.inl 47)], (0, 0), [(.inr (.inr (.inl (44, 44)))), zIA, zIA, (.inr (.inr (.inr 0)))], [(.inl (1, 1, 0, 0)), zIA, (.inl (0, 0, 0, 0)), (.inl ((-2147483648), 2147483647, 0, 2))]),
  (15, [(.inl 46)], (0, 0), [(.inr (.inr (.inl (44, 44)))), zIA, zIA, (.inr (.inr (.inr 0)))], [zIA, (.inl (0, 0, 0, 0)), (.inl ((-2147483648), 2147483647, 0, 2))]),
  (18, [(.inl 45)], (0, 0), [(.inr (.inr (.inl (44, 44)))), zIA, zIA, (.inr (.inr (.inr 0)))], [(.inr (.inl (1, 0, 2147483647, 0)))]),
  (21, [(.inl 44)], (0, 0), [(.inr (.inr (.inl (44, 44)))), (.inl (0, 2147483647, 0, 0)), zIA, (.inr (.inr (.inr 0)))], []),
  (22, [(.inl 43)], (0, 0), [(.inr (.inr (.inl (44, 44)))), (.inl (0, 2147483647, 0, 0)), zIA, (.inr (.inr (.inr 0)))], [(.inl ((-2147483648), 2147483647, 0, 3))]),
  (23, [(.inl 42)], (0, 0), [(.inr (.inr (.inl (44, 44)))), (.inl (0, 2147483647, 0, 0)), zIA, (.inr (.inr (.inr 0)))], [(.inl (0, 0, 0, 0)), (.inl ((-2147483648), 2147483647, 0, 3))]),
  (24, [(.inl 41)], (0, 0), [(.inr (.inr (.inl (44, 44)))), (.inl (0, 2147483647, 0, 0)), zIA, (.inr (.inr (.inr 0)))], [(.inl (3, 3, 0, 0)), (.inl (0, 0, 0, 0)), (.inl ((-2147483648), 2147483647, 0, 3))]),
  (27, [(.inl 40)], (0, 0), [(.inr (.inr (.inl (44, 44)))), (.inl (0, 2147483647, 0, 0)), zIA, (.inr (.inr (.inr 0)))], [(.inr (.inl (2, 0, 3, 0)))]),
  (30, [(.inl 3)], (0, 0), [(.inr (.inr (.inl (44, 44)))), zIA, zIA, (.inr (.inr (.inr 0)))], []),
  (31, [(.inl 2)], (0, 0), [(.inr (.inr (.inl (44, 44)))), zIA, zIA, (.inr (.inr (.inr 0)))], [(.inr (.inr (.inl (44, 44))))]),
  (32, [(.inl 1)], (0, 0), [(.inr (.inr (.inl (44, 44)))), zIA, zIA, (.inr (.inr (.inr 0)))], [(.inl (1, 1, 0, 0)), (.inr (.inr (.inl (44, 44))))]),
  (35, [(.inl 0)], (0, 0), [(.inr (.inr (.inl (44, 44)))), zIA, zIA, (.inr (.inr (.inr 0)))], [(.inl (0, 0, 0, 0))]),
  (36, [(.inl 39)], (0, 0), [(.inr (.inr (.inl (44, 44)))), (.inl (0, 2147483647, 0, 0)), (.inl (0, 3, 0, 0)), (.inr (.inr (.inr 0)))], []),
  (37, [(.inl 38)], (0, 0), [(.inr (.inr (.inl (44, 44)))), (.inl (0, 2147483647, 0, 0)), (.inl (0, 3, 0, 0)), (.inr (.inr (.inr 0)))], [(.inr (.inr (.inl (44, 44))))]),
  (38, [(.inl 37)], (0, 0), [(.inr (.inr (.inl (44, 44)))), (.inl (0, 2147483647, 0, 0)), (.inl (0, 3, 0, 0)), (.inr (.inr (.inr 0)))], [(.inl (0, 2147483647, 0, 2)), (.inr (.inr (.inl (44, 44))))]),
  (41, [(.inl 36)], (0, 0), [(.inr (.inr (.inl (44, 44)))), (.inl (0, 2147483647, 0, 0)), (.inl (0, 3, 0, 0)), (.inr (.inr (.inr 0)))], [(.inl (0, 2, 0, 0))]),
  (42, [(.inl 35)], (0, 0), [(.inr (.inr (.inl (44, 44)))), (.inl (0, 2147483647, 0, 0)), (.inl (0, 3, 0, 0)), (.inl (0, 2, 0, 0))], []),
  (43, [(.inl 34)], (0, 0), [(.inr (.inr (.inl (44, 44)))), (.inl (0, 2147483647, 0, 0)), (.inl (0, 3, 0, 0)), (.inl (0, 2, 0, 0))], [(.inl (0, 3, 0, 3))]),
  (46, [(.inl 33)], (0, 0), [(.inr (.inr (.inl (44, 44)))), (.inl (0, 2147483647, 0, 0)), (.inl (0, 0, 0, 0)), (.inl (0, 2, 0, 0))], []),
  (47, [(.inl 32)], (0, 0), [(.inr (.inr (.inl (44, 44)))), (.inl (0, 2147483647, 0, 0)), (.inl (0, 0, 0, 0)), (.inl (0, 2, 0, 0))], [(.inr (.inr (.inl (44, 44))))]),
  (48, [(.inl 31)], (0, 0), [(.inr (.inr (.inl (44, 44)))), (.inl (0, 2147483647, 0, 0)), (.inl (0, 0, 0, 0)), (.inl (0, 2, 0, 0))], [(.inl (0, 2147483647, 0, 2)), (.inr (.inr (.inl (44, 44))))]),
  (51, [(.inl 30)], (0, 0), [(.inr (.inr (.inl (44, 44)))), (.inl (0, 2147483647, 0, 0)), (.inl (0, 0, 0, 0)), (.inl (0, 2, 0, 0))], [zIA]),
  (54, [(.inl 29)], (0, 0), [(.inr (.inr (.inl (44, 44)))), (.inl (0, 2147483647, 0, 0)), (.inl (1, 3, 0, 0)), (.inl (0, 2, 0, 0))], []),
  (55, [(.inl 28)], (0, 0), [(.inr (.inr (.inl (44, 44)))), (.inl (0, 2147483647, 0, 0)), (.inl (1, 3, 0, 0)), (.inl (0, 2, 0, 0))], [(.inl (1, 3, 0, 3))]),
  (56, [(.inl 27)], (0, 0), [(.inr (.inr (.inl (44, 44)))), (.inl (0, 2147483647, 0, 0)), (.inl (1, 3, 0, 0)), (.inl (0, 2, 0, 0))], [(.inl (1, 1, 0, 0)), (.inl (1, 3, 0, 3))]),
  (59, [(.inl 26)], (0, 0), [(.inr (.inr (.inl (44, 44)))), (.inl (0, 2147483647, 0, 0)), (.inl (1, 1, 0, 0)), (.inl (0, 2, 0, 0))], []),
  (60, [(.inl 25)], (0, 0), [(.inr (.inr (.inl (44, 44)))), (.inl (0, 2147483647, 0, 0)), (.inl (1, 1, 0, 0)), (.inl (0, 2, 0, 0))], [(.inl (0, 2, 0, 4))]),
  (63, [(.inl 24)], (0, 0), [(.inr (.inr (.inl (44, 44)))), (.inl (0, 2147483647, 0, 0)), (.inl (2, 3, 0, 0)), (.inl (0, 2, 0, 0))], []),
  (64, [(.inl 23)], (0, 0), [(.inr (.inr (.inl (44, 44)))), (.inl (0, 2147483647, 0, 0)), (.inl (2, 3, 0, 0)), (.inl (0, 2, 0, 0))], [(.inl (2, 3, 0, 3))]),
  (65, [(.inl 22)], (0, 0), [(.inr (.inr (.inl (44, 44)))), (.inl (0, 2147483647, 0, 0)), (.inl (2, 3, 0, 0)), (.inl (0, 2, 0, 0))], [(.inl (2, 2, 0, 0)), (.inl (2, 3, 0, 3))]),
  (68, [(.inl 21)], (0, 0), [(.inr (.inr (.inl (44, 44)))), (.inl (0, 2147483647, 0, 0)), (.inl (2, 2, 0, 0)), (.inl (0, 2, 0, 0))], []),
  (69, [(.inl 20)], (0, 0), [(.inr (.inr (.inl (44, 44)))), (.inl (0, 2147483647, 0, 0)), (.inl (2, 2, 0, 0)), (.inl (0, 2, 0, 0))], [(.inl (0, 2, 0, 4))]),
  (70, [(.inl 19)], (0, 0), [(.inr (.inr (.inl (44, 44)))), (.inl (0, 2147483647, 0, 0)), (.inl (2, 2, 0, 0)), (.inl (0, 2, 0, 0))], [(.inl (1, 1, 0, 0)), (.inl (0, 2, 0, 4))]),
  (73, [(.inl 18)], (0, 0), [(.inr (.inr (.inl (44, 44)))), (.inl (0, 2147483647, 0, 0)), (.inl (2, 2, 0, 0)), (.inl (1, 1, 0, 0))], []),
  (74, [(.inl 17)], (0, 0), [(.inr (.inr (.inl (44, 44)))), (.inl (0, 2147483647, 0, 0)), (.inl (2, 2, 0, 0)), (.inl (1, 1, 0, 0))], [(.inr (.inr (.inl (44, 44))))]),
  (75, [(.inl 16)], (0, 0), [(.inr (.inr (.inl (44, 44)))), (.inl (0, 2147483647, 0, 0)), (.inl (2, 2, 0, 0)), (.inl (1, 1, 0, 0))], [(.inl (0, 2147483647, 0, 2)), (.inr (.inr (.inl (44, 44))))]),
  (78, [(.inl 15)], (0, 0), [(.inr (.inr (.inl (44, 44)))), (.inl (0, 2147483647, 0, 0)), (.inl (2, 2, 0, 0)), (.inl (1, 1, 0, 0))], [zIA]),
  (81, [(.inl 14)], (0, 0), [(.inr (.inr (.inl (44, 44)))), (.inl (0, 2147483647, 0, 0)), (.inl (2, 2, 0, 0)), (.inl (0, 2, 0, 0))], []),
  (82, [(.inl 13)], (0, 0), [(.inr (.inr (.inl (44, 44)))), (.inl (0, 2147483647, 0, 0)), (.inl (2, 2, 0, 0)), (.inl (0, 2, 0, 0))], [(.inl ((-1), (-1), 0, 0))]),
  (85, [(.inl 12)], (0, 0), [(.inr (.inr (.inl (44, 44)))), (.inl (0, 2147483647, 0, 0)), (.inl (3, 3, 0, 0)), (.inl (0, 2, 0, 0))], []),
  (86, [(.inl 11)], (0, 0), [(.inr (.inr (.inl (44, 44)))), (.inl (0, 2147483647, 0, 0)), (.inl (3, 3, 0, 0)), (.inl (0, 2, 0, 0))], [(.inl (0, 2, 0, 4))]),
  (87, [(.inl 10)], (0, 0), [(.inr (.inr (.inl (44, 44)))), (.inl (0, 2147483647, 0, 0)), (.inl (3, 3, 0, 0)), (.inl (0, 2, 0, 0))], [(.inl (2, 2, 0, 0)), (.inl (0, 2, 0, 4))]),
  (90, [(.inl 9)], (0, 0), [(.inr (.inr (.inl (44, 44)))), (.inl (0, 2147483647, 0, 0)), (.inl (3, 3, 0, 0)), (.inl (2, 2, 0, 0))], []),
  (91, [(.inl 8)], (0, 0), [(.inr (.inr (.inl (44, 44)))), (.inl (0, 2147483647, 0, 0)), (.inl (3, 3, 0, 0)), (.inl (2, 2, 0, 0))], [(.inl ((-1), (-1), 0, 0))]),
  (94, [(.inl 7)], (0, 0), [(.inr (.inr (.inl (44, 44)))), (.inl (0, 2147483647, 0, 0)), (.inl (3, 3, 0, 0)), (.inl (0, 1, 0, 0))], []),
  (95, [(.inl 6)], (0, 0), [(.inr (.inr (.inl (44, 44)))), (.inl (0, 2147483647, 0, 0)), (.inl (3, 3, 0, 0)), (.inl (0, 1, 0, 0))], [(.inr (.inr (.inl (44, 44))))]),
  (96, [(.inl 5)], (0, 0), [(.inr (.inr (.inl (44, 44)))), (.inl (0, 2147483647, 0, 0)), (.inl (3, 3, 0, 0)), (.inl (0, 1, 0, 0))], [(.inl (0, 2147483647, 0, 2)), (.inr (.inr (.inl (44, 44))))]),
  (99, [(.inl 4)], (0, 0), [(.inr (.inr (.inl (44, 44)))), (.inl (0, 2147483647, 0, 0)), (.inl (0, 3, 0, 0)), (.inl (0, 2, 0, 0))], [zIA])]
theorem g_155 {xs : List Int32} : zGd xs ct_155 := zmeth (cs := [ct_111, ct_117, ct_118, ct_120, ct_121, ct_123]) ct_155 ce_155 (List.forall_mem_cons.mpr ⟨g_111, List.forall_mem_cons.mpr ⟨g_117, List.forall_mem_cons.mpr ⟨g_118, List.forall_mem_cons.mpr ⟨g_120, List.forall_mem_cons.mpr ⟨g_121, List.forall_mem_cons.mpr ⟨g_123, fun _ h => absurd h List.not_mem_nil⟩⟩⟩⟩⟩⟩) (by decide +kernel)
def ct_156 : zCt := (156, [(.inr (.inr (.inl (44, 44)))), zIA], some zIA, 6, 0, 0)
def ce_156 : List zCe := [(0, [(.inl 6), (.inl 0), (.inl 0)], (0, 0), [(.inr (.inr (.inl (44, 44)))), zIA, (.inr (.inr (.inr 0))), (.inr (.inr (.inr 0)))], []),
  (1, [(.inl 5), (.inl 0), (.inl 0)], (0, 0), [(.inr (.inr (.inl (44, 44)))), zIA, (.inr (.inr (.inr 0))), (.inr (.inr (.inr 0)))], [(.inl (0, 0, 0, 0))]),
  (2, [(.inl 4), (.inl 0), (.inl 0)], (0, 0), [(.inr (.inr (.inl (44, 44)))), zIA, (.inl (0, 0, 0, 0)), (.inr (.inr (.inr 0)))], []),
  (3, [(.inl 3), (.inl 0), (.inl 0)], (0, 0), [(.inr (.inr (.inl (44, 44)))), zIA, (.inl (0, 0, 0, 0)), (.inr (.inr (.inr 0)))], [(.inl (0, 0, 0, 0))]),
  (4, [(.inl 2), (.inr (2147483647, 3)), (.inl 21)], (0, 0), [(.inr (.inr (.inl (44, 44)))), zIA, zIA, (.inl (0, 2147483647, 0, 0))], []),
  (5, [(.inl 2), (.inr (2147483647, 3)), (.inl 20)], (0, 0), [(.inr (.inr (.inl (44, 44)))), zIA, zIA, (.inl (0, 2147483647, 0, 0))], [(.inl (0, 2147483647, 0, 4))]),
  (6, [(.inl 2), (.inr (2147483647, 3)), (.inl 19)], (0, 0), [(.inr (.inr (.inl (44, 44)))), zIA, zIA, (.inl (0, 2147483647, 0, 0))], [(.inl (1, 1, 0, 0)), (.inl (0, 2147483647, 0, 4))]),
  (7, [(.inl 2), (.inr (2147483647, 3)), (.inl 18)], (0, 0), [(.inr (.inr (.inl (44, 44)))), zIA, zIA, (.inl (0, 2147483647, 0, 0))], [(.inr (.inr (.inl (44, 44)))), (.inl (1, 1, 0, 0)), (.inl (0, 2147483647, 0, 4))]),
  (10, [(.inl 2), (.inr (2147483647, 3)), (.inl 17)], (0, 0), [(.inr (.inr (.inl (44, 44)))), zIA, zIA, (.inl (0, 2147483647, 0, 0))], [(.inl (8, 16, 8, 0)), (.inl (1, 1, 0, 0)), (.inl (0, 2147483647, 0, 4))]),
  (11, [(.inl 2), (.inr (2147483647, 3)), (.inl 16)], (0, 0), [(.inr (.inr (.inl (44, 44)))), zIA, zIA, (.inl (0, 2147483647, 0, 0))], [zIA, (.inl (0, 2147483647, 0, 4))]),
  (14, [(.inl 2), (.inr (2147483647, 3)), (.inl 15)], (0, 0), [(.inr (.inr (.inl (44, 44)))), zIA, zIA, (.inl (0, 2147483646, 0, 0))], []),
  (15, [(.inl 2), (.inr (2147483647, 3)), (.inl 14)], (0, 0), [(.inr (.inr (.inl (44, 44)))), zIA, zIA, (.inl (0, 2147483646, 0, 0))], [(.inl ((-2147483648), 2147483647, 0, 3))]),
  (16, [(.inl 2), (.inr (2147483647, 3)), (.inl 13)], (0, 0), [(.inr (.inr (.inl (44, 44)))), zIA, zIA, (.inl (0, 2147483646, 0, 0))], [(.inl (0, 2147483646, 0, 4)), (.inl ((-2147483648), 2147483647, 0, 3))]),
  (19, [(.inl 2), (.inr (2147483647, 3)), (.inl 12)], (0, 0), [(.inr (.inr (.inl (44, 44)))), zIA, zIA, (.inl (0, 2147483646, 0, 0))], [zIA, (.inl ((-2147483648), 2147483647, 0, 3))]),
  (20, [(.inl 2), (.inr (2147483647, 3)), (.inl 11)], (0, 0), [(.inr (.inr (.inl (44, 44)))), zIA, zIA, (.inl (0, 2147483646, 0, 0))], [(.inl ((-2147483648), 2147483647, 0, 2)), zIA, (.inl ((-2147483648), 2147483647, 0, 3))]),
  (23, [(.inl 2), (.inr (2147483647, 3)), (.inl 10)], (0, 0), [(.inr (.inr (.inl (44, 44)))), zIA, zIA, (.inl (0, 2147483646, 0, 0))], [(.inl ((-2147483648), 2147483647, 0, 3))]),
  (24, [(.inl 2), (.inr (2147483647, 3)), (.inl 9)], (0, 0), [(.inr (.inr (.inl (44, 44)))), zIA, zIA, (.inl (0, 2147483646, 0, 0))], [(.inr (.inr (.inl (44, 44)))), (.inl ((-2147483648), 2147483647, 0, 3))]),
  (25, [(.inl 2), (.inr (2147483647, 3)), (.inl 8)], (0, 0), [(.inr (.inr (.inl (44, 44)))), zIA, zIA, (.inl (0, 2147483646, 0, 0))], [(.inl (0, 2147483646, 0, 4)), (.inr (.inr (.inl (44, 44)))), (.inl ((-2147483648), 2147483647, 0, 3))]),
  (28, [(.inl 2), (.inr (2147483647, 3)), (.inl 7)], (0, 0), [(.inr (.inr (.inl (44, 44)))), zIA, zIA, (.inl (0, 2147483646, 0, 0))], [(.inl (0, 2, 0, 0)), (.inl ((-2147483648), 2147483647, 0, 3))]),
  (29, [(.inl 2), (.inr (2147483647, 3)), (.inl 6)], (0, 0), [(.inr (.inr (.inl (44, 44)))), zIA, zIA, (.inl (0, 2147483646, 0, 0))], [(.inl (1, 1, 0, 0)), (.inl (0, 2, 0, 0)), (.inl ((-2147483648), 2147483647, 0, 3))]),
  (32, [(.inl 2), (.inr (2147483647, 3)), (.inl 5)], (0, 0), [(.inr (.inr (.inl (44, 44)))), zIA, zIA, (.inl (0, 2147483646, 0, 0))], [(.inl ((-2147483648), 2147483647, 0, 3))]),
  (33, [(.inl 2), (.inr (2147483647, 3)), (.inl 4)], (0, 0), [(.inr (.inr (.inl (44, 44)))), zIA, zIA, (.inl (0, 2147483646, 0, 0))], [(.inl (1, 1, 0, 0)), (.inl ((-2147483648), 2147483647, 0, 3))]),
  (36, [(.inl 2), (.inr (2147483647, 3)), (.inl 3)], (0, 0), [(.inr (.inr (.inl (44, 44)))), zIA, zIA, (.inl (0, 2147483646, 0, 0))], [(.inl ((-2147483648), 2147483647, 0, 3))]),
  (37, [(.inl 2), (.inr (2147483647, 3)), (.inl 2)], (0, 0), [(.inr (.inr (.inl (44, 44)))), zIA, zIA, (.inl (0, 2147483646, 0, 0))], [(.inl (0, 1, 0, 0)), (.inl ((-2147483648), 2147483647, 0, 3))]),
  (38, [(.inl 2), (.inr (2147483647, 3)), (.inl 1)], (0, 0), [(.inr (.inr (.inl (44, 44)))), zIA, zIA, (.inl (0, 2147483646, 0, 0))], [zIA]),
  (39, [(.inl 2), (.inr (2147483647, 3)), (.inl 0)], (0, 0), [(.inr (.inr (.inl (44, 44)))), zIA, zIA, (.inl (0, 2147483646, 0, 0))], []),
  (42, [(.inl 2), (.inr (2147483647, 3)), (.inl 22)], (0, 0), [(.inr (.inr (.inl (44, 44)))), zIA, zIA, (.inl (1, 2147483647, 0, 0))], []),
  (45, [(.inl 1), (.inl 0), (.inl 0)], (0, 0), [(.inr (.inr (.inl (44, 44)))), zIA, zIA, (.inl (0, 2147483647, 0, 0))], []),
  (46, [(.inl 0), (.inl 0), (.inl 0)], (0, 0), [(.inr (.inr (.inl (44, 44)))), zIA, zIA, (.inl (0, 2147483647, 0, 0))], [(.inl ((-2147483648), 2147483647, 0, 3))])]
theorem g_156 {xs : List Int32} : zGd xs ct_156 := zmeth (cs := [ct_114, ct_117, ct_121]) ct_156 ce_156 (List.forall_mem_cons.mpr ⟨g_114, List.forall_mem_cons.mpr ⟨g_117, List.forall_mem_cons.mpr ⟨g_121, fun _ h => absurd h List.not_mem_nil⟩⟩⟩) (by decide +kernel)
def ct_157 : zCt := (157, [(.inr (.inr (.inl (44, 44)))), zIA], some zIA, 7, 0, 0)
def ce_157 : List zCe := [(0, [(.inl 15)], (0, 0), [(.inr (.inr (.inl (44, 44)))), zIA], []),
  (1, [(.inl 14)], (0, 0), [(.inr (.inr (.inl (44, 44)))), zIA], [(.inr (.inr (.inl (44, 44))))]),
  (2, [(.inl 13)], (0, 0), [(.inr (.inr (.inl (44, 44)))), zIA], [(.inl (0, 0, 0, 0)), (.inr (.inr (.inl (44, 44))))]),
  (5, [(.inl 12)], (0, 0), [(.inr (.inr (.inl (44, 44)))), zIA], []),
  (6, [(.inl 11)], (0, 0), [(.inr (.inr (.inl (44, 44)))), zIA], [(.inl ((-2147483648), 2147483647, 0, 2))]),
  (7, [(.inl 10)], (0, 0), [(.inr (.inr (.inl (44, 44)))), zIA], [(.inl (2, 2, 0, 0)), (.inl ((-2147483648), 2147483647, 0, 2))]),
  (8, [(.inl 9)], (0, 0), [(.inr (.inr (.inl (44, 44)))), zIA], [(.inl (3, 3, 0, 0)), (.inl (2, 2, 0, 0)), (.inl ((-2147483648), 2147483647, 0, 2))]),
  (11, [(.inl 8)], (0, 0), [(.inr (.inr (.inl (44, 44)))), zIA], [(.inr (.inl (1, 2, 3, 0)))]),
  (14, [(.inl 7)], (0, 0), [(.inr (.inr (.inl (44, 44)))), zIA], []),
  (15, [(.inl 6)], (0, 0), [(.inr (.inr (.inl (44, 44)))), zIA], [(.inr (.inr (.inl (44, 44))))]),
  (16, [(.inl 5)], (0, 0), [(.inr (.inr (.inl (44, 44)))), zIA], [(.inl (1, 1, 0, 0)), (.inr (.inr (.inl (44, 44))))]),
  (19, [(.inl 4)], (0, 0), [(.inr (.inr (.inl (44, 44)))), zIA], [(.inl (0, 0, 0, 0))]),
  (20, [(.inl 3)], (0, 0), [(.inr (.inr (.inl (44, 44)))), (.inl (2, 3, 0, 0))], []),
  (21, [(.inl 2)], (0, 0), [(.inr (.inr (.inl (44, 44)))), (.inl (2, 3, 0, 0))], [(.inr (.inr (.inl (44, 44))))]),
  (22, [(.inl 1)], (0, 0), [(.inr (.inr (.inl (44, 44)))), (.inl (2, 3, 0, 0))], [(.inl (2, 3, 0, 2)), (.inr (.inr (.inl (44, 44))))]),
  (25, [(.inl 0)], (0, 0), [(.inr (.inr (.inl (44, 44)))), (.inl (2, 3, 0, 0))], [zIA])]
theorem g_157 {xs : List Int32} : zGd xs ct_157 := zmeth (cs := [ct_111, ct_156]) ct_157 ce_157 (List.forall_mem_cons.mpr ⟨g_111, List.forall_mem_cons.mpr ⟨g_156, fun _ h => absurd h List.not_mem_nil⟩⟩) (by decide +kernel)
def ct_158a : zCt := (158, [(.inr (.inr (.inl (44, 44)))), (.inr (.inr (.inr 8))), zIA, zIA], some zIA, 4, 0, 0)
def ce_158a : List zCe := [(0, [(.inl 6), (.inl 0), (.inl 0)], (0, 0), [(.inr (.inr (.inl (44, 44)))), (.inr (.inr (.inr 8))), zIA, zIA, (.inr (.inr (.inr 0))), (.inr (.inr (.inr 0)))], []),
  (1, [(.inl 5), (.inl 0), (.inl 0)], (0, 0), [(.inr (.inr (.inl (44, 44)))), (.inr (.inr (.inr 8))), zIA, zIA, (.inr (.inr (.inr 0))), (.inr (.inr (.inr 0)))], [(.inl (0, 0, 0, 0))]),
  (3, [(.inl 4), (.inl 0), (.inl 0)], (0, 0), [(.inr (.inr (.inl (44, 44)))), (.inr (.inr (.inr 8))), zIA, zIA, (.inl (0, 0, 0, 0)), (.inr (.inr (.inr 0)))], []),
  (4, [(.inl 3), (.inl 0), (.inl 0)], (0, 0), [(.inr (.inr (.inl (44, 44)))), (.inr (.inr (.inr 8))), zIA, zIA, (.inl (0, 0, 0, 0)), (.inr (.inr (.inr 0)))], [(.inl (0, 0, 0, 0))]),
  (6, [(.inl 2), (.inr (24, 5)), (.inl 29)], (0, 0), [(.inr (.inr (.inl (44, 44)))), (.inr (.inr (.inr 8))), zIA, zIA, zIA, (.inl (0, 24, 0, 0))], []),
  (8, [(.inl 2), (.inr (24, 5)), (.inl 28)], (0, 0), [(.inr (.inr (.inl (44, 44)))), (.inr (.inr (.inr 8))), zIA, zIA, zIA, (.inl (0, 24, 0, 0))], [(.inl (0, 24, 0, 6))]),
  (9, [(.inl 2), (.inr (24, 5)), (.inl 27)], (0, 0), [(.inr (.inr (.inl (44, 44)))), (.inr (.inr (.inr 8))), zIA, zIA, zIA, (.inl (0, 24, 0, 0))], [(.inr (.inr (.inr 8))), (.inl (0, 24, 0, 6))]),
  (14, [(.inl 2), (.inr (24, 5)), (.inl 26)], (0, 0), [(.inr (.inr (.inl (44, 44)))), (.inr (.inr (.inr 8))), zIA, zIA, zIA, (.inl (0, 24, 0, 0))], [(.inl (0, 24, 2, 0)), (.inl (0, 24, 0, 6))]),
  (17, [(.inl 2), (.inr (24, 5)), (.inl 25)], (0, 0), [(.inr (.inr (.inl (44, 44)))), (.inr (.inr (.inr 8))), zIA, zIA, zIA, (.inl (0, 23, 1, 0))], []),
  (19, [(.inl 2), (.inr (24, 5)), (.inl 24)], (0, 0), [(.inr (.inr (.inl (44, 44)))), (.inr (.inr (.inr 8))), zIA, zIA, zIA, (.inl (0, 23, 1, 0))], [(.inl ((-2147483648), 2147483647, 0, 5))]),
  (20, [(.inl 2), (.inr (24, 5)), (.inl 23)], (0, 0), [(.inr (.inr (.inl (44, 44)))), (.inr (.inr (.inr 8))), zIA, zIA, zIA, (.inl (0, 23, 1, 0))], [(.inr (.inr (.inr 8))), (.inl ((-2147483648), 2147483647, 0, 5))]),
  (22, [(.inl 2), (.inr (24, 5)), (.inl 22)], (0, 0), [(.inr (.inr (.inl (44, 44)))), (.inr (.inr (.inr 8))), zIA, zIA, zIA, (.inl (0, 23, 1, 0))], [(.inl (0, 23, 1, 6)), (.inr (.inr (.inr 8))), (.inl ((-2147483648), 2147483647, 0, 5))]),
  (27, [(.inl 2), (.inr (24, 5)), (.inl 21)], (0, 0), [(.inr (.inr (.inl (44, 44)))), (.inr (.inr (.inr 8))), zIA, zIA, zIA, (.inl (0, 23, 1, 0))], [(.inr (.inr (.inr 6))), (.inl ((-2147483648), 2147483647, 0, 5))]),
  (30, [(.inl 2), (.inr (24, 5)), (.inl 20)], (0, 0), [(.inr (.inr (.inl (44, 44)))), (.inr (.inr (.inr 8))), zIA, zIA, zIA, (.inl (0, 23, 1, 0))], [(.inr (.inr (.inr 6))), (.inl ((-2147483648), 2147483647, 0, 5))]),
  (31, [(.inl 2), (.inr (24, 5)), (.inl 19)], (0, 0), [(.inr (.inr (.inl (44, 44)))), (.inr (.inr (.inr 8))), zIA, zIA, zIA, (.inl (0, 23, 1, 0))], [(.inl (0, 0, 0, 0)), (.inr (.inr (.inr 6))), (.inl ((-2147483648), 2147483647, 0, 5))]),
  (32, [(.inl 2), (.inr (24, 5)), (.inl 18)], (0, 0), [(.inr (.inr (.inl (44, 44)))), (.inr (.inr (.inr 8))), zIA, zIA, zIA, (.inl (0, 23, 1, 0))], [(.inl (0, 19, 0, 0)), (.inl ((-2147483648), 2147483647, 0, 5))]),
  (33, [(.inl 2), (.inr (24, 5)), (.inl 17)], (0, 0), [(.inr (.inr (.inl (44, 44)))), (.inr (.inr (.inr 8))), zIA, zIA, zIA, (.inl (0, 23, 1, 0))], [(.inl ((-2147483648), 2147483647, 0, 3)), (.inl (0, 19, 0, 0)), (.inl ((-2147483648), 2147483647, 0, 5))]),
  (36, [(.inl 2), (.inr (24, 5)), (.inl 16)], (0, 0), [(.inr (.inr (.inl (44, 44)))), (.inr (.inr (.inr 8))), (.inl (0, 19, 0, 0)), zIA, zIA, (.inl (0, 23, 1, 0))], [(.inl ((-2147483648), 2147483647, 0, 5))]),
  (37, [(.inl 2), (.inr (24, 5)), (.inl 15)], (0, 0), [(.inr (.inr (.inl (44, 44)))), (.inr (.inr (.inr 8))), (.inl (0, 19, 0, 0)), zIA, zIA, (.inl (0, 23, 1, 0))], [(.inl ((-2147483648), 2147483647, 0, 4)), (.inl ((-2147483648), 2147483647, 0, 5))]),
  (38, [(.inl 2), (.inr (24, 5)), (.inl 14)], (0, 0), [(.inr (.inr (.inl (44, 44)))), (.inr (.inr (.inr 8))), (.inl (0, 19, 0, 0)), zIA, zIA, (.inl (0, 23, 1, 0))], [(.inl ((-1), (-1), 0, 0)), (.inl ((-2147483648), 2147483647, 0, 4)), (.inl ((-2147483648), 2147483647, 0, 5))]),
  (41, [(.inl 2), (.inr (24, 5)), (.inl 13)], (0, 0), [(.inr (.inr (.inl (44, 44)))), (.inr (.inr (.inr 8))), (.inl (0, 19, 0, 0)), zIA, zIA, (.inl (0, 23, 1, 0))], [(.inl ((-2147483648), 2147483647, 0, 5))]),
  (42, [(.inl 2), (.inr (24, 5)), (.inl 12)], (0, 0), [(.inr (.inr (.inl (44, 44)))), (.inr (.inr (.inr 8))), (.inl (0, 19, 0, 0)), zIA, zIA, (.inl (0, 23, 1, 0))], [(.inr (.inr (.inr 8))), (.inl ((-2147483648), 2147483647, 0, 5))]),
  (44, [(.inl 2), (.inr (24, 5)), (.inl 11)], (0, 0), [(.inr (.inr (.inl (44, 44)))), (.inr (.inr (.inr 8))), (.inl (0, 19, 0, 0)), zIA, zIA, (.inl (0, 23, 1, 0))], [(.inl (0, 23, 1, 6)), (.inr (.inr (.inr 8))), (.inl ((-2147483648), 2147483647, 0, 5))]),
  (49, [(.inl 2), (.inr (24, 5)), (.inl 10)], (0, 0), [(.inr (.inr (.inl (44, 44)))), (.inr (.inr (.inr 8))), (.inl (0, 19, 0, 0)), zIA, zIA, (.inl (0, 23, 1, 0))], [(.inr (.inr (.inr 6))), (.inl ((-2147483648), 2147483647, 0, 5))]),
  (52, [(.inl 2), (.inr (24, 5)), (.inl 9)], (0, 0), [(.inr (.inr (.inl (44, 44)))), (.inr (.inr (.inr 8))), (.inl (0, 19, 0, 0)), zIA, zIA, (.inl (0, 23, 1, 0))], [(.inr (.inr (.inr 6))), (.inl ((-2147483648), 2147483647, 0, 5))]),
  (53, [(.inl 2), (.inr (24, 5)), (.inl 8)], (0, 0), [(.inr (.inr (.inl (44, 44)))), (.inr (.inr (.inr 8))), (.inl (0, 19, 0, 0)), zIA, zIA, (.inl (0, 23, 1, 0))], [(.inl (1, 1, 0, 0)), (.inr (.inr (.inr 6))), (.inl ((-2147483648), 2147483647, 0, 5))]),
  (54, [(.inl 2), (.inr (24, 5)), (.inl 7)], (0, 0), [(.inr (.inr (.inl (44, 44)))), (.inr (.inr (.inr 8))), (.inl (0, 19, 0, 0)), zIA, zIA, (.inl (0, 23, 1, 0))], [(.inl (0, 7, 0, 0)), (.inl ((-2147483648), 2147483647, 0, 5))]),
  (55, [(.inl 2), (.inr (24, 5)), (.inl 6)], (0, 0), [(.inr (.inr (.inl (44, 44)))), (.inr (.inr (.inr 8))), (.inl (0, 19, 0, 0)), zIA, zIA, (.inl (0, 23, 1, 0))], [(.inl ((-2147483648), 2147483647, 0, 4)), (.inl (0, 7, 0, 0)), (.inl ((-2147483648), 2147483647, 0, 5))]),
  (58, [(.inl 2), (.inr (24, 5)), (.inl 5)], (0, 0), [(.inr (.inr (.inl (44, 44)))), (.inr (.inr (.inr 8))), (.inl (0, 19, 0, 0)), (.inl ((-1), 7, 0, 0)), zIA, (.inl (0, 23, 1, 0))], [(.inl ((-2147483648), 2147483647, 0, 5))]),
  (59, [(.inl 2), (.inr (24, 5)), (.inl 4)], (0, 0), [(.inr (.inr (.inl (44, 44)))), (.inr (.inr (.inr 8))), (.inl (0, 19, 0, 0)), (.inl ((-1), 7, 0, 0)), zIA, (.inl (0, 23, 1, 0))], [(.inl (1, 1, 0, 0)), (.inl ((-2147483648), 2147483647, 0, 5))]),
  (62, [(.inl 2), (.inr (24, 5)), (.inl 3)], (0, 0), [(.inr (.inr (.inl (44, 44)))), (.inr (.inr (.inr 8))), zIA, zIA, zIA, (.inl (0, 23, 1, 0))], [(.inl ((-2147483648), 2147483647, 0, 5))]),
  (63, [(.inl 2), (.inr (24, 5)), (.inl 2)], (0, 0), [(.inr (.inr (.inl (44, 44)))), (.inr (.inr (.inr 8))), zIA, zIA, zIA, (.inl (0, 23, 1, 0))], [(.inl (0, 1, 0, 0)), (.inl ((-2147483648), 2147483647, 0, 5))]),
  (64, [(.inl 2), (.inr (24, 5)), (.inl 1)], (0, 0), [(.inr (.inr (.inl (44, 44)))), (.inr (.inr (.inr 8))), zIA, zIA, zIA, (.inl (0, 23, 1, 0))], [zIA]),
  (66, [(.inl 2), (.inr (24, 5)), (.inl 0)], (0, 0), [(.inr (.inr (.inl (44, 44)))), (.inr (.inr (.inr 8))), zIA, zIA, zIA, (.inl (0, 23, 1, 0))], []),
  (69, [(.inl 2), (.inr (24, 5)), (.inl 30)], (0, 0), [(.inr (.inr (.inl (44, 44)))), (.inr (.inr (.inr 8))), zIA, zIA, zIA, (.inl (1, 24, 0, 0))], []),
  (72, [(.inl 1), (.inl 0), (.inl 0)], (0, 0), [(.inr (.inr (.inl (44, 44)))), (.inr (.inr (.inr 8))), zIA, zIA, zIA, (.inl (0, 24, 0, 0))], []),
  (74, [(.inl 0), (.inl 0), (.inl 0)], (0, 0), [(.inr (.inr (.inl (44, 44)))), (.inr (.inr (.inr 8))), zIA, zIA, zIA, (.inl (0, 24, 0, 0))], [(.inl ((-2147483648), 2147483647, 0, 5))])]
theorem g_158a {xs : List Int32} : zGd xs ct_158a := zmeth (cs := [ct_239a, ct_243a]) ct_158a ce_158a (List.forall_mem_cons.mpr ⟨g_239a, List.forall_mem_cons.mpr ⟨g_243a, fun _ h => absurd h List.not_mem_nil⟩⟩) (by decide +kernel)
def ct_158b : zCt := (158, [(.inr (.inr (.inl (44, 44)))), (.inr (.inr (.inr 9))), zIA, zIA], some zIA, 4, 0, 0)
def ce_158b : List zCe := [(0, [(.inl 6), (.inl 0), (.inl 0)], (0, 0), [(.inr (.inr (.inl (44, 44)))), (.inr (.inr (.inr 9))), zIA, zIA, (.inr (.inr (.inr 0))), (.inr (.inr (.inr 0)))], []),
  (1, [(.inl 5), (.inl 0), (.inl 0)], (0, 0), [(.inr (.inr (.inl (44, 44)))), (.inr (.inr (.inr 9))), zIA, zIA, (.inr (.inr (.inr 0))), (.inr (.inr (.inr 0)))], [(.inl (0, 0, 0, 0))]),
  (3, [(.inl 4), (.inl 0), (.inl 0)], (0, 0), [(.inr (.inr (.inl (44, 44)))), (.inr (.inr (.inr 9))), zIA, zIA, (.inl (0, 0, 0, 0)), (.inr (.inr (.inr 0)))], []),
  (4, [(.inl 3), (.inl 0), (.inl 0)], (0, 0), [(.inr (.inr (.inl (44, 44)))), (.inr (.inr (.inr 9))), zIA, zIA, (.inl (0, 0, 0, 0)), (.inr (.inr (.inr 0)))], [(.inl (0, 0, 0, 0))]),
  (6, [(.inl 2), (.inr (24, 5)), (.inl 29)], (0, 0), [(.inr (.inr (.inl (44, 44)))), (.inr (.inr (.inr 9))), zIA, zIA, zIA, (.inl (0, 24, 0, 0))], []),
  (8, [(.inl 2), (.inr (24, 5)), (.inl 28)], (0, 0), [(.inr (.inr (.inl (44, 44)))), (.inr (.inr (.inr 9))), zIA, zIA, zIA, (.inl (0, 24, 0, 0))], [(.inl (0, 24, 0, 6))]),
  (9, [(.inl 2), (.inr (24, 5)), (.inl 27)], (0, 0), [(.inr (.inr (.inl (44, 44)))), (.inr (.inr (.inr 9))), zIA, zIA, zIA, (.inl (0, 24, 0, 0))], [(.inr (.inr (.inr 9))), (.inl (0, 24, 0, 6))]),
  (14, [(.inl 2), (.inr (24, 5)), (.inl 26)], (0, 0), [(.inr (.inr (.inl (44, 44)))), (.inr (.inr (.inr 9))), zIA, zIA, zIA, (.inl (0, 24, 0, 0))], [(.inl (0, 24, 4, 0)), (.inl (0, 24, 0, 6))]),
  (17, [(.inl 2), (.inr (24, 5)), (.inl 25)], (0, 0), [(.inr (.inr (.inl (44, 44)))), (.inr (.inr (.inr 9))), zIA, zIA, zIA, (.inl (0, 23, 3, 0))], []),
  (19, [(.inl 2), (.inr (24, 5)), (.inl 24)], (0, 0), [(.inr (.inr (.inl (44, 44)))), (.inr (.inr (.inr 9))), zIA, zIA, zIA, (.inl (0, 23, 3, 0))], [(.inl ((-2147483648), 2147483647, 0, 5))]),
  (20, [(.inl 2), (.inr (24, 5)), (.inl 23)], (0, 0), [(.inr (.inr (.inl (44, 44)))), (.inr (.inr (.inr 9))), zIA, zIA, zIA, (.inl (0, 23, 3, 0))], [(.inr (.inr (.inr 9))), (.inl ((-2147483648), 2147483647, 0, 5))]),
  (22, [(.inl 2), (.inr (24, 5)), (.inl 22)], (0, 0), [(.inr (.inr (.inl (44, 44)))), (.inr (.inr (.inr 9))), zIA, zIA, zIA, (.inl (0, 23, 3, 0))], [(.inl (0, 23, 3, 6)), (.inr (.inr (.inr 9))), (.inl ((-2147483648), 2147483647, 0, 5))]),
  (27, [(.inl 2), (.inr (24, 5)), (.inl 21)], (0, 0), [(.inr (.inr (.inl (44, 44)))), (.inr (.inr (.inr 9))), zIA, zIA, zIA, (.inl (0, 23, 3, 0))], [(.inr (.inr (.inr 6))), (.inl ((-2147483648), 2147483647, 0, 5))]),
  (30, [(.inl 2), (.inr (24, 5)), (.inl 20)], (0, 0), [(.inr (.inr (.inl (44, 44)))), (.inr (.inr (.inr 9))), zIA, zIA, zIA, (.inl (0, 23, 3, 0))], [(.inr (.inr (.inr 6))), (.inl ((-2147483648), 2147483647, 0, 5))]),
  (31, [(.inl 2), (.inr (24, 5)), (.inl 19)], (0, 0), [(.inr (.inr (.inl (44, 44)))), (.inr (.inr (.inr 9))), zIA, zIA, zIA, (.inl (0, 23, 3, 0))], [(.inl (0, 0, 0, 0)), (.inr (.inr (.inr 6))), (.inl ((-2147483648), 2147483647, 0, 5))]),
  (32, [(.inl 2), (.inr (24, 5)), (.inl 18)], (0, 0), [(.inr (.inr (.inl (44, 44)))), (.inr (.inr (.inr 9))), zIA, zIA, zIA, (.inl (0, 23, 3, 0))], [(.inl (0, 19, 0, 0)), (.inl ((-2147483648), 2147483647, 0, 5))]),
  (33, [(.inl 2), (.inr (24, 5)), (.inl 17)], (0, 0), [(.inr (.inr (.inl (44, 44)))), (.inr (.inr (.inr 9))), zIA, zIA, zIA, (.inl (0, 23, 3, 0))], [(.inl ((-2147483648), 2147483647, 0, 3)), (.inl (0, 19, 0, 0)), (.inl ((-2147483648), 2147483647, 0, 5))]),
  (36, [(.inl 2), (.inr (24, 5)), (.inl 16)], (0, 0), [(.inr (.inr (.inl (44, 44)))), (.inr (.inr (.inr 9))), (.inl (0, 19, 0, 0)), zIA, zIA, (.inl (0, 23, 3, 0))], [(.inl ((-2147483648), 2147483647, 0, 5))]),
  (37, [(.inl 2), (.inr (24, 5)), (.inl 15)], (0, 0), [(.inr (.inr (.inl (44, 44)))), (.inr (.inr (.inr 9))), (.inl (0, 19, 0, 0)), zIA, zIA, (.inl (0, 23, 3, 0))], [(.inl ((-2147483648), 2147483647, 0, 4)), (.inl ((-2147483648), 2147483647, 0, 5))]),
  (38, [(.inl 2), (.inr (24, 5)), (.inl 14)], (0, 0), [(.inr (.inr (.inl (44, 44)))), (.inr (.inr (.inr 9))), (.inl (0, 19, 0, 0)), zIA, zIA, (.inl (0, 23, 3, 0))], [(.inl ((-1), (-1), 0, 0)), (.inl ((-2147483648), 2147483647, 0, 4)), (.inl ((-2147483648), 2147483647, 0, 5))]),
  (41, [(.inl 2), (.inr (24, 5)), (.inl 13)], (0, 0), [(.inr (.inr (.inl (44, 44)))), (.inr (.inr (.inr 9))), (.inl (0, 19, 0, 0)), zIA, zIA, (.inl (0, 23, 3, 0))], [(.inl ((-2147483648), 2147483647, 0, 5))]),
  (42, [(.inl 2), (.inr (24, 5)), (.inl 12)], (0, 0), [(.inr (.inr (.inl (44, 44)))), (.inr (.inr (.inr 9))), (.inl (0, 19, 0, 0)), zIA, zIA, (.inl (0, 23, 3, 0))], [(.inr (.inr (.inr 9))), (.inl ((-2147483648), 2147483647, 0, 5))]),
  (44, [(.inl 2), (.inr (24, 5)), (.inl 11)], (0, 0), [(.inr (.inr (.inl (44, 44)))), (.inr (.inr (.inr 9))), (.inl (0, 19, 0, 0)), zIA, zIA, (.inl (0, 23, 3, 0))], [(.inl (0, 23, 3, 6)), (.inr (.inr (.inr 9))), (.inl ((-2147483648), 2147483647, 0, 5))]),
  (49, [(.inl 2), (.inr (24, 5)), (.inl 10)], (0, 0), [(.inr (.inr (.inl (44, 44)))), (.inr (.inr (.inr 9))), (.inl (0, 19, 0, 0)), zIA, zIA, (.inl (0, 23, 3, 0))], [(.inr (.inr (.inr 6))), (.inl ((-2147483648), 2147483647, 0, 5))]),
  (52, [(.inl 2), (.inr (24, 5)), (.inl 9)], (0, 0), [(.inr (.inr (.inl (44, 44)))), (.inr (.inr (.inr 9))), (.inl (0, 19, 0, 0)), zIA, zIA, (.inl (0, 23, 3, 0))], [(.inr (.inr (.inr 6))), (.inl ((-2147483648), 2147483647, 0, 5))]),
  (53, [(.inl 2), (.inr (24, 5)), (.inl 8)], (0, 0), [(.inr (.inr (.inl (44, 44)))), (.inr (.inr (.inr 9))), (.inl (0, 19, 0, 0)), zIA, zIA, (.inl (0, 23, 3, 0))], [(.inl (1, 1, 0, 0)), (.inr (.inr (.inr 6))), (.inl ((-2147483648), 2147483647, 0, 5))]),
  (54, [(.inl 2), (.inr (24, 5)), (.inl 7)], (0, 0), [(.inr (.inr (.inl (44, 44)))), (.inr (.inr (.inr 9))), (.inl (0, 19, 0, 0)), zIA, zIA, (.inl (0, 23, 3, 0))], [(.inl (0, 7, 0, 0)), (.inl ((-2147483648), 2147483647, 0, 5))]),
  (55, [(.inl 2), (.inr (24, 5)), (.inl 6)], (0, 0), [(.inr (.inr (.inl (44, 44)))), (.inr (.inr (.inr 9))), (.inl (0, 19, 0, 0)), zIA, zIA, (.inl (0, 23, 3, 0))], [(.inl ((-2147483648), 2147483647, 0, 4)), (.inl (0, 7, 0, 0)), (.inl ((-2147483648), 2147483647, 0, 5))]),
  (58, [(.inl 2), (.inr (24, 5)), (.inl 5)], (0, 0), [(.inr (.inr (.inl (44, 44)))), (.inr (.inr (.inr 9))), (.inl (0, 19, 0, 0)), (.inl ((-1), 7, 0, 0)), zIA, (.inl (0, 23, 3, 0))], [(.inl ((-2147483648), 2147483647, 0, 5))]),
  (59, [(.inl 2), (.inr (24, 5)), (.inl 4)], (0, 0), [(.inr (.inr (.inl (44, 44)))), (.inr (.inr (.inr 9))), (.inl (0, 19, 0, 0)), (.inl ((-1), 7, 0, 0)), zIA, (.inl (0, 23, 3, 0))], [(.inl (1, 1, 0, 0)), (.inl ((-2147483648), 2147483647, 0, 5))]),
  (62, [(.inl 2), (.inr (24, 5)), (.inl 3)], (0, 0), [(.inr (.inr (.inl (44, 44)))), (.inr (.inr (.inr 9))), zIA, zIA, zIA, (.inl (0, 23, 3, 0))], [(.inl ((-2147483648), 2147483647, 0, 5))]),
  (63, [(.inl 2), (.inr (24, 5)), (.inl 2)], (0, 0), [(.inr (.inr (.inl (44, 44)))), (.inr (.inr (.inr 9))), zIA, zIA, zIA, (.inl (0, 23, 3, 0))], [(.inl (0, 1, 0, 0)), (.inl ((-2147483648), 2147483647, 0, 5))]),
  (64, [(.inl 2), (.inr (24, 5)), (.inl 1)], (0, 0), [(.inr (.inr (.inl (44, 44)))), (.inr (.inr (.inr 9))), zIA, zIA, zIA, (.inl (0, 23, 3, 0))], [zIA]),
  (66, [(.inl 2), (.inr (24, 5)), (.inl 0)], (0, 0), [(.inr (.inr (.inl (44, 44)))), (.inr (.inr (.inr 9))), zIA, zIA, zIA, (.inl (0, 23, 3, 0))], []),
  (69, [(.inl 2), (.inr (24, 5)), (.inl 30)], (0, 0), [(.inr (.inr (.inl (44, 44)))), (.inr (.inr (.inr 9))), zIA, zIA, zIA, (.inl (1, 24, 0, 0))], []),
  (72, [(.inl 1), (.inl 0), (.inl 0)], (0, 0), [(.inr (.inr (.inl (44, 44)))), (.inr (.inr (.inr 9))), zIA, zIA, zIA, (.inl (0, 24, 0, 0))], []),
  (74, [(.inl 0), (.inl 0), (.inl 0)], (0, 0), [(.inr (.inr (.inl (44, 44)))), (.inr (.inr (.inr 9))), zIA, zIA, zIA, (.inl (0, 24, 0, 0))], [(.inl ((-2147483648), 2147483647, 0, 5))])]
theorem g_158b {xs : List Int32} : zGd xs ct_158b := zmeth (cs := [ct_239b, ct_243b]) ct_158b ce_158b (List.forall_mem_cons.mpr ⟨g_239b, List.forall_mem_cons.mpr ⟨g_243b, fun _ h => absurd h List.not_mem_nil⟩⟩) (by decide +kernel)
def ct_159 : zCt := (159, [(.inr (.inr (.inl (44, 44)))), (.inl (0, 127, 0, 0)), zIA], some zIA, 6, 0, 0)
def ce_159 : List zCe := [(0, [(.inl 55)], (0, 0), [(.inr (.inr (.inl (44, 44)))), (.inl (0, 127, 0, 0)), zIA, (.inr (.inr (.inr 0))), (.inr (.inr (.inr 0)))], []),
  (1, [(.inl 54)], (0, 0), [(.inr (.inr (.inl (44, 44)))), (.inl (0, 127, 0, 0)), zIA, (.inr (.inr (.inr 0))), (.inr (.inr (.inr 0)))], [(.inr (.inr (.inl (44, 44))))]),
  (2, [(.inl 53)], (0, 0), [(.inr (.inr (.inl (44, 44)))), (.inl (0, 127, 0, 0)), zIA, (.inr (.inr (.inr 0))), (.inr (.inr (.inr 0)))], [(.inl (0, 127, 0, 2)), (.inr (.inr (.inl (44, 44))))]),
  (5, [(.inl 52)], (0, 0), [(.inr (.inr (.inl (44, 44)))), (.inl (0, 127, 0, 0)), zIA, (.inr (.inr (.inr 0))), (.inr (.inr (.inr 0)))], [(.inl (0, 19, 0, 0))]),
  (6, [(.inl 51)], (0, 0), [(.inr (.inr (.inl (44, 44)))), (.inl (0, 127, 0, 0)), zIA, (.inl (0, 19, 0, 0)), (.inr (.inr (.inr 0)))], []),
  (7, [(.inl 50)], (0, 0), [(.inr (.inr (.inl (44, 44)))), (.inl (0, 127, 0, 0)), zIA, (.inl (0, 19, 0, 0)), (.inr (.inr (.inr 0)))], [(.inl (0, 127, 0, 2))]),
  (9, [(.inl 49)], (0, 0), [(.inr (.inr (.inl (44, 44)))), (.inl (0, 127, 0, 0)), zIA, (.inl (0, 19, 0, 0)), (.inr (.inr (.inr 0)))], [(.inl (8, 8, 0, 0)), (.inl (0, 127, 0, 2))]),
  (10, [(.inl 48)], (0, 0), [(.inr (.inr (.inl (44, 44)))), (.inl (0, 127, 0, 0)), zIA, (.inl (0, 19, 0, 0)), (.inr (.inr (.inr 0)))], [(.inl (0, 7, 0, 0))]),
  (12, [(.inl 47)], (0, 0), [(.inr (.inr (.inl (44, 44)))), (.inl (0, 127, 0, 0)), zIA, (.inl (0, 19, 0, 0)), (.inl (0, 7, 0, 0))], []),
  (13, [(.inl 46)], (0, 0), [(.inr (.inr (.inl (44, 44)))), (.inl (0, 127, 0, 0)), zIA, (.inl (0, 19, 0, 0)), (.inl (0, 7, 0, 0))], [(.inl ((-2147483648), 2147483647, 0, 3))]),
  (52, [(.inl 10)], (0, 0), [(.inr (.inr (.inl (44, 44)))), (.inl (0, 127, 0, 0)), zIA, (.inl (0, 19, 0, 0)), (.inl (0, 7, 0, 0))], []),
  (53, [(.inl 9)], (0, 0), [(.inr (.inr (.inl (44, 44)))), (.inl (0, 127, 0, 0)), zIA, (.inl (0, 19, 0, 0)), (.inl (0, 7, 0, 0))], [(.inr (.inr (.inl (44, 44))))]),
  (54, [(.inl 8)], (0, 0), [(.inr (.inr (.inl (44, 44)))), (.inl (0, 127, 0, 0)), zIA, (.inl (0, 19, 0, 0)), (.inl (0, 7, 0, 0))], [(.inl (0, 127, 0, 2)), (.inr (.inr (.inl (44, 44))))]),
  (57, [(.inl 7)], (0, 0), [(.inr (.inr (.inl (44, 44)))), (.inl (0, 127, 0, 0)), zIA, (.inl (0, 19, 0, 0)), (.inl (0, 7, 0, 0))], [zIA]),
  (58, [(.inl 16)], (0, 0), [(.inr (.inr (.inl (44, 44)))), (.inl (0, 127, 0, 0)), zIA, (.inl (0, 19, 0, 0)), (.inl (0, 7, 0, 0))], []),
  (59, [(.inl 15)], (0, 0), [(.inr (.inr (.inl (44, 44)))), (.inl (0, 127, 0, 0)), zIA, (.inl (0, 19, 0, 0)), (.inl (0, 7, 0, 0))], [(.inr (.inr (.inl (44, 44))))]),
  (60, [(.inl 14)], (0, 0), [(.inr (.inr (.inl (44, 44)))), (.inl (0, 127, 0, 0)), zIA, (.inl (0, 19, 0, 0)), (.inl (0, 7, 0, 0))], [(.inr (.inr (.inl (44, 44)))), (.inr (.inr (.inl (44, 44))))]),
  (61, [(.inl 13)], (0, 0), [(.inr (.inr (.inl (44, 44)))), (.inl (0, 127, 0, 0)), zIA, (.inl (0, 19, 0, 0)), (.inl (0, 7, 0, 0))], [(.inl (0, 127, 0, 2)), (.inr (.inr (.inl (44, 44)))), (.inr (.inr (.inl (44, 44))))]),
  (64, [(.inl 12)], (0, 0), [(.inr (.inr (.inl (44, 44)))), (.inl (0, 127, 0, 0)), zIA, (.inl (0, 19, 0, 0)), (.inl (0, 7, 0, 0))], [zIA, (.inr (.inr (.inl (44, 44))))]),
  (67, [(.inl 11)], (0, 0), [(.inr (.inr (.inl (44, 44)))), (.inl (0, 127, 0, 0)), zIA, (.inl (0, 19, 0, 0)), (.inl (0, 7, 0, 0))], [(.inl (0, 2, 0, 0))]),
  (68, [(.inl 25)], (0, 0), [(.inr (.inr (.inl (44, 44)))), (.inl (0, 127, 0, 0)), zIA, (.inl (0, 19, 0, 0)), (.inl (0, 7, 0, 0))], []),
  (69, [(.inl 24)], (0, 0), [(.inr (.inr (.inl (44, 44)))), (.inl (0, 127, 0, 0)), zIA, (.inl (0, 19, 0, 0)), (.inl (0, 7, 0, 0))], [(.inr (.inr (.inl (44, 44))))]),
  (72, [(.inl 23)], (0, 0), [(.inr (.inr (.inl (44, 44)))), (.inl (0, 127, 0, 0)), zIA, (.inl (0, 19, 0, 0)), (.inl (0, 7, 0, 0))], [(.inr (.inr (.inl (71, 71))))]),
  (73, [(.inl 22)], (0, 0), [(.inr (.inr (.inl (44, 44)))), (.inl (0, 127, 0, 0)), zIA, (.inl (0, 19, 0, 0)), (.inl (0, 7, 0, 0))], [(.inl (0, 127, 0, 2)), (.inr (.inr (.inl (71, 71))))]),
  (74, [(.inl 21)], (0, 0), [(.inr (.inr (.inl (44, 44)))), (.inl (0, 127, 0, 0)), zIA, (.inl (0, 19, 0, 0)), (.inl (0, 7, 0, 0))], [(.inl (0, 1, 0, 0))]),
  (77, [(.inl 20)], (0, 0), [(.inr (.inr (.inl (44, 44)))), (.inl (0, 127, 0, 0)), zIA, (.inl (0, 19, 0, 0)), (.inl (0, 7, 0, 0))], []),
  (78, [(.inl 19)], (0, 0), [(.inr (.inr (.inl (44, 44)))), (.inl (0, 127, 0, 0)), zIA, (.inl (0, 19, 0, 0)), (.inl (0, 7, 0, 0))], [(.inl (1, 1, 0, 0))]),
  (81, [(.inl 18)], (0, 0), [(.inr (.inr (.inl (44, 44)))), (.inl (0, 127, 0, 0)), zIA, (.inl (0, 19, 0, 0)), (.inl (0, 7, 0, 0))], []),
  (82, [(.inl 17)], (0, 0), [(.inr (.inr (.inl (44, 44)))), (.inl (0, 127, 0, 0)), zIA, (.inl (0, 19, 0, 0)), (.inl (0, 7, 0, 0))], [(.inl (0, 1, 0, 0))]),
  (83, [(.inl 34)], (0, 0), [(.inr (.inr (.inl (44, 44)))), (.inl (0, 127, 0, 0)), zIA, (.inl (0, 19, 0, 0)), (.inl (0, 7, 0, 0))], []),
  (84, [(.inl 33)], (0, 0), [(.inr (.inr (.inl (44, 44)))), (.inl (0, 127, 0, 0)), zIA, (.inl (0, 19, 0, 0)), (.inl (0, 7, 0, 0))], [(.inr (.inr (.inl (44, 44))))]),
  (87, [(.inl 32)], (0, 0), [(.inr (.inr (.inl (44, 44)))), (.inl (0, 127, 0, 0)), zIA, (.inl (0, 19, 0, 0)), (.inl (0, 7, 0, 0))], [(.inr (.inr (.inl (72, 72))))]),
  (88, [(.inl 31)], (0, 0), [(.inr (.inr (.inl (44, 44)))), (.inl (0, 127, 0, 0)), zIA, (.inl (0, 19, 0, 0)), (.inl (0, 7, 0, 0))], [(.inl (0, 127, 0, 2)), (.inr (.inr (.inl (72, 72))))]),
  (89, [(.inl 30)], (0, 0), [(.inr (.inr (.inl (44, 44)))), (.inl (0, 127, 0, 0)), zIA, (.inl (0, 19, 0, 0)), (.inl (0, 7, 0, 0))], [(.inl (0, 1, 0, 0))]),
  (92, [(.inl 29)], (0, 0), [(.inr (.inr (.inl (44, 44)))), (.inl (0, 127, 0, 0)), zIA, (.inl (0, 19, 0, 0)), (.inl (0, 7, 0, 0))], []),
  (93, [(.inl 28)], (0, 0), [(.inr (.inr (.inl (44, 44)))), (.inl (0, 127, 0, 0)), zIA, (.inl (0, 19, 0, 0)), (.inl (0, 7, 0, 0))], [(.inl (1, 1, 0, 0))]),
  (96, [(.inl 27)], (0, 0), [(.inr (.inr (.inl (44, 44)))), (.inl (0, 127, 0, 0)), zIA, (.inl (0, 19, 0, 0)), (.inl (0, 7, 0, 0))], []),
  (97, [(.inl 26)], (0, 0), [(.inr (.inr (.inl (44, 44)))), (.inl (0, 127, 0, 0)), zIA, (.inl (0, 19, 0, 0)), (.inl (0, 7, 0, 0))], [(.inl (0, 1, 0, 0))]),
  (98, [(.inl 38)], (0, 0), [(.inr (.inr (.inl (44, 44)))), (.inl (0, 127, 0, 0)), zIA, (.inl (0, 19, 0, 0)), (.inl (0, 7, 0, 0))], []),
  (99, [(.inl 37)], (0, 0), [(.inr (.inr (.inl (44, 44)))), (.inl (0, 127, 0, 0)), zIA, (.inl (0, 19, 0, 0)), (.inl (0, 7, 0, 0))], [(.inl (0, 19, 0, 4))]),
  (101, [(.inl 36)], (0, 0), [(.inr (.inr (.inl (44, 44)))), (.inl (0, 127, 0, 0)), zIA, (.inl (0, 19, 0, 0)), (.inl (0, 7, 0, 0))], [(.inl (10, 10, 0, 0)), (.inl (0, 19, 0, 4))]),
  (102, [(.inl 35)], (0, 0), [(.inr (.inr (.inl (44, 44)))), (.inl (0, 127, 0, 0)), zIA, (.inl (0, 19, 0, 0)), (.inl (0, 7, 0, 0))], [(.inl (0, 9, 0, 0))]),
  (103, [(.inl 45)], (0, 0), [(.inr (.inr (.inl (44, 44)))), (.inl (0, 127, 0, 0)), zIA, (.inl (0, 19, 0, 0)), (.inl (0, 7, 0, 0))], []),
  (104, [(.inl 44)], (0, 0), [(.inr (.inr (.inl (44, 44)))), (.inl (0, 127, 0, 0)), zIA, (.inl (0, 19, 0, 0)), (.inl (0, 7, 0, 0))], [(.inr (.inr (.inl (44, 44))))]),
  (105, [(.inl 43)], (0, 0), [(.inr (.inr (.inl (44, 44)))), (.inl (0, 127, 0, 0)), zIA, (.inl (0, 19, 0, 0)), (.inl (0, 7, 0, 0))], [(.inr (.inr (.inl (44, 44)))), (.inr (.inr (.inl (44, 44))))]),
  (108, [(.inl 42)], (0, 0), [(.inr (.inr (.inl (44, 44)))), (.inl (0, 127, 0, 0)), zIA, (.inl (0, 19, 0, 0)), (.inl (0, 7, 0, 0))], [(.inr (.inr (.inr 8))), (.inr (.inr (.inl (44, 44))))]),
  (109, [(.inl 41)], (0, 0), [(.inr (.inr (.inl (44, 44)))), (.inl (0, 127, 0, 0)), zIA, (.inl (0, 19, 0, 0)), (.inl (0, 7, 0, 0))], [(.inl (0, 19, 0, 4)), (.inr (.inr (.inr 8))), (.inr (.inr (.inl (44, 44))))]),
  (111, [(.inl 40)], (0, 0), [(.inr (.inr (.inl (44, 44)))), (.inl (0, 127, 0, 0)), zIA, (.inl (0, 19, 0, 0)), (.inl (0, 7, 0, 0))], [(.inl (0, 7, 0, 5)), (.inl (0, 19, 0, 4)), (.inr (.inr (.inr 8))), (.inr (.inr (.inl (44, 44))))]),
  (114, [(.inl 39)], (0, 0), [(.inr (.inr (.inl (44, 44)))), (.inl (0, 127, 0, 0)), zIA, (.inl (0, 19, 0, 0)), (.inl (0, 7, 0, 0))], [zIA]),
  (115, [(.inl 6)], (0, 0), [(.inr (.inr (.inl (44, 44)))), (.inl (0, 127, 0, 0)), zIA, (.inl (0, 19, 0, 0)), (.inl (0, 7, 0, 0))], []),
  (116, [(.inl 5)], (0, 0), [(.inr (.inr (.inl (44, 44)))), (.inl (0, 127, 0, 0)), zIA, (.inl (0, 19, 0, 0)), (.inl (0, 7, 0, 0))], [(.inr (.inr (.inl (44, 44))))]),
  (117, [(.inl 4)], (0, 0), [(.inr (.inr (.inl (44, 44)))), (.inl (0, 127, 0, 0)), zIA, (.inl (0, 19, 0, 0)), (.inl (0, 7, 0, 0))], [(.inr (.inr (.inl (44, 44)))), (.inr (.inr (.inl (44, 44))))]),
  (120, [(.inl 3)], (0, 0), [(.inr (.inr (.inl (44, 44)))), (.inl (0, 127, 0, 0)), zIA, (.inl (0, 19, 0, 0)), (.inl (0, 7, 0, 0))], [(.inr (.inr (.inr 9))), (.inr (.inr (.inl (44, 44))))]),
  (121, [(.inl 2)], (0, 0), [(.inr (.inr (.inl (44, 44)))), (.inl (0, 127, 0, 0)), zIA, (.inl (0, 19, 0, 0)), (.inl (0, 7, 0, 0))], [(.inl (0, 19, 0, 4)), (.inr (.inr (.inr 9))), (.inr (.inr (.inl (44, 44))))]),
  (123, [(.inl 1)], (0, 0), [(.inr (.inr (.inl (44, 44)))), (.inl (0, 127, 0, 0)), zIA, (.inl (0, 19, 0, 0)), (.inl (0, 7, 0, 0))], [(.inl (0, 7, 0, 5)), (.inl (0, 19, 0, 4)), (.inr (.inr (.inr 9))), (.inr (.inr (.inl (44, 44))))]),
  (126, [(.inl 0)], (0, 0), [(.inr (.inr (.inl (44, 44)))), (.inl (0, 127, 0, 0)), zIA, (.inl (0, 19, 0, 0)), (.inl (0, 7, 0, 0))], [zIA])]
theorem g_159 {xs : List Int32} : zGd xs ct_159 := zmeth (cs := [ct_121, ct_124, ct_125, ct_158a, ct_158b]) ct_159 ce_159 (List.forall_mem_cons.mpr ⟨g_121, List.forall_mem_cons.mpr ⟨g_124, List.forall_mem_cons.mpr ⟨g_125, List.forall_mem_cons.mpr ⟨g_158a, List.forall_mem_cons.mpr ⟨g_158b, fun _ h => absurd h List.not_mem_nil⟩⟩⟩⟩⟩) (by decide +kernel)
def ct_160 : zCt := (160, [(.inr (.inr (.inl (44, 44)))), zIA, zIA], some zIA, 7, 0, 0)
def ce_160 : List zCe := [(0, [(.inl 23)], (0, 0), [(.inr (.inr (.inl (44, 44)))), zIA, zIA], []),
  (1, [(.inl 22)], (0, 0), [(.inr (.inr (.inl (44, 44)))), zIA, zIA], [(.inr (.inr (.inl (44, 44))))]),
  (2, [(.inl 21)], (0, 0), [(.inr (.inr (.inl (44, 44)))), zIA, zIA], [(.inl (0, 0, 0, 0)), (.inr (.inr (.inl (44, 44))))]),
  (5, [(.inl 20)], (0, 0), [(.inr (.inr (.inl (44, 44)))), zIA, zIA], []),
  (6, [(.inl 19)], (0, 0), [(.inr (.inr (.inl (44, 44)))), zIA, zIA], [(.inl ((-2147483648), 2147483647, 0, 2))]),
  (9, [(.inl 18)], (0, 0), [(.inr (.inr (.inl (44, 44)))), zIA, zIA], [(.inr (.inl (1, 0, 127, 0)))]),
  (12, [(.inl 17)], (0, 0), [(.inr (.inr (.inl (44, 44)))), zIA, zIA], []),
  (13, [(.inl 16)], (0, 0), [(.inr (.inr (.inl (44, 44)))), zIA, zIA], [(.inr (.inr (.inl (44, 44))))]),
  (14, [(.inl 15)], (0, 0), [(.inr (.inr (.inl (44, 44)))), zIA, zIA], [(.inl (1, 1, 0, 0)), (.inr (.inr (.inl (44, 44))))]),
  (17, [(.inl 14)], (0, 0), [(.inr (.inr (.inl (44, 44)))), zIA, zIA], [(.inl (0, 0, 0, 0))]),
  (18, [(.inl 13)], (0, 0), [(.inr (.inr (.inl (44, 44)))), (.inl (0, 127, 0, 0)), zIA], []),
  (19, [(.inl 12)], (0, 0), [(.inr (.inr (.inl (44, 44)))), (.inl (0, 127, 0, 0)), zIA], [(.inl ((-2147483648), 2147483647, 0, 3))]),
  (20, [(.inl 11)], (0, 0), [(.inr (.inr (.inl (44, 44)))), (.inl (0, 127, 0, 0)), zIA], [(.inl (0, 0, 0, 0)), (.inl ((-2147483648), 2147483647, 0, 3))]),
  (22, [(.inl 10)], (0, 0), [(.inr (.inr (.inl (44, 44)))), (.inl (0, 127, 0, 0)), zIA], [(.inl (6, 6, 0, 0)), (.inl (0, 0, 0, 0)), (.inl ((-2147483648), 2147483647, 0, 3))]),
  (25, [(.inl 9)], (0, 0), [(.inr (.inr (.inl (44, 44)))), (.inl (0, 127, 0, 0)), zIA], [(.inr (.inl (2, 0, 6, 0)))]),
  (28, [(.inl 8)], (0, 0), [(.inr (.inr (.inl (44, 44)))), (.inl (0, 127, 0, 0)), zIA], []),
  (29, [(.inl 7)], (0, 0), [(.inr (.inr (.inl (44, 44)))), (.inl (0, 127, 0, 0)), zIA], [(.inr (.inr (.inl (44, 44))))]),
  (30, [(.inl 6)], (0, 0), [(.inr (.inr (.inl (44, 44)))), (.inl (0, 127, 0, 0)), zIA], [(.inl (2, 2, 0, 0)), (.inr (.inr (.inl (44, 44))))]),
  (33, [(.inl 5)], (0, 0), [(.inr (.inr (.inl (44, 44)))), (.inl (0, 127, 0, 0)), zIA], [(.inl (0, 0, 0, 0))]),
  (34, [(.inl 4)], (0, 0), [(.inr (.inr (.inl (44, 44)))), (.inl (0, 127, 0, 0)), (.inl (0, 6, 0, 0))], []),
  (35, [(.inl 3)], (0, 0), [(.inr (.inr (.inl (44, 44)))), (.inl (0, 127, 0, 0)), (.inl (0, 6, 0, 0))], [(.inr (.inr (.inl (44, 44))))]),
  (36, [(.inl 2)], (0, 0), [(.inr (.inr (.inl (44, 44)))), (.inl (0, 127, 0, 0)), (.inl (0, 6, 0, 0))], [(.inl (0, 127, 0, 2)), (.inr (.inr (.inl (44, 44))))]),
  (37, [(.inl 1)], (0, 0), [(.inr (.inr (.inl (44, 44)))), (.inl (0, 127, 0, 0)), (.inl (0, 6, 0, 0))], [(.inl (0, 6, 0, 3)), (.inl (0, 127, 0, 2)), (.inr (.inr (.inl (44, 44))))]),
  (40, [(.inl 0)], (0, 0), [(.inr (.inr (.inl (44, 44)))), (.inl (0, 127, 0, 0)), (.inl (0, 6, 0, 0))], [zIA])]
theorem g_160 {xs : List Int32} : zGd xs ct_160 := zmeth (cs := [ct_111, ct_138, ct_159]) ct_160 ce_160 (List.forall_mem_cons.mpr ⟨g_111, List.forall_mem_cons.mpr ⟨g_138, List.forall_mem_cons.mpr ⟨g_159, fun _ h => absurd h List.not_mem_nil⟩⟩⟩) (by decide +kernel)
def ct_161 : zCt := (161, [(.inr (.inr (.inl (44, 44)))), (.inl (0, 19, 0, 0))], some zIA, 6, 0, 0)
def ce_161 : List zCe := [(0, [(.inl 14), (.inl 0), (.inl 0)], (0, 0), [(.inr (.inr (.inl (44, 44)))), (.inl (0, 19, 0, 0)), (.inr (.inr (.inr 0))), (.inr (.inr (.inr 0))), (.inr (.inr (.inr 0))), (.inr (.inr (.inr 0))), (.inr (.inr (.inr 0)))], []),
  (1, [(.inl 13), (.inl 0), (.inl 0)], (0, 0), [(.inr (.inr (.inl (44, 44)))), (.inl (0, 19, 0, 0)), (.inr (.inr (.inr 0))), (.inr (.inr (.inr 0))), (.inr (.inr (.inr 0))), (.inr (.inr (.inr 0))), (.inr (.inr (.inr 0)))], [(.inl (0, 0, 0, 0))]),
  (2, [(.inl 12), (.inl 0), (.inl 0)], (0, 0), [(.inr (.inr (.inl (44, 44)))), (.inl (0, 19, 0, 0)), (.inl (0, 0, 0, 0)), (.inr (.inr (.inr 0))), (.inr (.inr (.inr 0))), (.inr (.inr (.inr 0))), (.inr (.inr (.inr 0)))], []),
  (3, [(.inl 11), (.inl 0), (.inl 0)], (0, 0), [(.inr (.inr (.inl (44, 44)))), (.inl (0, 19, 0, 0)), (.inl (0, 0, 0, 0)), (.inr (.inr (.inr 0))), (.inr (.inr (.inr 0))), (.inr (.inr (.inr 0))), (.inr (.inr (.inr 0)))], [(.inr (.inr (.inl (44, 44))))]),
  (6, [(.inl 10), (.inl 0), (.inl 0)], (0, 0), [(.inr (.inr (.inl (44, 44)))), (.inl (0, 19, 0, 0)), (.inl (0, 0, 0, 0)), (.inr (.inr (.inr 0))), (.inr (.inr (.inr 0))), (.inr (.inr (.inr 0))), (.inr (.inr (.inr 0)))], [(.inr (.inr (.inl (46, 46))))]),
  (7, [(.inl 9), (.inl 0), (.inl 0)], (0, 0), [(.inr (.inr (.inl (44, 44)))), (.inl (0, 19, 0, 0)), (.inl (0, 0, 0, 0)), (.inr (.inr (.inr 0))), (.inr (.inr (.inr 0))), (.inr (.inr (.inr 0))), (.inr (.inr (.inr 0)))], [(.inl (0, 19, 0, 2)), (.inr (.inr (.inl (46, 46))))]),
  (8, [(.inl 8), (.inl 0), (.inl 0)], (0, 0), [(.inr (.inr (.inl (44, 44)))), (.inl (0, 19, 0, 0)), (.inl (0, 0, 0, 0)), (.inr (.inr (.inr 0))), (.inr (.inr (.inr 0))), (.inr (.inr (.inr 0))), (.inr (.inr (.inr 0)))], [(.inr (.inr (.inl (47, 66))))]),
  (9, [(.inl 7), (.inl 0), (.inl 0)], (0, 0), [(.inr (.inr (.inl (44, 44)))), (.inl (0, 19, 0, 0)), (.inl (0, 0, 0, 0)), (.inr (.inr (.inl (47, 66)))), (.inr (.inr (.inr 0))), (.inr (.inr (.inr 0))), (.inr (.inr (.inr 0)))], []),
  (10, [(.inl 6), (.inl 0), (.inl 0)], (0, 0), [(.inr (.inr (.inl (44, 44)))), (.inl (0, 19, 0, 0)), (.inl (0, 0, 0, 0)), (.inr (.inr (.inl (47, 66)))), (.inr (.inr (.inr 0))), (.inr (.inr (.inr 0))), (.inr (.inr (.inr 0)))], [(.inr (.inr (.inl (47, 66))))]),
  (11, [(.inl 5), (.inl 0), (.inl 0)], (0, 0), [(.inr (.inr (.inl (44, 44)))), (.inl (0, 19, 0, 0)), (.inl (0, 0, 0, 0)), (.inr (.inr (.inl (47, 66)))), (.inr (.inr (.inr 0))), (.inr (.inr (.inr 0))), (.inr (.inr (.inr 0)))], [(.inl (8, 8, 0, 0))]),
  (13, [(.inl 4), (.inl 0), (.inl 0)], (0, 0), [(.inr (.inr (.inl (44, 44)))), (.inl (0, 19, 0, 0)), (.inl (0, 0, 0, 0)), (.inr (.inr (.inl (47, 66)))), (.inl (8, 8, 0, 0)), (.inr (.inr (.inr 0))), (.inr (.inr (.inr 0)))], []),
  (14, [(.inl 3), (.inl 0), (.inl 0)], (0, 0), [(.inr (.inr (.inl (44, 44)))), (.inl (0, 19, 0, 0)), (.inl (0, 0, 0, 0)), (.inr (.inr (.inl (47, 66)))), (.inl (8, 8, 0, 0)), (.inr (.inr (.inr 0))), (.inr (.inr (.inr 0)))], [(.inl (0, 0, 0, 0))]),
  (16, [(.inl 2), (.inr (8, 5)), (.inl 17)], (0, 0), [(.inr (.inr (.inl (44, 44)))), (.inl (0, 19, 0, 0)), zIA, (.inr (.inr (.inl (47, 66)))), (.inl (8, 8, 0, 0)), (.inl (0, 8, 0, 0)), (.inr (.inr (.inr 0)))], []),
  (18, [(.inl 2), (.inr (8, 5)), (.inl 16)], (0, 0), [(.inr (.inr (.inl (44, 44)))), (.inl (0, 19, 0, 0)), zIA, (.inr (.inr (.inl (47, 66)))), (.inl (8, 8, 0, 0)), (.inl (0, 8, 0, 0)), (.inr (.inr (.inr 0)))], [(.inl (0, 8, 0, 6))]),
  (20, [(.inl 2), (.inr (8, 5)), (.inl 15)], (0, 0), [(.inr (.inr (.inl (44, 44)))), (.inl (0, 19, 0, 0)), zIA, (.inr (.inr (.inl (47, 66)))), (.inl (8, 8, 0, 0)), (.inl (0, 8, 0, 0)), (.inr (.inr (.inr 0)))], [(.inl (8, 8, 0, 5)), (.inl (0, 8, 0, 6))]),
  (23, [(.inl 2), (.inr (8, 5)), (.inl 14)], (0, 0), [(.inr (.inr (.inl (44, 44)))), (.inl (0, 19, 0, 0)), zIA, (.inr (.inr (.inl (47, 66)))), (.inl (8, 8, 0, 0)), (.inl (0, 7, 0, 0)), (.inr (.inr (.inr 0)))], []),
  (24, [(.inl 2), (.inr (8, 5)), (.inl 13)], (0, 0), [(.inr (.inr (.inl (44, 44)))), (.inl (0, 19, 0, 0)), zIA, (.inr (.inr (.inl (47, 66)))), (.inl (8, 8, 0, 0)), (.inl (0, 7, 0, 0)), (.inr (.inr (.inr 0)))], [(.inr (.inr (.inl (47, 66))))]),
  (26, [(.inl 2), (.inr (8, 5)), (.inl 12)], (0, 0), [(.inr (.inr (.inl (44, 44)))), (.inl (0, 19, 0, 0)), zIA, (.inr (.inr (.inl (47, 66)))), (.inl (8, 8, 0, 0)), (.inl (0, 7, 0, 0)), (.inr (.inr (.inr 0)))], [(.inl (0, 7, 0, 6)), (.inr (.inr (.inl (47, 66))))]),
  (27, [(.inl 2), (.inr (8, 5)), (.inl 11)], (0, 0), [(.inr (.inr (.inl (44, 44)))), (.inl (0, 19, 0, 0)), zIA, (.inr (.inr (.inl (47, 66)))), (.inl (8, 8, 0, 0)), (.inl (0, 7, 0, 0)), (.inr (.inr (.inr 0)))], [zIA]),
  (29, [(.inl 2), (.inr (8, 5)), (.inl 10)], (0, 0), [(.inr (.inr (.inl (44, 44)))), (.inl (0, 19, 0, 0)), zIA, (.inr (.inr (.inl (47, 66)))), (.inl (8, 8, 0, 0)), (.inl (0, 7, 0, 0)), zIA], []),
  (30, [(.inl 2), (.inr (8, 5)), (.inl 9)], (0, 0), [(.inr (.inr (.inl (44, 44)))), (.inl (0, 19, 0, 0)), zIA, (.inr (.inr (.inl (47, 66)))), (.inl (8, 8, 0, 0)), (.inl (0, 7, 0, 0)), zIA], [(.inl ((-2147483648), 2147483647, 0, 3))]),
  (31, [(.inl 2), (.inr (8, 5)), (.inl 8)], (0, 0), [(.inr (.inr (.inl (44, 44)))), (.inl (0, 19, 0, 0)), zIA, (.inr (.inr (.inl (47, 66)))), (.inl (8, 8, 0, 0)), (.inl (0, 7, 0, 0)), zIA], [(.inr (.inr (.inl (44, 44)))), (.inl ((-2147483648), 2147483647, 0, 3))]),
  (33, [(.inl 2), (.inr (8, 5)), (.inl 7)], (0, 0), [(.inr (.inr (.inl (44, 44)))), (.inl (0, 19, 0, 0)), zIA, (.inr (.inr (.inl (47, 66)))), (.inl (8, 8, 0, 0)), (.inl (0, 7, 0, 0)), zIA], [(.inl ((-2147483648), 2147483647, 0, 7)), (.inr (.inr (.inl (44, 44)))), (.inl ((-2147483648), 2147483647, 0, 3))]),
  (36, [(.inl 2), (.inr (8, 5)), (.inl 6)], (0, 0), [(.inr (.inr (.inl (44, 44)))), (.inl (0, 19, 0, 0)), zIA, (.inr (.inr (.inl (47, 66)))), (.inl (8, 8, 0, 0)), (.inl (0, 7, 0, 0)), zIA], [(.inl (0, 2, 0, 0)), (.inl ((-2147483648), 2147483647, 0, 3))]),
  (39, [(.inl 2), (.inr (8, 5)), (.inl 5)], (0, 0), [(.inr (.inr (.inl (44, 44)))), (.inl (0, 19, 0, 0)), zIA, (.inr (.inr (.inl (47, 66)))), (.inl (8, 8, 0, 0)), (.inl (0, 7, 0, 0)), zIA], [(.inl ((-2147483648), 2147483647, 0, 3))]),
  (40, [(.inl 2), (.inr (8, 5)), (.inl 4)], (0, 0), [(.inr (.inr (.inl (44, 44)))), (.inl (0, 19, 0, 0)), zIA, (.inr (.inr (.inl (47, 66)))), (.inl (8, 8, 0, 0)), (.inl (0, 7, 0, 0)), zIA], [(.inl (0, 0, 0, 0)), (.inl ((-2147483648), 2147483647, 0, 3))]),
  (43, [(.inl 2), (.inr (8, 5)), (.inl 3)], (0, 0), [(.inr (.inr (.inl (44, 44)))), (.inl (0, 19, 0, 0)), zIA, (.inr (.inr (.inl (47, 66)))), (.inl (8, 8, 0, 0)), (.inl (0, 7, 0, 0)), zIA], [(.inl ((-2147483648), 2147483647, 0, 3))]),
  (44, [(.inl 2), (.inr (8, 5)), (.inl 2)], (0, 0), [(.inr (.inr (.inl (44, 44)))), (.inl (0, 19, 0, 0)), zIA, (.inr (.inr (.inl (47, 66)))), (.inl (8, 8, 0, 0)), (.inl (0, 7, 0, 0)), zIA], [(.inl (0, 1, 0, 0)), (.inl ((-2147483648), 2147483647, 0, 3))]),
  (45, [(.inl 2), (.inr (8, 5)), (.inl 1)], (0, 0), [(.inr (.inr (.inl (44, 44)))), (.inl (0, 19, 0, 0)), zIA, (.inr (.inr (.inl (47, 66)))), (.inl (8, 8, 0, 0)), (.inl (0, 7, 0, 0)), zIA], [zIA]),
  (46, [(.inl 2), (.inr (8, 5)), (.inl 0)], (0, 0), [(.inr (.inr (.inl (44, 44)))), (.inl (0, 19, 0, 0)), zIA, (.inr (.inr (.inl (47, 66)))), (.inl (8, 8, 0, 0)), (.inl (0, 7, 0, 0)), zIA], []),
  (49, [(.inl 2), (.inr (8, 5)), (.inl 18)], (0, 0), [(.inr (.inr (.inl (44, 44)))), (.inl (0, 19, 0, 0)), zIA, (.inr (.inr (.inl (47, 66)))), (.inl (8, 8, 0, 0)), (.inl (1, 8, 0, 0)), zIA], []),
  (52, [(.inl 1), (.inl 0), (.inl 0)], (0, 0), [(.inr (.inr (.inl (44, 44)))), (.inl (0, 19, 0, 0)), zIA, (.inr (.inr (.inl (47, 66)))), (.inl (8, 8, 0, 0)), (.inl (8, 8, 0, 0)), (.inr (.inr (.inr 0)))], []),
  (53, [(.inl 0), (.inl 0), (.inl 0)], (0, 0), [(.inr (.inr (.inl (44, 44)))), (.inl (0, 19, 0, 0)), zIA, (.inr (.inr (.inl (47, 66)))), (.inl (8, 8, 0, 0)), (.inl (8, 8, 0, 0)), (.inr (.inr (.inr 0)))], [(.inl ((-2147483648), 2147483647, 0, 3))])]
theorem g_161 {xs : List Int32} : zGd xs ct_161 := zmeth (cs := [ct_121]) ct_161 ce_161 (List.forall_mem_cons.mpr ⟨g_121, fun _ h => absurd h List.not_mem_nil⟩) (by decide +kernel)
def ct_162 : zCt := (162, [(.inr (.inr (.inl (44, 44)))), zIA], some zIA, 2, 0, 0)
def ce_162 : List zCe := [(0, [(.inl 8), (.inl 0), (.inl 0)], (0, 0), [(.inr (.inr (.inl (44, 44)))), zIA, (.inr (.inr (.inr 0)))], []),
  (1, [(.inl 7), (.inl 0), (.inl 0)], (0, 0), [(.inr (.inr (.inl (44, 44)))), zIA, (.inr (.inr (.inr 0)))], [(.inl (0, 0, 0, 0))]),
  (2, [(.inl 6), (.inr (16, 2)), (.inl 11)], (0, 0), [(.inr (.inr (.inl (44, 44)))), zIA, (.inl (0, 16, 0, 0))], []),
  (3, [(.inl 6), (.inr (16, 2)), (.inl 10)], (0, 0), [(.inr (.inr (.inl (44, 44)))), zIA, (.inl (0, 16, 0, 0))], [(.inl (0, 16, 0, 3))]),
  (4, [(.inl 6), (.inr (16, 2)), (.inl 9)], (0, 0), [(.inr (.inr (.inl (44, 44)))), zIA, (.inl (0, 16, 0, 0))], [(.inr (.inr (.inl (44, 44)))), (.inl (0, 16, 0, 3))]),
  (7, [(.inl 6), (.inr (16, 2)), (.inl 8)], (0, 0), [(.inr (.inr (.inl (44, 44)))), zIA, (.inl (0, 16, 0, 0))], [(.inr (.inr (.inl (69, 69)))), (.inl (0, 16, 0, 3))]),
  (8, [(.inl 6), (.inr (16, 2)), (.inl 7)], (0, 0), [(.inr (.inr (.inl (44, 44)))), zIA, (.inl (0, 16, 0, 0))], [(.inl (16, 16, 0, 0)), (.inl (0, 16, 0, 3))]),
  (11, [(.inl 6), (.inr (16, 2)), (.inl 6)], (0, 0), [(.inr (.inr (.inl (44, 44)))), zIA, (.inl (0, 15, 0, 0))], []),
  (12, [(.inl 6), (.inr (16, 2)), (.inl 5)], (0, 0), [(.inr (.inr (.inl (44, 44)))), zIA, (.inl (0, 15, 0, 0))], [(.inr (.inr (.inl (44, 44))))]),
  (15, [(.inl 6), (.inr (16, 2)), (.inl 4)], (0, 0), [(.inr (.inr (.inl (44, 44)))), zIA, (.inl (0, 15, 0, 0))], [(.inr (.inr (.inl (69, 69))))]),
  (16, [(.inl 6), (.inr (16, 2)), (.inl 3)], (0, 0), [(.inr (.inr (.inl (44, 44)))), zIA, (.inl (0, 15, 0, 0))], [(.inl (0, 15, 0, 3)), (.inr (.inr (.inl (69, 69))))]),
  (17, [(.inl 6), (.inr (16, 2)), (.inl 2)], (0, 0), [(.inr (.inr (.inl (44, 44)))), zIA, (.inl (0, 15, 0, 0))], [(.inl (0, 19, 0, 0))]),
  (18, [(.inl 6), (.inr (16, 2)), (.inl 1)], (0, 0), [(.inr (.inr (.inl (44, 44)))), zIA, (.inl (0, 15, 0, 0))], [(.inl ((-2147483648), 2147483647, 0, 2)), (.inl (0, 19, 0, 0))]),
  (21, [(.inl 5), (.inl 0), (.inl 0)], (0, 0), [(.inr (.inr (.inl (44, 44)))), (.inl (0, 19, 0, 0)), (.inl (0, 15, 0, 0))], []),
  (22, [(.inl 4), (.inl 0), (.inl 0)], (0, 0), [(.inr (.inr (.inl (44, 44)))), (.inl (0, 19, 0, 0)), (.inl (0, 15, 0, 0))], [(.inl (0, 15, 0, 3))]),
  (24, [(.inl 3), (.inl 0), (.inl 0)], (0, 0), [(.inr (.inr (.inl (44, 44)))), (.inl (0, 19, 0, 0)), (.inl (0, 15, 0, 0))], [(.inl (8, 8, 0, 0)), (.inl (0, 15, 0, 3))]),
  (25, [(.inl 2), (.inl 0), (.inl 0)], (0, 0), [(.inr (.inr (.inl (44, 44)))), (.inl (0, 19, 0, 0)), (.inl (0, 15, 0, 0))], [(.inl (0, 7, 0, 0))]),
  (26, [(.inl 6), (.inr (16, 2)), (.inl 0)], (0, 0), [(.inr (.inr (.inl (44, 44)))), zIA, (.inl (0, 15, 0, 0))], []),
  (29, [(.inl 6), (.inr (16, 2)), (.inl 12)], (0, 0), [(.inr (.inr (.inl (44, 44)))), zIA, (.inl (1, 16, 0, 0))], []),
  (32, [(.inl 1), (.inl 0), (.inl 0)], (0, 0), [(.inr (.inr (.inl (44, 44)))), zIA, (.inl (16, 16, 0, 0))], []),
  (33, [(.inl 0), (.inl 0), (.inl 0)], (0, 0), [(.inr (.inr (.inl (44, 44)))), zIA, (.inl (16, 16, 0, 0))], [(.inl ((-1), (-1), 0, 0))])]
theorem g_162 {xs : List Int32} : zGd xs ct_162 := zmeth (cs := []) ct_162 ce_162 (fun _ h => absurd h List.not_mem_nil) (by decide +kernel)
def ct_163 : zCt := (163, [(.inr (.inr (.inl (44, 44)))), (.inl (0, 19, 0, 0)), zIA], some zIA, 7, 0, 0)
def ce_163 : List zCe := [(0, [(.inl 29)], (0, 0), [(.inr (.inr (.inl (44, 44)))), (.inl (0, 19, 0, 0)), zIA], []),
  (1, [(.inl 28)], (0, 0), [(.inr (.inr (.inl (44, 44)))), (.inl (0, 19, 0, 0)), zIA], [(.inl ((-2147483648), 2147483647, 0, 3))]),
  (32, [(.inl 8)], (0, 0), [(.inr (.inr (.inl (44, 44)))), (.inl (0, 19, 0, 0)), zIA], []),
  (33, [(.inl 7)], (0, 0), [(.inr (.inr (.inl (44, 44)))), (.inl (0, 19, 0, 0)), zIA], [(.inr (.inr (.inl (44, 44))))]),
  (36, [(.inl 6)], (0, 0), [(.inr (.inr (.inl (44, 44)))), (.inl (0, 19, 0, 0)), zIA], [(.inr (.inr (.inl (67, 67))))]),
  (37, [(.inl 5)], (0, 0), [(.inr (.inr (.inl (44, 44)))), (.inl (0, 19, 0, 0)), zIA], [(.inl (0, 19, 0, 2)), (.inr (.inr (.inl (67, 67))))]),
  (38, [(.inl 4)], (0, 0), [(.inr (.inr (.inl (44, 44)))), (.inl (0, 19, 0, 0)), zIA], [zIA]),
  (39, [(.inl 12)], (0, 0), [(.inr (.inr (.inl (44, 44)))), (.inl (0, 19, 0, 0)), zIA], []),
  (40, [(.inl 11)], (0, 0), [(.inr (.inr (.inl (44, 44)))), (.inl (0, 19, 0, 0)), zIA], [(.inr (.inr (.inl (44, 44))))]),
  (41, [(.inl 10)], (0, 0), [(.inr (.inr (.inl (44, 44)))), (.inl (0, 19, 0, 0)), zIA], [(.inl (0, 19, 0, 2)), (.inr (.inr (.inl (44, 44))))]),
  (44, [(.inl 9)], (0, 0), [(.inr (.inr (.inl (44, 44)))), (.inl (0, 19, 0, 0)), zIA], [zIA]),
  (45, [(.inl 20)], (0, 0), [(.inr (.inr (.inl (44, 44)))), (.inl (0, 19, 0, 0)), zIA], []),
  (46, [(.inl 19)], (0, 0), [(.inr (.inr (.inl (44, 44)))), (.inl (0, 19, 0, 0)), zIA], [(.inr (.inr (.inl (44, 44))))]),
  (49, [(.inl 18)], (0, 0), [(.inr (.inr (.inl (44, 44)))), (.inl (0, 19, 0, 0)), zIA], [(.inl (0, 2000, 0, 0))]),
  (50, [(.inl 17)], (0, 0), [(.inr (.inr (.inl (44, 44)))), (.inl (0, 19, 0, 0)), zIA], [(.inr (.inr (.inl (44, 44)))), (.inl (0, 2000, 0, 0))]),
  (53, [(.inl 16)], (0, 0), [(.inr (.inr (.inl (44, 44)))), (.inl (0, 19, 0, 0)), zIA], [(.inr (.inr (.inl (68, 68)))), (.inl (0, 2000, 0, 0))]),
  (54, [(.inl 15)], (0, 0), [(.inr (.inr (.inl (44, 44)))), (.inl (0, 19, 0, 0)), zIA], [(.inl (0, 19, 0, 2)), (.inr (.inr (.inl (68, 68)))), (.inl (0, 2000, 0, 0))]),
  (55, [(.inl 14)], (0, 0), [(.inr (.inr (.inl (44, 44)))), (.inl (0, 19, 0, 0)), zIA], [zIA, (.inl (0, 2000, 0, 0))]),
  (56, [(.inl 13)], (0, 0), [(.inr (.inr (.inl (44, 44)))), (.inl (0, 19, 0, 0)), zIA], [zIA]),
  (57, [(.inl 27)], (0, 0), [(.inr (.inr (.inl (44, 44)))), (.inl (0, 19, 0, 0)), zIA], []),
  (58, [(.inl 26)], (0, 0), [(.inr (.inr (.inl (44, 44)))), (.inl (0, 19, 0, 0)), zIA], [(.inr (.inr (.inl (44, 44))))]),
  (59, [(.inl 25)], (0, 0), [(.inr (.inr (.inl (44, 44)))), (.inl (0, 19, 0, 0)), zIA], [(.inr (.inr (.inl (44, 44)))), (.inr (.inr (.inl (44, 44))))]),
  (62, [(.inl 24)], (0, 0), [(.inr (.inr (.inl (44, 44)))), (.inl (0, 19, 0, 0)), zIA], [(.inr (.inr (.inr 8))), (.inr (.inr (.inl (44, 44))))]),
  (63, [(.inl 23)], (0, 0), [(.inr (.inr (.inl (44, 44)))), (.inl (0, 19, 0, 0)), zIA], [(.inl (0, 19, 0, 2)), (.inr (.inr (.inr 8))), (.inr (.inr (.inl (44, 44))))]),
  (64, [(.inl 22)], (0, 0), [(.inr (.inr (.inl (44, 44)))), (.inl (0, 19, 0, 0)), zIA], [(.inl ((-1), (-1), 0, 0)), (.inl (0, 19, 0, 2)), (.inr (.inr (.inr 8))), (.inr (.inr (.inl (44, 44))))]),
  (67, [(.inl 21)], (0, 0), [(.inr (.inr (.inl (44, 44)))), (.inl (0, 19, 0, 0)), zIA], [zIA]),
  (68, [(.inl 3)], (0, 0), [(.inr (.inr (.inl (44, 44)))), (.inl (0, 19, 0, 0)), zIA], []),
  (69, [(.inl 2)], (0, 0), [(.inr (.inr (.inl (44, 44)))), (.inl (0, 19, 0, 0)), zIA], [(.inr (.inr (.inl (44, 44))))]),
  (70, [(.inl 1)], (0, 0), [(.inr (.inr (.inl (44, 44)))), (.inl (0, 19, 0, 0)), zIA], [(.inl (0, 19, 0, 2)), (.inr (.inr (.inl (44, 44))))]),
  (73, [(.inl 0)], (0, 0), [(.inr (.inr (.inl (44, 44)))), (.inl (0, 19, 0, 0)), zIA], [zIA])]
theorem g_163 {xs : List Int32} : zGd xs ct_163 := zmeth (cs := [ct_158a, ct_161, ct_162]) ct_163 ce_163 (List.forall_mem_cons.mpr ⟨g_158a, List.forall_mem_cons.mpr ⟨g_161, List.forall_mem_cons.mpr ⟨g_162, fun _ h => absurd h List.not_mem_nil⟩⟩⟩) (by decide +kernel)
def ct_164 : zCt := (164, [(.inr (.inr (.inl (44, 44)))), zIA, zIA, zIA], some zIA, 8, 0, 0)
def ce_164 : List zCe := [(0, [(.inl 34)], (0, 0), [(.inr (.inr (.inl (44, 44)))), zIA, zIA, zIA], []),
  (1, [(.inl 33)], (0, 0), [(.inr (.inr (.inl (44, 44)))), zIA, zIA, zIA], [(.inr (.inr (.inl (44, 44))))]),
  (2, [(.inl 32)], (0, 0), [(.inr (.inr (.inl (44, 44)))), zIA, zIA, zIA], [(.inl (0, 0, 0, 0)), (.inr (.inr (.inl (44, 44))))]),
  (5, [(.inl 31)], (0, 0), [(.inr (.inr (.inl (44, 44)))), zIA, zIA, zIA], []),
  (6, [(.inl 30)], (0, 0), [(.inr (.inr (.inl (44, 44)))), zIA, zIA, zIA], [(.inl ((-2147483648), 2147483647, 0, 2))]),
  (7, [(.inl 29)], (0, 0), [(.inr (.inr (.inl (44, 44)))), zIA, zIA, zIA], [(.inl (0, 0, 0, 0)), (.inl ((-2147483648), 2147483647, 0, 2))]),
  (8, [(.inl 28)], (0, 0), [(.inr (.inr (.inl (44, 44)))), zIA, zIA, zIA], [(.inl (1, 1, 0, 0)), (.inl (0, 0, 0, 0)), (.inl ((-2147483648), 2147483647, 0, 2))]),
  (11, [(.inl 27)], (0, 0), [(.inr (.inr (.inl (44, 44)))), zIA, zIA, zIA], [(.inr (.inl (1, 0, 1, 0)))]),
  (14, [(.inl 26)], (0, 0), [(.inr (.inr (.inl (44, 44)))), (.inl (0, 1, 0, 0)), zIA, zIA], []),
  (15, [(.inl 25)], (0, 0), [(.inr (.inr (.inl (44, 44)))), (.inl (0, 1, 0, 0)), zIA, zIA], [(.inl ((-2147483648), 2147483647, 0, 3))]),
  (16, [(.inl 24)], (0, 0), [(.inr (.inr (.inl (44, 44)))), (.inl (0, 1, 0, 0)), zIA, zIA], [(.inl (0, 0, 0, 0)), (.inl ((-2147483648), 2147483647, 0, 3))]),
  (18, [(.inl 23)], (0, 0), [(.inr (.inr (.inl (44, 44)))), (.inl (0, 1, 0, 0)), zIA, zIA], [(.inl (9, 9, 0, 0)), (.inl (0, 0, 0, 0)), (.inl ((-2147483648), 2147483647, 0, 3))]),
  (21, [(.inl 22)], (0, 0), [(.inr (.inr (.inl (44, 44)))), (.inl (0, 1, 0, 0)), zIA, zIA], [(.inr (.inl (2, 0, 9, 0)))]),
  (24, [(.inl 3)], (0, 0), [(.inr (.inr (.inl (44, 44)))), zIA, zIA, zIA], []),
  (25, [(.inl 2)], (0, 0), [(.inr (.inr (.inl (44, 44)))), zIA, zIA, zIA], [(.inr (.inr (.inl (44, 44))))]),
  (26, [(.inl 1)], (0, 0), [(.inr (.inr (.inl (44, 44)))), zIA, zIA, zIA], [(.inl (1, 1, 0, 0)), (.inr (.inr (.inl (44, 44))))]),
  (29, [(.inl 0)], (0, 0), [(.inr (.inr (.inl (44, 44)))), zIA, zIA, zIA], [(.inl (0, 0, 0, 0))]),
  (30, [(.inl 21)], (0, 0), [(.inr (.inr (.inl (44, 44)))), (.inl (0, 1, 0, 0)), (.inl (0, 9, 0, 0)), zIA], []),
  (31, [(.inl 20)], (0, 0), [(.inr (.inr (.inl (44, 44)))), (.inl (0, 1, 0, 0)), (.inl (0, 9, 0, 0)), zIA], [(.inl ((-2147483648), 2147483647, 0, 4))]),
  (32, [(.inl 19)], (0, 0), [(.inr (.inr (.inl (44, 44)))), (.inl (0, 1, 0, 0)), (.inl (0, 9, 0, 0)), zIA], [(.inl (0, 0, 0, 0)), (.inl ((-2147483648), 2147483647, 0, 4))]),
  (33, [(.inl 18)], (0, 0), [(.inr (.inr (.inl (44, 44)))), (.inl (0, 1, 0, 0)), (.inl (0, 9, 0, 0)), zIA], [(.inl (4, 4, 0, 0)), (.inl (0, 0, 0, 0)), (.inl ((-2147483648), 2147483647, 0, 4))]),
  (36, [(.inl 17)], (0, 0), [(.inr (.inr (.inl (44, 44)))), (.inl (0, 1, 0, 0)), (.inl (0, 9, 0, 0)), zIA], [(.inr (.inl (3, 0, 4, 0)))]),
  (39, [(.inl 16)], (0, 0), [(.inr (.inr (.inl (44, 44)))), (.inl (0, 1, 0, 0)), (.inl (0, 9, 0, 0)), zIA], []),
  (40, [(.inl 15)], (0, 0), [(.inr (.inr (.inl (44, 44)))), (.inl (0, 1, 0, 0)), (.inl (0, 9, 0, 0)), zIA], [(.inr (.inr (.inl (44, 44))))]),
  (41, [(.inl 14)], (0, 0), [(.inr (.inr (.inl (44, 44)))), (.inl (0, 1, 0, 0)), (.inl (0, 9, 0, 0)), zIA], [(.inl (2, 2, 0, 0)), (.inr (.inr (.inl (44, 44))))]),
  (44, [(.inl 13)], (0, 0), [(.inr (.inr (.inl (44, 44)))), (.inl (0, 1, 0, 0)), (.inl (0, 9, 0, 0)), zIA], [(.inl (0, 0, 0, 0))]),
  (45, [(.inl 12)], (0, 0), [(.inr (.inr (.inl (44, 44)))), (.inl (0, 1, 0, 0)), (.inl (0, 9, 0, 0)), (.inl (0, 4, 0, 0))], []),
  (46, [(.inl 11)], (0, 0), [(.inr (.inr (.inl (44, 44)))), (.inl (0, 1, 0, 0)), (.inl (0, 9, 0, 0)), (.inl (0, 4, 0, 0))], [(.inr (.inr (.inl (44, 44))))]),
  (47, [(.inl 10)], (0, 0), [(.inr (.inr (.inl (44, 44)))), (.inl (0, 1, 0, 0)), (.inl (0, 9, 0, 0)), (.inl (0, 4, 0, 0))], [(.inl (0, 1, 0, 2)), (.inr (.inr (.inl (44, 44))))]),
  (49, [(.inl 9)], (0, 0), [(.inr (.inr (.inl (44, 44)))), (.inl (0, 1, 0, 0)), (.inl (0, 9, 0, 0)), (.inl (0, 4, 0, 0))], [(.inl (10, 10, 0, 0)), (.inl (0, 1, 0, 2)), (.inr (.inr (.inl (44, 44))))]),
  (50, [(.inl 8)], (0, 0), [(.inr (.inr (.inl (44, 44)))), (.inl (0, 1, 0, 0)), (.inl (0, 9, 0, 0)), (.inl (0, 4, 0, 0))], [(.inl (0, 10, 0, 0)), (.inr (.inr (.inl (44, 44))))]),
  (51, [(.inl 7)], (0, 0), [(.inr (.inr (.inl (44, 44)))), (.inl (0, 1, 0, 0)), (.inl (0, 9, 0, 0)), (.inl (0, 4, 0, 0))], [(.inl (0, 9, 0, 3)), (.inl (0, 10, 0, 0)), (.inr (.inr (.inl (44, 44))))]),
  (52, [(.inl 6)], (0, 0), [(.inr (.inr (.inl (44, 44)))), (.inl (0, 1, 0, 0)), (.inl (0, 9, 0, 0)), (.inl (0, 4, 0, 0))], [(.inl (0, 19, 0, 0)), (.inr (.inr (.inl (44, 44))))]),
  (53, [(.inl 5)], (0, 0), [(.inr (.inr (.inl (44, 44)))), (.inl (0, 1, 0, 0)), (.inl (0, 9, 0, 0)), (.inl (0, 4, 0, 0))], [(.inl (0, 4, 0, 4)), (.inl (0, 19, 0, 0)), (.inr (.inr (.inl (44, 44))))]),
  (56, [(.inl 4)], (0, 0), [(.inr (.inr (.inl (44, 44)))), (.inl (0, 1, 0, 0)), (.inl (0, 9, 0, 0)), (.inl (0, 4, 0, 0))], [zIA])]
theorem g_164 {xs : List Int32} : zGd xs ct_164 := zmeth (cs := [ct_111, ct_163]) ct_164 ce_164 (List.forall_mem_cons.mpr ⟨g_111, List.forall_mem_cons.mpr ⟨g_163, fun _ h => absurd h List.not_mem_nil⟩⟩) (by decide +kernel)
def ct_165 : zCt := (165, [(.inr (.inr (.inl (44, 44)))), zIA, zIA], some zIA, 4, 0, 0)
def ce_165 : List zCe := [(0, [(.inl 32)], (0, 0), [(.inr (.inr (.inl (44, 44)))), zIA, zIA], []),
  (1, [(.inl 31)], (0, 0), [(.inr (.inr (.inl (44, 44)))), zIA, zIA], [(.inr (.inr (.inl (44, 44))))]),
  (2, [(.inl 30)], (0, 0), [(.inr (.inr (.inl (44, 44)))), zIA, zIA], [(.inl (0, 0, 0, 0)), (.inr (.inr (.inl (44, 44))))]),
  (5, [(.inl 29)], (0, 0), [(.inr (.inr (.inl (44, 44)))), zIA, zIA], []),
  (6, [(.inl 28)], (0, 0), [(.inr (.inr (.inl (44, 44)))), zIA, zIA], [(.inl ((-2147483648), 2147483647, 0, 2))]),
  (7, [(.inl 27)], (0, 0), [(.inr (.inr (.inl (44, 44)))), zIA, zIA], [(.inl (0, 0, 0, 0)), (.inl ((-2147483648), 2147483647, 0, 2))]),
  (8, [(.inl 26)], (0, 0), [(.inr (.inr (.inl (44, 44)))), zIA, zIA], [(.inr (.inr (.inl (44, 44)))), (.inl (0, 0, 0, 0)), (.inl ((-2147483648), 2147483647, 0, 2))]),
  (11, [(.inl 25)], (0, 0), [(.inr (.inr (.inl (44, 44)))), zIA, zIA], [(.inr (.inr (.inr 10))), (.inl (0, 0, 0, 0)), (.inl ((-2147483648), 2147483647, 0, 2))]),
  (16, [(.inl 24)], (0, 0), [(.inr (.inr (.inl (44, 44)))), zIA, zIA], [(.inl (0, 40, 6, 0)), (.inl (0, 0, 0, 0)), (.inl ((-2147483648), 2147483647, 0, 2))]),
  (17, [(.inl 23)], (0, 0), [(.inr (.inr (.inl (44, 44)))), zIA, zIA], [(.inl (1, 1, 0, 0)), (.inl (0, 40, 6, 0)), (.inl (0, 0, 0, 0)), (.inl ((-2147483648), 2147483647, 0, 2))]),
  (18, [(.inl 22)], (0, 0), [(.inr (.inr (.inl (44, 44)))), zIA, zIA], [(.inl ((-1), 39, 5, 0)), (.inl (0, 0, 0, 0)), (.inl ((-2147483648), 2147483647, 0, 2))]),
  (21, [(.inl 21)], (0, 0), [(.inr (.inr (.inl (44, 44)))), zIA, zIA], [(.inr (.inl (1, 0, 39, 5)))]),
  (24, [(.inl 20)], (0, 0), [(.inr (.inr (.inl (44, 44)))), zIA, zIA], []),
  (25, [(.inl 19)], (0, 0), [(.inr (.inr (.inl (44, 44)))), zIA, zIA], [(.inr (.inr (.inl (44, 44))))]),
  (26, [(.inl 18)], (0, 0), [(.inr (.inr (.inl (44, 44)))), zIA, zIA], [(.inl (1, 1, 0, 0)), (.inr (.inr (.inl (44, 44))))]),
  (29, [(.inl 17)], (0, 0), [(.inr (.inr (.inl (44, 44)))), zIA, zIA], [(.inl (0, 0, 0, 0))]),
  (30, [(.inl 16)], (0, 0), [(.inr (.inr (.inl (44, 44)))), (.inl (0, 39, 5, 0)), zIA], []),
  (31, [(.inl 15)], (0, 0), [(.inr (.inr (.inl (44, 44)))), (.inl (0, 39, 5, 0)), zIA], [(.inl ((-2147483648), 2147483647, 0, 3))]),
  (32, [(.inl 14)], (0, 0), [(.inr (.inr (.inl (44, 44)))), (.inl (0, 39, 5, 0)), zIA], [(.inl (0, 0, 0, 0)), (.inl ((-2147483648), 2147483647, 0, 3))]),
  (33, [(.inl 13)], (0, 0), [(.inr (.inr (.inl (44, 44)))), (.inl (0, 39, 5, 0)), zIA], [(.inl (2, 2, 0, 0)), (.inl (0, 0, 0, 0)), (.inl ((-2147483648), 2147483647, 0, 3))]),
  (36, [(.inl 12)], (0, 0), [(.inr (.inr (.inl (44, 44)))), (.inl (0, 39, 5, 0)), zIA], [(.inr (.inl (2, 0, 2, 0)))]),
  (39, [(.inl 11)], (0, 0), [(.inr (.inr (.inl (44, 44)))), (.inl (0, 39, 5, 0)), zIA], []),
  (40, [(.inl 10)], (0, 0), [(.inr (.inr (.inl (44, 44)))), (.inl (0, 39, 5, 0)), zIA], [(.inr (.inr (.inl (44, 44))))]),
  (41, [(.inl 9)], (0, 0), [(.inr (.inr (.inl (44, 44)))), (.inl (0, 39, 5, 0)), zIA], [(.inl (2, 2, 0, 0)), (.inr (.inr (.inl (44, 44))))]),
  (44, [(.inl 8)], (0, 0), [(.inr (.inr (.inl (44, 44)))), (.inl (0, 39, 5, 0)), zIA], [(.inl (0, 0, 0, 0))]),
  (45, [(.inl 7)], (0, 0), [(.inr (.inr (.inl (44, 44)))), (.inl (0, 39, 5, 0)), (.inl (0, 2, 0, 0))], []),
  (46, [(.inl 6)], (0, 0), [(.inr (.inr (.inl (44, 44)))), (.inl (0, 39, 5, 0)), (.inl (0, 2, 0, 0))], [(.inr (.inr (.inl (44, 44))))]),
  (49, [(.inl 5)], (0, 0), [(.inr (.inr (.inl (44, 44)))), (.inl (0, 39, 5, 0)), (.inl (0, 2, 0, 0))], [(.inr (.inr (.inr 10)))]),
  (50, [(.inl 4)], (0, 0), [(.inr (.inr (.inl (44, 44)))), (.inl (0, 39, 5, 0)), (.inl (0, 2, 0, 0))], [(.inl (0, 39, 5, 2)), (.inr (.inr (.inr 10)))]),
  (55, [(.inl 3)], (0, 0), [(.inr (.inr (.inl (44, 44)))), (.inl (0, 39, 5, 0)), (.inl (0, 2, 0, 0))], [(.inr (.inr (.inr 7)))]),
  (58, [(.inl 2)], (0, 0), [(.inr (.inr (.inl (44, 44)))), (.inl (0, 39, 5, 0)), (.inl (0, 2, 0, 0))], [(.inr (.inr (.inr 7)))]),
  (59, [(.inl 1)], (0, 0), [(.inr (.inr (.inl (44, 44)))), (.inl (0, 39, 5, 0)), (.inl (0, 2, 0, 0))], [(.inl (0, 2, 0, 3)), (.inr (.inr (.inr 7)))]),
  (60, [(.inl 0)], (0, 0), [(.inr (.inr (.inl (44, 44)))), (.inl (0, 39, 5, 0)), (.inl (0, 2, 0, 0))], [zIA])]
theorem g_165 {xs : List Int32} : zGd xs ct_165 := zmeth (cs := [ct_111, ct_239c, ct_243c]) ct_165 ce_165 (List.forall_mem_cons.mpr ⟨g_111, List.forall_mem_cons.mpr ⟨g_239c, List.forall_mem_cons.mpr ⟨g_243c, fun _ h => absurd h List.not_mem_nil⟩⟩⟩) (by decide +kernel)
def ct_166 : zCt := (166, [(.inr (.inr (.inl (44, 44)))), (.inl (0, 2147483647, 5, 0)), zIA], some ((.inl (0, 1, 0, 0))), 4, 0, 0)
def ce_166 : List zCe := [(0, [(.inl 23)], (0, 0), [(.inr (.inr (.inl (44, 44)))), (.inl (0, 2147483647, 5, 0)), zIA], []),
  (1, [(.inl 22)], (0, 0), [(.inr (.inr (.inl (44, 44)))), (.inl (0, 2147483647, 5, 0)), zIA], [(.inr (.inr (.inl (44, 44))))]),
  (4, [(.inl 21)], (0, 0), [(.inr (.inr (.inl (44, 44)))), (.inl (0, 2147483647, 5, 0)), zIA], [(.inr (.inr (.inr 10)))]),
  (5, [(.inl 20)], (0, 0), [(.inr (.inr (.inl (44, 44)))), (.inl (0, 2147483647, 5, 0)), zIA], [(.inl (0, 2147483647, 5, 2)), (.inr (.inr (.inr 10)))]),
  (10, [(.inl 19)], (0, 0), [(.inr (.inr (.inl (44, 44)))), (.inl (0, 2147483647, 5, 0)), zIA], [(.inr (.inr (.inr 7)))]),
  (13, [(.inl 18)], (0, 0), [(.inr (.inr (.inl (44, 44)))), (.inl (0, 2147483647, 5, 0)), zIA], [(.inr (.inr (.inr 7)))]),
  (14, [(.inl 17)], (0, 0), [(.inr (.inr (.inl (44, 44)))), (.inl (0, 2147483647, 5, 0)), zIA], [(.inl (0, 0, 0, 0)), (.inr (.inr (.inr 7)))]),
  (15, [(.inl 16)], (0, 0), [(.inr (.inr (.inl (44, 44)))), (.inl (0, 2147483647, 5, 0)), zIA], [zIA]),
  (17, [(.inl 15)], (0, 0), [(.inr (.inr (.inl (44, 44)))), (.inl (0, 2147483647, 5, 0)), zIA], [(.inl (64, 64, 0, 0)), zIA]),
  (18, [(.inl 14)], (0, 0), [(.inr (.inr (.inl (44, 44)))), (.inl (0, 2147483647, 5, 0)), zIA], [zIA]),
  (19, [(.inl 13)], (0, 0), [(.inr (.inr (.inl (44, 44)))), (.inl (0, 2147483647, 5, 0)), zIA], [(.inl ((-2147483648), 2147483647, 0, 3)), zIA]),
  (22, [(.inl 12)], (0, 0), [(.inr (.inr (.inl (44, 44)))), (.inl (0, 2147483647, 5, 0)), zIA], []),
  (23, [(.inl 11)], (0, 0), [(.inr (.inr (.inl (44, 44)))), (.inl (0, 2147483647, 5, 0)), zIA], [(.inr (.inr (.inl (44, 44))))]),
  (26, [(.inl 10)], (0, 0), [(.inr (.inr (.inl (44, 44)))), (.inl (0, 2147483647, 5, 0)), zIA], [(.inr (.inr (.inr 10)))]),
  (27, [(.inl 9)], (0, 0), [(.inr (.inr (.inl (44, 44)))), (.inl (0, 2147483647, 5, 0)), zIA], [(.inl (0, 2147483647, 5, 2)), (.inr (.inr (.inr 10)))]),
  (32, [(.inl 8)], (0, 0), [(.inr (.inr (.inl (44, 44)))), (.inl (0, 2147483647, 5, 0)), zIA], [(.inr (.inr (.inr 7)))]),
  (35, [(.inl 7)], (0, 0), [(.inr (.inr (.inl (44, 44)))), (.inl (0, 2147483647, 5, 0)), zIA], [(.inr (.inr (.inr 7)))]),
  (36, [(.inl 6)], (0, 0), [(.inr (.inr (.inl (44, 44)))), (.inl (0, 2147483647, 5, 0)), zIA], [(.inl (1, 1, 0, 0)), (.inr (.inr (.inr 7)))]),
  (37, [(.inl 5)], (0, 0), [(.inr (.inr (.inl (44, 44)))), (.inl (0, 2147483647, 5, 0)), zIA], [zIA]),
  (38, [(.inl 4)], (0, 0), [(.inr (.inr (.inl (44, 44)))), (.inl (0, 2147483647, 5, 0)), zIA], [(.inl ((-1), (-1), 0, 0)), zIA]),
  (41, [(.inl 3)], (0, 0), [(.inr (.inr (.inl (44, 44)))), (.inl (0, 2147483647, 5, 0)), zIA], []),
  (42, [(.inl 2)], (0, 0), [(.inr (.inr (.inl (44, 44)))), (.inl (0, 2147483647, 5, 0)), zIA], [(.inl (1, 1, 0, 0))]),
  (45, [(.inl 1)], (0, 0), [(.inr (.inr (.inl (44, 44)))), (.inl (0, 2147483647, 5, 0)), zIA], []),
  (46, [(.inl 0)], (0, 0), [(.inr (.inr (.inl (44, 44)))), (.inl (0, 2147483647, 5, 0)), zIA], [(.inl (0, 1, 0, 0))])]
theorem g_166 {xs : List Int32} : zGd xs ct_166 := zmeth (cs := [ct_239c]) ct_166 ce_166 (List.forall_mem_cons.mpr ⟨g_239c, fun _ h => absurd h List.not_mem_nil⟩) (by decide +kernel)
def ct_167 : zCt := (167, [(.inr (.inr (.inl (44, 44)))), zIA, zIA, zIA, (.inl (0, 1, 0, 0))], some zIA, 5, 0, 0)
def ce_167 : List zCe := [(0, [(.inl 7), (.inl 0), (.inl 0)], (0, 0), [(.inr (.inr (.inl (44, 44)))), zIA, zIA, zIA, (.inl (0, 1, 0, 0)), (.inr (.inr (.inr 0))), (.inr (.inr (.inr 0))), (.inr (.inr (.inr 0))), (.inr (.inr (.inr 0)))], []),
  (1, [(.inl 6), (.inl 0), (.inl 0)], (0, 0), [(.inr (.inr (.inl (44, 44)))), zIA, zIA, zIA, (.inl (0, 1, 0, 0)), (.inr (.inr (.inr 0))), (.inr (.inr (.inr 0))), (.inr (.inr (.inr 0))), (.inr (.inr (.inr 0)))], [(.inl (0, 0, 0, 0))]),
  (3, [(.inl 5), (.inl 0), (.inl 0)], (0, 0), [(.inr (.inr (.inl (44, 44)))), zIA, zIA, zIA, (.inl (0, 1, 0, 0)), (.inl (0, 0, 0, 0)), (.inr (.inr (.inr 0))), (.inr (.inr (.inr 0))), (.inr (.inr (.inr 0)))], []),
  (4, [(.inl 4), (.inl 0), (.inl 0)], (0, 0), [(.inr (.inr (.inl (44, 44)))), zIA, zIA, zIA, (.inl (0, 1, 0, 0)), (.inl (0, 0, 0, 0)), (.inr (.inr (.inr 0))), (.inr (.inr (.inr 0))), (.inr (.inr (.inr 0)))], [(.inl (0, 0, 0, 0))]),
  (6, [(.inl 3), (.inr (40, 6)), (.inl 62)], (0, 0), [(.inr (.inr (.inl (44, 44)))), zIA, zIA, zIA, (.inl (0, 1, 0, 0)), zIA, (.inl (0, 40, 0, 0)), (.inr (.inr (.inr 0))), (.inr (.inr (.inr 0)))], []),
  (8, [(.inl 3), (.inr (40, 6)), (.inl 61)], (0, 0), [(.inr (.inr (.inl (44, 44)))), zIA, zIA, zIA, (.inl (0, 1, 0, 0)), zIA, (.inl (0, 40, 0, 0)), (.inr (.inr (.inr 0))), (.inr (.inr (.inr 0)))], [(.inl (0, 40, 0, 7))]),
  (9, [(.inl 3), (.inr (40, 6)), (.inl 60)], (0, 0), [(.inr (.inr (.inl (44, 44)))), zIA, zIA, zIA, (.inl (0, 1, 0, 0)), zIA, (.inl (0, 40, 0, 0)), (.inr (.inr (.inr 0))), (.inr (.inr (.inr 0)))], [(.inr (.inr (.inl (44, 44)))), (.inl (0, 40, 0, 7))]),
  (12, [(.inl 3), (.inr (40, 6)), (.inl 59)], (0, 0), [(.inr (.inr (.inl (44, 44)))), zIA, zIA, zIA, (.inl (0, 1, 0, 0)), zIA, (.inl (0, 40, 0, 0)), (.inr (.inr (.inr 0))), (.inr (.inr (.inr 0)))], [(.inr (.inr (.inr 10))), (.inl (0, 40, 0, 7))]),
  (17, [(.inl 3), (.inr (40, 6)), (.inl 58)], (0, 0), [(.inr (.inr (.inl (44, 44)))), zIA, zIA, zIA, (.inl (0, 1, 0, 0)), zIA, (.inl (0, 40, 0, 0)), (.inr (.inr (.inr 0))), (.inr (.inr (.inr 0)))], [(.inl (0, 40, 6, 0)), (.inl (0, 40, 0, 7))]),
  (20, [(.inl 3), (.inr (40, 6)), (.inl 57)], (0, 0), [(.inr (.inr (.inl (44, 44)))), zIA, zIA, zIA, (.inl (0, 1, 0, 0)), zIA, (.inl (0, 39, 5, 0)), (.inr (.inr (.inr 0))), (.inr (.inr (.inr 0)))], []),
  (21, [(.inl 3), (.inr (40, 6)), (.inl 56)], (0, 0), [(.inr (.inr (.inl (44, 44)))), zIA, zIA, zIA, (.inl (0, 1, 0, 0)), zIA, (.inl (0, 39, 5, 0)), (.inr (.inr (.inr 0))), (.inr (.inr (.inr 0)))], [(.inr (.inr (.inl (44, 44))))]),
  (23, [(.inl 3), (.inr (40, 6)), (.inl 55)], (0, 0), [(.inr (.inr (.inl (44, 44)))), zIA, zIA, zIA, (.inl (0, 1, 0, 0)), zIA, (.inl (0, 39, 5, 0)), (.inr (.inr (.inr 0))), (.inr (.inr (.inr 0)))], [(.inl (0, 39, 5, 7)), (.inr (.inr (.inl (44, 44))))]),
  (24, [(.inl 3), (.inr (40, 6)), (.inl 54)], (0, 0), [(.inr (.inr (.inl (44, 44)))), zIA, zIA, zIA, (.inl (0, 1, 0, 0)), zIA, (.inl (0, 39, 5, 0)), (.inr (.inr (.inr 0))), (.inr (.inr (.inr 0)))], [(.inl ((-2147483648), 2147483647, 0, 2)), (.inl (0, 39, 5, 7)), (.inr (.inr (.inl (44, 44))))]),
  (27, [(.inl 3), (.inr (40, 6)), (.inl 53)], (0, 0), [(.inr (.inr (.inl (44, 44)))), zIA, zIA, zIA, (.inl (0, 1, 0, 0)), zIA, (.inl (0, 39, 5, 0)), (.inr (.inr (.inr 0))), (.inr (.inr (.inr 0)))], [(.inl (0, 1, 0, 0))]),
  (30, [(.inl 3), (.inr (40, 6)), (.inl 52)], (0, 0), [(.inr (.inr (.inl (44, 44)))), zIA, zIA, zIA, (.inl (0, 1, 0, 0)), zIA, (.inl (0, 39, 5, 0)), (.inr (.inr (.inr 0))), (.inr (.inr (.inr 0)))], []),
  (33, [(.inl 3), (.inr (40, 6)), (.inl 51)], (0, 0), [(.inr (.inr (.inl (44, 44)))), zIA, zIA, zIA, (.inl (0, 1, 0, 0)), zIA, (.inl (0, 39, 5, 0)), (.inr (.inr (.inr 0))), (.inr (.inr (.inr 0)))], []),
  (34, [(.inl 3), (.inr (40, 6)), (.inl 50)], (0, 0), [(.inr (.inr (.inl (44, 44)))), zIA, zIA, zIA, (.inl (0, 1, 0, 0)), zIA, (.inl (0, 39, 5, 0)), (.inr (.inr (.inr 0))), (.inr (.inr (.inr 0)))], [(.inr (.inr (.inl (44, 44))))]),
  (37, [(.inl 3), (.inr (40, 6)), (.inl 49)], (0, 0), [(.inr (.inr (.inl (44, 44)))), zIA, zIA, zIA, (.inl (0, 1, 0, 0)), zIA, (.inl (0, 39, 5, 0)), (.inr (.inr (.inr 0))), (.inr (.inr (.inr 0)))], [(.inr (.inr (.inr 10)))]),
  (39, [(.inl 3), (.inr (40, 6)), (.inl 48)], (0, 0), [(.inr (.inr (.inl (44, 44)))), zIA, zIA, zIA, (.inl (0, 1, 0, 0)), zIA, (.inl (0, 39, 5, 0)), (.inr (.inr (.inr 0))), (.inr (.inr (.inr 0)))], [(.inl (0, 39, 5, 7)), (.inr (.inr (.inr 10)))]),
  (44, [(.inl 3), (.inr (40, 6)), (.inl 47)], (0, 0), [(.inr (.inr (.inl (44, 44)))), zIA, zIA, zIA, (.inl (0, 1, 0, 0)), zIA, (.inl (0, 39, 5, 0)), (.inr (.inr (.inr 0))), (.inr (.inr (.inr 0)))], [(.inr (.inr (.inr 7)))]),
  (47, [(.inl 3), (.inr (40, 6)), (.inl 46)], (0, 0), [(.inr (.inr (.inl (44, 44)))), zIA, zIA, zIA, (.inl (0, 1, 0, 0)), zIA, (.inl (0, 39, 5, 0)), (.inr (.inr (.inr 0))), (.inr (.inr (.inr 0)))], [(.inr (.inr (.inr 7)))]),
  (48, [(.inl 3), (.inr (40, 6)), (.inl 45)], (0, 0), [(.inr (.inr (.inl (44, 44)))), zIA, zIA, zIA, (.inl (0, 1, 0, 0)), zIA, (.inl (0, 39, 5, 0)), (.inr (.inr (.inr 0))), (.inr (.inr (.inr 0)))], [(.inl (0, 0, 0, 0)), (.inr (.inr (.inr 7)))]),
  (49, [(.inl 3), (.inr (40, 6)), (.inl 44)], (0, 0), [(.inr (.inr (.inl (44, 44)))), zIA, zIA, zIA, (.inl (0, 1, 0, 0)), zIA, (.inl (0, 39, 5, 0)), (.inr (.inr (.inr 0))), (.inr (.inr (.inr 0)))], [zIA]),
  (51, [(.inl 3), (.inr (40, 6)), (.inl 43)], (0, 0), [(.inr (.inr (.inl (44, 44)))), zIA, zIA, zIA, (.inl (0, 1, 0, 0)), zIA, (.inl (0, 39, 5, 0)), zIA, (.inr (.inr (.inr 0)))], []),
  (52, [(.inl 3), (.inr (40, 6)), (.inl 42)], (0, 0), [(.inr (.inr (.inl (44, 44)))), zIA, zIA, zIA, (.inl (0, 1, 0, 0)), zIA, (.inl (0, 39, 5, 0)), zIA, (.inr (.inr (.inr 0)))], [(.inl ((-2147483648), 2147483647, 0, 3))]),
  (53, [(.inl 3), (.inr (40, 6)), (.inl 41)], (0, 0), [(.inr (.inr (.inl (44, 44)))), zIA, zIA, zIA, (.inl (0, 1, 0, 0)), zIA, (.inl (0, 39, 5, 0)), zIA, (.inr (.inr (.inr 0)))], [(.inl (1, 1, 0, 0)), (.inl ((-2147483648), 2147483647, 0, 3))]),
  (56, [(.inl 3), (.inr (40, 6)), (.inl 40)], (0, 0), [(.inr (.inr (.inl (44, 44)))), zIA, (.inl (1, 1, 0, 0)), zIA, (.inl (0, 1, 0, 0)), zIA, (.inl (0, 39, 5, 0)), zIA, (.inr (.inr (.inr 0)))], []),
  (57, [(.inl 3), (.inr (40, 6)), (.inl 39)], (0, 0), [(.inr (.inr (.inl (44, 44)))), zIA, (.inl (1, 1, 0, 0)), zIA, (.inl (0, 1, 0, 0)), zIA, (.inl (0, 39, 5, 0)), zIA, (.inr (.inr (.inr 0)))], [(.inr (.inr (.inl (44, 44))))]),
  (60, [(.inl 3), (.inr (40, 6)), (.inl 38)], (0, 0), [(.inr (.inr (.inl (44, 44)))), zIA, (.inl (1, 1, 0, 0)), zIA, (.inl (0, 1, 0, 0)), zIA, (.inl (0, 39, 5, 0)), zIA, (.inr (.inr (.inr 0)))], [(.inr (.inr (.inr 10)))]),
  (62, [(.inl 3), (.inr (40, 6)), (.inl 37)], (0, 0), [(.inr (.inr (.inl (44, 44)))), zIA, (.inl (1, 1, 0, 0)), zIA, (.inl (0, 1, 0, 0)), zIA, (.inl (0, 39, 5, 0)), zIA, (.inr (.inr (.inr 0)))], [(.inl (0, 39, 5, 7)), (.inr (.inr (.inr 10)))]),
  (67, [(.inl 3), (.inr (40, 6)), (.inl 36)], (0, 0), [(.inr (.inr (.inl (44, 44)))), zIA, (.inl (1, 1, 0, 0)), zIA, (.inl (0, 1, 0, 0)), zIA, (.inl (0, 39, 5, 0)), zIA, (.inr (.inr (.inr 0)))], [(.inr (.inr (.inr 7)))]),
  (70, [(.inl 3), (.inr (40, 6)), (.inl 35)], (0, 0), [(.inr (.inr (.inl (44, 44)))), zIA, (.inl (1, 1, 0, 0)), zIA, (.inl (0, 1, 0, 0)), zIA, (.inl (0, 39, 5, 0)), zIA, (.inr (.inr (.inr 0)))], [(.inr (.inr (.inr 7)))]),
  (71, [(.inl 3), (.inr (40, 6)), (.inl 34)], (0, 0), [(.inr (.inr (.inl (44, 44)))), zIA, (.inl (1, 1, 0, 0)), zIA, (.inl (0, 1, 0, 0)), zIA, (.inl (0, 39, 5, 0)), zIA, (.inr (.inr (.inr 0)))], [(.inl (1, 1, 0, 0)), (.inr (.inr (.inr 7)))]),
  (72, [(.inl 3), (.inr (40, 6)), (.inl 33)], (0, 0), [(.inr (.inr (.inl (44, 44)))), zIA, (.inl (1, 1, 0, 0)), zIA, (.inl (0, 1, 0, 0)), zIA, (.inl (0, 39, 5, 0)), zIA, (.inr (.inr (.inr 0)))], [zIA]),
  (75, [(.inl 3), (.inr (40, 6)), (.inl 32)], (0, 0), [(.inr (.inr (.inl (44, 44)))), zIA, zIA, zIA, (.inl (0, 1, 0, 0)), zIA, (.inl (0, 39, 5, 0)), zIA, (.inr (.inr (.inr 0)))], []),
  (76, [(.inl 3), (.inr (40, 6)), (.inl 31)], (0, 0), [(.inr (.inr (.inl (44, 44)))), zIA, zIA, zIA, (.inl (0, 1, 0, 0)), zIA, (.inl (0, 39, 5, 0)), zIA, (.inr (.inr (.inr 0)))], [(.inl ((-2147483648), 2147483647, 0, 3))]),
  (77, [(.inl 3), (.inr (40, 6)), (.inl 30)], (0, 0), [(.inr (.inr (.inl (44, 44)))), zIA, zIA, zIA, (.inl (0, 1, 0, 0)), zIA, (.inl (0, 39, 5, 0)), zIA, (.inr (.inr (.inr 0)))], [(.inl (2, 2, 0, 0)), (.inl ((-2147483648), 2147483647, 0, 3))]),
  (80, [(.inl 3), (.inr (40, 6)), (.inl 29)], (0, 0), [(.inr (.inr (.inl (44, 44)))), zIA, (.inl (2, 2, 0, 0)), zIA, (.inl (0, 1, 0, 0)), zIA, (.inl (0, 39, 5, 0)), zIA, (.inr (.inr (.inr 0)))], []),
  (82, [(.inl 3), (.inr (40, 6)), (.inl 28)], (0, 0), [(.inr (.inr (.inl (44, 44)))), zIA, (.inl (2, 2, 0, 0)), zIA, (.inl (0, 1, 0, 0)), zIA, (.inl (0, 39, 5, 0)), zIA, (.inr (.inr (.inr 0)))], [(.inl ((-2147483648), 2147483647, 0, 8))]),
  (84, [(.inl 3), (.inr (40, 6)), (.inl 27)], (0, 0), [(.inr (.inr (.inl (44, 44)))), zIA, (.inl (2, 2, 0, 0)), zIA, (.inl (0, 1, 0, 0)), zIA, (.inl (0, 39, 5, 0)), zIA, (.inr (.inr (.inr 0)))], [(.inl (8, 8, 0, 0)), (.inl ((-2147483648), 2147483647, 0, 8))]),
  (85, [(.inl 3), (.inr (40, 6)), (.inl 26)], (0, 0), [(.inr (.inr (.inl (44, 44)))), zIA, (.inl (2, 2, 0, 0)), zIA, (.inl (0, 1, 0, 0)), zIA, (.inl (0, 39, 5, 0)), zIA, (.inr (.inr (.inr 0)))], [zIA]),
  (87, [(.inl 3), (.inr (40, 6)), (.inl 25)], (0, 0), [(.inr (.inr (.inl (44, 44)))), zIA, (.inl (2, 2, 0, 0)), zIA, (.inl (0, 1, 0, 0)), zIA, (.inl (0, 39, 5, 0)), zIA, (.inr (.inr (.inr 0)))], [(.inl (8, 8, 0, 0)), zIA]),
  (88, [(.inl 3), (.inr (40, 6)), (.inl 24)], (0, 0), [(.inr (.inr (.inl (44, 44)))), zIA, (.inl (2, 2, 0, 0)), zIA, (.inl (0, 1, 0, 0)), zIA, (.inl (0, 39, 5, 0)), zIA, (.inr (.inr (.inr 0)))], [zIA]),
  (91, [(.inl 3), (.inr (40, 6)), (.inl 23)], (0, 0), [(.inr (.inr (.inl (44, 44)))), zIA, zIA, zIA, (.inl (0, 1, 0, 0)), zIA, (.inl (0, 39, 5, 0)), zIA, (.inr (.inr (.inr 0)))], []),
  (93, [(.inl 3), (.inr (40, 6)), (.inl 22)], (0, 0), [(.inr (.inr (.inl (44, 44)))), zIA, zIA, zIA, (.inl (0, 1, 0, 0)), zIA, (.inl (0, 39, 5, 0)), zIA, (.inr (.inr (.inr 0)))], [(.inl ((-2147483648), 2147483647, 0, 8))]),
  (95, [(.inl 3), (.inr (40, 6)), (.inl 21)], (0, 0), [(.inr (.inr (.inl (44, 44)))), zIA, zIA, zIA, (.inl (0, 1, 0, 0)), zIA, (.inl (0, 39, 5, 0)), zIA, (.inr (.inr (.inr 0)))], [(.inl (8, 8, 0, 0)), (.inl ((-2147483648), 2147483647, 0, 8))]),
  (96, [(.inl 3), (.inr (40, 6)), (.inl 20)], (0, 0), [(.inr (.inr (.inl (44, 44)))), zIA, zIA, zIA, (.inl (0, 1, 0, 0)), zIA, (.inl (0, 39, 5, 0)), zIA, (.inr (.inr (.inr 0)))], [zIA]),
  (98, [(.inl 3), (.inr (40, 6)), (.inl 19)], (0, 0), [(.inr (.inr (.inl (44, 44)))), zIA, zIA, zIA, (.inl (0, 1, 0, 0)), zIA, (.inl (0, 39, 5, 0)), zIA, zIA], []),
  (100, [(.inl 3), (.inr (40, 6)), (.inl 18)], (0, 0), [(.inr (.inr (.inl (44, 44)))), zIA, zIA, zIA, (.inl (0, 1, 0, 0)), zIA, (.inl (0, 39, 5, 0)), zIA, zIA], [(.inl ((-2147483648), 2147483647, 0, 9))]),
  (101, [(.inl 3), (.inr (40, 6)), (.inl 17)], (0, 0), [(.inr (.inr (.inl (44, 44)))), zIA, zIA, zIA, (.inl (0, 1, 0, 0)), zIA, (.inl (0, 39, 5, 0)), zIA, zIA], [(.inl ((-2147483648), 2147483647, 0, 4)), (.inl ((-2147483648), 2147483647, 0, 9))]),
  (104, [(.inl 3), (.inr (40, 6)), (.inl 16)], (0, 0), [(.inr (.inr (.inl (44, 44)))), zIA, zIA, zIA, (.inl (0, 1, 0, 0)), zIA, (.inl (0, 39, 5, 0)), zIA, zIA], []),
  (106, [(.inl 3), (.inr (40, 6)), (.inl 15)], (0, 0), [(.inr (.inr (.inl (44, 44)))), zIA, zIA, zIA, (.inl (0, 1, 0, 0)), zIA, (.inl (0, 39, 5, 0)), zIA, zIA], [(.inl ((-2147483648), 2147483647, 0, 6))]),
  (107, [(.inl 3), (.inr (40, 6)), (.inl 14)], (0, 0), [(.inr (.inr (.inl (44, 44)))), zIA, zIA, zIA, (.inl (0, 1, 0, 0)), zIA, (.inl (0, 39, 5, 0)), zIA, zIA], [(.inl (1, 1, 0, 0)), (.inl ((-2147483648), 2147483647, 0, 6))]),
  (109, [(.inl 3), (.inr (40, 6)), (.inl 13)], (0, 0), [(.inr (.inr (.inl (44, 44)))), zIA, zIA, zIA, (.inl (0, 1, 0, 0)), zIA, (.inl (0, 39, 5, 0)), zIA, zIA], [(.inl (0, 1, 0, 5)), (.inl (1, 1, 0, 0)), (.inl ((-2147483648), 2147483647, 0, 6))]),
  (112, [(.inl 3), (.inr (40, 6)), (.inl 12)], (0, 0), [(.inr (.inr (.inl (44, 44)))), zIA, zIA, zIA, (.inl (1, 1, 0, 0)), zIA, (.inl (0, 39, 5, 0)), zIA, zIA], [(.inl (1, 1, 0, 0)), (.inl ((-2147483648), 2147483647, 0, 6))]),
  (114, [(.inl 3), (.inr (40, 6)), (.inl 11)], (0, 0), [(.inr (.inr (.inl (44, 44)))), zIA, zIA, zIA, (.inl (1, 1, 0, 0)), zIA, (.inl (0, 39, 5, 0)), zIA, zIA], [(.inl ((-2147483648), 2147483647, 0, 8)), (.inl (1, 1, 0, 0)), (.inl ((-2147483648), 2147483647, 0, 6))]),
  (116, [(.inl 3), (.inr (40, 6)), (.inl 10)], (0, 0), [(.inr (.inr (.inl (44, 44)))), zIA, zIA, zIA, (.inl (1, 1, 0, 0)), zIA, (.inl (0, 39, 5, 0)), zIA, zIA], [(.inl (8, 8, 0, 0)), (.inl ((-2147483648), 2147483647, 0, 8)), (.inl (1, 1, 0, 0)), (.inl ((-2147483648), 2147483647, 0, 6))]),
  (117, [(.inl 3), (.inr (40, 6)), (.inl 9)], (0, 0), [(.inr (.inr (.inl (44, 44)))), zIA, zIA, zIA, (.inl (1, 1, 0, 0)), zIA, (.inl (0, 39, 5, 0)), zIA, zIA], [zIA, (.inl (1, 1, 0, 0)), (.inl ((-2147483648), 2147483647, 0, 6))]),
  (119, [(.inl 3), (.inr (40, 6)), (.inl 8)], (0, 0), [(.inr (.inr (.inl (44, 44)))), zIA, zIA, zIA, (.inl (1, 1, 0, 0)), zIA, (.inl (0, 39, 5, 0)), zIA, zIA], [(.inl (8, 8, 0, 0)), zIA, (.inl (1, 1, 0, 0)), (.inl ((-2147483648), 2147483647, 0, 6))]),
  (120, [(.inl 3), (.inr (40, 6)), (.inl 7)], (0, 0), [(.inr (.inr (.inl (44, 44)))), zIA, zIA, zIA, (.inl (1, 1, 0, 0)), zIA, (.inl (0, 39, 5, 0)), zIA, zIA], [zIA, (.inl (1, 1, 0, 0)), (.inl ((-2147483648), 2147483647, 0, 6))]),
  (123, [(.inl 3), (.inr (40, 6)), (.inl 6)], (0, 0), [(.inr (.inr (.inl (44, 44)))), zIA, zIA, zIA, (.inl (0, 0, 0, 0)), zIA, (.inl (0, 39, 5, 0)), zIA, zIA], [(.inl (1, 1, 0, 0)), (.inl ((-2147483648), 2147483647, 0, 6))]),
  (125, [(.inl 3), (.inr (40, 6)), (.inl 5)], (0, 0), [(.inr (.inr (.inl (44, 44)))), zIA, zIA, zIA, (.inl (0, 0, 0, 0)), zIA, (.inl (0, 39, 5, 0)), zIA, zIA], [(.inl ((-2147483648), 2147483647, 0, 8)), (.inl (1, 1, 0, 0)), (.inl ((-2147483648), 2147483647, 0, 6))]),
  (127, [(.inl 3), (.inr (40, 6)), (.inl 4)], (0, 0), [(.inr (.inr (.inl (44, 44)))), zIA, zIA, zIA, (.inl (0, 0, 0, 0)), zIA, (.inl (0, 39, 5, 0)), zIA, zIA], [(.inl (8, 8, 0, 0)), (.inl ((-2147483648), 2147483647, 0, 8)), (.inl (1, 1, 0, 0)), (.inl ((-2147483648), 2147483647, 0, 6))]),
  (128, [(.inl 3), (.inr (40, 6)), (.inl 3)], (0, 0), [(.inr (.inr (.inl (44, 44)))), zIA, zIA, zIA, (.inl (0, 1, 0, 0)), zIA, (.inl (0, 39, 5, 0)), zIA, zIA], [zIA, (.inl (1, 1, 0, 0)), (.inl ((-2147483648), 2147483647, 0, 6))]),
  (129, [(.inl 3), (.inr (40, 6)), (.inl 2)], (0, 0), [(.inr (.inr (.inl (44, 44)))), zIA, zIA, zIA, (.inl (0, 1, 0, 0)), zIA, (.inl (0, 39, 5, 0)), zIA, zIA], [zIA, (.inl ((-2147483648), 2147483647, 0, 6))]),
  (130, [(.inl 3), (.inr (40, 6)), (.inl 1)], (0, 0), [(.inr (.inr (.inl (44, 44)))), zIA, zIA, zIA, (.inl (0, 1, 0, 0)), zIA, (.inl (0, 39, 5, 0)), zIA, zIA], [zIA]),
  (132, [(.inl 3), (.inr (40, 6)), (.inl 0)], (0, 0), [(.inr (.inr (.inl (44, 44)))), zIA, zIA, zIA, (.inl (0, 1, 0, 0)), zIA, (.inl (0, 39, 5, 0)), (.inr (.inr (.inr 0))), (.inr (.inr (.inr 0)))], []),
  (135, [(.inl 3), (.inr (40, 6)), (.inl 63)], (0, 0), [(.inr (.inr (.inl (44, 44)))), zIA, zIA, zIA, (.inl (0, 1, 0, 0)), zIA, (.inl (1, 40, 0, 0)), (.inr (.inr (.inr 0))), (.inr (.inr (.inr 0)))], []),
  (138, [(.inl 2), (.inl 0), (.inl 0)], (0, 0), [(.inr (.inr (.inl (44, 44)))), zIA, zIA, zIA, (.inl (0, 1, 0, 0)), zIA, (.inl (0, 40, 0, 0)), (.inr (.inr (.inr 0))), (.inr (.inr (.inr 0)))], []),
  (140, [(.inl 1), (.inl 0), (.inl 0)], (0, 0), [(.inr (.inr (.inl (44, 44)))), zIA, zIA, zIA, (.inl (0, 1, 0, 0)), zIA, (.inl (0, 40, 0, 0)), (.inr (.inr (.inr 0))), (.inr (.inr (.inr 0)))], [(.inl ((-2147483648), 2147483647, 0, 6))]),
  (143, [(.inl 0), (.inl 0), (.inl 0)], (0, 0), [(.inr (.inr (.inl (44, 44)))), zIA, zIA, zIA, (.inl (0, 1, 0, 0)), zIA, (.inl (0, 40, 0, 0)), (.inr (.inr (.inr 0))), (.inr (.inr (.inr 0)))], [zIA])]
theorem g_167 {xs : List Int32} : zGd xs ct_167 := zmeth (cs := [ct_114, ct_166, ct_239c, ct_243c]) ct_167 ce_167 (List.forall_mem_cons.mpr ⟨g_114, List.forall_mem_cons.mpr ⟨g_166, List.forall_mem_cons.mpr ⟨g_239c, List.forall_mem_cons.mpr ⟨g_243c, fun _ h => absurd h List.not_mem_nil⟩⟩⟩⟩) (by decide +kernel)
def ct_168 : zCt := (168, [(.inr (.inr (.inl (44, 44)))), zIA], some zIA, 5, 0, 0)
def ce_168 : List zCe := [(0, [(.inl 6), (.inl 0), (.inl 0), (.inl 0), (.inl 0)], (0, 0), [(.inr (.inr (.inl (44, 44)))), zIA, (.inr (.inr (.inr 0))), (.inr (.inr (.inr 0))), (.inr (.inr (.inr 0)))], []),
  (1, [(.inl 5), (.inl 0), (.inl 0), (.inl 0), (.inl 0)], (0, 0), [(.inr (.inr (.inl (44, 44)))), zIA, (.inr (.inr (.inr 0))), (.inr (.inr (.inr 0))), (.inr (.inr (.inr 0)))], [(.inl ((-1), (-1), 0, 0))]),
  (2, [(.inl 4), (.inl 0), (.inl 0), (.inl 0), (.inl 0)], (0, 0), [(.inr (.inr (.inl (44, 44)))), zIA, (.inl ((-1), (-1), 0, 0)), (.inr (.inr (.inr 0))), (.inr (.inr (.inr 0)))], []),
  (3, [(.inl 3), (.inl 0), (.inl 0), (.inl 0), (.inl 0)], (0, 0), [(.inr (.inr (.inl (44, 44)))), zIA, (.inl ((-1), (-1), 0, 0)), (.inr (.inr (.inr 0))), (.inr (.inr (.inr 0)))], [(.inl (0, 0, 0, 0))]),
  (4, [(.inl 2), (.inr (40, 3)), (.inl 8), (.inl 0), (.inl 0)], (0, 0), [(.inr (.inr (.inl (44, 44)))), zIA, zIA, (.inl (0, 40, 0, 0)), (.inr (.inr (.inr 0)))], []),
  (5, [(.inl 2), (.inr (40, 3)), (.inl 7), (.inl 0), (.inl 0)], (0, 0), [(.inr (.inr (.inl (44, 44)))), zIA, zIA, (.inl (0, 40, 0, 0)), (.inr (.inr (.inr 0)))], [(.inl (0, 40, 0, 4))]),
  (6, [(.inl 2), (.inr (40, 3)), (.inl 6), (.inl 0), (.inl 0)], (0, 0), [(.inr (.inr (.inl (44, 44)))), zIA, zIA, (.inl (0, 40, 0, 0)), (.inr (.inr (.inr 0)))], [(.inr (.inr (.inl (44, 44)))), (.inl (0, 40, 0, 4))]),
  (9, [(.inl 2), (.inr (40, 3)), (.inl 5), (.inl 0), (.inl 0)], (0, 0), [(.inr (.inr (.inl (44, 44)))), zIA, zIA, (.inl (0, 40, 0, 0)), (.inr (.inr (.inr 0)))], [(.inr (.inr (.inr 10))), (.inl (0, 40, 0, 4))]),
  (14, [(.inl 2), (.inr (40, 3)), (.inl 4), (.inl 0), (.inl 0)], (0, 0), [(.inr (.inr (.inl (44, 44)))), zIA, zIA, (.inl (0, 40, 0, 0)), (.inr (.inr (.inr 0)))], [(.inl (0, 40, 6, 0)), (.inl (0, 40, 0, 4))]),
  (17, [(.inl 2), (.inr (40, 3)), (.inl 3), (.inl 0), (.inl 0)], (0, 0), [(.inr (.inr (.inl (44, 44)))), zIA, zIA, (.inl (0, 39, 5, 0)), (.inr (.inr (.inr 0)))], []),
  (18, [(.inl 2), (.inr (40, 3)), (.inl 2), (.inl 0), (.inl 0)], (0, 0), [(.inr (.inr (.inl (44, 44)))), zIA, zIA, (.inl (0, 39, 5, 0)), (.inr (.inr (.inr 0)))], [(.inl (0, 0, 0, 0))]),
  (20, [(.inl 2), (.inr (40, 3)), (.inl 1), (.inr (39, 4)), (.inl 60)], (0, 0), [(.inr (.inr (.inl (44, 44)))), zIA, zIA, (.inl (0, 39, 5, 0)), (.inl (0, 39, 0, 0))], []),
  (22, [(.inl 2), (.inr (40, 3)), (.inl 1), (.inr (39, 4)), (.inl 59)], (0, 0), [(.inr (.inr (.inl (44, 44)))), zIA, zIA, (.inl (0, 39, 5, 0)), (.inl (0, 39, 0, 0))], [(.inl (0, 39, 0, 5))]),
  (23, [(.inl 2), (.inr (40, 3)), (.inl 1), (.inr (39, 4)), (.inl 58)], (0, 0), [(.inr (.inr (.inl (44, 44)))), zIA, zIA, (.inl (0, 39, 5, 0)), (.inl (0, 39, 0, 0))], [(.inl (0, 39, 5, 4)), (.inl (0, 39, 0, 5))]),
  (26, [(.inl 2), (.inr (40, 3)), (.inl 1), (.inr (39, 4)), (.inl 57)], (0, 0), [(.inr (.inr (.inl (44, 44)))), zIA, zIA, (.inl (1, 39, 5, 0)), (.inl (0, 38, 5, 0))], []),
  (27, [(.inl 2), (.inr (40, 3)), (.inl 1), (.inr (39, 4)), (.inl 56)], (0, 0), [(.inr (.inr (.inl (44, 44)))), zIA, zIA, (.inl (1, 39, 5, 0)), (.inl (0, 38, 5, 0))], [(.inr (.inr (.inl (44, 44))))]),
  (28, [(.inl 2), (.inr (40, 3)), (.inl 1), (.inr (39, 4)), (.inl 55)], (0, 0), [(.inr (.inr (.inl (44, 44)))), zIA, zIA, (.inl (1, 39, 5, 0)), (.inl (0, 38, 5, 0))], [(.inl (1, 39, 5, 4)), (.inr (.inr (.inl (44, 44))))]),
  (29, [(.inl 2), (.inr (40, 3)), (.inl 1), (.inr (39, 4)), (.inl 54)], (0, 0), [(.inr (.inr (.inl (44, 44)))), zIA, zIA, (.inl (1, 39, 5, 0)), (.inl (0, 38, 5, 0))], [(.inl ((-2147483648), 2147483647, 0, 2)), (.inl (1, 39, 5, 4)), (.inr (.inr (.inl (44, 44))))]),
  (32, [(.inl 2), (.inr (40, 3)), (.inl 1), (.inr (39, 4)), (.inl 53)], (0, 0), [(.inr (.inr (.inl (44, 44)))), zIA, zIA, (.inl (1, 39, 5, 0)), (.inl (0, 38, 5, 0))], [(.inl (0, 1, 0, 0))]),
  (35, [(.inl 2), (.inr (40, 3)), (.inl 1), (.inr (39, 4)), (.inl 52)], (0, 0), [(.inr (.inr (.inl (44, 44)))), zIA, zIA, (.inl (1, 39, 5, 0)), (.inl (0, 38, 5, 0))], []),
  (36, [(.inl 2), (.inr (40, 3)), (.inl 1), (.inr (39, 4)), (.inl 51)], (0, 0), [(.inr (.inr (.inl (44, 44)))), zIA, zIA, (.inl (1, 39, 5, 0)), (.inl (0, 38, 5, 0))], [(.inr (.inr (.inl (44, 44))))]),
  (39, [(.inl 2), (.inr (40, 3)), (.inl 1), (.inr (39, 4)), (.inl 50)], (0, 0), [(.inr (.inr (.inl (44, 44)))), zIA, zIA, (.inl (1, 39, 5, 0)), (.inl (0, 38, 5, 0))], [(.inr (.inr (.inr 10)))]),
  (40, [(.inl 2), (.inr (40, 3)), (.inl 1), (.inr (39, 4)), (.inl 49)], (0, 0), [(.inr (.inr (.inl (44, 44)))), zIA, zIA, (.inl (1, 39, 5, 0)), (.inl (0, 38, 5, 0))], [(.inl (1, 39, 5, 4)), (.inr (.inr (.inr 10)))]),
  (45, [(.inl 2), (.inr (40, 3)), (.inl 1), (.inr (39, 4)), (.inl 48)], (0, 0), [(.inr (.inr (.inl (44, 44)))), zIA, zIA, (.inl (1, 39, 5, 0)), (.inl (0, 38, 5, 0))], [(.inr (.inr (.inr 7)))]),
  (48, [(.inl 2), (.inr (40, 3)), (.inl 1), (.inr (39, 4)), (.inl 47)], (0, 0), [(.inr (.inr (.inl (44, 44)))), zIA, zIA, (.inl (1, 39, 5, 0)), (.inl (0, 38, 5, 0))], [(.inr (.inr (.inr 7)))]),
  (49, [(.inl 2), (.inr (40, 3)), (.inl 1), (.inr (39, 4)), (.inl 46)], (0, 0), [(.inr (.inr (.inl (44, 44)))), zIA, zIA, (.inl (1, 39, 5, 0)), (.inl (0, 38, 5, 0))], [(.inl (0, 0, 0, 0)), (.inr (.inr (.inr 7)))]),
  (50, [(.inl 2), (.inr (40, 3)), (.inl 1), (.inr (39, 4)), (.inl 45)], (0, 0), [(.inr (.inr (.inl (44, 44)))), zIA, zIA, (.inl (1, 39, 5, 0)), (.inl (0, 38, 5, 0))], [zIA]),
  (51, [(.inl 2), (.inr (40, 3)), (.inl 1), (.inr (39, 4)), (.inl 44)], (0, 0), [(.inr (.inr (.inl (44, 44)))), zIA, zIA, (.inl (1, 39, 5, 0)), (.inl (0, 38, 5, 0))], [(.inr (.inr (.inl (44, 44)))), zIA]),
  (54, [(.inl 2), (.inr (40, 3)), (.inl 1), (.inr (39, 4)), (.inl 43)], (0, 0), [(.inr (.inr (.inl (44, 44)))), zIA, zIA, (.inl (1, 39, 5, 0)), (.inl (0, 38, 5, 0))], [(.inr (.inr (.inr 10))), zIA]),
  (56, [(.inl 2), (.inr (40, 3)), (.inl 1), (.inr (39, 4)), (.inl 42)], (0, 0), [(.inr (.inr (.inl (44, 44)))), zIA, zIA, (.inl (1, 39, 5, 0)), (.inl (0, 38, 5, 0))], [(.inl (0, 38, 5, 5)), (.inr (.inr (.inr 10))), zIA]),
  (61, [(.inl 2), (.inr (40, 3)), (.inl 1), (.inr (39, 4)), (.inl 41)], (0, 0), [(.inr (.inr (.inl (44, 44)))), zIA, zIA, (.inl (1, 39, 5, 0)), (.inl (0, 38, 5, 0))], [(.inr (.inr (.inr 7))), zIA]),
  (64, [(.inl 2), (.inr (40, 3)), (.inl 1), (.inr (39, 4)), (.inl 40)], (0, 0), [(.inr (.inr (.inl (44, 44)))), zIA, zIA, (.inl (1, 39, 5, 0)), (.inl (0, 38, 5, 0))], [(.inr (.inr (.inr 7))), zIA]),
  (65, [(.inl 2), (.inr (40, 3)), (.inl 1), (.inr (39, 4)), (.inl 39)], (0, 0), [(.inr (.inr (.inl (44, 44)))), zIA, zIA, (.inl (1, 39, 5, 0)), (.inl (0, 38, 5, 0))], [(.inl (0, 0, 0, 0)), (.inr (.inr (.inr 7))), zIA]),
  (66, [(.inl 2), (.inr (40, 3)), (.inl 1), (.inr (39, 4)), (.inl 38)], (0, 0), [(.inr (.inr (.inl (44, 44)))), zIA, zIA, (.inl (1, 39, 5, 0)), (.inl (0, 38, 5, 0))], [zIA, zIA]),
  (69, [(.inl 2), (.inr (40, 3)), (.inl 1), (.inr (39, 4)), (.inl 37)], (0, 0), [(.inr (.inr (.inl (44, 44)))), zIA, zIA, (.inl (1, 39, 5, 0)), (.inl (0, 38, 5, 0))], []),
  (70, [(.inl 2), (.inr (40, 3)), (.inl 1), (.inr (39, 4)), (.inl 36)], (0, 0), [(.inr (.inr (.inl (44, 44)))), zIA, zIA, (.inl (1, 39, 5, 0)), (.inl (0, 38, 5, 0))], [(.inr (.inr (.inl (44, 44))))]),
  (73, [(.inl 2), (.inr (40, 3)), (.inl 1), (.inr (39, 4)), (.inl 35)], (0, 0), [(.inr (.inr (.inl (44, 44)))), zIA, zIA, (.inl (1, 39, 5, 0)), (.inl (0, 38, 5, 0))], [(.inr (.inr (.inr 10)))]),
  (74, [(.inl 2), (.inr (40, 3)), (.inl 1), (.inr (39, 4)), (.inl 34)], (0, 0), [(.inr (.inr (.inl (44, 44)))), zIA, zIA, (.inl (1, 39, 5, 0)), (.inl (0, 38, 5, 0))], [(.inl (1, 39, 5, 4)), (.inr (.inr (.inr 10)))]),
  (79, [(.inl 2), (.inr (40, 3)), (.inl 1), (.inr (39, 4)), (.inl 33)], (0, 0), [(.inr (.inr (.inl (44, 44)))), zIA, zIA, (.inl (1, 39, 5, 0)), (.inl (0, 38, 5, 0))], [(.inr (.inr (.inr 7)))]),
  (82, [(.inl 2), (.inr (40, 3)), (.inl 1), (.inr (39, 4)), (.inl 32)], (0, 0), [(.inr (.inr (.inl (44, 44)))), zIA, zIA, (.inl (1, 39, 5, 0)), (.inl (0, 38, 5, 0))], [(.inr (.inr (.inr 7)))]),
  (83, [(.inl 2), (.inr (40, 3)), (.inl 1), (.inr (39, 4)), (.inl 31)], (0, 0), [(.inr (.inr (.inl (44, 44)))), zIA, zIA, (.inl (1, 39, 5, 0)), (.inl (0, 38, 5, 0))], [(.inl (1, 1, 0, 0)), (.inr (.inr (.inr 7)))]),
  (84, [(.inl 2), (.inr (40, 3)), (.inl 1), (.inr (39, 4)), (.inl 30)], (0, 0), [(.inr (.inr (.inl (44, 44)))), zIA, zIA, (.inl (1, 39, 5, 0)), (.inl (0, 38, 5, 0))], [zIA]),
  (85, [(.inl 2), (.inr (40, 3)), (.inl 1), (.inr (39, 4)), (.inl 29)], (0, 0), [(.inr (.inr (.inl (44, 44)))), zIA, zIA, (.inl (1, 39, 5, 0)), (.inl (0, 38, 5, 0))], [(.inr (.inr (.inl (44, 44)))), zIA]),
  (88, [(.inl 2), (.inr (40, 3)), (.inl 1), (.inr (39, 4)), (.inl 28)], (0, 0), [(.inr (.inr (.inl (44, 44)))), zIA, zIA, (.inl (1, 39, 5, 0)), (.inl (0, 38, 5, 0))], [(.inr (.inr (.inr 10))), zIA]),
  (90, [(.inl 2), (.inr (40, 3)), (.inl 1), (.inr (39, 4)), (.inl 27)], (0, 0), [(.inr (.inr (.inl (44, 44)))), zIA, zIA, (.inl (1, 39, 5, 0)), (.inl (0, 38, 5, 0))], [(.inl (0, 38, 5, 5)), (.inr (.inr (.inr 10))), zIA]),
  (95, [(.inl 2), (.inr (40, 3)), (.inl 1), (.inr (39, 4)), (.inl 26)], (0, 0), [(.inr (.inr (.inl (44, 44)))), zIA, zIA, (.inl (1, 39, 5, 0)), (.inl (0, 38, 5, 0))], [(.inr (.inr (.inr 7))), zIA]),
  (98, [(.inl 2), (.inr (40, 3)), (.inl 1), (.inr (39, 4)), (.inl 25)], (0, 0), [(.inr (.inr (.inl (44, 44)))), zIA, zIA, (.inl (1, 39, 5, 0)), (.inl (0, 38, 5, 0))], [(.inr (.inr (.inr 7))), zIA]),
  (99, [(.inl 2), (.inr (40, 3)), (.inl 1), (.inr (39, 4)), (.inl 24)], (0, 0), [(.inr (.inr (.inl (44, 44)))), zIA, zIA, (.inl (1, 39, 5, 0)), (.inl (0, 38, 5, 0))], [(.inl (1, 1, 0, 0)), (.inr (.inr (.inr 7))), zIA]),
  (100, [(.inl 2), (.inr (40, 3)), (.inl 1), (.inr (39, 4)), (.inl 23)], (0, 0), [(.inr (.inr (.inl (44, 44)))), zIA, zIA, (.inl (1, 39, 5, 0)), (.inl (0, 38, 5, 0))], [zIA, zIA]),
  (103, [(.inl 2), (.inr (40, 3)), (.inl 1), (.inr (39, 4)), (.inl 22)], (0, 0), [(.inr (.inr (.inl (44, 44)))), zIA, zIA, (.inl (1, 39, 5, 0)), (.inl (0, 38, 5, 0))], []),
  (106, [(.inl 2), (.inr (40, 3)), (.inl 1), (.inr (39, 4)), (.inl 21)], (0, 0), [(.inr (.inr (.inl (44, 44)))), zIA, zIA, (.inl (1, 39, 5, 0)), (.inl (0, 38, 5, 0))], []),
  (107, [(.inl 2), (.inr (40, 3)), (.inl 1), (.inr (39, 4)), (.inl 20)], (0, 0), [(.inr (.inr (.inl (44, 44)))), zIA, zIA, (.inl (1, 39, 5, 0)), (.inl (0, 38, 5, 0))], [(.inl ((-2147483648), 2147483647, 0, 3))]),
  (108, [(.inl 2), (.inr (40, 3)), (.inl 1), (.inr (39, 4)), (.inl 19)], (0, 0), [(.inr (.inr (.inl (44, 44)))), zIA, zIA, (.inl (1, 39, 5, 0)), (.inl (0, 38, 5, 0))], [(.inl ((-1), (-1), 0, 0)), (.inl ((-2147483648), 2147483647, 0, 3))]),
  (111, [(.inl 2), (.inr (40, 3)), (.inl 1), (.inr (39, 4)), (.inl 18)], (0, 0), [(.inr (.inr (.inl (44, 44)))), zIA, (.inl ((-1), (-1), 0, 0)), (.inl (1, 39, 5, 0)), (.inl (0, 38, 5, 0))], []),
  (112, [(.inl 2), (.inr (40, 3)), (.inl 1), (.inr (39, 4)), (.inl 17)], (0, 0), [(.inr (.inr (.inl (44, 44)))), zIA, (.inl ((-1), (-1), 0, 0)), (.inl (1, 39, 5, 0)), (.inl (0, 38, 5, 0))], [(.inr (.inr (.inl (44, 44))))]),
  (115, [(.inl 2), (.inr (40, 3)), (.inl 1), (.inr (39, 4)), (.inl 16)], (0, 0), [(.inr (.inr (.inl (44, 44)))), zIA, (.inl ((-1), (-1), 0, 0)), (.inl (1, 39, 5, 0)), (.inl (0, 38, 5, 0))], [(.inr (.inr (.inr 10)))]),
  (116, [(.inl 2), (.inr (40, 3)), (.inl 1), (.inr (39, 4)), (.inl 15)], (0, 0), [(.inr (.inr (.inl (44, 44)))), zIA, (.inl ((-1), (-1), 0, 0)), (.inl (1, 39, 5, 0)), (.inl (0, 38, 5, 0))], [(.inl (1, 39, 5, 4)), (.inr (.inr (.inr 10)))]),
  (121, [(.inl 2), (.inr (40, 3)), (.inl 1), (.inr (39, 4)), (.inl 14)], (0, 0), [(.inr (.inr (.inl (44, 44)))), zIA, (.inl ((-1), (-1), 0, 0)), (.inl (1, 39, 5, 0)), (.inl (0, 38, 5, 0))], [(.inr (.inr (.inr 7)))]),
  (124, [(.inl 2), (.inr (40, 3)), (.inl 1), (.inr (39, 4)), (.inl 13)], (0, 0), [(.inr (.inr (.inl (44, 44)))), zIA, (.inl ((-1), (-1), 0, 0)), (.inl (1, 39, 5, 0)), (.inl (0, 38, 5, 0))], [(.inr (.inr (.inr 7)))]),
  (125, [(.inl 2), (.inr (40, 3)), (.inl 1), (.inr (39, 4)), (.inl 12)], (0, 0), [(.inr (.inr (.inl (44, 44)))), zIA, (.inl ((-1), (-1), 0, 0)), (.inl (1, 39, 5, 0)), (.inl (0, 38, 5, 0))], [(.inl (0, 0, 0, 0)), (.inr (.inr (.inr 7)))]),
  (126, [(.inl 2), (.inr (40, 3)), (.inl 1), (.inr (39, 4)), (.inl 11)], (0, 0), [(.inr (.inr (.inl (44, 44)))), zIA, (.inl ((-1), (-1), 0, 0)), (.inl (1, 39, 5, 0)), (.inl (0, 38, 5, 0))], [zIA]),
  (129, [(.inl 2), (.inr (40, 3)), (.inl 1), (.inr (39, 4)), (.inl 10)], (0, 0), [(.inr (.inr (.inl (44, 44)))), zIA, zIA, (.inl (1, 39, 5, 0)), (.inl (0, 38, 5, 0))], []),
  (130, [(.inl 2), (.inr (40, 3)), (.inl 1), (.inr (39, 4)), (.inl 9)], (0, 0), [(.inr (.inr (.inl (44, 44)))), zIA, zIA, (.inl (1, 39, 5, 0)), (.inl (0, 38, 5, 0))], [(.inl ((-2147483648), 2147483647, 0, 3))]),
  (131, [(.inl 2), (.inr (40, 3)), (.inl 1), (.inr (39, 4)), (.inl 8)], (0, 0), [(.inr (.inr (.inl (44, 44)))), zIA, zIA, (.inl (1, 39, 5, 0)), (.inl (0, 38, 5, 0))], [(.inr (.inr (.inl (44, 44)))), (.inl ((-2147483648), 2147483647, 0, 3))]),
  (134, [(.inl 2), (.inr (40, 3)), (.inl 1), (.inr (39, 4)), (.inl 7)], (0, 0), [(.inr (.inr (.inl (44, 44)))), zIA, zIA, (.inl (1, 39, 5, 0)), (.inl (0, 38, 5, 0))], [(.inr (.inr (.inr 10))), (.inl ((-2147483648), 2147483647, 0, 3))]),
  (135, [(.inl 2), (.inr (40, 3)), (.inl 1), (.inr (39, 4)), (.inl 6)], (0, 0), [(.inr (.inr (.inl (44, 44)))), zIA, zIA, (.inl (1, 39, 5, 0)), (.inl (0, 38, 5, 0))], [(.inl (1, 39, 5, 4)), (.inr (.inr (.inr 10))), (.inl ((-2147483648), 2147483647, 0, 3))]),
  (140, [(.inl 2), (.inr (40, 3)), (.inl 1), (.inr (39, 4)), (.inl 5)], (0, 0), [(.inr (.inr (.inl (44, 44)))), zIA, zIA, (.inl (1, 39, 5, 0)), (.inl (0, 38, 5, 0))], [(.inr (.inr (.inr 7))), (.inl ((-2147483648), 2147483647, 0, 3))]),
  (143, [(.inl 2), (.inr (40, 3)), (.inl 1), (.inr (39, 4)), (.inl 4)], (0, 0), [(.inr (.inr (.inl (44, 44)))), zIA, zIA, (.inl (1, 39, 5, 0)), (.inl (0, 38, 5, 0))], [(.inr (.inr (.inr 7))), (.inl ((-2147483648), 2147483647, 0, 3))]),
  (144, [(.inl 2), (.inr (40, 3)), (.inl 1), (.inr (39, 4)), (.inl 3)], (0, 0), [(.inr (.inr (.inl (44, 44)))), zIA, zIA, (.inl (1, 39, 5, 0)), (.inl (0, 38, 5, 0))], [(.inl (0, 0, 0, 0)), (.inr (.inr (.inr 7))), (.inl ((-2147483648), 2147483647, 0, 3))]),
  (145, [(.inl 2), (.inr (40, 3)), (.inl 1), (.inr (39, 4)), (.inl 2)], (0, 0), [(.inr (.inr (.inl (44, 44)))), zIA, zIA, (.inl (1, 39, 5, 0)), (.inl (0, 38, 5, 0))], [zIA, (.inl ((-2147483648), 2147483647, 0, 3))]),
  (148, [(.inl 2), (.inr (40, 3)), (.inl 1), (.inr (39, 4)), (.inl 1)], (0, 0), [(.inr (.inr (.inl (44, 44)))), zIA, zIA, (.inl (1, 39, 5, 0)), (.inl (0, 38, 5, 0))], [zIA]),
  (149, [(.inl 2), (.inr (40, 3)), (.inl 1), (.inr (39, 4)), (.inl 0)], (0, 0), [(.inr (.inr (.inl (44, 44)))), zIA, zIA, (.inl (1, 39, 5, 0)), (.inl (0, 38, 5, 0))], []),
  (152, [(.inl 2), (.inr (40, 3)), (.inl 1), (.inr (39, 4)), (.inl 61)], (0, 0), [(.inr (.inr (.inl (44, 44)))), zIA, zIA, (.inl (1, 39, 5, 0)), (.inl (1, 39, 0, 0))], []),
  (155, [(.inl 2), (.inr (40, 3)), (.inl 0), (.inl 0), (.inl 0)], (0, 0), [(.inr (.inr (.inl (44, 44)))), zIA, zIA, (.inl (0, 39, 5, 0)), (.inl (0, 39, 0, 0))], []),
  (158, [(.inl 2), (.inr (40, 3)), (.inl 9), (.inl 0), (.inl 0)], (0, 0), [(.inr (.inr (.inl (44, 44)))), zIA, zIA, (.inl (1, 40, 0, 0)), (.inl (0, 39, 0, 0))], []),
  (161, [(.inl 1), (.inl 0), (.inl 0), (.inl 0), (.inl 0)], (0, 0), [(.inr (.inr (.inl (44, 44)))), zIA, zIA, (.inl (0, 40, 0, 0)), (.inr (.inr (.inr 0)))], []),
  (162, [(.inl 0), (.inl 0), (.inl 0), (.inl 0), (.inl 0)], (0, 0), [(.inr (.inr (.inl (44, 44)))), zIA, zIA, (.inl (0, 40, 0, 0)), (.inr (.inr (.inr 0)))], [(.inl ((-2147483648), 2147483647, 0, 3))])]
theorem g_168 {xs : List Int32} : zGd xs ct_168 := zmeth (cs := [ct_166, ct_239c, ct_243c]) ct_168 ce_168 (List.forall_mem_cons.mpr ⟨g_166, List.forall_mem_cons.mpr ⟨g_239c, List.forall_mem_cons.mpr ⟨g_243c, fun _ h => absurd h List.not_mem_nil⟩⟩⟩) (by decide +kernel)
def ct_169 : zCt := (169, [(.inr (.inr (.inl (44, 44)))), zIA, (.inl (0, 1, 0, 0))], some zIA, 6, 0, 0)
def ce_169 : List zCe := [(0, [(.inl 23), (.inl 0), (.inl 0), (.inl 0), (.inl 0)], (0, 0), [(.inr (.inr (.inl (44, 44)))), zIA, (.inl (0, 1, 0, 0)), (.inr (.inr (.inr 0))), (.inr (.inr (.inr 0)))], []),
  (1, [(.inl 22), (.inl 0), (.inl 0), (.inl 0), (.inl 0)], (0, 0), [(.inr (.inr (.inl (44, 44)))), zIA, (.inl (0, 1, 0, 0)), (.inr (.inr (.inr 0))), (.inr (.inr (.inr 0)))], [(.inl (1, 1, 0, 0))]),
  (2, [(.inl 21), (.inr (4, 3)), (.inl 6), (.inl 0), (.inl 0)], (0, 0), [(.inr (.inr (.inl (44, 44)))), zIA, (.inl (0, 1, 0, 0)), (.inl (1, 4, 0, 0)), (.inr (.inr (.inr 0)))], []),
  (3, [(.inl 21), (.inr (4, 3)), (.inl 5), (.inl 0), (.inl 0)], (0, 0), [(.inr (.inr (.inl (44, 44)))), zIA, (.inl (0, 1, 0, 0)), (.inl (1, 4, 0, 0)), (.inr (.inr (.inr 0)))], [(.inl (1, 4, 0, 4))]),
  (4, [(.inl 21), (.inr (4, 3)), (.inl 4), (.inl 0), (.inl 0)], (0, 0), [(.inr (.inr (.inl (44, 44)))), zIA, (.inl (0, 1, 0, 0)), (.inl (1, 4, 0, 0)), (.inr (.inr (.inr 0)))], [(.inl (3, 3, 0, 0)), (.inl (1, 4, 0, 4))]),
  (7, [(.inl 21), (.inr (4, 3)), (.inl 3), (.inl 0), (.inl 0)], (0, 0), [(.inr (.inr (.inl (44, 44)))), zIA, (.inl (0, 1, 0, 0)), (.inl (1, 3, 0, 0)), (.inr (.inr (.inr 0)))], []),
  (8, [(.inl 21), (.inr (4, 3)), (.inl 2), (.inl 0), (.inl 0)], (0, 0), [(.inr (.inr (.inl (44, 44)))), zIA, (.inl (0, 1, 0, 0)), (.inl (1, 3, 0, 0)), (.inr (.inr (.inr 0)))], [(.inl (0, 0, 0, 0))]),
  (10, [(.inl 21), (.inr (4, 3)), (.inl 1), (.inr (16, 4)), (.inl 16)], (0, 0), [(.inr (.inr (.inl (44, 44)))), zIA, (.inl (0, 1, 0, 0)), (.inl (1, 3, 0, 0)), (.inl (0, 16, 0, 0))], []),
  (12, [(.inl 21), (.inr (4, 3)), (.inl 1), (.inr (16, 4)), (.inl 15)], (0, 0), [(.inr (.inr (.inl (44, 44)))), zIA, (.inl (0, 1, 0, 0)), (.inl (1, 3, 0, 0)), (.inl (0, 16, 0, 0))], [(.inl (0, 16, 0, 5))]),
  (14, [(.inl 21), (.inr (4, 3)), (.inl 1), (.inr (16, 4)), (.inl 14)], (0, 0), [(.inr (.inr (.inl (44, 44)))), zIA, (.inl (0, 1, 0, 0)), (.inl (1, 3, 0, 0)), (.inl (0, 16, 0, 0))], [(.inl (16, 16, 0, 0)), (.inl (0, 16, 0, 5))]),
  (17, [(.inl 21), (.inr (4, 3)), (.inl 1), (.inr (16, 4)), (.inl 13)], (0, 0), [(.inr (.inr (.inl (44, 44)))), zIA, (.inl (0, 1, 0, 0)), (.inl (1, 3, 0, 0)), (.inl (0, 15, 0, 0))], []),
  (18, [(.inl 21), (.inr (4, 3)), (.inl 1), (.inr (16, 4)), (.inl 12)], (0, 0), [(.inr (.inr (.inl (44, 44)))), zIA, (.inl (0, 1, 0, 0)), (.inl (1, 3, 0, 0)), (.inl (0, 15, 0, 0))], [(.inr (.inr (.inl (44, 44))))]),
  (19, [(.inl 21), (.inr (4, 3)), (.inl 1), (.inr (16, 4)), (.inl 11)], (0, 0), [(.inr (.inr (.inl (44, 44)))), zIA, (.inl (0, 1, 0, 0)), (.inl (1, 3, 0, 0)), (.inl (0, 15, 0, 0))], [(.inl ((-2147483648), 2147483647, 0, 2)), (.inr (.inr (.inl (44, 44))))]),
  (20, [(.inl 21), (.inr (4, 3)), (.inl 1), (.inr (16, 4)), (.inl 10)], (0, 0), [(.inr (.inr (.inl (44, 44)))), zIA, (.inl (0, 1, 0, 0)), (.inl (1, 3, 0, 0)), (.inl (0, 15, 0, 0))], [(.inl (1, 3, 0, 4)), (.inl ((-2147483648), 2147483647, 0, 2)), (.inr (.inr (.inl (44, 44))))]),
  (22, [(.inl 21), (.inr (4, 3)), (.inl 1), (.inr (16, 4)), (.inl 9)], (0, 0), [(.inr (.inr (.inl (44, 44)))), zIA, (.inl (0, 1, 0, 0)), (.inl (1, 3, 0, 0)), (.inl (0, 15, 0, 0))], [(.inl (0, 15, 0, 5)), (.inl (1, 3, 0, 4)), (.inl ((-2147483648), 2147483647, 0, 2)), (.inr (.inr (.inl (44, 44))))]),
  (23, [(.inl 21), (.inr (4, 3)), (.inl 1), (.inr (16, 4)), (.inl 8)], (0, 0), [(.inr (.inr (.inl (44, 44)))), zIA, (.inl (0, 1, 0, 0)), (.inl (1, 3, 0, 0)), (.inl (0, 15, 0, 0))], [(.inl (1, 3, 0, 4)), (.inl (0, 15, 0, 5)), (.inl (1, 3, 0, 4)), (.inl ((-2147483648), 2147483647, 0, 2)), (.inr (.inr (.inl (44, 44))))]),
  (24, [(.inl 21), (.inr (4, 3)), (.inl 1), (.inr (16, 4)), (.inl 7)], (0, 0), [(.inr (.inr (.inl (44, 44)))), zIA, (.inl (0, 1, 0, 0)), (.inl (1, 3, 0, 0)), (.inl (0, 15, 0, 0))], [(.inl (2, 2, 0, 0)), (.inl (1, 3, 0, 4)), (.inl (0, 15, 0, 5)), (.inl (1, 3, 0, 4)), (.inl ((-2147483648), 2147483647, 0, 2)), (.inr (.inr (.inl (44, 44))))]),
  (27, [(.inl 21), (.inr (4, 3)), (.inl 1), (.inr (16, 4)), (.inl 6)], (0, 0), [(.inr (.inr (.inl (44, 44)))), zIA, (.inl (0, 1, 0, 0)), (.inl (1, 3, 0, 0)), (.inl (0, 15, 0, 0))], [(.inl (0, 15, 0, 5)), (.inl (1, 3, 0, 4)), (.inl ((-2147483648), 2147483647, 0, 2)), (.inr (.inr (.inl (44, 44))))]),
  (28, [(.inl 21), (.inr (4, 3)), (.inl 1), (.inr (16, 4)), (.inl 5)], (0, 0), [(.inr (.inr (.inl (44, 44)))), zIA, (.inl (0, 1, 0, 0)), (.inl (1, 3, 0, 0)), (.inl (0, 15, 0, 0))], [(.inl (1, 1, 0, 0)), (.inl (0, 15, 0, 5)), (.inl (1, 3, 0, 4)), (.inl ((-2147483648), 2147483647, 0, 2)), (.inr (.inr (.inl (44, 44))))]),
  (31, [(.inl 21), (.inr (4, 3)), (.inl 1), (.inr (16, 4)), (.inl 4)], (0, 0), [(.inr (.inr (.inl (44, 44)))), zIA, (.inl (0, 1, 0, 0)), (.inl (2, 2, 0, 0)), (.inl (0, 15, 0, 0))], [(.inl (0, 15, 0, 5)), (.inl (1, 3, 0, 4)), (.inl ((-2147483648), 2147483647, 0, 2)), (.inr (.inr (.inl (44, 44))))]),
  (32, [(.inl 21), (.inr (4, 3)), (.inl 1), (.inr (16, 4)), (.inl 3)], (0, 0), [(.inr (.inr (.inl (44, 44)))), zIA, (.inl (0, 1, 0, 0)), (.inl (1, 3, 0, 0)), (.inl (0, 15, 0, 0))], [(.inl (0, 1, 0, 0)), (.inl (0, 15, 0, 5)), (.inl (1, 3, 0, 4)), (.inl ((-2147483648), 2147483647, 0, 2)), (.inr (.inr (.inl (44, 44))))]),
  (35, [(.inl 21), (.inr (4, 3)), (.inl 1), (.inr (16, 4)), (.inl 2)], (0, 0), [(.inr (.inr (.inl (44, 44)))), zIA, (.inl (0, 1, 0, 0)), (.inl (1, 3, 0, 0)), (.inl (0, 15, 0, 0))], [zIA]),
  (36, [(.inl 21), (.inr (4, 3)), (.inl 1), (.inr (16, 4)), (.inl 1)], (0, 0), [(.inr (.inr (.inl (44, 44)))), zIA, (.inl (0, 1, 0, 0)), (.inl (1, 3, 0, 0)), (.inl (0, 15, 0, 0))], [(.inl (3, 3, 0, 0)), zIA]),
  (39, [(.inl 20), (.inl 0), (.inl 0), (.inl 0), (.inl 0)], (0, 0), [(.inr (.inr (.inl (44, 44)))), zIA, (.inl (0, 1, 0, 0)), (.inl (1, 3, 0, 0)), (.inl (0, 15, 0, 0))], []),
  (40, [(.inl 19), (.inl 0), (.inl 0), (.inl 0), (.inl 0)], (0, 0), [(.inr (.inr (.inl (44, 44)))), zIA, (.inl (0, 1, 0, 0)), (.inl (1, 3, 0, 0)), (.inl (0, 15, 0, 0))], [(.inl (0, 1, 0, 3))]),
  (43, [(.inl 18), (.inl 0), (.inl 0), (.inl 0), (.inl 0)], (0, 0), [(.inr (.inr (.inl (44, 44)))), zIA, (.inl (1, 1, 0, 0)), (.inl (1, 3, 0, 0)), (.inl (0, 15, 0, 0))], []),
  (45, [(.inl 17), (.inl 0), (.inl 0), (.inl 0), (.inl 0)], (0, 0), [(.inr (.inr (.inl (44, 44)))), zIA, (.inl (1, 1, 0, 0)), (.inl (1, 3, 0, 0)), (.inl (0, 15, 0, 0))], [(.inl (0, 15, 0, 5))]),
  (48, [(.inl 16), (.inl 0), (.inl 0), (.inl 0), (.inl 0)], (0, 0), [(.inr (.inr (.inl (44, 44)))), zIA, (.inl (0, 0, 0, 0)), (.inl (1, 3, 0, 0)), (.inl (0, 15, 0, 0))], []),
  (49, [(.inl 15), (.inl 0), (.inl 0), (.inl 0), (.inl 0)], (0, 0), [(.inr (.inr (.inl (44, 44)))), zIA, (.inl (0, 1, 0, 0)), (.inl (1, 3, 0, 0)), (.inl (0, 15, 0, 0))], [(.inl (0, 15, 0, 0))]),
  (50, [(.inl 21), (.inr (4, 3)), (.inl 1), (.inr (16, 4)), (.inl 0)], (0, 0), [(.inr (.inr (.inl (44, 44)))), zIA, (.inl (0, 1, 0, 0)), (.inl (1, 3, 0, 0)), (.inl (0, 15, 0, 0))], []),
  (53, [(.inl 21), (.inr (4, 3)), (.inl 1), (.inr (16, 4)), (.inl 17)], (0, 0), [(.inr (.inr (.inl (44, 44)))), zIA, (.inl (0, 1, 0, 0)), (.inl (1, 3, 0, 0)), (.inl (1, 16, 0, 0))], []),
  (56, [(.inl 21), (.inr (4, 3)), (.inl 0), (.inl 0), (.inl 0)], (0, 0), [(.inr (.inr (.inl (44, 44)))), zIA, (.inl (0, 1, 0, 0)), (.inl (1, 3, 0, 0)), (.inl (16, 16, 0, 0))], []),
  (59, [(.inl 21), (.inr (4, 3)), (.inl 7), (.inl 0), (.inl 0)], (0, 0), [(.inr (.inr (.inl (44, 44)))), zIA, (.inl (0, 1, 0, 0)), (.inl (2, 4, 0, 0)), (.inl (16, 16, 0, 0))], []),
  (62, [(.inl 14), (.inl 0), (.inl 0), (.inl 0), (.inl 0)], (0, 0), [(.inr (.inr (.inl (44, 44)))), zIA, (.inl (0, 1, 0, 0)), (.inl (4, 4, 0, 0)), (.inr (.inr (.inr 0)))], []),
  (63, [(.inl 13), (.inl 0), (.inl 0), (.inl 0), (.inl 0)], (0, 0), [(.inr (.inr (.inl (44, 44)))), zIA, (.inl (0, 1, 0, 0)), (.inl (4, 4, 0, 0)), (.inr (.inr (.inr 0)))], [(.inr (.inr (.inl (44, 44))))]),
  (64, [(.inl 12), (.inl 0), (.inl 0), (.inl 0), (.inl 0)], (0, 0), [(.inr (.inr (.inl (44, 44)))), zIA, (.inl (0, 1, 0, 0)), (.inl (4, 4, 0, 0)), (.inr (.inr (.inr 0)))], [(.inl ((-2147483648), 2147483647, 0, 2)), (.inr (.inr (.inl (44, 44))))]),
  (67, [(.inl 11), (.inl 0), (.inl 0), (.inl 0), (.inl 0)], (0, 0), [(.inr (.inr (.inl (44, 44)))), zIA, (.inl (0, 1, 0, 0)), (.inl (4, 4, 0, 0)), (.inr (.inr (.inr 0)))], [zIA]),
  (68, [(.inl 10), (.inl 0), (.inl 0), (.inl 0), (.inl 0)], (0, 0), [(.inr (.inr (.inl (44, 44)))), zIA, (.inl (0, 1, 0, 0)), zIA, (.inr (.inr (.inr 0)))], []),
  (69, [(.inl 9), (.inl 0), (.inl 0), (.inl 0), (.inl 0)], (0, 0), [(.inr (.inr (.inl (44, 44)))), zIA, (.inl (0, 1, 0, 0)), zIA, (.inr (.inr (.inr 0)))], [(.inl (0, 1, 0, 3))]),
  (72, [(.inl 8), (.inl 0), (.inl 0), (.inl 0), (.inl 0)], (0, 0), [(.inr (.inr (.inl (44, 44)))), zIA, (.inl (1, 1, 0, 0)), zIA, (.inr (.inr (.inr 0)))], []),
  (73, [(.inl 7), (.inl 0), (.inl 0), (.inl 0), (.inl 0)], (0, 0), [(.inr (.inr (.inl (44, 44)))), zIA, (.inl (1, 1, 0, 0)), zIA, (.inr (.inr (.inr 0)))], [(.inl ((-2147483648), 2147483647, 0, 4))]),
  (76, [(.inl 6), (.inl 0), (.inl 0), (.inl 0), (.inl 0)], (0, 0), [(.inr (.inr (.inl (44, 44)))), zIA, (.inl (0, 0, 0, 0)), zIA, (.inr (.inr (.inr 0)))], []),
  (77, [(.inl 5), (.inl 0), (.inl 0), (.inl 0), (.inl 0)], (0, 0), [(.inr (.inr (.inl (44, 44)))), zIA, (.inl (0, 0, 0, 0)), zIA, (.inr (.inr (.inr 0)))], [(.inl ((-2147483648), 2147483647, 0, 4))]),
  (78, [(.inl 4), (.inl 0), (.inl 0), (.inl 0), (.inl 0)], (0, 0), [(.inr (.inr (.inl (44, 44)))), zIA, (.inl (0, 0, 0, 0)), zIA, (.inr (.inr (.inr 0)))], [(.inl ((-1), (-1), 0, 0)), (.inl ((-2147483648), 2147483647, 0, 4))]),
  (81, [(.inl 3), (.inl 0), (.inl 0), (.inl 0), (.inl 0)], (0, 0), [(.inr (.inr (.inl (44, 44)))), zIA, (.inl (0, 0, 0, 0)), (.inl ((-1), (-1), 0, 0)), (.inr (.inr (.inr 0)))], []),
  (82, [(.inl 2), (.inl 0), (.inl 0), (.inl 0), (.inl 0)], (0, 0), [(.inr (.inr (.inl (44, 44)))), zIA, (.inl (0, 0, 0, 0)), (.inl ((-1), (-1), 0, 0)), (.inr (.inr (.inr 0)))], [(.inl (0, 0, 0, 0))]),
  (85, [(.inl 1), (.inl 0), (.inl 0), (.inl 0), (.inl 0)], (0, 0), [(.inr (.inr (.inl (44, 44)))), zIA, (.inl (0, 0, 0, 0)), zIA, (.inr (.inr (.inr 0)))], []),
  (86, [(.inl 0), (.inl 0), (.inl 0), (.inl 0), (.inl 0)], (0, 0), [(.inr (.inr (.inl (44, 44)))), zIA, (.inl (0, 1, 0, 0)), zIA, (.inr (.inr (.inr 0)))], [zIA])]
theorem g_169 {xs : List Int32} : zGd xs ct_169 := zmeth (cs := [ct_167, ct_168]) ct_169 ce_169 (List.forall_mem_cons.mpr ⟨g_167, List.forall_mem_cons.mpr ⟨g_168, fun _ h => absurd h List.not_mem_nil⟩⟩) (by decide +kernel)
def ct_170 : zCt := (170, [(.inr (.inr (.inl (44, 44)))), zIA, (.inl (0, 1, 0, 0))], some zIA, 7, 0, 0)
def ce_170 : List zCe := [(0, [(.inl 16)], (0, 0), [(.inr (.inr (.inl (44, 44)))), zIA, (.inl (0, 1, 0, 0))], []),
  (1, [(.inl 15)], (0, 0), [(.inr (.inr (.inl (44, 44)))), zIA, (.inl (0, 1, 0, 0))], [(.inr (.inr (.inl (44, 44))))]),
  (2, [(.inl 14)], (0, 0), [(.inr (.inr (.inl (44, 44)))), zIA, (.inl (0, 1, 0, 0))], [(.inl (0, 0, 0, 0)), (.inr (.inr (.inl (44, 44))))]),
  (5, [(.inl 13)], (0, 0), [(.inr (.inr (.inl (44, 44)))), zIA, (.inl (0, 1, 0, 0))], []),
  (6, [(.inl 12)], (0, 0), [(.inr (.inr (.inl (44, 44)))), zIA, (.inl (0, 1, 0, 0))], [(.inl ((-2147483648), 2147483647, 0, 2))]),
  (7, [(.inl 11)], (0, 0), [(.inr (.inr (.inl (44, 44)))), zIA, (.inl (0, 1, 0, 0))], [(.inl (0, 0, 0, 0)), (.inl ((-2147483648), 2147483647, 0, 2))]),
  (8, [(.inl 10)], (0, 0), [(.inr (.inr (.inl (44, 44)))), zIA, (.inl (0, 1, 0, 0))], [(.inl (1, 1, 0, 0)), (.inl (0, 0, 0, 0)), (.inl ((-2147483648), 2147483647, 0, 2))]),
  (11, [(.inl 9)], (0, 0), [(.inr (.inr (.inl (44, 44)))), zIA, (.inl (0, 1, 0, 0))], [(.inr (.inl (1, 0, 1, 0)))]),
  (14, [(.inl 8)], (0, 0), [(.inr (.inr (.inl (44, 44)))), zIA, (.inl (0, 1, 0, 0))], []),
  (15, [(.inl 7)], (0, 0), [(.inr (.inr (.inl (44, 44)))), zIA, (.inl (0, 1, 0, 0))], [(.inr (.inr (.inl (44, 44))))]),
  (16, [(.inl 6)], (0, 0), [(.inr (.inr (.inl (44, 44)))), zIA, (.inl (0, 1, 0, 0))], [(.inl (1, 1, 0, 0)), (.inr (.inr (.inl (44, 44))))]),
  (19, [(.inl 5)], (0, 0), [(.inr (.inr (.inl (44, 44)))), zIA, (.inl (0, 1, 0, 0))], [(.inl (0, 0, 0, 0))]),
  (20, [(.inl 4)], (0, 0), [(.inr (.inr (.inl (44, 44)))), (.inl (0, 1, 0, 0)), (.inl (0, 1, 0, 0))], []),
  (21, [(.inl 3)], (0, 0), [(.inr (.inr (.inl (44, 44)))), (.inl (0, 1, 0, 0)), (.inl (0, 1, 0, 0))], [(.inr (.inr (.inl (44, 44))))]),
  (22, [(.inl 2)], (0, 0), [(.inr (.inr (.inl (44, 44)))), (.inl (0, 1, 0, 0)), (.inl (0, 1, 0, 0))], [(.inl (0, 1, 0, 2)), (.inr (.inr (.inl (44, 44))))]),
  (23, [(.inl 1)], (0, 0), [(.inr (.inr (.inl (44, 44)))), (.inl (0, 1, 0, 0)), (.inl (0, 1, 0, 0))], [(.inl (0, 1, 0, 3)), (.inl (0, 1, 0, 2)), (.inr (.inr (.inl (44, 44))))]),
  (26, [(.inl 0)], (0, 0), [(.inr (.inr (.inl (44, 44)))), (.inl (0, 1, 0, 0)), (.inl (0, 1, 0, 0))], [zIA])]
theorem g_170 {xs : List Int32} : zGd xs ct_170 := zmeth (cs := [ct_111, ct_169]) ct_170 ce_170 (List.forall_mem_cons.mpr ⟨g_111, List.forall_mem_cons.mpr ⟨g_169, fun _ h => absurd h List.not_mem_nil⟩⟩) (by decide +kernel)
def ct_176 : zCt := (176, [(.inr (.inr (.inl (44, 44)))), (.inl (0, 127, 0, 0))], some zIA, 8, 0, 0)
def ce_176 : List zCe := [(0, [(.inl 19)], (0, 0), [(.inr (.inr (.inl (44, 44)))), (.inl (0, 127, 0, 0))], []),
  (1, [(.inl 18)], (0, 0), [(.inr (.inr (.inl (44, 44)))), (.inl (0, 127, 0, 0))], [(.inr (.inr (.inl (44, 44))))]),
  (4, [(.inl 17)], (0, 0), [(.inr (.inr (.inl (44, 44)))), (.inl (0, 127, 0, 0))], [(.inr (.inr (.inl (71, 71))))]),
  (5, [(.inl 16)], (0, 0), [(.inr (.inr (.inl (44, 44)))), (.inl (0, 127, 0, 0))], [(.inl (0, 127, 0, 2)), (.inr (.inr (.inl (71, 71))))]),
  (6, [(.inl 15)], (0, 0), [(.inr (.inr (.inl (44, 44)))), (.inl (0, 127, 0, 0))], [(.inl (0, 1, 0, 0))]),
  (9, [(.inl 14)], (0, 0), [(.inr (.inr (.inl (44, 44)))), (.inl (0, 127, 0, 0))], []),
  (10, [(.inl 13)], (0, 0), [(.inr (.inr (.inl (44, 44)))), (.inl (0, 127, 0, 0))], [(.inr (.inr (.inl (44, 44))))]),
  (11, [(.inl 12)], (0, 0), [(.inr (.inr (.inl (44, 44)))), (.inl (0, 127, 0, 0))], [(.inr (.inr (.inl (44, 44)))), (.inr (.inr (.inl (44, 44))))]),
  (12, [(.inl 11)], (0, 0), [(.inr (.inr (.inl (44, 44)))), (.inl (0, 127, 0, 0))], [(.inl (0, 127, 0, 2)), (.inr (.inr (.inl (44, 44)))), (.inr (.inr (.inl (44, 44))))]),
  (15, [(.inl 10)], (0, 0), [(.inr (.inr (.inl (44, 44)))), (.inl (0, 127, 0, 0))], [zIA, (.inr (.inr (.inl (44, 44))))]),
  (18, [(.inl 9)], (0, 0), [(.inr (.inr (.inl (44, 44)))), (.inl (0, 127, 0, 0))], [(.inl (0, 2, 0, 0))]),
  (19, [(.inl 8)], (0, 0), [(.inr (.inr (.inl (44, 44)))), (.inl (0, 127, 0, 0))], [(.inl (2, 2, 0, 0)), (.inl (0, 2, 0, 0))]),
  (22, [(.inl 2)], (0, 0), [(.inr (.inr (.inl (44, 44)))), (.inl (0, 127, 0, 0))], []),
  (23, [(.inl 1)], (0, 0), [(.inr (.inr (.inl (44, 44)))), (.inl (0, 127, 0, 0))], [(.inl ((-1), (-1), 0, 0))]),
  (26, [(.inl 7)], (0, 0), [(.inr (.inr (.inl (44, 44)))), (.inl (0, 127, 0, 0))], []),
  (27, [(.inl 6)], (0, 0), [(.inr (.inr (.inl (44, 44)))), (.inl (0, 127, 0, 0))], [(.inr (.inr (.inl (44, 44))))]),
  (28, [(.inl 5)], (0, 0), [(.inr (.inr (.inl (44, 44)))), (.inl (0, 127, 0, 0))], [(.inr (.inr (.inl (44, 44)))), (.inr (.inr (.inl (44, 44))))]),
  (29, [(.inl 4)], (0, 0), [(.inr (.inr (.inl (44, 44)))), (.inl (0, 127, 0, 0))], [(.inl (0, 127, 0, 2)), (.inr (.inr (.inl (44, 44)))), (.inr (.inr (.inl (44, 44))))]),
  (32, [(.inl 3)], (0, 0), [(.inr (.inr (.inl (44, 44)))), (.inl (0, 127, 0, 0))], [zIA, (.inr (.inr (.inl (44, 44))))]),
  (35, [(.inl 0)], (0, 0), [(.inr (.inr (.inl (44, 44)))), (.inl (0, 127, 0, 0))], [zIA])]
theorem g_176 {xs : List Int32} : zGd xs ct_176 := zmeth (cs := [ct_121, ct_123, ct_125]) ct_176 ce_176 (List.forall_mem_cons.mpr ⟨g_121, List.forall_mem_cons.mpr ⟨g_123, List.forall_mem_cons.mpr ⟨g_125, fun _ h => absurd h List.not_mem_nil⟩⟩⟩) (by decide +kernel)
def ct_177 : zCt := (177, [(.inr (.inr (.inl (44, 44)))), (.inl (0, 127, 0, 0))], some zIA, 9, 0, 0)
def ce_177 : List zCe := [(0, [(.inl 30)], (0, 0), [(.inr (.inr (.inl (44, 44)))), (.inl (0, 127, 0, 0)), (.inr (.inr (.inr 0))), (.inr (.inr (.inr 0)))], []),
  (1, [(.inl 29)], (0, 0), [(.inr (.inr (.inl (44, 44)))), (.inl (0, 127, 0, 0)), (.inr (.inr (.inr 0))), (.inr (.inr (.inr 0)))], [(.inr (.inr (.inl (44, 44))))]),
  (4, [(.inl 28)], (0, 0), [(.inr (.inr (.inl (44, 44)))), (.inl (0, 127, 0, 0)), (.inr (.inr (.inr 0))), (.inr (.inr (.inr 0)))], [(.inr (.inr (.inl (72, 72))))]),
  (5, [(.inl 27)], (0, 0), [(.inr (.inr (.inl (44, 44)))), (.inl (0, 127, 0, 0)), (.inr (.inr (.inr 0))), (.inr (.inr (.inr 0)))], [(.inl (0, 127, 0, 2)), (.inr (.inr (.inl (72, 72))))]),
  (6, [(.inl 26)], (0, 0), [(.inr (.inr (.inl (44, 44)))), (.inl (0, 127, 0, 0)), (.inr (.inr (.inr 0))), (.inr (.inr (.inr 0)))], [(.inl (0, 1, 0, 0))]),
  (9, [(.inl 25)], (0, 0), [(.inr (.inr (.inl (44, 44)))), (.inl (0, 127, 0, 0)), (.inr (.inr (.inr 0))), (.inr (.inr (.inr 0)))], []),
  (11, [(.inl 24)], (0, 0), [(.inr (.inr (.inl (44, 44)))), (.inl (0, 127, 0, 0)), (.inr (.inr (.inr 0))), (.inr (.inr (.inr 0)))], [(.inl ((-2), (-2), 0, 0))]),
  (12, [(.inl 23)], (0, 0), [(.inr (.inr (.inl (44, 44)))), (.inl (0, 127, 0, 0)), (.inr (.inr (.inr 0))), (.inr (.inr (.inr 0)))], []),
  (13, [(.inl 22)], (0, 0), [(.inr (.inr (.inl (44, 44)))), (.inl (0, 127, 0, 0)), (.inr (.inr (.inr 0))), (.inr (.inr (.inr 0)))], [(.inr (.inr (.inl (44, 44))))]),
  (14, [(.inl 21)], (0, 0), [(.inr (.inr (.inl (44, 44)))), (.inl (0, 127, 0, 0)), (.inr (.inr (.inr 0))), (.inr (.inr (.inr 0)))], [(.inl (0, 127, 0, 2)), (.inr (.inr (.inl (44, 44))))]),
  (17, [(.inl 20)], (0, 0), [(.inr (.inr (.inl (44, 44)))), (.inl (0, 127, 0, 0)), (.inr (.inr (.inr 0))), (.inr (.inr (.inr 0)))], [zIA]),
  (18, [(.inl 19)], (0, 0), [(.inr (.inr (.inl (44, 44)))), (.inl (0, 127, 0, 0)), zIA, (.inr (.inr (.inr 0)))], []),
  (19, [(.inl 18)], (0, 0), [(.inr (.inr (.inl (44, 44)))), (.inl (0, 127, 0, 0)), zIA, (.inr (.inr (.inr 0)))], [(.inl (0, 127, 0, 2))]),
  (22, [(.inl 17)], (0, 0), [(.inr (.inr (.inl (44, 44)))), (.inl (0, 127, 0, 0)), zIA, (.inr (.inr (.inr 0)))], [(.inl (0, 127, 0, 0))]),
  (23, [(.inl 16)], (0, 0), [(.inr (.inr (.inl (44, 44)))), (.inl (0, 127, 0, 0)), zIA, (.inl (0, 127, 0, 0))], []),
  (24, [(.inl 15)], (0, 0), [(.inr (.inr (.inl (44, 44)))), (.inl (0, 127, 0, 0)), zIA, (.inl (0, 127, 0, 0))], [(.inl ((-2147483648), 2147483647, 0, 3))]),
  (25, [(.inl 14)], (0, 0), [(.inr (.inr (.inl (44, 44)))), (.inl (0, 127, 0, 0)), zIA, (.inl (0, 127, 0, 0))], [(.inl ((-1), (-1), 0, 0)), (.inl ((-2147483648), 2147483647, 0, 3))]),
  (28, [(.inl 13)], (0, 0), [(.inr (.inr (.inl (44, 44)))), (.inl (0, 127, 0, 0)), (.inl ((-1), (-1), 0, 0)), (.inl (0, 127, 0, 0))], []),
  (29, [(.inl 12)], (0, 0), [(.inr (.inr (.inl (44, 44)))), (.inl (0, 127, 0, 0)), (.inl ((-1), (-1), 0, 0)), (.inl (0, 127, 0, 0))], [(.inr (.inr (.inl (44, 44))))]),
  (32, [(.inl 11)], (0, 0), [(.inr (.inr (.inl (44, 44)))), (.inl (0, 127, 0, 0)), (.inl ((-1), (-1), 0, 0)), (.inl (0, 127, 0, 0))], [(.inl (0, 1, 0, 0))]),
  (35, [(.inl 10)], (0, 0), [(.inr (.inr (.inl (44, 44)))), (.inl (0, 127, 0, 0)), (.inl ((-1), (-1), 0, 0)), (.inl (0, 127, 0, 0))], []),
  (36, [(.inl 9)], (0, 0), [(.inr (.inr (.inl (44, 44)))), (.inl (0, 127, 0, 0)), (.inl ((-1), (-1), 0, 0)), (.inl (0, 127, 0, 0))], [(.inr (.inr (.inl (44, 44))))]),
  (39, [(.inl 8)], (0, 0), [(.inr (.inr (.inl (44, 44)))), (.inl (0, 127, 0, 0)), (.inl ((-1), (-1), 0, 0)), (.inl (0, 127, 0, 0))], [(.inr (.inr (.inl (72, 72))))]),
  (40, [(.inl 7)], (0, 0), [(.inr (.inr (.inl (44, 44)))), (.inl (0, 127, 0, 0)), (.inl ((-1), (-1), 0, 0)), (.inl (0, 127, 0, 0))], [(.inl (0, 127, 0, 4)), (.inr (.inr (.inl (72, 72))))]),
  (41, [(.inl 6)], (0, 0), [(.inr (.inr (.inl (44, 44)))), (.inl (0, 127, 0, 0)), (.inl ((-1), (-1), 0, 0)), (.inl (0, 127, 0, 0))], [(.inl (0, 1, 0, 0))]),
  (44, [(.inl 2)], (0, 0), [(.inr (.inr (.inl (44, 44)))), (.inl (0, 127, 0, 0)), zIA, (.inl (0, 127, 0, 0))], []),
  (45, [(.inl 1)], (0, 0), [(.inr (.inr (.inl (44, 44)))), (.inl (0, 127, 0, 0)), zIA, (.inl (0, 127, 0, 0))], [(.inl ((-2147483648), 2147483647, 0, 3))]),
  (48, [(.inl 5)], (0, 0), [(.inr (.inr (.inl (44, 44)))), (.inl (0, 127, 0, 0)), (.inl ((-1), (-1), 0, 0)), (.inl (0, 127, 0, 0))], []),
  (49, [(.inl 4)], (0, 0), [(.inr (.inr (.inl (44, 44)))), (.inl (0, 127, 0, 0)), (.inl ((-1), (-1), 0, 0)), (.inl (0, 127, 0, 0))], [(.inr (.inr (.inl (44, 44))))]),
  (50, [(.inl 3)], (0, 0), [(.inr (.inr (.inl (44, 44)))), (.inl (0, 127, 0, 0)), (.inl ((-1), (-1), 0, 0)), (.inl (0, 127, 0, 0))], [(.inl (0, 127, 0, 4)), (.inr (.inr (.inl (44, 44))))]),
  (53, [(.inl 0)], (0, 0), [(.inr (.inr (.inl (44, 44)))), (.inl (0, 127, 0, 0)), zIA, (.inl (0, 127, 0, 0))], [zIA])]
theorem g_177 {xs : List Int32} : zGd xs ct_177 := zmeth (cs := [ct_131, ct_176]) ct_177 ce_177 (List.forall_mem_cons.mpr ⟨g_131, List.forall_mem_cons.mpr ⟨g_176, fun _ h => absurd h List.not_mem_nil⟩⟩) (by decide +kernel)
def ct_178 : zCt := (178, [(.inr (.inr (.inl (44, 44)))), zIA], some zIA, 10, 0, 0)
def ce_178 : List zCe := [(0, [(.inl 13)], (0, 0), [(.inr (.inr (.inl (44, 44)))), zIA], []),
  (1, [(.inl 12)], (0, 0), [(.inr (.inr (.inl (44, 44)))), zIA], [(.inr (.inr (.inl (44, 44))))]),
  (2, [(.inl 11)], (0, 0), [(.inr (.inr (.inl (44, 44)))), zIA], [(.inl (0, 0, 0, 0)), (.inr (.inr (.inl (44, 44))))]),
  (5, [(.inl 10)], (0, 0), [(.inr (.inr (.inl (44, 44)))), zIA], []),
  (6, [(.inl 9)], (0, 0), [(.inr (.inr (.inl (44, 44)))), zIA], [(.inl ((-2147483648), 2147483647, 0, 2))]),
  (9, [(.inl 8)], (0, 0), [(.inr (.inr (.inl (44, 44)))), zIA], [(.inr (.inl (1, 0, 127, 0)))]),
  (12, [(.inl 7)], (0, 0), [(.inr (.inr (.inl (44, 44)))), zIA], []),
  (13, [(.inl 6)], (0, 0), [(.inr (.inr (.inl (44, 44)))), zIA], [(.inr (.inr (.inl (44, 44))))]),
  (14, [(.inl 5)], (0, 0), [(.inr (.inr (.inl (44, 44)))), zIA], [(.inl (1, 1, 0, 0)), (.inr (.inr (.inl (44, 44))))]),
  (17, [(.inl 4)], (0, 0), [(.inr (.inr (.inl (44, 44)))), zIA], [(.inl (0, 0, 0, 0))]),
  (18, [(.inl 3)], (0, 0), [(.inr (.inr (.inl (44, 44)))), (.inl (0, 127, 0, 0))], []),
  (19, [(.inl 2)], (0, 0), [(.inr (.inr (.inl (44, 44)))), (.inl (0, 127, 0, 0))], [(.inr (.inr (.inl (44, 44))))]),
  (20, [(.inl 1)], (0, 0), [(.inr (.inr (.inl (44, 44)))), (.inl (0, 127, 0, 0))], [(.inl (0, 127, 0, 2)), (.inr (.inr (.inl (44, 44))))]),
  (23, [(.inl 0)], (0, 0), [(.inr (.inr (.inl (44, 44)))), (.inl (0, 127, 0, 0))], [zIA])]
theorem g_178 {xs : List Int32} : zGd xs ct_178 := zmeth (cs := [ct_111, ct_138, ct_177]) ct_178 ce_178 (List.forall_mem_cons.mpr ⟨g_111, List.forall_mem_cons.mpr ⟨g_138, List.forall_mem_cons.mpr ⟨g_177, fun _ h => absurd h List.not_mem_nil⟩⟩⟩) (by decide +kernel)
def ct_179 : zCt := (179, [(.inr (.inr (.inl (44, 44)))), (.inl (0, 1, 0, 0))], some zIA, 7, 0, 0)
def ce_179 : List zCe := [(0, [(.inl 6), (.inl 0), (.inl 0)], (0, 0), [(.inr (.inr (.inl (44, 44)))), (.inl (0, 1, 0, 0)), (.inr (.inr (.inr 0))), (.inr (.inr (.inr 0))), (.inr (.inr (.inr 0))), (.inr (.inr (.inr 0)))], []),
  (1, [(.inl 5), (.inl 0), (.inl 0)], (0, 0), [(.inr (.inr (.inl (44, 44)))), (.inl (0, 1, 0, 0)), (.inr (.inr (.inr 0))), (.inr (.inr (.inr 0))), (.inr (.inr (.inr 0))), (.inr (.inr (.inr 0)))], [(.inl ((-1), (-1), 0, 0))]),
  (2, [(.inl 4), (.inl 0), (.inl 0)], (0, 0), [(.inr (.inr (.inl (44, 44)))), (.inl (0, 1, 0, 0)), (.inl ((-1), (-1), 0, 0)), (.inr (.inr (.inr 0))), (.inr (.inr (.inr 0))), (.inr (.inr (.inr 0)))], []),
  (3, [(.inl 3), (.inl 0), (.inl 0)], (0, 0), [(.inr (.inr (.inl (44, 44)))), (.inl (0, 1, 0, 0)), (.inl ((-1), (-1), 0, 0)), (.inr (.inr (.inr 0))), (.inr (.inr (.inr 0))), (.inr (.inr (.inr 0)))], [(.inl (0, 0, 0, 0))]),
  (4, [(.inl 2), (.inr (8, 3)), (.inl 69)], (0, 0), [(.inr (.inr (.inl (44, 44)))), (.inl (0, 1, 0, 0)), (.inl ((-1), 7, 0, 0)), (.inl (0, 8, 0, 0)), (.inr (.inr (.inr 0))), (.inr (.inr (.inr 0)))], []),
  (5, [(.inl 2), (.inr (8, 3)), (.inl 68)], (0, 0), [(.inr (.inr (.inl (44, 44)))), (.inl (0, 1, 0, 0)), (.inl ((-1), 7, 0, 0)), (.inl (0, 8, 0, 0)), (.inr (.inr (.inr 0))), (.inr (.inr (.inr 0)))], [(.inl (0, 8, 0, 4))]),
  (7, [(.inl 2), (.inr (8, 3)), (.inl 67)], (0, 0), [(.inr (.inr (.inl (44, 44)))), (.inl (0, 1, 0, 0)), (.inl ((-1), 7, 0, 0)), (.inl (0, 8, 0, 0)), (.inr (.inr (.inr 0))), (.inr (.inr (.inr 0)))], [(.inl (8, 8, 0, 0)), (.inl (0, 8, 0, 4))]),
  (10, [(.inl 2), (.inr (8, 3)), (.inl 66)], (0, 0), [(.inr (.inr (.inl (44, 44)))), (.inl (0, 1, 0, 0)), (.inl ((-1), 7, 0, 0)), (.inl (0, 7, 0, 0)), (.inr (.inr (.inr 0))), (.inr (.inr (.inr 0)))], []),
  (11, [(.inl 2), (.inr (8, 3)), (.inl 65)], (0, 0), [(.inr (.inr (.inl (44, 44)))), (.inl (0, 1, 0, 0)), (.inl ((-1), 7, 0, 0)), (.inl (0, 7, 0, 0)), (.inr (.inr (.inr 0))), (.inr (.inr (.inr 0)))], [(.inr (.inr (.inl (44, 44))))]),
  (14, [(.inl 2), (.inr (8, 3)), (.inl 64)], (0, 0), [(.inr (.inr (.inl (44, 44)))), (.inl (0, 1, 0, 0)), (.inl ((-1), 7, 0, 0)), (.inl (0, 7, 0, 0)), (.inr (.inr (.inr 0))), (.inr (.inr (.inr 0)))], [(.inr (.inr (.inl (70, 70))))]),
  (15, [(.inl 2), (.inr (8, 3)), (.inl 63)], (0, 0), [(.inr (.inr (.inl (44, 44)))), (.inl (0, 1, 0, 0)), (.inl ((-1), 7, 0, 0)), (.inl (0, 7, 0, 0)), (.inr (.inr (.inr 0))), (.inr (.inr (.inr 0)))], [(.inl (0, 1, 0, 2)), (.inr (.inr (.inl (70, 70))))]),
  (16, [(.inl 2), (.inr (8, 3)), (.inl 62)], (0, 0), [(.inr (.inr (.inl (44, 44)))), (.inl (0, 1, 0, 0)), (.inl ((-1), 7, 0, 0)), (.inl (0, 7, 0, 0)), (.inr (.inr (.inr 0))), (.inr (.inr (.inr 0)))], [(.inl (0, 2, 0, 0))]),
  (17, [(.inl 2), (.inr (8, 3)), (.inl 61)], (0, 0), [(.inr (.inr (.inl (44, 44)))), (.inl (0, 1, 0, 0)), (.inl ((-1), 7, 0, 0)), (.inl (0, 7, 0, 0)), (.inr (.inr (.inr 0))), (.inr (.inr (.inr 0)))], [(.inl (2, 2, 0, 0)), (.inl (0, 2, 0, 0))]),
  (20, [(.inl 2), (.inr (8, 3)), (.inl 60)], (0, 0), [(.inr (.inr (.inl (44, 44)))), (.inl (0, 1, 0, 0)), (.inl ((-1), 7, 0, 0)), (.inl (0, 7, 0, 0)), (.inr (.inr (.inr 0))), (.inr (.inr (.inr 0)))], []),
  (21, [(.inl 2), (.inr (8, 3)), (.inl 59)], (0, 0), [(.inr (.inr (.inl (44, 44)))), (.inl (0, 1, 0, 0)), (.inl ((-1), 7, 0, 0)), (.inl (0, 7, 0, 0)), (.inr (.inr (.inr 0))), (.inr (.inr (.inr 0)))], [(.inr (.inr (.inl (44, 44))))]),
  (24, [(.inl 2), (.inr (8, 3)), (.inl 58)], (0, 0), [(.inr (.inr (.inl (44, 44)))), (.inl (0, 1, 0, 0)), (.inl ((-1), 7, 0, 0)), (.inl (0, 7, 0, 0)), (.inr (.inr (.inr 0))), (.inr (.inr (.inr 0)))], [(.inr (.inr (.inl (69, 69))))]),
  (25, [(.inl 2), (.inr (8, 3)), (.inl 57)], (0, 0), [(.inr (.inr (.inl (44, 44)))), (.inl (0, 1, 0, 0)), (.inl ((-1), 7, 0, 0)), (.inl (0, 7, 0, 0)), (.inr (.inr (.inr 0))), (.inr (.inr (.inr 0)))], [(.inl (0, 1, 0, 2)), (.inr (.inr (.inl (69, 69))))]),
  (27, [(.inl 2), (.inr (8, 3)), (.inl 56)], (0, 0), [(.inr (.inr (.inl (44, 44)))), (.inl (0, 1, 0, 0)), (.inl ((-1), 7, 0, 0)), (.inl (0, 7, 0, 0)), (.inr (.inr (.inr 0))), (.inr (.inr (.inr 0)))], [(.inl (8, 8, 0, 0)), (.inl (0, 1, 0, 2)), (.inr (.inr (.inl (69, 69))))]),
  (28, [(.inl 2), (.inr (8, 3)), (.inl 55)], (0, 0), [(.inr (.inr (.inl (44, 44)))), (.inl (0, 1, 0, 0)), (.inl ((-1), 7, 0, 0)), (.inl (0, 7, 0, 0)), (.inr (.inr (.inr 0))), (.inr (.inr (.inr 0)))], [(.inl (0, 8, 0, 0)), (.inr (.inr (.inl (69, 69))))]),
  (29, [(.inl 2), (.inr (8, 3)), (.inl 54)], (0, 0), [(.inr (.inr (.inl (44, 44)))), (.inl (0, 1, 0, 0)), (.inl ((-1), 7, 0, 0)), (.inl (0, 7, 0, 0)), (.inr (.inr (.inr 0))), (.inr (.inr (.inr 0)))], [(.inl (0, 7, 0, 4)), (.inl (0, 8, 0, 0)), (.inr (.inr (.inl (69, 69))))]),
  (30, [(.inl 2), (.inr (8, 3)), (.inl 53)], (0, 0), [(.inr (.inr (.inl (44, 44)))), (.inl (0, 1, 0, 0)), (.inl ((-1), 7, 0, 0)), (.inl (0, 7, 0, 0)), (.inr (.inr (.inr 0))), (.inr (.inr (.inr 0)))], [(.inl (0, 15, 0, 0)), (.inr (.inr (.inl (69, 69))))]),
  (31, [(.inl 2), (.inr (8, 3)), (.inl 52)], (0, 0), [(.inr (.inr (.inl (44, 44)))), (.inl (0, 1, 0, 0)), (.inl ((-1), 7, 0, 0)), (.inl (0, 7, 0, 0)), (.inr (.inr (.inr 0))), (.inr (.inr (.inr 0)))], [(.inl (0, 19, 0, 0))]),
  (33, [(.inl 2), (.inr (8, 3)), (.inl 51)], (0, 0), [(.inr (.inr (.inl (44, 44)))), (.inl (0, 1, 0, 0)), (.inl ((-1), 7, 0, 0)), (.inl (0, 7, 0, 0)), (.inl (0, 19, 0, 0)), (.inr (.inr (.inr 0)))], []),
  (34, [(.inl 2), (.inr (8, 3)), (.inl 50)], (0, 0), [(.inr (.inr (.inl (44, 44)))), (.inl (0, 1, 0, 0)), (.inl ((-1), 7, 0, 0)), (.inl (0, 7, 0, 0)), (.inl (0, 19, 0, 0)), (.inr (.inr (.inr 0)))], [(.inr (.inr (.inl (44, 44))))]),
  (36, [(.inl 2), (.inr (8, 3)), (.inl 49)], (0, 0), [(.inr (.inr (.inl (44, 44)))), (.inl (0, 1, 0, 0)), (.inl ((-1), 7, 0, 0)), (.inl (0, 7, 0, 0)), (.inl (0, 19, 0, 0)), (.inr (.inr (.inr 0)))], [(.inl (0, 19, 0, 5)), (.inr (.inr (.inl (44, 44))))]),
  (39, [(.inl 2), (.inr (8, 3)), (.inl 48)], (0, 0), [(.inr (.inr (.inl (44, 44)))), (.inl (0, 1, 0, 0)), (.inl ((-1), 7, 0, 0)), (.inl (0, 7, 0, 0)), (.inl (0, 19, 0, 0)), (.inr (.inr (.inr 0)))], [zIA]),
  (42, [(.inl 2), (.inr (8, 3)), (.inl 47)], (0, 0), [(.inr (.inr (.inl (44, 44)))), (.inl (0, 1, 0, 0)), (.inl ((-1), 7, 0, 0)), (.inl (0, 7, 0, 0)), (.inl (0, 19, 0, 0)), (.inr (.inr (.inr 0)))], []),
  (45, [(.inl 2), (.inr (8, 3)), (.inl 46)], (0, 0), [(.inr (.inr (.inl (44, 44)))), (.inl (0, 1, 0, 0)), (.inl ((-1), 7, 0, 0)), (.inl (0, 7, 0, 0)), (.inl (0, 19, 0, 0)), (.inr (.inr (.inr 0)))], []),
  (46, [(.inl 2), (.inr (8, 3)), (.inl 45)], (0, 0), [(.inr (.inr (.inl (44, 44)))), (.inl (0, 1, 0, 0)), (.inl ((-1), 7, 0, 0)), (.inl (0, 7, 0, 0)), (.inl (0, 19, 0, 0)), (.inr (.inr (.inr 0)))], [(.inl ((-1), 7, 0, 3))]),
  (47, [(.inl 2), (.inr (8, 3)), (.inl 44)], (0, 0), [(.inr (.inr (.inl (44, 44)))), (.inl (0, 1, 0, 0)), (.inl ((-1), 7, 0, 0)), (.inl (0, 7, 0, 0)), (.inl (0, 19, 0, 0)), (.inr (.inr (.inr 0)))], [(.inl ((-1), (-1), 0, 0)), (.inl ((-1), 7, 0, 3))]),
  (50, [(.inl 2), (.inr (8, 3)), (.inl 43)], (0, 0), [(.inr (.inr (.inl (44, 44)))), (.inl (0, 1, 0, 0)), (.inl ((-1), (-1), 0, 0)), (.inl (0, 7, 0, 0)), (.inl (0, 19, 0, 0)), (.inr (.inr (.inr 0)))], []),
  (51, [(.inl 2), (.inr (8, 3)), (.inl 42)], (0, 0), [(.inr (.inr (.inl (44, 44)))), (.inl (0, 1, 0, 0)), (.inl ((-1), (-1), 0, 0)), (.inl (0, 7, 0, 0)), (.inl (0, 19, 0, 0)), (.inr (.inr (.inr 0)))], [(.inl (0, 0, 0, 0))]),
  (54, [(.inl 2), (.inr (8, 3)), (.inl 41)], (0, 0), [(.inr (.inr (.inl (44, 44)))), (.inl (0, 1, 0, 0)), (.inl (0, 7, 0, 0)), (.inl (0, 7, 0, 0)), (.inl (0, 19, 0, 0)), (.inr (.inr (.inr 0)))], []),
  (55, [(.inl 2), (.inr (8, 3)), (.inl 40)], (0, 0), [(.inr (.inr (.inl (44, 44)))), (.inl (0, 1, 0, 0)), (.inl (0, 7, 0, 0)), (.inl (0, 7, 0, 0)), (.inl (0, 19, 0, 0)), (.inr (.inr (.inr 0)))], [(.inr (.inr (.inl (44, 44))))]),
  (58, [(.inl 2), (.inr (8, 3)), (.inl 39)], (0, 0), [(.inr (.inr (.inl (44, 44)))), (.inl (0, 1, 0, 0)), (.inl (0, 7, 0, 0)), (.inl (0, 7, 0, 0)), (.inl (0, 19, 0, 0)), (.inr (.inr (.inr 0)))], [(.inr (.inr (.inl (69, 69))))]),
  (59, [(.inl 2), (.inr (8, 3)), (.inl 38)], (0, 0), [(.inr (.inr (.inl (44, 44)))), (.inl (0, 1, 0, 0)), (.inl (0, 7, 0, 0)), (.inl (0, 7, 0, 0)), (.inl (0, 19, 0, 0)), (.inr (.inr (.inr 0)))], [(.inl (0, 1, 0, 2)), (.inr (.inr (.inl (69, 69))))]),
  (61, [(.inl 2), (.inr (8, 3)), (.inl 37)], (0, 0), [(.inr (.inr (.inl (44, 44)))), (.inl (0, 1, 0, 0)), (.inl (0, 7, 0, 0)), (.inl (0, 7, 0, 0)), (.inl (0, 19, 0, 0)), (.inr (.inr (.inr 0)))], [(.inl (8, 8, 0, 0)), (.inl (0, 1, 0, 2)), (.inr (.inr (.inl (69, 69))))]),
  (62, [(.inl 2), (.inr (8, 3)), (.inl 36)], (0, 0), [(.inr (.inr (.inl (44, 44)))), (.inl (0, 1, 0, 0)), (.inl (0, 7, 0, 0)), (.inl (0, 7, 0, 0)), (.inl (0, 19, 0, 0)), (.inr (.inr (.inr 0)))], [(.inl (0, 8, 0, 0)), (.inr (.inr (.inl (69, 69))))]),
  (63, [(.inl 2), (.inr (8, 3)), (.inl 35)], (0, 0), [(.inr (.inr (.inl (44, 44)))), (.inl (0, 1, 0, 0)), (.inl (0, 7, 0, 0)), (.inl (0, 7, 0, 0)), (.inl (0, 19, 0, 0)), (.inr (.inr (.inr 0)))], [(.inl (0, 7, 0, 3)), (.inl (0, 8, 0, 0)), (.inr (.inr (.inl (69, 69))))]),
  (64, [(.inl 2), (.inr (8, 3)), (.inl 34)], (0, 0), [(.inr (.inr (.inl (44, 44)))), (.inl (0, 1, 0, 0)), (.inl (0, 7, 0, 0)), (.inl (0, 7, 0, 0)), (.inl (0, 19, 0, 0)), (.inr (.inr (.inr 0)))], [(.inl (0, 15, 0, 0)), (.inr (.inr (.inl (69, 69))))]),
  (65, [(.inl 2), (.inr (8, 3)), (.inl 33)], (0, 0), [(.inr (.inr (.inl (44, 44)))), (.inl (0, 1, 0, 0)), (.inl ((-1), 7, 0, 0)), (.inl (0, 7, 0, 0)), (.inl (0, 19, 0, 0)), (.inr (.inr (.inr 0)))], [(.inl (0, 19, 0, 0))]),
  (67, [(.inl 2), (.inr (8, 3)), (.inl 32)], (0, 0), [(.inr (.inr (.inl (44, 44)))), (.inl (0, 1, 0, 0)), (.inl ((-1), 7, 0, 0)), (.inl (0, 7, 0, 0)), (.inl (0, 19, 0, 0)), (.inl (0, 19, 0, 0))], []),
  (68, [(.inl 2), (.inr (8, 3)), (.inl 31)], (0, 0), [(.inr (.inr (.inl (44, 44)))), (.inl (0, 1, 0, 0)), (.inl ((-1), 7, 0, 0)), (.inl (0, 7, 0, 0)), (.inl (0, 19, 0, 0)), (.inl (0, 19, 0, 0))], [(.inl ((-1), 7, 0, 3))]),
  (69, [(.inl 2), (.inr (8, 3)), (.inl 30)], (0, 0), [(.inr (.inr (.inl (44, 44)))), (.inl (0, 1, 0, 0)), (.inl ((-1), 7, 0, 0)), (.inl (0, 7, 0, 0)), (.inl (0, 19, 0, 0)), (.inl (0, 19, 0, 0))], [(.inl ((-1), (-1), 0, 0)), (.inl ((-1), 7, 0, 3))]),
  (72, [(.inl 2), (.inr (8, 3)), (.inl 29)], (0, 0), [(.inr (.inr (.inl (44, 44)))), (.inl (0, 1, 0, 0)), (.inl (0, 7, 0, 0)), (.inl (0, 7, 0, 0)), (.inl (0, 19, 0, 0)), (.inl (0, 19, 0, 0))], []),
  (73, [(.inl 2), (.inr (8, 3)), (.inl 28)], (0, 0), [(.inr (.inr (.inl (44, 44)))), (.inl (0, 1, 0, 0)), (.inl (0, 7, 0, 0)), (.inl (0, 7, 0, 0)), (.inl (0, 19, 0, 0)), (.inl (0, 19, 0, 0))], [(.inr (.inr (.inl (44, 44))))]),
  (75, [(.inl 2), (.inr (8, 3)), (.inl 27)], (0, 0), [(.inr (.inr (.inl (44, 44)))), (.inl (0, 1, 0, 0)), (.inl (0, 7, 0, 0)), (.inl (0, 7, 0, 0)), (.inl (0, 19, 0, 0)), (.inl (0, 19, 0, 0))], [(.inl (0, 19, 0, 5)), (.inr (.inr (.inl (44, 44))))]),
  (78, [(.inl 2), (.inr (8, 3)), (.inl 26)], (0, 0), [(.inr (.inr (.inl (44, 44)))), (.inl (0, 1, 0, 0)), (.inl (0, 7, 0, 0)), (.inl (0, 7, 0, 0)), (.inl (0, 19, 0, 0)), (.inl (0, 19, 0, 0))], [zIA]),
  (79, [(.inl 2), (.inr (8, 3)), (.inl 25)], (0, 0), [(.inr (.inr (.inl (44, 44)))), (.inl (0, 1, 0, 0)), (.inl (0, 7, 0, 0)), (.inl (0, 7, 0, 0)), (.inl (0, 19, 0, 0)), (.inl (0, 19, 0, 0))], [(.inr (.inr (.inl (44, 44)))), zIA]),
  (81, [(.inl 2), (.inr (8, 3)), (.inl 24)], (0, 0), [(.inr (.inr (.inl (44, 44)))), (.inl (0, 1, 0, 0)), (.inl (0, 7, 0, 0)), (.inl (0, 7, 0, 0)), (.inl (0, 19, 0, 0)), (.inl (0, 19, 0, 0))], [(.inl (0, 19, 0, 6)), (.inr (.inr (.inl (44, 44)))), zIA]),
  (84, [(.inl 2), (.inr (8, 3)), (.inl 23)], (0, 0), [(.inr (.inr (.inl (44, 44)))), (.inl (0, 1, 0, 0)), (.inl (0, 7, 0, 0)), (.inl (0, 7, 0, 0)), (.inl (0, 19, 0, 0)), (.inl (0, 19, 0, 0))], [zIA, zIA]),
  (87, [(.inl 2), (.inr (8, 3)), (.inl 22)], (0, 0), [(.inr (.inr (.inl (44, 44)))), (.inl (0, 1, 0, 0)), (.inl (0, 7, 0, 0)), (.inl (0, 7, 0, 0)), (.inl (0, 19, 0, 0)), (.inl (0, 19, 0, 0))], []),
  (88, [(.inl 2), (.inr (8, 3)), (.inl 21)], (0, 0), [(.inr (.inr (.inl (44, 44)))), (.inl (0, 1, 0, 0)), (.inl (0, 7, 0, 0)), (.inl (0, 7, 0, 0)), (.inl (0, 19, 0, 0)), (.inl (0, 19, 0, 0))], [(.inr (.inr (.inl (44, 44))))]),
  (90, [(.inl 2), (.inr (8, 3)), (.inl 20)], (0, 0), [(.inr (.inr (.inl (44, 44)))), (.inl (0, 1, 0, 0)), (.inl (0, 7, 0, 0)), (.inl (0, 7, 0, 0)), (.inl (0, 19, 0, 0)), (.inl (0, 19, 0, 0))], [(.inl (0, 19, 0, 5)), (.inr (.inr (.inl (44, 44))))]),
  (93, [(.inl 2), (.inr (8, 3)), (.inl 19)], (0, 0), [(.inr (.inr (.inl (44, 44)))), (.inl (0, 1, 0, 0)), (.inl (0, 7, 0, 0)), (.inl (0, 7, 0, 0)), (.inl (0, 19, 0, 0)), (.inl (0, 19, 0, 0))], [zIA]),
  (94, [(.inl 2), (.inr (8, 3)), (.inl 18)], (0, 0), [(.inr (.inr (.inl (44, 44)))), (.inl (0, 1, 0, 0)), (.inl (0, 7, 0, 0)), (.inl (0, 7, 0, 0)), (.inl (0, 19, 0, 0)), (.inl (0, 19, 0, 0))], [(.inr (.inr (.inl (44, 44)))), zIA]),
  (96, [(.inl 2), (.inr (8, 3)), (.inl 17)], (0, 0), [(.inr (.inr (.inl (44, 44)))), (.inl (0, 1, 0, 0)), (.inl (0, 7, 0, 0)), (.inl (0, 7, 0, 0)), (.inl (0, 19, 0, 0)), (.inl (0, 19, 0, 0))], [(.inl (0, 19, 0, 6)), (.inr (.inr (.inl (44, 44)))), zIA]),
  (99, [(.inl 2), (.inr (8, 3)), (.inl 16)], (0, 0), [(.inr (.inr (.inl (44, 44)))), (.inl (0, 1, 0, 0)), (.inl (0, 7, 0, 0)), (.inl (0, 7, 0, 0)), (.inl (0, 19, 0, 0)), (.inl (0, 19, 0, 0))], [zIA, zIA]),
  (102, [(.inl 2), (.inr (8, 3)), (.inl 15)], (0, 0), [(.inr (.inr (.inl (44, 44)))), (.inl (0, 1, 0, 0)), (.inl (0, 7, 0, 0)), (.inl (0, 7, 0, 0)), (.inl (0, 19, 0, 0)), (.inl (0, 19, 0, 0))], []),
  (103, [(.inl 2), (.inr (8, 3)), (.inl 14)], (0, 0), [(.inr (.inr (.inl (44, 44)))), (.inl (0, 1, 0, 0)), (.inl (0, 7, 0, 0)), (.inl (0, 7, 0, 0)), (.inl (0, 19, 0, 0)), (.inl (0, 19, 0, 0))], [(.inr (.inr (.inl (44, 44))))]),
  (104, [(.inl 2), (.inr (8, 3)), (.inl 13)], (0, 0), [(.inr (.inr (.inl (44, 44)))), (.inl (0, 1, 0, 0)), (.inl (0, 7, 0, 0)), (.inl (0, 7, 0, 0)), (.inl (0, 19, 0, 0)), (.inl (0, 19, 0, 0))], [(.inr (.inr (.inl (44, 44)))), (.inr (.inr (.inl (44, 44))))]),
  (107, [(.inl 2), (.inr (8, 3)), (.inl 12)], (0, 0), [(.inr (.inr (.inl (44, 44)))), (.inl (0, 1, 0, 0)), (.inl (0, 7, 0, 0)), (.inl (0, 7, 0, 0)), (.inl (0, 19, 0, 0)), (.inl (0, 19, 0, 0))], [(.inr (.inr (.inr 8))), (.inr (.inr (.inl (44, 44))))]),
  (109, [(.inl 2), (.inr (8, 3)), (.inl 11)], (0, 0), [(.inr (.inr (.inl (44, 44)))), (.inl (0, 1, 0, 0)), (.inl (0, 7, 0, 0)), (.inl (0, 7, 0, 0)), (.inl (0, 19, 0, 0)), (.inl (0, 19, 0, 0))], [(.inl (0, 19, 0, 5)), (.inr (.inr (.inr 8))), (.inr (.inr (.inl (44, 44))))]),
  (110, [(.inl 2), (.inr (8, 3)), (.inl 10)], (0, 0), [(.inr (.inr (.inl (44, 44)))), (.inl (0, 1, 0, 0)), (.inl (0, 7, 0, 0)), (.inl (0, 7, 0, 0)), (.inl (0, 19, 0, 0)), (.inl (0, 19, 0, 0))], [(.inl ((-1), (-1), 0, 0)), (.inl (0, 19, 0, 5)), (.inr (.inr (.inr 8))), (.inr (.inr (.inl (44, 44))))]),
  (113, [(.inl 2), (.inr (8, 3)), (.inl 9)], (0, 0), [(.inr (.inr (.inl (44, 44)))), (.inl (0, 1, 0, 0)), (.inl (0, 7, 0, 0)), (.inl (0, 7, 0, 0)), (.inl (0, 19, 0, 0)), (.inl (0, 19, 0, 0))], [zIA]),
  (114, [(.inl 2), (.inr (8, 3)), (.inl 8)], (0, 0), [(.inr (.inr (.inl (44, 44)))), (.inl (0, 1, 0, 0)), (.inl (0, 7, 0, 0)), (.inl (0, 7, 0, 0)), (.inl (0, 19, 0, 0)), (.inl (0, 19, 0, 0))], [(.inr (.inr (.inl (44, 44)))), zIA]),
  (115, [(.inl 2), (.inr (8, 3)), (.inl 7)], (0, 0), [(.inr (.inr (.inl (44, 44)))), (.inl (0, 1, 0, 0)), (.inl (0, 7, 0, 0)), (.inl (0, 7, 0, 0)), (.inl (0, 19, 0, 0)), (.inl (0, 19, 0, 0))], [(.inr (.inr (.inl (44, 44)))), (.inr (.inr (.inl (44, 44)))), zIA]),
  (118, [(.inl 2), (.inr (8, 3)), (.inl 6)], (0, 0), [(.inr (.inr (.inl (44, 44)))), (.inl (0, 1, 0, 0)), (.inl (0, 7, 0, 0)), (.inl (0, 7, 0, 0)), (.inl (0, 19, 0, 0)), (.inl (0, 19, 0, 0))], [(.inr (.inr (.inr 8))), (.inr (.inr (.inl (44, 44)))), zIA]),
  (120, [(.inl 2), (.inr (8, 3)), (.inl 5)], (0, 0), [(.inr (.inr (.inl (44, 44)))), (.inl (0, 1, 0, 0)), (.inl (0, 7, 0, 0)), (.inl (0, 7, 0, 0)), (.inl (0, 19, 0, 0)), (.inl (0, 19, 0, 0))], [(.inl (0, 19, 0, 6)), (.inr (.inr (.inr 8))), (.inr (.inr (.inl (44, 44)))), zIA]),
  (121, [(.inl 2), (.inr (8, 3)), (.inl 4)], (0, 0), [(.inr (.inr (.inl (44, 44)))), (.inl (0, 1, 0, 0)), (.inl (0, 7, 0, 0)), (.inl (0, 7, 0, 0)), (.inl (0, 19, 0, 0)), (.inl (0, 19, 0, 0))], [(.inl ((-1), (-1), 0, 0)), (.inl (0, 19, 0, 6)), (.inr (.inr (.inr 8))), (.inr (.inr (.inl (44, 44)))), zIA]),
  (124, [(.inl 2), (.inr (8, 3)), (.inl 3)], (0, 0), [(.inr (.inr (.inl (44, 44)))), (.inl (0, 1, 0, 0)), (.inl (0, 7, 0, 0)), (.inl (0, 7, 0, 0)), (.inl (0, 19, 0, 0)), (.inl (0, 19, 0, 0))], [zIA, zIA]),
  (127, [(.inl 2), (.inr (8, 3)), (.inl 2)], (0, 0), [(.inr (.inr (.inl (44, 44)))), (.inl (0, 1, 0, 0)), (.inl ((-1), 7, 0, 0)), (.inl (0, 7, 0, 0)), (.inl (0, 19, 0, 0)), (.inl (0, 19, 0, 0))], []),
  (128, [(.inl 2), (.inr (8, 3)), (.inl 1)], (0, 0), [(.inr (.inr (.inl (44, 44)))), (.inl (0, 1, 0, 0)), (.inl ((-1), 7, 0, 0)), (.inl (0, 7, 0, 0)), (.inl (0, 19, 0, 0)), (.inl (0, 19, 0, 0))], [(.inl (0, 7, 0, 4))]),
  (129, [(.inl 2), (.inr (8, 3)), (.inl 0)], (0, 0), [(.inr (.inr (.inl (44, 44)))), (.inl (0, 1, 0, 0)), (.inl ((-1), 7, 0, 0)), (.inl (0, 7, 0, 0)), (.inl (0, 19, 0, 0)), (.inr (.inr (.inr 0)))], []),
  (132, [(.inl 2), (.inr (8, 3)), (.inl 70)], (0, 0), [(.inr (.inr (.inl (44, 44)))), (.inl (0, 1, 0, 0)), (.inl ((-1), 7, 0, 0)), (.inl (1, 8, 0, 0)), (.inl (0, 19, 0, 0)), (.inr (.inr (.inr 0)))], []),
  (135, [(.inl 1), (.inl 0), (.inl 0)], (0, 0), [(.inr (.inr (.inl (44, 44)))), (.inl (0, 1, 0, 0)), (.inl ((-1), 7, 0, 0)), (.inl (0, 8, 0, 0)), (.inr (.inr (.inr 0))), (.inr (.inr (.inr 0)))], []),
  (136, [(.inl 0), (.inl 0), (.inl 0)], (0, 0), [(.inr (.inr (.inl (44, 44)))), (.inl (0, 1, 0, 0)), (.inl ((-1), 7, 0, 0)), (.inl (0, 8, 0, 0)), (.inr (.inr (.inr 0))), (.inr (.inr (.inr 0)))], [(.inl ((-1), 7, 0, 3))])]
theorem g_179 {xs : List Int32} : zGd xs ct_179 := zmeth (cs := [ct_158a, ct_161]) ct_179 ce_179 (List.forall_mem_cons.mpr ⟨g_158a, List.forall_mem_cons.mpr ⟨g_161, fun _ h => absurd h List.not_mem_nil⟩⟩) (by decide +kernel)
def ct_180 : zCt := (180, [(.inr (.inr (.inl (44, 44)))), zIA], some zIA, 8, 0, 0)
def ce_180 : List zCe := [(0, [(.inl 15)], (0, 0), [(.inr (.inr (.inl (44, 44)))), zIA], []),
  (1, [(.inl 14)], (0, 0), [(.inr (.inr (.inl (44, 44)))), zIA], [(.inr (.inr (.inl (44, 44))))]),
  (2, [(.inl 13)], (0, 0), [(.inr (.inr (.inl (44, 44)))), zIA], [(.inl (0, 0, 0, 0)), (.inr (.inr (.inl (44, 44))))]),
  (5, [(.inl 12)], (0, 0), [(.inr (.inr (.inl (44, 44)))), zIA], []),
  (6, [(.inl 11)], (0, 0), [(.inr (.inr (.inl (44, 44)))), zIA], [(.inl ((-2147483648), 2147483647, 0, 2))]),
  (7, [(.inl 10)], (0, 0), [(.inr (.inr (.inl (44, 44)))), zIA], [(.inl (0, 0, 0, 0)), (.inl ((-2147483648), 2147483647, 0, 2))]),
  (8, [(.inl 9)], (0, 0), [(.inr (.inr (.inl (44, 44)))), zIA], [(.inl (1, 1, 0, 0)), (.inl (0, 0, 0, 0)), (.inl ((-2147483648), 2147483647, 0, 2))]),
  (11, [(.inl 8)], (0, 0), [(.inr (.inr (.inl (44, 44)))), zIA], [(.inr (.inl (1, 0, 1, 0)))]),
  (14, [(.inl 7)], (0, 0), [(.inr (.inr (.inl (44, 44)))), zIA], []),
  (15, [(.inl 6)], (0, 0), [(.inr (.inr (.inl (44, 44)))), zIA], [(.inr (.inr (.inl (44, 44))))]),
  (16, [(.inl 5)], (0, 0), [(.inr (.inr (.inl (44, 44)))), zIA], [(.inl (1, 1, 0, 0)), (.inr (.inr (.inl (44, 44))))]),
  (19, [(.inl 4)], (0, 0), [(.inr (.inr (.inl (44, 44)))), zIA], [(.inl (0, 0, 0, 0))]),
  (20, [(.inl 3)], (0, 0), [(.inr (.inr (.inl (44, 44)))), (.inl (0, 1, 0, 0))], []),
  (21, [(.inl 2)], (0, 0), [(.inr (.inr (.inl (44, 44)))), (.inl (0, 1, 0, 0))], [(.inr (.inr (.inl (44, 44))))]),
  (22, [(.inl 1)], (0, 0), [(.inr (.inr (.inl (44, 44)))), (.inl (0, 1, 0, 0))], [(.inl (0, 1, 0, 2)), (.inr (.inr (.inl (44, 44))))]),
  (25, [(.inl 0)], (0, 0), [(.inr (.inr (.inl (44, 44)))), (.inl (0, 1, 0, 0))], [zIA])]
theorem g_180 {xs : List Int32} : zGd xs ct_180 := zmeth (cs := [ct_111, ct_179]) ct_180 ce_180 (List.forall_mem_cons.mpr ⟨g_111, List.forall_mem_cons.mpr ⟨g_179, fun _ h => absurd h List.not_mem_nil⟩⟩) (by decide +kernel)
def ct_181 : zCt := (181, [(.inr (.inr (.inl (44, 44)))), (.inr (.inr (.inr 6)))], some ((.inl (0, 1, 0, 0))), 4, 0, 0)
def ce_181 : List zCe := [(0, [(.inl 6), (.inl 0), (.inl 0)], (0, 0), [(.inr (.inr (.inl (44, 44)))), (.inr (.inr (.inr 6))), (.inr (.inr (.inr 0)))], []),
  (1, [(.inl 5), (.inl 0), (.inl 0)], (0, 0), [(.inr (.inr (.inl (44, 44)))), (.inr (.inr (.inr 6))), (.inr (.inr (.inr 0)))], [(.inl (0, 0, 0, 0))]),
  (2, [(.inl 4), (.inr (24, 2)), (.inl 38)], (0, 0), [(.inr (.inr (.inl (44, 44)))), (.inr (.inr (.inr 6))), (.inl (0, 24, 0, 0))], []),
  (3, [(.inl 4), (.inr (24, 2)), (.inl 37)], (0, 0), [(.inr (.inr (.inl (44, 44)))), (.inr (.inr (.inr 6))), (.inl (0, 24, 0, 0))], [(.inl (0, 24, 0, 3))]),
  (4, [(.inl 4), (.inr (24, 2)), (.inl 36)], (0, 0), [(.inr (.inr (.inl (44, 44)))), (.inr (.inr (.inr 6))), (.inl (0, 24, 0, 0))], [(.inr (.inr (.inl (44, 44)))), (.inl (0, 24, 0, 3))]),
  (7, [(.inl 4), (.inr (24, 2)), (.inl 35)], (0, 0), [(.inr (.inr (.inl (44, 44)))), (.inr (.inr (.inr 6))), (.inl (0, 24, 0, 0))], [(.inr (.inr (.inr 8))), (.inl (0, 24, 0, 3))]),
  (12, [(.inl 4), (.inr (24, 2)), (.inl 34)], (0, 0), [(.inr (.inr (.inl (44, 44)))), (.inr (.inr (.inr 6))), (.inl (0, 24, 0, 0))], [(.inl (0, 24, 2, 0)), (.inl (0, 24, 0, 3))]),
  (15, [(.inl 4), (.inr (24, 2)), (.inl 33)], (0, 0), [(.inr (.inr (.inl (44, 44)))), (.inr (.inr (.inr 6))), (.inl (0, 23, 1, 0))], []),
  (16, [(.inl 4), (.inr (24, 2)), (.inl 32)], (0, 0), [(.inr (.inr (.inl (44, 44)))), (.inr (.inr (.inr 6))), (.inl (0, 23, 1, 0))], [(.inr (.inr (.inl (44, 44))))]),
  (19, [(.inl 4), (.inr (24, 2)), (.inl 31)], (0, 0), [(.inr (.inr (.inl (44, 44)))), (.inr (.inr (.inr 6))), (.inl (0, 23, 1, 0))], [(.inr (.inr (.inr 8)))]),
  (20, [(.inl 4), (.inr (24, 2)), (.inl 30)], (0, 0), [(.inr (.inr (.inl (44, 44)))), (.inr (.inr (.inr 6))), (.inl (0, 23, 1, 0))], [(.inl (0, 23, 1, 3)), (.inr (.inr (.inr 8)))]),
  (25, [(.inl 4), (.inr (24, 2)), (.inl 29)], (0, 0), [(.inr (.inr (.inl (44, 44)))), (.inr (.inr (.inr 6))), (.inl (0, 23, 1, 0))], [(.inr (.inr (.inr 6)))]),
  (28, [(.inl 4), (.inr (24, 2)), (.inl 28)], (0, 0), [(.inr (.inr (.inl (44, 44)))), (.inr (.inr (.inr 6))), (.inl (0, 23, 1, 0))], [(.inr (.inr (.inr 6)))]),
  (29, [(.inl 4), (.inr (24, 2)), (.inl 27)], (0, 0), [(.inr (.inr (.inl (44, 44)))), (.inr (.inr (.inr 6))), (.inl (0, 23, 1, 0))], [(.inl (0, 0, 0, 0)), (.inr (.inr (.inr 6)))]),
  (30, [(.inl 4), (.inr (24, 2)), (.inl 26)], (0, 0), [(.inr (.inr (.inl (44, 44)))), (.inr (.inr (.inr 6))), (.inl (0, 23, 1, 0))], [(.inl (0, 19, 0, 0))]),
  (31, [(.inl 4), (.inr (24, 2)), (.inl 25)], (0, 0), [(.inr (.inr (.inl (44, 44)))), (.inr (.inr (.inr 6))), (.inl (0, 23, 1, 0))], [(.inr (.inr (.inr 6))), (.inl (0, 19, 0, 0))]),
  (32, [(.inl 4), (.inr (24, 2)), (.inl 24)], (0, 0), [(.inr (.inr (.inl (44, 44)))), (.inr (.inr (.inr 6))), (.inl (0, 23, 1, 0))], [(.inl (0, 0, 0, 0)), (.inr (.inr (.inr 6))), (.inl (0, 19, 0, 0))]),
  (33, [(.inl 4), (.inr (24, 2)), (.inl 23)], (0, 0), [(.inr (.inr (.inl (44, 44)))), (.inr (.inr (.inr 6))), (.inl (0, 23, 1, 0))], [(.inl (0, 19, 0, 0)), (.inl (0, 19, 0, 0))]),
  (36, [(.inl 4), (.inr (24, 2)), (.inl 22)], (0, 0), [(.inr (.inr (.inl (44, 44)))), (.inr (.inr (.inr 6))), (.inl (0, 23, 1, 0))], []),
  (37, [(.inl 4), (.inr (24, 2)), (.inl 21)], (0, 0), [(.inr (.inr (.inl (44, 44)))), (.inr (.inr (.inr 6))), (.inl (0, 23, 1, 0))], [(.inr (.inr (.inl (44, 44))))]),
  (40, [(.inl 4), (.inr (24, 2)), (.inl 20)], (0, 0), [(.inr (.inr (.inl (44, 44)))), (.inr (.inr (.inr 6))), (.inl (0, 23, 1, 0))], [(.inr (.inr (.inr 8)))]),
  (41, [(.inl 4), (.inr (24, 2)), (.inl 19)], (0, 0), [(.inr (.inr (.inl (44, 44)))), (.inr (.inr (.inr 6))), (.inl (0, 23, 1, 0))], [(.inl (0, 23, 1, 3)), (.inr (.inr (.inr 8)))]),
  (46, [(.inl 4), (.inr (24, 2)), (.inl 18)], (0, 0), [(.inr (.inr (.inl (44, 44)))), (.inr (.inr (.inr 6))), (.inl (0, 23, 1, 0))], [(.inr (.inr (.inr 6)))]),
  (49, [(.inl 4), (.inr (24, 2)), (.inl 17)], (0, 0), [(.inr (.inr (.inl (44, 44)))), (.inr (.inr (.inr 6))), (.inl (0, 23, 1, 0))], [(.inr (.inr (.inr 6)))]),
  (50, [(.inl 4), (.inr (24, 2)), (.inl 16)], (0, 0), [(.inr (.inr (.inl (44, 44)))), (.inr (.inr (.inr 6))), (.inl (0, 23, 1, 0))], [(.inl (1, 1, 0, 0)), (.inr (.inr (.inr 6)))]),
  (51, [(.inl 4), (.inr (24, 2)), (.inl 15)], (0, 0), [(.inr (.inr (.inl (44, 44)))), (.inr (.inr (.inr 6))), (.inl (0, 23, 1, 0))], [(.inl (0, 7, 0, 0))]),
  (52, [(.inl 4), (.inr (24, 2)), (.inl 14)], (0, 0), [(.inr (.inr (.inl (44, 44)))), (.inr (.inr (.inr 6))), (.inl (0, 23, 1, 0))], [(.inr (.inr (.inr 6))), (.inl (0, 7, 0, 0))]),
  (53, [(.inl 4), (.inr (24, 2)), (.inl 13)], (0, 0), [(.inr (.inr (.inl (44, 44)))), (.inr (.inr (.inr 6))), (.inl (0, 23, 1, 0))], [(.inl (1, 1, 0, 0)), (.inr (.inr (.inr 6))), (.inl (0, 7, 0, 0))]),
  (54, [(.inl 4), (.inr (24, 2)), (.inl 12)], (0, 0), [(.inr (.inr (.inl (44, 44)))), (.inr (.inr (.inr 6))), (.inl (0, 23, 1, 0))], [(.inl (0, 7, 0, 0)), (.inl (0, 7, 0, 0))]),
  (57, [(.inl 4), (.inr (24, 2)), (.inl 11)], (0, 0), [(.inr (.inr (.inl (44, 44)))), (.inr (.inr (.inr 6))), (.inl (0, 23, 1, 0))], []),
  (58, [(.inl 4), (.inr (24, 2)), (.inl 10)], (0, 0), [(.inr (.inr (.inl (44, 44)))), (.inr (.inr (.inr 6))), (.inl (0, 23, 1, 0))], [(.inr (.inr (.inl (44, 44))))]),
  (61, [(.inl 4), (.inr (24, 2)), (.inl 9)], (0, 0), [(.inr (.inr (.inl (44, 44)))), (.inr (.inr (.inr 6))), (.inl (0, 23, 1, 0))], [(.inr (.inr (.inr 8)))]),
  (62, [(.inl 4), (.inr (24, 2)), (.inl 8)], (0, 0), [(.inr (.inr (.inl (44, 44)))), (.inr (.inr (.inr 6))), (.inl (0, 23, 1, 0))], [(.inl (0, 23, 1, 3)), (.inr (.inr (.inr 8)))]),
  (67, [(.inl 4), (.inr (24, 2)), (.inl 7)], (0, 0), [(.inr (.inr (.inl (44, 44)))), (.inr (.inr (.inr 6))), (.inl (0, 23, 1, 0))], [(.inr (.inr (.inr 6)))]),
  (70, [(.inl 4), (.inr (24, 2)), (.inl 6)], (0, 0), [(.inr (.inr (.inl (44, 44)))), (.inr (.inr (.inr 6))), (.inl (0, 23, 1, 0))], [(.inr (.inr (.inr 6)))]),
  (71, [(.inl 4), (.inr (24, 2)), (.inl 5)], (0, 0), [(.inr (.inr (.inl (44, 44)))), (.inr (.inr (.inr 6))), (.inl (0, 23, 1, 0))], [(.inl (2, 2, 0, 0)), (.inr (.inr (.inr 6)))]),
  (72, [(.inl 4), (.inr (24, 2)), (.inl 4)], (0, 0), [(.inr (.inr (.inl (44, 44)))), (.inr (.inr (.inr 6))), (.inl (0, 23, 1, 0))], [zIA]),
  (73, [(.inl 4), (.inr (24, 2)), (.inl 3)], (0, 0), [(.inr (.inr (.inl (44, 44)))), (.inr (.inr (.inr 6))), (.inl (0, 23, 1, 0))], [(.inr (.inr (.inr 6))), zIA]),
  (74, [(.inl 4), (.inr (24, 2)), (.inl 2)], (0, 0), [(.inr (.inr (.inl (44, 44)))), (.inr (.inr (.inr 6))), (.inl (0, 23, 1, 0))], [(.inl (2, 2, 0, 0)), (.inr (.inr (.inr 6))), zIA]),
  (75, [(.inl 4), (.inr (24, 2)), (.inl 1)], (0, 0), [(.inr (.inr (.inl (44, 44)))), (.inr (.inr (.inr 6))), (.inl (0, 23, 1, 0))], [zIA, zIA]),
  (78, [(.inl 3), (.inl 0), (.inl 0)], (0, 0), [(.inr (.inr (.inl (44, 44)))), (.inr (.inr (.inr 6))), (.inl (0, 23, 1, 0))], []),
  (79, [(.inl 2), (.inl 0), (.inl 0)], (0, 0), [(.inr (.inr (.inl (44, 44)))), (.inr (.inr (.inr 6))), (.inl (0, 23, 1, 0))], [(.inl (1, 1, 0, 0))]),
  (80, [(.inl 4), (.inr (24, 2)), (.inl 0)], (0, 0), [(.inr (.inr (.inl (44, 44)))), (.inr (.inr (.inr 6))), (.inl (0, 23, 1, 0))], []),
  (83, [(.inl 4), (.inr (24, 2)), (.inl 39)], (0, 0), [(.inr (.inr (.inl (44, 44)))), (.inr (.inr (.inr 6))), (.inl (1, 24, 0, 0))], []),
  (86, [(.inl 1), (.inl 0), (.inl 0)], (0, 0), [(.inr (.inr (.inl (44, 44)))), (.inr (.inr (.inr 6))), (.inl (0, 24, 0, 0))], []),
  (87, [(.inl 0), (.inl 0), (.inl 0)], (0, 0), [(.inr (.inr (.inl (44, 44)))), (.inr (.inr (.inr 6))), (.inl (0, 24, 0, 0))], [(.inl (0, 0, 0, 0))])]
theorem g_181 {xs : List Int32} : zGd xs ct_181 := zmeth (cs := [ct_239a, ct_243a]) ct_181 ce_181 (List.forall_mem_cons.mpr ⟨g_239a, List.forall_mem_cons.mpr ⟨g_243a, fun _ h => absurd h List.not_mem_nil⟩⟩) (by decide +kernel)
def ct_182 : zCt := (182, [(.inr (.inr (.inl (44, 44)))), (.inr (.inr (.inr 6))), (.inl (1, 100, 0, 0))], some ((.inl (0, 1, 0, 0))), 5, 0, 0)
def ce_182 : List zCe := [(0, [(.inl 37), (.inl 0), (.inl 0)], (0, 0), [(.inr (.inr (.inl (44, 44)))), (.inr (.inr (.inr 6))), (.inl (1, 100, 0, 0)), (.inr (.inr (.inr 0))), (.inr (.inr (.inr 0)))], []),
  (1, [(.inl 36), (.inl 0), (.inl 0)], (0, 0), [(.inr (.inr (.inl (44, 44)))), (.inr (.inr (.inr 6))), (.inl (1, 100, 0, 0)), (.inr (.inr (.inr 0))), (.inr (.inr (.inr 0)))], [(.inr (.inr (.inl (44, 44))))]),
  (4, [(.inl 35), (.inl 0), (.inl 0)], (0, 0), [(.inr (.inr (.inl (44, 44)))), (.inr (.inr (.inr 6))), (.inl (1, 100, 0, 0)), (.inr (.inr (.inr 0))), (.inr (.inr (.inr 0)))], [(.inr (.inr (.inl (46, 46))))]),
  (5, [(.inl 34), (.inl 0), (.inl 0)], (0, 0), [(.inr (.inr (.inl (44, 44)))), (.inr (.inr (.inr 6))), (.inl (1, 100, 0, 0)), (.inr (.inr (.inr 0))), (.inr (.inr (.inr 0)))], [(.inr (.inr (.inr 6))), (.inr (.inr (.inl (46, 46))))]),
  (6, [(.inl 33), (.inl 0), (.inl 0)], (0, 0), [(.inr (.inr (.inl (44, 44)))), (.inr (.inr (.inr 6))), (.inl (1, 100, 0, 0)), (.inr (.inr (.inr 0))), (.inr (.inr (.inr 0)))], [(.inl (0, 0, 0, 0)), (.inr (.inr (.inr 6))), (.inr (.inr (.inl (46, 46))))]),
  (7, [(.inl 32), (.inl 0), (.inl 0)], (0, 0), [(.inr (.inr (.inl (44, 44)))), (.inr (.inr (.inr 6))), (.inl (1, 100, 0, 0)), (.inr (.inr (.inr 0))), (.inr (.inr (.inr 0)))], [(.inl (0, 19, 0, 0)), (.inr (.inr (.inl (46, 46))))]),
  (8, [(.inl 31), (.inl 0), (.inl 0)], (0, 0), [(.inr (.inr (.inl (44, 44)))), (.inr (.inr (.inr 6))), (.inl (1, 100, 0, 0)), (.inr (.inr (.inr 0))), (.inr (.inr (.inr 0)))], [(.inr (.inr (.inl (47, 66))))]),
  (9, [(.inl 30), (.inl 0), (.inl 0)], (0, 0), [(.inr (.inr (.inl (44, 44)))), (.inr (.inr (.inr 6))), (.inl (1, 100, 0, 0)), (.inr (.inr (.inr 0))), (.inr (.inr (.inr 0)))], [(.inr (.inr (.inr 6))), (.inr (.inr (.inl (47, 66))))]),
  (10, [(.inl 29), (.inl 0), (.inl 0)], (0, 0), [(.inr (.inr (.inl (44, 44)))), (.inr (.inr (.inr 6))), (.inl (1, 100, 0, 0)), (.inr (.inr (.inr 0))), (.inr (.inr (.inr 0)))], [(.inl (1, 1, 0, 0)), (.inr (.inr (.inr 6))), (.inr (.inr (.inl (47, 66))))]),
  (11, [(.inl 28), (.inl 0), (.inl 0)], (0, 0), [(.inr (.inr (.inl (44, 44)))), (.inr (.inr (.inr 6))), (.inl (1, 100, 0, 0)), (.inr (.inr (.inr 0))), (.inr (.inr (.inr 0)))], [(.inl (0, 7, 0, 0)), (.inr (.inr (.inl (47, 66))))]),
  (12, [(.inl 27), (.inl 0), (.inl 0)], (0, 0), [(.inr (.inr (.inl (44, 44)))), (.inr (.inr (.inr 6))), (.inl (1, 100, 0, 0)), (.inr (.inr (.inr 0))), (.inr (.inr (.inr 0)))], [zIA]),
  (13, [(.inl 26), (.inl 0), (.inl 0)], (0, 0), [(.inr (.inr (.inl (44, 44)))), (.inr (.inr (.inr 6))), (.inl (1, 100, 0, 0)), (.inr (.inr (.inr 0))), (.inr (.inr (.inr 0)))], [(.inr (.inr (.inr 6))), zIA]),
  (14, [(.inl 25), (.inl 0), (.inl 0)], (0, 0), [(.inr (.inr (.inl (44, 44)))), (.inr (.inr (.inr 6))), (.inl (1, 100, 0, 0)), (.inr (.inr (.inr 0))), (.inr (.inr (.inr 0)))], [(.inl (2, 2, 0, 0)), (.inr (.inr (.inr 6))), zIA]),
  (15, [(.inl 24), (.inl 0), (.inl 0)], (0, 0), [(.inr (.inr (.inl (44, 44)))), (.inr (.inr (.inr 6))), (.inl (1, 100, 0, 0)), (.inr (.inr (.inr 0))), (.inr (.inr (.inr 0)))], [zIA, zIA]),
  (18, [(.inl 23), (.inl 0), (.inl 0)], (0, 0), [(.inr (.inr (.inl (44, 44)))), (.inr (.inr (.inr 6))), (.inl (1, 100, 0, 0)), (.inr (.inr (.inr 0))), (.inr (.inr (.inr 0)))], [(.inl (0, 1, 0, 0))]),
  (21, [(.inl 22), (.inl 0), (.inl 0)], (0, 0), [(.inr (.inr (.inl (44, 44)))), (.inr (.inr (.inr 6))), (.inl (1, 100, 0, 0)), (.inr (.inr (.inr 0))), (.inr (.inr (.inr 0)))], []),
  (22, [(.inl 21), (.inl 0), (.inl 0)], (0, 0), [(.inr (.inr (.inl (44, 44)))), (.inr (.inr (.inr 6))), (.inl (1, 100, 0, 0)), (.inr (.inr (.inr 0))), (.inr (.inr (.inr 0)))], [(.inr (.inr (.inl (44, 44))))]),
  (23, [(.inl 20), (.inl 0), (.inl 0)], (0, 0), [(.inr (.inr (.inl (44, 44)))), (.inr (.inr (.inr 6))), (.inl (1, 100, 0, 0)), (.inr (.inr (.inr 0))), (.inr (.inr (.inr 0)))], [(.inr (.inr (.inr 6))), (.inr (.inr (.inl (44, 44))))]),
  (26, [(.inl 19), (.inl 0), (.inl 0)], (0, 0), [(.inr (.inr (.inl (44, 44)))), (.inr (.inr (.inr 6))), (.inl (1, 100, 0, 0)), (.inr (.inr (.inr 0))), (.inr (.inr (.inr 0)))], [(.inl (0, 1, 0, 0))]),
  (29, [(.inl 1), (.inl 0), (.inl 0)], (0, 0), [(.inr (.inr (.inl (44, 44)))), (.inr (.inr (.inr 6))), (.inl (1, 100, 0, 0)), (.inr (.inr (.inr 0))), (.inr (.inr (.inr 0)))], []),
  (30, [(.inl 0), (.inl 0), (.inl 0)], (0, 0), [(.inr (.inr (.inl (44, 44)))), (.inr (.inr (.inr 6))), (.inl (1, 100, 0, 0)), (.inr (.inr (.inr 0))), (.inr (.inr (.inr 0)))], [(.inl (0, 0, 0, 0))]),
  (31, [(.inl 18), (.inl 0), (.inl 0)], (0, 0), [(.inr (.inr (.inl (44, 44)))), (.inr (.inr (.inr 6))), (.inl (1, 100, 0, 0)), (.inr (.inr (.inr 0))), (.inr (.inr (.inr 0)))], []),
  (32, [(.inl 17), (.inl 0), (.inl 0)], (0, 0), [(.inr (.inr (.inl (44, 44)))), (.inr (.inr (.inr 6))), (.inl (1, 100, 0, 0)), (.inr (.inr (.inr 0))), (.inr (.inr (.inr 0)))], [(.inr (.inr (.inl (44, 44))))]),
  (35, [(.inl 16), (.inl 0), (.inl 0)], (0, 0), [(.inr (.inr (.inl (44, 44)))), (.inr (.inr (.inr 6))), (.inl (1, 100, 0, 0)), (.inr (.inr (.inr 0))), (.inr (.inr (.inr 0)))], [(.inr (.inr (.inl (68, 68))))]),
  (36, [(.inl 15), (.inl 0), (.inl 0)], (0, 0), [(.inr (.inr (.inl (44, 44)))), (.inr (.inr (.inr 6))), (.inl (1, 100, 0, 0)), (.inr (.inr (.inr 0))), (.inr (.inr (.inr 0)))], [(.inr (.inr (.inr 6))), (.inr (.inr (.inl (68, 68))))]),
  (37, [(.inl 14), (.inl 0), (.inl 0)], (0, 0), [(.inr (.inr (.inl (44, 44)))), (.inr (.inr (.inr 6))), (.inl (1, 100, 0, 0)), (.inr (.inr (.inr 0))), (.inr (.inr (.inr 0)))], [(.inl (0, 0, 0, 0)), (.inr (.inr (.inr 6))), (.inr (.inr (.inl (68, 68))))]),
  (38, [(.inl 13), (.inl 0), (.inl 0)], (0, 0), [(.inr (.inr (.inl (44, 44)))), (.inr (.inr (.inr 6))), (.inl (1, 100, 0, 0)), (.inr (.inr (.inr 0))), (.inr (.inr (.inr 0)))], [(.inl (0, 19, 0, 0)), (.inr (.inr (.inl (68, 68))))]),
  (39, [(.inl 12), (.inl 0), (.inl 0)], (0, 0), [(.inr (.inr (.inl (44, 44)))), (.inr (.inr (.inr 6))), (.inl (1, 100, 0, 0)), (.inr (.inr (.inr 0))), (.inr (.inr (.inr 0)))], [zIA]),
  (40, [(.inl 11), (.inl 0), (.inl 0)], (0, 0), [(.inr (.inr (.inl (44, 44)))), (.inr (.inr (.inr 6))), (.inl (1, 100, 0, 0)), zIA, (.inr (.inr (.inr 0)))], []),
  (41, [(.inl 10), (.inl 0), (.inl 0)], (0, 0), [(.inr (.inr (.inl (44, 44)))), (.inr (.inr (.inr 6))), (.inl (1, 100, 0, 0)), zIA, (.inr (.inr (.inr 0)))], [(.inr (.inr (.inl (44, 44))))]),
  (44, [(.inl 9), (.inl 0), (.inl 0)], (0, 0), [(.inr (.inr (.inl (44, 44)))), (.inr (.inr (.inr 6))), (.inl (1, 100, 0, 0)), zIA, (.inr (.inr (.inr 0)))], [(.inl (0, 2000, 0, 0))]),
  (45, [(.inl 8), (.inl 0), (.inl 0)], (0, 0), [(.inr (.inr (.inl (44, 44)))), (.inr (.inr (.inr 6))), (.inl (1, 100, 0, 0)), zIA, (.inr (.inr (.inr 0)))], [(.inl (1, 1, 0, 0)), (.inl (0, 2000, 0, 0))]),
  (46, [(.inl 7), (.inl 0), (.inl 0)], (0, 0), [(.inr (.inr (.inl (44, 44)))), (.inr (.inr (.inr 6))), (.inl (1, 100, 0, 0)), zIA, (.inr (.inr (.inr 0)))], [(.inl (1, 2001, 0, 0))]),
  (48, [(.inl 6), (.inr (2101, 4)), (.inl 20)], (0, 0), [(.inr (.inr (.inl (44, 44)))), (.inr (.inr (.inr 6))), (.inl (1, 100, 0, 0)), zIA, (.inl (1, 2101, 0, 0))], []),
  (50, [(.inl 6), (.inr (2101, 4)), (.inl 19)], (0, 0), [(.inr (.inr (.inl (44, 44)))), (.inr (.inr (.inr 6))), (.inl (1, 100, 0, 0)), zIA, (.inl (1, 2101, 0, 0))], [(.inl (1, 2101, 0, 5))]),
  (51, [(.inl 6), (.inr (2101, 4)), (.inl 18)], (0, 0), [(.inr (.inr (.inl (44, 44)))), (.inr (.inr (.inr 6))), (.inl (1, 100, 0, 0)), zIA, (.inl (1, 2101, 0, 0))], [(.inr (.inr (.inl (44, 44)))), (.inl (1, 2101, 0, 5))]),
  (54, [(.inl 6), (.inr (2101, 4)), (.inl 17)], (0, 0), [(.inr (.inr (.inl (44, 44)))), (.inr (.inr (.inr 6))), (.inl (1, 100, 0, 0)), zIA, (.inl (1, 2101, 0, 0))], [(.inl (0, 2000, 0, 0)), (.inl (1, 2101, 0, 5))]),
  (55, [(.inl 6), (.inr (2101, 4)), (.inl 16)], (0, 0), [(.inr (.inr (.inl (44, 44)))), (.inr (.inr (.inr 6))), (.inl (1, 100, 0, 0)), zIA, (.inl (1, 2101, 0, 0))], [(.inl (1, 100, 0, 3)), (.inl (0, 2000, 0, 0)), (.inl (1, 2101, 0, 5))]),
  (56, [(.inl 6), (.inr (2101, 4)), (.inl 15)], (0, 0), [(.inr (.inr (.inl (44, 44)))), (.inr (.inr (.inr 6))), (.inl (1, 100, 0, 0)), zIA, (.inl (1, 2101, 0, 0))], [(.inl (1, 2100, 0, 0)), (.inl (1, 2101, 0, 5))]),
  (59, [(.inl 6), (.inr (2101, 4)), (.inl 14)], (0, 0), [(.inr (.inr (.inl (44, 44)))), (.inr (.inr (.inr 6))), (.inl (1, 100, 0, 0)), zIA, (.inl (1, 2100, 0, 0))], []),
  (61, [(.inl 6), (.inr (2101, 4)), (.inl 13)], (0, 0), [(.inr (.inr (.inl (44, 44)))), (.inr (.inr (.inr 6))), (.inl (1, 100, 0, 0)), zIA, (.inl (1, 2100, 0, 0))], [(.inl (1, 2100, 0, 5))]),
  (62, [(.inl 6), (.inr (2101, 4)), (.inl 12)], (0, 0), [(.inr (.inr (.inl (44, 44)))), (.inr (.inr (.inr 6))), (.inl (1, 100, 0, 0)), zIA, (.inl (1, 2100, 0, 0))], [(.inl ((-2147483648), 2147483647, 0, 4)), (.inl (1, 2100, 0, 5))]),
  (63, [(.inl 6), (.inr (2101, 4)), (.inl 11)], (0, 0), [(.inr (.inr (.inl (44, 44)))), (.inr (.inr (.inr 6))), (.inl (1, 100, 0, 0)), zIA, (.inl (1, 2100, 0, 0))], [zIA]),
  (64, [(.inl 6), (.inr (2101, 4)), (.inl 10)], (0, 0), [(.inr (.inr (.inl (44, 44)))), (.inr (.inr (.inr 6))), (.inl (1, 100, 0, 0)), zIA, (.inl (1, 2100, 0, 0))], [(.inr (.inr (.inr 6))), zIA]),
  (65, [(.inl 6), (.inr (2101, 4)), (.inl 9)], (0, 0), [(.inr (.inr (.inl (44, 44)))), (.inr (.inr (.inr 6))), (.inl (1, 100, 0, 0)), zIA, (.inl (1, 2100, 0, 0))], [(.inl (3, 3, 0, 0)), (.inr (.inr (.inr 6))), zIA]),
  (66, [(.inl 6), (.inr (2101, 4)), (.inl 8)], (0, 0), [(.inr (.inr (.inl (44, 44)))), (.inr (.inr (.inr 6))), (.inl (1, 100, 0, 0)), zIA, (.inl (1, 2100, 0, 0))], [zIA, zIA]),
  (69, [(.inl 5), (.inl 0), (.inl 0)], (0, 0), [(.inr (.inr (.inl (44, 44)))), (.inr (.inr (.inr 6))), (.inl (1, 100, 0, 0)), zIA, (.inl (1, 2100, 0, 0))], []),
  (70, [(.inl 4), (.inl 0), (.inl 0)], (0, 0), [(.inr (.inr (.inl (44, 44)))), (.inr (.inr (.inr 6))), (.inl (1, 100, 0, 0)), zIA, (.inl (1, 2100, 0, 0))], [(.inl (1, 1, 0, 0))]),
  (71, [(.inl 6), (.inr (2101, 4)), (.inl 7)], (0, 0), [(.inr (.inr (.inl (44, 44)))), (.inr (.inr (.inr 6))), (.inl (1, 100, 0, 0)), zIA, (.inl (1, 2100, 0, 0))], []),
  (73, [(.inl 6), (.inr (2101, 4)), (.inl 6)], (0, 0), [(.inr (.inr (.inl (44, 44)))), (.inr (.inr (.inr 6))), (.inl (1, 100, 0, 0)), zIA, (.inl (1, 2100, 0, 0))], [(.inl (1, 2100, 0, 5))]),
  (74, [(.inl 6), (.inr (2101, 4)), (.inl 5)], (0, 0), [(.inr (.inr (.inl (44, 44)))), (.inr (.inr (.inr 6))), (.inl (1, 100, 0, 0)), zIA, (.inl (1, 2100, 0, 0))], [(.inr (.inr (.inl (44, 44)))), (.inl (1, 2100, 0, 5))]),
  (77, [(.inl 6), (.inr (2101, 4)), (.inl 4)], (0, 0), [(.inr (.inr (.inl (44, 44)))), (.inr (.inr (.inr 6))), (.inl (1, 100, 0, 0)), zIA, (.inl (1, 2100, 0, 0))], [(.inl (1, 100, 0, 0)), (.inl (1, 2100, 0, 5))]),
  (78, [(.inl 6), (.inr (2101, 4)), (.inl 3)], (0, 0), [(.inr (.inr (.inl (44, 44)))), (.inr (.inr (.inr 6))), (.inl (1, 100, 0, 0)), zIA, (.inl (1, 2100, 0, 0))], [(.inl (0, 99, 0, 0))]),
  (81, [(.inl 6), (.inr (2101, 4)), (.inl 2)], (0, 0), [(.inr (.inr (.inl (44, 44)))), (.inr (.inr (.inr 6))), (.inl (1, 100, 0, 0)), zIA, (.inl (1, 2100, 0, 0))], []),
  (83, [(.inl 6), (.inr (2101, 4)), (.inl 1)], (0, 0), [(.inr (.inr (.inl (44, 44)))), (.inr (.inr (.inr 6))), (.inl (1, 100, 0, 0)), zIA, (.inl (1, 2100, 0, 0))], [(.inl (1, 2100, 0, 5))]),
  (84, [(.inl 6), (.inr (2101, 4)), (.inl 0)], (0, 0), [(.inr (.inr (.inl (44, 44)))), (.inr (.inr (.inr 6))), (.inl (1, 100, 0, 0)), zIA, (.inl (1, 2100, 0, 0))], []),
  (87, [(.inl 6), (.inr (2101, 4)), (.inl 21)], (0, 0), [(.inr (.inr (.inl (44, 44)))), (.inr (.inr (.inr 6))), (.inl (1, 100, 0, 0)), zIA, (.inl (2, 2101, 0, 0))], []),
  (90, [(.inl 3), (.inl 0), (.inl 0)], (0, 0), [(.inr (.inr (.inl (44, 44)))), (.inr (.inr (.inr 6))), (.inl (1, 100, 0, 0)), zIA, (.inl (2, 2101, 0, 0))], []),
  (91, [(.inl 2), (.inl 0), (.inl 0)], (0, 0), [(.inr (.inr (.inl (44, 44)))), (.inr (.inr (.inr 6))), (.inl (1, 100, 0, 0)), zIA, (.inl (2, 2101, 0, 0))], [(.inl (0, 0, 0, 0))])]
theorem g_182 {xs : List Int32} : zGd xs ct_182 := zmeth (cs := [ct_113, ct_181]) ct_182 ce_182 (List.forall_mem_cons.mpr ⟨g_113, List.forall_mem_cons.mpr ⟨g_181, fun _ h => absurd h List.not_mem_nil⟩⟩) (by decide +kernel)
def ct_184 : zCt := (184, [(.inr (.inr (.inr 6))), (.inr (.inr (.inr 6)))], some ((.inl (0, 1, 0, 0))), 2, 0, 0)
def ce_184 : List zCe := [(0, [(.inl 24)], (0, 0), [(.inr (.inr (.inr 6))), (.inr (.inr (.inr 6)))], []),
  (1, [(.inl 23)], (0, 0), [(.inr (.inr (.inr 6))), (.inr (.inr (.inr 6)))], [(.inr (.inr (.inr 6)))]),
  (2, [(.inl 22)], (0, 0), [(.inr (.inr (.inr 6))), (.inr (.inr (.inr 6)))], [(.inl (0, 0, 0, 0)), (.inr (.inr (.inr 6)))]),
  (3, [(.inl 21)], (0, 0), [(.inr (.inr (.inr 6))), (.inr (.inr (.inr 6)))], [(.inl (0, 19, 0, 0))]),
  (4, [(.inl 20)], (0, 0), [(.inr (.inr (.inr 6))), (.inr (.inr (.inr 6)))], [(.inr (.inr (.inr 6))), (.inl (0, 19, 0, 0))]),
  (5, [(.inl 19)], (0, 0), [(.inr (.inr (.inr 6))), (.inr (.inr (.inr 6)))], [(.inl (0, 0, 0, 0)), (.inr (.inr (.inr 6))), (.inl (0, 19, 0, 0))]),
  (6, [(.inl 18)], (0, 0), [(.inr (.inr (.inr 6))), (.inr (.inr (.inr 6)))], [(.inl (0, 19, 0, 0)), (.inl (0, 19, 0, 0))]),
  (9, [(.inl 17)], (0, 0), [(.inr (.inr (.inr 6))), (.inr (.inr (.inr 6)))], []),
  (10, [(.inl 16)], (0, 0), [(.inr (.inr (.inr 6))), (.inr (.inr (.inr 6)))], [(.inr (.inr (.inr 6)))]),
  (11, [(.inl 15)], (0, 0), [(.inr (.inr (.inr 6))), (.inr (.inr (.inr 6)))], [(.inl (1, 1, 0, 0)), (.inr (.inr (.inr 6)))]),
  (12, [(.inl 14)], (0, 0), [(.inr (.inr (.inr 6))), (.inr (.inr (.inr 6)))], [(.inl (0, 7, 0, 0))]),
  (13, [(.inl 13)], (0, 0), [(.inr (.inr (.inr 6))), (.inr (.inr (.inr 6)))], [(.inr (.inr (.inr 6))), (.inl (0, 7, 0, 0))]),
  (14, [(.inl 12)], (0, 0), [(.inr (.inr (.inr 6))), (.inr (.inr (.inr 6)))], [(.inl (1, 1, 0, 0)), (.inr (.inr (.inr 6))), (.inl (0, 7, 0, 0))]),
  (15, [(.inl 11)], (0, 0), [(.inr (.inr (.inr 6))), (.inr (.inr (.inr 6)))], [(.inl (0, 7, 0, 0)), (.inl (0, 7, 0, 0))]),
  (18, [(.inl 10)], (0, 0), [(.inr (.inr (.inr 6))), (.inr (.inr (.inr 6)))], []),
  (19, [(.inl 9)], (0, 0), [(.inr (.inr (.inr 6))), (.inr (.inr (.inr 6)))], [(.inr (.inr (.inr 6)))]),
  (20, [(.inl 8)], (0, 0), [(.inr (.inr (.inr 6))), (.inr (.inr (.inr 6)))], [(.inl (2, 2, 0, 0)), (.inr (.inr (.inr 6)))]),
  (21, [(.inl 7)], (0, 0), [(.inr (.inr (.inr 6))), (.inr (.inr (.inr 6)))], [zIA]),
  (22, [(.inl 6)], (0, 0), [(.inr (.inr (.inr 6))), (.inr (.inr (.inr 6)))], [(.inr (.inr (.inr 6))), zIA]),
  (23, [(.inl 5)], (0, 0), [(.inr (.inr (.inr 6))), (.inr (.inr (.inr 6)))], [(.inl (2, 2, 0, 0)), (.inr (.inr (.inr 6))), zIA]),
  (24, [(.inl 4)], (0, 0), [(.inr (.inr (.inr 6))), (.inr (.inr (.inr 6)))], [zIA, zIA]),
  (27, [(.inl 3)], (0, 0), [(.inr (.inr (.inr 6))), (.inr (.inr (.inr 6)))], []),
  (28, [(.inl 2)], (0, 0), [(.inr (.inr (.inr 6))), (.inr (.inr (.inr 6)))], [(.inl (1, 1, 0, 0))]),
  (31, [(.inl 1)], (0, 0), [(.inr (.inr (.inr 6))), (.inr (.inr (.inr 6)))], []),
  (32, [(.inl 0)], (0, 0), [(.inr (.inr (.inr 6))), (.inr (.inr (.inr 6)))], [(.inl (0, 1, 0, 0))])]
theorem g_184 {xs : List Int32} : zGd xs ct_184 := zmeth (cs := []) ct_184 ce_184 (fun _ h => absurd h List.not_mem_nil) (by decide +kernel)
def ct_183 : zCt := (183, [(.inr (.inr (.inl (44, 44)))), (.inl (1, 100, 0, 0))], some zIA, 6, 0, 0)
def ce_183 : List zCe := [(0, [(.inl 6), (.inl 0), (.inl 0), (.inl 0), (.inl 0)], (0, 0), [(.inr (.inr (.inl (44, 44)))), (.inl (1, 100, 0, 0)), (.inr (.inr (.inr 0))), (.inr (.inr (.inr 0))), (.inr (.inr (.inr 0))), (.inr (.inr (.inr 0)))], []),
  (1, [(.inl 5), (.inl 0), (.inl 0), (.inl 0), (.inl 0)], (0, 0), [(.inr (.inr (.inl (44, 44)))), (.inl (1, 100, 0, 0)), (.inr (.inr (.inr 0))), (.inr (.inr (.inr 0))), (.inr (.inr (.inr 0))), (.inr (.inr (.inr 0)))], [(.inl (0, 0, 0, 0))]),
  (2, [(.inl 4), (.inl 0), (.inl 0), (.inl 0), (.inl 0)], (0, 0), [(.inr (.inr (.inl (44, 44)))), (.inl (1, 100, 0, 0)), (.inl (0, 0, 0, 0)), (.inr (.inr (.inr 0))), (.inr (.inr (.inr 0))), (.inr (.inr (.inr 0)))], []),
  (3, [(.inl 3), (.inl 0), (.inl 0), (.inl 0), (.inl 0)], (0, 0), [(.inr (.inr (.inl (44, 44)))), (.inl (1, 100, 0, 0)), (.inl (0, 0, 0, 0)), (.inr (.inr (.inr 0))), (.inr (.inr (.inr 0))), (.inr (.inr (.inr 0)))], [(.inl (0, 0, 0, 0))]),
  (4, [(.inl 2), (.inr (24, 3)), (.inl 25), (.inl 0), (.inl 0)], (0, 0), [(.inr (.inr (.inl (44, 44)))), (.inl (1, 100, 0, 0)), zIA, (.inl (0, 24, 0, 0)), (.inr (.inr (.inr 0))), (.inr (.inr (.inr 0)))], []),
  (5, [(.inl 2), (.inr (24, 3)), (.inl 24), (.inl 0), (.inl 0)], (0, 0), [(.inr (.inr (.inl (44, 44)))), (.inl (1, 100, 0, 0)), zIA, (.inl (0, 24, 0, 0)), (.inr (.inr (.inr 0))), (.inr (.inr (.inr 0)))], [(.inl (0, 24, 0, 4))]),
  (6, [(.inl 2), (.inr (24, 3)), (.inl 23), (.inl 0), (.inl 0)], (0, 0), [(.inr (.inr (.inl (44, 44)))), (.inl (1, 100, 0, 0)), zIA, (.inl (0, 24, 0, 0)), (.inr (.inr (.inr 0))), (.inr (.inr (.inr 0)))], [(.inr (.inr (.inl (44, 44)))), (.inl (0, 24, 0, 4))]),
  (9, [(.inl 2), (.inr (24, 3)), (.inl 22), (.inl 0), (.inl 0)], (0, 0), [(.inr (.inr (.inl (44, 44)))), (.inl (1, 100, 0, 0)), zIA, (.inl (0, 24, 0, 0)), (.inr (.inr (.inr 0))), (.inr (.inr (.inr 0)))], [(.inr (.inr (.inr 9))), (.inl (0, 24, 0, 4))]),
  (14, [(.inl 2), (.inr (24, 3)), (.inl 21), (.inl 0), (.inl 0)], (0, 0), [(.inr (.inr (.inl (44, 44)))), (.inl (1, 100, 0, 0)), zIA, (.inl (0, 24, 0, 0)), (.inr (.inr (.inr 0))), (.inr (.inr (.inr 0)))], [(.inl (0, 24, 4, 0)), (.inl (0, 24, 0, 4))]),
  (17, [(.inl 2), (.inr (24, 3)), (.inl 20), (.inl 0), (.inl 0)], (0, 0), [(.inr (.inr (.inl (44, 44)))), (.inl (1, 100, 0, 0)), zIA, (.inl (0, 23, 3, 0)), (.inr (.inr (.inr 0))), (.inr (.inr (.inr 0)))], []),
  (18, [(.inl 2), (.inr (24, 3)), (.inl 19), (.inl 0), (.inl 0)], (0, 0), [(.inr (.inr (.inl (44, 44)))), (.inl (1, 100, 0, 0)), zIA, (.inl (0, 23, 3, 0)), (.inr (.inr (.inr 0))), (.inr (.inr (.inr 0)))], [(.inr (.inr (.inl (44, 44))))]),
  (19, [(.inl 2), (.inr (24, 3)), (.inl 18), (.inl 0), (.inl 0)], (0, 0), [(.inr (.inr (.inl (44, 44)))), (.inl (1, 100, 0, 0)), zIA, (.inl (0, 23, 3, 0)), (.inr (.inr (.inr 0))), (.inr (.inr (.inr 0)))], [(.inr (.inr (.inl (44, 44)))), (.inr (.inr (.inl (44, 44))))]),
  (22, [(.inl 2), (.inr (24, 3)), (.inl 17), (.inl 0), (.inl 0)], (0, 0), [(.inr (.inr (.inl (44, 44)))), (.inl (1, 100, 0, 0)), zIA, (.inl (0, 23, 3, 0)), (.inr (.inr (.inr 0))), (.inr (.inr (.inr 0)))], [(.inr (.inr (.inr 9))), (.inr (.inr (.inl (44, 44))))]),
  (23, [(.inl 2), (.inr (24, 3)), (.inl 16), (.inl 0), (.inl 0)], (0, 0), [(.inr (.inr (.inl (44, 44)))), (.inl (1, 100, 0, 0)), zIA, (.inl (0, 23, 3, 0)), (.inr (.inr (.inr 0))), (.inr (.inr (.inr 0)))], [(.inl (0, 23, 3, 4)), (.inr (.inr (.inr 9))), (.inr (.inr (.inl (44, 44))))]),
  (28, [(.inl 2), (.inr (24, 3)), (.inl 15), (.inl 0), (.inl 0)], (0, 0), [(.inr (.inr (.inl (44, 44)))), (.inl (1, 100, 0, 0)), zIA, (.inl (0, 23, 3, 0)), (.inr (.inr (.inr 0))), (.inr (.inr (.inr 0)))], [(.inr (.inr (.inr 6))), (.inr (.inr (.inl (44, 44))))]),
  (31, [(.inl 2), (.inr (24, 3)), (.inl 14), (.inl 0), (.inl 0)], (0, 0), [(.inr (.inr (.inl (44, 44)))), (.inl (1, 100, 0, 0)), zIA, (.inl (0, 23, 3, 0)), (.inr (.inr (.inr 0))), (.inr (.inr (.inr 0)))], [(.inr (.inr (.inr 6))), (.inr (.inr (.inl (44, 44))))]),
  (32, [(.inl 2), (.inr (24, 3)), (.inl 13), (.inl 0), (.inl 0)], (0, 0), [(.inr (.inr (.inl (44, 44)))), (.inl (1, 100, 0, 0)), zIA, (.inl (0, 23, 3, 0)), (.inr (.inr (.inr 0))), (.inr (.inr (.inr 0)))], [(.inl (1, 100, 0, 2)), (.inr (.inr (.inr 6))), (.inr (.inr (.inl (44, 44))))]),
  (35, [(.inl 2), (.inr (24, 3)), (.inl 12), (.inl 0), (.inl 0)], (0, 0), [(.inr (.inr (.inl (44, 44)))), (.inl (1, 100, 0, 0)), zIA, (.inl (0, 23, 3, 0)), (.inr (.inr (.inr 0))), (.inr (.inr (.inr 0)))], [(.inl (0, 1, 0, 0))]),
  (37, [(.inl 2), (.inr (24, 3)), (.inl 11), (.inl 0), (.inl 0)], (0, 0), [(.inr (.inr (.inl (44, 44)))), (.inl (1, 100, 0, 0)), zIA, (.inl (0, 23, 3, 0)), (.inl (0, 1, 0, 0)), (.inr (.inr (.inr 0)))], []),
  (38, [(.inl 2), (.inr (24, 3)), (.inl 10), (.inl 0), (.inl 0)], (0, 0), [(.inr (.inr (.inl (44, 44)))), (.inl (1, 100, 0, 0)), zIA, (.inl (0, 23, 3, 0)), (.inl (0, 1, 0, 0)), (.inr (.inr (.inr 0)))], [(.inl (0, 0, 0, 0))]),
  (40, [(.inl 2), (.inr (24, 3)), (.inl 9), (.inr (23, 5)), (.inl 30)], (0, 0), [(.inr (.inr (.inl (44, 44)))), (.inl (1, 100, 0, 0)), zIA, (.inl (0, 23, 3, 0)), (.inl (0, 1, 0, 0)), (.inl (0, 23, 0, 0))], []),
  (42, [(.inl 2), (.inr (24, 3)), (.inl 9), (.inr (23, 5)), (.inl 29)], (0, 0), [(.inr (.inr (.inl (44, 44)))), (.inl (1, 100, 0, 0)), zIA, (.inl (0, 23, 3, 0)), (.inl (0, 1, 0, 0)), (.inl (0, 23, 0, 0))], [(.inl (0, 23, 0, 6))]),
  (43, [(.inl 2), (.inr (24, 3)), (.inl 9), (.inr (23, 5)), (.inl 28)], (0, 0), [(.inr (.inr (.inl (44, 44)))), (.inl (1, 100, 0, 0)), zIA, (.inl (0, 23, 3, 0)), (.inl (0, 1, 0, 0)), (.inl (0, 23, 0, 0))], [(.inl (0, 23, 3, 4)), (.inl (0, 23, 0, 6))]),
  (46, [(.inl 2), (.inr (24, 3)), (.inl 9), (.inr (23, 5)), (.inl 27)], (0, 0), [(.inr (.inr (.inl (44, 44)))), (.inl (1, 100, 0, 0)), zIA, (.inl (1, 23, 3, 0)), (.inl (0, 1, 0, 0)), (.inl (0, 22, 3, 0))], []),
  (48, [(.inl 2), (.inr (24, 3)), (.inl 9), (.inr (23, 5)), (.inl 26)], (0, 0), [(.inr (.inr (.inl (44, 44)))), (.inl (1, 100, 0, 0)), zIA, (.inl (1, 23, 3, 0)), (.inl (0, 1, 0, 0)), (.inl (0, 22, 3, 0))], [(.inl (0, 1, 0, 5))]),
  (51, [(.inl 2), (.inr (24, 3)), (.inl 9), (.inr (23, 5)), (.inl 25)], (0, 0), [(.inr (.inr (.inl (44, 44)))), (.inl (1, 100, 0, 0)), zIA, (.inl (1, 23, 3, 0)), (.inl (1, 1, 0, 0)), (.inl (0, 22, 3, 0))], []),
  (52, [(.inl 2), (.inr (24, 3)), (.inl 9), (.inr (23, 5)), (.inl 24)], (0, 0), [(.inr (.inr (.inl (44, 44)))), (.inl (1, 100, 0, 0)), zIA, (.inl (1, 23, 3, 0)), (.inl (1, 1, 0, 0)), (.inl (0, 22, 3, 0))], [(.inr (.inr (.inl (44, 44))))]),
  (55, [(.inl 2), (.inr (24, 3)), (.inl 9), (.inr (23, 5)), (.inl 23)], (0, 0), [(.inr (.inr (.inl (44, 44)))), (.inl (1, 100, 0, 0)), zIA, (.inl (1, 23, 3, 0)), (.inl (1, 1, 0, 0)), (.inl (0, 22, 3, 0))], [(.inr (.inr (.inr 9)))]),
  (57, [(.inl 2), (.inr (24, 3)), (.inl 9), (.inr (23, 5)), (.inl 22)], (0, 0), [(.inr (.inr (.inl (44, 44)))), (.inl (1, 100, 0, 0)), zIA, (.inl (1, 23, 3, 0)), (.inl (1, 1, 0, 0)), (.inl (0, 22, 3, 0))], [(.inl (0, 22, 3, 6)), (.inr (.inr (.inr 9)))]),
  (62, [(.inl 2), (.inr (24, 3)), (.inl 9), (.inr (23, 5)), (.inl 21)], (0, 0), [(.inr (.inr (.inl (44, 44)))), (.inl (1, 100, 0, 0)), zIA, (.inl (1, 23, 3, 0)), (.inl (1, 1, 0, 0)), (.inl (0, 22, 3, 0))], [(.inr (.inr (.inr 6)))]),
  (65, [(.inl 2), (.inr (24, 3)), (.inl 9), (.inr (23, 5)), (.inl 20)], (0, 0), [(.inr (.inr (.inl (44, 44)))), (.inl (1, 100, 0, 0)), zIA, (.inl (1, 23, 3, 0)), (.inl (1, 1, 0, 0)), (.inl (0, 22, 3, 0))], [(.inr (.inr (.inr 6)))]),
  (66, [(.inl 2), (.inr (24, 3)), (.inl 9), (.inr (23, 5)), (.inl 19)], (0, 0), [(.inr (.inr (.inl (44, 44)))), (.inl (1, 100, 0, 0)), zIA, (.inl (1, 23, 3, 0)), (.inl (1, 1, 0, 0)), (.inl (0, 22, 3, 0))], [(.inr (.inr (.inl (44, 44)))), (.inr (.inr (.inr 6)))]),
  (69, [(.inl 2), (.inr (24, 3)), (.inl 9), (.inr (23, 5)), (.inl 18)], (0, 0), [(.inr (.inr (.inl (44, 44)))), (.inl (1, 100, 0, 0)), zIA, (.inl (1, 23, 3, 0)), (.inl (1, 1, 0, 0)), (.inl (0, 22, 3, 0))], [(.inr (.inr (.inr 9))), (.inr (.inr (.inr 6)))]),
  (70, [(.inl 2), (.inr (24, 3)), (.inl 9), (.inr (23, 5)), (.inl 17)], (0, 0), [(.inr (.inr (.inl (44, 44)))), (.inl (1, 100, 0, 0)), zIA, (.inl (1, 23, 3, 0)), (.inl (1, 1, 0, 0)), (.inl (0, 22, 3, 0))], [(.inl (1, 23, 3, 4)), (.inr (.inr (.inr 9))), (.inr (.inr (.inr 6)))]),
  (75, [(.inl 2), (.inr (24, 3)), (.inl 9), (.inr (23, 5)), (.inl 16)], (0, 0), [(.inr (.inr (.inl (44, 44)))), (.inl (1, 100, 0, 0)), zIA, (.inl (1, 23, 3, 0)), (.inl (1, 1, 0, 0)), (.inl (0, 22, 3, 0))], [(.inr (.inr (.inr 6))), (.inr (.inr (.inr 6)))]),
  (78, [(.inl 2), (.inr (24, 3)), (.inl 9), (.inr (23, 5)), (.inl 15)], (0, 0), [(.inr (.inr (.inl (44, 44)))), (.inl (1, 100, 0, 0)), zIA, (.inl (1, 23, 3, 0)), (.inl (1, 1, 0, 0)), (.inl (0, 22, 3, 0))], [(.inr (.inr (.inr 6))), (.inr (.inr (.inr 6)))]),
  (81, [(.inl 2), (.inr (24, 3)), (.inl 9), (.inr (23, 5)), (.inl 14)], (0, 0), [(.inr (.inr (.inl (44, 44)))), (.inl (1, 100, 0, 0)), zIA, (.inl (1, 23, 3, 0)), (.inl (1, 1, 0, 0)), (.inl (0, 22, 3, 0))], [(.inl (0, 1, 0, 0))]),
  (84, [(.inl 2), (.inr (24, 3)), (.inl 9), (.inr (23, 5)), (.inl 13)], (0, 0), [(.inr (.inr (.inl (44, 44)))), (.inl (1, 100, 0, 0)), zIA, (.inl (1, 23, 3, 0)), (.inl (1, 1, 0, 0)), (.inl (0, 22, 3, 0))], []),
  (85, [(.inl 2), (.inr (24, 3)), (.inl 9), (.inr (23, 5)), (.inl 12)], (0, 0), [(.inr (.inr (.inl (44, 44)))), (.inl (1, 100, 0, 0)), zIA, (.inl (1, 23, 3, 0)), (.inl (1, 1, 0, 0)), (.inl (0, 22, 3, 0))], [(.inr (.inr (.inl (44, 44))))]),
  (86, [(.inl 2), (.inr (24, 3)), (.inl 9), (.inr (23, 5)), (.inl 11)], (0, 0), [(.inr (.inr (.inl (44, 44)))), (.inl (1, 100, 0, 0)), zIA, (.inl (1, 23, 3, 0)), (.inl (1, 1, 0, 0)), (.inl (0, 22, 3, 0))], [(.inr (.inr (.inl (44, 44)))), (.inr (.inr (.inl (44, 44))))]),
  (89, [(.inl 2), (.inr (24, 3)), (.inl 9), (.inr (23, 5)), (.inl 10)], (0, 0), [(.inr (.inr (.inl (44, 44)))), (.inl (1, 100, 0, 0)), zIA, (.inl (1, 23, 3, 0)), (.inl (1, 1, 0, 0)), (.inl (0, 22, 3, 0))], [(.inr (.inr (.inr 9))), (.inr (.inr (.inl (44, 44))))]),
  (91, [(.inl 2), (.inr (24, 3)), (.inl 9), (.inr (23, 5)), (.inl 9)], (0, 0), [(.inr (.inr (.inl (44, 44)))), (.inl (1, 100, 0, 0)), zIA, (.inl (1, 23, 3, 0)), (.inl (1, 1, 0, 0)), (.inl (0, 22, 3, 0))], [(.inl (0, 22, 3, 6)), (.inr (.inr (.inr 9))), (.inr (.inr (.inl (44, 44))))]),
  (96, [(.inl 2), (.inr (24, 3)), (.inl 9), (.inr (23, 5)), (.inl 8)], (0, 0), [(.inr (.inr (.inl (44, 44)))), (.inl (1, 100, 0, 0)), zIA, (.inl (1, 23, 3, 0)), (.inl (1, 1, 0, 0)), (.inl (0, 22, 3, 0))], [(.inr (.inr (.inr 6))), (.inr (.inr (.inl (44, 44))))]),
  (99, [(.inl 2), (.inr (24, 3)), (.inl 9), (.inr (23, 5)), (.inl 7)], (0, 0), [(.inr (.inr (.inl (44, 44)))), (.inl (1, 100, 0, 0)), zIA, (.inl (1, 23, 3, 0)), (.inl (1, 1, 0, 0)), (.inl (0, 22, 3, 0))], [(.inr (.inr (.inr 6))), (.inr (.inr (.inl (44, 44))))]),
  (100, [(.inl 2), (.inr (24, 3)), (.inl 9), (.inr (23, 5)), (.inl 6)], (0, 0), [(.inr (.inr (.inl (44, 44)))), (.inl (1, 100, 0, 0)), zIA, (.inl (1, 23, 3, 0)), (.inl (1, 1, 0, 0)), (.inl (0, 22, 3, 0))], [(.inl (1, 100, 0, 2)), (.inr (.inr (.inr 6))), (.inr (.inr (.inl (44, 44))))]),
  (103, [(.inl 2), (.inr (24, 3)), (.inl 9), (.inr (23, 5)), (.inl 5)], (0, 0), [(.inr (.inr (.inl (44, 44)))), (.inl (1, 100, 0, 0)), zIA, (.inl (1, 23, 3, 0)), (.inl (1, 1, 0, 0)), (.inl (0, 22, 3, 0))], [(.inl (0, 1, 0, 0))]),
  (106, [(.inl 2), (.inr (24, 3)), (.inl 9), (.inr (23, 5)), (.inl 3)], (0, 0), [(.inr (.inr (.inl (44, 44)))), (.inl (1, 100, 0, 0)), zIA, (.inl (1, 23, 3, 0)), (.inl (1, 1, 0, 0)), (.inl (0, 22, 3, 0))], []),
  (107, [(.inl 2), (.inr (24, 3)), (.inl 9), (.inr (23, 5)), (.inl 2)], (0, 0), [(.inr (.inr (.inl (44, 44)))), (.inl (1, 100, 0, 0)), zIA, (.inl (1, 23, 3, 0)), (.inl (1, 1, 0, 0)), (.inl (0, 22, 3, 0))], [(.inl (1, 1, 0, 0))]),
  (110, [(.inl 2), (.inr (24, 3)), (.inl 9), (.inr (23, 5)), (.inl 4)], (0, 0), [(.inr (.inr (.inl (44, 44)))), (.inl (1, 100, 0, 0)), zIA, (.inl (1, 23, 3, 0)), (.inl (1, 1, 0, 0)), (.inl (0, 22, 3, 0))], []),
  (111, [(.inl 2), (.inr (24, 3)), (.inl 9), (.inr (23, 5)), (.inl 1)], (0, 0), [(.inr (.inr (.inl (44, 44)))), (.inl (1, 100, 0, 0)), zIA, (.inl (1, 23, 3, 0)), (.inl (1, 1, 0, 0)), (.inl (0, 22, 3, 0))], [(.inl (0, 1, 0, 0))]),
  (113, [(.inl 2), (.inr (24, 3)), (.inl 9), (.inr (23, 5)), (.inl 0)], (0, 0), [(.inr (.inr (.inl (44, 44)))), (.inl (1, 100, 0, 0)), zIA, (.inl (1, 23, 3, 0)), (.inl (0, 1, 0, 0)), (.inl (0, 22, 3, 0))], []),
  (116, [(.inl 2), (.inr (24, 3)), (.inl 9), (.inr (23, 5)), (.inl 31)], (0, 0), [(.inr (.inr (.inl (44, 44)))), (.inl (1, 100, 0, 0)), zIA, (.inl (1, 23, 3, 0)), (.inl (0, 1, 0, 0)), (.inl (1, 23, 0, 0))], []),
  (119, [(.inl 2), (.inr (24, 3)), (.inl 8), (.inl 0), (.inl 0)], (0, 0), [(.inr (.inr (.inl (44, 44)))), (.inl (1, 100, 0, 0)), zIA, (.inl (0, 23, 3, 0)), (.inl (0, 1, 0, 0)), (.inl (0, 23, 0, 0))], []),
  (120, [(.inl 2), (.inr (24, 3)), (.inl 7), (.inl 0), (.inl 0)], (0, 0), [(.inr (.inr (.inl (44, 44)))), (.inl (1, 100, 0, 0)), zIA, (.inl (0, 23, 3, 0)), (.inl (0, 1, 0, 0)), (.inl (0, 23, 0, 0))], [(.inl ((-2147483648), 2147483647, 0, 3))]),
  (122, [(.inl 2), (.inr (24, 3)), (.inl 6), (.inl 0), (.inl 0)], (0, 0), [(.inr (.inr (.inl (44, 44)))), (.inl (1, 100, 0, 0)), zIA, (.inl (0, 23, 3, 0)), (.inl (0, 1, 0, 0)), (.inl (0, 23, 0, 0))], [(.inl (0, 1, 0, 5)), (.inl ((-2147483648), 2147483647, 0, 3))]),
  (125, [(.inl 2), (.inr (24, 3)), (.inl 5), (.inl 0), (.inl 0)], (0, 0), [(.inr (.inr (.inl (44, 44)))), (.inl (1, 100, 0, 0)), zIA, (.inl (0, 23, 3, 0)), (.inl (1, 1, 0, 0)), (.inl (0, 23, 0, 0))], [(.inl ((-2147483648), 2147483647, 0, 3))]),
  (126, [(.inl 2), (.inr (24, 3)), (.inl 4), (.inl 0), (.inl 0)], (0, 0), [(.inr (.inr (.inl (44, 44)))), (.inl (1, 100, 0, 0)), zIA, (.inl (0, 23, 3, 0)), (.inl (1, 1, 0, 0)), (.inl (0, 23, 0, 0))], [(.inl (1, 1, 0, 0)), (.inl ((-2147483648), 2147483647, 0, 3))]),
  (129, [(.inl 2), (.inr (24, 3)), (.inl 3), (.inl 0), (.inl 0)], (0, 0), [(.inr (.inr (.inl (44, 44)))), (.inl (1, 100, 0, 0)), zIA, (.inl (0, 23, 3, 0)), (.inl (0, 0, 0, 0)), (.inl (0, 23, 0, 0))], [(.inl ((-2147483648), 2147483647, 0, 3))]),
  (130, [(.inl 2), (.inr (24, 3)), (.inl 2), (.inl 0), (.inl 0)], (0, 0), [(.inr (.inr (.inl (44, 44)))), (.inl (1, 100, 0, 0)), zIA, (.inl (0, 23, 3, 0)), (.inl (0, 1, 0, 0)), (.inl (0, 23, 0, 0))], [(.inl (0, 1, 0, 0)), (.inl ((-2147483648), 2147483647, 0, 3))]),
  (131, [(.inl 2), (.inr (24, 3)), (.inl 1), (.inl 0), (.inl 0)], (0, 0), [(.inr (.inr (.inl (44, 44)))), (.inl (1, 100, 0, 0)), zIA, (.inl (0, 23, 3, 0)), (.inl (0, 1, 0, 0)), (.inl (0, 23, 0, 0))], [zIA]),
  (132, [(.inl 2), (.inr (24, 3)), (.inl 0), (.inl 0), (.inl 0)], (0, 0), [(.inr (.inr (.inl (44, 44)))), (.inl (1, 100, 0, 0)), zIA, (.inl (0, 23, 3, 0)), (.inl (0, 1, 0, 0)), (.inl (0, 23, 0, 0))], []),
  (135, [(.inl 2), (.inr (24, 3)), (.inl 26), (.inl 0), (.inl 0)], (0, 0), [(.inr (.inr (.inl (44, 44)))), (.inl (1, 100, 0, 0)), zIA, (.inl (1, 24, 0, 0)), (.inl (0, 1, 0, 0)), (.inl (0, 23, 0, 0))], []),
  (138, [(.inl 1), (.inl 0), (.inl 0), (.inl 0), (.inl 0)], (0, 0), [(.inr (.inr (.inl (44, 44)))), (.inl (1, 100, 0, 0)), zIA, (.inl (0, 24, 0, 0)), (.inr (.inr (.inr 0))), (.inr (.inr (.inr 0)))], []),
  (139, [(.inl 0), (.inl 0), (.inl 0), (.inl 0), (.inl 0)], (0, 0), [(.inr (.inr (.inl (44, 44)))), (.inl (1, 100, 0, 0)), zIA, (.inl (0, 24, 0, 0)), (.inr (.inr (.inr 0))), (.inr (.inr (.inr 0)))], [(.inl ((-2147483648), 2147483647, 0, 3))])]
theorem g_183 {xs : List Int32} : zGd xs ct_183 := zmeth (cs := [ct_182, ct_184, ct_239b, ct_243b]) ct_183 ce_183 (List.forall_mem_cons.mpr ⟨g_182, List.forall_mem_cons.mpr ⟨g_184, List.forall_mem_cons.mpr ⟨g_239b, List.forall_mem_cons.mpr ⟨g_243b, fun _ h => absurd h List.not_mem_nil⟩⟩⟩⟩) (by decide +kernel)
def ct_185 : zCt := (185, [(.inr (.inr (.inl (44, 44)))), zIA], some zIA, 7, 0, 0)
def ce_185 : List zCe := [(0, [(.inl 15)], (0, 0), [(.inr (.inr (.inl (44, 44)))), zIA], []),
  (1, [(.inl 14)], (0, 0), [(.inr (.inr (.inl (44, 44)))), zIA], [(.inr (.inr (.inl (44, 44))))]),
  (2, [(.inl 13)], (0, 0), [(.inr (.inr (.inl (44, 44)))), zIA], [(.inl (0, 0, 0, 0)), (.inr (.inr (.inl (44, 44))))]),
  (5, [(.inl 12)], (0, 0), [(.inr (.inr (.inl (44, 44)))), zIA], []),
  (6, [(.inl 11)], (0, 0), [(.inr (.inr (.inl (44, 44)))), zIA], [(.inl ((-2147483648), 2147483647, 0, 2))]),
  (7, [(.inl 10)], (0, 0), [(.inr (.inr (.inl (44, 44)))), zIA], [(.inl (1, 1, 0, 0)), (.inl ((-2147483648), 2147483647, 0, 2))]),
  (9, [(.inl 9)], (0, 0), [(.inr (.inr (.inl (44, 44)))), zIA], [(.inl (100, 100, 0, 0)), (.inl (1, 1, 0, 0)), (.inl ((-2147483648), 2147483647, 0, 2))]),
  (12, [(.inl 8)], (0, 0), [(.inr (.inr (.inl (44, 44)))), zIA], [(.inr (.inl (1, 1, 100, 0)))]),
  (15, [(.inl 7)], (0, 0), [(.inr (.inr (.inl (44, 44)))), zIA], []),
  (16, [(.inl 6)], (0, 0), [(.inr (.inr (.inl (44, 44)))), zIA], [(.inr (.inr (.inl (44, 44))))]),
  (17, [(.inl 5)], (0, 0), [(.inr (.inr (.inl (44, 44)))), zIA], [(.inl (1, 1, 0, 0)), (.inr (.inr (.inl (44, 44))))]),
  (20, [(.inl 4)], (0, 0), [(.inr (.inr (.inl (44, 44)))), zIA], [(.inl (0, 0, 0, 0))]),
  (21, [(.inl 3)], (0, 0), [(.inr (.inr (.inl (44, 44)))), (.inl (1, 100, 0, 0))], []),
  (22, [(.inl 2)], (0, 0), [(.inr (.inr (.inl (44, 44)))), (.inl (1, 100, 0, 0))], [(.inr (.inr (.inl (44, 44))))]),
  (23, [(.inl 1)], (0, 0), [(.inr (.inr (.inl (44, 44)))), (.inl (1, 100, 0, 0))], [(.inl (1, 100, 0, 2)), (.inr (.inr (.inl (44, 44))))]),
  (26, [(.inl 0)], (0, 0), [(.inr (.inr (.inl (44, 44)))), (.inl (1, 100, 0, 0))], [zIA])]
theorem g_185 {xs : List Int32} : zGd xs ct_185 := zmeth (cs := [ct_111, ct_183]) ct_185 ce_185 (List.forall_mem_cons.mpr ⟨g_111, List.forall_mem_cons.mpr ⟨g_183, fun _ h => absurd h List.not_mem_nil⟩⟩) (by decide +kernel)
def ct_186 : zCt := (186, [(.inr (.inr (.inl (44, 44))))], some ((.inl (0, 1, 0, 0))), 4, 0, 0)
def ce_186 : List zCe := [(0, [(.inl 45), (.inl 0), (.inl 0), (.inl 0), (.inl 0)], (0, 0), [(.inr (.inr (.inl (44, 44)))), (.inr (.inr (.inr 0))), (.inr (.inr (.inr 0))), (.inr (.inr (.inr 0))), (.inr (.inr (.inr 0)))], []),
  (1, [(.inl 44), (.inl 0), (.inl 0), (.inl 0), (.inl 0)], (0, 0), [(.inr (.inr (.inl (44, 44)))), (.inr (.inr (.inr 0))), (.inr (.inr (.inr 0))), (.inr (.inr (.inr 0))), (.inr (.inr (.inr 0)))], [(.inl (0, 0, 0, 0))]),
  (2, [(.inl 43), (.inr (16, 1)), (.inl 16), (.inl 0), (.inl 0)], (0, 0), [(.inr (.inr (.inl (44, 44)))), (.inl (0, 16, 0, 0)), (.inr (.inr (.inr 0))), (.inr (.inr (.inr 0))), (.inr (.inr (.inr 0)))], []),
  (3, [(.inl 43), (.inr (16, 1)), (.inl 15), (.inl 0), (.inl 0)], (0, 0), [(.inr (.inr (.inl (44, 44)))), (.inl (0, 16, 0, 0)), (.inr (.inr (.inr 0))), (.inr (.inr (.inr 0))), (.inr (.inr (.inr 0)))], [(.inl (0, 16, 0, 2))]),
  (4, [(.inl 43), (.inr (16, 1)), (.inl 14), (.inl 0), (.inl 0)], (0, 0), [(.inr (.inr (.inl (44, 44)))), (.inl (0, 16, 0, 0)), (.inr (.inr (.inr 0))), (.inr (.inr (.inr 0))), (.inr (.inr (.inr 0)))], [(.inr (.inr (.inl (44, 44)))), (.inl (0, 16, 0, 2))]),
  (7, [(.inl 43), (.inr (16, 1)), (.inl 13), (.inl 0), (.inl 0)], (0, 0), [(.inr (.inr (.inl (44, 44)))), (.inl (0, 16, 0, 0)), (.inr (.inr (.inr 0))), (.inr (.inr (.inr 0))), (.inr (.inr (.inr 0)))], [(.inr (.inr (.inr 5))), (.inl (0, 16, 0, 2))]),
  (8, [(.inl 43), (.inr (16, 1)), (.inl 12), (.inl 0), (.inl 0)], (0, 0), [(.inr (.inr (.inl (44, 44)))), (.inl (0, 16, 0, 0)), (.inr (.inr (.inr 0))), (.inr (.inr (.inr 0))), (.inr (.inr (.inr 0)))], [(.inl (8, 16, 8, 0)), (.inl (0, 16, 0, 2))]),
  (11, [(.inl 43), (.inr (16, 1)), (.inl 11), (.inl 0), (.inl 0)], (0, 0), [(.inr (.inr (.inl (44, 44)))), (.inl (0, 15, 7, 0)), (.inr (.inr (.inr 0))), (.inr (.inr (.inr 0))), (.inr (.inr (.inr 0)))], []),
  (12, [(.inl 43), (.inr (16, 1)), (.inl 10), (.inl 0), (.inl 0)], (0, 0), [(.inr (.inr (.inl (44, 44)))), (.inl (0, 15, 7, 0)), (.inr (.inr (.inr 0))), (.inr (.inr (.inr 0))), (.inr (.inr (.inr 0)))], [(.inr (.inr (.inl (44, 44))))]),
  (15, [(.inl 43), (.inr (16, 1)), (.inl 9), (.inl 0), (.inl 0)], (0, 0), [(.inr (.inr (.inl (44, 44)))), (.inl (0, 15, 7, 0)), (.inr (.inr (.inr 0))), (.inr (.inr (.inr 0))), (.inr (.inr (.inr 0)))], [(.inr (.inr (.inr 5)))]),
  (16, [(.inl 43), (.inr (16, 1)), (.inl 8), (.inl 0), (.inl 0)], (0, 0), [(.inr (.inr (.inl (44, 44)))), (.inl (0, 15, 7, 0)), (.inr (.inr (.inr 0))), (.inr (.inr (.inr 0))), (.inr (.inr (.inr 0)))], [(.inl (0, 15, 7, 2)), (.inr (.inr (.inr 5)))]),
  (17, [(.inl 43), (.inr (16, 1)), (.inl 7), (.inl 0), (.inl 0)], (0, 0), [(.inr (.inr (.inl (44, 44)))), (.inl (0, 15, 7, 0)), (.inr (.inr (.inr 0))), (.inr (.inr (.inr 0))), (.inr (.inr (.inr 0)))], [zIA]),
  (20, [(.inl 43), (.inr (16, 1)), (.inl 6), (.inl 0), (.inl 0)], (0, 0), [(.inr (.inr (.inl (44, 44)))), (.inl (0, 15, 7, 0)), (.inr (.inr (.inr 0))), (.inr (.inr (.inr 0))), (.inr (.inr (.inr 0)))], [zIA]),
  (21, [(.inl 43), (.inr (16, 1)), (.inl 5), (.inl 0), (.inl 0)], (0, 0), [(.inr (.inr (.inl (44, 44)))), (.inl (0, 15, 7, 0)), (.inr (.inr (.inr 0))), (.inr (.inr (.inr 0))), (.inr (.inr (.inr 0)))], [(.inl (2, 2, 0, 0)), zIA]),
  (22, [(.inl 43), (.inr (16, 1)), (.inl 4), (.inl 0), (.inl 0)], (0, 0), [(.inr (.inr (.inl (44, 44)))), (.inl (0, 15, 7, 0)), (.inr (.inr (.inr 0))), (.inr (.inr (.inr 0))), (.inr (.inr (.inr 0)))], [zIA]),
  (25, [(.inl 42), (.inl 0), (.inl 0), (.inl 0), (.inl 0)], (0, 0), [(.inr (.inr (.inl (44, 44)))), (.inl (0, 15, 7, 0)), (.inr (.inr (.inr 0))), (.inr (.inr (.inr 0))), (.inr (.inr (.inr 0)))], []),
  (26, [(.inl 41), (.inl 0), (.inl 0), (.inl 0), (.inl 0)], (0, 0), [(.inr (.inr (.inl (44, 44)))), (.inl (0, 15, 7, 0)), (.inr (.inr (.inr 0))), (.inr (.inr (.inr 0))), (.inr (.inr (.inr 0)))], [(.inl (0, 0, 0, 0))]),
  (27, [(.inl 43), (.inr (16, 1)), (.inl 3), (.inl 0), (.inl 0)], (0, 0), [(.inr (.inr (.inl (44, 44)))), (.inl (0, 15, 7, 0)), (.inr (.inr (.inr 0))), (.inr (.inr (.inr 0))), (.inr (.inr (.inr 0)))], []),
  (28, [(.inl 43), (.inr (16, 1)), (.inl 2), (.inl 0), (.inl 0)], (0, 0), [(.inr (.inr (.inl (44, 44)))), (.inl (0, 15, 7, 0)), (.inr (.inr (.inr 0))), (.inr (.inr (.inr 0))), (.inr (.inr (.inr 0)))], [(.inl (0, 0, 0, 0))]),
  (29, [(.inl 43), (.inr (16, 1)), (.inl 1), (.inr (15, 2)), (.inl 12)], (0, 0), [(.inr (.inr (.inl (44, 44)))), (.inl (0, 15, 7, 0)), (.inl (0, 15, 0, 0)), (.inr (.inr (.inr 0))), (.inr (.inr (.inr 0)))], []),
  (30, [(.inl 43), (.inr (16, 1)), (.inl 1), (.inr (15, 2)), (.inl 11)], (0, 0), [(.inr (.inr (.inl (44, 44)))), (.inl (0, 15, 7, 0)), (.inl (0, 15, 0, 0)), (.inr (.inr (.inr 0))), (.inr (.inr (.inr 0)))], [(.inl (0, 15, 0, 3))]),
  (31, [(.inl 43), (.inr (16, 1)), (.inl 1), (.inr (15, 2)), (.inl 10)], (0, 0), [(.inr (.inr (.inl (44, 44)))), (.inl (0, 15, 7, 0)), (.inl (0, 15, 0, 0)), (.inr (.inr (.inr 0))), (.inr (.inr (.inr 0)))], [(.inl (0, 15, 7, 2)), (.inl (0, 15, 0, 3))]),
  (34, [(.inl 43), (.inr (16, 1)), (.inl 1), (.inr (15, 2)), (.inl 9)], (0, 0), [(.inr (.inr (.inl (44, 44)))), (.inl (1, 15, 7, 0)), (.inl (0, 14, 7, 0)), (.inr (.inr (.inr 0))), (.inr (.inr (.inr 0)))], []),
  (35, [(.inl 43), (.inr (16, 1)), (.inl 1), (.inr (15, 2)), (.inl 8)], (0, 0), [(.inr (.inr (.inl (44, 44)))), (.inl (1, 15, 7, 0)), (.inl (0, 14, 7, 0)), (.inr (.inr (.inr 0))), (.inr (.inr (.inr 0)))], [(.inr (.inr (.inl (44, 44))))]),
  (38, [(.inl 43), (.inr (16, 1)), (.inl 1), (.inr (15, 2)), (.inl 7)], (0, 0), [(.inr (.inr (.inl (44, 44)))), (.inl (1, 15, 7, 0)), (.inl (0, 14, 7, 0)), (.inr (.inr (.inr 0))), (.inr (.inr (.inr 0)))], [(.inr (.inr (.inr 5)))]),
  (39, [(.inl 43), (.inr (16, 1)), (.inl 1), (.inr (15, 2)), (.inl 6)], (0, 0), [(.inr (.inr (.inl (44, 44)))), (.inl (1, 15, 7, 0)), (.inl (0, 14, 7, 0)), (.inr (.inr (.inr 0))), (.inr (.inr (.inr 0)))], [(.inl (1, 15, 7, 2)), (.inr (.inr (.inr 5)))]),
  (40, [(.inl 43), (.inr (16, 1)), (.inl 1), (.inr (15, 2)), (.inl 5)], (0, 0), [(.inr (.inr (.inl (44, 44)))), (.inl (1, 15, 7, 0)), (.inl (0, 14, 7, 0)), (.inr (.inr (.inr 0))), (.inr (.inr (.inr 0)))], [zIA]),
  (41, [(.inl 43), (.inr (16, 1)), (.inl 1), (.inr (15, 2)), (.inl 4)], (0, 0), [(.inr (.inr (.inl (44, 44)))), (.inl (1, 15, 7, 0)), (.inl (0, 14, 7, 0)), (.inr (.inr (.inr 0))), (.inr (.inr (.inr 0)))], [(.inr (.inr (.inl (44, 44)))), zIA]),
  (44, [(.inl 43), (.inr (16, 1)), (.inl 1), (.inr (15, 2)), (.inl 3)], (0, 0), [(.inr (.inr (.inl (44, 44)))), (.inl (1, 15, 7, 0)), (.inl (0, 14, 7, 0)), (.inr (.inr (.inr 0))), (.inr (.inr (.inr 0)))], [(.inr (.inr (.inr 5))), zIA]),
  (45, [(.inl 43), (.inr (16, 1)), (.inl 1), (.inr (15, 2)), (.inl 2)], (0, 0), [(.inr (.inr (.inl (44, 44)))), (.inl (1, 15, 7, 0)), (.inl (0, 14, 7, 0)), (.inr (.inr (.inr 0))), (.inr (.inr (.inr 0)))], [(.inl (0, 14, 7, 3)), (.inr (.inr (.inr 5))), zIA]),
  (46, [(.inl 43), (.inr (16, 1)), (.inl 1), (.inr (15, 2)), (.inl 1)], (0, 0), [(.inr (.inr (.inl (44, 44)))), (.inl (1, 15, 7, 0)), (.inl (0, 14, 7, 0)), (.inr (.inr (.inr 0))), (.inr (.inr (.inr 0)))], [zIA, zIA]),
  (49, [(.inl 40), (.inl 0), (.inl 0), (.inl 0), (.inl 0)], (0, 0), [(.inr (.inr (.inl (44, 44)))), (.inl (1, 15, 7, 0)), (.inl (0, 14, 7, 0)), (.inr (.inr (.inr 0))), (.inr (.inr (.inr 0)))], []),
  (50, [(.inl 39), (.inl 0), (.inl 0), (.inl 0), (.inl 0)], (0, 0), [(.inr (.inr (.inl (44, 44)))), (.inl (1, 15, 7, 0)), (.inl (0, 14, 7, 0)), (.inr (.inr (.inr 0))), (.inr (.inr (.inr 0)))], [(.inl (0, 0, 0, 0))]),
  (51, [(.inl 43), (.inr (16, 1)), (.inl 1), (.inr (15, 2)), (.inl 0)], (0, 0), [(.inr (.inr (.inl (44, 44)))), (.inl (1, 15, 7, 0)), (.inl (0, 14, 7, 0)), (.inr (.inr (.inr 0))), (.inr (.inr (.inr 0)))], []),
  (54, [(.inl 43), (.inr (16, 1)), (.inl 1), (.inr (15, 2)), (.inl 13)], (0, 0), [(.inr (.inr (.inl (44, 44)))), (.inl (1, 15, 7, 0)), (.inl (1, 15, 0, 0)), (.inr (.inr (.inr 0))), (.inr (.inr (.inr 0)))], []),
  (57, [(.inl 43), (.inr (16, 1)), (.inl 0), (.inl 0), (.inl 0)], (0, 0), [(.inr (.inr (.inl (44, 44)))), (.inl (0, 15, 7, 0)), (.inl (0, 15, 0, 0)), (.inr (.inr (.inr 0))), (.inr (.inr (.inr 0)))], []),
  (60, [(.inl 43), (.inr (16, 1)), (.inl 17), (.inl 0), (.inl 0)], (0, 0), [(.inr (.inr (.inl (44, 44)))), (.inl (1, 16, 0, 0)), (.inl (0, 15, 0, 0)), (.inr (.inr (.inr 0))), (.inr (.inr (.inr 0)))], []),
  (63, [(.inl 38), (.inl 0), (.inl 0), (.inl 0), (.inl 0)], (0, 0), [(.inr (.inr (.inl (44, 44)))), (.inl (8, 16, 0, 0)), (.inr (.inr (.inr 0))), (.inr (.inr (.inr 0))), (.inr (.inr (.inr 0)))], []),
  (64, [(.inl 37), (.inl 0), (.inl 0), (.inl 0), (.inl 0)], (0, 0), [(.inr (.inr (.inl (44, 44)))), (.inl (8, 16, 0, 0)), (.inr (.inr (.inr 0))), (.inr (.inr (.inr 0))), (.inr (.inr (.inr 0)))], [(.inl (0, 0, 0, 0))]),
  (65, [(.inl 36), (.inr (24, 1)), (.inl 43), (.inl 0), (.inl 0)], (0, 0), [(.inr (.inr (.inl (44, 44)))), (.inl (0, 24, 0, 0)), (.inr (.inr (.inr 0))), (.inr (.inr (.inr 0))), (.inr (.inr (.inr 0)))], []),
  (66, [(.inl 36), (.inr (24, 1)), (.inl 42), (.inl 0), (.inl 0)], (0, 0), [(.inr (.inr (.inl (44, 44)))), (.inl (0, 24, 0, 0)), (.inr (.inr (.inr 0))), (.inr (.inr (.inr 0))), (.inr (.inr (.inr 0)))], [(.inl (0, 24, 0, 2))]),
  (67, [(.inl 36), (.inr (24, 1)), (.inl 41), (.inl 0), (.inl 0)], (0, 0), [(.inr (.inr (.inl (44, 44)))), (.inl (0, 24, 0, 0)), (.inr (.inr (.inr 0))), (.inr (.inr (.inr 0))), (.inr (.inr (.inr 0)))], [(.inr (.inr (.inl (44, 44)))), (.inl (0, 24, 0, 2))]),
  (70, [(.inl 36), (.inr (24, 1)), (.inl 40), (.inl 0), (.inl 0)], (0, 0), [(.inr (.inr (.inl (44, 44)))), (.inl (0, 24, 0, 0)), (.inr (.inr (.inr 0))), (.inr (.inr (.inr 0))), (.inr (.inr (.inr 0)))], [(.inr (.inr (.inr 8))), (.inl (0, 24, 0, 2))]),
  (75, [(.inl 36), (.inr (24, 1)), (.inl 39), (.inl 0), (.inl 0)], (0, 0), [(.inr (.inr (.inl (44, 44)))), (.inl (0, 24, 0, 0)), (.inr (.inr (.inr 0))), (.inr (.inr (.inr 0))), (.inr (.inr (.inr 0)))], [(.inl (0, 24, 2, 0)), (.inl (0, 24, 0, 2))]),
  (78, [(.inl 36), (.inr (24, 1)), (.inl 38), (.inl 0), (.inl 0)], (0, 0), [(.inr (.inr (.inl (44, 44)))), (.inl (0, 23, 1, 0)), (.inr (.inr (.inr 0))), (.inr (.inr (.inr 0))), (.inr (.inr (.inr 0)))], []),
  (79, [(.inl 36), (.inr (24, 1)), (.inl 37), (.inl 0), (.inl 0)], (0, 0), [(.inr (.inr (.inl (44, 44)))), (.inl (0, 23, 1, 0)), (.inr (.inr (.inr 0))), (.inr (.inr (.inr 0))), (.inr (.inr (.inr 0)))], [(.inr (.inr (.inl (44, 44))))]),
  (82, [(.inl 36), (.inr (24, 1)), (.inl 36), (.inl 0), (.inl 0)], (0, 0), [(.inr (.inr (.inl (44, 44)))), (.inl (0, 23, 1, 0)), (.inr (.inr (.inr 0))), (.inr (.inr (.inr 0))), (.inr (.inr (.inr 0)))], [(.inr (.inr (.inr 8)))]),
  (83, [(.inl 36), (.inr (24, 1)), (.inl 35), (.inl 0), (.inl 0)], (0, 0), [(.inr (.inr (.inl (44, 44)))), (.inl (0, 23, 1, 0)), (.inr (.inr (.inr 0))), (.inr (.inr (.inr 0))), (.inr (.inr (.inr 0)))], [(.inl (0, 23, 1, 2)), (.inr (.inr (.inr 8)))]),
  (88, [(.inl 36), (.inr (24, 1)), (.inl 34), (.inl 0), (.inl 0)], (0, 0), [(.inr (.inr (.inl (44, 44)))), (.inl (0, 23, 1, 0)), (.inr (.inr (.inr 0))), (.inr (.inr (.inr 0))), (.inr (.inr (.inr 0)))], [(.inr (.inr (.inr 6)))]),
  (91, [(.inl 36), (.inr (24, 1)), (.inl 33), (.inl 0), (.inl 0)], (0, 0), [(.inr (.inr (.inl (44, 44)))), (.inl (0, 23, 1, 0)), (.inr (.inr (.inr 0))), (.inr (.inr (.inr 0))), (.inr (.inr (.inr 0)))], [(.inr (.inr (.inr 6)))]),
  (92, [(.inl 36), (.inr (24, 1)), (.inl 32), (.inl 0), (.inl 0)], (0, 0), [(.inr (.inr (.inl (44, 44)))), (.inl (0, 23, 1, 0)), (.inr (.inr (.inr 6))), (.inr (.inr (.inr 0))), (.inr (.inr (.inr 0)))], []),
  (93, [(.inl 36), (.inr (24, 1)), (.inl 31), (.inl 0), (.inl 0)], (0, 0), [(.inr (.inr (.inl (44, 44)))), (.inl (0, 23, 1, 0)), (.inr (.inr (.inr 6))), (.inr (.inr (.inr 0))), (.inr (.inr (.inr 0)))], [(.inl (1, 1, 0, 0))]),
  (94, [(.inl 36), (.inr (24, 1)), (.inl 30), (.inl 0), (.inl 0)], (0, 0), [(.inr (.inr (.inl (44, 44)))), (.inl (0, 23, 1, 0)), (.inr (.inr (.inr 6))), (.inl (1, 1, 0, 0)), (.inr (.inr (.inr 0)))], []),
  (95, [(.inl 36), (.inr (24, 1)), (.inl 29), (.inl 0), (.inl 0)], (0, 0), [(.inr (.inr (.inl (44, 44)))), (.inl (0, 23, 1, 0)), (.inr (.inr (.inr 6))), (.inl (1, 1, 0, 0)), (.inr (.inr (.inr 0)))], [(.inl (0, 23, 1, 2))]),
  (96, [(.inl 36), (.inr (24, 1)), (.inl 28), (.inl 0), (.inl 0)], (0, 0), [(.inr (.inr (.inl (44, 44)))), (.inl (0, 23, 1, 0)), (.inr (.inr (.inr 6))), (.inl (1, 1, 0, 0)), (.inr (.inr (.inr 0)))], [(.inl (1, 1, 0, 0)), (.inl (0, 23, 1, 2))]),
  (97, [(.inl 36), (.inr (24, 1)), (.inl 27), (.inl 0), (.inl 0)], (0, 0), [(.inr (.inr (.inl (44, 44)))), (.inl (0, 23, 1, 0)), (.inr (.inr (.inr 6))), (.inl (1, 1, 0, 0)), (.inr (.inr (.inr 0)))], [(.inl (1, 24, 0, 0))]),
  (99, [(.inl 36), (.inr (24, 1)), (.inl 26), (.inr (24, 4)), (.inl 44)], (0, 0), [(.inr (.inr (.inl (44, 44)))), (.inl (0, 23, 1, 0)), (.inr (.inr (.inr 6))), zIA, (.inl (1, 24, 0, 0))], []),
  (101, [(.inl 36), (.inr (24, 1)), (.inl 26), (.inr (24, 4)), (.inl 43)], (0, 0), [(.inr (.inr (.inl (44, 44)))), (.inl (0, 23, 1, 0)), (.inr (.inr (.inr 6))), zIA, (.inl (1, 24, 0, 0))], [(.inl (1, 24, 0, 5))]),
  (102, [(.inl 36), (.inr (24, 1)), (.inl 26), (.inr (24, 4)), (.inl 42)], (0, 0), [(.inr (.inr (.inl (44, 44)))), (.inl (0, 23, 1, 0)), (.inr (.inr (.inr 6))), zIA, (.inl (1, 24, 0, 0))], [(.inr (.inr (.inl (44, 44)))), (.inl (1, 24, 0, 5))]),
  (105, [(.inl 36), (.inr (24, 1)), (.inl 26), (.inr (24, 4)), (.inl 41)], (0, 0), [(.inr (.inr (.inl (44, 44)))), (.inl (0, 23, 1, 0)), (.inr (.inr (.inr 6))), zIA, (.inl (1, 24, 0, 0))], [(.inr (.inr (.inr 8))), (.inl (1, 24, 0, 5))]),
  (110, [(.inl 36), (.inr (24, 1)), (.inl 26), (.inr (24, 4)), (.inl 40)], (0, 0), [(.inr (.inr (.inl (44, 44)))), (.inl (0, 23, 1, 0)), (.inr (.inr (.inr 6))), zIA, (.inl (1, 24, 0, 0))], [(.inl (0, 24, 2, 0)), (.inl (1, 24, 0, 5))]),
  (113, [(.inl 36), (.inr (24, 1)), (.inl 26), (.inr (24, 4)), (.inl 39)], (0, 0), [(.inr (.inr (.inl (44, 44)))), (.inl (0, 23, 1, 0)), (.inr (.inr (.inr 6))), zIA, (.inl (1, 23, 1, 0))], []),
  (114, [(.inl 36), (.inr (24, 1)), (.inl 26), (.inr (24, 4)), (.inl 38)], (0, 0), [(.inr (.inr (.inl (44, 44)))), (.inl (0, 23, 1, 0)), (.inr (.inr (.inr 6))), zIA, (.inl (1, 23, 1, 0))], [(.inl ((-2147483648), 2147483647, 0, 4))]),
  (115, [(.inl 36), (.inr (24, 1)), (.inl 26), (.inr (24, 4)), (.inl 37)], (0, 0), [(.inr (.inr (.inl (44, 44)))), (.inl (0, 23, 1, 0)), (.inr (.inr (.inr 6))), zIA, (.inl (1, 23, 1, 0))], [(.inr (.inr (.inl (44, 44)))), (.inl ((-2147483648), 2147483647, 0, 4))]),
  (118, [(.inl 36), (.inr (24, 1)), (.inl 26), (.inr (24, 4)), (.inl 36)], (0, 0), [(.inr (.inr (.inl (44, 44)))), (.inl (0, 23, 1, 0)), (.inr (.inr (.inr 6))), zIA, (.inl (1, 23, 1, 0))], [(.inr (.inr (.inr 8))), (.inl ((-2147483648), 2147483647, 0, 4))]),
  (120, [(.inl 36), (.inr (24, 1)), (.inl 26), (.inr (24, 4)), (.inl 35)], (0, 0), [(.inr (.inr (.inl (44, 44)))), (.inl (0, 23, 1, 0)), (.inr (.inr (.inr 6))), zIA, (.inl (1, 23, 1, 0))], [(.inl (1, 23, 1, 5)), (.inr (.inr (.inr 8))), (.inl ((-2147483648), 2147483647, 0, 4))]),
  (125, [(.inl 36), (.inr (24, 1)), (.inl 26), (.inr (24, 4)), (.inl 34)], (0, 0), [(.inr (.inr (.inl (44, 44)))), (.inl (0, 23, 1, 0)), (.inr (.inr (.inr 6))), zIA, (.inl (1, 23, 1, 0))], [(.inr (.inr (.inr 6))), (.inl ((-2147483648), 2147483647, 0, 4))]),
  (128, [(.inl 36), (.inr (24, 1)), (.inl 26), (.inr (24, 4)), (.inl 33)], (0, 0), [(.inr (.inr (.inl (44, 44)))), (.inl (0, 23, 1, 0)), (.inr (.inr (.inr 6))), zIA, (.inl (1, 23, 1, 0))], [(.inr (.inr (.inr 6))), (.inl ((-2147483648), 2147483647, 0, 4))]),
  (129, [(.inl 36), (.inr (24, 1)), (.inl 26), (.inr (24, 4)), (.inl 32)], (0, 0), [(.inr (.inr (.inl (44, 44)))), (.inl (0, 23, 1, 0)), (.inr (.inr (.inr 6))), zIA, (.inl (1, 23, 1, 0))], [(.inl (0, 0, 0, 0)), (.inr (.inr (.inr 6))), (.inl ((-2147483648), 2147483647, 0, 4))]),
  (130, [(.inl 36), (.inr (24, 1)), (.inl 26), (.inr (24, 4)), (.inl 31)], (0, 0), [(.inr (.inr (.inl (44, 44)))), (.inl (0, 23, 1, 0)), (.inr (.inr (.inr 6))), zIA, (.inl (1, 23, 1, 0))], [(.inl (0, 19, 0, 0)), (.inl ((-2147483648), 2147483647, 0, 4))]),
  (131, [(.inl 36), (.inr (24, 1)), (.inl 26), (.inr (24, 4)), (.inl 30)], (0, 0), [(.inr (.inr (.inl (44, 44)))), (.inl (0, 23, 1, 0)), (.inr (.inr (.inr 6))), zIA, (.inl (1, 23, 1, 0))], [(.inr (.inr (.inr 6))), (.inl (0, 19, 0, 0)), (.inl ((-2147483648), 2147483647, 0, 4))]),
  (132, [(.inl 36), (.inr (24, 1)), (.inl 26), (.inr (24, 4)), (.inl 29)], (0, 0), [(.inr (.inr (.inl (44, 44)))), (.inl (0, 23, 1, 0)), (.inr (.inr (.inr 6))), zIA, (.inl (1, 23, 1, 0))], [(.inl (0, 0, 0, 0)), (.inr (.inr (.inr 6))), (.inl (0, 19, 0, 0)), (.inl ((-2147483648), 2147483647, 0, 4))]),
  (133, [(.inl 36), (.inr (24, 1)), (.inl 26), (.inr (24, 4)), (.inl 28)], (0, 0), [(.inr (.inr (.inl (44, 44)))), (.inl (0, 23, 1, 0)), (.inr (.inr (.inr 6))), zIA, (.inl (1, 23, 1, 0))], [(.inl (0, 19, 0, 0)), (.inl (0, 19, 0, 0)), (.inl ((-2147483648), 2147483647, 0, 4))]),
  (136, [(.inl 36), (.inr (24, 1)), (.inl 26), (.inr (24, 4)), (.inl 27)], (0, 0), [(.inr (.inr (.inl (44, 44)))), (.inl (0, 23, 1, 0)), (.inr (.inr (.inr 6))), zIA, (.inl (1, 23, 1, 0))], [(.inl ((-2147483648), 2147483647, 0, 4))]),
  (137, [(.inl 36), (.inr (24, 1)), (.inl 26), (.inr (24, 4)), (.inl 26)], (0, 0), [(.inr (.inr (.inl (44, 44)))), (.inl (0, 23, 1, 0)), (.inr (.inr (.inr 6))), zIA, (.inl (1, 23, 1, 0))], [(.inr (.inr (.inl (44, 44)))), (.inl ((-2147483648), 2147483647, 0, 4))]),
  (140, [(.inl 36), (.inr (24, 1)), (.inl 26), (.inr (24, 4)), (.inl 25)], (0, 0), [(.inr (.inr (.inl (44, 44)))), (.inl (0, 23, 1, 0)), (.inr (.inr (.inr 6))), zIA, (.inl (1, 23, 1, 0))], [(.inr (.inr (.inr 8))), (.inl ((-2147483648), 2147483647, 0, 4))]),
  (142, [(.inl 36), (.inr (24, 1)), (.inl 26), (.inr (24, 4)), (.inl 24)], (0, 0), [(.inr (.inr (.inl (44, 44)))), (.inl (0, 23, 1, 0)), (.inr (.inr (.inr 6))), zIA, (.inl (1, 23, 1, 0))], [(.inl (1, 23, 1, 5)), (.inr (.inr (.inr 8))), (.inl ((-2147483648), 2147483647, 0, 4))]),
  (147, [(.inl 36), (.inr (24, 1)), (.inl 26), (.inr (24, 4)), (.inl 23)], (0, 0), [(.inr (.inr (.inl (44, 44)))), (.inl (0, 23, 1, 0)), (.inr (.inr (.inr 6))), zIA, (.inl (1, 23, 1, 0))], [(.inr (.inr (.inr 6))), (.inl ((-2147483648), 2147483647, 0, 4))]),
  (150, [(.inl 36), (.inr (24, 1)), (.inl 26), (.inr (24, 4)), (.inl 22)], (0, 0), [(.inr (.inr (.inl (44, 44)))), (.inl (0, 23, 1, 0)), (.inr (.inr (.inr 6))), zIA, (.inl (1, 23, 1, 0))], [(.inr (.inr (.inr 6))), (.inl ((-2147483648), 2147483647, 0, 4))]),
  (151, [(.inl 36), (.inr (24, 1)), (.inl 26), (.inr (24, 4)), (.inl 21)], (0, 0), [(.inr (.inr (.inl (44, 44)))), (.inl (0, 23, 1, 0)), (.inr (.inr (.inr 6))), zIA, (.inl (1, 23, 1, 0))], [(.inl (1, 1, 0, 0)), (.inr (.inr (.inr 6))), (.inl ((-2147483648), 2147483647, 0, 4))]),
  (152, [(.inl 36), (.inr (24, 1)), (.inl 26), (.inr (24, 4)), (.inl 20)], (0, 0), [(.inr (.inr (.inl (44, 44)))), (.inl (0, 23, 1, 0)), (.inr (.inr (.inr 6))), zIA, (.inl (1, 23, 1, 0))], [(.inl (0, 7, 0, 0)), (.inl ((-2147483648), 2147483647, 0, 4))]),
  (153, [(.inl 36), (.inr (24, 1)), (.inl 26), (.inr (24, 4)), (.inl 19)], (0, 0), [(.inr (.inr (.inl (44, 44)))), (.inl (0, 23, 1, 0)), (.inr (.inr (.inr 6))), zIA, (.inl (1, 23, 1, 0))], [(.inr (.inr (.inr 6))), (.inl (0, 7, 0, 0)), (.inl ((-2147483648), 2147483647, 0, 4))]),
  (154, [(.inl 36), (.inr (24, 1)), (.inl 26), (.inr (24, 4)), (.inl 18)], (0, 0), [(.inr (.inr (.inl (44, 44)))), (.inl (0, 23, 1, 0)), (.inr (.inr (.inr 6))), zIA, (.inl (1, 23, 1, 0))], [(.inl (1, 1, 0, 0)), (.inr (.inr (.inr 6))), (.inl (0, 7, 0, 0)), (.inl ((-2147483648), 2147483647, 0, 4))]),
  (155, [(.inl 36), (.inr (24, 1)), (.inl 26), (.inr (24, 4)), (.inl 17)], (0, 0), [(.inr (.inr (.inl (44, 44)))), (.inl (0, 23, 1, 0)), (.inr (.inr (.inr 6))), zIA, (.inl (1, 23, 1, 0))], [(.inl (0, 7, 0, 0)), (.inl (0, 7, 0, 0)), (.inl ((-2147483648), 2147483647, 0, 4))]),
  (158, [(.inl 36), (.inr (24, 1)), (.inl 26), (.inr (24, 4)), (.inl 16)], (0, 0), [(.inr (.inr (.inl (44, 44)))), (.inl (0, 23, 1, 0)), (.inr (.inr (.inr 6))), zIA, (.inl (1, 23, 1, 0))], [(.inl ((-2147483648), 2147483647, 0, 4))]),
  (159, [(.inl 36), (.inr (24, 1)), (.inl 26), (.inr (24, 4)), (.inl 15)], (0, 0), [(.inr (.inr (.inl (44, 44)))), (.inl (0, 23, 1, 0)), (.inr (.inr (.inr 6))), zIA, (.inl (1, 23, 1, 0))], [(.inr (.inr (.inl (44, 44)))), (.inl ((-2147483648), 2147483647, 0, 4))]),
  (162, [(.inl 36), (.inr (24, 1)), (.inl 26), (.inr (24, 4)), (.inl 14)], (0, 0), [(.inr (.inr (.inl (44, 44)))), (.inl (0, 23, 1, 0)), (.inr (.inr (.inr 6))), zIA, (.inl (1, 23, 1, 0))], [(.inr (.inr (.inr 8))), (.inl ((-2147483648), 2147483647, 0, 4))]),
  (164, [(.inl 36), (.inr (24, 1)), (.inl 26), (.inr (24, 4)), (.inl 13)], (0, 0), [(.inr (.inr (.inl (44, 44)))), (.inl (0, 23, 1, 0)), (.inr (.inr (.inr 6))), zIA, (.inl (1, 23, 1, 0))], [(.inl (1, 23, 1, 5)), (.inr (.inr (.inr 8))), (.inl ((-2147483648), 2147483647, 0, 4))]),
  (169, [(.inl 36), (.inr (24, 1)), (.inl 26), (.inr (24, 4)), (.inl 12)], (0, 0), [(.inr (.inr (.inl (44, 44)))), (.inl (0, 23, 1, 0)), (.inr (.inr (.inr 6))), zIA, (.inl (1, 23, 1, 0))], [(.inr (.inr (.inr 6))), (.inl ((-2147483648), 2147483647, 0, 4))]),
  (172, [(.inl 36), (.inr (24, 1)), (.inl 26), (.inr (24, 4)), (.inl 11)], (0, 0), [(.inr (.inr (.inl (44, 44)))), (.inl (0, 23, 1, 0)), (.inr (.inr (.inr 6))), zIA, (.inl (1, 23, 1, 0))], [(.inr (.inr (.inr 6))), (.inl ((-2147483648), 2147483647, 0, 4))]),
  (173, [(.inl 36), (.inr (24, 1)), (.inl 26), (.inr (24, 4)), (.inl 10)], (0, 0), [(.inr (.inr (.inl (44, 44)))), (.inl (0, 23, 1, 0)), (.inr (.inr (.inr 6))), zIA, (.inl (1, 23, 1, 0))], [(.inl (2, 2, 0, 0)), (.inr (.inr (.inr 6))), (.inl ((-2147483648), 2147483647, 0, 4))]),
  (174, [(.inl 36), (.inr (24, 1)), (.inl 26), (.inr (24, 4)), (.inl 9)], (0, 0), [(.inr (.inr (.inl (44, 44)))), (.inl (0, 23, 1, 0)), (.inr (.inr (.inr 6))), zIA, (.inl (1, 23, 1, 0))], [zIA, (.inl ((-2147483648), 2147483647, 0, 4))]),
  (175, [(.inl 36), (.inr (24, 1)), (.inl 26), (.inr (24, 4)), (.inl 8)], (0, 0), [(.inr (.inr (.inl (44, 44)))), (.inl (0, 23, 1, 0)), (.inr (.inr (.inr 6))), zIA, (.inl (1, 23, 1, 0))], [(.inr (.inr (.inr 6))), zIA, (.inl ((-2147483648), 2147483647, 0, 4))]),
  (176, [(.inl 36), (.inr (24, 1)), (.inl 26), (.inr (24, 4)), (.inl 7)], (0, 0), [(.inr (.inr (.inl (44, 44)))), (.inl (0, 23, 1, 0)), (.inr (.inr (.inr 6))), zIA, (.inl (1, 23, 1, 0))], [(.inl (2, 2, 0, 0)), (.inr (.inr (.inr 6))), zIA, (.inl ((-2147483648), 2147483647, 0, 4))]),
  (177, [(.inl 36), (.inr (24, 1)), (.inl 26), (.inr (24, 4)), (.inl 6)], (0, 0), [(.inr (.inr (.inl (44, 44)))), (.inl (0, 23, 1, 0)), (.inr (.inr (.inr 6))), zIA, (.inl (1, 23, 1, 0))], [zIA, zIA, (.inl ((-2147483648), 2147483647, 0, 4))]),
  (180, [(.inl 36), (.inr (24, 1)), (.inl 26), (.inr (24, 4)), (.inl 4)], (0, 0), [(.inr (.inr (.inl (44, 44)))), (.inl (0, 23, 1, 0)), (.inr (.inr (.inr 6))), zIA, (.inl (1, 23, 1, 0))], [(.inl ((-2147483648), 2147483647, 0, 4))]),
  (181, [(.inl 36), (.inr (24, 1)), (.inl 26), (.inr (24, 4)), (.inl 3)], (0, 0), [(.inr (.inr (.inl (44, 44)))), (.inl (0, 23, 1, 0)), (.inr (.inr (.inr 6))), zIA, (.inl (1, 23, 1, 0))], [(.inl (1, 1, 0, 0)), (.inl ((-2147483648), 2147483647, 0, 4))]),
  (184, [(.inl 36), (.inr (24, 1)), (.inl 26), (.inr (24, 4)), (.inl 5)], (0, 0), [(.inr (.inr (.inl (44, 44)))), (.inl (0, 23, 1, 0)), (.inr (.inr (.inr 6))), zIA, (.inl (1, 23, 1, 0))], [(.inl ((-2147483648), 2147483647, 0, 4))]),
  (185, [(.inl 36), (.inr (24, 1)), (.inl 26), (.inr (24, 4)), (.inl 2)], (0, 0), [(.inr (.inr (.inl (44, 44)))), (.inl (0, 23, 1, 0)), (.inr (.inr (.inr 6))), zIA, (.inl (1, 23, 1, 0))], [(.inl (0, 1, 0, 0)), (.inl ((-2147483648), 2147483647, 0, 4))]),
  (186, [(.inl 36), (.inr (24, 1)), (.inl 26), (.inr (24, 4)), (.inl 1)], (0, 0), [(.inr (.inr (.inl (44, 44)))), (.inl (0, 23, 1, 0)), (.inr (.inr (.inr 6))), zIA, (.inl (1, 23, 1, 0))], [zIA]),
  (187, [(.inl 36), (.inr (24, 1)), (.inl 26), (.inr (24, 4)), (.inl 0)], (0, 0), [(.inr (.inr (.inl (44, 44)))), (.inl (0, 23, 1, 0)), (.inr (.inr (.inr 6))), zIA, (.inl (1, 23, 1, 0))], []),
  (190, [(.inl 36), (.inr (24, 1)), (.inl 26), (.inr (24, 4)), (.inl 45)], (0, 0), [(.inr (.inr (.inl (44, 44)))), (.inl (0, 23, 1, 0)), (.inr (.inr (.inr 6))), zIA, (.inl (2, 24, 0, 0))], []),
  (193, [(.inl 36), (.inr (24, 1)), (.inl 25), (.inl 0), (.inl 0)], (0, 0), [(.inr (.inr (.inl (44, 44)))), (.inl (0, 23, 1, 0)), (.inr (.inr (.inr 6))), zIA, (.inl (1, 24, 0, 0))], []),
  (194, [(.inl 36), (.inr (24, 1)), (.inl 24), (.inl 0), (.inl 0)], (0, 0), [(.inr (.inr (.inl (44, 44)))), (.inl (0, 23, 1, 0)), (.inr (.inr (.inr 6))), zIA, (.inl (1, 24, 0, 0))], [(.inl ((-2147483648), 2147483647, 0, 4))]),
  (197, [(.inl 36), (.inr (24, 1)), (.inl 23), (.inl 0), (.inl 0)], (0, 0), [(.inr (.inr (.inl (44, 44)))), (.inl (0, 23, 1, 0)), (.inr (.inr (.inr 6))), zIA, (.inl (1, 24, 0, 0))], []),
  (198, [(.inl 36), (.inr (24, 1)), (.inl 22), (.inl 0), (.inl 0)], (0, 0), [(.inr (.inr (.inl (44, 44)))), (.inl (0, 23, 1, 0)), (.inr (.inr (.inr 6))), zIA, (.inl (1, 24, 0, 0))], [(.inr (.inr (.inl (44, 44))))]),
  (201, [(.inl 36), (.inr (24, 1)), (.inl 21), (.inl 0), (.inl 0)], (0, 0), [(.inr (.inr (.inl (44, 44)))), (.inl (0, 23, 1, 0)), (.inr (.inr (.inr 6))), zIA, (.inl (1, 24, 0, 0))], [(.inr (.inr (.inl (46, 46))))]),
  (202, [(.inl 36), (.inr (24, 1)), (.inl 20), (.inl 0), (.inl 0)], (0, 0), [(.inr (.inr (.inl (44, 44)))), (.inl (0, 23, 1, 0)), (.inr (.inr (.inr 6))), zIA, (.inl (1, 24, 0, 0))], [(.inr (.inr (.inr 6))), (.inr (.inr (.inl (46, 46))))]),
  (203, [(.inl 36), (.inr (24, 1)), (.inl 19), (.inl 0), (.inl 0)], (0, 0), [(.inr (.inr (.inl (44, 44)))), (.inl (0, 23, 1, 0)), (.inr (.inr (.inr 6))), zIA, (.inl (1, 24, 0, 0))], [(.inl (0, 0, 0, 0)), (.inr (.inr (.inr 6))), (.inr (.inr (.inl (46, 46))))]),
  (204, [(.inl 36), (.inr (24, 1)), (.inl 18), (.inl 0), (.inl 0)], (0, 0), [(.inr (.inr (.inl (44, 44)))), (.inl (0, 23, 1, 0)), (.inr (.inr (.inr 6))), zIA, (.inl (1, 24, 0, 0))], [(.inl (0, 19, 0, 0)), (.inr (.inr (.inl (46, 46))))]),
  (205, [(.inl 36), (.inr (24, 1)), (.inl 17), (.inl 0), (.inl 0)], (0, 0), [(.inr (.inr (.inl (44, 44)))), (.inl (0, 23, 1, 0)), (.inr (.inr (.inr 6))), zIA, (.inl (1, 24, 0, 0))], [(.inr (.inr (.inl (47, 66))))]),
  (206, [(.inl 36), (.inr (24, 1)), (.inl 16), (.inl 0), (.inl 0)], (0, 0), [(.inr (.inr (.inl (44, 44)))), (.inl (0, 23, 1, 0)), (.inr (.inr (.inr 6))), zIA, (.inl (1, 24, 0, 0))], [(.inr (.inr (.inr 6))), (.inr (.inr (.inl (47, 66))))]),
  (207, [(.inl 36), (.inr (24, 1)), (.inl 15), (.inl 0), (.inl 0)], (0, 0), [(.inr (.inr (.inl (44, 44)))), (.inl (0, 23, 1, 0)), (.inr (.inr (.inr 6))), zIA, (.inl (1, 24, 0, 0))], [(.inl (1, 1, 0, 0)), (.inr (.inr (.inr 6))), (.inr (.inr (.inl (47, 66))))]),
  (208, [(.inl 36), (.inr (24, 1)), (.inl 14), (.inl 0), (.inl 0)], (0, 0), [(.inr (.inr (.inl (44, 44)))), (.inl (0, 23, 1, 0)), (.inr (.inr (.inr 6))), zIA, (.inl (1, 24, 0, 0))], [(.inl (0, 7, 0, 0)), (.inr (.inr (.inl (47, 66))))]),
  (209, [(.inl 36), (.inr (24, 1)), (.inl 13), (.inl 0), (.inl 0)], (0, 0), [(.inr (.inr (.inl (44, 44)))), (.inl (0, 23, 1, 0)), (.inr (.inr (.inr 6))), zIA, (.inl (1, 24, 0, 0))], [zIA]),
  (210, [(.inl 36), (.inr (24, 1)), (.inl 12), (.inl 0), (.inl 0)], (0, 0), [(.inr (.inr (.inl (44, 44)))), (.inl (0, 23, 1, 0)), (.inr (.inr (.inr 6))), zIA, (.inl (1, 24, 0, 0))], [(.inr (.inr (.inr 6))), zIA]),
  (211, [(.inl 36), (.inr (24, 1)), (.inl 11), (.inl 0), (.inl 0)], (0, 0), [(.inr (.inr (.inl (44, 44)))), (.inl (0, 23, 1, 0)), (.inr (.inr (.inr 6))), zIA, (.inl (1, 24, 0, 0))], [(.inl (2, 2, 0, 0)), (.inr (.inr (.inr 6))), zIA]),
  (212, [(.inl 36), (.inr (24, 1)), (.inl 10), (.inl 0), (.inl 0)], (0, 0), [(.inr (.inr (.inl (44, 44)))), (.inl (0, 23, 1, 0)), (.inr (.inr (.inr 6))), zIA, (.inl (1, 24, 0, 0))], [zIA, zIA]),
  (215, [(.inl 36), (.inr (24, 1)), (.inl 9), (.inl 0), (.inl 0)], (0, 0), [(.inr (.inr (.inl (44, 44)))), (.inl (0, 23, 1, 0)), (.inr (.inr (.inr 6))), zIA, (.inl (1, 24, 0, 0))], [(.inl (0, 1, 0, 0))]),
  (216, [(.inl 36), (.inr (24, 1)), (.inl 8), (.inl 0), (.inl 0)], (0, 0), [(.inr (.inr (.inl (44, 44)))), (.inl (0, 23, 1, 0)), (.inr (.inr (.inr 6))), zIA, (.inl (1, 24, 0, 0))], [(.inr (.inr (.inr 6))), (.inl (0, 1, 0, 0))]),
  (217, [(.inl 36), (.inr (24, 1)), (.inl 7), (.inl 0), (.inl 0)], (0, 0), [(.inr (.inr (.inl (44, 44)))), (.inl (0, 23, 1, 0)), (.inr (.inr (.inr 6))), zIA, (.inl (1, 24, 0, 0))], [(.inl (3, 3, 0, 0)), (.inr (.inr (.inr 6))), (.inl (0, 1, 0, 0))]),
  (218, [(.inl 36), (.inr (24, 1)), (.inl 6), (.inl 0), (.inl 0)], (0, 0), [(.inr (.inr (.inl (44, 44)))), (.inl (0, 23, 1, 0)), (.inr (.inr (.inr 6))), zIA, (.inl (1, 24, 0, 0))], [zIA, (.inl (0, 1, 0, 0))]),
  (219, [(.inl 36), (.inr (24, 1)), (.inl 5), (.inl 0), (.inl 0)], (0, 0), [(.inr (.inr (.inl (44, 44)))), (.inl (0, 23, 1, 0)), (.inr (.inr (.inr 6))), zIA, (.inl (1, 24, 0, 0))], [(.inl (1, 1, 0, 0)), zIA, (.inl (0, 1, 0, 0))]),
  (222, [(.inl 36), (.inr (24, 1)), (.inl 4), (.inl 0), (.inl 0)], (0, 0), [(.inr (.inr (.inl (44, 44)))), (.inl (0, 23, 1, 0)), (.inr (.inr (.inr 6))), zIA, (.inl (1, 24, 0, 0))], [(.inl (0, 1, 0, 0))]),
  (223, [(.inl 36), (.inr (24, 1)), (.inl 3), (.inl 0), (.inl 0)], (0, 0), [(.inr (.inr (.inl (44, 44)))), (.inl (0, 23, 1, 0)), (.inr (.inr (.inr 6))), zIA, (.inl (1, 24, 0, 0))], [(.inl (1, 1, 0, 0)), (.inl (0, 1, 0, 0))]),
  (226, [(.inl 36), (.inr (24, 1)), (.inl 2), (.inl 0), (.inl 0)], (0, 0), [(.inr (.inr (.inl (44, 44)))), (.inl (0, 23, 1, 0)), (.inr (.inr (.inr 6))), zIA, (.inl (1, 24, 0, 0))], [(.inl (0, 1, 0, 0))]),
  (227, [(.inl 36), (.inr (24, 1)), (.inl 1), (.inl 0), (.inl 0)], (0, 0), [(.inr (.inr (.inl (44, 44)))), (.inl (0, 23, 1, 0)), (.inr (.inr (.inr 6))), zIA, (.inl (1, 24, 0, 0))], [(.inl (0, 1, 0, 0)), (.inl (0, 1, 0, 0))]),
  (230, [(.inl 35), (.inl 0), (.inl 0), (.inl 0), (.inl 0)], (0, 0), [(.inr (.inr (.inl (44, 44)))), (.inl (0, 23, 1, 0)), (.inr (.inr (.inr 6))), zIA, (.inl (1, 24, 0, 0))], []),
  (231, [(.inl 34), (.inl 0), (.inl 0), (.inl 0), (.inl 0)], (0, 0), [(.inr (.inr (.inl (44, 44)))), (.inl (0, 23, 1, 0)), (.inr (.inr (.inr 6))), zIA, (.inl (1, 24, 0, 0))], [(.inl (0, 0, 0, 0))]),
  (232, [(.inl 36), (.inr (24, 1)), (.inl 0), (.inl 0), (.inl 0)], (0, 0), [(.inr (.inr (.inl (44, 44)))), (.inl (0, 23, 1, 0)), (.inr (.inr (.inr 6))), zIA, (.inl (1, 24, 0, 0))], []),
  (235, [(.inl 36), (.inr (24, 1)), (.inl 44), (.inl 0), (.inl 0)], (0, 0), [(.inr (.inr (.inl (44, 44)))), (.inl (1, 24, 0, 0)), (.inr (.inr (.inr 6))), zIA, (.inl (1, 24, 0, 0))], []),
  (238, [(.inl 33), (.inl 0), (.inl 0), (.inl 0), (.inl 0)], (0, 0), [(.inr (.inr (.inl (44, 44)))), (.inl (0, 24, 0, 0)), (.inr (.inr (.inr 0))), (.inr (.inr (.inr 0))), (.inr (.inr (.inr 0)))], []),
  (239, [(.inl 32), (.inl 0), (.inl 0), (.inl 0), (.inl 0)], (0, 0), [(.inr (.inr (.inl (44, 44)))), (.inl (0, 24, 0, 0)), (.inr (.inr (.inr 0))), (.inr (.inr (.inr 0))), (.inr (.inr (.inr 0)))], [(.inl (0, 0, 0, 0))]),
  (240, [(.inl 31), (.inr (16, 1)), (.inl 8), (.inl 0), (.inl 0)], (0, 0), [(.inr (.inr (.inl (44, 44)))), (.inl (0, 16, 0, 0)), (.inr (.inr (.inr 0))), (.inr (.inr (.inr 0))), (.inr (.inr (.inr 0)))], []),
  (241, [(.inl 31), (.inr (16, 1)), (.inl 7), (.inl 0), (.inl 0)], (0, 0), [(.inr (.inr (.inl (44, 44)))), (.inl (0, 16, 0, 0)), (.inr (.inr (.inr 0))), (.inr (.inr (.inr 0))), (.inr (.inr (.inr 0)))], [(.inl (0, 16, 0, 2))]),
  (242, [(.inl 31), (.inr (16, 1)), (.inl 6), (.inl 0), (.inl 0)], (0, 0), [(.inr (.inr (.inl (44, 44)))), (.inl (0, 16, 0, 0)), (.inr (.inr (.inr 0))), (.inr (.inr (.inr 0))), (.inr (.inr (.inr 0)))], [(.inr (.inr (.inl (44, 44)))), (.inl (0, 16, 0, 2))]),
  (245, [(.inl 31), (.inr (16, 1)), (.inl 5), (.inl 0), (.inl 0)], (0, 0), [(.inr (.inr (.inl (44, 44)))), (.inl (0, 16, 0, 0)), (.inr (.inr (.inr 0))), (.inr (.inr (.inr 0))), (.inr (.inr (.inr 0)))], [(.inr (.inr (.inl (69, 69)))), (.inl (0, 16, 0, 2))]),
  (246, [(.inl 31), (.inr (16, 1)), (.inl 4), (.inl 0), (.inl 0)], (0, 0), [(.inr (.inr (.inl (44, 44)))), (.inl (0, 16, 0, 0)), (.inr (.inr (.inr 0))), (.inr (.inr (.inr 0))), (.inr (.inr (.inr 0)))], [(.inl (16, 16, 0, 0)), (.inl (0, 16, 0, 2))]),
  (249, [(.inl 31), (.inr (16, 1)), (.inl 3), (.inl 0), (.inl 0)], (0, 0), [(.inr (.inr (.inl (44, 44)))), (.inl (0, 15, 0, 0)), (.inr (.inr (.inr 0))), (.inr (.inr (.inr 0))), (.inr (.inr (.inr 0)))], []),
  (250, [(.inl 31), (.inr (16, 1)), (.inl 2), (.inl 0), (.inl 0)], (0, 0), [(.inr (.inr (.inl (44, 44)))), (.inl (0, 15, 0, 0)), (.inr (.inr (.inr 0))), (.inr (.inr (.inr 0))), (.inr (.inr (.inr 0)))], [(.inl (0, 0, 0, 0))]),
  (251, [(.inl 31), (.inr (16, 1)), (.inl 1), (.inr (15, 2)), (.inl 12)], (0, 0), [(.inr (.inr (.inl (44, 44)))), (.inl (0, 15, 0, 0)), (.inl (0, 15, 0, 0)), (.inr (.inr (.inr 0))), (.inr (.inr (.inr 0)))], []),
  (252, [(.inl 31), (.inr (16, 1)), (.inl 1), (.inr (15, 2)), (.inl 11)], (0, 0), [(.inr (.inr (.inl (44, 44)))), (.inl (0, 15, 0, 0)), (.inl (0, 15, 0, 0)), (.inr (.inr (.inr 0))), (.inr (.inr (.inr 0)))], [(.inl (0, 15, 0, 3))]),
  (253, [(.inl 31), (.inr (16, 1)), (.inl 1), (.inr (15, 2)), (.inl 10)], (0, 0), [(.inr (.inr (.inl (44, 44)))), (.inl (0, 15, 0, 0)), (.inl (0, 15, 0, 0)), (.inr (.inr (.inr 0))), (.inr (.inr (.inr 0)))], [(.inl (0, 15, 0, 2)), (.inl (0, 15, 0, 3))]),
  (256, [(.inl 31), (.inr (16, 1)), (.inl 1), (.inr (15, 2)), (.inl 9)], (0, 0), [(.inr (.inr (.inl (44, 44)))), (.inl (1, 15, 0, 0)), (.inl (0, 14, 0, 0)), (.inr (.inr (.inr 0))), (.inr (.inr (.inr 0)))], []),
  (257, [(.inl 31), (.inr (16, 1)), (.inl 1), (.inr (15, 2)), (.inl 8)], (0, 0), [(.inr (.inr (.inl (44, 44)))), (.inl (1, 15, 0, 0)), (.inl (0, 14, 0, 0)), (.inr (.inr (.inr 0))), (.inr (.inr (.inr 0)))], [(.inr (.inr (.inl (44, 44))))]),
  (260, [(.inl 31), (.inr (16, 1)), (.inl 1), (.inr (15, 2)), (.inl 7)], (0, 0), [(.inr (.inr (.inl (44, 44)))), (.inl (1, 15, 0, 0)), (.inl (0, 14, 0, 0)), (.inr (.inr (.inr 0))), (.inr (.inr (.inr 0)))], [(.inr (.inr (.inl (69, 69))))]),
  (261, [(.inl 31), (.inr (16, 1)), (.inl 1), (.inr (15, 2)), (.inl 6)], (0, 0), [(.inr (.inr (.inl (44, 44)))), (.inl (1, 15, 0, 0)), (.inl (0, 14, 0, 0)), (.inr (.inr (.inr 0))), (.inr (.inr (.inr 0)))], [(.inl (1, 15, 0, 2)), (.inr (.inr (.inl (69, 69))))]),
  (262, [(.inl 31), (.inr (16, 1)), (.inl 1), (.inr (15, 2)), (.inl 5)], (0, 0), [(.inr (.inr (.inl (44, 44)))), (.inl (1, 15, 0, 0)), (.inl (0, 14, 0, 0)), (.inr (.inr (.inr 0))), (.inr (.inr (.inr 0)))], [(.inl (0, 19, 0, 0))]),
  (263, [(.inl 31), (.inr (16, 1)), (.inl 1), (.inr (15, 2)), (.inl 4)], (0, 0), [(.inr (.inr (.inl (44, 44)))), (.inl (1, 15, 0, 0)), (.inl (0, 14, 0, 0)), (.inr (.inr (.inr 0))), (.inr (.inr (.inr 0)))], [(.inr (.inr (.inl (44, 44)))), (.inl (0, 19, 0, 0))]),
  (266, [(.inl 31), (.inr (16, 1)), (.inl 1), (.inr (15, 2)), (.inl 3)], (0, 0), [(.inr (.inr (.inl (44, 44)))), (.inl (1, 15, 0, 0)), (.inl (0, 14, 0, 0)), (.inr (.inr (.inr 0))), (.inr (.inr (.inr 0)))], [(.inr (.inr (.inl (69, 69)))), (.inl (0, 19, 0, 0))]),
  (267, [(.inl 31), (.inr (16, 1)), (.inl 1), (.inr (15, 2)), (.inl 2)], (0, 0), [(.inr (.inr (.inl (44, 44)))), (.inl (1, 15, 0, 0)), (.inl (0, 14, 0, 0)), (.inr (.inr (.inr 0))), (.inr (.inr (.inr 0)))], [(.inl (0, 14, 0, 3)), (.inr (.inr (.inl (69, 69)))), (.inl (0, 19, 0, 0))]),
  (268, [(.inl 31), (.inr (16, 1)), (.inl 1), (.inr (15, 2)), (.inl 1)], (0, 0), [(.inr (.inr (.inl (44, 44)))), (.inl (1, 15, 0, 0)), (.inl (0, 14, 0, 0)), (.inr (.inr (.inr 0))), (.inr (.inr (.inr 0)))], [(.inl (0, 19, 0, 0)), (.inl (0, 19, 0, 0))]),
  (271, [(.inl 30), (.inl 0), (.inl 0), (.inl 0), (.inl 0)], (0, 0), [(.inr (.inr (.inl (44, 44)))), (.inl (1, 15, 0, 0)), (.inl (0, 14, 0, 0)), (.inr (.inr (.inr 0))), (.inr (.inr (.inr 0)))], []),
  (272, [(.inl 29), (.inl 0), (.inl 0), (.inl 0), (.inl 0)], (0, 0), [(.inr (.inr (.inl (44, 44)))), (.inl (1, 15, 0, 0)), (.inl (0, 14, 0, 0)), (.inr (.inr (.inr 0))), (.inr (.inr (.inr 0)))], [(.inl (0, 0, 0, 0))]),
  (273, [(.inl 31), (.inr (16, 1)), (.inl 1), (.inr (15, 2)), (.inl 0)], (0, 0), [(.inr (.inr (.inl (44, 44)))), (.inl (1, 15, 0, 0)), (.inl (0, 14, 0, 0)), (.inr (.inr (.inr 0))), (.inr (.inr (.inr 0)))], []),
  (276, [(.inl 31), (.inr (16, 1)), (.inl 1), (.inr (15, 2)), (.inl 13)], (0, 0), [(.inr (.inr (.inl (44, 44)))), (.inl (1, 15, 0, 0)), (.inl (1, 15, 0, 0)), (.inr (.inr (.inr 0))), (.inr (.inr (.inr 0)))], []),
  (279, [(.inl 31), (.inr (16, 1)), (.inl 0), (.inl 0), (.inl 0)], (0, 0), [(.inr (.inr (.inl (44, 44)))), (.inl (0, 15, 0, 0)), (.inl (0, 15, 0, 0)), (.inr (.inr (.inr 0))), (.inr (.inr (.inr 0)))], []),
  (282, [(.inl 31), (.inr (16, 1)), (.inl 9), (.inl 0), (.inl 0)], (0, 0), [(.inr (.inr (.inl (44, 44)))), (.inl (1, 16, 0, 0)), (.inl (0, 15, 0, 0)), (.inr (.inr (.inr 0))), (.inr (.inr (.inr 0)))], []),
  (285, [(.inl 28), (.inl 0), (.inl 0), (.inl 0), (.inl 0)], (0, 0), [(.inr (.inr (.inl (44, 44)))), (.inl (16, 16, 0, 0)), (.inr (.inr (.inr 0))), (.inr (.inr (.inr 0))), (.inr (.inr (.inr 0)))], []),
  (286, [(.inl 27), (.inl 0), (.inl 0), (.inl 0), (.inl 0)], (0, 0), [(.inr (.inr (.inl (44, 44)))), (.inl (16, 16, 0, 0)), (.inr (.inr (.inr 0))), (.inr (.inr (.inr 0))), (.inr (.inr (.inr 0)))], [(.inr (.inr (.inl (44, 44))))]),
  (289, [(.inl 26), (.inl 0), (.inl 0), (.inl 0), (.inl 0)], (0, 0), [(.inr (.inr (.inl (44, 44)))), (.inl (16, 16, 0, 0)), (.inr (.inr (.inr 0))), (.inr (.inr (.inr 0))), (.inr (.inr (.inr 0)))], [(.inr (.inr (.inl (67, 67))))]),
  (290, [(.inl 25), (.inl 0), (.inl 0), (.inl 0), (.inl 0)], (0, 0), [(.inr (.inr (.inl (44, 44)))), (.inr (.inr (.inl (67, 67)))), (.inr (.inr (.inr 0))), (.inr (.inr (.inr 0))), (.inr (.inr (.inr 0)))], []),
  (291, [(.inl 24), (.inl 0), (.inl 0), (.inl 0), (.inl 0)], (0, 0), [(.inr (.inr (.inl (44, 44)))), (.inr (.inr (.inl (67, 67)))), (.inr (.inr (.inr 0))), (.inr (.inr (.inr 0))), (.inr (.inr (.inr 0)))], [(.inr (.inr (.inl (67, 67))))]),
  (292, [(.inl 23), (.inl 0), (.inl 0), (.inl 0), (.inl 0)], (0, 0), [(.inr (.inr (.inl (44, 44)))), (.inr (.inr (.inl (67, 67)))), (.inr (.inr (.inr 0))), (.inr (.inr (.inr 0))), (.inr (.inr (.inr 0)))], [(.inl (20, 20, 0, 0))]),
  (293, [(.inl 22), (.inl 0), (.inl 0), (.inl 0), (.inl 0)], (0, 0), [(.inr (.inr (.inl (44, 44)))), (.inr (.inr (.inl (67, 67)))), (.inl (20, 20, 0, 0)), (.inr (.inr (.inr 0))), (.inr (.inr (.inr 0)))], []),
  (294, [(.inl 21), (.inl 0), (.inl 0), (.inl 0), (.inl 0)], (0, 0), [(.inr (.inr (.inl (44, 44)))), (.inr (.inr (.inl (67, 67)))), (.inl (20, 20, 0, 0)), (.inr (.inr (.inr 0))), (.inr (.inr (.inr 0)))], [(.inl (0, 0, 0, 0))]),
  (295, [(.inl 20), (.inr (20, 3)), (.inl 9), (.inl 0), (.inl 0)], (0, 0), [(.inr (.inr (.inl (44, 44)))), (.inr (.inr (.inl (67, 67)))), (.inl (20, 20, 0, 0)), (.inl (0, 20, 0, 0)), (.inr (.inr (.inr 0)))], []),
  (296, [(.inl 20), (.inr (20, 3)), (.inl 8), (.inl 0), (.inl 0)], (0, 0), [(.inr (.inr (.inl (44, 44)))), (.inr (.inr (.inl (67, 67)))), (.inl (20, 20, 0, 0)), (.inl (0, 20, 0, 0)), (.inr (.inr (.inr 0)))], [(.inl (0, 20, 0, 4))]),
  (297, [(.inl 20), (.inr (20, 3)), (.inl 7), (.inl 0), (.inl 0)], (0, 0), [(.inr (.inr (.inl (44, 44)))), (.inr (.inr (.inl (67, 67)))), (.inl (20, 20, 0, 0)), (.inl (0, 20, 0, 0)), (.inr (.inr (.inr 0)))], [(.inl (20, 20, 0, 3)), (.inl (0, 20, 0, 4))]),
  (300, [(.inl 20), (.inr (20, 3)), (.inl 6), (.inl 0), (.inl 0)], (0, 0), [(.inr (.inr (.inl (44, 44)))), (.inr (.inr (.inl (67, 67)))), (.inl (20, 20, 0, 0)), (.inl (0, 19, 0, 0)), (.inr (.inr (.inr 0)))], []),
  (301, [(.inl 20), (.inr (20, 3)), (.inl 5), (.inl 0), (.inl 0)], (0, 0), [(.inr (.inr (.inl (44, 44)))), (.inr (.inr (.inl (67, 67)))), (.inl (20, 20, 0, 0)), (.inl (0, 19, 0, 0)), (.inr (.inr (.inr 0)))], [(.inr (.inr (.inl (67, 67))))]),
  (302, [(.inl 20), (.inr (20, 3)), (.inl 4), (.inl 0), (.inl 0)], (0, 0), [(.inr (.inr (.inl (44, 44)))), (.inr (.inr (.inl (67, 67)))), (.inl (20, 20, 0, 0)), (.inl (0, 19, 0, 0)), (.inr (.inr (.inr 0)))], [(.inl (0, 19, 0, 4)), (.inr (.inr (.inl (67, 67))))]),
  (303, [(.inl 20), (.inr (20, 3)), (.inl 3), (.inl 0), (.inl 0)], (0, 0), [(.inr (.inr (.inl (44, 44)))), (.inr (.inr (.inl (67, 67)))), (.inl (20, 20, 0, 0)), (.inl (0, 19, 0, 0)), (.inr (.inr (.inr 0)))], [zIA]),
  (305, [(.inl 20), (.inr (20, 3)), (.inl 2), (.inl 0), (.inl 0)], (0, 0), [(.inr (.inr (.inl (44, 44)))), (.inr (.inr (.inl (67, 67)))), (.inl (20, 20, 0, 0)), (.inl (0, 19, 0, 0)), zIA], []),
  (307, [(.inl 20), (.inr (20, 3)), (.inl 1), (.inl 0), (.inl 0)], (0, 0), [(.inr (.inr (.inl (44, 44)))), (.inr (.inr (.inl (67, 67)))), (.inl (20, 20, 0, 0)), (.inl (0, 19, 0, 0)), zIA], [(.inl ((-2147483648), 2147483647, 0, 5))]),
  (310, [(.inl 19), (.inl 0), (.inl 0), (.inl 0), (.inl 0)], (0, 0), [(.inr (.inr (.inl (44, 44)))), (.inr (.inr (.inl (67, 67)))), (.inl (20, 20, 0, 0)), (.inl (0, 19, 0, 0)), (.inl ((-2147483648), (-1), 0, 0))], []),
  (311, [(.inl 18), (.inl 0), (.inl 0), (.inl 0), (.inl 0)], (0, 0), [(.inr (.inr (.inl (44, 44)))), (.inr (.inr (.inl (67, 67)))), (.inl (20, 20, 0, 0)), (.inl (0, 19, 0, 0)), (.inl ((-2147483648), (-1), 0, 0))], [(.inl (0, 0, 0, 0))]),
  (312, [(.inl 20), (.inr (20, 3)), (.inl 0), (.inl 0), (.inl 0)], (0, 0), [(.inr (.inr (.inl (44, 44)))), (.inr (.inr (.inl (67, 67)))), (.inl (20, 20, 0, 0)), (.inl (0, 19, 0, 0)), (.inl (0, 2147483647, 0, 0))], []),
  (315, [(.inl 20), (.inr (20, 3)), (.inl 10), (.inl 0), (.inl 0)], (0, 0), [(.inr (.inr (.inl (44, 44)))), (.inr (.inr (.inl (67, 67)))), (.inl (20, 20, 0, 0)), (.inl (1, 20, 0, 0)), (.inl (0, 2147483647, 0, 0))], []),
  (318, [(.inl 17), (.inl 0), (.inl 0), (.inl 0), (.inl 0)], (0, 0), [(.inr (.inr (.inl (44, 44)))), (.inr (.inr (.inl (67, 67)))), (.inl (20, 20, 0, 0)), (.inl (20, 20, 0, 0)), (.inr (.inr (.inr 0)))], []),
  (319, [(.inl 16), (.inl 0), (.inl 0), (.inl 0), (.inl 0)], (0, 0), [(.inr (.inr (.inl (44, 44)))), (.inr (.inr (.inl (67, 67)))), (.inl (20, 20, 0, 0)), (.inl (20, 20, 0, 0)), (.inr (.inr (.inr 0)))], [(.inr (.inr (.inl (44, 44))))]),
  (322, [(.inl 15), (.inl 0), (.inl 0), (.inl 0), (.inl 0)], (0, 0), [(.inr (.inr (.inl (44, 44)))), (.inr (.inr (.inl (67, 67)))), (.inl (20, 20, 0, 0)), (.inl (20, 20, 0, 0)), (.inr (.inr (.inr 0)))], [(.inr (.inr (.inr 10)))]),
  (327, [(.inl 14), (.inl 0), (.inl 0), (.inl 0), (.inl 0)], (0, 0), [(.inr (.inr (.inl (44, 44)))), (.inr (.inr (.inl (67, 67)))), (.inl (20, 20, 0, 0)), (.inl (20, 20, 0, 0)), (.inr (.inr (.inr 0)))], [(.inl (0, 40, 6, 0))]),
  (329, [(.inl 13), (.inl 0), (.inl 0), (.inl 0), (.inl 0)], (0, 0), [(.inr (.inr (.inl (44, 44)))), (.inr (.inr (.inl (67, 67)))), (.inl (20, 20, 0, 0)), (.inl (20, 20, 0, 0)), (.inr (.inr (.inr 0)))], [(.inl (40, 40, 0, 0)), (.inl (0, 40, 6, 0))]),
  (332, [(.inl 12), (.inl 0), (.inl 0), (.inl 0), (.inl 0)], (0, 0), [(.inr (.inr (.inl (44, 44)))), (.inr (.inr (.inl (67, 67)))), (.inl (20, 20, 0, 0)), (.inl (20, 20, 0, 0)), (.inr (.inr (.inr 0)))], []),
  (333, [(.inl 11), (.inl 0), (.inl 0), (.inl 0), (.inl 0)], (0, 0), [(.inr (.inr (.inl (44, 44)))), (.inr (.inr (.inl (67, 67)))), (.inl (20, 20, 0, 0)), (.inl (20, 20, 0, 0)), (.inr (.inr (.inr 0)))], [(.inr (.inr (.inl (44, 44))))]),
  (336, [(.inl 10), (.inl 0), (.inl 0), (.inl 0), (.inl 0)], (0, 0), [(.inr (.inr (.inl (44, 44)))), (.inr (.inr (.inl (67, 67)))), (.inl (20, 20, 0, 0)), (.inl (20, 20, 0, 0)), (.inr (.inr (.inr 0)))], [(.inr (.inr (.inr 10)))]),
  (341, [(.inl 9), (.inl 0), (.inl 0), (.inl 0), (.inl 0)], (0, 0), [(.inr (.inr (.inl (44, 44)))), (.inr (.inr (.inl (67, 67)))), (.inl (20, 20, 0, 0)), (.inl (20, 20, 0, 0)), (.inr (.inr (.inr 0)))], [(.inl (0, 40, 6, 0))]),
  (342, [(.inl 8), (.inl 0), (.inl 0), (.inl 0), (.inl 0)], (0, 0), [(.inr (.inr (.inl (44, 44)))), (.inr (.inr (.inl (67, 67)))), (.inl (20, 20, 0, 0)), (.inl (20, 20, 0, 0)), (.inr (.inr (.inr 0)))], [(.inr (.inr (.inl (44, 44)))), (.inl (0, 40, 6, 0))]),
  (345, [(.inl 7), (.inl 0), (.inl 0), (.inl 0), (.inl 0)], (0, 0), [(.inr (.inr (.inl (44, 44)))), (.inr (.inr (.inl (67, 67)))), (.inl (20, 20, 0, 0)), (.inl (20, 20, 0, 0)), (.inr (.inr (.inr 0)))], [zIA, (.inl (0, 40, 6, 0))]),
  (346, [(.inl 6), (.inl 0), (.inl 0), (.inl 0), (.inl 0)], (0, 0), [(.inr (.inr (.inl (44, 44)))), (.inr (.inr (.inl (67, 67)))), (.inl (20, 20, 0, 0)), (.inl (20, 20, 0, 0)), (.inr (.inr (.inr 0)))], [(.inr (.inr (.inl (44, 44)))), zIA, (.inl (0, 40, 6, 0))]),
  (349, [(.inl 5), (.inl 0), (.inl 0), (.inl 0), (.inl 0)], (0, 0), [(.inr (.inr (.inl (44, 44)))), (.inr (.inr (.inl (67, 67)))), (.inl (20, 20, 0, 0)), (.inl (20, 20, 0, 0)), (.inr (.inr (.inr 0)))], [zIA, zIA, (.inl (0, 40, 6, 0))]),
  (350, [(.inl 4), (.inl 0), (.inl 0), (.inl 0), (.inl 0)], (0, 0), [(.inr (.inr (.inl (44, 44)))), (.inr (.inr (.inl (67, 67)))), (.inl (20, 20, 0, 0)), (.inl (20, 20, 0, 0)), (.inr (.inr (.inr 0)))], [zIA, (.inl (0, 40, 6, 0))]),
  (353, [(.inl 3), (.inl 0), (.inl 0), (.inl 0), (.inl 0)], (0, 0), [(.inr (.inr (.inl (44, 44)))), (.inr (.inr (.inl (67, 67)))), (.inl (20, 20, 0, 0)), (.inl (20, 20, 0, 0)), (.inr (.inr (.inr 0)))], []),
  (354, [(.inl 2), (.inl 0), (.inl 0), (.inl 0), (.inl 0)], (0, 0), [(.inr (.inr (.inl (44, 44)))), (.inr (.inr (.inl (67, 67)))), (.inl (20, 20, 0, 0)), (.inl (20, 20, 0, 0)), (.inr (.inr (.inr 0)))], [(.inl (1, 1, 0, 0))]),
  (357, [(.inl 1), (.inl 0), (.inl 0), (.inl 0), (.inl 0)], (0, 0), [(.inr (.inr (.inl (44, 44)))), (.inr (.inr (.inl (67, 67)))), (.inl (20, 20, 0, 0)), (.inl (20, 20, 0, 0)), (.inr (.inr (.inr 0)))], []),
  (358, [(.inl 0), (.inl 0), (.inl 0), (.inl 0), (.inl 0)], (0, 0), [(.inr (.inr (.inl (44, 44)))), (.inr (.inr (.inl (67, 67)))), (.inl (20, 20, 0, 0)), (.inl (20, 20, 0, 0)), (.inr (.inr (.inr 0)))], [(.inl (0, 1, 0, 0))])]
theorem g_186 {xs : List Int32} : zGd xs ct_186 := zmeth (cs := [ct_113, ct_114, ct_239a, ct_243a, ct_243c]) ct_186 ce_186 (List.forall_mem_cons.mpr ⟨g_113, List.forall_mem_cons.mpr ⟨g_114, List.forall_mem_cons.mpr ⟨g_239a, List.forall_mem_cons.mpr ⟨g_243a, List.forall_mem_cons.mpr ⟨g_243c, fun _ h => absurd h List.not_mem_nil⟩⟩⟩⟩⟩) (by decide +kernel)
def ct_187 : zCt := (187, [(.inr (.inr (.inl (44, 44))))], some ((.inl (0, 1, 0, 0))), 5, 0, 0)
def ce_187 : List zCe := [(0, [(.inl 5)], (0, 0), [(.inr (.inr (.inl (44, 44))))], []),
  (1, [(.inl 4)], (0, 0), [(.inr (.inr (.inl (44, 44))))], [(.inr (.inr (.inl (44, 44))))]),
  (2, [(.inl 3)], (0, 0), [(.inr (.inr (.inl (44, 44))))], [(.inl (0, 0, 0, 0)), (.inr (.inr (.inl (44, 44))))]),
  (5, [(.inl 2)], (0, 0), [(.inr (.inr (.inl (44, 44))))], []),
  (6, [(.inl 1)], (0, 0), [(.inr (.inr (.inl (44, 44))))], [(.inr (.inr (.inl (44, 44))))]),
  (9, [(.inl 0)], (0, 0), [(.inr (.inr (.inl (44, 44))))], [(.inl (0, 1, 0, 0))])]
theorem g_187 {xs : List Int32} : zGd xs ct_187 := zmeth (cs := [ct_186]) ct_187 ce_187 (List.forall_mem_cons.mpr ⟨g_186, fun _ h => absurd h List.not_mem_nil⟩) (by decide +kernel)
end zg40
