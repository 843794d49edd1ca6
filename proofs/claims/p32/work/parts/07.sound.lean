theorem zcf_out {t : Nat} (h : 6 ≤ t) : zcf t = [] := by
  unfold zcf
  rw [List.getD_eq_getElem?_getD, List.getElem?_eq_none (by
    show 6 ≤ t
    omega)]
  rfl
theorem zby {x : Int32} (h1 : -128 ≤ x) (h2 : x ≤ 127) : narrow .byte (.int x) = .int x := by
  have h3 := Int32.le_iff_toInt_le.mp h1
  have h4 := Int32.le_iff_toInt_le.mp h2
  have e1 : (-128 : Int32).toInt = -128 := by decide
  have e2 : (127 : Int32).toInt = 127 := by decide
  rw [e1] at h3
  rw [e2] at h4
  show Value.int x.toInt8.toInt32 = Value.int x
  congr 1
  apply Int32.toInt_inj.mp
  rw [Int8.toInt_toInt32, Int32.toInt_toInt8]
  rw [Int.bmod_def]
  omega
theorem zdf_V (sp : Nat → Nat) (ads : List Nat) (k : Nat) : zV sp ads (zdf k) (zdf k) := by
  unfold zdf
  split <;> exact rfl
theorem zdfs (sp : Nat → Nat) (ads : List Nat) : ∀ l : List (Nat × Nat), zS sp ads (l.map (fun q => zdf q.2)) (l.map (fun q => zdf q.2))
  | [] => rfl
  | q :: l => ⟨_, _, rfl, zdf_V sp ads q.2, zdfs sp ads l⟩
/-! The abstract machine's step is the machine's. -/
def zC (sp : Nat → Nat) (ty : Nat → ClassId) (ads : List Nat) (c : Nat × List Value) (e : va_E) : Prop :=
  (c.1 < 100 ∧ ∃ vs', e = .inr (c.1, vs') ∧ zS sp ads c.2 vs') ∨
  ((c.1 = 100 ∨ c.1 = 101 ∨ c.1 = 102) ∧ ∃ f : Nat → Int32, e = .inl (ty (c.1 - 100), c.2.length, .inl f) ∧ ∀ (j : Nat) (x : Value), c.2[j]? = some x → x = .int (f j)) ∨
  ((c.1 = 103 ∨ c.1 = 104) ∧ ∃ f : Nat → Option Nat, e = .inl (ty (c.1 - 100), c.2.length, .inr (.inr (.inr (.inr f)))) ∧ ∀ (j : Nat) (x : Value), c.2[j]? = some x → zV sp ads x (va_rf (f j)))
def zW (sp : Nat → Nat) (ty : Nat → ClassId) (D : va_G) (A : Nat → Prop) (H0 : Heap) (ads : List Nat) (h : zH) (H : Heap) (locs : List Loc) : Prop :=
  ∃ ws : va_W, va_P D zcl ws H ∧ va_D A ws ∧ va_S A H0 H locs ∧ ws.map (fun q => q.1) = ads ∧ h.length = ws.length ∧ ∀ (k : Nat) (c : Nat × List Value) (q : Nat × va_E), h[k]? = some c → ws[k]? = some q → zC sp ty ads c q.2
def zR (sp : Nat → Nat) (ty : Nat → ClassId) (D : va_G) (A : Nat → Prop) (H0 : Heap) (nL : Nat) (ads : List Nat) (L : zL) (st : List Value) (h : zH) (ls : Array Slot) (str : List Value) (H : Heap) (locs : List Loc) : Prop :=
  zLR sp ads L ls nL ∧ zS sp ads st str ∧ zW sp ty D A H0 ads h H locs
def ztys (ty : Nat → ClassId) : List (ClassId × FieldType) := [(ty 0, .int), (ty 1, .int), (ty 2, .int), (ty 3, .int), (ty 4, .int)]
/-- what is known of the special addresses -/
def zSP (xs : List Int32) (sp : Nat → Nat) (A : Nat → Prop) (s : State) : Prop :=
  (∀ w ∈ zN, va_Nw w s) ∧
  (vx_Zq Bundle.tN "UNASSIGNED_STACK" Bundle.steD A s s.heap ∧ vx_Zq Bundle.tN "SUPPRESSED_SENTINEL" Bundle.listD A s s.heap) ∧
  (∀ q ∈ zTX, ∃ sa, vk_R q.1 q.2.1 q.2.2 sa s) ∧
  (va_X (sp 0) xs.length (fun j => xs.getD j 0) s s.heap ∧ sp 0 < s.heap.size ∧ ¬ A (sp 0)) ∧
  (∀ w ∈ zN2, va_Nw w s) ∧ (∀ q ∈ zNP, va_Nc q.1 q.2 s) ∧ zSJ sp A s
def zX (xs : List Int32) (sp : Nat → Nat) (ty : Nat → ClassId) (D : va_G) (A : Nat → Prop) (y : Nat) (p : Program) (R : Room) (s : State) (m : MethodId) (args : Array Value) (meth : Method) (c : Code) : Prop :=
  p.tables.exec = Jvm.exec ∧ c.code = zmb y ∧ c.maxLocals = zmL y ∧ meth.sig.returnType = zmr y ∧ meth.locks = false ∧ s.vm.findClass (zon (zmo y)) = some m.cls ∧ ((zmn y).name = "<init>" → meth.name = "<init>") ∧
  (∀ w ∈ zB, w.before args s = true) ∧ va_K D zcl (ztys ty) s ∧ (∀ q, s.heap.size ≤ q → A q) ∧ zSP xs sp A s ∧ 5 ≤ R.frames ∧ 168 ≤ R.locals
section ZZ
variable {p : Program} {l : Launch} {e : Env} {R : Room} {s : State} {m : MethodId} {args : Array Value} {below : List Frame} {meth : Method} {c : Code} {H : Heap} {locs : List Loc} {cells slots : Nat} {Q : State → Prop}
variable {xs : List Int32} {sp : Nat → Nat} {ty : Nat → ClassId} {D : va_G} {A : Nat → Prop} {ads : List Nat} {nL : Nat} {H0 : Heap}
variable {pc nx pc' dc ds : Nat} {L L' : zL} {st st' str : List Value} {h h' : zH} {ls : Array Slot}
/-- what is owed behind a step -/
abbrev zKK (p : Program) (l : Launch) (e : Env) (R : Room) (s : State) (m : MethodId) (args : Array Value) (below : List Frame) (meth : Method) (c : Code) (cells slots : Nat) (Q : State → Prop) (sp : Nat → Nat) (ty : Nat → ClassId) (D : va_G) (A : Nat → Prop) (H0 : Heap) (nL : Nat) (ads : List Nat) (pc' : Nat) (L' : zL) (st' : List Value) (h' : zH) (dc ds : Nat) : Prop :=
  ∀ (q : List Nat) (ls' : Array Slot) (str' : List Value) (H' : Heap) (locs' : List Loc), zR sp ty D A H0 nL (ads ++ q) L' st' h' ls' str' H' locs' → W p l e R s m args below meth c H' locs' (cells + dc) (slots + ds) Q (F0 m pc' ls' str')
theorem zgo_kk {ls' : Array Slot} {str' : List Value} (hs : zgo nx L st h = some (.inl (pc', L', st', h', dc, ds))) (kk : zKK p l e R s m args below meth c cells slots Q sp ty D A H0 nL ads pc' L' st' h' dc ds) (h1 : zLR sp ads L ls' nL) (h2 : zS sp ads st str') (h3 : zW sp ty D A H0 ads h H locs) : W p l e R s m args below meth c H locs cells slots Q (F0 m nx ls' str') := by
  cases (show some (Sum.inl (nx, L, st, h, 0, 0)) = some (Sum.inl (pc', L', st', h', dc, ds)) from hs)
  have k := kk [] ls' str' H locs
  rw [List.append_nil] at k
  exact k ⟨h1, h2, h3⟩
theorem z_bin (f : Int32 → Int32 → Int32) (hs : zbin f nx L st h = some (.inl (pc', L', st', h', dc, ds))) (I : zR sp ty D A H0 nL ads L st h ls str H locs) (kk : zKK p l e R s m args below meth c cells slots Q sp ty D A H0 nL ads pc' L' st' h' dc ds)
    (row : ∀ (x y : Int32) (r : List Value), W p l e R s m args below meth c H locs cells slots Q (F0 m nx ls (.int (f x y) :: r)) → W p l e R s m args below meth c H locs cells slots Q (F0 m pc ls (.int y :: .int x :: r))) : W p l e R s m args below meth c H locs cells slots Q (F0 m pc ls str) := by
  obtain ⟨I1, I2, I3⟩ := I
  unfold zbin at hs
  split at hs
  · obtain ⟨_, _, rfl, hv, _, _, rfl, hw, hr⟩ := I2
    cases (show _ = Value.int _ from hv); cases (show _ = Value.int _ from hw)
    exact row _ _ _ (zgo_kk hs kk I1 ⟨_, _, rfl, rfl, hr⟩ I3)
  · cases hs
theorem z_div (f : Int32 → Int32 → Int32) (hs : zdiv f nx L st h = some (.inl (pc', L', st', h', dc, ds))) (I : zR sp ty D A H0 nL ads L st h ls str H locs) (kk : zKK p l e R s m args below meth c cells slots Q sp ty D A H0 nL ads pc' L' st' h' dc ds)
    (row : ∀ (x y : Int32) (r : List Value), ¬ y = 0 → W p l e R s m args below meth c H locs cells slots Q (F0 m nx ls (.int (f x y) :: r)) → W p l e R s m args below meth c H locs cells slots Q (F0 m pc ls (.int y :: .int x :: r))) : W p l e R s m args below meth c H locs cells slots Q (F0 m pc ls str) := by
  obtain ⟨I1, I2, I3⟩ := I
  unfold zdiv at hs
  split at hs
  · split at hs
    · cases hs
    · next hne =>
      obtain ⟨_, _, rfl, hv, _, _, rfl, hw, hr⟩ := I2
      cases (show _ = Value.int _ from hv); cases (show _ = Value.int _ from hw)
      exact row _ _ _ hne (zgo_kk hs kk I1 ⟨_, _, rfl, rfl, hr⟩ I3)
  · cases hs
theorem z_un (f : Int32 → Value) (hf : ∀ x, zV sp ads (f x) (f x)) (hs : zun f nx L st h = some (.inl (pc', L', st', h', dc, ds))) (I : zR sp ty D A H0 nL ads L st h ls str H locs) (kk : zKK p l e R s m args below meth c cells slots Q sp ty D A H0 nL ads pc' L' st' h' dc ds)
    (row : ∀ (x : Int32) (r : List Value), W p l e R s m args below meth c H locs cells slots Q (F0 m nx ls (f x :: r)) → W p l e R s m args below meth c H locs cells slots Q (F0 m pc ls (.int x :: r))) : W p l e R s m args below meth c H locs cells slots Q (F0 m pc ls str) := by
  obtain ⟨I1, I2, I3⟩ := I
  unfold zun at hs
  split at hs
  · obtain ⟨_, _, rfl, hv, hr⟩ := I2
    cases (show _ = Value.int _ from hv)
    exact row _ _ (zgo_kk hs kk I1 ⟨_, _, rfl, hf _, hr⟩ I3)
  · cases hs
theorem z_binL (f : Int64 → Int64 → Int64) (hs : zbinL f nx L st h = some (.inl (pc', L', st', h', dc, ds))) (I : zR sp ty D A H0 nL ads L st h ls str H locs) (kk : zKK p l e R s m args below meth c cells slots Q sp ty D A H0 nL ads pc' L' st' h' dc ds)
    (row : ∀ (x y : Int64) (r : List Value), W p l e R s m args below meth c H locs cells slots Q (F0 m nx ls (.long (f x y) :: r)) → W p l e R s m args below meth c H locs cells slots Q (F0 m pc ls (.long y :: .long x :: r))) : W p l e R s m args below meth c H locs cells slots Q (F0 m pc ls str) := by
  obtain ⟨I1, I2, I3⟩ := I
  unfold zbinL at hs
  split at hs
  · obtain ⟨_, _, rfl, hv, _, _, rfl, hw, hr⟩ := I2
    cases (show _ = Value.long _ from hv); cases (show _ = Value.long _ from hw)
    exact row _ _ _ (zgo_kk hs kk I1 ⟨_, _, rfl, rfl, hr⟩ I3)
  · cases hs
theorem z_lcmp (hs : zlc nx L st h = some (.inl (pc', L', st', h', dc, ds))) (I : zR sp ty D A H0 nL ads L st h ls str H locs) (kk : zKK p l e R s m args below meth c cells slots Q sp ty D A H0 nL ads pc' L' st' h' dc ds)
    (row : ∀ (x y : Int64) (r : List Value), W p l e R s m args below meth c H locs cells slots Q (F0 m nx ls (.int (lg_cmp x y) :: r)) → W p l e R s m args below meth c H locs cells slots Q (F0 m pc ls (.long y :: .long x :: r))) : W p l e R s m args below meth c H locs cells slots Q (F0 m pc ls str) := by
  obtain ⟨I1, I2, I3⟩ := I
  unfold zlc at hs
  split at hs
  · obtain ⟨_, _, rfl, hv, _, _, rfl, hw, hr⟩ := I2
    cases (show _ = Value.long _ from hv); cases (show _ = Value.long _ from hw)
    exact row _ _ _ (zgo_kk hs kk I1 ⟨_, _, rfl, rfl, hr⟩ I3)
  · cases hs
theorem z_binD (f : UInt64 → UInt64 → UInt64) (hs : zbinD f nx L st h = some (.inl (pc', L', st', h', dc, ds))) (I : zR sp ty D A H0 nL ads L st h ls str H locs) (kk : zKK p l e R s m args below meth c cells slots Q sp ty D A H0 nL ads pc' L' st' h' dc ds)
    (row : ∀ (x y : UInt64) (r : List Value), vf_n64 (f x y) → W p l e R s m args below meth c H locs cells slots Q (F0 m nx ls (.double (f x y) :: r)) → W p l e R s m args below meth c H locs cells slots Q (F0 m pc ls (.double y :: .double x :: r))) : W p l e R s m args below meth c H locs cells slots Q (F0 m pc ls str) := by
  obtain ⟨I1, I2, I3⟩ := I
  unfold zbinD at hs
  split at hs
  · split at hs
    · next hne =>
      obtain ⟨_, _, rfl, hv, _, _, rfl, hw, hr⟩ := I2
      cases (show _ = Value.double _ from hv); cases (show _ = Value.double _ from hw)
      exact row _ _ _ hne (zgo_kk hs kk I1 ⟨_, _, rfl, rfl, hr⟩ I3)
    · cases hs
  · cases hs
theorem z_d2l (hs : zd2l nx L st h = some (.inl (pc', L', st', h', dc, ds))) (I : zR sp ty D A H0 nL ads L st h ls str H locs) (kk : zKK p l e R s m args below meth c cells slots Q sp ty D A H0 nL ads pc' L' st' h' dc ds)
    (row : ∀ (x : UInt64) (r : List Value), W p l e R s m args below meth c H locs cells slots Q (F0 m nx ls (.long (FP.d2l x) :: r)) → W p l e R s m args below meth c H locs cells slots Q (F0 m pc ls (.double x :: r))) : W p l e R s m args below meth c H locs cells slots Q (F0 m pc ls str) := by
  obtain ⟨I1, I2, I3⟩ := I
  unfold zd2l at hs
  split at hs
  · obtain ⟨_, _, rfl, hv, hr⟩ := I2
    cases (show _ = Value.double _ from hv)
    exact row _ _ (zgo_kk hs kk I1 ⟨_, _, rfl, rfl, hr⟩ I3)
  · cases hs
theorem z_pu {v v' : Value} (hv : zV sp ads v v') (hs : zpu L v nx st h = some (.inl (pc', L', st', h', dc, ds))) (I : zR sp ty D A H0 nL ads L st h ls str H locs) (kk : zKK p l e R s m args below meth c cells slots Q sp ty D A H0 nL ads pc' L' st' h' dc ds)
    (row : W p l e R s m args below meth c H locs cells slots Q (F0 m nx ls (v' :: str)) → W p l e R s m args below meth c H locs cells slots Q (F0 m pc ls str)) : W p l e R s m args below meth c H locs cells slots Q (F0 m pc ls str) := by
  obtain ⟨I1, I2, I3⟩ := I
  exact row (zgo_kk hs kk I1 ⟨_, _, rfl, hv, I2⟩ I3)
theorem z_goto (hs : zgo nx L st h = some (.inl (pc', L', st', h', dc, ds))) (I : zR sp ty D A H0 nL ads L st h ls str H locs) (kk : zKK p l e R s m args below meth c cells slots Q sp ty D A H0 nL ads pc' L' st' h' dc ds)
    (row : W p l e R s m args below meth c H locs cells slots Q (F0 m nx ls str) → W p l e R s m args below meth c H locs cells slots Q (F0 m pc ls str)) : W p l e R s m args below meth c H locs cells slots Q (F0 m pc ls str) :=
  row (zgo_kk hs kk I.1 I.2.1 I.2.2)
theorem z_ldI {i : Nat} (hs : zldI L i nx st h = some (.inl (pc', L', st', h', dc, ds))) (I : zR sp ty D A H0 nL ads L st h ls str H locs) (kk : zKK p l e R s m args below meth c cells slots Q sp ty D A H0 nL ads pc' L' st' h' dc ds)
    (row : ∀ x : Int32, ls[i]? = some (.val (.int x)) → W p l e R s m args below meth c H locs cells slots Q (F0 m nx ls (.int x :: str)) → W p l e R s m args below meth c H locs cells slots Q (F0 m pc ls str)) : W p l e R s m args below meth c H locs cells slots Q (F0 m pc ls str) := by
  obtain ⟨I1, I2, I3⟩ := I
  unfold zldI at hs
  split at hs
  · next x hx =>
    obtain ⟨v', hv, hl⟩ := zLR_ld I1 hx
    cases (show _ = Value.int _ from hv)
    exact row x hl (zgo_kk hs kk I1 ⟨_, _, rfl, rfl, I2⟩ I3)
  · cases hs
theorem z_ldL {i : Nat} (hs : zldL L i nx st h = some (.inl (pc', L', st', h', dc, ds))) (I : zR sp ty D A H0 nL ads L st h ls str H locs) (kk : zKK p l e R s m args below meth c cells slots Q sp ty D A H0 nL ads pc' L' st' h' dc ds)
    (row : ∀ x : Int64, ls[i]? = some (.val (.long x)) → W p l e R s m args below meth c H locs cells slots Q (F0 m nx ls (.long x :: str)) → W p l e R s m args below meth c H locs cells slots Q (F0 m pc ls str)) : W p l e R s m args below meth c H locs cells slots Q (F0 m pc ls str) := by
  obtain ⟨I1, I2, I3⟩ := I
  unfold zldL at hs
  split at hs
  · next x hx =>
    obtain ⟨v', hv, hl⟩ := zLR_ld I1 hx
    cases (show _ = Value.long _ from hv)
    exact row x hl (zgo_kk hs kk I1 ⟨_, _, rfl, rfl, I2⟩ I3)
  · cases hs
theorem z_ldD {i : Nat} (hs : zldD L i nx st h = some (.inl (pc', L', st', h', dc, ds))) (I : zR sp ty D A H0 nL ads L st h ls str H locs) (kk : zKK p l e R s m args below meth c cells slots Q sp ty D A H0 nL ads pc' L' st' h' dc ds)
    (row : ∀ x : UInt64, ls[i]? = some (.val (.double x)) → W p l e R s m args below meth c H locs cells slots Q (F0 m nx ls (.double x :: str)) → W p l e R s m args below meth c H locs cells slots Q (F0 m pc ls str)) : W p l e R s m args below meth c H locs cells slots Q (F0 m pc ls str) := by
  obtain ⟨I1, I2, I3⟩ := I
  unfold zldD at hs
  split at hs
  · next x hx =>
    obtain ⟨v', hv, hl⟩ := zLR_ld I1 hx
    cases (show _ = Value.double _ from hv)
    exact row x hl (zgo_kk hs kk I1 ⟨_, _, rfl, rfl, I2⟩ I3)
  · cases hs
theorem z_ldA {i : Nat} (hs : zldA L i nx st h = some (.inl (pc', L', st', h', dc, ds))) (I : zR sp ty D A H0 nL ads L st h ls str H locs) (kk : zKK p l e R s m args below meth c cells slots Q sp ty D A H0 nL ads pc' L' st' h' dc ds)
    (row : ∀ x : Nat, ls[i]? = some (.val (.ref x)) → W p l e R s m args below meth c H locs cells slots Q (F0 m nx ls (.ref x :: str)) → W p l e R s m args below meth c H locs cells slots Q (F0 m pc ls str))
    (rowN : ls[i]? = some (.val .null) → W p l e R s m args below meth c H locs cells slots Q (F0 m nx ls (.null :: str)) → W p l e R s m args below meth c H locs cells slots Q (F0 m pc ls str)) : W p l e R s m args below meth c H locs cells slots Q (F0 m pc ls str) := by
  obtain ⟨I1, I2, I3⟩ := I
  unfold zldA at hs
  split at hs
  · next x hx =>
    obtain ⟨v', hv, hl⟩ := zLR_ld I1 hx
    obtain ⟨a, ha, rfl⟩ := id hv
    exact row a hl (zgo_kk hs kk I1 ⟨_, _, rfl, hv, I2⟩ I3)
  · next x hx =>
    obtain ⟨v', hv, hl⟩ := zLR_ld I1 hx
    obtain ⟨ha, rfl⟩ := id hv
    exact row _ hl (zgo_kk hs kk I1 ⟨_, _, rfl, hv, I2⟩ I3)
  · next hx =>
    obtain ⟨v', hv, hl⟩ := zLR_ld I1 hx
    cases (show _ = Value.null from hv)
    exact rowN hl (zgo_kk hs kk I1 ⟨_, _, rfl, rfl, I2⟩ I3)
  · cases hs
theorem z_sv1 {i : Nat} {v v' : Value} {r r' : List Value} (hs : zsv1 L i nx v r h = some (.inl (pc', L', st', h', dc, ds))) (hv : zV sp ads v v') (I1 : zLR sp ads L ls nL) (hr : zS sp ads r r') (I3 : zW sp ty D A H0 ads h H locs) (kk : zKK p l e R s m args below meth c cells slots Q sp ty D A H0 nL ads pc' L' st' h' dc ds)
    (row : ∀ lv : List (Nat × Value), lv_has ls nL lv → i < nL → (∀ ls' : Array Slot, lv_has ls' nL ((i, v') :: lv.filter (fun q => !(q.1 == i) && !(q.1 + 1 == i && q.2.category == 2))) → W p l e R s m args below meth c H locs cells slots Q (F0 m nx ls' r')) → W p l e R s m args below meth c H locs cells slots Q (F0 m pc ls str)) : W p l e R s m args below meth c H locs cells slots Q (F0 m pc ls str) := by
  unfold zsv1 at hs
  split at hs
  · next L1 h1 =>
    obtain ⟨hi, lv, g1, g2⟩ := zLR_st1 I1 h1 hv
    exact row lv g1 hi (fun ls' h2 => zgo_kk hs kk (g2 ls' h2) hr I3)
  · cases hs
theorem z_sv2 {i : Nat} {v v' : Value} {r r' : List Value} (hs : zsv2 L i nx v r h = some (.inl (pc', L', st', h', dc, ds))) (hv : zV sp ads v v') (I1 : zLR sp ads L ls nL) (hr : zS sp ads r r') (I3 : zW sp ty D A H0 ads h H locs) (kk : zKK p l e R s m args below meth c cells slots Q sp ty D A H0 nL ads pc' L' st' h' dc ds)
    (row : ∀ lv : List (Nat × Value), lv_has ls nL lv → i + 1 < nL → (∀ ls' : Array Slot, lv_has ls' nL ((i, v') :: lv.filter (fun q => !(q.1 == i) && (!(q.1 == i + 1) && !(q.1 + 1 == i && q.2.category == 2)))) → W p l e R s m args below meth c H locs cells slots Q (F0 m nx ls' r')) → W p l e R s m args below meth c H locs cells slots Q (F0 m pc ls str)) : W p l e R s m args below meth c H locs cells slots Q (F0 m pc ls str) := by
  unfold zsv2 at hs
  split at hs
  · next L1 h1 =>
    obtain ⟨hi, lv, g1, g2⟩ := zLR_st2 I1 h1 hv
    exact row lv g1 hi (fun ls' h2 => zgo_kk hs kk (g2 ls' h2) hr I3)
  · cases hs
theorem zS_cat {v v' : Value} (h : zV sp ads v v') (hc : zcat v = false) : v'.category = 1 := by rw [zV_cat h, hc]; rfl
theorem zS_cat2 {v v' : Value} (h : zV sp ads v v') (hc : zcat v = true) : v'.category = 2 := by rw [zV_cat h, hc]; rfl
theorem z_dup (hs : zdup nx L st h = some (.inl (pc', L', st', h', dc, ds))) (I : zR sp ty D A H0 nL ads L st h ls str H locs) (kk : zKK p l e R s m args below meth c cells slots Q sp ty D A H0 nL ads pc' L' st' h' dc ds)
    (row : ∀ (v : Value) (r : List Value), v.category = 1 → W p l e R s m args below meth c H locs cells slots Q (F0 m nx ls (v :: v :: r)) → W p l e R s m args below meth c H locs cells slots Q (F0 m pc ls (v :: r))) : W p l e R s m args below meth c H locs cells slots Q (F0 m pc ls str) := by
  obtain ⟨I1, I2, I3⟩ := I
  unfold zdup at hs
  split at hs
  · split at hs
    · cases hs
    · next hc =>
      obtain ⟨_, _, rfl, hv, hr⟩ := I2
      exact row _ _ (zS_cat hv (by simpa using hc)) (zgo_kk hs kk I1 ⟨_, _, rfl, hv, _, _, rfl, hv, hr⟩ I3)
  · cases hs
theorem z_pop (hs : zpop nx L st h = some (.inl (pc', L', st', h', dc, ds))) (I : zR sp ty D A H0 nL ads L st h ls str H locs) (kk : zKK p l e R s m args below meth c cells slots Q sp ty D A H0 nL ads pc' L' st' h' dc ds)
    (row : ∀ (v : Value) (r : List Value), v.category = 1 → W p l e R s m args below meth c H locs cells slots Q (F0 m nx ls r) → W p l e R s m args below meth c H locs cells slots Q (F0 m pc ls (v :: r))) : W p l e R s m args below meth c H locs cells slots Q (F0 m pc ls str) := by
  obtain ⟨I1, I2, I3⟩ := I
  unfold zpop at hs
  split at hs
  · split at hs
    · cases hs
    · next hc =>
      obtain ⟨_, _, rfl, hv, hr⟩ := I2
      exact row _ _ (zS_cat hv (by simpa using hc)) (zgo_kk hs kk I1 hr I3)
  · cases hs
theorem z_pop2 (hs : zpop2 nx L st h = some (.inl (pc', L', st', h', dc, ds))) (I : zR sp ty D A H0 nL ads L st h ls str H locs) (kk : zKK p l e R s m args below meth c cells slots Q sp ty D A H0 nL ads pc' L' st' h' dc ds)
    (row : ∀ (v : Value) (r : List Value), v.category = 2 → W p l e R s m args below meth c H locs cells slots Q (F0 m nx ls r) → W p l e R s m args below meth c H locs cells slots Q (F0 m pc ls (v :: r))) : W p l e R s m args below meth c H locs cells slots Q (F0 m pc ls str) := by
  obtain ⟨I1, I2, I3⟩ := I
  unfold zpop2 at hs
  split at hs
  · split at hs
    · next hc =>
      obtain ⟨_, _, rfl, hv, hr⟩ := I2
      exact row _ _ (zS_cat2 hv hc) (zgo_kk hs kk I1 hr I3)
    · cases hs
  · cases hs
theorem z_dupx1 (hs : zdupx1 nx L st h = some (.inl (pc', L', st', h', dc, ds))) (I : zR sp ty D A H0 nL ads L st h ls str H locs) (kk : zKK p l e R s m args below meth c cells slots Q sp ty D A H0 nL ads pc' L' st' h' dc ds)
    (row : ∀ (v w : Value) (r : List Value), v.category = 1 → w.category = 1 → W p l e R s m args below meth c H locs cells slots Q (F0 m nx ls (v :: w :: v :: r)) → W p l e R s m args below meth c H locs cells slots Q (F0 m pc ls (v :: w :: r))) : W p l e R s m args below meth c H locs cells slots Q (F0 m pc ls str) := by
  obtain ⟨I1, I2, I3⟩ := I
  unfold zdupx1 at hs
  split at hs
  · split at hs
    · cases hs
    · next hc =>
      obtain ⟨_, _, rfl, hv, _, _, rfl, hw, hr⟩ := I2
      simp only [Bool.or_eq_true, not_or, Bool.not_eq_true] at hc
      exact row _ _ _ (zS_cat hv hc.1) (zS_cat hw hc.2) (zgo_kk hs kk I1 ⟨_, _, rfl, hv, _, _, rfl, hw, _, _, rfl, hv, hr⟩ I3)
  · cases hs
theorem z_dup2 (hs : zdup2 nx L st h = some (.inl (pc', L', st', h', dc, ds))) (I : zR sp ty D A H0 nL ads L st h ls str H locs) (kk : zKK p l e R s m args below meth c cells slots Q sp ty D A H0 nL ads pc' L' st' h' dc ds)
    (row : ∀ (v w : Value) (r : List Value), v.category = 1 → w.category = 1 → W p l e R s m args below meth c H locs cells slots Q (F0 m nx ls (v :: w :: v :: w :: r)) → W p l e R s m args below meth c H locs cells slots Q (F0 m pc ls (v :: w :: r))) : W p l e R s m args below meth c H locs cells slots Q (F0 m pc ls str) := by
  obtain ⟨I1, I2, I3⟩ := I
  unfold zdup2 at hs
  split at hs
  · split at hs
    · cases hs
    · next hc =>
      obtain ⟨_, _, rfl, hv, _, _, rfl, hw, hr⟩ := I2
      simp only [Bool.or_eq_true, not_or, Bool.not_eq_true] at hc
      exact row _ _ _ (zS_cat hv hc.1) (zS_cat hw hc.2) (zgo_kk hs kk I1 ⟨_, _, rfl, hv, _, _, rfl, hw, _, _, rfl, hv, _, _, rfl, hw, hr⟩ I3)
  · cases hs
/-- the machine's branch row of a condition -/
def zrow (p : Program) (l : Launch) (e : Env) (R : Room) (s : State) (m : MethodId) (args : Array Value) (below : List Frame) (meth : Method) (c : Code) (H : Heap) (locs : List Loc) (cells slots : Nat) (Q : State → Prop) (cd : ClassFile.Cond) (x y : Int32) (tg nx : Nat) (ls : Array Slot) (r str : List Value) (pc : Nat) : Prop :=
  match cd with
  | .eq => (x = y → W p l e R s m args below meth c H locs cells slots Q (F0 m tg ls r)) → (¬ x = y → W p l e R s m args below meth c H locs cells slots Q (F0 m nx ls r)) → W p l e R s m args below meth c H locs cells slots Q (F0 m pc ls str)
  | .ne => (¬ x = y → W p l e R s m args below meth c H locs cells slots Q (F0 m tg ls r)) → (x = y → W p l e R s m args below meth c H locs cells slots Q (F0 m nx ls r)) → W p l e R s m args below meth c H locs cells slots Q (F0 m pc ls str)
  | .lt => (x < y → W p l e R s m args below meth c H locs cells slots Q (F0 m tg ls r)) → (¬ x < y → W p l e R s m args below meth c H locs cells slots Q (F0 m nx ls r)) → W p l e R s m args below meth c H locs cells slots Q (F0 m pc ls str)
  | .ge => (y ≤ x → W p l e R s m args below meth c H locs cells slots Q (F0 m tg ls r)) → (¬ y ≤ x → W p l e R s m args below meth c H locs cells slots Q (F0 m nx ls r)) → W p l e R s m args below meth c H locs cells slots Q (F0 m pc ls str)
  | .gt => (y < x → W p l e R s m args below meth c H locs cells slots Q (F0 m tg ls r)) → (¬ y < x → W p l e R s m args below meth c H locs cells slots Q (F0 m nx ls r)) → W p l e R s m args below meth c H locs cells slots Q (F0 m pc ls str)
  | .le => (x ≤ y → W p l e R s m args below meth c H locs cells slots Q (F0 m tg ls r)) → (¬ x ≤ y → W p l e R s m args below meth c H locs cells slots Q (F0 m nx ls r)) → W p l e R s m args below meth c H locs cells slots Q (F0 m pc ls str)
theorem z_br {cd : ClassFile.Cond} {x y : Int32} {tg : Nat} {r r' : List Value} (hs : zbr cd x y tg nx L r h = some (.inl (pc', L', st', h', dc, ds))) (I1 : zLR sp ads L ls nL) (hr : zS sp ads r r') (I3 : zW sp ty D A H0 ads h H locs) (kk : zKK p l e R s m args below meth c cells slots Q sp ty D A H0 nL ads pc' L' st' h' dc ds)
    (row : zrow p l e R s m args below meth c H locs cells slots Q cd x y tg nx ls r' str pc) : W p l e R s m args below meth c H locs cells slots Q (F0 m pc ls str) := by
  cases cd <;> (unfold zbr at hs; dsimp only at hs; unfold zrow at row; dsimp only at row; refine row (fun g => ?_) (fun g => ?_) <;> first | (rw [if_pos g] at hs; exact zgo_kk hs kk I1 hr I3) | (rw [if_neg g] at hs; exact zgo_kk hs kk I1 hr I3))
theorem z_off {o : Int} {r r' : List Value} (hs : zoff pc o L r h = some (.inl (pc', L', st', h', dc, ds))) (I1 : zLR sp ads L ls nL) (hr : zS sp ads r r') (I3 : zW sp ty D A H0 ads h H locs) (kk : zKK p l e R s m args below meth c cells slots Q sp ty D A H0 nL ads pc' L' st' h' dc ds) : ∃ tg : Nat, (pc : Int) + o = (tg : Int) ∧ W p l e R s m args below meth c H locs cells slots Q (F0 m tg ls r') := by
  unfold zoff at hs
  split at hs
  · next t ht => exact ⟨t, ht, zgo_kk hs kk I1 hr I3⟩
  · cases hs
theorem z_W {k : Nat} {ce : Nat × List Value} (I3 : zW sp ty D A H0 ads h H locs) (hk : h[k]? = some ce) {v' : Value} (hv : zV sp ads (.ref k) v') : ∃ (ws : va_W) (a : Nat) (e : va_E), v' = .ref a ∧ ads[k]? = some a ∧ ws[k]? = some (a, e) ∧ zC sp ty ads ce e ∧ va_P D zcl ws H ∧ va_D A ws ∧ va_S A H0 H locs ∧ ws.map (fun q => q.1) = ads ∧ h.length = ws.length ∧ ∀ (k : Nat) (c : Nat × List Value) (q : Nat × va_E), h[k]? = some c → ws[k]? = some q → zC sp ty ads c q.2 := by
  obtain ⟨ws, w1, w2, w3, w4, w5, w6⟩ := I3
  obtain ⟨a, ha, rfl⟩ := hv
  have hl : k < ws.length := by rw [← w5]; exact (List.getElem?_eq_some_iff.mp hk).1
  obtain ⟨q, hq⟩ : ∃ q, ws[k]? = some q := ⟨_, List.getElem?_eq_getElem hl⟩
  have h1 : ads[k]? = some q.1 := by rw [← w4, List.getElem?_map, hq]; rfl
  cases Option.some.inj (ha.symm.trans h1)
  exact ⟨ws, q.1, q.2, rfl, h1, hq, w6 k _ q hk hq, w1, w2, w3, w4, w5, w6⟩
/-- a cell written anew, of the same tag -/
theorem z_Wset {ws : va_W} {k a : Nat} {e0 e : va_E} {ce : Nat × List Value} {H1 : Heap} {locs1 : List Loc} (w4 : ws.map (fun q => q.1) = ads) (w5 : h.length = ws.length) (w6 : ∀ (k : Nat) (c : Nat × List Value) (q : Nat × va_E), h[k]? = some c → ws[k]? = some q → zC sp ty ads c q.2) (hq : ws[k]? = some (a, e0)) (hc : zC sp ty ads ce e) (w1 : va_P D zcl (ws.set k (a, e)) H1) (w2 : va_D A (ws.set k (a, e))) (w3 : va_S A H0 H1 locs1) : zW sp ty D A H0 ads (h.set k ce) H1 locs1 := by
  have hl := (List.getElem?_eq_some_iff.mp hq).1
  refine ⟨_, w1, w2, w3, ?_, by simp [w5], fun j c q h1 h2 => ?_⟩
  · rw [List.map_set, ← w4]
    refine List.ext_getElem? fun j => ?_
    by_cases e9 : j = k
    · subst e9
      rw [List.getElem?_set_self (by simpa using hl), List.getElem?_map, hq]
      rfl
    · rw [List.getElem?_set_ne (fun z => e9 z.symm)]
  · by_cases e9 : j = k
    · subst e9
      rw [List.getElem?_set_self (by omega)] at h1
      rw [List.getElem?_set_self hl] at h2
      cases h1; cases h2
      exact hc
    · rw [List.getElem?_set_ne (fun z => e9 z.symm)] at h1 h2
      exact w6 j c q h1 h2
theorem zC_mono {ce : Nat × List Value} {e : va_E} (q : List Nat) (hc : zC sp ty ads ce e) : zC sp ty (ads ++ q) ce e := by
  rcases hc with ⟨h1, vs', h2, h3⟩ | hc | ⟨h1, f, h2, h3⟩
  · exact Or.inl ⟨h1, vs', h2, zS_mono q h3⟩
  · exact Or.inr (Or.inl hc)
  · exact Or.inr (Or.inr ⟨h1, f, h2, fun j x hx => zV_mono q (h3 j x hx)⟩)
/-- new cells -/
theorem z_Wapp {ws : va_W} {wn : va_W} {hn : zH} {H1 : Heap} {locs1 : List Loc} (w4 : ws.map (fun q => q.1) = ads) (w5 : h.length = ws.length) (w6 : ∀ (k : Nat) (c : Nat × List Value) (q : Nat × va_E), h[k]? = some c → ws[k]? = some q → zC sp ty ads c q.2) (hl : hn.length = wn.length) (hc : ∀ (k : Nat) (c : Nat × List Value) (q : Nat × va_E), hn[k]? = some c → wn[k]? = some q → zC sp ty (ads ++ wn.map (fun q => q.1)) c q.2) (w1 : va_P D zcl (ws ++ wn) H1) (w2 : va_D A (ws ++ wn)) (w3 : va_S A H0 H1 locs1) : zW sp ty D A H0 (ads ++ wn.map (fun q => q.1)) (h ++ hn) H1 locs1 := by
  refine ⟨_, w1, w2, w3, by rw [List.map_append, w4], by simp [w5, hl], fun k c q h1 h2 => ?_⟩
  by_cases e9 : k < h.length
  · rw [List.getElem?_append_left e9] at h1
    rw [List.getElem?_append_left (by omega)] at h2
    exact zC_mono _ (w6 k c q h1 h2)
  · rw [List.getElem?_append_right (by omega)] at h1
    rw [List.getElem?_append_right (by omega)] at h2
    rw [← w5] at h2
    exact hc _ c q h1 h2
theorem z_in {i : Int32} {n : Nat} (h1 : ¬ i < 0) (h2 : i.toNatClampNeg < n) : vp_in i n := fun q => q.elim h1 (fun q => by omega)
theorem z_arr {t : Nat} {vs : List Value} {e : va_E} (ht : t = 100 ∨ t = 101 ∨ t = 102) (hc : zC sp ty ads (t, vs) e) : ∃ f : Nat → Int32, e = .inl (ty (t - 100), vs.length, .inl f) ∧ ∀ (j : Nat) (x : Value), vs[j]? = some x → x = .int (f j) := by
  rcases hc with ⟨h1, -⟩ | ⟨-, hc⟩ | ⟨h1, -⟩
  · exact absurd h1 (by dsimp only; omega)
  · exact hc
  · exact absurd h1 (by dsimp only; omega)
theorem z_arq {t : Nat} {vs : List Value} {e : va_E} (ht : t = 103 ∨ t = 104) (hc : zC sp ty ads (t, vs) e) : ∃ f : Nat → Option Nat, e = .inl (ty (t - 100), vs.length, .inr (.inr (.inr (.inr f)))) ∧ ∀ (j : Nat) (x : Value), vs[j]? = some x → zV sp ads x (va_rf (f j)) := by
  rcases hc with ⟨h1, -⟩ | ⟨h1, -⟩ | ⟨-, hc⟩
  · exact absurd h1 (by dsimp only; omega)
  · exact absurd h1 (by dsimp only; omega)
  · exact hc
theorem z_obj {t : Nat} {vs : List Value} {e : va_E} (ht : t < 100) (hc : zC sp ty ads (t, vs) e) : ∃ vs', e = .inr (t, vs') ∧ zS sp ads vs vs' := by
  rcases hc with ⟨-, hc⟩ | ⟨h1, -⟩ | ⟨h1, -⟩
  · exact hc
  · exact absurd h1 (by dsimp only; omega)
  · exact absurd h1 (by dsimp only; omega)
theorem z_ald {t : Nat} (ht : t = 100 ∨ t = 101 ∨ t = 102) (hs : zald t nx L st h = some (.inl (pc', L', st', h', dc, ds))) (I : zR sp ty D A H0 nL ads L st h ls str H locs) (kk : zKK p l e R s m args below meth c cells slots Q sp ty D A H0 nL ads pc' L' st' h' dc ds)
    (row : ∀ (ws : va_W) (k a n : Nat) (f : Nat → Int32) (i : Int32) (r : List Value), va_P D zcl ws H → ws[k]? = some (a, .inl (ty (t - 100), n, .inl f)) → vp_in i n → W p l e R s m args below meth c H locs cells slots Q (F0 m nx ls (.int (f i.toNatClampNeg) :: r)) → W p l e R s m args below meth c H locs cells slots Q (F0 m pc ls (.int i :: .ref a :: r))) : W p l e R s m args below meth c H locs cells slots Q (F0 m pc ls str) := by
  obtain ⟨I1, I2, I3⟩ := I
  unfold zald at hs
  split at hs
  · next i a r =>
    split at hs
    · next t' vs ha =>
      split at hs
      · next e1 =>
        subst e1
        split at hs
        · next x hx =>
          split at hs
          · cases hs
          · next hi =>
            obtain ⟨_, _, rfl, hv, _, _, rfl, hw, hr⟩ := I2
            cases (show _ = Value.int _ from hv)
            obtain ⟨ws, b, e, rfl, w0, w1, w2, w3, -⟩ := z_W I3 ha hw
            obtain ⟨f, rfl, hf⟩ := z_arr ht w2
            cases hf _ _ hx
            exact row ws _ b _ f i _ w3 w1 (z_in hi (List.getElem?_eq_some_iff.mp hx).1) (zgo_kk hs kk I1 ⟨_, _, rfl, rfl, hr⟩ I3)
        · cases hs
      · cases hs
    · cases hs
  · cases hs
theorem z_ast {t : Nat} {g : Int32 → Option Int32} (ht : t = 100 ∨ t = 101 ∨ t = 102) (hs : zast t g nx L st h = some (.inl (pc', L', st', h', dc, ds))) (I : zR sp ty D A H0 nL ads L st h ls str H locs) (kk : zKK p l e R s m args below meth c cells slots Q sp ty D A H0 nL ads pc' L' st' h' dc ds)
    (row : ∀ (ws : va_W) (k a n : Nat) (f : Nat → Int32) (i x z : Int32) (r : List Value), g x = some z → va_P D zcl ws H → va_D A ws → va_S A H0 H locs → ws[k]? = some (a, .inl (ty (t - 100), n, .inl f)) → vp_in i n →
      (∀ (H1 : Heap) (locs1 : List Loc), va_P D zcl (ws.set k (a, .inl (ty (t - 100), n, .inl (upd f i.toNatClampNeg z)))) H1 → va_D A (ws.set k (a, .inl (ty (t - 100), n, .inl (upd f i.toNatClampNeg z)))) → va_S A H0 H1 locs1 → W p l e R s m args below meth c H1 locs1 cells slots Q (F0 m nx ls r)) →
      W p l e R s m args below meth c H locs cells slots Q (F0 m pc ls (.int x :: .int i :: .ref a :: r))) : W p l e R s m args below meth c H locs cells slots Q (F0 m pc ls str) := by
  obtain ⟨I1, I2, I3⟩ := I
  unfold zast at hs
  split at hs
  · next x i a r =>
    split at hs
    · next t' vs ha =>
      split at hs
      · next e1 =>
        subst e1
        split at hs
        · cases hs
        · next hi =>
          split at hs
          · next hl =>
            split at hs
            · next z hz =>
              obtain ⟨_, _, rfl, hu, _, _, rfl, hv, _, _, rfl, hw, hr⟩ := I2
              cases (show _ = Value.int _ from hu); cases (show _ = Value.int _ from hv)
              obtain ⟨ws, b, e, rfl, w0, w1, w2, w3, w4, w5, w6, w7, w8⟩ := z_W I3 ha hw
              obtain ⟨f, rfl, hf⟩ := z_arr ht w2
              refine row ws _ b _ f i x z _ hz w3 w4 w5 w1 (z_in hi hl) (fun H1 locs1 g1 g2 g3 => ?_)
              refine zgo_kk hs kk I1 hr (z_Wset w6 w7 w8 w1 (Or.inr (Or.inl ⟨ht, upd f i.toNatClampNeg z, by rw [List.length_set], fun j x hj => ?_⟩)) g1 g2 g3)
              dsimp only at hj
              by_cases e9 : j = i.toNatClampNeg
              · subst e9
                rw [List.getElem?_set_self hl] at hj
                cases hj
                rw [show upd f i.toNatClampNeg z i.toNatClampNeg = z from if_pos rfl]
              · rw [List.getElem?_set_ne (fun z => e9 z.symm)] at hj
                rw [hf j x hj, show upd f i.toNatClampNeg z j = f j from if_neg e9]
            · cases hs
          · cases hs
      · cases hs
    · cases hs
  · cases hs
theorem z_aald (hs : zaald nx L st h = some (.inl (pc', L', st', h', dc, ds))) (I : zR sp ty D A H0 nL ads L st h ls str H locs) (kk : zKK p l e R s m args below meth c cells slots Q sp ty D A H0 nL ads pc' L' st' h' dc ds)
    (row : ∀ (ws : va_W) (t k a n : Nat) (f : Nat → Option Nat) (i : Int32) (r : List Value), (t = 103 ∨ t = 104) → va_P D zcl ws H → ws[k]? = some (a, .inl (ty (t - 100), n, .inr (.inr (.inr (.inr f))))) → vp_in i n → W p l e R s m args below meth c H locs cells slots Q (F0 m nx ls (va_rf (f i.toNatClampNeg) :: r)) → W p l e R s m args below meth c H locs cells slots Q (F0 m pc ls (.int i :: .ref a :: r))) : W p l e R s m args below meth c H locs cells slots Q (F0 m pc ls str) := by
  obtain ⟨I1, I2, I3⟩ := I
  unfold zaald at hs
  split at hs
  · next i a r =>
    split at hs
    · next t vs ha =>
      split at hs
      · next ht =>
        split at hs
        · next x hx =>
          split at hs
          · cases hs
          · next hi =>
            obtain ⟨_, _, rfl, hv, _, _, rfl, hw, hr⟩ := I2
            cases (show _ = Value.int _ from hv)
            obtain ⟨ws, b, e, rfl, w0, w1, w2, w3, -⟩ := z_W I3 ha hw
            obtain ⟨f, rfl, hf⟩ := z_arq ht w2
            exact row ws t _ b _ f i _ ht w3 w1 (z_in hi (List.getElem?_eq_some_iff.mp hx).1) (zgo_kk hs kk I1 ⟨_, _, rfl, hf _ _ hx, hr⟩ I3)
        · cases hs
      · cases hs
    · cases hs
  · cases hs
theorem z_aast (hs : zaast nx L st h = some (.inl (pc', L', st', h', dc, ds))) (I : zR sp ty D A H0 nL ads L st h ls str H locs) (kk : zKK p l e R s m args below meth c cells slots Q sp ty D A H0 nL ads pc' L' st' h' dc ds)
    (row : ∀ (ws : va_W) (k k2 a b n n2 : Nat) (f : Nat → Option Nat) (f2 : Nat → Int32) (i : Int32) (r : List Value), va_P D zcl ws H → va_D A ws → va_S A H0 H locs → ws[k]? = some (a, .inl (ty 3, n, .inr (.inr (.inr (.inr f))))) → ws[k2]? = some (b, .inl (ty 0, n2, .inl f2)) → vp_in i n →
      (∀ (H1 : Heap) (locs1 : List Loc), va_P D zcl (ws.set k (a, .inl (ty 3, n, .inr (.inr (.inr (.inr (va_up f i.toNatClampNeg (some b)))))))) H1 → va_D A (ws.set k (a, .inl (ty 3, n, .inr (.inr (.inr (.inr (va_up f i.toNatClampNeg (some b)))))))) → va_S A H0 H1 locs1 → W p l e R s m args below meth c H1 locs1 cells slots Q (F0 m nx ls r)) →
      W p l e R s m args below meth c H locs cells slots Q (F0 m pc ls (.ref b :: .int i :: .ref a :: r))) : W p l e R s m args below meth c H locs cells slots Q (F0 m pc ls str) := by
  obtain ⟨I1, I2, I3⟩ := I
  unfold zaast at hs
  split at hs
  · next x i a r =>
    split at hs
    · next t vs t' vs' ha hx =>
      split at hs
      · next ht =>
        obtain ⟨rfl, rfl⟩ := ht
        split at hs
        · cases hs
        · next hi =>
          split at hs
          · next hl =>
            obtain ⟨_, _, rfl, hu, _, _, rfl, hv, _, _, rfl, hw, hr⟩ := I2
            cases (show _ = Value.int _ from hv)
            have hu9 := hu
            obtain ⟨b, hb9, rfl⟩ := hu9
            obtain ⟨ws, b1, e, rfl, w0, w1, w2, w3, w4, w5, w6, w7, w8⟩ := z_W I3 ha hw
            obtain ⟨f, rfl, hf⟩ := z_arq (Or.inl rfl) w2
            have hl2 : x < ws.length := by rw [← w7]; exact (List.getElem?_eq_some_iff.mp hx).1
            obtain ⟨q, hq⟩ : ∃ q, ws[x]? = some q := ⟨_, List.getElem?_eq_getElem hl2⟩
            have h1 : ads[x]? = some q.1 := by rw [← w6, List.getElem?_map, hq]; rfl
            cases Option.some.inj (hb9.symm.trans h1)
            obtain ⟨q1, q2⟩ := q
            obtain ⟨f2, rfl, -⟩ := z_arr (Or.inl rfl) (w8 _ _ _ hx hq)
            refine row ws _ _ b1 _ _ _ f f2 i _ w3 w4 w5 w1 hq (z_in hi hl) (fun H1 locs1 g1 g2 g3 => ?_)
            refine zgo_kk hs kk I1 hr (z_Wset w6 w7 w8 w1 (Or.inr (Or.inr ⟨Or.inl rfl, va_up f i.toNatClampNeg (some q1), by simp only [List.length_set], fun j x9 hj => ?_⟩)) g1 g2 g3)
            dsimp only at hj
            by_cases e9 : j = i.toNatClampNeg
            · subst e9
              rw [List.getElem?_set_self hl] at hj
              cases hj
              rw [va_up_self]
              exact hu
            · rw [List.getElem?_set_ne (fun z => e9 z.symm)] at hj
              rw [va_up_ne _ _ e9]
              exact hf j x9 hj
          · cases hs
      · cases hs
    · cases hs
  · cases hs
theorem z_get {f9 k : Nat} (hs : zget zcf f9 k nx L st h = some (.inl (pc', L', st', h', dc, ds))) (I : zR sp ty D A H0 nL ads L st h ls str H locs) (kk : zKK p l e R s m args below meth c cells slots Q sp ty D A H0 nL ads pc' L' st' h' dc ds)
    (row : ∀ (ws : va_W) (j a ci kd : Nat) (vs : List Value) (v : Value) (r : List Value), va_P D zcl ws H → ws[j]? = some (a, .inr (ci, vs)) → (zcf ci)[k]? = some (f9, kd) → vs[k]? = some v → W p l e R s m args below meth c H locs cells slots Q (F0 m nx ls (v :: r)) → W p l e R s m args below meth c H locs cells slots Q (F0 m pc ls (.ref a :: r))) : W p l e R s m args below meth c H locs cells slots Q (F0 m pc ls str) := by
  obtain ⟨I1, I2, I3⟩ := I
  unfold zget at hs
  split at hs
  · next a r =>
    split at hs
    · next t vs ha =>
      split at hs
      · next f' kd hf =>
        split at hs
        · next e1 =>
          subst e1
          split at hs
          · next v hv9 =>
            obtain ⟨_, _, rfl, hw, hr⟩ := I2
            obtain ⟨ws, b, e, rfl, w0, w1, w2, w3, -⟩ := z_W I3 ha hw
            have ht : t < 100 := by
              by_cases q : t < 11
              · omega
              · have : zcf t = [] := zcf_out (by omega)
                rw [this] at hf
                cases hf
            obtain ⟨vs', rfl, h9⟩ := z_obj ht w2
            obtain ⟨v', g1, g2⟩ := zS_at h9 hv9
            exact row ws _ b t kd vs' v' _ w3 w1 hf g1 (zgo_kk hs kk I1 ⟨_, _, rfl, g2, hr⟩ I3)
          · cases hs
        · cases hs
      · cases hs
    · cases hs
  · cases hs
theorem zfdk_V {kd : Nat} {v v' : Value} (h : zfdk kd v = true) (hv : zV sp ads v v') {t9 : FieldType} (ht : zkt kd t9) : narrow t9 v' = v' ∧ fits t9 v' = true := by
  unfold zfdk at h
  split at h
  · cases (show _ = Value.int _ from hv)
    cases (show t9 = .int from ht)
    exact ⟨rfl, rfl⟩
  · next x =>
    cases (show _ = Value.int _ from hv)
    cases (show t9 = .boolean from ht)
    rcases of_decide_eq_true h with rfl | rfl <;> exact ⟨rfl, rfl⟩
  · next x =>
    cases (show _ = Value.int _ from hv)
    cases (show t9 = .byte from ht)
    obtain ⟨h1, h2⟩ := of_decide_eq_true h
    refine ⟨?_, by simp [fits, h1, h2]⟩
    exact zby h1 h2
  · cases (show _ = Value.long _ from hv)
    cases (show t9 = .long from ht)
    exact ⟨rfl, rfl⟩
  · cases (show _ = Value.double _ from hv)
    cases (show t9 = .double from ht)
    exact ⟨rfl, rfl⟩
  · obtain ⟨a, -, rfl⟩ := hv
    rcases (show (∃ n, t9 = .object n) ∨ ∃ t, t9 = .array t from ht) with ⟨n, rfl⟩ | ⟨n, rfl⟩ <;> exact ⟨rfl, rfl⟩
  · cases (show _ = Value.null from hv)
    rcases (show (∃ n, t9 = .object n) ∨ ∃ t, t9 = .array t from ht) with ⟨n, rfl⟩ | ⟨n, rfl⟩ <;> exact ⟨rfl, rfl⟩
  · obtain ⟨-, rfl⟩ := hv
    rcases (show (∃ n, t9 = .object n) ∨ ∃ t, t9 = .array t from ht) with ⟨n, rfl⟩ | ⟨n, rfl⟩ <;> exact ⟨rfl, rfl⟩
  · cases h
theorem z_put {f9 k : Nat} (hs : zput zcf f9 k nx L st h = some (.inl (pc', L', st', h', dc, ds))) (I : zR sp ty D A H0 nL ads L st h ls str H locs) (kk : zKK p l e R s m args below meth c cells slots Q sp ty D A H0 nL ads pc' L' st' h' dc ds)
    (row : ∀ (ws : va_W) (j a ci kd : Nat) (vs : List Value) (v : Value) (r : List Value), va_P D zcl ws H → va_D A ws → va_S A H0 H locs → ws[j]? = some (a, .inr (ci, vs)) → (zcf ci)[k]? = some (f9, kd) → (∀ t9, zkt kd t9 → narrow t9 v = v ∧ fits t9 v = true) → k < vs.length →
      (∀ (H1 : Heap) (locs1 : List Loc), va_P D zcl (ws.set j (a, .inr (ci, vs.set k v))) H1 → va_D A (ws.set j (a, .inr (ci, vs.set k v))) → va_S A H0 H1 locs1 → W p l e R s m args below meth c H1 locs1 cells slots Q (F0 m nx ls r)) → W p l e R s m args below meth c H locs cells slots Q (F0 m pc ls (v :: .ref a :: r))) : W p l e R s m args below meth c H locs cells slots Q (F0 m pc ls str) := by
  obtain ⟨I1, I2, I3⟩ := I
  unfold zput at hs
  split at hs
  · next v a r =>
    split at hs
    · next t vs ha =>
      split at hs
      · next f' kd hf =>
        split at hs
        · next e1 =>
          subst e1
          split at hs
          · next hk9 =>
            split at hs
            · next hl =>
              obtain ⟨v', _, rfl, hv, _, _, rfl, hw, hr⟩ := I2
              obtain ⟨ws, b, e, rfl, w0, w1, w2, w3, w4, w5, w6, w7, w8⟩ := z_W I3 ha hw
              have ht : t < 100 := by
                by_cases q : t < 11
                · omega
                · have : zcf t = [] := zcf_out (by omega)
                  rw [this] at hf
                  cases hf
              obtain ⟨vs', rfl, h9⟩ := z_obj ht w2
              refine row ws _ b t kd vs' v' _ w3 w4 w5 w1 hf (fun t9 g => zfdk_V hk9 hv g) (by rw [zS_len h9]; exact hl) (fun H1 locs1 g1 g2 g3 => ?_)
              exact zgo_kk hs kk I1 hr (z_Wset w6 w7 w8 w1 (Or.inl ⟨ht, _, rfl, zS_set hv h9 k⟩) g1 g2 g3)
            · cases hs
          · cases hs
        · cases hs
      · cases hs
    · cases hs
  · cases hs
theorem z_alen (hSP : zSP xs sp A s) (hs : zalen xs nx L st h = some (.inl (pc', L', st', h', dc, ds))) (I : zR sp ty D A s.heap nL ads L st h ls str H locs) (kk : zKK p l e R s m args below meth c cells slots Q sp ty D A s.heap nL ads pc' L' st' h' dc ds)
    (row : ∀ (ws : va_W) (t k a : Nat) (x : vp_A) (r : List Value), 100 ≤ t → t < 105 → va_P D zcl ws H → ws[k]? = some (a, .inl (ty (t - 100), x)) → W p l e R s m args below meth c H locs cells slots Q (F0 m nx ls (.int (Int32.ofNat x.1) :: r)) → W p l e R s m args below meth c H locs cells slots Q (F0 m pc ls (.ref a :: r)))
    (rowX : ∀ r : List Value, va_S A s.heap H locs → W p l e R s m args below meth c H locs cells slots Q (F0 m nx ls (.int (Int32.ofNat xs.length) :: r)) → W p l e R s m args below meth c H locs cells slots Q (F0 m pc ls (.ref (sp 0) :: r))) : W p l e R s m args below meth c H locs cells slots Q (F0 m pc ls str) := by
  obtain ⟨I1, I2, I3⟩ := I
  unfold zalen at hs
  split at hs
  · next a r =>
    split at hs
    · next t vs ha =>
      split at hs
      · next ht =>
        obtain ⟨_, _, rfl, hw, hr⟩ := I2
        obtain ⟨ws, b, e, rfl, w0, w1, w2, w3, -⟩ := z_W I3 ha hw
        rcases w2 with ⟨h1, -⟩ | ⟨h1, f, rfl, -⟩ | ⟨h1, f, rfl, -⟩
        · exact absurd h1 (by dsimp only; omega)
        · exact row ws t _ b (vs.length, .inl f) _ ht (by dsimp only at h1; omega) w3 w1 (zgo_kk hs kk I1 ⟨_, _, rfl, rfl, hr⟩ I3)
        · exact row ws t _ b (vs.length, .inr (.inr (.inr (.inr f)))) _ ht (by dsimp only at h1; omega) w3 w1 (zgo_kk hs kk I1 ⟨_, _, rfl, rfl, hr⟩ I3)
      · cases hs
    · cases hs
  · obtain ⟨_, _, rfl, ⟨-, rfl⟩, hr⟩ := I2
    obtain ⟨ws, w1, w2, w3, -⟩ := id I3
    exact rowX _ w3 (zgo_kk hs kk I1 ⟨_, _, rfl, rfl, hr⟩ I3)
  · cases hs
theorem z_ialoadX (hs : zialoadX xs nx L st h = some (.inl (pc', L', st', h', dc, ds))) (I : zR sp ty D A s.heap nL ads L st h ls str H locs) (kk : zKK p l e R s m args below meth c cells slots Q sp ty D A s.heap nL ads pc' L' st' h' dc ds)
    (row : ∀ (ws : va_W) (k a n : Nat) (f : Nat → Int32) (i : Int32) (r : List Value), va_P D zcl ws H → ws[k]? = some (a, .inl (ty (100 - 100), n, .inl f)) → vp_in i n → W p l e R s m args below meth c H locs cells slots Q (F0 m nx ls (.int (f i.toNatClampNeg) :: r)) → W p l e R s m args below meth c H locs cells slots Q (F0 m pc ls (.int i :: .ref a :: r)))
    (rowX : ∀ (i : Int32) (r : List Value), va_S A s.heap H locs → vp_in i xs.length → W p l e R s m args below meth c H locs cells slots Q (F0 m nx ls (.int (xs.getD i.toNatClampNeg 0) :: r)) → W p l e R s m args below meth c H locs cells slots Q (F0 m pc ls (.int i :: .ref (sp 0) :: r))) : W p l e R s m args below meth c H locs cells slots Q (F0 m pc ls str) := by
  unfold zialoadX at hs
  split at hs
  · next i r =>
    obtain ⟨I1, I2, I3⟩ := I
    split at hs
    · cases hs
    · next hi =>
      split at hs
      · next x hx =>
        obtain ⟨_, _, rfl, hv, _, _, rfl, ⟨-, rfl⟩, hr⟩ := I2
        cases (show _ = Value.int _ from hv)
        obtain ⟨ws, w1, w2, w3, -⟩ := id I3
        refine rowX i _ w3 (z_in hi (List.getElem?_eq_some_iff.mp hx).1) ?_
        rw [List.getD_eq_getElem?_getD, hx]
        exact zgo_kk hs kk I1 ⟨_, _, rfl, rfl, hr⟩ I3
      · cases hs
  · exact z_ald (Or.inl rfl) hs I kk row
/-- a new object of a class -/
theorem z_new {y c9 idx : Nat} (hX : zX xs sp ty D A y p R s m args meth c) (hc9 : c9 < 6) (hl : zCok (zmo y, idx, c9)) (hdg : decode (zmb y) pc = .ok (.new idx, 3)) (hnx : nx = pc + 3) (hs : znew zcf c9 nx L st h = some (.inl (pc', L', st', h', dc, ds))) (I : zR sp ty D A s.heap nL ads L st h ls str H locs)
    (hcl : cells + dc ≤ R.cells) (hsl : slots + ds ≤ R.slots) (kk : zKK p l e R s m args below meth c cells slots Q sp ty D A s.heap nL ads pc' L' st' h' dc ds) : W p l e R s m args below meth c H locs cells slots Q (F0 m pc ls str) := by
  obtain ⟨hx, hb, hml, hret, hlk, hown, hnm, hts, hK, hA, hSP, -⟩ := hX
  obtain ⟨I1, I2, ws, w1, w2, w3, w4, w5, w6⟩ := I
  obtain ⟨l1, l2, l3⟩ := hl
  obtain ⟨o1, o2, o3, o4, o5, o6⟩ := zc_ok c9 hc9
  cases (show some (Sum.inl (nx, L, Value.ref h.length :: st, h ++ [(c9, (zcf c9).map (fun q => zdf q.2))], 1, (zcf c9).length)) = some (Sum.inl (pc', L', st', h', dc, ds)) from hs)
  subst hnx
  refine va_new (D := D) (ci := c9) (fs := (zcf c9).map (fun q => zdf q.2)) (C := zcn c9) (T := zT c9) (N := (zcf c9).length) hx hb hts o1 (zty c9) o3 hown (hts _ l1) (hts _ l2) (hts _ l3) hK w1 w2 w3 hA o6 (fun j hj => ?_) hcl hsl hdg (fun q H1 g1 g2 g3 => ?_)
  · rw [o5 j hj]
    unfold vp_V
    simp only [List.getD_eq_getElem?_getD, List.getElem?_map, List.getElem?_eq_getElem hj]
    rfl
  · refine kk [q] ls (.ref q :: str) H1 locs ⟨zLR_mono _ I1, ⟨_, _, rfl, ⟨q, ?_, rfl⟩, zS_mono _ I2⟩, z_Wapp (wn := [(q, .inr (c9, (zcf c9).map (fun q => zdf q.2)))]) w4 w5 w6 rfl (fun k c q h1 h2 => ?_) g1 g2 g3⟩
    · have : ads.length = h.length := by rw [← w4, List.length_map, w5]
      rw [← this, List.getElem?_append_right (Nat.le_refl _), Nat.sub_self]
      rfl
    · cases k with
      | zero =>
        cases h1; cases h2
        exact Or.inl ⟨by dsimp only; omega, _, rfl, zdfs _ _ _⟩
      | succ k => simp at h1
/-- a new row of numbers -/
theorem z_newa {y : Nat} {at9 : ArrayType} (hX : zX xs sp ty D A y p R s m args meth c) (hdg : decode (zmb y) pc = .ok (.newarray at9, 2)) (hnx : nx = pc + 2) (hs : znewa (ztag at9) (.int 0) nx L st h = some (.inl (pc', L', st', h', dc, ds))) (I : zR sp ty D A s.heap nL ads L st h ls str H locs)
    (hcl : cells + dc ≤ R.cells) (hsl : slots + ds ≤ R.slots) (kk : zKK p l e R s m args below meth c cells slots Q sp ty D A s.heap nL ads pc' L' st' h' dc ds) : W p l e R s m args below meth c H locs cells slots Q (F0 m pc ls str) := by
  obtain ⟨hx, hb, hml, hret, hlk, hown, hnm, hts, hK, hA, hSP, -⟩ := hX
  obtain ⟨I1, I2, ws, w1, w2, w3, w4, w5, w6⟩ := I
  unfold znewa at hs
  split at hs
  · next n r =>
    split at hs
    · cases hs
    · next hn =>
      split at hs
      · next hN =>
        split at hs
        · cases hs
        · next ht =>
          obtain ⟨_, r9, rfl, hv, hr⟩ := I2
          cases (show _ = Value.int _ from hv)
          cases hs
          subst hnx
          have key : ∀ (t9 : FieldType) (t0 : Nat), newarray.typeOf at9 = t9 → ztag at9 = 100 + t0 → t0 ≤ 2 → (ztys ty)[t0]? = some (ty t0, t9) → defaultValue t9 = .int 0 → componentBytes t9 ≤ 4 → (Jvm.Cond.arrayClass t9) ∈ zB → s.vm.findClass ("[" ++ t9.toString) = some (ty t0) → W p l e R s m args below meth c H locs cells slots Q (F0 m pc ls (.int n :: r9)) := by
            intro t9 t0 e1 e2 e3 e4 e5 e6 e7 e8
            refine va_newaK hx hb (by rw [e1]; exact hts _ e7) (g := F0 m pc ls (.int n :: r9)) rfl hdg rfl hn rfl (by rw [e1]; exact Nat.le_trans (Nat.mul_le_mul hN e6) (by decide)) hcl hsl rfl fun H1 cA f1 z1 o1 hAr hNm => ?_
            rw [e1] at f1 hAr hNm
            have hcA : cA = ty t0 := Option.some.inj (hNm.symm.trans e8)
            subst hcA
            have hk : ∀ (k : Nat) (x : Nat × va_E), ws[k]? = some x → H1[x.1]? = H[x.1]? := fun k x hx => o1 x.1 ((w1 k x hx).lt)
            rw [e2] at kk
            refine kk [H.size] ls (.ref H.size :: r9) H1 locs ⟨zLR_mono _ I1, ⟨_, _, rfl, ⟨H.size, ?_, rfl⟩, zS_mono _ hr⟩, z_Wapp (wn := [(H.size, .inl (ty t0, n.toNatClampNeg, .inl (fun _ => 0)))]) w4 w5 w6 rfl (fun k c q h1 h2 => ?_) ((w1.kept hk).app (fun k x hx => ?_)) (w2.push w1 rfl (hA _ w3.1)) ⟨Nat.le_trans w3.1 (by omega), fun x h1 h2 => (o1 x (Nat.lt_of_lt_of_le h1 w3.1)).trans (w3.2.1 x h1 h2), w3.2.2⟩⟩
            · have : ads.length = h.length := by rw [← w4, List.length_map, w5]
              rw [← this, List.getElem?_append_right (Nat.le_refl _), Nat.sub_self]
              rfl
            · cases k with
              | zero =>
                cases h1; cases h2
                refine Or.inr (Or.inl ⟨by dsimp only; omega, fun _ => 0, by simp, fun j x hj => ?_⟩)
                exact (List.eq_of_mem_replicate (List.mem_of_getElem? hj))
              | succ k => simp at h1
            · have hz : k < 1 := (List.getElem?_eq_some_iff.mp hx).1
              rw [show k = 0 by omega] at hx
              cases hx
              show H1[H.size]? = some (vp_cell _ _)
              rw [vp_cell_i, f1, e5]
          have hk2 := hK.2
          cases at9 <;> first
            | exact key .int 0 rfl rfl (by decide) rfl rfl (by decide) zAi ((hk2 0 _ rfl).2)
            | exact absurd rfl ht
      · cases hs
  · cases hs
end ZZ
