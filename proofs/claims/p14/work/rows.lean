section
/-! ===== BEGIN words of one list among another's, by their places ===== -/
theorem goodIn_r {big : List Cond} (ws : List Cond) (ps : List Nat) (hp : ws = ps.filterMap (fun i => big[i]?)) (h : ws.all goodWord = true) : GoodIn big ws := by
  intro w hw
  have h1 := List.all_eq_true.mp h w hw
  rw [hp] at hw
  obtain ⟨i, -, hi⟩ := List.mem_filterMap.mp hw
  have hm : w ∈ big := by first | exact List.mem_of_getElem? hi | exact List.getElem?_mem hi
  exact ⟨hm, good_of_word h1⟩
theorem goodIn_app {big a b : List Cond} (ha : GoodIn big a) (hb : GoodIn big b) : GoodIn big (a ++ b) := fun w h => (List.mem_append.mp h).elim (ha w) (hb w)
theorem goodIn_ca {big a b : List Cond} {c : Cond} (ha : GoodIn big (c :: a)) (hb : GoodIn big b) : GoodIn big (c :: (a ++ b)) := fun w h => (List.mem_cons.mp h).elim (fun e => ha w (List.mem_cons.mpr (Or.inl e))) (fun h => (List.mem_append.mp h).elim (fun h => ha w (List.mem_cons.mpr (Or.inr h))) (hb w))
theorem goodIn_sub {big ws : List Cond} (hm : ∀ w ∈ ws, w ∈ big) (h : ws.all goodWord = true) : GoodIn big ws := fun w hw => ⟨hm w hw, good_of_word (List.all_eq_true.mp h w hw)⟩
/-! ===== END ===== -/
/-! ===== BEGIN exceptions that leave a method, and their catching by the caller (launches without stack traces) ===== -/
section VXA
/-! The laws vx_back, vx_callV, vx_callS, vx_callSW, vx_throw0, vx_throwS follow proofs of the library, with one case more: JvmDerived/Free/Laws.lean (Back.of_free), Shelf42/LK1.lean (callV, callS), Shelf/KitTraced.lean (throwNew0V, throwNewS). -/
/-- where a method has thrown q: the class by its name, the cell, what was written, the world -/
def vx_T (XC : String → State → State → Prop) (st : State) (q : Addr) (t : State) (mc ms : Nat) (free : Addr → Prop) : Prop :=
  ∃ (E : String) (ce : Cell) (L : List Loc), XC E st t ∧ t.heap[q]? = some ce ∧ ce.vm = .none ∧ st.vm.findClass E = some ce.cls ∧ st.WarmedH t.vm ∧ st.sameButNew ({ t with vm := st.vm } : State) L mc ms ∧ ∀ z ∈ L, free z.base
def vx_Q (Qc : Array Value → State → Outcome → State → Prop) (XC : String → State → State → Prop) (mc ms : Nat) (free : Addr → Prop) : Array Value → State → Outcome → State → Prop := fun a st o t =>
  (Qc a st o t ∧ ∃ L, FrameEnd st o t L mc ms ∧ ∀ q ∈ L, free q.base) ∨ ∃ q, o = .threw q ∧ vx_T XC st q t mc ms free
/-- a callee that returns or throws -/
def vx_Met (l : Launch) (y : MethodName) (ws : List Cond) (rm : Room) (Pc : Array Value → State → Prop) (Qc : Array Value → State → Outcome → State → Prop) (XC : String → State → State → Prop) (mc ms : Nat) (free : Addr → Prop) : Prop :=
  MetFree l y (headSpec ws rm) Pc (fun _ _ _ _ _ => True) (vx_Q Qc XC mc ms free)
def vx_Post (XC : String → State → State → Prop) (mc ms : Nat) (free : Addr → Prop) : Pt → Array Value → Addr → Pt → Prop := fun A a q B =>
  ∃ (g : JFrame) (mk : MethodId) (t : State) (L : List Loc) (E : String) (ce : Cell), B.U.heap = t.heap ∧ B.U.vm = t.vm ∧ XC E (A.U.calling g mk a) t ∧ t.heap[q]? = some ce ∧ ce.vm = .none ∧ A.U.vm.findClass E = some ce.cls ∧ B.locs = A.locs ++ L ∧ (∀ z ∈ L, free z.base) ∧ B.cells = A.cells + mc ∧ B.slots = A.slots + ms
def vx_Back (l : Launch) (R : Room) (p : Program) (e : Env) (below : List Frame) (s : State) (sargs : Array Value) (y : MethodName) (len W9 : Nat)
    (Pre : Pt → Array Value → Prop) (Post : Pt → Array Value → Option Value → Pt → Prop) (PostX : Pt → Array Value → Addr → Pt → Prop) : Prop :=
  ∀ (m : MethodId) (meth : Method) (c : Code) (A : Pt) (g : JFrame) (ig : Instr) (mk : MethodId) (a : Array Value),
    Stand p l e R s m sargs below meth c A.U A.locs A.cells A.slots → g.method = m → g.locals.size = c.maxLocals → decode c.code g.pc = .ok (ig, len) →
    2 * g.monitorRoom + (g.stack.map fun v => v.category).sum ≤ W9 → A.U.methodNamed? y = some mk → Pre A a →
    (∃ (v : Option Value) (B : Pt), Stand p l e R s m sargs below meth c B.U B.locs B.cells B.slots ∧ Post A a v B ∧
      Steps p.tables e below (doInvoke e (A.U.setTop g) [] mk a).1 (B.U.setTop { g with pc := g.pc + len, stack := v.toList ++ g.stack })) ∨
    (∃ (q : Addr) (B : Pt), Stand p l e R s m sargs below meth c B.U B.locs B.cells B.slots ∧ PostX A a q B ∧
      Steps p.tables e below (doInvoke e (A.U.setTop g) [] mk a).1 ((B.U.setTop g).pushFrame (.throwing q)))
section Payer
variable {l : Launch} {R : Room} {p : Program} {e : Env} {below : List Frame} {s : State} {sargs : Array Value} {y : MethodName} {len W9 : Nat}
theorem vx_back {ws : List Cond} {rm : Room} {Pc : Array Value → State → Prop} {Qc : Array Value → State → Outcome → State → Prop} {XC : String → State → State → Prop} {mc ms : Nat} {free : Addr → Prop} {bytes : ByteArray} {maxL : Nat} {ret : Option FieldType}
    (hM : vx_Met l y ws rm Pc Qc XC mc ms free) (hblind : FrameBlind Pc) (hrc : rm.cells = mc) (hrs : rm.slots = ms)
    (hframes : rm.frames + 1 ≤ R.frames) (hlocals : W9 + (maxL + 11) + rm.locals ≤ R.locals)
    (hws : ∀ w ∈ ws, ∀ a' U, s.WarmedH U.vm → w.before a' U = true) (hcode : Cond.code y bytes maxL ret ∈ ws) (hinit : ∀ a' U, s.WarmedH U.vm → (Cond.initialized y.cls).before a' U = true) :
    vx_Back l R p e below s sargs y len W9 (PreOf R mc ms Pc) (PostOf Qc mc ms free) (vx_Post XC mc ms free) := by
  intro m meth c A g ig mk a X hg hsize hdg hW hn hp
  have h1 : (headSpec ws rm).pre.before a A.U = true := atoms_intro fun w hw => hws w hw _ _ X.warmed
  have h2 : (Cond.code y bytes maxL ret).before a A.U = true := hws _ hcode _ _ X.warmed
  have h3 : (Cond.initialized y.cls).before a A.U = true := hinit _ _ X.warmed
  have h4 : A.cells + (headSpec ws rm).room.cells ≤ R.cells := by rw [show (headSpec ws rm).room.cells = mc from hrc]; exact hp.1
  have h5 : A.slots + (headSpec ws rm).room.slots ≤ R.slots := by rw [show (headSpec ws rm).room.slots = ms from hrs]; exact hp.2.1
  have hPc : Pc a (A.U.calling g mk a) := hblind _ _ _ _ hp.2.2
  obtain ⟨U, Ls, c0, s0⟩ := A
  dsimp only [Pt.U, Pt.locs, Pt.cells, Pt.slots] at h1 h2 h3 h4 h5 X hn hPc ⊢
  obtain ⟨methY, cY, hmY, hcY, -, hlY, -, -, -, -⟩ := Cond.code_spec hn h2
  obtain ⟨kY, hkY, -⟩ := className_of_methodNamed hn
  have hinitY : kY.init = .initialized := Cond.initialized_spec (findClass_of_methodNamed hn) hkY h3
  have h : At U g.method c below := by rw [hg]; exact X.here
  have hlocals9 : W9 + (maxL + 11) + (headSpec ws rm).room.locals ≤ R.locals := hlocals
  have happ : (headSpec ws rm).appliesLoose y e.platform (U.calling g mk a) = true :=
    Spec.appliesLoose_calling (g := g) h hdg hn hkY hinitY
      (X.room_calling (g := g) (R' := (headSpec ws rm).room) hsize hmY hcY hframes (by rw [hlY]; omega) h4 h5) h1
  obtain ⟨mid, hmid⟩ := h.above
  have hfr : (U.setTop g).frames = (.java g :: mid) ++ below := by rw [State.frames_setTop' g h.top, hmid]; rfl
  obtain ⟨o, s₂, hsteps, -, hend, hq⟩ := Steps.callFree hM p X.admits X.cas X.clock (acts := []) hfr happ hPc trivial
  have hq' : vx_Q Qc XC mc ms free a (U.calling g mk a) o s₂ := hq
  rw [State.frames_setTop' g h.top] at hend
  obtain ⟨g₀, hg0⟩ := Option.isSome_iff_exists.mp h.top
  obtain ⟨r, hr⟩ := State.topJava?_eq_some.mp hg0
  have hr' : (({ U with heap := s₂.heap, slotsUsed := s₂.slotsUsed } : State).setVm s₂.vm).frames = .java g₀ :: r := hr
  rcases hq' with ⟨hqc, L, hfe, hL⟩ | ⟨q, rfl, E, ce, L, hx, hce, hcv, hcl, hW₂, hsm, hL⟩
  · obtain ⟨⟨v, rfl⟩, hW₂, e2, q2, q3, q4, q5, q6⟩ := id hfe
    have e3 : s₂ = ({ (U.calling g mk a).setFrames s₂.frames with heap := s₂.heap, slotsUsed := s₂.slotsUsed } : State).setVm s₂.vm := by
      have : s₂ = ({ s₂ with vm := (U.calling g mk a).vm } : State).setVm s₂.vm := rfl
      rw [e2] at this
      exact this
    obtain ⟨c₂, i₂, len₂, hc₂, hd₂, hf₂⟩ := hend
    have hW' : U.WarmedH s₂.vm := hW₂
    have hcc : c₂ = c := by
      have h1 : s₂.code? g.method = U.code? g.method := by
        rw [State.code?_eq, State.code?_eq, hW'.alike.method?]
      exact Option.some.inj (hc₂.symm.trans (h1.trans h.code))
    subst hcc
    have hlen : len₂ = len := by rw [hdg] at hd₂; cases hd₂; rfl
    subst hlen
    have hs₂ : s₂ = (({ U with heap := s₂.heap, slotsUsed := s₂.slotsUsed } : State).setVm s₂.vm).setTop { g with pc := g.pc + len₂, stack := v.toList ++ g.stack } := by
      refine e3.trans ?_
      rw [hf₂, State.calling_eq h.top, State.setFrames_setFrames, State.setTop_of_frames _ hr', hr]
      rfl
    have hsame : U.sameButNew ({ U with heap := s₂.heap, slotsUsed := s₂.slotsUsed } : State) L mc ms := by
      refine ⟨?_, q2, q3, q4, q5, q6⟩
      obtain ⟨t, ht, -⟩ := State.frames_cons hr
      show ({ U with heap := s₂.heap, slotsUsed := s₂.slotsUsed } : State) = { U.setFrames U.frames with heap := s₂.heap, slotsUsed := s₂.slotsUsed }
      rw [State.setFrames_self ht]
    subst hg
    refine Or.inl ⟨v, ⟨(({ U with heap := s₂.heap, slotsUsed := s₂.slotsUsed } : State).setVm s₂.vm), Ls ++ L, c0 + mc, s0 + ms⟩,
      ⟨X.admits, X.cas, X.clock, X.frames, X.room, X.hears, X.method, X.code, (X.here.setHeapUsed s₂.heap s₂.slotsUsed).setVm hW'.alike, X.tail, State.WarmedH.trans X.warmed hW', X.limits, X.bytes, X.same.trans (hsame.setVm s.vm)⟩,
      ⟨g, mk, s₂, L, rfl, rfl, hqc, rfl, hL, rfl, rfl⟩, ?_⟩
    show Steps p.tables e below _ ((({ U with heap := s₂.heap, slotsUsed := s₂.slotsUsed } : State).setVm s₂.vm).setTop { g with pc := g.pc + len₂, stack := v.toList ++ g.stack })
    rw [← hs₂]
    exact hsteps
  · obtain ⟨e2, q2, q3, q4, q5, q6⟩ := id hsm
    have e3 : s₂ = ({ (U.calling g mk a).setFrames s₂.frames with heap := s₂.heap, slotsUsed := s₂.slotsUsed } : State).setVm s₂.vm := by
      have : s₂ = ({ s₂ with vm := (U.calling g mk a).vm } : State).setVm s₂.vm := rfl
      rw [e2] at this
      exact this
    have hf₂ : s₂.frames = .throwing q :: .java g :: U.frames.tail := hend
    have hW' : U.WarmedH s₂.vm := hW₂
    have hs₂ : s₂ = ((({ U with heap := s₂.heap, slotsUsed := s₂.slotsUsed } : State).setVm s₂.vm).setTop g).pushFrame (.throwing q) := by
      refine e3.trans ?_
      rw [hf₂, State.calling_eq h.top, State.setFrames_setFrames, State.pushFrame, State.frames_setTop _ hr', State.setTop_of_frames _ hr', State.setFrames_setFrames, hr]
      rfl
    have hsame : U.sameButNew ({ U with heap := s₂.heap, slotsUsed := s₂.slotsUsed } : State) L mc ms := by
      refine ⟨?_, q2, q3, q4, q5, q6⟩
      obtain ⟨t, ht, -⟩ := State.frames_cons hr
      show ({ U with heap := s₂.heap, slotsUsed := s₂.slotsUsed } : State) = { U.setFrames U.frames with heap := s₂.heap, slotsUsed := s₂.slotsUsed }
      rw [State.setFrames_self ht]
    subst hg
    refine Or.inr ⟨q, ⟨(({ U with heap := s₂.heap, slotsUsed := s₂.slotsUsed } : State).setVm s₂.vm), Ls ++ L, c0 + mc, s0 + ms⟩,
      ⟨X.admits, X.cas, X.clock, X.frames, X.room, X.hears, X.method, X.code, (X.here.setHeapUsed s₂.heap s₂.slotsUsed).setVm hW'.alike, X.tail, State.WarmedH.trans X.warmed hW', X.limits, X.bytes, X.same.trans (hsame.setVm s.vm)⟩,
      ⟨g, mk, s₂, L, E, ce, rfl, rfl, hx, hce, hcv, hcl, rfl, hL, rfl, rfl⟩, ?_⟩
    show Steps p.tables e below _ (((({ U with heap := s₂.heap, slotsUsed := s₂.slotsUsed } : State).setVm s₂.vm).setTop g).pushFrame (.throwing q))
    rw [← hs₂]
    exact hsteps
end Payer
section Calls
variable {p : Program} {l : Launch} {e : Env} {R : Room} {s : State} {m : MethodId} {args : Array Value} {below : List Frame} {meth : Method} {c : Code} {T : State} {locs : List Loc} {cells slots : Nat}
theorem vx_callV (X : Stand p l e R s m args below meth c T locs cells slots) (hexec : p.tables.exec = Jvm.exec) {own C : String} {index : Nat} {y : MethodName} {bytes : ByteArray} {maxL : Nat} {ret : Option FieldType}
    (hown : s.vm.findClass own = some m.cls) (hlink : (Cond.methodLink own index y).before args s = true) (hinst : (Cond.instanceMethod y).before args s = true) (hsel : (Cond.selects C y y).before args s = true)
    (hcode : (Cond.code y bytes maxL ret).before args s = true) (hy : y.cls ≠ "java/lang/invoke/MethodHandle" ∧ y.cls ≠ "java/lang/invoke/VarHandle")
    {W9 : Nat} {Pre : Pt → Array Value → Prop} {Post : Pt → Array Value → Option Value → Pt → Prop} {PostX : Pt → Array Value → Addr → Pt → Prop} (hK : vx_Back l R p e below s args y 3 W9 Pre Post PostX)
    {b : Addr} {cellB : Cell} (hcell : T.heap[b]? = some cellB) (hobj : cellB.vm.isStatics = false) (hcls : s.vm.findClass C = some cellB.cls)
    {g : JFrame} (hg : g.method = m) (hsize : g.locals.size = c.maxLocals) {argsL rest : List Value} (hlen : ∀ sig, parseMethodDescriptor y.desc = some sig → argsL.length = sig.parameters.length)
    (hstack : g.stack = argsL.reverse ++ .ref b :: rest) (hW : 2 * g.monitorRoom + (rest.map fun v => v.category).sum ≤ W9) (hdg : decode c.code g.pc = .ok (.invokevirtual index, 3))
    (hpre : ∀ vm₁, s.WarmedH vm₁ → Pre ⟨T.setVm vm₁, locs, cells, slots⟩ (Value.ref b :: argsL).toArray) :
    (∃ (v : Option Value) (vm₁ : Vm) (B : Pt), s.WarmedH vm₁ ∧ Stand p l e R s m args below meth c B.U B.locs B.cells B.slots ∧ Post ⟨T.setVm vm₁, locs, cells, slots⟩ (Value.ref b :: argsL).toArray v B ∧
      ∀ target, Steps p.tables e below (B.U.setTop { g with pc := g.pc + 3, stack := v.toList ++ rest }) target → Steps p.tables e below (T.setTop g) target) ∨
    (∃ (q : Addr) (vm₁ : Vm) (B : Pt), s.WarmedH vm₁ ∧ Stand p l e R s m args below meth c B.U B.locs B.cells B.slots ∧ PostX ⟨T.setVm vm₁, locs, cells, slots⟩ (Value.ref b :: argsL).toArray q B ∧
      Steps p.tables e below (T.setTop g) ((B.U.setTop { g with stack := rest }).pushFrame (.throwing q))) := by
  obtain ⟨mk, methM, hnamed, hmethM, hstM, habM⟩ := Cond.instanceMethod_spec hinst
  obtain ⟨methM', cM, hmethM', -, -, -, -, -, -, hsigM⟩ := Cond.code_spec hnamed hcode
  cases hmethM.symm.trans hmethM'
  obtain ⟨c2, r2, m2, q1, q2, q3, q4, kP, hkP, hkPi⟩ := Cond.selects_spec hsel
  cases hcls.symm.trans q1
  cases (State.methodFound?_of_named hnamed hy).symm.trans q2
  cases hnamed.symm.trans q3
  have hselP : selectMethod e.platform s.vm cellB.cls mk = .method mk := by rw [Launch.admits_selectMethod X.admits]; exact q4
  obtain ⟨vm₁, X₁, hstep₁⟩ := X.invokevirtual hexec hown hlink hnamed hmethM hstM hkP hkPi hy (a := b) (cell := cellB) hcell
    (fun z h => by rw [h] at hobj; cases hobj) hselP hmethM habM hkP hkPi (g := g) hg (argsL := argsL) (rest := rest) (hlen _ hsigM) hstack hdg
  rcases hK m meth c ⟨T.setVm vm₁, locs, cells, slots⟩ { g with stack := rest } (.invokevirtual index) mk (Value.ref b :: argsL).toArray X₁ hg hsize hdg hW (X₁.named hnamed) (hpre vm₁ X₁.warmed) with ⟨v, B, X', hpost, hsteps⟩ | ⟨q, B, X', hpost, hsteps⟩
  · exact Or.inl ⟨v, vm₁, B, X₁.warmed, X', hpost, fun target h => hstep₁ _ fun acts => by rw [doInvoke_state]; exact hsteps.trans h⟩
  · exact Or.inr ⟨q, vm₁, B, X₁.warmed, X', hpost, hstep₁ _ fun acts => by rw [doInvoke_state]; exact hsteps⟩
theorem vx_callS (X : Stand p l e R s m args below meth c T locs cells slots) (hexec : p.tables.exec = Jvm.exec) {own : String} {index : Nat} {y : MethodName} {bytes : ByteArray} {maxL : Nat} {ret : Option FieldType}
    (hown : s.vm.findClass own = some m.cls) (hlink : (Cond.methodLink own index y).before args s = true) (hstat : (Cond.static y).before args s = true) (hinit : (Cond.initialized y.cls).before args s = true)
    (hcode : (Cond.code y bytes maxL ret).before args s = true) (hy : y.cls ≠ "java/lang/invoke/MethodHandle" ∧ y.cls ≠ "java/lang/invoke/VarHandle")
    {W9 : Nat} {Pre : Pt → Array Value → Prop} {Post : Pt → Array Value → Option Value → Pt → Prop} {PostX : Pt → Array Value → Addr → Pt → Prop} (hK : vx_Back l R p e below s args y 3 W9 Pre Post PostX)
    {g : JFrame} (hg : g.method = m) (hsize : g.locals.size = c.maxLocals) {argsL rest : List Value} (hlen : ∀ sig, parseMethodDescriptor y.desc = some sig → argsL.length = sig.parameters.length)
    (hstack : g.stack = argsL.reverse ++ rest) (hW : 2 * g.monitorRoom + (rest.map fun v => v.category).sum ≤ W9) (hdg : decode c.code g.pc = .ok (.invokestatic index, 3))
    (hpre : ∀ vm₁, s.WarmedH vm₁ → Pre ⟨T.setVm vm₁, locs, cells, slots⟩ argsL.toArray) :
    (∃ (v : Option Value) (vm₁ : Vm) (B : Pt), s.WarmedH vm₁ ∧ Stand p l e R s m args below meth c B.U B.locs B.cells B.slots ∧ Post ⟨T.setVm vm₁, locs, cells, slots⟩ argsL.toArray v B ∧
      ∀ target, Steps p.tables e below (B.U.setTop { g with pc := g.pc + 3, stack := v.toList ++ rest }) target → Steps p.tables e below (T.setTop g) target) ∨
    (∃ (q : Addr) (vm₁ : Vm) (B : Pt), s.WarmedH vm₁ ∧ Stand p l e R s m args below meth c B.U B.locs B.cells B.slots ∧ PostX ⟨T.setVm vm₁, locs, cells, slots⟩ argsL.toArray q B ∧
      Steps p.tables e below (T.setTop g) ((B.U.setTop { g with stack := rest }).pushFrame (.throwing q))) := by
  obtain ⟨mk, hnamed⟩ := Cond.code_named hcode
  obtain ⟨methM, cM, hmethM, -, -, -, -, -, -, hsigM⟩ := Cond.code_spec hnamed hcode
  have hstatic : methM.isStatic = true := Cond.static_spec hnamed hmethM hstat
  obtain ⟨kP, hkP, -⟩ := className_of_methodNamed hnamed
  have hinitP : kP.init = .initialized := Cond.initialized_spec (findClass_of_methodNamed hnamed) hkP hinit
  obtain ⟨vm₁, X₁, hstep₁⟩ := X.invokestatic hexec hown hlink hnamed hmethM hstatic hkP hinitP hy (g := g) hg (argsL := argsL) (rest := rest) (hlen _ hsigM) hstack hdg
  rcases hK m meth c ⟨T.setVm vm₁, locs, cells, slots⟩ { g with stack := rest } (.invokestatic index) mk argsL.toArray X₁ hg hsize hdg hW (X₁.named hnamed) (hpre vm₁ X₁.warmed) with ⟨v, B, X', hpost, hsteps⟩ | ⟨q, B, X', hpost, hsteps⟩
  · exact Or.inl ⟨v, vm₁, B, X₁.warmed, X', hpost, fun target h => hstep₁ _ fun acts => by rw [doInvoke_state]; exact hsteps.trans h⟩
  · exact Or.inr ⟨q, vm₁, B, X₁.warmed, X', hpost, hstep₁ _ fun acts => by rw [doInvoke_state]; exact hsteps⟩
end Calls
theorem vx_cls {s : State} {T : State} {vm₁ : Vm} {E : String} {k : ClassId} (hW : s.WarmedH vm₁) (h : (T.setVm vm₁).vm.findClass E = some k) : s.vm.findClass E = some k := by
  have h1 : vm₁.findClass E = some k := h
  rw [hW.alike.findClass] at h1
  exact h1
/-- the method's frame g, with q thrown over it -/
def vx_W (p : Program) (l : Launch) (e : Env) (R : Room) (s : State) (m : MethodId) (args : Array Value) (below : List Frame) (meth : Method) (c : Code) (H : Heap) (locs : List Loc) (cells slots : Nat) (Q : State → Prop) (g : JFrame) (q : Addr) : Prop :=
  ∀ T : State, T.heap = H → Stand p l e R s m args below meth c T locs cells slots → ∃ t, Steps p.tables e below ((T.setTop g).pushFrame (.throwing q)) t ∧ Q t
def vx_Run (p : Program) (l : Launch) (e : Env) (R : Room) (s : State) (m : MethodId) (args : Array Value) (below : List Frame) (meth : Method) (c : Code) (H : Heap) (locs : List Loc) (cells slots mc ms : Nat) (g : JFrame) (rest : List Value) (Qa : State → Outcome → State → Prop) (XC : String → State → State → Prop) (free : Addr → Prop) : Prop :=
  ∀ T : State, T.heap = H → Stand p l e R s m args below meth c T locs cells slots →
    (∃ (v : Option Value) (st₀ t T' : State) (L : List Loc), st₀.heap = H ∧ Stand p l e R s m args below meth c T' (locs ++ L) (cells + mc) (slots + ms) ∧ (∀ q ∈ L, free q.base) ∧ T'.heap = t.heap ∧ T'.vm = t.vm ∧ Qa st₀ (.returned v) t ∧
      Goes p e below T g T' { g with pc := g.pc + 3, stack := v.toList ++ rest }) ∨
    (∃ (q : Addr) (st₀ t T' : State) (L : List Loc) (E : String) (ce : Cell), st₀.heap = H ∧ Stand p l e R s m args below meth c T' (locs ++ L) (cells + mc) (slots + ms) ∧ (∀ z ∈ L, free z.base) ∧ T'.heap = t.heap ∧ T'.vm = t.vm ∧ XC E st₀ t ∧ t.heap[q]? = some ce ∧ ce.vm = .none ∧ s.vm.findClass E = some ce.cls ∧
      Steps p.tables e below (T.setTop g) ((T'.setTop { g with stack := rest }).pushFrame (.throwing q)))
def vx_X {S : Type} (px : S → Prop) (B : String → S → State → Prop) (A : Nat → Prop) : String → State → State → Prop := fun E st t => ∃ u : S, px u ∧ B E u t ∧ va_F A st t
section Runs
variable {p : Program} {l : Launch} {e : Env} {R : Room} {s : State} {m : MethodId} {args : Array Value} {below : List Frame} {meth : Method} {c : Code} {H : Heap} {locs : List Loc} {cells slots : Nat}
variable {y : MethodName} {bytes cc : ByteArray} {maxL nL mc ms n index : Nat} {ret : Option FieldType} {ws : List Cond} {rm : Room} {Pc : Array Value → State → Prop} {Qc : Array Value → State → Outcome → State → Prop} {XC : String → State → State → Prop} {free : Addr → Prop} {Ts : List Cond} {own C : String} {b : Addr} {As rest : List Value} {g : JFrame}
theorem vx_callBack (cb : CallB R s args own index y bytes maxL ret ws rm mc ms n) (hM : vx_Met l y ws rm Pc Qc XC mc ms free) (hbl : FrameBlind Pc) : vx_Back l R p e below s args y 3 8 (PreOf R mc ms Pc) (PostOf Qc mc ms free) (vx_Post XC mc ms free) := by
  obtain ⟨hrc, hrs, hfr, hlo, hws, hcw, -, hini, -⟩ := cb
  exact vx_back (bytes := bytes) (maxL := maxL) (ret := ret) hM hbl hrc hrs hfr hlo hws hcw (fun a' U hW => word_at hW (Or.inl (by first | rfl | simp [Cond.onTables, Cond.keeps, Cond.steady])) hini)
theorem vx_runV (S : CallFix p m c cc nL s args Ts own) (hM : vx_Met l y ws rm Pc Qc XC mc ms free) (cw : CallW R s args own C index y bytes maxL ret ws rm mc ms n) (hp : PreV s H C b Pc As)
    (hg : g.method = m) (hn : As.length = n) (hsize : g.locals.size = nL) (hstack : g.stack = As.reverse ++ .ref b :: rest) (hW : 2 * g.monitorRoom + (rest.map fun v => v.category).sum ≤ 8) (hdg : decode cc g.pc = .ok (.invokevirtual index, 3)) (hf : cells + mc ≤ R.cells ∧ slots + ms ≤ R.slots) :
    vx_Run p l e R s m args below meth c H locs cells slots mc ms g rest (Qc (Value.ref b :: As).toArray) XC free := by
  have hK : vx_Back l R p e below s args y 3 8 (PreOf R mc ms Pc) (PostOf Qc mc ms free) (vx_Post XC mc ms free) := vx_callBack cw.1 hM hp.1
  obtain ⟨⟨-, -, -, -, -, -, hcode, -, hy, hlen, hl⟩, hin, hse⟩ := cw
  obtain ⟨hx, hb, hml, ho, -⟩ := S
  obtain ⟨-, ⟨cellB, hcB, hoB, hclB⟩, hPc⟩ := hp
  intro T hT X
  rcases vx_callV X hx (C := C) (bytes := bytes) (maxL := maxL) (ret := ret) ho hl hin hse hcode hy hK (by rw [hT]; exact hcB) hoB hclB hg (hsize.trans hml.symm) (argsL := As) (rest := rest) (fun sig h => hn.trans (hlen sig h)) hstack hW (by rw [hb]; exact hdg)
    (fun vm₁ hW₁ => ⟨hf.1, hf.2, hPc (T.setVm vm₁) hT hW₁⟩) with ⟨v, vm₁, ⟨U', l2, c2, s2⟩, hW₁, X', ⟨g', mk, t, L, e1, e2, hq, h1, hL, h2, h3⟩, st⟩ | ⟨q, vm₁, ⟨U', l2, c2, s2⟩, hW₁, X', ⟨g', mk, t, L, E, ce, e1, e2, hq, hce, hcv, hcl, h1, hL, h2, h3⟩, st⟩
  · dsimp only [Pt.U, Pt.locs, Pt.cells, Pt.slots] at X' e1 e2 h1 h2 h3 st
    subst h1; subst h2; subst h3
    exact Or.inl ⟨v, (T.setVm vm₁).calling g' mk (Value.ref b :: As).toArray, t, U', L, hT, X', hL, e1, e2, hq, st⟩
  · dsimp only [Pt.U, Pt.locs, Pt.cells, Pt.slots] at X' e1 e2 h1 h2 h3 st hcl
    subst h1; subst h2; subst h3
    exact Or.inr ⟨q, (T.setVm vm₁).calling g' mk (Value.ref b :: As).toArray, t, U', L, E, ce, hT, X', hL, e1, e2, hq, hce, hcv, vx_cls hW₁ hcl, st⟩
theorem vx_runS (S : CallFix p m c cc nL s args Ts own) (hM : vx_Met l y ws rm Pc Qc XC mc ms free) (cw : CallB R s args own index y bytes maxL ret ws rm mc ms n ∧ (Cond.static y).before args s = true) (hp : PreS s H Pc As)
    (hg : g.method = m) (hn : As.length = n) (hsize : g.locals.size = nL) (hstack : g.stack = As.reverse ++ rest) (hW : 2 * g.monitorRoom + (rest.map fun v => v.category).sum ≤ 8) (hdg : decode cc g.pc = .ok (.invokestatic index, 3)) (hf : cells + mc ≤ R.cells ∧ slots + ms ≤ R.slots) :
    vx_Run p l e R s m args below meth c H locs cells slots mc ms g rest (Qc As.toArray) XC free := by
  have hK : vx_Back l R p e below s args y 3 8 (PreOf R mc ms Pc) (PostOf Qc mc ms free) (vx_Post XC mc ms free) := vx_callBack cw.1 hM hp.1
  obtain ⟨⟨-, -, -, -, -, -, hcode, hini, hy, hlen, hl⟩, hstt⟩ := cw
  obtain ⟨hx, hb, hml, ho, -⟩ := S
  intro T hT X
  rcases vx_callS X hx (bytes := bytes) (maxL := maxL) (ret := ret) ho hl hstt hini hcode hy hK hg (hsize.trans hml.symm) (argsL := As) (rest := rest) (fun sig h => hn.trans (hlen sig h)) hstack hW (by rw [hb]; exact hdg)
    (fun vm₁ hW₁ => ⟨hf.1, hf.2, hp.2 (T.setVm vm₁) hT hW₁⟩) with ⟨v, vm₁, ⟨U', l2, c2, s2⟩, hW₁, X', ⟨g', mk, t, L, e1, e2, hq, h1, hL, h2, h3⟩, st⟩ | ⟨q, vm₁, ⟨U', l2, c2, s2⟩, hW₁, X', ⟨g', mk, t, L, E, ce, e1, e2, hq, hce, hcv, hcl, h1, hL, h2, h3⟩, st⟩
  · dsimp only [Pt.U, Pt.locs, Pt.cells, Pt.slots] at X' e1 e2 h1 h2 h3 st
    subst h1; subst h2; subst h3
    exact Or.inl ⟨v, (T.setVm vm₁).calling g' mk As.toArray, t, U', L, hT, X', hL, e1, e2, hq, st⟩
  · dsimp only [Pt.U, Pt.locs, Pt.cells, Pt.slots] at X' e1 e2 h1 h2 h3 st hcl
    subst h1; subst h2; subst h3
    exact Or.inr ⟨q, (T.setVm vm₁).calling g' mk As.toArray, t, U', L, E, ce, hT, X', hL, e1, e2, hq, hce, hcv, vx_cls hW₁ hcl, st⟩
end Runs
section Rows
variable {p : Program} {l : Launch} {e : Env} {R : Room} {s : State} {m : MethodId} {args : Array Value} {below : List Frame} {meth : Method} {c : Code} {H : Heap} {locs : List Loc} {cells slots : Nat} {Q : State → Prop}
variable {mc ms : Nat} {free : Addr → Prop} {A0 A1 : Nat → Prop} {H0 : Heap} {a : Array Value} {pc : Nat} {ls : Array Slot} {st0 rest : List Value}
theorem vx_keep {st₀ t T' : State} {L : List Loc} (h0 : st₀.heap = H) (e1 : T'.heap = t.heap) (hS : va_S A0 H0 H locs) (hA : ∀ q, q < H.size → A1 q → A0 q) (hf : ∀ q, free q → A0 q) (hL : ∀ q ∈ L, free q.base) (hF : va_F A1 st₀ t) :
    H.size ≤ T'.heap.size ∧ (∀ q : Nat, q < H.size → ¬ A1 q → T'.heap[q]? = H[q]?) ∧ va_S A0 H0 T'.heap (locs ++ L) := by
  obtain ⟨hz, hk⟩ := hF
  rw [h0] at hz hk
  exact ⟨by rw [e1]; exact hz, fun q h1 h2 => by rw [e1]; exact hk q h1 h2,
    ⟨Nat.le_trans hS.1 (by rw [e1]; exact hz), fun q h1 h2 => by rw [e1, hk q (Nat.lt_of_lt_of_le h1 hS.1) (fun z => h2 (hA q (Nat.lt_of_lt_of_le h1 hS.1) z))]; exact hS.2.1 q h1 h2, fun q hq => by
      rcases List.mem_append.mp hq with h | h
      · exact hS.2.2 q h
      · exact hf _ (hL q h)⟩⟩
theorem vx_calli {S SX : Type} {post : Int32 → S → Prop} {px : SX → Prop} {B : S → State → Prop} {BX : String → SX → State → Prop} {AX : Nat → Prop} (hr : vx_Run p l e R s m args below meth c H locs cells slots mc ms (F0 m pc ls st0) rest (va_Qi post B A1 a) (vx_X px BX AX) free) (hS : va_S A0 H0 H locs) (hA : ∀ q, q < H.size → A1 q → A0 q) (hf : ∀ q, free q → A0 q) (hAX : ∀ q, q < H.size → AX q → A0 q)
    (kx : ∀ (E : String) (ce : Cell) (q9 : Addr) (u : SX) (t : State) (H1 : Heap) (locs1 : List Loc), t.heap = H1 → s.vm.Alike t.vm → px u → BX E u t → H.size ≤ H1.size → (∀ q : Nat, q < H.size → ¬ AX q → H1[q]? = H[q]?) → va_S A0 H0 H1 locs1 → H1[q9]? = some ce → ce.vm = .none → s.vm.findClass E = some ce.cls → vx_W p l e R s m args below meth c H1 locs1 (cells + mc) (slots + ms) Q (F0 m pc ls rest) q9)
    (kk : ∀ (r : Int32) (u : S) (t : State) (H1 : Heap) (locs1 : List Loc), t.heap = H1 → s.vm.Alike t.vm → post r u → B u t → H.size ≤ H1.size → (∀ q : Nat, q < H.size → ¬ A1 q → H1[q]? = H[q]?) → va_S A0 H0 H1 locs1 → W p l e R s m args below meth c H1 locs1 (cells + mc) (slots + ms) Q (F0 m (pc + 3) ls (.int r :: rest))) : W p l e R s m args below meth c H locs cells slots Q (F0 m pc ls st0) := by
  intro T hT X
  rcases hr T hT X with ⟨v, st₀, t, T', L, h0, X', hL, e1, e2, ⟨⟨r, u, hv, hp, hb⟩, hF⟩, st⟩ | ⟨q, st₀, t, T', L, E, ce, h0, X', hL, e1, e2, ⟨u, hp, hb, hF⟩, hce, hcv, hcl, st⟩
  · cases hv
    obtain ⟨k1, k2, k3⟩ := vx_keep h0 e1 hS hA hf hL hF
    obtain ⟨t2, a1, b1⟩ := kk r u t T'.heap (locs ++ L) e1.symm (by rw [← e2]; exact X'.warmed.alike) hp hb k1 k2 k3 T' rfl X'
    exact ⟨t2, st t2 a1, b1⟩
  · obtain ⟨k1, k2, k3⟩ := vx_keep h0 e1 hS hAX hf hL hF
    obtain ⟨t2, a1, b1⟩ := kx E ce q u t T'.heap (locs ++ L) e1.symm (by rw [← e2]; exact X'.warmed.alike) hp hb k1 k2 k3 (by rw [e1]; exact hce) hcv hcl T' rfl X'
    exact ⟨t2, st.trans a1, b1⟩
theorem vx_calll {S SX : Type} {post : Int64 → S → Prop} {px : SX → Prop} {B : S → State → Prop} {BX : String → SX → State → Prop} {AX : Nat → Prop} (hr : vx_Run p l e R s m args below meth c H locs cells slots mc ms (F0 m pc ls st0) rest (va_Ql post B A1 a) (vx_X px BX AX) free) (hS : va_S A0 H0 H locs) (hA : ∀ q, q < H.size → A1 q → A0 q) (hf : ∀ q, free q → A0 q) (hAX : ∀ q, q < H.size → AX q → A0 q)
    (kx : ∀ (E : String) (ce : Cell) (q9 : Addr) (u : SX) (t : State) (H1 : Heap) (locs1 : List Loc), t.heap = H1 → s.vm.Alike t.vm → px u → BX E u t → H.size ≤ H1.size → (∀ q : Nat, q < H.size → ¬ AX q → H1[q]? = H[q]?) → va_S A0 H0 H1 locs1 → H1[q9]? = some ce → ce.vm = .none → s.vm.findClass E = some ce.cls → vx_W p l e R s m args below meth c H1 locs1 (cells + mc) (slots + ms) Q (F0 m pc ls rest) q9)
    (kk : ∀ (r : Int64) (u : S) (t : State) (H1 : Heap) (locs1 : List Loc), t.heap = H1 → s.vm.Alike t.vm → post r u → B u t → H.size ≤ H1.size → (∀ q : Nat, q < H.size → ¬ A1 q → H1[q]? = H[q]?) → va_S A0 H0 H1 locs1 → W p l e R s m args below meth c H1 locs1 (cells + mc) (slots + ms) Q (F0 m (pc + 3) ls (.long r :: rest))) : W p l e R s m args below meth c H locs cells slots Q (F0 m pc ls st0) := by
  intro T hT X
  rcases hr T hT X with ⟨v, st₀, t, T', L, h0, X', hL, e1, e2, ⟨⟨r, u, hv, hp, hb⟩, hF⟩, st⟩ | ⟨q, st₀, t, T', L, E, ce, h0, X', hL, e1, e2, ⟨u, hp, hb, hF⟩, hce, hcv, hcl, st⟩
  · cases hv
    obtain ⟨k1, k2, k3⟩ := vx_keep h0 e1 hS hA hf hL hF
    obtain ⟨t2, a1, b1⟩ := kk r u t T'.heap (locs ++ L) e1.symm (by rw [← e2]; exact X'.warmed.alike) hp hb k1 k2 k3 T' rfl X'
    exact ⟨t2, st t2 a1, b1⟩
  · obtain ⟨k1, k2, k3⟩ := vx_keep h0 e1 hS hAX hf hL hF
    obtain ⟨t2, a1, b1⟩ := kx E ce q u t T'.heap (locs ++ L) e1.symm (by rw [← e2]; exact X'.warmed.alike) hp hb k1 k2 k3 (by rw [e1]; exact hce) hcv hcl T' rfl X'
    exact ⟨t2, st.trans a1, b1⟩
theorem vx_callf {S SX : Type} {post : UInt32 → S → Prop} {px : SX → Prop} {B : S → State → Prop} {BX : String → SX → State → Prop} {AX : Nat → Prop} (hr : vx_Run p l e R s m args below meth c H locs cells slots mc ms (F0 m pc ls st0) rest (va_Qf post B A1 a) (vx_X px BX AX) free) (hS : va_S A0 H0 H locs) (hA : ∀ q, q < H.size → A1 q → A0 q) (hf : ∀ q, free q → A0 q) (hAX : ∀ q, q < H.size → AX q → A0 q)
    (kx : ∀ (E : String) (ce : Cell) (q9 : Addr) (u : SX) (t : State) (H1 : Heap) (locs1 : List Loc), t.heap = H1 → s.vm.Alike t.vm → px u → BX E u t → H.size ≤ H1.size → (∀ q : Nat, q < H.size → ¬ AX q → H1[q]? = H[q]?) → va_S A0 H0 H1 locs1 → H1[q9]? = some ce → ce.vm = .none → s.vm.findClass E = some ce.cls → vx_W p l e R s m args below meth c H1 locs1 (cells + mc) (slots + ms) Q (F0 m pc ls rest) q9)
    (kk : ∀ (r : UInt32) (u : S) (t : State) (H1 : Heap) (locs1 : List Loc), t.heap = H1 → s.vm.Alike t.vm → post r u → B u t → H.size ≤ H1.size → (∀ q : Nat, q < H.size → ¬ A1 q → H1[q]? = H[q]?) → va_S A0 H0 H1 locs1 → W p l e R s m args below meth c H1 locs1 (cells + mc) (slots + ms) Q (F0 m (pc + 3) ls (.float r :: rest))) : W p l e R s m args below meth c H locs cells slots Q (F0 m pc ls st0) := by
  intro T hT X
  rcases hr T hT X with ⟨v, st₀, t, T', L, h0, X', hL, e1, e2, ⟨⟨r, u, hv, hp, hb⟩, hF⟩, st⟩ | ⟨q, st₀, t, T', L, E, ce, h0, X', hL, e1, e2, ⟨u, hp, hb, hF⟩, hce, hcv, hcl, st⟩
  · cases hv
    obtain ⟨k1, k2, k3⟩ := vx_keep h0 e1 hS hA hf hL hF
    obtain ⟨t2, a1, b1⟩ := kk r u t T'.heap (locs ++ L) e1.symm (by rw [← e2]; exact X'.warmed.alike) hp hb k1 k2 k3 T' rfl X'
    exact ⟨t2, st t2 a1, b1⟩
  · obtain ⟨k1, k2, k3⟩ := vx_keep h0 e1 hS hAX hf hL hF
    obtain ⟨t2, a1, b1⟩ := kx E ce q u t T'.heap (locs ++ L) e1.symm (by rw [← e2]; exact X'.warmed.alike) hp hb k1 k2 k3 (by rw [e1]; exact hce) hcv hcl T' rfl X'
    exact ⟨t2, st.trans a1, b1⟩
theorem vx_calld {S SX : Type} {post : UInt64 → S → Prop} {px : SX → Prop} {B : S → State → Prop} {BX : String → SX → State → Prop} {AX : Nat → Prop} (hr : vx_Run p l e R s m args below meth c H locs cells slots mc ms (F0 m pc ls st0) rest (va_Qd post B A1 a) (vx_X px BX AX) free) (hS : va_S A0 H0 H locs) (hA : ∀ q, q < H.size → A1 q → A0 q) (hf : ∀ q, free q → A0 q) (hAX : ∀ q, q < H.size → AX q → A0 q)
    (kx : ∀ (E : String) (ce : Cell) (q9 : Addr) (u : SX) (t : State) (H1 : Heap) (locs1 : List Loc), t.heap = H1 → s.vm.Alike t.vm → px u → BX E u t → H.size ≤ H1.size → (∀ q : Nat, q < H.size → ¬ AX q → H1[q]? = H[q]?) → va_S A0 H0 H1 locs1 → H1[q9]? = some ce → ce.vm = .none → s.vm.findClass E = some ce.cls → vx_W p l e R s m args below meth c H1 locs1 (cells + mc) (slots + ms) Q (F0 m pc ls rest) q9)
    (kk : ∀ (r : UInt64) (u : S) (t : State) (H1 : Heap) (locs1 : List Loc), t.heap = H1 → s.vm.Alike t.vm → post r u → B u t → H.size ≤ H1.size → (∀ q : Nat, q < H.size → ¬ A1 q → H1[q]? = H[q]?) → va_S A0 H0 H1 locs1 → W p l e R s m args below meth c H1 locs1 (cells + mc) (slots + ms) Q (F0 m (pc + 3) ls (.double r :: rest))) : W p l e R s m args below meth c H locs cells slots Q (F0 m pc ls st0) := by
  intro T hT X
  rcases hr T hT X with ⟨v, st₀, t, T', L, h0, X', hL, e1, e2, ⟨⟨r, u, hv, hp, hb⟩, hF⟩, st⟩ | ⟨q, st₀, t, T', L, E, ce, h0, X', hL, e1, e2, ⟨u, hp, hb, hF⟩, hce, hcv, hcl, st⟩
  · cases hv
    obtain ⟨k1, k2, k3⟩ := vx_keep h0 e1 hS hA hf hL hF
    obtain ⟨t2, a1, b1⟩ := kk r u t T'.heap (locs ++ L) e1.symm (by rw [← e2]; exact X'.warmed.alike) hp hb k1 k2 k3 T' rfl X'
    exact ⟨t2, st t2 a1, b1⟩
  · obtain ⟨k1, k2, k3⟩ := vx_keep h0 e1 hS hAX hf hL hF
    obtain ⟨t2, a1, b1⟩ := kx E ce q u t T'.heap (locs ++ L) e1.symm (by rw [← e2]; exact X'.warmed.alike) hp hb k1 k2 k3 (by rw [e1]; exact hce) hcv hcl T' rfl X'
    exact ⟨t2, st.trans a1, b1⟩
theorem vx_callv {S SX : Type} {post : S → Prop} {px : SX → Prop} {B : S → State → Prop} {BX : String → SX → State → Prop} {AX : Nat → Prop} (hr : vx_Run p l e R s m args below meth c H locs cells slots mc ms (F0 m pc ls st0) rest (va_Qv post B A1 a) (vx_X px BX AX) free) (hS : va_S A0 H0 H locs) (hA : ∀ q, q < H.size → A1 q → A0 q) (hf : ∀ q, free q → A0 q) (hAX : ∀ q, q < H.size → AX q → A0 q)
    (kx : ∀ (E : String) (ce : Cell) (q9 : Addr) (u : SX) (t : State) (H1 : Heap) (locs1 : List Loc), t.heap = H1 → s.vm.Alike t.vm → px u → BX E u t → H.size ≤ H1.size → (∀ q : Nat, q < H.size → ¬ AX q → H1[q]? = H[q]?) → va_S A0 H0 H1 locs1 → H1[q9]? = some ce → ce.vm = .none → s.vm.findClass E = some ce.cls → vx_W p l e R s m args below meth c H1 locs1 (cells + mc) (slots + ms) Q (F0 m pc ls rest) q9)
    (kk : ∀ (u : S) (t : State) (H1 : Heap) (locs1 : List Loc), t.heap = H1 → s.vm.Alike t.vm → post u → B u t → H.size ≤ H1.size → (∀ q : Nat, q < H.size → ¬ A1 q → H1[q]? = H[q]?) → va_S A0 H0 H1 locs1 → W p l e R s m args below meth c H1 locs1 (cells + mc) (slots + ms) Q (F0 m (pc + 3) ls (rest))) : W p l e R s m args below meth c H locs cells slots Q (F0 m pc ls st0) := by
  intro T hT X
  rcases hr T hT X with ⟨v, st₀, t, T', L, h0, X', hL, e1, e2, ⟨⟨u, hv, hp, hb⟩, hF⟩, st⟩ | ⟨q, st₀, t, T', L, E, ce, h0, X', hL, e1, e2, ⟨u, hp, hb, hF⟩, hce, hcv, hcl, st⟩
  · cases hv
    obtain ⟨k1, k2, k3⟩ := vx_keep h0 e1 hS hA hf hL hF
    obtain ⟨t2, a1, b1⟩ := kk u t T'.heap (locs ++ L) e1.symm (by rw [← e2]; exact X'.warmed.alike) hp hb k1 k2 k3 T' rfl X'
    exact ⟨t2, st t2 a1, b1⟩
  · obtain ⟨k1, k2, k3⟩ := vx_keep h0 e1 hS hAX hf hL hF
    obtain ⟨t2, a1, b1⟩ := kx E ce q u t T'.heap (locs ++ L) e1.symm (by rw [← e2]; exact X'.warmed.alike) hp hb k1 k2 k3 (by rw [e1]; exact hce) hcv hcl T' rfl X'
    exact ⟨t2, st.trans a1, b1⟩
/-- caught by the row x of this method's table; the rows ahead don't take it -/
theorem vx_catch {own name : String} {E : String} {ce : Cell} {q : Addr} (hown : s.vm.findClass own = some m.cls) (pre : List ExceptionTableEntry) (x : ExceptionTableEntry) (suf : List ExceptionTableEntry) (hsplit : c.exceptionTable.toList = pre ++ x :: suf)
    (hpass : ∀ z ∈ pre, covers z pc = false ∨ (z.catchType ≠ 0 ∧ ∃ nm : String, (Cond.classLink own z.catchType nm).before args s = true ∧ va_Nc E nm s)) (hx : covers x pc = true) (h0 : x.catchType ≠ 0)
    (hlink : (Cond.classLink own x.catchType name).before args s = true) (hcast : (Cond.castable E name).before args s = true) (hcell : H[q]? = some ce) (hv : ce.vm = .none) (hcl : s.vm.findClass E = some ce.cls)
    (kk : W p l e R s m args below meth c H locs cells slots Q (F0 m x.handlerPc ls [.ref q])) : vx_W p l e R s m args below meth c H locs cells slots Q (F0 m pc ls rest) q := by
  intro T hT X
  have hpl : e.platform.magicAccessors = ({} : Platform).magicAccessors := by rw [X.admits.platform]
  obtain ⟨c3, c4, hc3, hc4, hasg⟩ := Cond.castable_spec hcast
  cases Option.some.inj (hc3.symm.trans hcl)
  obtain ⟨c5, hc5, hcl5⟩ := Cond.classLink_spec hown hlink e.platform hpl
  cases Option.some.inj (hc4.symm.trans hc5)
  obtain ⟨vm', X', st⟩ := X.thenCaughtThrough q (g := F0 m pc ls rest) rfl (Steps.refl _) (by rw [hT]; exact hcell) (by rw [hv]; rfl) (by obtain ⟨k9, h9, -⟩ := Vm.findClass_spec hcl; exact ⟨k9, h9⟩) pre x suf hsplit
    (fun z hz => by
      rcases hpass z hz with h | ⟨hz0, nm, hl1, hn1⟩
      · exact Or.inl h
      · obtain ⟨c6, hc6, hcl6⟩ := Cond.classLink_spec hown hl1 e.platform hpl
        obtain ⟨a8, b8, h1, h2, h3⟩ := hn1
        cases Option.some.inj (h1.symm.trans hcl)
        cases Option.some.inj (h2.symm.trans hc6)
        exact Or.inr ⟨hz0, _, hcl6, h3⟩) hx (Or.inr ⟨h0, c4, hcl5, hasg⟩)
  obtain ⟨t, a1, b1⟩ := kk (T.setVm vm') hT X'
  exact ⟨t, st.trans a1, b1⟩
end Rows
section Ends
variable {p : Program} {l : Launch} {e : Env} {R : Room} {s : State} {m : MethodId} {args : Array Value} {below : List Frame} {meth : Method} {c : Code} {H : Heap} {locs : List Loc} {cells slots : Nat} {Q : State → Prop}
variable {mc ms : Nat} {free : Addr → Prop} {A0 A1 : Nat → Prop} {H0 : Heap} {a : Array Value} {ls : Array Slot} {st0 rest : List Value}
variable {Qc : Array Value → State → Outcome → State → Prop} {XC : String → State → State → Prop}
/-- what a body that may throw owes at its end -/
def vx_MQ (below : List Frame) (Qc : Array Value → State → Outcome → State → Prop) (XC : String → State → State → Prop) (a : Array Value) (s : State) (mc ms : Nat) (free : Addr → Prop) : State → Prop := fun t =>
  ∃ o, t.status = .running ∧ Ended t below o ∧ vx_Q Qc XC mc ms free a s o t
theorem vx_ret {g : JFrame} {mc ms : Nat} (k : W p l e R s m args below meth c H locs cells slots (MQ below Qc args s mc ms free) g) : W p l e R s m args below meth c H locs cells slots (vx_MQ below Qc XC args s mc ms free) g := by
  intro T hT X
  obtain ⟨t, a1, o, b1, b2, b3, b4⟩ := k T hT X
  exact ⟨t, a1, o, b1, b2, Or.inl ⟨b3, b4⟩⟩
/-- not caught here: it goes on to the caller -/
theorem vx_widen {g : JFrame} {q : Addr} {k n : Nat} (h1 : cells ≤ k) (h2 : slots ≤ n) (kk : vx_W p l e R s m args below meth c H locs k n Q g q) : vx_W p l e R s m args below meth c H locs cells slots Q g q := fun T hT X => kk T hT (stand_widen X h1 h2)
theorem vx_out {pc : Nat} {E : String} {ce : Cell} {q : Addr} {mc ms : Nat} (hout : ∀ x ∈ c.exceptionTable.toList, covers x pc = false) (hlocks : meth.locks = false) (hcell : H[q]? = some ce) (hv : ce.vm = .none) (hcl : s.vm.findClass E = some ce.cls)
    (hx : ∀ t : State, t.heap = H → s.vm.Alike t.vm → XC E s t) (hf : ∀ z ∈ locs, free z.base) (hc : cells ≤ mc) (hs : slots ≤ ms) :
    vx_W p l e R s m args below meth c H locs cells slots (vx_MQ below Qc XC args s mc ms free) (F0 m pc ls rest) q := by
  intro T hT X
  obtain ⟨st1, hrun, hend, hW, hsm⟩ := X.leaveThrown q (g := F0 m pc ls rest) rfl rfl rfl hout hlocks
  have hcell9 : (T.setFrames (.throwing q :: below)).heap[q]? = some ce := by
    show T.heap[q]? = some ce
    rw [hT]; exact hcell
  exact ⟨_, st1, .threw q, hrun, hend, Or.inr ⟨q, rfl, E, ce, locs, hx _ hT hW.alike, hcell9, hv, hcl, hW, hsm.mono hc hs, hf⟩⟩
theorem vx_frame {U : State} {k n : Nat} (h : s.sameButNew ({ U with vm := s.vm } : State) locs k n) : s.heap.size ≤ U.heap.size ∧ ∀ q : Nat, q < s.heap.size → (∀ z ∈ locs, z.base ≠ q) → U.heap[q]? = s.heap[q]? := by
  obtain ⟨-, h2, -, -, -, h6⟩ := h
  refine ⟨h2, fun q hq hz => ?_⟩
  obtain ⟨c9, e1, e2, e3, e4⟩ := h6 q _ (Array.getElem?_eq_getElem hq)
  have hs : c9.slots = (s.heap[q]).slots := Array.ext_getElem? fun i => e4 i fun hm => hz _ hm rfl
  have h9 : c9 = s.heap[q] := by
    rw [hs] at e2
    exact e2
  have e5 : U.heap[q]? = some c9 := e1
  rw [e5, h9, Array.getElem?_eq_getElem hq]
/-- the words of a throw but the four that speak of the heap -/
def vx_no (w : Cond) : Bool := decide (w ≠ .isRef (.static Bundle.tN "UNASSIGNED_STACK" Bundle.steD)) && decide (w ≠ .isRef (.static Bundle.tN "SUPPRESSED_SENTINEL" Bundle.listD)) && decide (w ≠ .laysStatic Bundle.tN "UNASSIGNED_STACK" Bundle.steD) && decide (w ≠ .laysStatic Bundle.tN "SUPPRESSED_SENTINEL" Bundle.listD)
def vx_at0 (own : String) (ic : Nat) (X : String) (names : List String) : List Cond := (Bundle.ownAtoms0 own ic X names).filter vx_no
def vx_atS (own : String) (ic : Nat) (X : String) (names : List String) : List Cond := (Bundle.ownAtoms own ic X names).filter vx_no
/-- a word that the tables alone decide, or a good one -/
def vx_ot (w : Cond) : Bool := w.onTables || goodWord w
theorem vx_ot_at {args a' : Array Value} {s U : State} {w : Cond} (hW : s.WarmedH U.vm) (hvm : s.vm = U.vm) (hg : vx_ot w = true) (h : w.before args s = true) : w.before a' U = true := by
  simp only [vx_ot, Bool.or_eq_true] at hg
  rcases hg with hg | hg
  · exact va_tabs hg hvm h
  · exact word_at hW (good_of_word hg) h
/-- a list's words: the good ones out of the method's own list, the others by premises of their own -/
theorem vx_hat {args : Array Value} {s : State} {L B : List Cond} (h1 : ∀ w ∈ L.filter goodWord, w.before args s = true) (h2 : ∀ w ∈ L.filter (fun w => !goodWord w), w ∈ B) (h3 : ∀ w ∈ B, w.before args s = true) : ∀ w ∈ L, w.before args s = true := by
  intro w hw
  by_cases g : goodWord w = true
  · exact h1 w (List.mem_filter.mpr ⟨hw, g⟩)
  · refine h3 w (h2 w (List.mem_filter.mpr ⟨hw, ?_⟩))
    show (!goodWord w) = true
    cases hgw : goodWord w
    · rfl
    · exact absurd hgw g
theorem vx_c {args : Array Value} {s : State} {w : Cond} {B : List Cond} (h : w.before args s = true) (t : ∀ w ∈ B, w.before args s = true) : ∀ w' ∈ w :: B, w'.before args s = true := fun w' h' => (List.mem_cons.mp h').elim (fun e => by rw [e]; exact h) (t w')
theorem vx_n {args : Array Value} {s : State} : ∀ w ∈ ([] : List Cond), w.before args s = true := fun _ h => nomatch h
theorem vx_own {args : Array Value} {s : State} {L : List Cond} (h1 : ∀ w ∈ L.filter vx_no, w.before args s = true)
    (hU : (Cond.isRef (.static Bundle.tN "UNASSIGNED_STACK" Bundle.steD)).before args s = true) (hN : (Cond.isRef (.static Bundle.tN "SUPPRESSED_SENTINEL" Bundle.listD)).before args s = true)
    (lU : (Cond.laysStatic Bundle.tN "UNASSIGNED_STACK" Bundle.steD).before args s = true) (lN : (Cond.laysStatic Bundle.tN "SUPPRESSED_SENTINEL" Bundle.listD).before args s = true) : ∀ w ∈ L, w.before args s = true := by
  intro w hw
  by_cases e1 : w = .isRef (.static Bundle.tN "UNASSIGNED_STACK" Bundle.steD)
  · rw [e1]; exact hU
  · by_cases e2 : w = .isRef (.static Bundle.tN "SUPPRESSED_SENTINEL" Bundle.listD)
    · rw [e2]; exact hN
    · by_cases e3 : w = .laysStatic Bundle.tN "UNASSIGNED_STACK" Bundle.steD
      · rw [e3]; exact lU
      · by_cases e4 : w = .laysStatic Bundle.tN "SUPPRESSED_SENTINEL" Bundle.listD
        · rw [e4]; exact lN
        · exact h1 w (List.mem_filter.mpr ⟨hw, by unfold vx_no; rw [decide_eq_true e1, decide_eq_true e2, decide_eq_true e3, decide_eq_true e4]; rfl⟩)
/-- where a static field lies, its class's statics cell in H -/
def vx_L (C n d : String) (A : Nat → Prop) (U : State) (H : Heap) : Prop := ∃ (c : ClassId) (k : Class) (i : Nat) (f : Field) (a : Nat) (cell : Cell), U.vm.findClass C = some c ∧ U.fieldFound? C n d = some (c, k, i, f) ∧ f.isStatic = true ∧ k.statics = some a ∧ H[a]? = some cell ∧ cell.vm.isStatics = true ∧ cell.cls = c ∧ f.slot < cell.slots.size ∧ k.staticTypes[f.slot]? = some f.type ∧ ¬ A a
theorem vx_L.moved {C n d : String} {A : Nat → Prop} {u U : State} {H : Heap} (hvm : u.vm.Alike U.vm) (h : vx_L C n d A u H) : vx_L C n d A U H := by
  obtain ⟨c, k, i, f, a, cell, h1, h2, h3, h4, h5, h6, h7, h8, h9, h10⟩ := h
  obtain ⟨k', hi', he⟩ := State.fieldFound?_setVm hvm h2
  exact ⟨c, k', i, f, a, cell, by rw [hvm.findClass]; exact h1, hi', h3, by rw [he]; exact h4, h5, h6, h7, h8, by rw [he]; exact h9, h10⟩
theorem vx_L.kept {C n d : String} {A : Nat → Prop} {U : State} {H H1 : Heap} (h : vx_L C n d A U H) (hq : ∀ a : Nat, a < H.size → ¬ A a → H1[a]? = H[a]?) : vx_L C n d A U H1 := by
  obtain ⟨c, k, i, f, a, cell, h1, h2, h3, h4, h5, h6, h7, h8, h9, h10⟩ := h
  exact ⟨c, k, i, f, a, cell, h1, h2, h3, h4, by rw [hq a (Array.getElem?_eq_some_iff.mp h5).1 h10]; exact h5, h6, h7, h8, h9, h10⟩
theorem vx_L.narrow {C n d : String} {A B : Nat → Prop} {U : State} {H : Heap} (h : vx_L C n d A U H) (hAB : ∀ q, B q → A q) : vx_L C n d B U H := by
  obtain ⟨c, k, i, f, a, cell, h1, h2, h3, h4, h5, h6, h7, h8, h9, h10⟩ := h
  exact ⟨c, k, i, f, a, cell, h1, h2, h3, h4, h5, h6, h7, h8, h9, fun z => h10 (hAB _ z)⟩
theorem vx_L.word {C n d : String} {A : Nat → Prop} {s : State} {args : Array Value} (h : vx_L C n d A s s.heap) : (Cond.laysStatic C n d).before args s = true := by
  obtain ⟨c, k, i, f, a, cell, h1, h2, h3, h4, h5, h6, h7, h8, h9, -⟩ := h
  show (Cond.laysStatic C n d).holds args s none s [] = true
  exact Cond.laysStatic_of h1 h2 h3 h4 h5 h6 h7 h8 h9
/-- .. and what it holds: null or some reference -/
def vx_Zq (C n d : String) (A : Nat → Prop) (U : State) (H : Heap) : Prop := va_Zq C n d A U H ∧ vx_L C n d A U H
theorem vx_Zq.moved {C n d : String} {A : Nat → Prop} {u U : State} {H : Heap} (hvm : u.vm.Alike U.vm) (h : vx_Zq C n d A u H) : vx_Zq C n d A U H := ⟨va_Zq.moved hvm h.1, vx_L.moved hvm h.2⟩
theorem vx_Zq.kept {C n d : String} {A : Nat → Prop} {U : State} {H H1 : Heap} (h : vx_Zq C n d A U H) (hq : ∀ a : Nat, a < H.size → ¬ A a → H1[a]? = H[a]?) : vx_Zq C n d A U H1 := ⟨va_Zq.kept h.1 hq, vx_L.kept h.2 hq⟩
theorem vx_Zq.narrow {C n d : String} {A B : Nat → Prop} {U : State} {H : Heap} (h : vx_Zq C n d A U H) (hAB : ∀ q, B q → A q) : vx_Zq C n d B U H := ⟨va_Zq.narrow h.1 hAB, vx_L.narrow h.2 hAB⟩
theorem vx_Zqof {args : Array Value} {s : State} {C n d : String} {A : Nat → Prop} (hl : (Cond.laysStatic C n d).before args s = true) (hini : (Cond.initialized C).before args s = true) (h : (Cond.isRef (.static C n d)).before args s = true) (hA : ∀ a : Nat, a < s.heap.size → ¬ A a) : vx_Zq C n d A s s.heap := by
  refine ⟨va_Zqof hl hini h hA, ?_⟩
  obtain ⟨c, k, i, f, a, cell, h1, h2, h3, h4, h5, h6, h7, h8, h9⟩ := Cond.laysStatic_spec hl
  exact ⟨c, k, i, f, a, cell, h1, h2, h3, h4, h5, h6, h7, h8, h9, hA a (Array.getElem?_eq_some_iff.mp h5).1⟩
theorem vx_isRef {C n d : String} {v : Value} {A : Nat → Prop} {s : State} {args : Array Value} (h : va_Z C n d v A s s.heap) (hv : v.isRef = true) : (Cond.isRef (.static C n d)).before args s = true := by
  obtain ⟨cf, kf, fi, f, a, cell, h1, h2, h3, h4, h5, h6, h7, -⟩ := h
  have he : (Term.static C n d).eval args s none [] s = some v := by
    simp [Term.eval, State.fieldNamed?, h1, h2, h4, h5, h6, h7]
  simp only [Cond.before, Cond.holds, Cond.value, he]
  cases v <;> simp_all [Value.isRef]
theorem vx_isRefq {C n d : String} {A : Nat → Prop} {s : State} {args : Array Value} (h : va_Zq C n d A s s.heap) : (Cond.isRef (.static C n d)).before args s = true := by
  rcases h with h | ⟨t, h⟩
  · exact vx_isRef h rfl
  · exact vx_isRef h rfl
/-- the same frame, seen from here: as if the method were called anew in this heap -/
theorem vx_rebase {T : State} (X : Stand p l e R s m args below meth c T locs cells slots) {R' : Room} (hf : R'.frames ≤ R.frames) (hl : R'.locals ≤ R.locals) (hc : cells + R'.cells ≤ R.cells) (hs : slots + R'.slots ≤ R.slots) :
    Stand p l e R' ((T.setVm s.vm).setFrames (.invoking m args :: below)) m args below meth c T [] 0 0 := by
  have htop : (T.setVm s.vm).topJava?.isSome := X.here.top
  have hF : ((T.setVm s.vm).setFrames (.invoking m args :: below)).frames = .invoking m args :: below := State.frames_setFrames _ (State.cur_lt_of_top htop)
  obtain ⟨g₀, hg0⟩ := Option.isSome_iff_exists.mp htop
  obtain ⟨r, hr⟩ := State.topJava?_eq_some.mp hg0
  have hl9 : e.platform.stackLimits (T.setVm s.vm).me = e.platform.stackLimits s.me := X.limits
  have hb9 : (T.setVm s.vm).me.stackBytes = s.me.stackBytes := X.bytes
  refine ⟨X.admits, X.cas, X.clock, hF, ?_, X.hears, X.method, X.code, X.here, X.tail, X.warmed, ?_, ?_, ?_⟩
  · have h := X.room
    have hU : ((T.setVm s.vm).setFrames (.invoking m args :: below)).localsInUse = s.localsInUse := by
      rw [State.localsInUse_invoking hF (meth := meth) (c := c) X.method X.code, State.localsInUse_invoking X.frames X.method X.code]
    simp only [State.hasRoom, Bool.and_eq_true, decide_eq_true_eq] at h ⊢
    obtain ⟨⟨⟨⟨h1, h2, h3, h4, h5, h6⟩, h7⟩, h8⟩, h9⟩ := h
    rw [X.frames, List.length_cons] at h2 h3
    have q1 := X.heapSize
    have q2 := X.used
    simp only [hF, hU, List.length_cons, State.stackLimits_setFrames, State.stackBytes_setFrames, hl9, hb9]
    refine ⟨⟨⟨⟨by omega, by omega, by omega, by omega, by omega, h6⟩, ?_⟩, ?_⟩, X.book⟩
    · show T.heap.size + R'.cells ≤ e.platform.maxCells
      omega
    · show T.slotsUsed + R'.slots ≤ e.platform.maxSlots
      omega
  · rw [State.stackLimits_setFrames]; rfl
  · rw [State.stackBytes_setFrames]; rfl
  · refine ⟨?_, Nat.le_refl _, Nat.le_refl _, ?_, ?_, fun a c9 h9 => ⟨c9, h9, rfl, rfl, fun _ _ => rfl⟩⟩
    · obtain ⟨t, ht, -⟩ := State.frames_cons hr
      show T.setVm s.vm = { ((T.setVm s.vm).setFrames (.invoking m args :: below)).setFrames (T.setVm s.vm).frames with heap := T.heap, slotsUsed := T.slotsUsed }
      rw [State.setFrames_setFrames, State.setFrames_self ht]
      rfl
    · show T.slotsUsed = T.slotsUsed + ((T.heap.toList.drop T.heap.size).map (·.slots.size)).sum
      rw [List.drop_eq_nil_of_le (Nat.le_of_eq Array.length_toList)]
      rfl
    · show ((T.heap.toList.drop T.heap.size).map (·.slots.size)).sum ≤ 0
      rw [List.drop_eq_nil_of_le (Nat.le_of_eq Array.length_toList)]
      exact Nat.le_refl _
/-- 'throw new E()': new; dup; invokespecial; athrow -/
theorem vx_throw0 {cc : ByteArray} {pc : Nat} (hexec : p.tables.exec = Jvm.exec) (hb : c.code = cc) (hl : l.stackTraces = false) {own cls : String} {names : List String} {ik ic mc ms : Nat} {A : Nat → Prop}
    (hown : s.vm.findClass own = some m.cls) (hcls : Bundle.fit cls = true) (hnames : ∀ n ∈ names, Bundle.fit n = true)
    (hk : (Cond.classLink own ik cls).before args s = true) (hini : (Cond.initialized cls).before args s = true) (hat : ∀ w ∈ vx_at0 own ic cls names, w.before args s = true)
    (hgood : ∀ w ∈ Cond.classLink own ik cls :: Cond.initialized cls :: vx_at0 own ic cls names, vx_ot w = true)
    (hU : vx_Zq Bundle.tN "UNASSIGNED_STACK" Bundle.steD A s s.heap) (hN : vx_Zq Bundle.tN "SUPPRESSED_SENTINEL" Bundle.listD A s s.heap) (hS : va_S A s.heap H locs) (hsize : ls.size = c.maxLocals)
    (d0 : decode cc pc = .ok (.new ik, 3)) (d3 : decode cc (pc + 3) = .ok (.dup, 1)) (d4 : decode cc (pc + 4) = .ok (.invokespecial ic, 3)) (d7 : decode cc (pc + 7) = .ok (.athrow, 1))
    (hout : ∀ x ∈ c.exceptionTable.toList, covers x (pc + 7) = false)
    (hRframes : names.length + 3 < R.frames) (hRlocals : (rest.map fun v => v.category).sum + (13 * (names.length + 1) + 42) ≤ R.locals) (hRcells : cells + 1 ≤ R.cells) (hRslots : slots + 6 ≤ R.slots) (hlocks : meth.locks = false)
    (hx : ∀ t : State, s.vm.Alike t.vm → H.size ≤ t.heap.size → (∀ q : Nat, q < H.size → t.heap[q]? = H[q]?) → XC cls s t)
    (hf : ∀ z ∈ locs, free z.base) (hc : cells + 1 ≤ mc) (hs : slots + 6 ≤ ms) :
    W p l e R s m args below meth c H locs cells slots (vx_MQ below Qc XC args s mc ms free) (F0 m pc ls rest) := by
  intro T hT X
  have htr : e.platform.stackTraces = false := (show e.platform.stackTraces = l.stackTraces by rw [X.admits.platform]).trans hl
  have Y := vx_rebase X (R' := { frames := R.frames, locals := R.locals, cells := 1, slots := 6 }) (Nat.le_refl _) (Nat.le_refl _) hRcells hRslots
  obtain ⟨s', hA⟩ : ∃ z, z = (T.setVm s.vm).setFrames (.invoking m args :: below) := ⟨_, rfl⟩
  rw [← hA] at Y
  have hvm : s'.vm = s.vm := by rw [hA]; rfl
  have hhp : s'.heap = H := by rw [hA]; exact hT
  have hW0 : s.WarmedH s'.vm := by rw [hvm]; exact State.WarmedH.refl s
  have hat' : ∀ w ∈ vx_at0 own ic cls names, w.before args s' = true := fun w hw => vx_ot_at hW0 hvm.symm (hgood w (List.mem_cons_of_mem _ (List.mem_cons_of_mem _ hw))) (hat w hw)
  have hk' : (Cond.classLink own ik cls).before args s' = true := vx_ot_at hW0 hvm.symm (hgood _ List.mem_cons_self) hk
  have hini' : (Cond.initialized cls).before args s' = true := vx_ot_at hW0 hvm.symm (hgood _ (List.mem_cons_of_mem _ List.mem_cons_self)) hini
  have hU' : vx_Zq Bundle.tN "UNASSIGNED_STACK" Bundle.steD A s' s'.heap := by rw [hhp]; exact vx_Zq.moved hW0.alike (hU.kept hS.2.1)
  have hN' : vx_Zq Bundle.tN "SUPPRESSED_SENTINEL" Bundle.listD A s' s'.heap := by rw [hhp]; exact vx_Zq.moved hW0.alike (hN.kept hS.2.1)
  have h : ∀ w ∈ Bundle.ownAtoms0 own ic cls names, w.before args s' = true := vx_own hat' (vx_isRefq hU'.1) (vx_isRefq hN'.1) hU'.2.word hN'.2.word
  have hown' : s'.vm.findClass own = some m.cls := by rw [hvm]; exact hown
  have hins : (Cond.instantiable cls 6).before args s' = true := h _ (by simp [Bundle.ownAtoms0])
  obtain ⟨vm₁, cX, kX, hfX, hkX, -, -, X₁, st1⟩ := Y.newCold hexec (own := own) (C := cls) (index := ik) (n := 6) hown' hk' hins hini'
    (g := F0 m pc ls rest) rfl (by rw [hb]; exact d0) (Nat.le_refl _) (Nat.le_refl _)
  generalize hT1 : (T.setVm vm₁).pushCell { cls := cX, slots := kX.instanceTypes.map defaultValue, vm := .none } = T1 at X₁ st1
  have hcat : (Value.ref T.heap.size).category = 1 := rfl
  have hcellA : T1.heap[T.heap.size]? = some (freshCell cX kX) := by rw [← hT1]; exact State.heap_pushCell_size _ _
  have d3' : decode c.code (pc + 3) = .ok (.dup, 1) := by rw [hb]; exact d3
  obtain ⟨U, hsteps, hrun, hend, hW, hsame, ce, hce, hO⟩ := X₁.ctorThrow0 hexec htr (own := own) (cls := cls) (names := names) (ic := ic) hown' hcls hnames h (fun x hx => nomatch hx) hfX hkX hcellA (by rw [hhp, hT]; exact Nat.le_refl _)
    (g := { method := m, pc := pc + 4, locals := ls, stack := .ref T.heap.size :: .ref T.heap.size :: rest, locked := none }) rfl hsize rfl rfl (rest := rest) rfl
    (by rw [hb]; exact d4) (by rw [hb]; exact d7) hout hRframes (by simp only [List.map_cons, List.sum_cons, hcat]; omega) hlocks
  obtain ⟨f1, f2⟩ := vx_frame hsame
  rw [hhp] at f1 f2
  have hWs : s.WarmedH U.vm := State.WarmedH.trans hW0 hW
  have hcl : s.vm.findClass cls = some ce.cls := by
    have h9 := hO.cls
    rw [hvm] at h9
    exact h9
  have hall : s.sameButNew ({ U with vm := s.vm } : State) locs mc ms := by
    subst hA
    obtain ⟨e1, e2⟩ := hsame
    rw [State.setFrames_setFrames] at e1
    have h2 : (T.setVm s.vm).sameButNew ({ U with vm := s.vm } : State) [] (0 + 1) (0 + 6) := ⟨e1, e2⟩
    have h3 := X.same.trans h2
    rw [List.append_nil] at h3
    exact h3.mono hc hs
  refine ⟨U, ?_, .threw T.heap.size, hrun, hend, Or.inr ⟨T.heap.size, rfl, cls, ce, locs, hx U hWs.alike f1 (fun q hq => f2 q hq (fun z hz => nomatch hz)), hce, hO.vm, hcl, hWs, hall, hf⟩⟩
  refine st1 _ ?_
  show Steps p.tables e below (T1.setTop { method := m, pc := pc + 3, locals := ls, stack := .ref T.heap.size :: rest, locked := none }) _
  jvm_step X₁.here [X₁.here.top, hexec, d3', Value.category]
  exact hsteps
/-- 'throw new E("text")': new; dup; ldc; invokespecial; athrow -/
theorem vx_throwS {cc : ByteArray} {pc : Nat} (hexec : p.tables.exec = Jvm.exec) (hb : c.code = cc) (hl : l.stackTraces = false) {own cls text : String} {names : List String} {ik is ic mc ms sa : Nat} {A : Nat → Prop}
    (hown : s.vm.findClass own = some m.cls) (hcls : Bundle.fit cls = true) (hnames : ∀ n ∈ names, Bundle.fit n = true)
    (hk : (Cond.classLink own ik cls).before args s = true) (hini : (Cond.initialized cls).before args s = true) (hstr : vk_R own is text sa s) (hat : ∀ w ∈ vx_atS own ic cls names, w.before args s = true)
    (hgood : ∀ w ∈ Cond.classLink own ik cls :: Cond.initialized cls :: vx_atS own ic cls names, vx_ot w = true)
    (hU : vx_Zq Bundle.tN "UNASSIGNED_STACK" Bundle.steD A s s.heap) (hN : vx_Zq Bundle.tN "SUPPRESSED_SENTINEL" Bundle.listD A s s.heap) (hS : va_S A s.heap H locs) (hsize : ls.size = c.maxLocals)
    (d0 : decode cc pc = .ok (.new ik, 3)) (d3 : decode cc (pc + 3) = .ok (.dup, 1)) (d4 : decode cc (pc + 4) = .ok (.ldc is, 2)) (d6 : decode cc (pc + 6) = .ok (.invokespecial ic, 3)) (d9 : decode cc (pc + 9) = .ok (.athrow, 1))
    (hout : ∀ x ∈ c.exceptionTable.toList, covers x (pc + 9) = false)
    (hRframes : names.length + 3 < R.frames) (hRlocals : (rest.map fun v => v.category).sum + (13 * (names.length + 1) + 43) ≤ R.locals) (hRcells : cells + 1 ≤ R.cells) (hRslots : slots + 6 ≤ R.slots) (hlocks : meth.locks = false)
    (hx : ∀ t : State, s.vm.Alike t.vm → H.size ≤ t.heap.size → (∀ q : Nat, q < H.size → t.heap[q]? = H[q]?) → XC cls s t)
    (hf : ∀ z ∈ locs, free z.base) (hc : cells + 1 ≤ mc) (hs : slots + 6 ≤ ms) :
    W p l e R s m args below meth c H locs cells slots (vx_MQ below Qc XC args s mc ms free) (F0 m pc ls rest) := by
  intro T hT X
  have htr : e.platform.stackTraces = false := (show e.platform.stackTraces = l.stackTraces by rw [X.admits.platform]).trans hl
  have Y := vx_rebase X (R' := { frames := R.frames, locals := R.locals, cells := 1, slots := 6 }) (Nat.le_refl _) (Nat.le_refl _) hRcells hRslots
  obtain ⟨s', hA⟩ : ∃ z, z = (T.setVm s.vm).setFrames (.invoking m args :: below) := ⟨_, rfl⟩
  rw [← hA] at Y
  have hvm : s'.vm = s.vm := by rw [hA]; rfl
  have hhp : s'.heap = H := by rw [hA]; exact hT
  have hW0 : s.WarmedH s'.vm := by rw [hvm]; exact State.WarmedH.refl s
  have hat' : ∀ w ∈ vx_atS own ic cls names, w.before args s' = true := fun w hw => vx_ot_at hW0 hvm.symm (hgood w (List.mem_cons_of_mem _ (List.mem_cons_of_mem _ hw))) (hat w hw)
  have hk' : (Cond.classLink own ik cls).before args s' = true := vx_ot_at hW0 hvm.symm (hgood _ List.mem_cons_self) hk
  have hini' : (Cond.initialized cls).before args s' = true := vx_ot_at hW0 hvm.symm (hgood _ (List.mem_cons_of_mem _ List.mem_cons_self)) hini
  have hU' : vx_Zq Bundle.tN "UNASSIGNED_STACK" Bundle.steD A s' s'.heap := by rw [hhp]; exact vx_Zq.moved hW0.alike (hU.kept hS.2.1)
  have hN' : vx_Zq Bundle.tN "SUPPRESSED_SENTINEL" Bundle.listD A s' s'.heap := by rw [hhp]; exact vx_Zq.moved hW0.alike (hN.kept hS.2.1)
  have h : ∀ w ∈ Bundle.ownAtoms own ic cls names, w.before args s' = true := vx_own hat' (vx_isRefq hU'.1) (vx_isRefq hN'.1) hU'.2.word hN'.2.word
  have hown' : s'.vm.findClass own = some m.cls := by rw [hvm]; exact hown
  have hins : (Cond.instantiable cls 6).before args s' = true := h _ (by simp [Bundle.ownAtoms])
  obtain ⟨vm₁, cX, kX, hfX, hkX, -, -, X₁, st1⟩ := Y.newCold hexec (own := own) (C := cls) (index := ik) (n := 6) hown' hk' hins hini'
    (g := F0 m pc ls rest) rfl (by rw [hb]; exact d0) (Nat.le_refl _) (Nat.le_refl _)
  generalize hT1 : (T.setVm vm₁).pushCell { cls := cX, slots := kX.instanceTypes.map defaultValue, vm := .none } = T1 at X₁ st1
  have hcat : (Value.ref T.heap.size).category = 1 := rfl
  have hcellA : T1.heap[T.heap.size]? = some (freshCell cX kX) := by rw [← hT1]; exact State.heap_pushCell_size _ _
  have d3' : decode c.code (pc + 3) = .ok (.dup, 1) := by rw [hb]; exact d3
  have d4' : decode c.code (pc + 4) = .ok (.ldc is, 2) := by rw [hb]; exact d4
  have hstr' : vk_R own is text sa s' := vk_R.warm hW0 hstr
  obtain ⟨U, hsteps, hrun, hend, hW, hsame, ce, hce, hO⟩ := X₁.ctorThrowS hexec htr (own := own) (cls := cls) (names := names) (ic := ic) hown' hcls hnames h (fun x hx => nomatch hx) hfX hkX hcellA (by rw [hhp, hT]; exact Nat.le_refl _) (msg := .ref sa) rfl
    (g := { method := m, pc := pc + 6, locals := ls, stack := .ref sa :: .ref T.heap.size :: .ref T.heap.size :: rest, locked := none }) rfl hsize rfl rfl (rest := rest) rfl
    (by rw [hb]; exact d6) (by rw [hb]; exact d9) hout hRframes (by simp only [List.map_cons, List.sum_cons, hcat]; omega) hlocks
  obtain ⟨f1, f2⟩ := vx_frame hsame
  rw [hhp] at f1 f2
  have hWs : s.WarmedH U.vm := State.WarmedH.trans hW0 hW
  have hcl : s.vm.findClass cls = some ce.cls := by
    have h9 := hO.cls
    rw [hvm] at h9
    exact h9
  have hall : s.sameButNew ({ U with vm := s.vm } : State) locs mc ms := by
    subst hA
    obtain ⟨e1, e2⟩ := hsame
    rw [State.setFrames_setFrames] at e1
    have h2 : (T.setVm s.vm).sameButNew ({ U with vm := s.vm } : State) [] (0 + 1) (0 + 6) := ⟨e1, e2⟩
    have h3 := X.same.trans h2
    rw [List.append_nil] at h3
    exact h3.mono hc hs
  refine ⟨U, ?_, .threw T.heap.size, hrun, hend, Or.inr ⟨T.heap.size, rfl, cls, ce, locs, hx U hWs.alike f1 (fun q hq => f2 q hq (fun z hz => nomatch hz)), hce, hO.vm, hcl, hWs, hall, hf⟩⟩
  refine st1 _ ?_
  show Steps p.tables e below (T1.setTop { method := m, pc := pc + 3, locals := ls, stack := .ref T.heap.size :: rest, locked := none }) _
  jvm_step X₁.here [X₁.here.top, hexec, d3', Value.category]
  exact X₁.ldcString hexec (own := own) (text := text) (index := is) (a := sa) hown' hstr'.1 hstr'.2
    (g := { method := m, pc := pc + 4, locals := ls, stack := .ref T.heap.size :: .ref T.heap.size :: rest, locked := none }) rfl d4' _ hsteps
/-- 'throw new E("text")', the text by a wide index -/
theorem vx_throwSW {cc : ByteArray} {pc : Nat} (hexec : p.tables.exec = Jvm.exec) (hb : c.code = cc) (hl : l.stackTraces = false) {own cls text : String} {names : List String} {ik is ic mc ms sa : Nat} {A : Nat → Prop}
    (hown : s.vm.findClass own = some m.cls) (hcls : Bundle.fit cls = true) (hnames : ∀ n ∈ names, Bundle.fit n = true)
    (hk : (Cond.classLink own ik cls).before args s = true) (hini : (Cond.initialized cls).before args s = true) (hstr : vk_R own is text sa s) (hat : ∀ w ∈ vx_atS own ic cls names, w.before args s = true)
    (hgood : ∀ w ∈ Cond.classLink own ik cls :: Cond.initialized cls :: vx_atS own ic cls names, vx_ot w = true)
    (hU : vx_Zq Bundle.tN "UNASSIGNED_STACK" Bundle.steD A s s.heap) (hN : vx_Zq Bundle.tN "SUPPRESSED_SENTINEL" Bundle.listD A s s.heap) (hS : va_S A s.heap H locs) (hsize : ls.size = c.maxLocals)
    (d0 : decode cc pc = .ok (.new ik, 3)) (d3 : decode cc (pc + 3) = .ok (.dup, 1)) (d4 : decode cc (pc + 4) = .ok (.ldc_w is, 3)) (d7 : decode cc (pc + 7) = .ok (.invokespecial ic, 3)) (d10 : decode cc (pc + 10) = .ok (.athrow, 1))
    (hout : ∀ x ∈ c.exceptionTable.toList, covers x (pc + 10) = false)
    (hRframes : names.length + 3 < R.frames) (hRlocals : (rest.map fun v => v.category).sum + (13 * (names.length + 1) + 43) ≤ R.locals) (hRcells : cells + 1 ≤ R.cells) (hRslots : slots + 6 ≤ R.slots) (hlocks : meth.locks = false)
    (hx : ∀ t : State, s.vm.Alike t.vm → H.size ≤ t.heap.size → (∀ q : Nat, q < H.size → t.heap[q]? = H[q]?) → XC cls s t)
    (hf : ∀ z ∈ locs, free z.base) (hc : cells + 1 ≤ mc) (hs : slots + 6 ≤ ms) :
    W p l e R s m args below meth c H locs cells slots (vx_MQ below Qc XC args s mc ms free) (F0 m pc ls rest) := by
  intro T hT X
  have htr : e.platform.stackTraces = false := (show e.platform.stackTraces = l.stackTraces by rw [X.admits.platform]).trans hl
  have Y := vx_rebase X (R' := { frames := R.frames, locals := R.locals, cells := 1, slots := 6 }) (Nat.le_refl _) (Nat.le_refl _) hRcells hRslots
  obtain ⟨s', hA⟩ : ∃ z, z = (T.setVm s.vm).setFrames (.invoking m args :: below) := ⟨_, rfl⟩
  rw [← hA] at Y
  have hvm : s'.vm = s.vm := by rw [hA]; rfl
  have hhp : s'.heap = H := by rw [hA]; exact hT
  have hW0 : s.WarmedH s'.vm := by rw [hvm]; exact State.WarmedH.refl s
  have hat' : ∀ w ∈ vx_atS own ic cls names, w.before args s' = true := fun w hw => vx_ot_at hW0 hvm.symm (hgood w (List.mem_cons_of_mem _ (List.mem_cons_of_mem _ hw))) (hat w hw)
  have hk' : (Cond.classLink own ik cls).before args s' = true := vx_ot_at hW0 hvm.symm (hgood _ List.mem_cons_self) hk
  have hini' : (Cond.initialized cls).before args s' = true := vx_ot_at hW0 hvm.symm (hgood _ (List.mem_cons_of_mem _ List.mem_cons_self)) hini
  have hU' : vx_Zq Bundle.tN "UNASSIGNED_STACK" Bundle.steD A s' s'.heap := by rw [hhp]; exact vx_Zq.moved hW0.alike (hU.kept hS.2.1)
  have hN' : vx_Zq Bundle.tN "SUPPRESSED_SENTINEL" Bundle.listD A s' s'.heap := by rw [hhp]; exact vx_Zq.moved hW0.alike (hN.kept hS.2.1)
  have h : ∀ w ∈ Bundle.ownAtoms own ic cls names, w.before args s' = true := vx_own hat' (vx_isRefq hU'.1) (vx_isRefq hN'.1) hU'.2.word hN'.2.word
  have hown' : s'.vm.findClass own = some m.cls := by rw [hvm]; exact hown
  have hins : (Cond.instantiable cls 6).before args s' = true := h _ (by simp [Bundle.ownAtoms])
  obtain ⟨vm₁, cX, kX, hfX, hkX, -, -, X₁, st1⟩ := Y.newCold hexec (own := own) (C := cls) (index := ik) (n := 6) hown' hk' hins hini'
    (g := F0 m pc ls rest) rfl (by rw [hb]; exact d0) (Nat.le_refl _) (Nat.le_refl _)
  generalize hT1 : (T.setVm vm₁).pushCell { cls := cX, slots := kX.instanceTypes.map defaultValue, vm := .none } = T1 at X₁ st1
  have hcat : (Value.ref T.heap.size).category = 1 := rfl
  have hcellA : T1.heap[T.heap.size]? = some (freshCell cX kX) := by rw [← hT1]; exact State.heap_pushCell_size _ _
  have d3' : decode c.code (pc + 3) = .ok (.dup, 1) := by rw [hb]; exact d3
  have d4' : decode c.code (pc + 4) = .ok (.ldc_w is, 3) := by rw [hb]; exact d4
  have hstr' : vk_R own is text sa s' := vk_R.warm hW0 hstr
  obtain ⟨U, hsteps, hrun, hend, hW, hsame, ce, hce, hO⟩ := X₁.ctorThrowS hexec htr (own := own) (cls := cls) (names := names) (ic := ic) hown' hcls hnames h (fun x hx => nomatch hx) hfX hkX hcellA (by rw [hhp, hT]; exact Nat.le_refl _) (msg := .ref sa) rfl
    (g := { method := m, pc := pc + 7, locals := ls, stack := .ref sa :: .ref T.heap.size :: .ref T.heap.size :: rest, locked := none }) rfl hsize rfl rfl (rest := rest) rfl
    (by rw [hb]; exact d7) (by rw [hb]; exact d10) hout hRframes (by simp only [List.map_cons, List.sum_cons, hcat]; omega) hlocks
  obtain ⟨f1, f2⟩ := vx_frame hsame
  rw [hhp] at f1 f2
  have hWs : s.WarmedH U.vm := State.WarmedH.trans hW0 hW
  have hcl : s.vm.findClass cls = some ce.cls := by
    have h9 := hO.cls
    rw [hvm] at h9
    exact h9
  have hall : s.sameButNew ({ U with vm := s.vm } : State) locs mc ms := by
    subst hA
    obtain ⟨e1, e2⟩ := hsame
    rw [State.setFrames_setFrames] at e1
    have h2 : (T.setVm s.vm).sameButNew ({ U with vm := s.vm } : State) [] (0 + 1) (0 + 6) := ⟨e1, e2⟩
    have h3 := X.same.trans h2
    rw [List.append_nil] at h3
    exact h3.mono hc hs
  refine ⟨U, ?_, .threw T.heap.size, hrun, hend, Or.inr ⟨T.heap.size, rfl, cls, ce, locs, hx U hWs.alike f1 (fun q hq => f2 q hq (fun z hz => nomatch hz)), hce, hO.vm, hcl, hWs, hall, hf⟩⟩
  refine st1 _ ?_
  show Steps p.tables e below (T1.setTop { method := m, pc := pc + 3, locals := ls, stack := .ref T.heap.size :: rest, locked := none }) _
  jvm_step X₁.here [X₁.here.top, hexec, d3', Value.category]
  exact X₁.ldcStringW hexec (own := own) (text := text) (index := is) (a := sa) hown' hstr'.1 hstr'.2
    (g := { method := m, pc := pc + 4, locals := ls, stack := .ref T.heap.size :: .ref T.heap.size :: rest, locked := none }) rfl d4' _ hsteps
end Ends
section Bodies
variable {l : Launch}
theorem vx_ofW {y : MethodName} {ws ws' : List Cond} {rm : Room} {Pc : Array Value → State → Prop} {Qc : Array Value → State → Outcome → State → Prop} {XC : String → State → State → Prop} {mc ms : Nat} {free : Addr → Prop} {cc : ByteArray} {maxL : Nat} {ret : Option FieldType}
    (hy : plainName y.cls = true) (hw : ws = Cond.code y cc maxL ret :: ws')
    (body : ∀ p e s m args below meth c s₁, BodyLoose p l y (headSpec ws rm) cc maxL ret e s m args below meth c s₁ → c.maxLocals = maxL → (∀ x ∈ c.exceptionTable.toList, False) → Pc args s →
      W p l e (headSpec ws rm).room s m args below meth c s.heap [] 0 0 (vx_MQ below Qc XC args s mc ms free) (entryFrame m args maxL)) : vx_Met l y ws rm Pc Qc XC mc ms free := by
  refine MetFree.of_bodyS (code := cc) (maxLocals := maxL) (ret := ret) hy ?_ ?_
  · intro args s m h hn
    obtain ⟨meth, c, h1, h2, h3, h4, h5, h6, -, -⟩ := Cond.code_spec hn (atoms_spec (ws := ws) h _ (by rw [hw]; exact List.mem_cons_self))
    exact ⟨meth, c, h1, h2, h3, h4, h5, h6⟩
  · intro p e s m args below meth c s₁ B hml hP _
    have hh0 : s₁.heap = s.heap := by rw [B.state]; rfl
    have ht : ∀ x ∈ c.exceptionTable.toList, False := by
      obtain ⟨meth9, c9, h1, h2, -, -, -, -, h7, -⟩ := Cond.code_spec B.named (atoms_spec (ws := ws) B.pre _ (by rw [hw]; exact List.mem_cons_self))
      cases Option.some.inj (h1.symm.trans B.method)
      cases Option.some.inj (h2.symm.trans (Stand.of_body B).code)
      intro x hx
      rw [Array.isEmpty_iff.mp h7] at hx
      cases hx
    obtain ⟨t, a1, o, b1, b2, b3⟩ := body p e s m args below meth c s₁ B hml ht hP s₁ hh0 (Stand.of_body B)
    exact ⟨t, o, a1, b1, b2, b3⟩
/-- the table of a body with handlers -/
theorem vx_table {p : Program} {x y : MethodName} {S : Spec} {cc bytes : ByteArray} {maxL maxL' : Nat} {ret ret' : Option FieldType} {e : Env} {s s₁ : State} {m : MethodId} {args : Array Value} {below : List Frame} {meth : Method} {c : Code} {hh : List (Nat × Nat × Nat × Nat)}
    (B : BodyLoose p l y S cc maxL ret e s m args below meth c s₁) (h : (Cond.codeWith y bytes maxL' ret' hh).before args s = true) : c.exceptionTable.toList = tableOf hh := by
  obtain ⟨m9, meth9, c9, hn9, h1, h2, -, -, h6, -⟩ := Cond.codeWith_spec h
  cases Option.some.inj (hn9.symm.trans B.named)
  cases Option.some.inj (h1.symm.trans B.method)
  cases Option.some.inj (h2.symm.trans (Stand.of_body B).code)
  rw [← h6, table_eq]
end Bodies
end VXA
/-! ===== END ===== -/
/-! ===== BEGIN a static call of a method with an exception table ===== -/
section VXS
variable {p : Program} {l : Launch} {e : Env} {R : Room} {s : State} {m : MethodId} {args : Array Value} {below : List Frame} {meth : Method} {c : Code} {T : State} {H : Heap} {locs : List Loc} {cells slots : Nat}
abbrev vx_CSW (R : Room) (s : State) (args : Array Value) (own : String) (index : Nat) (y : MethodName) (bytes : ByteArray) (maxL : Nat) (ret : Option FieldType) (hh : List (Nat × Nat × Nat × Nat)) (ws : List Cond) (rm : Room) (mc ms n : Nat) : Prop :=
  (rm.cells = mc ∧ rm.slots = ms ∧ rm.frames + 1 ≤ R.frames ∧ 8 + (maxL + 11) + rm.locals ≤ R.locals ∧ (∀ w ∈ ws, ∀ (a' : Array Value) (U : State), s.WarmedH U.vm → w.before a' U = true) ∧ Cond.codeWith y bytes maxL ret hh ∈ ws) ∧
  (Cond.codeWith y bytes maxL ret hh).before args s = true ∧ (Cond.initialized y.cls).before args s = true ∧ (y.cls ≠ "java/lang/invoke/MethodHandle" ∧ y.cls ≠ "java/lang/invoke/VarHandle") ∧
  (∀ sig, parseMethodDescriptor y.desc = some sig → n = sig.parameters.length) ∧ (Cond.methodLink own index y).before args s = true ∧ (Cond.static y).before args s = true
theorem vx_cwSW {own : String} {index maxL mc ms : Nat} {y : MethodName} {bytes : ByteArray} {ret : Option FieldType} {hh : List (Nat × Nat × Nat × Nat)} {Ts ws ws' : List Cond} {rm : Room} (n : Nat) (ht : ∀ w ∈ Ts, w.before args s = true) (hT : GoodIn Ts (va_wsS own index y ws)) (hw : ws = Cond.codeWith y bytes maxL ret hh :: ws') (hrc : rm.cells = mc) (hrs : rm.slots = ms)
    (hd : y.cls ≠ "java/lang/invoke/MethodHandle" ∧ y.cls ≠ "java/lang/invoke/VarHandle" ∧ (parseMethodDescriptor y.desc).map (fun d => d.parameters.length) = some n) (hR : rm.frames + 1 ≤ R.frames ∧ 8 + (maxL + 11) + rm.locals ≤ R.locals) :
    vx_CSW R s args own index y bytes maxL ret hh ws rm mc ms n := by
  have ok : ∀ w ∈ va_wsS own index y ws, w.before args s = true := fun w h => ht w (hT w h).1
  have hG : GoodIn Ts ws := fun w h => hT w (by unfold va_wsS; exact List.mem_append_right _ h)
  have hc : Cond.codeWith y bytes maxL ret hh ∈ ws := by rw [hw]; exact List.mem_cons_self
  refine ⟨⟨hrc, hrs, hR.1, hR.2, pay_in ht hG, hc⟩, ht _ (hG _ hc).1, ok _ (by simp [va_wsS]), ⟨hd.1, hd.2.1⟩, fun sig h => ?_, ok _ (by simp [va_wsS]), ok _ (by simp [va_wsS])⟩
  have h2 := hd.2.2
  rw [h] at h2
  exact (Option.some.inj h2).symm
theorem vx_callSW (X : Stand p l e R s m args below meth c T locs cells slots) (hexec : p.tables.exec = Jvm.exec) {own : String} {index : Nat} {y : MethodName} {bytes : ByteArray} {maxL : Nat} {ret : Option FieldType} {hh : List (Nat × Nat × Nat × Nat)}
    (hown : s.vm.findClass own = some m.cls) (hlink : (Cond.methodLink own index y).before args s = true) (hstat : (Cond.static y).before args s = true) (hinit : (Cond.initialized y.cls).before args s = true)
    (hcode : (Cond.codeWith y bytes maxL ret hh).before args s = true) (hy : y.cls ≠ "java/lang/invoke/MethodHandle" ∧ y.cls ≠ "java/lang/invoke/VarHandle")
    {W9 : Nat} {Pre : Pt → Array Value → Prop} {Post : Pt → Array Value → Option Value → Pt → Prop} (hK : Back l R p e below s args y 3 W9 Pre Post)
    {g : JFrame} (hg : g.method = m) (hsize : g.locals.size = c.maxLocals) {argsL rest : List Value} (hlen : ∀ sig, parseMethodDescriptor y.desc = some sig → argsL.length = sig.parameters.length)
    (hstack : g.stack = argsL.reverse ++ rest) (hW : 2 * g.monitorRoom + (rest.map fun v => v.category).sum ≤ W9) (hdg : decode c.code g.pc = .ok (.invokestatic index, 3))
    (hpre : ∀ vm₁, s.WarmedH vm₁ → Pre ⟨T.setVm vm₁, locs, cells, slots⟩ argsL.toArray) :
    ∃ (v : Option Value) (vm₁ : Vm) (B : Pt), s.WarmedH vm₁ ∧ Stand p l e R s m args below meth c B.U B.locs B.cells B.slots ∧ Post ⟨T.setVm vm₁, locs, cells, slots⟩ argsL.toArray v B ∧
      ∀ target, Steps p.tables e below (B.U.setTop { g with pc := g.pc + 3, stack := v.toList ++ rest }) target → Steps p.tables e below (T.setTop g) target := by
  obtain ⟨mk, methM, cM, hnamed, hmethM, -, -, -, -, -, -, hsigM⟩ := Cond.codeWith_spec hcode
  have hstatic : methM.isStatic = true := Cond.static_spec hnamed hmethM hstat
  obtain ⟨kP, hkP, -⟩ := className_of_methodNamed hnamed
  have hinitP : kP.init = .initialized := Cond.initialized_spec (findClass_of_methodNamed hnamed) hkP hinit
  obtain ⟨vm₁, X₁, hstep₁⟩ := X.invokestatic hexec hown hlink hnamed hmethM hstatic hkP hinitP hy (g := g) hg (argsL := argsL) (rest := rest) (hlen _ hsigM) hstack hdg
  obtain ⟨v, B, X', hpost, hsteps⟩ := hK m meth c ⟨T.setVm vm₁, locs, cells, slots⟩ { g with stack := rest } (.invokestatic index) mk argsL.toArray X₁ hg hsize hdg hW (X₁.named hnamed) (hpre vm₁ X₁.warmed)
  exact ⟨v, vm₁, B, X₁.warmed, X', hpost, fun target h => hstep₁ _ fun acts => by rw [doInvoke_state]; exact hsteps.trans h⟩
theorem vx_runSW {y : MethodName} {bytes cc : ByteArray} {maxL nL mc ms n index : Nat} {ret : Option FieldType} {hh : List (Nat × Nat × Nat × Nat)} {ws : List Cond} {rm : Room} {Pc : Array Value → State → Prop} {Qc : Array Value → State → Outcome → State → Prop} {free : Addr → Prop} {Ts : List Cond} {own : String} {As rest : List Value} {g : JFrame}
    (S : CallFix p m c cc nL s args Ts own) (hM : Met l y ws rm Pc Qc mc ms free) (cw : vx_CSW R s args own index y bytes maxL ret hh ws rm mc ms n) (hp : PreS s H Pc As)
    (hg : g.method = m) (hn : As.length = n) (hsize : g.locals.size = nL) (hstack : g.stack = As.reverse ++ rest) (hW : 2 * g.monitorRoom + (rest.map fun v => v.category).sum ≤ 8) (hdg : decode cc g.pc = .ok (.invokestatic index, 3)) (hf : cells + mc ≤ R.cells ∧ slots + ms ≤ R.slots) :
    va_Run p l e R s m args below meth c H locs cells slots mc ms g rest (Qc As.toArray) (free) := by
  obtain ⟨⟨hrc, hrs, hfr, hlo, hws, hcw⟩, hcode, hini, hy, hlen, hl, hstt⟩ := cw
  have hK : Back l R p e below s args y 3 8 (PreOf R mc ms Pc) (PostOf Qc mc ms free) := va_backW (hh := hh) (bytes := bytes) (maxL := maxL) (ret := ret) hM hp.1 hrc hrs hfr hlo hws hcw (fun a' U hW => word_at hW (Or.inl (by first | rfl | simp [Cond.onTables, Cond.keeps, Cond.steady])) hini)
  obtain ⟨hx, hb, hml, ho, -⟩ := S
  intro T hT X
  obtain ⟨v, vm₁, ⟨U', l2, c2, s2⟩, hW₁, X', ⟨g', mk, t, L, e1, e2, hq, h1, hL, h2, h3⟩, st⟩ := vx_callSW X hx (hh := hh) (bytes := bytes) (maxL := maxL) (ret := ret) ho hl hstt hini hcode hy hK hg (hsize.trans hml.symm) (argsL := As) (rest := rest) (fun sig h => hn.trans (hlen sig h)) hstack hW (by rw [hb]; exact hdg)
    (fun vm₁ hW₁ => ⟨hf.1, hf.2, hp.2 (T.setVm vm₁) hT hW₁⟩)
  dsimp only [Pt.U, Pt.locs, Pt.cells, Pt.slots] at X' e1 e2 h1 h2 h3 st
  subst h1; subst h2; subst h3
  exact ⟨v, (T.setVm vm₁).calling g' mk As.toArray, t, U', L, hT, X', hL, e1, e2, hq, st⟩
/-- not caught here, past rows that name other classes: it goes on to the caller -/
theorem vx_outP {p : Program} {l : Launch} {e : Env} {R : Room} {s : State} {m : MethodId} {args : Array Value} {below : List Frame} {meth : Method} {c : Code} {H : Heap} {locs : List Loc} {cells slots : Nat} {free : Addr → Prop} {ls : Array Slot} {rest : List Value} {Qc : Array Value → State → Outcome → State → Prop} {XC : String → State → State → Prop}
    {pc : Nat} {own E : String} {ce : Cell} {q : Addr} {mc ms : Nat} (hown : s.vm.findClass own = some m.cls) (hlocks : meth.locks = false)
    (hpass : ∀ z ∈ c.exceptionTable.toList, covers z pc = false ∨ (z.catchType ≠ 0 ∧ ∃ nm : String, (Cond.classLink own z.catchType nm).before args s = true ∧ va_Nc E nm s)) (hcell : H[q]? = some ce) (hv : ce.vm = .none) (hcl : s.vm.findClass E = some ce.cls)
    (hx : ∀ t : State, t.heap = H → s.vm.Alike t.vm → XC E s t) (hf : ∀ z ∈ locs, free z.base) (hc : cells ≤ mc) (hs : slots ≤ ms) :
    vx_W p l e R s m args below meth c H locs cells slots (vx_MQ below Qc XC args s mc ms free) (F0 m pc ls rest) q := by
  intro T hT X
  have hpl : e.platform.magicAccessors = ({} : Platform).magicAccessors := by rw [X.admits.platform]
  obtain ⟨vm', hW', X', st⟩ := X.outThrough hlocks q (g := F0 m pc ls rest) rfl rfl rfl (cell := ce) (by rw [hT]; exact hcell) (by rw [hv]; rfl)
    (by obtain ⟨k9, h9, -⟩ := Vm.findClass_spec hcl; exact ⟨k9, h9⟩) (fun z hz => by
      rcases hpass z hz with h | ⟨hz0, nm, hl1, hn1⟩
      · exact Or.inl h
      · obtain ⟨c6, hc6, hcl6⟩ := Cond.classLink_spec hown hl1 e.platform hpl
        obtain ⟨a8, b8, h1, h2, h3⟩ := hn1
        cases Option.some.inj (h1.symm.trans hcl)
        cases Option.some.inj (h2.symm.trans hc6)
        exact Or.inr ⟨hz0, _, hcl6, h3⟩)
  obtain ⟨g₀, hfr⟩ := X'.frames_eq
  have hcell9 : ((T.setVm vm').setFrames (.throwing q :: below)).heap[q]? = some ce := by
    show T.heap[q]? = some ce
    rw [hT]; exact hcell
  have hend : Ended ((T.setVm vm').setFrames (.throwing q :: below)) below (.threw q) := State.frames_setFrames _ (State.cur_lt_of_frames hfr)
  refine ⟨(T.setVm vm').setFrames (.throwing q :: below), ?_, .threw q, X'.here.running, hend, Or.inr ⟨q, rfl, E, ce, locs, hx _ hT (X'.ends _).1.alike, hcell9, hv, hcl, (X'.ends _).1, (X'.ends _).2.mono hc hs, hf⟩⟩
  rw [X.pushThrowing_eq]
  exact st
/-- a thing of a world lies in the heap -/
theorem vx_lt {D : va_G} {cl : List vw_C} {ws : va_W} {H1 : Heap} (h : va_P D cl ws H1) {k : Nat} {q : Nat × va_E} (hk : ws[k]? = some q) : q.1 < H1.size := (h k q hk).lt
end VXS
/-! ===== END ===== -/
/-! ===== BEGIN methods with a table of their own: called by a name, returning or throwing ===== -/
section VXH
/-! vx_backW, vx_callVX, vx_callSX, vx_callVW, vx_runVW, vx_runVX, vx_runSX, vx_ofWH follow the same proofs as their sisters above (Free/Laws.lean, Shelf42/LK1.lean); vx_outP calls Shelf42/NT130.lean (outThrough). -/
section
variable {l : Launch} {R : Room} {p : Program} {e : Env} {below : List Frame} {s : State} {sargs : Array Value} {y : MethodName} {len W9 : Nat}
theorem vx_backW {ws : List Cond} {rm : Room} {Pc : Array Value → State → Prop} {Qc : Array Value → State → Outcome → State → Prop} {XC : String → State → State → Prop} {mc ms : Nat} {free : Addr → Prop} {bytes : ByteArray} {maxL : Nat} {ret : Option FieldType} {hh : List (Nat × Nat × Nat × Nat)}
    (hM : vx_Met l y ws rm Pc Qc XC mc ms free) (hblind : FrameBlind Pc) (hrc : rm.cells = mc) (hrs : rm.slots = ms)
    (hframes : rm.frames + 1 ≤ R.frames) (hlocals : W9 + (maxL + 11) + rm.locals ≤ R.locals)
    (hws : ∀ w ∈ ws, ∀ a' U, s.WarmedH U.vm → w.before a' U = true) (hcode : Cond.codeWith y bytes maxL ret hh ∈ ws) (hinit : ∀ a' U, s.WarmedH U.vm → (Cond.initialized y.cls).before a' U = true) :
    vx_Back l R p e below s sargs y len W9 (PreOf R mc ms Pc) (PostOf Qc mc ms free) (vx_Post XC mc ms free) := by
  intro m meth c A g ig mk a X hg hsize hdg hW hn hp
  have h1 : (headSpec ws rm).pre.before a A.U = true := atoms_intro fun w hw => hws w hw _ _ X.warmed
  have h2 : (Cond.codeWith y bytes maxL ret hh).before a A.U = true := hws _ hcode _ _ X.warmed
  have h3 : (Cond.initialized y.cls).before a A.U = true := hinit _ _ X.warmed
  have h4 : A.cells + (headSpec ws rm).room.cells ≤ R.cells := by rw [show (headSpec ws rm).room.cells = mc from hrc]; exact hp.1
  have h5 : A.slots + (headSpec ws rm).room.slots ≤ R.slots := by rw [show (headSpec ws rm).room.slots = ms from hrs]; exact hp.2.1
  have hPc : Pc a (A.U.calling g mk a) := hblind _ _ _ _ hp.2.2
  obtain ⟨U, Ls, c0, s0⟩ := A
  dsimp only [Pt.U, Pt.locs, Pt.cells, Pt.slots] at h1 h2 h3 h4 h5 X hn hPc ⊢
  obtain ⟨m9, methY, cY, hn9, hmY, hcY, -, hlY, -⟩ := Cond.codeWith_spec h2
  cases Option.some.inj (hn9.symm.trans hn)
  obtain ⟨kY, hkY, -⟩ := className_of_methodNamed hn
  have hinitY : kY.init = .initialized := Cond.initialized_spec (findClass_of_methodNamed hn) hkY h3
  have h : At U g.method c below := by rw [hg]; exact X.here
  have hlocals9 : W9 + (maxL + 11) + (headSpec ws rm).room.locals ≤ R.locals := hlocals
  have happ : (headSpec ws rm).appliesLoose y e.platform (U.calling g mk a) = true :=
    Spec.appliesLoose_calling (g := g) h hdg hn hkY hinitY
      (X.room_calling (g := g) (R' := (headSpec ws rm).room) hsize hmY hcY hframes (by rw [hlY]; omega) h4 h5) h1
  obtain ⟨mid, hmid⟩ := h.above
  have hfr : (U.setTop g).frames = (.java g :: mid) ++ below := by rw [State.frames_setTop' g h.top, hmid]; rfl
  obtain ⟨o, s₂, hsteps, -, hend, hq⟩ := Steps.callFree hM p X.admits X.cas X.clock (acts := []) hfr happ hPc trivial
  have hq' : vx_Q Qc XC mc ms free a (U.calling g mk a) o s₂ := hq
  rw [State.frames_setTop' g h.top] at hend
  obtain ⟨g₀, hg0⟩ := Option.isSome_iff_exists.mp h.top
  obtain ⟨r, hr⟩ := State.topJava?_eq_some.mp hg0
  have hr' : (({ U with heap := s₂.heap, slotsUsed := s₂.slotsUsed } : State).setVm s₂.vm).frames = .java g₀ :: r := hr
  rcases hq' with ⟨hqc, L, hfe, hL⟩ | ⟨q, rfl, E, ce, L, hx, hce, hcv, hcl, hW₂, hsm, hL⟩
  · obtain ⟨⟨v, rfl⟩, hW₂, e2, q2, q3, q4, q5, q6⟩ := id hfe
    have e3 : s₂ = ({ (U.calling g mk a).setFrames s₂.frames with heap := s₂.heap, slotsUsed := s₂.slotsUsed } : State).setVm s₂.vm := by
      have : s₂ = ({ s₂ with vm := (U.calling g mk a).vm } : State).setVm s₂.vm := rfl
      rw [e2] at this
      exact this
    obtain ⟨c₂, i₂, len₂, hc₂, hd₂, hf₂⟩ := hend
    have hW' : U.WarmedH s₂.vm := hW₂
    have hcc : c₂ = c := by
      have h1 : s₂.code? g.method = U.code? g.method := by
        rw [State.code?_eq, State.code?_eq, hW'.alike.method?]
      exact Option.some.inj (hc₂.symm.trans (h1.trans h.code))
    subst hcc
    have hlen : len₂ = len := by rw [hdg] at hd₂; cases hd₂; rfl
    subst hlen
    have hs₂ : s₂ = (({ U with heap := s₂.heap, slotsUsed := s₂.slotsUsed } : State).setVm s₂.vm).setTop { g with pc := g.pc + len₂, stack := v.toList ++ g.stack } := by
      refine e3.trans ?_
      rw [hf₂, State.calling_eq h.top, State.setFrames_setFrames, State.setTop_of_frames _ hr', hr]
      rfl
    have hsame : U.sameButNew ({ U with heap := s₂.heap, slotsUsed := s₂.slotsUsed } : State) L mc ms := by
      refine ⟨?_, q2, q3, q4, q5, q6⟩
      obtain ⟨t, ht, -⟩ := State.frames_cons hr
      show ({ U with heap := s₂.heap, slotsUsed := s₂.slotsUsed } : State) = { U.setFrames U.frames with heap := s₂.heap, slotsUsed := s₂.slotsUsed }
      rw [State.setFrames_self ht]
    subst hg
    refine Or.inl ⟨v, ⟨(({ U with heap := s₂.heap, slotsUsed := s₂.slotsUsed } : State).setVm s₂.vm), Ls ++ L, c0 + mc, s0 + ms⟩,
      ⟨X.admits, X.cas, X.clock, X.frames, X.room, X.hears, X.method, X.code, (X.here.setHeapUsed s₂.heap s₂.slotsUsed).setVm hW'.alike, X.tail, State.WarmedH.trans X.warmed hW', X.limits, X.bytes, X.same.trans (hsame.setVm s.vm)⟩,
      ⟨g, mk, s₂, L, rfl, rfl, hqc, rfl, hL, rfl, rfl⟩, ?_⟩
    show Steps p.tables e below _ ((({ U with heap := s₂.heap, slotsUsed := s₂.slotsUsed } : State).setVm s₂.vm).setTop { g with pc := g.pc + len₂, stack := v.toList ++ g.stack })
    rw [← hs₂]
    exact hsteps
  · obtain ⟨e2, q2, q3, q4, q5, q6⟩ := id hsm
    have e3 : s₂ = ({ (U.calling g mk a).setFrames s₂.frames with heap := s₂.heap, slotsUsed := s₂.slotsUsed } : State).setVm s₂.vm := by
      have : s₂ = ({ s₂ with vm := (U.calling g mk a).vm } : State).setVm s₂.vm := rfl
      rw [e2] at this
      exact this
    have hf₂ : s₂.frames = .throwing q :: .java g :: U.frames.tail := hend
    have hW' : U.WarmedH s₂.vm := hW₂
    have hs₂ : s₂ = ((({ U with heap := s₂.heap, slotsUsed := s₂.slotsUsed } : State).setVm s₂.vm).setTop g).pushFrame (.throwing q) := by
      refine e3.trans ?_
      rw [hf₂, State.calling_eq h.top, State.setFrames_setFrames, State.pushFrame, State.frames_setTop _ hr', State.setTop_of_frames _ hr', State.setFrames_setFrames, hr]
      rfl
    have hsame : U.sameButNew ({ U with heap := s₂.heap, slotsUsed := s₂.slotsUsed } : State) L mc ms := by
      refine ⟨?_, q2, q3, q4, q5, q6⟩
      obtain ⟨t, ht, -⟩ := State.frames_cons hr
      show ({ U with heap := s₂.heap, slotsUsed := s₂.slotsUsed } : State) = { U.setFrames U.frames with heap := s₂.heap, slotsUsed := s₂.slotsUsed }
      rw [State.setFrames_self ht]
    subst hg
    refine Or.inr ⟨q, ⟨(({ U with heap := s₂.heap, slotsUsed := s₂.slotsUsed } : State).setVm s₂.vm), Ls ++ L, c0 + mc, s0 + ms⟩,
      ⟨X.admits, X.cas, X.clock, X.frames, X.room, X.hears, X.method, X.code, (X.here.setHeapUsed s₂.heap s₂.slotsUsed).setVm hW'.alike, X.tail, State.WarmedH.trans X.warmed hW', X.limits, X.bytes, X.same.trans (hsame.setVm s.vm)⟩,
      ⟨g, mk, s₂, L, E, ce, rfl, rfl, hx, hce, hcv, hcl, rfl, hL, rfl, rfl⟩, ?_⟩
    show Steps p.tables e below _ (((({ U with heap := s₂.heap, slotsUsed := s₂.slotsUsed } : State).setVm s₂.vm).setTop g).pushFrame (.throwing q))
    rw [← hs₂]
    exact hsteps
end
variable {p : Program} {l : Launch} {e : Env} {R : Room} {s : State} {m : MethodId} {args : Array Value} {below : List Frame} {meth : Method} {c : Code} {T : State} {H : Heap} {locs : List Loc} {cells slots : Nat}
theorem vx_callVX (X : Stand p l e R s m args below meth c T locs cells slots) (hexec : p.tables.exec = Jvm.exec) {own C : String} {index : Nat} {y : MethodName} {bytes : ByteArray} {maxL : Nat} {ret : Option FieldType} {hh : List (Nat × Nat × Nat × Nat)}
    (hown : s.vm.findClass own = some m.cls) (hlink : (Cond.methodLink own index y).before args s = true) (hinst : (Cond.instanceMethod y).before args s = true) (hsel : (Cond.selects C y y).before args s = true)
    (hcode : (Cond.codeWith y bytes maxL ret hh).before args s = true) (hy : y.cls ≠ "java/lang/invoke/MethodHandle" ∧ y.cls ≠ "java/lang/invoke/VarHandle")
    {W9 : Nat} {Pre : Pt → Array Value → Prop} {Post : Pt → Array Value → Option Value → Pt → Prop} {PostX : Pt → Array Value → Addr → Pt → Prop} (hK : vx_Back l R p e below s args y 3 W9 Pre Post PostX)
    {b : Addr} {cellB : Cell} (hcell : T.heap[b]? = some cellB) (hobj : cellB.vm.isStatics = false) (hcls : s.vm.findClass C = some cellB.cls)
    {g : JFrame} (hg : g.method = m) (hsize : g.locals.size = c.maxLocals) {argsL rest : List Value} (hlen : ∀ sig, parseMethodDescriptor y.desc = some sig → argsL.length = sig.parameters.length)
    (hstack : g.stack = argsL.reverse ++ .ref b :: rest) (hW : 2 * g.monitorRoom + (rest.map fun v => v.category).sum ≤ W9) (hdg : decode c.code g.pc = .ok (.invokevirtual index, 3))
    (hpre : ∀ vm₁, s.WarmedH vm₁ → Pre ⟨T.setVm vm₁, locs, cells, slots⟩ (Value.ref b :: argsL).toArray) :
    (∃ (v : Option Value) (vm₁ : Vm) (B : Pt), s.WarmedH vm₁ ∧ Stand p l e R s m args below meth c B.U B.locs B.cells B.slots ∧ Post ⟨T.setVm vm₁, locs, cells, slots⟩ (Value.ref b :: argsL).toArray v B ∧
      ∀ target, Steps p.tables e below (B.U.setTop { g with pc := g.pc + 3, stack := v.toList ++ rest }) target → Steps p.tables e below (T.setTop g) target) ∨
    (∃ (q : Addr) (vm₁ : Vm) (B : Pt), s.WarmedH vm₁ ∧ Stand p l e R s m args below meth c B.U B.locs B.cells B.slots ∧ PostX ⟨T.setVm vm₁, locs, cells, slots⟩ (Value.ref b :: argsL).toArray q B ∧
      Steps p.tables e below (T.setTop g) ((B.U.setTop { g with stack := rest }).pushFrame (.throwing q))) := by
  obtain ⟨mk, methM, hnamed, hmethM, hstM, habM⟩ := Cond.instanceMethod_spec hinst
  obtain ⟨m8, methM', cM, hn8, hmethM', -, -, -, -, -, -, hsigM⟩ := Cond.codeWith_spec hcode
  cases Option.some.inj (hn8.symm.trans hnamed)
  cases hmethM.symm.trans hmethM'
  obtain ⟨c2, r2, m2, q1, q2, q3, q4, kP, hkP, hkPi⟩ := Cond.selects_spec hsel
  cases hcls.symm.trans q1
  cases (State.methodFound?_of_named hnamed hy).symm.trans q2
  cases hnamed.symm.trans q3
  have hselP : selectMethod e.platform s.vm cellB.cls mk = .method mk := by rw [Launch.admits_selectMethod X.admits]; exact q4
  obtain ⟨vm₁, X₁, hstep₁⟩ := X.invokevirtual hexec hown hlink hnamed hmethM hstM hkP hkPi hy (a := b) (cell := cellB) hcell
    (fun z h => by rw [h] at hobj; cases hobj) hselP hmethM habM hkP hkPi (g := g) hg (argsL := argsL) (rest := rest) (hlen _ hsigM) hstack hdg
  rcases hK m meth c ⟨T.setVm vm₁, locs, cells, slots⟩ { g with stack := rest } (.invokevirtual index) mk (Value.ref b :: argsL).toArray X₁ hg hsize hdg hW (X₁.named hnamed) (hpre vm₁ X₁.warmed) with ⟨v, B, X', hpost, hsteps⟩ | ⟨q, B, X', hpost, hsteps⟩
  · exact Or.inl ⟨v, vm₁, B, X₁.warmed, X', hpost, fun target h => hstep₁ _ fun acts => by rw [doInvoke_state]; exact hsteps.trans h⟩
  · exact Or.inr ⟨q, vm₁, B, X₁.warmed, X', hpost, hstep₁ _ fun acts => by rw [doInvoke_state]; exact hsteps⟩
theorem vx_callSX (X : Stand p l e R s m args below meth c T locs cells slots) (hexec : p.tables.exec = Jvm.exec) {own : String} {index : Nat} {y : MethodName} {bytes : ByteArray} {maxL : Nat} {ret : Option FieldType} {hh : List (Nat × Nat × Nat × Nat)}
    (hown : s.vm.findClass own = some m.cls) (hlink : (Cond.methodLink own index y).before args s = true) (hstat : (Cond.static y).before args s = true) (hinit : (Cond.initialized y.cls).before args s = true)
    (hcode : (Cond.codeWith y bytes maxL ret hh).before args s = true) (hy : y.cls ≠ "java/lang/invoke/MethodHandle" ∧ y.cls ≠ "java/lang/invoke/VarHandle")
    {W9 : Nat} {Pre : Pt → Array Value → Prop} {Post : Pt → Array Value → Option Value → Pt → Prop} {PostX : Pt → Array Value → Addr → Pt → Prop} (hK : vx_Back l R p e below s args y 3 W9 Pre Post PostX)
    {g : JFrame} (hg : g.method = m) (hsize : g.locals.size = c.maxLocals) {argsL rest : List Value} (hlen : ∀ sig, parseMethodDescriptor y.desc = some sig → argsL.length = sig.parameters.length)
    (hstack : g.stack = argsL.reverse ++ rest) (hW : 2 * g.monitorRoom + (rest.map fun v => v.category).sum ≤ W9) (hdg : decode c.code g.pc = .ok (.invokestatic index, 3))
    (hpre : ∀ vm₁, s.WarmedH vm₁ → Pre ⟨T.setVm vm₁, locs, cells, slots⟩ argsL.toArray) :
    (∃ (v : Option Value) (vm₁ : Vm) (B : Pt), s.WarmedH vm₁ ∧ Stand p l e R s m args below meth c B.U B.locs B.cells B.slots ∧ Post ⟨T.setVm vm₁, locs, cells, slots⟩ argsL.toArray v B ∧
      ∀ target, Steps p.tables e below (B.U.setTop { g with pc := g.pc + 3, stack := v.toList ++ rest }) target → Steps p.tables e below (T.setTop g) target) ∨
    (∃ (q : Addr) (vm₁ : Vm) (B : Pt), s.WarmedH vm₁ ∧ Stand p l e R s m args below meth c B.U B.locs B.cells B.slots ∧ PostX ⟨T.setVm vm₁, locs, cells, slots⟩ argsL.toArray q B ∧
      Steps p.tables e below (T.setTop g) ((B.U.setTop { g with stack := rest }).pushFrame (.throwing q))) := by
  obtain ⟨mk, methM, cM, hnamed, hmethM, -, -, -, -, -, -, hsigM⟩ := Cond.codeWith_spec hcode
  have hstatic : methM.isStatic = true := Cond.static_spec hnamed hmethM hstat
  obtain ⟨kP, hkP, -⟩ := className_of_methodNamed hnamed
  have hinitP : kP.init = .initialized := Cond.initialized_spec (findClass_of_methodNamed hnamed) hkP hinit
  obtain ⟨vm₁, X₁, hstep₁⟩ := X.invokestatic hexec hown hlink hnamed hmethM hstatic hkP hinitP hy (g := g) hg (argsL := argsL) (rest := rest) (hlen _ hsigM) hstack hdg
  rcases hK m meth c ⟨T.setVm vm₁, locs, cells, slots⟩ { g with stack := rest } (.invokestatic index) mk argsL.toArray X₁ hg hsize hdg hW (X₁.named hnamed) (hpre vm₁ X₁.warmed) with ⟨v, B, X', hpost, hsteps⟩ | ⟨q, B, X', hpost, hsteps⟩
  · exact Or.inl ⟨v, vm₁, B, X₁.warmed, X', hpost, fun target h => hstep₁ _ fun acts => by rw [doInvoke_state]; exact hsteps.trans h⟩
  · exact Or.inr ⟨q, vm₁, B, X₁.warmed, X', hpost, hstep₁ _ fun acts => by rw [doInvoke_state]; exact hsteps⟩
theorem vx_callVW (X : Stand p l e R s m args below meth c T locs cells slots) (hexec : p.tables.exec = Jvm.exec) {own C : String} {index : Nat} {y : MethodName} {bytes : ByteArray} {maxL : Nat} {ret : Option FieldType} {hh : List (Nat × Nat × Nat × Nat)}
    (hown : s.vm.findClass own = some m.cls) (hlink : (Cond.methodLink own index y).before args s = true) (hinst : (Cond.instanceMethod y).before args s = true) (hsel : (Cond.selects C y y).before args s = true)
    (hcode : (Cond.codeWith y bytes maxL ret hh).before args s = true) (hy : y.cls ≠ "java/lang/invoke/MethodHandle" ∧ y.cls ≠ "java/lang/invoke/VarHandle")
    {W9 : Nat} {Pre : Pt → Array Value → Prop} {Post : Pt → Array Value → Option Value → Pt → Prop} (hK : Back l R p e below s args y 3 W9 Pre Post)
    {b : Addr} {cellB : Cell} (hcell : T.heap[b]? = some cellB) (hobj : cellB.vm.isStatics = false) (hcls : s.vm.findClass C = some cellB.cls)
    {g : JFrame} (hg : g.method = m) (hsize : g.locals.size = c.maxLocals) {argsL rest : List Value} (hlen : ∀ sig, parseMethodDescriptor y.desc = some sig → argsL.length = sig.parameters.length)
    (hstack : g.stack = argsL.reverse ++ .ref b :: rest) (hW : 2 * g.monitorRoom + (rest.map fun v => v.category).sum ≤ W9) (hdg : decode c.code g.pc = .ok (.invokevirtual index, 3))
    (hpre : ∀ vm₁, s.WarmedH vm₁ → Pre ⟨T.setVm vm₁, locs, cells, slots⟩ (Value.ref b :: argsL).toArray) :
    ∃ (v : Option Value) (vm₁ : Vm) (B : Pt), s.WarmedH vm₁ ∧ Stand p l e R s m args below meth c B.U B.locs B.cells B.slots ∧ Post ⟨T.setVm vm₁, locs, cells, slots⟩ (Value.ref b :: argsL).toArray v B ∧
      ∀ target, Steps p.tables e below (B.U.setTop { g with pc := g.pc + 3, stack := v.toList ++ rest }) target → Steps p.tables e below (T.setTop g) target := by
  obtain ⟨mk, methM, hnamed, hmethM, hstM, habM⟩ := Cond.instanceMethod_spec hinst
  obtain ⟨m8, methM', cM, hn8, hmethM', -, -, -, -, -, -, hsigM⟩ := Cond.codeWith_spec hcode
  cases Option.some.inj (hn8.symm.trans hnamed)
  cases hmethM.symm.trans hmethM'
  obtain ⟨c2, r2, m2, q1, q2, q3, q4, kP, hkP, hkPi⟩ := Cond.selects_spec hsel
  cases hcls.symm.trans q1
  cases (State.methodFound?_of_named hnamed hy).symm.trans q2
  cases hnamed.symm.trans q3
  have hselP : selectMethod e.platform s.vm cellB.cls mk = .method mk := by rw [Launch.admits_selectMethod X.admits]; exact q4
  obtain ⟨vm₁, X₁, hstep₁⟩ := X.invokevirtual hexec hown hlink hnamed hmethM hstM hkP hkPi hy (a := b) (cell := cellB) hcell
    (fun z h => by rw [h] at hobj; cases hobj) hselP hmethM habM hkP hkPi (g := g) hg (argsL := argsL) (rest := rest) (hlen _ hsigM) hstack hdg
  obtain ⟨v, B, X', hpost, hsteps⟩ := hK m meth c ⟨T.setVm vm₁, locs, cells, slots⟩ { g with stack := rest } (.invokevirtual index) mk (Value.ref b :: argsL).toArray X₁ hg hsize hdg hW (X₁.named hnamed) (hpre vm₁ X₁.warmed)
  exact ⟨v, vm₁, B, X₁.warmed, X', hpost, fun target h => hstep₁ _ fun acts => by rw [doInvoke_state]; exact hsteps.trans h⟩
abbrev vx_CVW (R : Room) (s : State) (args : Array Value) (own C : String) (index : Nat) (y : MethodName) (bytes : ByteArray) (maxL : Nat) (ret : Option FieldType) (hh : List (Nat × Nat × Nat × Nat)) (ws : List Cond) (rm : Room) (mc ms n : Nat) : Prop :=
  (rm.cells = mc ∧ rm.slots = ms ∧ rm.frames + 1 ≤ R.frames ∧ 8 + (maxL + 11) + rm.locals ≤ R.locals ∧ (∀ w ∈ ws, ∀ (a' : Array Value) (U : State), s.WarmedH U.vm → w.before a' U = true) ∧ Cond.codeWith y bytes maxL ret hh ∈ ws) ∧
  (Cond.codeWith y bytes maxL ret hh).before args s = true ∧ (Cond.initialized y.cls).before args s = true ∧ (y.cls ≠ "java/lang/invoke/MethodHandle" ∧ y.cls ≠ "java/lang/invoke/VarHandle") ∧
  (∀ sig, parseMethodDescriptor y.desc = some sig → n = sig.parameters.length) ∧ (Cond.methodLink own index y).before args s = true ∧ (Cond.instanceMethod y).before args s = true ∧ (Cond.selects C y y).before args s = true
theorem vx_cwVW {own C : String} {index maxL mc ms : Nat} {y : MethodName} {bytes : ByteArray} {ret : Option FieldType} {hh : List (Nat × Nat × Nat × Nat)} {Ts ws ws' : List Cond} {rm : Room} (n : Nat) (ht : ∀ w ∈ Ts, w.before args s = true) (hT : GoodIn Ts (wsV own index C y ws)) (hw : ws = Cond.codeWith y bytes maxL ret hh :: ws') (hrc : rm.cells = mc) (hrs : rm.slots = ms)
    (hd : y.cls = C ∧ y.cls ≠ "java/lang/invoke/MethodHandle" ∧ y.cls ≠ "java/lang/invoke/VarHandle" ∧ (parseMethodDescriptor y.desc).map (fun d => d.parameters.length) = some n) (hR : rm.frames + 1 ≤ R.frames ∧ 8 + (maxL + 11) + rm.locals ≤ R.locals) :
    vx_CVW R s args own C index y bytes maxL ret hh ws rm mc ms n := by
  obtain ⟨hC, hd⟩ := hd
  subst hC
  have ok : ∀ w ∈ wsV own index y.cls y ws, w.before args s = true := fun w h => ht w (hT w h).1
  have hG : GoodIn Ts ws := fun w h => hT w (by unfold wsV; exact List.mem_append_right _ h)
  have hc : Cond.codeWith y bytes maxL ret hh ∈ ws := by rw [hw]; exact List.mem_cons_self
  refine ⟨⟨hrc, hrs, hR.1, hR.2, pay_in ht hG, hc⟩, ht _ (hG _ hc).1, ok _ (by simp [wsV]), ⟨hd.1, hd.2.1⟩, fun sig h => ?_, ok _ (by simp [wsV]), ok _ (by simp [wsV]), ok _ (by simp [wsV])⟩
  have h2 := hd.2.2
  rw [h] at h2
  exact (Option.some.inj h2).symm
theorem vx_runVW {y : MethodName} {bytes cc : ByteArray} {maxL nL mc ms n index : Nat} {ret : Option FieldType} {hh : List (Nat × Nat × Nat × Nat)} {ws : List Cond} {rm : Room} {Pc : Array Value → State → Prop} {Qc : Array Value → State → Outcome → State → Prop} {free : Addr → Prop} {Ts : List Cond} {own C : String} {b : Addr} {As rest : List Value} {g : JFrame}
    (S : CallFix p m c cc nL s args Ts own) (hM : Met l y ws rm Pc Qc mc ms free) (cw : vx_CVW R s args own C index y bytes maxL ret hh ws rm mc ms n) (hp : PreV s H C b Pc As)
    (hg : g.method = m) (hn : As.length = n) (hsize : g.locals.size = nL) (hstack : g.stack = As.reverse ++ .ref b :: rest) (hW : 2 * g.monitorRoom + (rest.map fun v => v.category).sum ≤ 8) (hdg : decode cc g.pc = .ok (.invokevirtual index, 3)) (hf : cells + mc ≤ R.cells ∧ slots + ms ≤ R.slots) :
    va_Run p l e R s m args below meth c H locs cells slots mc ms g rest (Qc (Value.ref b :: As).toArray) free := by
  obtain ⟨⟨hrc, hrs, hfr, hlo, hws, hcw⟩, hcode, hini, hy, hlen, hl, hin, hse⟩ := cw
  have hK : Back l R p e below s args y 3 8 (PreOf R mc ms Pc) (PostOf Qc mc ms free) := va_backW (hh := hh) (bytes := bytes) (maxL := maxL) (ret := ret) hM hp.1 hrc hrs hfr hlo hws hcw (fun a' U hW => word_at hW (Or.inl (by first | rfl | simp [Cond.onTables, Cond.keeps, Cond.steady])) hini)
  obtain ⟨hx, hb, hml, ho, -⟩ := S
  obtain ⟨-, ⟨cellB, hcB, hoB, hclB⟩, hPc⟩ := hp
  intro T hT X
  obtain ⟨v, vm₁, ⟨U', l2, c2, s2⟩, hW₁, X', ⟨g', mk, t, L, e1, e2, hq, h1, hL, h2, h3⟩, st⟩ := vx_callVW X hx (C := C) (hh := hh) (bytes := bytes) (maxL := maxL) (ret := ret) ho hl hin hse hcode hy hK (by rw [hT]; exact hcB) hoB hclB hg (hsize.trans hml.symm) (argsL := As) (rest := rest) (fun sig h => hn.trans (hlen sig h)) hstack hW (by rw [hb]; exact hdg)
    (fun vm₁ hW₁ => ⟨hf.1, hf.2, hPc (T.setVm vm₁) hT hW₁⟩)
  dsimp only [Pt.U, Pt.locs, Pt.cells, Pt.slots] at X' e1 e2 h1 h2 h3 st
  subst h1; subst h2; subst h3
  exact ⟨v, (T.setVm vm₁).calling g' mk (Value.ref b :: As).toArray, t, U', L, hT, X', hL, e1, e2, hq, st⟩
section
variable {y : MethodName} {bytes cc : ByteArray} {maxL nL mc ms n index : Nat} {ret : Option FieldType} {ws : List Cond} {rm : Room} {Pc : Array Value → State → Prop} {Qc : Array Value → State → Outcome → State → Prop} {XC : String → State → State → Prop} {free : Addr → Prop} {Ts : List Cond} {own C : String} {b : Addr} {As rest : List Value} {g : JFrame}
theorem vx_runVX {hh : List (Nat × Nat × Nat × Nat)} (S : CallFix p m c cc nL s args Ts own) (hM : vx_Met l y ws rm Pc Qc XC mc ms free) (cw : vx_CVW R s args own C index y bytes maxL ret hh ws rm mc ms n) (hp : PreV s H C b Pc As)
    (hg : g.method = m) (hn : As.length = n) (hsize : g.locals.size = nL) (hstack : g.stack = As.reverse ++ .ref b :: rest) (hW : 2 * g.monitorRoom + (rest.map fun v => v.category).sum ≤ 8) (hdg : decode cc g.pc = .ok (.invokevirtual index, 3)) (hf : cells + mc ≤ R.cells ∧ slots + ms ≤ R.slots) :
    vx_Run p l e R s m args below meth c H locs cells slots mc ms g rest (Qc (Value.ref b :: As).toArray) XC free := by
  obtain ⟨⟨hrc, hrs, hfr, hlo, hws, hcw⟩, hcode, hini, hy, hlen, hl, hin, hse⟩ := cw
  have hK : vx_Back l R p e below s args y 3 8 (PreOf R mc ms Pc) (PostOf Qc mc ms free) (vx_Post XC mc ms free) := vx_backW (hh := hh) (bytes := bytes) (maxL := maxL) (ret := ret) hM hp.1 hrc hrs hfr hlo hws hcw (fun a' U hW => word_at hW (Or.inl (by first | rfl | simp [Cond.onTables, Cond.keeps, Cond.steady])) hini)
  obtain ⟨hx, hb, hml, ho, -⟩ := S
  obtain ⟨-, ⟨cellB, hcB, hoB, hclB⟩, hPc⟩ := hp
  intro T hT X
  rcases vx_callVX X hx (C := C) (hh := hh) (bytes := bytes) (maxL := maxL) (ret := ret) ho hl hin hse hcode hy hK (by rw [hT]; exact hcB) hoB hclB hg (hsize.trans hml.symm) (argsL := As) (rest := rest) (fun sig h => hn.trans (hlen sig h)) hstack hW (by rw [hb]; exact hdg)
    (fun vm₁ hW₁ => ⟨hf.1, hf.2, hPc (T.setVm vm₁) hT hW₁⟩) with ⟨v, vm₁, ⟨U', l2, c2, s2⟩, hW₁, X', ⟨g', mk, t, L, e1, e2, hq, h1, hL, h2, h3⟩, st⟩ | ⟨q, vm₁, ⟨U', l2, c2, s2⟩, hW₁, X', ⟨g', mk, t, L, E, ce, e1, e2, hq, hce, hcv, hcl, h1, hL, h2, h3⟩, st⟩
  · dsimp only [Pt.U, Pt.locs, Pt.cells, Pt.slots] at X' e1 e2 h1 h2 h3 st
    subst h1; subst h2; subst h3
    exact Or.inl ⟨v, (T.setVm vm₁).calling g' mk (Value.ref b :: As).toArray, t, U', L, hT, X', hL, e1, e2, hq, st⟩
  · dsimp only [Pt.U, Pt.locs, Pt.cells, Pt.slots] at X' e1 e2 h1 h2 h3 st hcl
    subst h1; subst h2; subst h3
    exact Or.inr ⟨q, (T.setVm vm₁).calling g' mk (Value.ref b :: As).toArray, t, U', L, E, ce, hT, X', hL, e1, e2, hq, hce, hcv, vx_cls hW₁ hcl, st⟩
theorem vx_runSX {hh : List (Nat × Nat × Nat × Nat)} (S : CallFix p m c cc nL s args Ts own) (hM : vx_Met l y ws rm Pc Qc XC mc ms free) (cw : vx_CSW R s args own index y bytes maxL ret hh ws rm mc ms n) (hp : PreS s H Pc As)
    (hg : g.method = m) (hn : As.length = n) (hsize : g.locals.size = nL) (hstack : g.stack = As.reverse ++ rest) (hW : 2 * g.monitorRoom + (rest.map fun v => v.category).sum ≤ 8) (hdg : decode cc g.pc = .ok (.invokestatic index, 3)) (hf : cells + mc ≤ R.cells ∧ slots + ms ≤ R.slots) :
    vx_Run p l e R s m args below meth c H locs cells slots mc ms g rest (Qc As.toArray) XC free := by
  obtain ⟨⟨hrc, hrs, hfr, hlo, hws, hcw⟩, hcode, hini, hy, hlen, hl, hstt⟩ := cw
  have hK : vx_Back l R p e below s args y 3 8 (PreOf R mc ms Pc) (PostOf Qc mc ms free) (vx_Post XC mc ms free) := vx_backW (hh := hh) (bytes := bytes) (maxL := maxL) (ret := ret) hM hp.1 hrc hrs hfr hlo hws hcw (fun a' U hW => word_at hW (Or.inl (by first | rfl | simp [Cond.onTables, Cond.keeps, Cond.steady])) hini)
  obtain ⟨hx, hb, hml, ho, -⟩ := S
  intro T hT X
  rcases vx_callSX X hx (hh := hh) (bytes := bytes) (maxL := maxL) (ret := ret) ho hl hstt hini hcode hy hK hg (hsize.trans hml.symm) (argsL := As) (rest := rest) (fun sig h => hn.trans (hlen sig h)) hstack hW (by rw [hb]; exact hdg)
    (fun vm₁ hW₁ => ⟨hf.1, hf.2, hp.2 (T.setVm vm₁) hT hW₁⟩) with ⟨v, vm₁, ⟨U', l2, c2, s2⟩, hW₁, X', ⟨g', mk, t, L, e1, e2, hq, h1, hL, h2, h3⟩, st⟩ | ⟨q, vm₁, ⟨U', l2, c2, s2⟩, hW₁, X', ⟨g', mk, t, L, E, ce, e1, e2, hq, hce, hcv, hcl, h1, hL, h2, h3⟩, st⟩
  · dsimp only [Pt.U, Pt.locs, Pt.cells, Pt.slots] at X' e1 e2 h1 h2 h3 st
    subst h1; subst h2; subst h3
    exact Or.inl ⟨v, (T.setVm vm₁).calling g' mk As.toArray, t, U', L, hT, X', hL, e1, e2, hq, st⟩
  · dsimp only [Pt.U, Pt.locs, Pt.cells, Pt.slots] at X' e1 e2 h1 h2 h3 st hcl
    subst h1; subst h2; subst h3
    exact Or.inr ⟨q, (T.setVm vm₁).calling g' mk As.toArray, t, U', L, E, ce, hT, X', hL, e1, e2, hq, hce, hcv, vx_cls hW₁ hcl, st⟩
end
end VXH
theorem vx_ofWH {l : Launch} {y : MethodName} {ws ws' : List Cond} {rm : Room} {Pc : Array Value → State → Prop} {Qc : Array Value → State → Outcome → State → Prop} {XC : String → State → State → Prop} {mc ms : Nat} {free : Addr → Prop} {cc : ByteArray} {maxL : Nat} {ret : Option FieldType} {hh : List (Nat × Nat × Nat × Nat)}
    (hy : plainName y.cls = true) (hw : ws = Cond.codeWith y cc maxL ret hh :: ws')
    (body : ∀ p e s m args below meth c s₁, BodyLoose p l y (headSpec ws rm) cc maxL ret e s m args below meth c s₁ → c.maxLocals = maxL → Pc args s →
      W p l e (headSpec ws rm).room s m args below meth c s.heap [] 0 0 (vx_MQ below Qc XC args s mc ms free) (entryFrame m args maxL)) : vx_Met l y ws rm Pc Qc XC mc ms free := by
  refine MetFree.of_bodyS (code := cc) (maxLocals := maxL) (ret := ret) hy ?_ ?_
  · intro args s m h hn
    obtain ⟨m9, meth, c, hn9, h1, h2, h3, h4, -, h5, h6, -⟩ := Cond.codeWith_spec (atoms_spec (ws := ws) h _ (by rw [hw]; exact List.mem_cons_self))
    cases hn.symm.trans hn9
    exact ⟨meth, c, h1, h2, h3, h4, h5, h6⟩
  · intro p e s m args below meth c s₁ B hml hP _
    have hh0 : s₁.heap = s.heap := by rw [B.state]; rfl
    obtain ⟨t, a1, o, b1, b2, b3⟩ := body p e s m args below meth c s₁ B hml hP s₁ hh0 (Stand.of_body B)
    exact ⟨t, o, a1, b1, b2, b3⟩
/-! ===== END ===== -/
/-! ===== BEGIN what the machine throws by itself, no traces kept ===== -/
section VXM
set_option maxHeartbeats 1000000 in
/-- the machine throws cls with the message text, no traces kept: from its note over the frame g to 'throwing' over the same frame (follows the proofs of Stand.vmThrowsMessage, Shelf/KitTracedVmS.lean, and Stand.throwsMessageColdBareV, StandMessageColdV.lean, without the step out of the frame) -/
theorem vx_vmAt {p : Program} {l : Launch} {e : Env} {R : Room} {s : State} {m₀ : MethodId} {args : Array Value} {below : List Frame} {meth : Method} {c : Code} {W : State} {locs : List Loc} {cells slots : Nat}
    (X : Stand p l e R s m₀ args below meth c W locs cells slots) (hexec : p.tables.exec = Jvm.exec) (htr : e.platform.stackTraces = false) {cls : String} {names : List String} {text : String}
    (hcls : Bundle.fit cls = true) (hnames : ∀ n ∈ names, Bundle.fit n = true) (hsoe : (cls == "java/lang/StackOverflowError") = false) (hoom : (cls == "java/lang/OutOfMemoryError") = false)
    (h : ∀ a ∈ Bundle.messageArmAtoms cls names, a.before args s = true)
    (hlocs : ∀ x ∈ locs, ∀ cell, s.heap[x.base]? = some cell → cell.vm.isStatics = false)
    (htext : (text == notModelled) = false) (hlimit : ¬ (stringBytes (stringToUtf16 text)).size > e.platform.arrayLengthLimit) (hheap : ¬ (stringBytes (stringToUtf16 text)).size * componentBytes .byte > e.platform.maxHeapBytes)
    {g : JFrame} (hg : g.method = m₀) (hsize : g.locals.size = c.maxLocals)
    (hRframes : names.length + 4 < R.frames) (hRlocals : 2 * g.monitorRoom + (g.stack.map fun v => v.category).sum + 10240 ≤ R.locals) (hshort : 13 * names.length + 55 ≤ 10240)
    (hRcells : cells + 3 ≤ R.cells) (hRslots : slots + ((stringBytes (stringToUtf16 text)).size + 4 + 6) ≤ R.slots) (hlocks : meth.locks = false) :
    ∃ (S : State) (q : Addr) (ce : Cell), (∀ target, Steps p.tables e below ((S.setTop g).pushFrame (.throwing q)) target → Steps p.tables e below ((W.setTop g).pushFrame (.throwNew cls (some text) none)) target) ∧
      Stand p l e R s m₀ args below meth c S locs (cells + 3) (slots + ((stringBytes (stringToUtf16 text)).size + 4 + 6)) ∧ S.heap[q]? = some ce ∧ s.vm.findClass cls = some ce.cls ∧ ce.vm = .none := by
  have howns : e.platform.frameOwnsMonitors = true := by rw [X.admits.platform]
  have hfin : e.platform.finalization = false := by rw [X.admits.platform]
  have hpl : e.platform.magicAccessors = ({} : Platform).magicAccessors := by rw [X.admits.platform]
  have a : ∀ x, x ∈ Bundle.messageArmAtoms cls names → x.holds args s none s [] = true := fun x hx => h x hx
  obtain ⟨T, Z0, L, -, Y⟩ := ThrowableC.of_atoms (args := args) howns hfin hpl (fun x hx => h x (by simp [Bundle.messageArmAtoms, hx]))
  obtain ⟨Z, M, LZ, LM, hnZ⟩ := Init0T.ofS_atoms (args := args) hpl L Y (fun x hx => h x (by simp [Bundle.messageArmAtoms, hx]))
  obtain ⟨P1, Ps, hlen, L1, hL, hP1m, hlink1, hlink⟩ := Bundle.chainS (args := args) hpl hnZ names cls hcls hnames (fun x hx => h x (by simp [Bundle.messageArmAtoms, hx]))
  obtain ⟨Zs, LZs, hn4, hfitv, hfitc⟩ := StringT.of_atoms (args := args) (fun x hx => h x (by simp [Bundle.messageArmAtoms, hx]))
  have hfound : s.vm.findClass cls = some P1.m.cls := findClass_of_methodNamed hP1m
  obtain ⟨c1, kX, hc1, hk, hord, -, -, hn6⟩ := Cond.instantiable_spec (a (.instantiable cls 6) (by simp [Bundle.messageArmAtoms]))
  cases Option.some.inj (hc1.symm.trans hfound)
  have hinit := Cond.initialized_spec hfound hk (a (.initialized cls) (by simp [Bundle.messageArmAtoms]))
  have hctor : kX.findMethod "<init>" "(Ljava/lang/String;)V" = some P1.m.idx := findMethod_of_methodNamed hP1m hk
  have hsel0 : selectMethod e.platform s.vm P1.m.cls T.fill0 = .method T.fill0 := by
    obtain ⟨c2, r2, m2, q1, q2, q3, q4, -⟩ := Cond.selects_spec (a (.selects cls Bundle.tFill0 Bundle.tFill0) (by simp [Bundle.messageArmAtoms]))
    cases Option.some.inj (q1.symm.trans hfound)
    cases Option.some.inj (q2.symm.trans (State.methodFound?_of_named Y.fill0 (by decide)))
    cases Option.some.inj (q3.symm.trans Y.fill0)
    rw [Launch.admits_selectMethod X.admits]; exact q4
  have hselF : selectMethod e.platform s.vm P1.m.cls T.fill = .method T.fill := by
    obtain ⟨c2, r2, m2, q1, q2, q3, q4, -⟩ := Cond.selects_spec (a (.selects cls Bundle.tFill Bundle.tFill) (by simp [Bundle.messageArmAtoms]))
    cases Option.some.inj (q1.symm.trans hfound)
    cases Option.some.inj (q2.symm.trans (State.methodFound?_of_named Y.fill (by decide)))
    cases Option.some.inj (q3.symm.trans Y.fill)
    rw [Launch.admits_selectMethod X.admits]; exact q4
  obtain ⟨cellS0, hcS0, hiss⟩ := Y.statics
  obtain ⟨u0, hu0⟩ := Cond.staticRefV Y.unassigned L.unassignedStatic L.statics hcS0 hiss (a (.isRef (.static Bundle.tN "UNASSIGNED_STACK" Bundle.steD)) (by simp [Bundle.messageArmAtoms]))
  obtain ⟨sen, hsen⟩ := Cond.staticRefV Y.sentinel L.sentinelStatic L.statics hcS0 hiss (a (.isRef (.static Bundle.tN "SUPPRESSED_SENTINEL" Bundle.listD)) (by simp [Bundle.messageArmAtoms]))
  obtain ⟨ci198, i198, fB, hk198, hg198, ha198, hsB, -, hnB, htB, hffB⟩ := Cond.ownField (t := .object "java/lang/Object") Y.found L.cls (by decide +kernel) (a (.fieldLink Bundle.tN 198 Bundle.tN "backtrace" "Ljava/lang/Object;") (by simp [Bundle.messageArmAtoms])) (a (.lays Bundle.tN Bundle.tN "backtrace" "Ljava/lang/Object;") (by simp [Bundle.messageArmAtoms])) e.platform hpl
  obtain ⟨cellS, hcS', heS, -, hkeep⟩ := X.same.2.2.2.2.2 T.aS cellS0 hcS0
  have hcellS : W.heap[T.aS]? = some cellS := hcS'
  have hout' : ∀ i, (⟨T.aS, i⟩ : Loc) ∉ locs := fun i hmem => by
    have := hlocs _ hmem cellS0 hcS0
    rw [hiss] at this; cases this
  have hknownS : cellS.vm ≠ .unknown := by
    rw [heS]; intro hu
    rw [show cellS0.vm = .unknown from hu] at hiss
    cases hiss
  have hvU : cellS.slots[T.fUnassigned.slot]? = some u0.v := by rw [hkeep _ (hout' _)]; exact hu0
  have hvSen : cellS.slots[T.fSentinel.slot]? = some sen.v := by rw [hkeep _ (hout' _)]; exact hsen
  obtain ⟨iM, hffM⟩ := Y.msg
  obtain ⟨tyC, dC, hdC, hdnC⟩ := Cond.laysAt hfound hk Y.cause (a (.lays cls Bundle.tN "cause" "Ljava/lang/Throwable;") (by simp [Bundle.messageArmAtoms]))
  obtain ⟨tyS, dS, hdS, hdnS⟩ := Cond.laysAt hfound hk Y.stack (a (.lays cls Bundle.tN "stackTrace" Bundle.steD) (by simp [Bundle.messageArmAtoms]))
  obtain ⟨tyP, dP, hdP, hdnP⟩ := Cond.laysAt hfound hk Y.supp (a (.lays cls Bundle.tN "suppressedExceptions" Bundle.listD) (by simp [Bundle.messageArmAtoms]))
  obtain ⟨tyM, dM, hdM, hdnM⟩ := Cond.laysAt hfound hk hffM (a (.lays cls Bundle.tN "detailMessage" "Ljava/lang/String;") (by simp [Bundle.messageArmAtoms]))
  obtain ⟨tyB, dB, hdB, hdnB⟩ := Cond.laysAt hfound hk hffB (a (.lays cls Bundle.tN "backtrace" "Ljava/lang/Object;") (by simp [Bundle.messageArmAtoms]))
  have bC := Cond.laysApart hdB hdC hdnB hdnC (by rw [hnB, Y.causeName]; decide)
  have bS := Cond.laysApart hdB hdS hdnB hdnS (by rw [hnB, Y.stackName]; decide)
  have bP := Cond.laysApart hdB hdP hdnB hdnP (by rw [hnB, Y.suppName]; decide)
  have hbk : ((preparedCellV T.toThrowableT (freshCell P1.m.cls kX) (W.heap.size + 2) u0 sen).withEntry W.cur).slots[fB.slot]? = some .null := by
    have := fresh_default (c := P1.m.cls) tyB
    rw [htB] at this
    simpa [preparedCellV, Cell.setSlot, Cell.withEntry, Array.getElem?_setIfInBounds, bC, bS, bP, bC.symm, bS.symm, bP.symm, defaultValue] using this
  have tkC := Takes.of_laid (v := .ref (W.heap.size + 2)) hk hord tyC (by rw [Y.causeType]; rfl)
  have tkS := Takes.of_laid (v := u0.v) hk hord tyS (by rw [Y.stackType]; exact fits_refV_array _ u0)
  have tkP := Takes.of_laid (v := sen.v) hk hord tyP (by rw [Y.suppType]; exact fits_refV_object _ sen)
  have tkM := Takes.of_laid (v := .ref (W.heap.size + 1)) hk hord tyM (by rw [Y.msgType]; rfl)
  have hskip : SkipFacts T e.platform s (fun u => u) u0 ((preparedCellV T.toThrowableT (freshCell P1.m.cls kX) (W.heap.size + 2) u0 sen).withEntry W.cur) := ⟨{ ci198 := ci198, i198 := i198, fBack := fB }, ⟨hk198, hg198, ha198, hsB⟩, hbk, fun _ _ => rfl⟩
  have h0 : At W g.method c below := by rw [hg]; exact X.here
  obtain ⟨hbeyond, hfreeW⟩ := X.vmMayThrow hsize (.throwNew cls (some text) none) (fun f hf => by cases hf) rfl hRlocals
  have hfr' : W.frames.length + Ps.length + 4 < (e.platform.stackLimits W.me).1 := by have := X.framesAbove hRframes; omega
  have hwd' : (stackUse (.java g :: W.frames.tail)).2 + 13 * Ps.length + 55 ≤ (e.platform.stackLimits W.me).2 := by have := X.stackAbove hsize (K := 13 * Ps.length + 55) (by omega); omega
  have hslots : W.slotsUsed + (stringBytes (stringToUtf16 text)).size + Zs.kS.instanceTypes.size + kX.instanceTypes.size ≤ e.platform.maxSlots := by
    have := X.slotsAbove hRslots
    rw [hn4, hn6]
    omega
  obtain ⟨vm', hW', st⟩ := Steps.vmThrowsMessageColdByV p (s₀ := s) (S := W) (g := g) h0 hexec T L Z LZ M LM X.warmed (t := W.cur) rfl Zs LZs P1 L1 Ps hL hlink1 hlink hsoe hoom hfound hk hinit hord hctor
    (Launch.admits_hotImplicitExceptions X.admits) hbeyond hfreeW htext hlimit hheap (X.cellsAbove hRcells) hslots (hfitv _) (hfitc _)
    (Nn := fun u => u) heapOnly_id (fun _ _ => rfl) (fun _ => rfl) (fun u x y => setCell_twice _ _ _ _) (fun _ => Nat.le_refl _) (cN := ((preparedCellV T.toThrowableT (freshCell P1.m.cls kX) (W.heap.size + 2) u0 sen).withEntry W.cur))
    hsel0 hcellS hknownS hvU tkS (fun _ hu => hu) (fun _ hu => hu) rfl rfl rfl (by simp [preparedCellV, Cell.setSlot, Cell.withEntry]) hskip (fun _ _ hA hW _ hroom _ hrest => L.nativeOff p htr hA hW hroom hrest) hselF hvSen tkC tkP tkM Y.objLocals rfl hfr' hwd'
  rw [plainBareV_eq T.toThrowableT (W.heap.size + 2) u0 sen (.ref (W.heap.size + 1)) W.cur rfl rfl] at st
  obtain ⟨-, -, w3, w4, -, -, -⟩ := withThrown_facts e.platform W Zs text P1.m.cls kX
  have X3 := ((X.pushed (bytesOf Zs.cB (stringToUtf16 text))).pushed (stringAt Zs.cS Zs.kS Zs.fv Zs.fc (stringToUtf16 text) W.heap.size)).pushed (freshCell P1.m.cls kX)
  rw [← withString_eq] at X3
  have X4 := X3.noted hW'
  have ha : (W.heap.size + 2) < ((withThrown W Zs text P1.m.cls kX).setVm vm').heap.size := by show _ < (withThrown W Zs text P1.m.cls kX).heap.size; rw [w3]; omega
  have hcell : ((withThrown W Zs text P1.m.cls kX).setVm vm').heap[(W.heap.size + 2)]? = some (freshCell P1.m.cls kX) := w4
  have X5 := ((((X4.stored hcell T.fCause.slot (.ref (W.heap.size + 2))).storedAgain ha T.fStack.slot u0.v).storedAgain ha T.fSupp.slot sen.v).storedAgain ha T.fStack.slot u0.v).storedAgain ha T.fMsg.slot (.ref (W.heap.size + 1))
  obtain ⟨g₁, hfrM⟩ := X5.frames_eq
  have hU : ((((withThrown W Zs text P1.m.cls kX).setVm vm').setCell (W.heap.size + 2) (plainBareV T.toThrowableT (freshCell P1.m.cls kX) (W.heap.size + 2) u0 sen (.ref (W.heap.size + 1)))).setTop g).pushFrame (.throwing (W.heap.size + 2)) = (((withThrown W Zs text P1.m.cls kX).setVm vm').setCell (W.heap.size + 2) (plainBareV T.toThrowableT (freshCell P1.m.cls kX) (W.heap.size + 2) u0 sen (.ref (W.heap.size + 1)))).setFrames (.throwing (W.heap.size + 2) :: .java g :: below) := by
    rw [State.pushFrame, State.frames_setTop _ hfrM, State.setTop_of_frames _ hfrM, State.setFrames_setFrames]
  have b1 : (bytesOf Zs.cB (stringToUtf16 text)).slots.size = (stringBytes (stringToUtf16 text)).size := by
    rw [(Cell.writeAll_facts _ _).2.2]; simp [bytes0]
  have b2 : (stringAt Zs.cS Zs.kS Zs.fv Zs.fc (stringToUtf16 text) W.heap.size).slots.size = 4 := by simp [string0, Cell.setSlot, hn4]
  have b3 : (freshCell P1.m.cls kX).slots.size = 6 := by simp [hn6]
  rw [b1, b2, b3] at X5
  have e9 : slots + (stringBytes (stringToUtf16 text)).size + 4 + 6 = slots + ((stringBytes (stringToUtf16 text)).size + 4 + 6) := by omega
  rw [e9] at X5
  simp only [List.append_assoc, List.cons_append, List.nil_append] at X5
  refine ⟨((withThrown W Zs text P1.m.cls kX).setVm vm').setCell (W.heap.size + 2) (plainBareV T.toThrowableT (freshCell P1.m.cls kX) (W.heap.size + 2) u0 sen (.ref (W.heap.size + 1))), W.heap.size + 2, _, fun target ht => st _ (by rw [X.tail, ← hU]; exact ht),
    X5.forget (fun y hy => ?_), heapAt_setCell_self _ ha, hfound, rfl⟩
  simp only [List.mem_cons, List.not_mem_nil, or_false] at hy
  have hge : s.heap.size ≤ W.heap.size := X.same.2.1
  rcases hy with rfl | rfl | rfl | rfl | rfl <;> exact Nat.le_trans hge (Nat.le_add_right _ 2)
set_option maxHeartbeats 1000000 in
/-- the machine throws NullPointerException, no traces kept: from its note over the frame g to 'throwing' over the same frame (follows the proof of Stand.vmThrowsNpe, Shelf42/KT2.lean; throwsNpeColdBareVAt, Shelf42/NT91.lean, called) -/
theorem vx_npeAt {p : Program} {l : Launch} {e : Env} {R : Room} {s : State} {m₀ : MethodId} {args : Array Value} {below : List Frame} {meth : Method} {c : Code} {W : State} {locs : List Loc} {cells slots : Nat}
    (X : Stand p l e R s m₀ args below meth c W locs cells slots) (hexec : p.tables.exec = Jvm.exec) (htr : e.platform.stackTraces = false) {n : Nat}
    (h : ∀ a ∈ Bundle.npeArmAtoms n, a.before args s = true)
    (hlocs : ∀ x ∈ locs, ∀ cell, s.heap[x.base]? = some cell → cell.vm.isStatics = false)
    {g : JFrame} (hg : g.method = m₀) (hsize : g.locals.size = c.maxLocals)
    (hRframes : 7 < R.frames) (hRlocals : 2 * g.monitorRoom + (g.stack.map fun v => v.category).sum + 10240 ≤ R.locals)
    (hRcells : cells + 1 ≤ R.cells) (hRslots : slots + n ≤ R.slots) (hlocks : meth.locks = false) :
    ∃ (S : State) (q : Addr) (ce : Cell), (∀ target, Steps p.tables e below ((S.setTop g).pushFrame (.throwing q)) target → Steps p.tables e below ((W.setTop g).pushFrame (.throwNew "java/lang/NullPointerException" none none)) target) ∧
      Stand p l e R s m₀ args below meth c S locs (cells + 1) (slots + n) ∧ S.heap[q]? = some ce ∧ s.vm.findClass "java/lang/NullPointerException" = some ce.cls ∧ ce.vm = .none := by
  have howns : e.platform.frameOwnsMonitors = true := by rw [X.admits.platform]
  have hfin : e.platform.finalization = false := by rw [X.admits.platform]
  have hpl : e.platform.magicAccessors = ({} : Platform).magicAccessors := by rw [X.admits.platform]
  have hpl2 : e.platform.arrayCloneIsPublic = true := by rw [X.admits.platform]
  have a' : ∀ x, x ∈ Bundle.npeArmAtoms n → x.holds args s none s [] = true := fun x hx => h x hx
  obtain ⟨T, Z, L, LZ, Y⟩ := ThrowableC.of_atoms (args := args) howns hfin hpl (fun x hx => h x (by simp [Bundle.npeArmAtoms, hx]))
  obtain ⟨N, LN, hcN, hnNF, hordN, hffS⟩ := NpeC.of_atoms (args := args) hpl hpl2 L Y (fun x hx => h x (by simp [Bundle.npeArmAtoms, hx]))
  obtain ⟨P1, L1, hP1m, hP1s⟩ := PassC.of_atoms (args := args) (s := s) hpl (X := Bundle.nN) (Y := Bundle.rN) (by decide) (by decide) LibCode.NullPointerException.Init0.at_0 LibCode.NullPointerException.Init0.at_1 LibCode.NullPointerException.Init0.at_4 (fun x hx => h x (by simp [Bundle.npeArmAtoms, hx]))
  obtain ⟨PR, LR, hPRm, hPRs⟩ := PassC.of_atoms (args := args) (s := s) hpl (X := Bundle.rN) (Y := Bundle.eN) (by decide) (by decide) LibCode.RuntimeException.Init0.at_0 LibCode.RuntimeException.Init0.at_1 LibCode.RuntimeException.Init0.at_4 (fun x hx => h x (by simp [Bundle.npeArmAtoms, hx]))
  obtain ⟨PE, LEx, hPEm, hPEs⟩ := PassC.of_atoms (args := args) (s := s) hpl (X := Bundle.eN) (Y := Bundle.tN) (by decide) (by decide) LibCode.Exception.Init0.at_0 LibCode.Exception.Init0.at_1 LibCode.Exception.Init0.at_4 (fun x hx => h x (by simp [Bundle.npeArmAtoms, hx]))
  have hfound : s.vm.findClass Bundle.nN = some P1.m.cls := findClass_of_methodNamed hP1m
  have ecls : N.cN = P1.m.cls := Option.some.inj (hcN.symm.trans hfound)
  have hk : s.vm.classes[P1.m.cls]? = some N.kN := by rw [← ecls]; exact LN.cls
  have hinit := Cond.initialized_spec hfound hk (a' (.initialized Bundle.nN) (by simp [Bundle.npeArmAtoms]))
  have hctor : N.kN.findMethod "<init>" "()V" = some P1.m.idx := findMethod_of_methodNamed hP1m hk
  obtain ⟨c1, k1, hc1, hk1, -, -, -, hn⟩ := Cond.instantiable_spec (a' (.instantiable Bundle.nN n) (by simp [Bundle.npeArmAtoms]))
  cases Option.some.inj (hc1.symm.trans hfound)
  cases Option.some.inj (hk1.symm.trans hk)
  have hfsz : (freshCell P1.m.cls N.kN).slots.size = n := by simp [hn]
  have hlink1 : P1.sup = PR.m := Option.some.inj (hP1s.symm.trans hPRm)
  have hlinkR : PR.sup = PE.m := Option.some.inj (hPRs.symm.trans hPEm)
  have hlinkE : PE.sup = Z.m T.toThrowableT := Option.some.inj (hPEs.symm.trans Y.init0)
  have hLs : ∀ P, P ∈ [PR, PE] → P.Links0 e.platform s := fun P hP => by
    simp only [List.mem_cons, List.not_mem_nil, or_false] at hP
    rcases hP with rfl | rfl
    · exact LR
    · exact LEx
  have hsel0 : selectMethod e.platform s.vm P1.m.cls T.fill0 = .method T.fill0 := by
    obtain ⟨c2, r2, m2, q1, q2, q3, q4, -⟩ := Cond.selects_spec (a' (.selects Bundle.nN Bundle.tFill0 Bundle.tFill0) (by simp [Bundle.npeArmAtoms]))
    cases Option.some.inj (q1.symm.trans hfound)
    cases Option.some.inj (q2.symm.trans (State.methodFound?_of_named Y.fill0 (by decide)))
    cases Option.some.inj (q3.symm.trans Y.fill0)
    rw [Launch.admits_selectMethod X.admits]; exact q4
  have hselF : selectMethod e.platform s.vm P1.m.cls T.fill = .method N.fill := by
    obtain ⟨c2, r2, m2, q1, q2, q3, q4, -⟩ := Cond.selects_spec (a' (.selects Bundle.nN Bundle.tFill Bundle.nFill) (by simp [Bundle.npeArmAtoms]))
    cases Option.some.inj (q1.symm.trans hfound)
    cases Option.some.inj (q2.symm.trans (State.methodFound?_of_named Y.fill (by decide)))
    cases Option.some.inj (q3.symm.trans hnNF)
    rw [Launch.admits_selectMethod X.admits]; exact q4
  obtain ⟨cellS0, hcS0, hiss⟩ := Y.statics
  obtain ⟨u0, hu0⟩ := Cond.staticRefV Y.unassigned L.unassignedStatic L.statics hcS0 hiss (a' (.isRef (.static Bundle.tN "UNASSIGNED_STACK" Bundle.steD)) (by simp [Bundle.npeArmAtoms]))
  obtain ⟨sen, hsen⟩ := Cond.staticRefV Y.sentinel L.sentinelStatic L.statics hcS0 hiss (a' (.isRef (.static Bundle.tN "SUPPRESSED_SENTINEL" Bundle.listD)) (by simp [Bundle.npeArmAtoms]))
  obtain ⟨ci198, i198, fB, hk198, hg198, ha198, hsB, -, hnB, htB, hffB⟩ := Cond.ownField (t := .object "java/lang/Object") Y.found L.cls (by decide +kernel) (a' (.fieldLink Bundle.tN 198 Bundle.tN "backtrace" Bundle.objD) (by simp [Bundle.npeArmAtoms])) (a' (.lays Bundle.tN Bundle.tN "backtrace" Bundle.objD) (by simp [Bundle.npeArmAtoms])) e.platform hpl
  obtain ⟨cellS, hcS', heS, -, hkeep⟩ := X.same.2.2.2.2.2 T.aS cellS0 hcS0
  have hcellS : W.heap[T.aS]? = some cellS := hcS'
  have hout' : ∀ i, (⟨T.aS, i⟩ : Loc) ∉ locs := fun i hmem => by
    have := hlocs _ hmem cellS0 hcS0
    rw [hiss] at this; cases this
  have hknownS : cellS.vm ≠ .unknown := by
    rw [heS]; intro hu
    rw [show cellS0.vm = .unknown from hu] at hiss
    cases hiss
  have hvU : cellS.slots[T.fUnassigned.slot]? = some u0.v := by rw [hkeep _ (hout' _)]; exact hu0
  have hvSen : cellS.slots[T.fSentinel.slot]? = some sen.v := by rw [hkeep _ (hout' _)]; exact hsen
  obtain ⟨tyC, dC, hdC, hdnC⟩ := Cond.laysAt hfound hk Y.cause (a' (.lays Bundle.nN Bundle.tN "cause" "Ljava/lang/Throwable;") (by simp [Bundle.npeArmAtoms]))
  obtain ⟨tyS, dS, hdS, hdnS⟩ := Cond.laysAt hfound hk Y.stack (a' (.lays Bundle.nN Bundle.tN "stackTrace" Bundle.steD) (by simp [Bundle.npeArmAtoms]))
  obtain ⟨tyP, dP, hdP, hdnP⟩ := Cond.laysAt hfound hk Y.supp (a' (.lays Bundle.nN Bundle.tN "suppressedExceptions" Bundle.listD) (by simp [Bundle.npeArmAtoms]))
  obtain ⟨tyX, dX, hdX, hdnX⟩ := Cond.laysAt hfound hk hffS (a' (.lays Bundle.nN Bundle.nN "extendedMessageState" "I") (by simp [Bundle.npeArmAtoms, Bundle.npeAtoms]))
  obtain ⟨hnX, htX⟩ := State.fieldFound?_type hffS (t := .int) (by decide +kernel)
  have xC := Cond.laysApart hdC hdX hdnC hdnX (by rw [hnX, Y.causeName]; decide)
  have xS := Cond.laysApart hdS hdX hdnS hdnX (by rw [hnX, Y.stackName]; decide)
  have xP := Cond.laysApart hdP hdX hdnP hdnX (by rw [hnX, Y.suppName]; decide)
  have hv0 : (freshCell P1.m.cls N.kN).slots[N.fState.slot]? = some (.int 0) := by
    have := fresh_default (c := P1.m.cls) tyX
    rw [htX] at this; exact this
  obtain ⟨tyB, dB, hdB, hdnB⟩ := Cond.laysAt hfound hk hffB (a' (.lays Bundle.nN Bundle.tN "backtrace" Bundle.objD) (by simp [Bundle.npeArmAtoms]))
  have bC := Cond.laysApart hdB hdC hdnB hdnC (by rw [hnB, Y.causeName]; decide)
  have bS := Cond.laysApart hdB hdS hdnB hdnS (by rw [hnB, Y.stackName]; decide)
  have bP := Cond.laysApart hdB hdP hdnB hdnP (by rw [hnB, Y.suppName]; decide)
  have bX := Cond.laysApart hdB hdX hdnB hdnX (by rw [hnB, hnX]; decide)
  have hbk : ((npeCell N.toNpeT (preparedCellV T.toThrowableT (freshCell P1.m.cls N.kN) W.heap.size u0 sen) W.cur).withEntry W.cur).slots[fB.slot]? = some .null := by
    have := fresh_default (c := P1.m.cls) tyB
    rw [htB] at this
    simpa [npeCell, preparedCellV, Cell.setSlot, Cell.withEntry, Array.getElem?_setIfInBounds, bC, bS, bP, bX, bC.symm, bS.symm, bP.symm, bX.symm, defaultValue] using this
  have tkC := Takes.of_laid (v := .ref W.heap.size) hk hordN tyC (by rw [Y.causeType]; rfl)
  have tkS := Takes.of_laid (v := u0.v) hk hordN tyS (by rw [Y.stackType]; exact fits_refV_array _ u0)
  have tkP := Takes.of_laid (v := sen.v) hk hordN tyP (by rw [Y.suppType]; exact fits_refV_object _ sen)
  have tkX := Takes.of_laid (v := .int 1) hk hordN tyX (by rw [htX]; rfl)
  have hskip : SkipFacts T e.platform s (fun u => u) u0 ((npeCell N.toNpeT (preparedCellV T.toThrowableT (freshCell P1.m.cls N.kN) W.heap.size u0 sen) W.cur).withEntry W.cur) := ⟨{ ci198 := ci198, i198 := i198, fBack := fB }, ⟨hk198, hg198, ha198, hsB⟩, hbk, fun _ _ => rfl⟩
  obtain ⟨vm', X3, st, -⟩ := X.throwsNpeColdBareVAt hexec hg hsize T L Z LZ N LN P1 L1 [PR, PE] hLs hlink1 ⟨hlinkR, hlinkE, trivial⟩ hfound hk hinit hordN hctor hsel0 hselF hcellS hknownS hvU hvSen
    hv0 xC xS xP tkC tkS tkP tkX Y.objLocals hskip (fun _ _ hA hW _ hroom _ hrest => L.nativeOff p htr hA hW hroom hrest) (by simpa using hRframes) hRlocals (by simp) hRcells (by rw [hn]; exact hRslots)
  have hlt : W.heap.size < ((W.pushCell (freshCell P1.m.cls N.kN)).setVm vm').heap.size := by
    show W.heap.size < (W.pushCell (freshCell P1.m.cls N.kN)).heap.size
    rw [State.heap_size_pushCell]; omega
  rw [hfsz] at X3
  obtain ⟨g₁, hfrM⟩ := X3.frames_eq
  have hU : ((((W.pushCell (freshCell P1.m.cls N.kN)).setVm vm').setCell W.heap.size (npeBareV T.toThrowableT N.toNpeT (freshCell P1.m.cls N.kN) W.heap.size u0 sen)).setTop g).pushFrame (.throwing W.heap.size) = (((W.pushCell (freshCell P1.m.cls N.kN)).setVm vm').setCell W.heap.size (npeBareV T.toThrowableT N.toNpeT (freshCell P1.m.cls N.kN) W.heap.size u0 sen)).setFrames (.throwing W.heap.size :: .java g :: below) := by
    rw [State.pushFrame, State.frames_setTop _ hfrM, State.setTop_of_frames _ hfrM, State.setFrames_setFrames]
  refine ⟨_, W.heap.size, _, fun target ht => st.trans (by rw [← hU]; exact ht), X3.forget (fun y hy => ?_), heapAt_setCell_self _ hlt, hfound, rfl⟩
  simp only [List.mem_cons, List.not_mem_nil, or_false] at hy
  have hge : s.heap.size ≤ W.heap.size := X.same.2.1
  rcases hy with rfl | rfl | rfl | rfl | rfl <;> exact hge
/-- the words of a machine's NullPointerException, but the four that speak of the heap -/
def vx_atN (n : Nat) : List Cond := (Bundle.npeArmAtoms n).filter vx_no
/-- the words of a machine's throw with a message, but the four that speak of the heap -/
def vx_atM (X : String) (names : List String) : List Cond := (Bundle.messageArmAtoms X names).filter vx_no
section
variable {p : Program} {l : Launch} {e : Env} {R : Room} {s : State} {m : MethodId} {args : Array Value} {below : List Frame} {meth : Method} {c : Code} {H : Heap} {locs : List Loc} {cells slots : Nat}
/-- a frame seen from a rebased start, seen from the first start again -/
theorem vx_back9 {T S : State} {R' : Room} {k n : Nat} (X : Stand p l e R s m args below meth c T locs cells slots) (Y : Stand p l e R' ((T.setVm s.vm).setFrames (.invoking m args :: below)) m args below meth c T [] 0 0) (Z : Stand p l e R' ((T.setVm s.vm).setFrames (.invoking m args :: below)) m args below meth c S [] k n) :
    Stand p l e R s m args below meth c S locs (cells + k) (slots + n) := by
  have hW0 : s.WarmedH ((T.setVm s.vm).setFrames (.invoking m args :: below)).vm := State.WarmedH.refl s
  refine { admits := X.admits, cas := X.cas, clock := X.clock, frames := X.frames, room := X.room, hears := X.hears, method := X.method, code := X.code, here := Z.here, tail := Z.tail, warmed := State.WarmedH.trans hW0 Z.warmed, limits := Z.limits.trans (Y.limits.symm.trans X.limits), bytes := Z.bytes.trans (Y.bytes.symm.trans X.bytes), same := ?_ }
  obtain ⟨e1, e2⟩ := Z.same
  rw [State.setFrames_setFrames] at e1
  have h2 : (T.setVm s.vm).sameButNew (S.setVm s.vm) [] k n := ⟨e1, e2⟩
  have h3 := X.same.trans h2
  rw [List.append_nil] at h3
  exact h3
/-- from the machine's note that E is thrown here with this text -/
def vx_Note (p : Program) (l : Launch) (e : Env) (R : Room) (s : State) (m : MethodId) (args : Array Value) (below : List Frame) (meth : Method) (c : Code) (H : Heap) (locs : List Loc) (cells slots : Nat) (Q : State → Prop) (g : JFrame) (E text : String) : Prop :=
  ∀ T : State, T.heap = H → Stand p l e R s m args below meth c T locs cells slots → ∃ t, Steps p.tables e below ((T.setTop g).pushFrame (.throwNew E (some text) none)) t ∧ Q t
theorem vx_vm {pc : Nat} {ls : Array Slot} {rest : List Value} {Q : State → Prop} (hexec : p.tables.exec = Jvm.exec) (hl : l.stackTraces = false) {cls text : String} {names : List String} {nb : Nat} {A : Nat → Prop}
    (hcls : Bundle.fit cls = true) (hnames : ∀ n ∈ names, Bundle.fit n = true) (hsoe : (cls == "java/lang/StackOverflowError") = false) (hoom : (cls == "java/lang/OutOfMemoryError") = false)
    (hat : ∀ w ∈ vx_atM cls names, w.before args s = true) (hgood : ∀ w ∈ vx_atM cls names, vx_ot w = true)
    (hU : vx_Zq Bundle.tN "UNASSIGNED_STACK" Bundle.steD A s s.heap) (hN : vx_Zq Bundle.tN "SUPPRESSED_SENTINEL" Bundle.listD A s s.heap) (hS : va_S A s.heap H locs) (hsize : ls.size = c.maxLocals)
    (htext : (text == notModelled) = false) (hnb : (stringBytes (stringToUtf16 text)).size ≤ nb) (hnb1 : nb ≤ 1000)
    (hRframes : names.length + 4 < R.frames) (hRlocals : (rest.map fun v => v.category).sum + 10240 ≤ R.locals) (hshort : 13 * names.length + 55 ≤ 10240) (hRcells : cells + 3 ≤ R.cells) (hRslots : slots + (nb + 10) ≤ R.slots) (hlocks : meth.locks = false)
    (k : ∀ (H1 : Heap) (q9 : Addr) (ce : Cell), H.size ≤ H1.size → (∀ q : Nat, q < H.size → H1[q]? = H[q]?) → va_S A s.heap H1 locs → H1[q9]? = some ce → ce.vm = .none → s.vm.findClass cls = some ce.cls → vx_W p l e R s m args below meth c H1 locs (cells + 3) (slots + (nb + 10)) Q (F0 m pc ls rest) q9) :
    vx_Note p l e R s m args below meth c H locs cells slots Q (F0 m pc ls rest) cls text := by
  intro T hT X
  have htr : e.platform.stackTraces = false := (show e.platform.stackTraces = l.stackTraces by rw [X.admits.platform]).trans hl
  have Y := vx_rebase X (R' := { frames := R.frames, locals := R.locals, cells := 3, slots := nb + 10 }) (Nat.le_refl _) (Nat.le_refl _) hRcells hRslots
  have hhp : ((T.setVm s.vm).setFrames (.invoking m args :: below)).heap = H := hT
  have hW0 : s.WarmedH ((T.setVm s.vm).setFrames (.invoking m args :: below)).vm := State.WarmedH.refl s
  have hat' : ∀ w ∈ vx_atM cls names, w.before args ((T.setVm s.vm).setFrames (.invoking m args :: below)) = true := fun w hw => vx_ot_at hW0 rfl (hgood w hw) (hat w hw)
  have hU' : vx_Zq Bundle.tN "UNASSIGNED_STACK" Bundle.steD A ((T.setVm s.vm).setFrames (.invoking m args :: below)) ((T.setVm s.vm).setFrames (.invoking m args :: below)).heap := by rw [hhp]; exact vx_Zq.moved hW0.alike (hU.kept hS.2.1)
  have hN' : vx_Zq Bundle.tN "SUPPRESSED_SENTINEL" Bundle.listD A ((T.setVm s.vm).setFrames (.invoking m args :: below)) ((T.setVm s.vm).setFrames (.invoking m args :: below)).heap := by rw [hhp]; exact vx_Zq.moved hW0.alike (hN.kept hS.2.1)
  obtain ⟨S, q, ce, st, Z, hce, hcl', hv⟩ := vx_vmAt Y hexec htr (cls := cls) (names := names) (text := text) hcls hnames hsoe hoom (vx_own hat' (vx_isRefq hU'.1) (vx_isRefq hN'.1) hU'.2.word hN'.2.word) (fun x hx => nomatch hx) htext
    (by rw [Launch.admits_arrayLengthLimit X.admits]; omega) (by rw [Launch.admits_maxHeapBytes X.admits]; simp only [componentBytes]; omega)
    (g := F0 m pc ls rest) rfl hsize hRframes (by show 2 * 0 + (rest.map fun v => v.category).sum + 10240 ≤ R.locals; omega) hshort (by show 0 + 3 ≤ 3; omega) (by show 0 + (_ + 4 + 6) ≤ nb + 10; omega) hlocks
  obtain ⟨f1, f2⟩ := vx_frame Z.same
  have f1' : H.size ≤ S.heap.size := by rw [← hT]; exact f1
  have f2' : ∀ q : Nat, q < H.size → S.heap[q]? = H[q]? := fun q hq => by
    rw [← hT]
    exact f2 q (by rw [← hT] at hq; exact hq) (fun z hz => nomatch hz)
  have X5 := vx_back9 X Y Z
  have X6 : Stand p l e R s m args below meth c S locs (cells + 3) (slots + (nb + 10)) := { X5 with same := X5.same.mono (by omega) (by omega) }
  obtain ⟨t, a1, b1⟩ := k S.heap q ce f1' f2' ⟨Nat.le_trans hS.1 f1', fun q h1 h2 => (f2' q (Nat.lt_of_lt_of_le h1 hS.1)).trans (hS.2.1 q h1 h2), hS.2.2⟩ hce hv hcl' S rfl X6
  exact ⟨t, st t a1, b1⟩
/-- from the machine's note that NullPointerException is thrown here -/
def vx_NoteN (p : Program) (l : Launch) (e : Env) (R : Room) (s : State) (m : MethodId) (args : Array Value) (below : List Frame) (meth : Method) (c : Code) (H : Heap) (locs : List Loc) (cells slots : Nat) (Q : State → Prop) (g : JFrame) : Prop :=
  ∀ T : State, T.heap = H → Stand p l e R s m args below meth c T locs cells slots → ∃ t, Steps p.tables e below ((T.setTop g).pushFrame (.throwNew "java/lang/NullPointerException" none none)) t ∧ Q t
theorem vx_npe {pc : Nat} {ls : Array Slot} {rest : List Value} {Q : State → Prop} (hexec : p.tables.exec = Jvm.exec) (hl : l.stackTraces = false) {nb : Nat} {A : Nat → Prop}
    (hat : ∀ w ∈ vx_atN nb, w.before args s = true) (hgood : ∀ w ∈ vx_atN nb, vx_ot w = true)
    (hU : vx_Zq Bundle.tN "UNASSIGNED_STACK" Bundle.steD A s s.heap) (hN : vx_Zq Bundle.tN "SUPPRESSED_SENTINEL" Bundle.listD A s s.heap) (hS : va_S A s.heap H locs) (hsize : ls.size = c.maxLocals)
    (hRframes : 7 < R.frames) (hRlocals : (rest.map fun v => v.category).sum + 10240 ≤ R.locals) (hRcells : cells + 1 ≤ R.cells) (hRslots : slots + nb ≤ R.slots) (hlocks : meth.locks = false)
    (k : ∀ (H1 : Heap) (q9 : Addr) (ce : Cell), H.size ≤ H1.size → (∀ q : Nat, q < H.size → H1[q]? = H[q]?) → va_S A s.heap H1 locs → H1[q9]? = some ce → ce.vm = .none → s.vm.findClass "java/lang/NullPointerException" = some ce.cls → vx_W p l e R s m args below meth c H1 locs (cells + 1) (slots + nb) Q (F0 m pc ls rest) q9) :
    vx_NoteN p l e R s m args below meth c H locs cells slots Q (F0 m pc ls rest) := by
  intro T hT X
  have htr : e.platform.stackTraces = false := (show e.platform.stackTraces = l.stackTraces by rw [X.admits.platform]).trans hl
  have Y := vx_rebase X (R' := { frames := R.frames, locals := R.locals, cells := 1, slots := nb }) (Nat.le_refl _) (Nat.le_refl _) hRcells hRslots
  have hhp : ((T.setVm s.vm).setFrames (.invoking m args :: below)).heap = H := hT
  have hW0 : s.WarmedH ((T.setVm s.vm).setFrames (.invoking m args :: below)).vm := State.WarmedH.refl s
  have hat' : ∀ w ∈ vx_atN nb, w.before args ((T.setVm s.vm).setFrames (.invoking m args :: below)) = true := fun w hw => vx_ot_at hW0 rfl (hgood w hw) (hat w hw)
  have hU' : vx_Zq Bundle.tN "UNASSIGNED_STACK" Bundle.steD A ((T.setVm s.vm).setFrames (.invoking m args :: below)) ((T.setVm s.vm).setFrames (.invoking m args :: below)).heap := by rw [hhp]; exact vx_Zq.moved hW0.alike (hU.kept hS.2.1)
  have hN' : vx_Zq Bundle.tN "SUPPRESSED_SENTINEL" Bundle.listD A ((T.setVm s.vm).setFrames (.invoking m args :: below)) ((T.setVm s.vm).setFrames (.invoking m args :: below)).heap := by rw [hhp]; exact vx_Zq.moved hW0.alike (hN.kept hS.2.1)
  obtain ⟨S, q, ce, st, Z, hce, hcl', hv⟩ := vx_npeAt Y hexec htr (n := nb) (vx_own hat' (vx_isRefq hU'.1) (vx_isRefq hN'.1) hU'.2.word hN'.2.word) (fun x hx => nomatch hx)
    (g := F0 m pc ls rest) rfl hsize hRframes (by show 2 * 0 + (rest.map fun v => v.category).sum + 10240 ≤ R.locals; omega) (by show 0 + 1 ≤ 1; omega) (by show 0 + nb ≤ nb; omega) hlocks
  obtain ⟨f1, f2⟩ := vx_frame Z.same
  have f1' : H.size ≤ S.heap.size := by rw [← hT]; exact f1
  have f2' : ∀ q : Nat, q < H.size → S.heap[q]? = H[q]? := fun q hq => by
    rw [← hT]
    exact f2 q (by rw [← hT] at hq; exact hq) (fun z hz => nomatch hz)
  have X5 := vx_back9 X Y Z
  have X6 : Stand p l e R s m args below meth c S locs (cells + 1) (slots + nb) := { X5 with same := X5.same.mono (by omega) (by omega) }
  obtain ⟨t, a1, b1⟩ := k S.heap q ce f1' f2' ⟨Nat.le_trans hS.1 f1', fun q h1 h2 => (f2' q (Nat.lt_of_lt_of_le h1 hS.1)).trans (hS.2.1 q h1 h2), hS.2.2⟩ hce hv hcl' S rfl X6
  exact ⟨t, st t a1, b1⟩
variable {Q : State → Prop} {cc : ByteArray} {pc : Nat} {ls : Array Slot} {rest : List Value}
theorem vx_idivZ (hexec : p.tables.exec = Jvm.exec) (hb : c.code = cc) {a b : Int32} (h0 : b = 0) (d : decode cc pc = .ok (.idiv, 1)) (k : vx_Note p l e R s m args below meth c H locs cells slots Q (F0 m pc ls rest) "java/lang/ArithmeticException" "/ by zero") :
    W p l e R s m args below meth c H locs cells slots Q (F0 m pc ls (.int b :: .int a :: rest)) := by
  intro T hT X
  obtain ⟨t, st, q⟩ := k T hT X
  exact ⟨t, X.idivZero hexec (g := F0 m pc ls (.int b :: .int a :: rest)) rfl (a := a) (rest := rest) (by rw [h0]) (by rw [hb]; exact d) t st, q⟩
theorem vx_iremZ (hexec : p.tables.exec = Jvm.exec) (hb : c.code = cc) {a b : Int32} (h0 : b = 0) (d : decode cc pc = .ok (.irem, 1)) (k : vx_Note p l e R s m args below meth c H locs cells slots Q (F0 m pc ls rest) "java/lang/ArithmeticException" "/ by zero") :
    W p l e R s m args below meth c H locs cells slots Q (F0 m pc ls (.int b :: .int a :: rest)) := by
  intro T hT X
  obtain ⟨t, st, q⟩ := k T hT X
  exact ⟨t, X.iremZero hexec (g := F0 m pc ls (.int b :: .int a :: rest)) rfl (a := a) (rest := rest) (by rw [h0]) (by rw [hb]; exact d) t st, q⟩
theorem vx_ldivZ (hexec : p.tables.exec = Jvm.exec) (hb : c.code = cc) {a b : Int64} (h0 : b = 0) (d : decode cc pc = .ok (.ldiv, 1)) (k : vx_Note p l e R s m args below meth c H locs cells slots Q (F0 m pc ls rest) "java/lang/ArithmeticException" "/ by zero") :
    W p l e R s m args below meth c H locs cells slots Q (F0 m pc ls (.long b :: .long a :: rest)) := by
  intro T hT X
  obtain ⟨t, st, q⟩ := k T hT X
  exact ⟨t, X.ldivZero hexec (g := F0 m pc ls (.long b :: .long a :: rest)) rfl (a := a) (rest := rest) (by rw [h0]) (by rw [hb]; exact d) t st, q⟩
theorem vx_lremZ (hexec : p.tables.exec = Jvm.exec) (hb : c.code = cc) {a b : Int64} (h0 : b = 0) (d : decode cc pc = .ok (.lrem, 1)) (k : vx_Note p l e R s m args below meth c H locs cells slots Q (F0 m pc ls rest) "java/lang/ArithmeticException" "/ by zero") :
    W p l e R s m args below meth c H locs cells slots Q (F0 m pc ls (.long b :: .long a :: rest)) := by
  intro T hT X
  obtain ⟨t, st, q⟩ := k T hT X
  exact ⟨t, X.lremZero hexec (g := F0 m pc ls (.long b :: .long a :: rest)) rfl (a := a) (rest := rest) (by rw [h0]) (by rw [hb]; exact d) t st, q⟩
theorem vx_ialdZ {D : va_G} {cl : List vw_C} {ws : va_W} {tys : List (ClassId × FieldType)} {a : Nat} (hexec : p.tables.exec = Jvm.exec) (hb : c.code = cc) (hK : va_K D cl tys s) (hP : va_P D cl ws H) (q0 t0 : Nat) {cA : ClassId} {n : Nat} {f : Nat → Int32} (ha : ws[q0]? = some (a, .inl (cA, n, .inl f))) (ht : tys[t0]? = some (cA, .int)) {i : Int32} (hout : ¬ vp_in i n) (hdg : decode cc pc = .ok (.iaload, 1))
    (k : ∀ tx : String, tx = (toString "Index " ++ toString i ++ toString " out of bounds for length " ++ toString n : String) → vx_Note p l e R s m args below meth c H locs cells slots Q (F0 m pc ls rest) "java/lang/ArrayIndexOutOfBoundsException" tx) : W p l e R s m args below meth c H locs cells slots Q (F0 m pc ls (.int i :: .ref a :: rest)) := by
  intro T hT X
  obtain ⟨t, st, q⟩ := k _ rfl T hT X
  refine ⟨t, ?_, q⟩
  have h1 := X.ialoadOut hexec (by rw [hT]; exact hP q0 _ ha) ((hK.2 t0 _ ht).1 n (fun j => .int (f j))) (j := i) (by show (i < 0 ∨ (arrV _ _ _).slots.size ≤ _); rw [arrV_size]; exact Classical.byContradiction hout) (g := F0 m pc ls (.int i :: .ref a :: rest)) rfl (rest := rest) rfl (by rw [hb]; exact hdg) t
  simp only [arrV_size] at h1
  exact h1 st
theorem vx_iastZ {D : va_G} {cl : List vw_C} {ws : va_W} {tys : List (ClassId × FieldType)} {a : Nat} (hexec : p.tables.exec = Jvm.exec) (hb : c.code = cc) (hK : va_K D cl tys s) (hP : va_P D cl ws H) (q0 t0 : Nat) {cA : ClassId} {n : Nat} {f : Nat → Int32} (ha : ws[q0]? = some (a, .inl (cA, n, .inl f))) (ht : tys[t0]? = some (cA, .int)) {i : Int32} {x : Int32} (hout : ¬ vp_in i n) (hdg : decode cc pc = .ok (.iastore, 1))
    (k : ∀ tx : String, tx = (toString "Index " ++ toString i ++ toString " out of bounds for length " ++ toString n : String) → vx_Note p l e R s m args below meth c H locs cells slots Q (F0 m pc ls rest) "java/lang/ArrayIndexOutOfBoundsException" tx) : W p l e R s m args below meth c H locs cells slots Q (F0 m pc ls (.int x :: .int i :: .ref a :: rest)) := by
  intro T hT X
  obtain ⟨t, st, q⟩ := k _ rfl T hT X
  refine ⟨t, ?_, q⟩
  have h1 := X.iastoreOut hexec (by rw [hT]; exact hP q0 _ ha) ((hK.2 t0 _ ht).1 n (fun j => .int (f j))) (j := i) (by show (i < 0 ∨ (arrV _ _ _).slots.size ≤ _); rw [arrV_size]; exact Classical.byContradiction hout) (g := F0 m pc ls (.int x :: .int i :: .ref a :: rest)) rfl (rest := rest) rfl (by rw [hb]; exact hdg) t
  simp only [arrV_size] at h1
  exact h1 st
theorem vx_baldZ {D : va_G} {cl : List vw_C} {ws : va_W} {tys : List (ClassId × FieldType)} {a : Nat} (hexec : p.tables.exec = Jvm.exec) (hb : c.code = cc) (hK : va_K D cl tys s) (hP : va_P D cl ws H) (q0 t0 : Nat) {cA : ClassId} {n : Nat} {f : Nat → Int32} (ha : ws[q0]? = some (a, .inl (cA, n, .inl f))) (ht : tys[t0]? = some (cA, .byte)) {i : Int32} (hout : ¬ vp_in i n) (hdg : decode cc pc = .ok (.baload, 1))
    (k : ∀ tx : String, tx = (toString "Index " ++ toString i ++ toString " out of bounds for length " ++ toString n : String) → vx_Note p l e R s m args below meth c H locs cells slots Q (F0 m pc ls rest) "java/lang/ArrayIndexOutOfBoundsException" tx) : W p l e R s m args below meth c H locs cells slots Q (F0 m pc ls (.int i :: .ref a :: rest)) := by
  intro T hT X
  obtain ⟨t, st, q⟩ := k _ rfl T hT X
  refine ⟨t, ?_, q⟩
  have h1 := X.baloadOut hexec (by rw [hT]; exact hP q0 _ ha) ((hK.2 t0 _ ht).1 n (fun j => .int (f j))) (j := i) (by show (i < 0 ∨ (arrV _ _ _).slots.size ≤ _); rw [arrV_size]; exact Classical.byContradiction hout) (g := F0 m pc ls (.int i :: .ref a :: rest)) rfl (rest := rest) rfl (by rw [hb]; exact hdg) t
  simp only [arrV_size] at h1
  exact h1 st
theorem vx_bastZ {D : va_G} {cl : List vw_C} {ws : va_W} {tys : List (ClassId × FieldType)} {a : Nat} (hexec : p.tables.exec = Jvm.exec) (hb : c.code = cc) (hK : va_K D cl tys s) (hP : va_P D cl ws H) (q0 t0 : Nat) {cA : ClassId} {n : Nat} {f : Nat → Int32} (ha : ws[q0]? = some (a, .inl (cA, n, .inl f))) (ht : tys[t0]? = some (cA, .byte)) {i : Int32} {x : Int32} (hout : ¬ vp_in i n) (hdg : decode cc pc = .ok (.bastore, 1))
    (k : ∀ tx : String, tx = (toString "Index " ++ toString i ++ toString " out of bounds for length " ++ toString n : String) → vx_Note p l e R s m args below meth c H locs cells slots Q (F0 m pc ls rest) "java/lang/ArrayIndexOutOfBoundsException" tx) : W p l e R s m args below meth c H locs cells slots Q (F0 m pc ls (.int x :: .int i :: .ref a :: rest)) := by
  intro T hT X
  obtain ⟨t, st, q⟩ := k _ rfl T hT X
  refine ⟨t, ?_, q⟩
  have h1 := X.bastoreOut hexec (by rw [hT]; exact hP q0 _ ha) ((hK.2 t0 _ ht).1 n (fun j => .int (f j))) (j := i) (by show (i < 0 ∨ (arrV _ _ _).slots.size ≤ _); rw [arrV_size]; exact Classical.byContradiction hout) (g := F0 m pc ls (.int x :: .int i :: .ref a :: rest)) rfl (rest := rest) rfl (by rw [hb]; exact hdg) t
  simp only [arrV_size] at h1
  exact h1 st
theorem vx_zaldZ {D : va_G} {cl : List vw_C} {ws : va_W} {tys : List (ClassId × FieldType)} {a : Nat} (hexec : p.tables.exec = Jvm.exec) (hb : c.code = cc) (hK : va_K D cl tys s) (hP : va_P D cl ws H) (q0 t0 : Nat) {cA : ClassId} {n : Nat} {f : Nat → Int32} (ha : ws[q0]? = some (a, .inl (cA, n, .inl f))) (ht : tys[t0]? = some (cA, .boolean)) {i : Int32} (hout : ¬ vp_in i n) (hdg : decode cc pc = .ok (.baload, 1))
    (k : ∀ tx : String, tx = (toString "Index " ++ toString i ++ toString " out of bounds for length " ++ toString n : String) → vx_Note p l e R s m args below meth c H locs cells slots Q (F0 m pc ls rest) "java/lang/ArrayIndexOutOfBoundsException" tx) : W p l e R s m args below meth c H locs cells slots Q (F0 m pc ls (.int i :: .ref a :: rest)) := by
  intro T hT X
  obtain ⟨t, st, q⟩ := k _ rfl T hT X
  refine ⟨t, ?_, q⟩
  have h1 := X.baloadOut hexec (by rw [hT]; exact hP q0 _ ha) ((hK.2 t0 _ ht).1 n (fun j => .int (f j))) (j := i) (by show (i < 0 ∨ (arrV _ _ _).slots.size ≤ _); rw [arrV_size]; exact Classical.byContradiction hout) (g := F0 m pc ls (.int i :: .ref a :: rest)) rfl (rest := rest) rfl (by rw [hb]; exact hdg) t
  simp only [arrV_size] at h1
  exact h1 st
theorem vx_zastZ {D : va_G} {cl : List vw_C} {ws : va_W} {tys : List (ClassId × FieldType)} {a : Nat} (hexec : p.tables.exec = Jvm.exec) (hb : c.code = cc) (hK : va_K D cl tys s) (hP : va_P D cl ws H) (q0 t0 : Nat) {cA : ClassId} {n : Nat} {f : Nat → Int32} (ha : ws[q0]? = some (a, .inl (cA, n, .inl f))) (ht : tys[t0]? = some (cA, .boolean)) {i : Int32} {x : Int32} (hout : ¬ vp_in i n) (hdg : decode cc pc = .ok (.bastore, 1))
    (k : ∀ tx : String, tx = (toString "Index " ++ toString i ++ toString " out of bounds for length " ++ toString n : String) → vx_Note p l e R s m args below meth c H locs cells slots Q (F0 m pc ls rest) "java/lang/ArrayIndexOutOfBoundsException" tx) : W p l e R s m args below meth c H locs cells slots Q (F0 m pc ls (.int x :: .int i :: .ref a :: rest)) := by
  intro T hT X
  obtain ⟨t, st, q⟩ := k _ rfl T hT X
  refine ⟨t, ?_, q⟩
  have h1 := X.bastoreOut hexec (by rw [hT]; exact hP q0 _ ha) ((hK.2 t0 _ ht).1 n (fun j => .int (f j))) (j := i) (by show (i < 0 ∨ (arrV _ _ _).slots.size ≤ _); rw [arrV_size]; exact Classical.byContradiction hout) (g := F0 m pc ls (.int x :: .int i :: .ref a :: rest)) rfl (rest := rest) rfl (by rw [hb]; exact hdg) t
  simp only [arrV_size] at h1
  exact h1 st
theorem vx_caldZ {D : va_G} {cl : List vw_C} {ws : va_W} {tys : List (ClassId × FieldType)} {a : Nat} (hexec : p.tables.exec = Jvm.exec) (hb : c.code = cc) (hK : va_K D cl tys s) (hP : va_P D cl ws H) (q0 t0 : Nat) {cA : ClassId} {n : Nat} {f : Nat → Int32} (ha : ws[q0]? = some (a, .inl (cA, n, .inl f))) (ht : tys[t0]? = some (cA, .char)) {i : Int32} (hout : ¬ vp_in i n) (hdg : decode cc pc = .ok (.caload, 1))
    (k : ∀ tx : String, tx = (toString "Index " ++ toString i ++ toString " out of bounds for length " ++ toString n : String) → vx_Note p l e R s m args below meth c H locs cells slots Q (F0 m pc ls rest) "java/lang/ArrayIndexOutOfBoundsException" tx) : W p l e R s m args below meth c H locs cells slots Q (F0 m pc ls (.int i :: .ref a :: rest)) := by
  intro T hT X
  obtain ⟨t, st, q⟩ := k _ rfl T hT X
  refine ⟨t, ?_, q⟩
  have h1 := X.caloadOut hexec (by rw [hT]; exact hP q0 _ ha) ((hK.2 t0 _ ht).1 n (fun j => .int (f j))) (j := i) (by show (i < 0 ∨ (arrV _ _ _).slots.size ≤ _); rw [arrV_size]; exact Classical.byContradiction hout) (g := F0 m pc ls (.int i :: .ref a :: rest)) rfl (rest := rest) rfl (by rw [hb]; exact hdg) t
  simp only [arrV_size] at h1
  exact h1 st
theorem vx_castZ {D : va_G} {cl : List vw_C} {ws : va_W} {tys : List (ClassId × FieldType)} {a : Nat} (hexec : p.tables.exec = Jvm.exec) (hb : c.code = cc) (hK : va_K D cl tys s) (hP : va_P D cl ws H) (q0 t0 : Nat) {cA : ClassId} {n : Nat} {f : Nat → Int32} (ha : ws[q0]? = some (a, .inl (cA, n, .inl f))) (ht : tys[t0]? = some (cA, .char)) {i : Int32} {x : Int32} (hout : ¬ vp_in i n) (hdg : decode cc pc = .ok (.castore, 1))
    (k : ∀ tx : String, tx = (toString "Index " ++ toString i ++ toString " out of bounds for length " ++ toString n : String) → vx_Note p l e R s m args below meth c H locs cells slots Q (F0 m pc ls rest) "java/lang/ArrayIndexOutOfBoundsException" tx) : W p l e R s m args below meth c H locs cells slots Q (F0 m pc ls (.int x :: .int i :: .ref a :: rest)) := by
  intro T hT X
  obtain ⟨t, st, q⟩ := k _ rfl T hT X
  refine ⟨t, ?_, q⟩
  have h1 := X.castoreOut hexec (by rw [hT]; exact hP q0 _ ha) ((hK.2 t0 _ ht).1 n (fun j => .int (f j))) (j := i) (by show (i < 0 ∨ (arrV _ _ _).slots.size ≤ _); rw [arrV_size]; exact Classical.byContradiction hout) (g := F0 m pc ls (.int x :: .int i :: .ref a :: rest)) rfl (rest := rest) rfl (by rw [hb]; exact hdg) t
  simp only [arrV_size] at h1
  exact h1 st
theorem vx_saldZ {D : va_G} {cl : List vw_C} {ws : va_W} {tys : List (ClassId × FieldType)} {a : Nat} (hexec : p.tables.exec = Jvm.exec) (hb : c.code = cc) (hK : va_K D cl tys s) (hP : va_P D cl ws H) (q0 t0 : Nat) {cA : ClassId} {n : Nat} {f : Nat → Int32} (ha : ws[q0]? = some (a, .inl (cA, n, .inl f))) (ht : tys[t0]? = some (cA, .short)) {i : Int32} (hout : ¬ vp_in i n) (hdg : decode cc pc = .ok (.saload, 1))
    (k : ∀ tx : String, tx = (toString "Index " ++ toString i ++ toString " out of bounds for length " ++ toString n : String) → vx_Note p l e R s m args below meth c H locs cells slots Q (F0 m pc ls rest) "java/lang/ArrayIndexOutOfBoundsException" tx) : W p l e R s m args below meth c H locs cells slots Q (F0 m pc ls (.int i :: .ref a :: rest)) := by
  intro T hT X
  obtain ⟨t, st, q⟩ := k _ rfl T hT X
  refine ⟨t, ?_, q⟩
  have h1 := X.saloadOut hexec (by rw [hT]; exact hP q0 _ ha) ((hK.2 t0 _ ht).1 n (fun j => .int (f j))) (j := i) (by show (i < 0 ∨ (arrV _ _ _).slots.size ≤ _); rw [arrV_size]; exact Classical.byContradiction hout) (g := F0 m pc ls (.int i :: .ref a :: rest)) rfl (rest := rest) rfl (by rw [hb]; exact hdg) t
  simp only [arrV_size] at h1
  exact h1 st
theorem vx_sastZ {D : va_G} {cl : List vw_C} {ws : va_W} {tys : List (ClassId × FieldType)} {a : Nat} (hexec : p.tables.exec = Jvm.exec) (hb : c.code = cc) (hK : va_K D cl tys s) (hP : va_P D cl ws H) (q0 t0 : Nat) {cA : ClassId} {n : Nat} {f : Nat → Int32} (ha : ws[q0]? = some (a, .inl (cA, n, .inl f))) (ht : tys[t0]? = some (cA, .short)) {i : Int32} {x : Int32} (hout : ¬ vp_in i n) (hdg : decode cc pc = .ok (.sastore, 1))
    (k : ∀ tx : String, tx = (toString "Index " ++ toString i ++ toString " out of bounds for length " ++ toString n : String) → vx_Note p l e R s m args below meth c H locs cells slots Q (F0 m pc ls rest) "java/lang/ArrayIndexOutOfBoundsException" tx) : W p l e R s m args below meth c H locs cells slots Q (F0 m pc ls (.int x :: .int i :: .ref a :: rest)) := by
  intro T hT X
  obtain ⟨t, st, q⟩ := k _ rfl T hT X
  refine ⟨t, ?_, q⟩
  have h1 := X.sastoreOut hexec (by rw [hT]; exact hP q0 _ ha) ((hK.2 t0 _ ht).1 n (fun j => .int (f j))) (j := i) (by show (i < 0 ∨ (arrV _ _ _).slots.size ≤ _); rw [arrV_size]; exact Classical.byContradiction hout) (g := F0 m pc ls (.int x :: .int i :: .ref a :: rest)) rfl (rest := rest) rfl (by rw [hb]; exact hdg) t
  simp only [arrV_size] at h1
  exact h1 st
theorem vx_laldZ {D : va_G} {cl : List vw_C} {ws : va_W} {tys : List (ClassId × FieldType)} {a : Nat} (hexec : p.tables.exec = Jvm.exec) (hb : c.code = cc) (hK : va_K D cl tys s) (hP : va_P D cl ws H) (q0 t0 : Nat) {cA : ClassId} {n : Nat} {f : Nat → Int64} (ha : ws[q0]? = some (a, .inl (cA, n, .inr (.inl f)))) (ht : tys[t0]? = some (cA, .long)) {i : Int32} (hout : ¬ vp_in i n) (hdg : decode cc pc = .ok (.laload, 1))
    (k : ∀ tx : String, tx = (toString "Index " ++ toString i ++ toString " out of bounds for length " ++ toString n : String) → vx_Note p l e R s m args below meth c H locs cells slots Q (F0 m pc ls rest) "java/lang/ArrayIndexOutOfBoundsException" tx) : W p l e R s m args below meth c H locs cells slots Q (F0 m pc ls (.int i :: .ref a :: rest)) := by
  intro T hT X
  obtain ⟨t, st, q⟩ := k _ rfl T hT X
  refine ⟨t, ?_, q⟩
  have h1 := X.laloadOut hexec (by rw [hT]; exact hP q0 _ ha) ((hK.2 t0 _ ht).1 n (fun j => .long (f j))) (j := i) (by show (i < 0 ∨ (arrV _ _ _).slots.size ≤ _); rw [arrV_size]; exact Classical.byContradiction hout) (g := F0 m pc ls (.int i :: .ref a :: rest)) rfl (rest := rest) rfl (by rw [hb]; exact hdg) t
  simp only [arrV_size] at h1
  exact h1 st
theorem vx_lastZ {D : va_G} {cl : List vw_C} {ws : va_W} {tys : List (ClassId × FieldType)} {a : Nat} (hexec : p.tables.exec = Jvm.exec) (hb : c.code = cc) (hK : va_K D cl tys s) (hP : va_P D cl ws H) (q0 t0 : Nat) {cA : ClassId} {n : Nat} {f : Nat → Int64} (ha : ws[q0]? = some (a, .inl (cA, n, .inr (.inl f)))) (ht : tys[t0]? = some (cA, .long)) {i : Int32} {x : Int64} (hout : ¬ vp_in i n) (hdg : decode cc pc = .ok (.lastore, 1))
    (k : ∀ tx : String, tx = (toString "Index " ++ toString i ++ toString " out of bounds for length " ++ toString n : String) → vx_Note p l e R s m args below meth c H locs cells slots Q (F0 m pc ls rest) "java/lang/ArrayIndexOutOfBoundsException" tx) : W p l e R s m args below meth c H locs cells slots Q (F0 m pc ls (.long x :: .int i :: .ref a :: rest)) := by
  intro T hT X
  obtain ⟨t, st, q⟩ := k _ rfl T hT X
  refine ⟨t, ?_, q⟩
  have h1 := X.lastoreOut hexec (by rw [hT]; exact hP q0 _ ha) ((hK.2 t0 _ ht).1 n (fun j => .long (f j))) (j := i) (by show (i < 0 ∨ (arrV _ _ _).slots.size ≤ _); rw [arrV_size]; exact Classical.byContradiction hout) (g := F0 m pc ls (.long x :: .int i :: .ref a :: rest)) rfl (rest := rest) rfl (by rw [hb]; exact hdg) t
  simp only [arrV_size] at h1
  exact h1 st
theorem vx_faldZ {D : va_G} {cl : List vw_C} {ws : va_W} {tys : List (ClassId × FieldType)} {a : Nat} (hexec : p.tables.exec = Jvm.exec) (hb : c.code = cc) (hK : va_K D cl tys s) (hP : va_P D cl ws H) (q0 t0 : Nat) {cA : ClassId} {n : Nat} {f : Nat → UInt32} (ha : ws[q0]? = some (a, .inl (cA, n, .inr (.inr (.inl f))))) (ht : tys[t0]? = some (cA, .float)) {i : Int32} (hout : ¬ vp_in i n) (hdg : decode cc pc = .ok (.faload, 1))
    (k : ∀ tx : String, tx = (toString "Index " ++ toString i ++ toString " out of bounds for length " ++ toString n : String) → vx_Note p l e R s m args below meth c H locs cells slots Q (F0 m pc ls rest) "java/lang/ArrayIndexOutOfBoundsException" tx) : W p l e R s m args below meth c H locs cells slots Q (F0 m pc ls (.int i :: .ref a :: rest)) := by
  intro T hT X
  obtain ⟨t, st, q⟩ := k _ rfl T hT X
  refine ⟨t, ?_, q⟩
  have h1 := X.faloadOut hexec (by rw [hT]; exact hP q0 _ ha) ((hK.2 t0 _ ht).1 n (fun j => .float (f j))) (j := i) (by show (i < 0 ∨ (arrV _ _ _).slots.size ≤ _); rw [arrV_size]; exact Classical.byContradiction hout) (g := F0 m pc ls (.int i :: .ref a :: rest)) rfl (rest := rest) rfl (by rw [hb]; exact hdg) t
  simp only [arrV_size] at h1
  exact h1 st
theorem vx_fastZ {D : va_G} {cl : List vw_C} {ws : va_W} {tys : List (ClassId × FieldType)} {a : Nat} (hexec : p.tables.exec = Jvm.exec) (hb : c.code = cc) (hK : va_K D cl tys s) (hP : va_P D cl ws H) (q0 t0 : Nat) {cA : ClassId} {n : Nat} {f : Nat → UInt32} (ha : ws[q0]? = some (a, .inl (cA, n, .inr (.inr (.inl f))))) (ht : tys[t0]? = some (cA, .float)) {i : Int32} {x : UInt32} (hout : ¬ vp_in i n) (hdg : decode cc pc = .ok (.fastore, 1))
    (k : ∀ tx : String, tx = (toString "Index " ++ toString i ++ toString " out of bounds for length " ++ toString n : String) → vx_Note p l e R s m args below meth c H locs cells slots Q (F0 m pc ls rest) "java/lang/ArrayIndexOutOfBoundsException" tx) : W p l e R s m args below meth c H locs cells slots Q (F0 m pc ls (.float x :: .int i :: .ref a :: rest)) := by
  intro T hT X
  obtain ⟨t, st, q⟩ := k _ rfl T hT X
  refine ⟨t, ?_, q⟩
  have h1 := X.fastoreOut hexec (by rw [hT]; exact hP q0 _ ha) ((hK.2 t0 _ ht).1 n (fun j => .float (f j))) (j := i) (by show (i < 0 ∨ (arrV _ _ _).slots.size ≤ _); rw [arrV_size]; exact Classical.byContradiction hout) (g := F0 m pc ls (.float x :: .int i :: .ref a :: rest)) rfl (rest := rest) rfl (by rw [hb]; exact hdg) t
  simp only [arrV_size] at h1
  exact h1 st
theorem vx_daldZ {D : va_G} {cl : List vw_C} {ws : va_W} {tys : List (ClassId × FieldType)} {a : Nat} (hexec : p.tables.exec = Jvm.exec) (hb : c.code = cc) (hK : va_K D cl tys s) (hP : va_P D cl ws H) (q0 t0 : Nat) {cA : ClassId} {n : Nat} {f : Nat → UInt64} (ha : ws[q0]? = some (a, .inl (cA, n, .inr (.inr (.inr (.inl f)))))) (ht : tys[t0]? = some (cA, .double)) {i : Int32} (hout : ¬ vp_in i n) (hdg : decode cc pc = .ok (.daload, 1))
    (k : ∀ tx : String, tx = (toString "Index " ++ toString i ++ toString " out of bounds for length " ++ toString n : String) → vx_Note p l e R s m args below meth c H locs cells slots Q (F0 m pc ls rest) "java/lang/ArrayIndexOutOfBoundsException" tx) : W p l e R s m args below meth c H locs cells slots Q (F0 m pc ls (.int i :: .ref a :: rest)) := by
  intro T hT X
  obtain ⟨t, st, q⟩ := k _ rfl T hT X
  refine ⟨t, ?_, q⟩
  have h1 := X.daloadOut hexec (by rw [hT]; exact hP q0 _ ha) ((hK.2 t0 _ ht).1 n (fun j => .double (f j))) (j := i) (by show (i < 0 ∨ (arrV _ _ _).slots.size ≤ _); rw [arrV_size]; exact Classical.byContradiction hout) (g := F0 m pc ls (.int i :: .ref a :: rest)) rfl (rest := rest) rfl (by rw [hb]; exact hdg) t
  simp only [arrV_size] at h1
  exact h1 st
theorem vx_dastZ {D : va_G} {cl : List vw_C} {ws : va_W} {tys : List (ClassId × FieldType)} {a : Nat} (hexec : p.tables.exec = Jvm.exec) (hb : c.code = cc) (hK : va_K D cl tys s) (hP : va_P D cl ws H) (q0 t0 : Nat) {cA : ClassId} {n : Nat} {f : Nat → UInt64} (ha : ws[q0]? = some (a, .inl (cA, n, .inr (.inr (.inr (.inl f)))))) (ht : tys[t0]? = some (cA, .double)) {i : Int32} {x : UInt64} (hout : ¬ vp_in i n) (hdg : decode cc pc = .ok (.dastore, 1))
    (k : ∀ tx : String, tx = (toString "Index " ++ toString i ++ toString " out of bounds for length " ++ toString n : String) → vx_Note p l e R s m args below meth c H locs cells slots Q (F0 m pc ls rest) "java/lang/ArrayIndexOutOfBoundsException" tx) : W p l e R s m args below meth c H locs cells slots Q (F0 m pc ls (.double x :: .int i :: .ref a :: rest)) := by
  intro T hT X
  obtain ⟨t, st, q⟩ := k _ rfl T hT X
  refine ⟨t, ?_, q⟩
  have h1 := X.dastoreOut hexec (by rw [hT]; exact hP q0 _ ha) ((hK.2 t0 _ ht).1 n (fun j => .double (f j))) (j := i) (by show (i < 0 ∨ (arrV _ _ _).slots.size ≤ _); rw [arrV_size]; exact Classical.byContradiction hout) (g := F0 m pc ls (.double x :: .int i :: .ref a :: rest)) rfl (rest := rest) rfl (by rw [hb]; exact hdg) t
  simp only [arrV_size] at h1
  exact h1 st
theorem vx_arraylengthN (hexec : p.tables.exec = Jvm.exec) (hb : c.code = cc) (hdg : decode cc pc = .ok (.arraylength, 1)) (k : vx_NoteN p l e R s m args below meth c H locs cells slots Q (F0 m pc ls rest)) : W p l e R s m args below meth c H locs cells slots Q (F0 m pc ls (.null :: rest)) := by
  intro T hT X
  obtain ⟨t, st, q⟩ := k T hT X
  exact ⟨t, X.arraylengthNull hexec (g := F0 m pc ls (.null :: rest)) rfl (rest := rest) rfl (by rw [hb]; exact hdg) t st, q⟩
theorem vx_ialoadN (hexec : p.tables.exec = Jvm.exec) (hb : c.code = cc) {i : Int32} (hdg : decode cc pc = .ok (.iaload, 1)) (k : vx_NoteN p l e R s m args below meth c H locs cells slots Q (F0 m pc ls rest)) : W p l e R s m args below meth c H locs cells slots Q (F0 m pc ls (.int i :: .null :: rest)) := by
  intro T hT X
  obtain ⟨t, st, q⟩ := k T hT X
  exact ⟨t, X.ialoadNull hexec (g := F0 m pc ls (.int i :: .null :: rest)) rfl (rest := rest) rfl (by rw [hb]; exact hdg) t st, q⟩
theorem vx_laloadN (hexec : p.tables.exec = Jvm.exec) (hb : c.code = cc) {i : Int32} (hdg : decode cc pc = .ok (.laload, 1)) (k : vx_NoteN p l e R s m args below meth c H locs cells slots Q (F0 m pc ls rest)) : W p l e R s m args below meth c H locs cells slots Q (F0 m pc ls (.int i :: .null :: rest)) := by
  intro T hT X
  obtain ⟨t, st, q⟩ := k T hT X
  exact ⟨t, X.laloadNull hexec (g := F0 m pc ls (.int i :: .null :: rest)) rfl (rest := rest) rfl (by rw [hb]; exact hdg) t st, q⟩
theorem vx_faloadN (hexec : p.tables.exec = Jvm.exec) (hb : c.code = cc) {i : Int32} (hdg : decode cc pc = .ok (.faload, 1)) (k : vx_NoteN p l e R s m args below meth c H locs cells slots Q (F0 m pc ls rest)) : W p l e R s m args below meth c H locs cells slots Q (F0 m pc ls (.int i :: .null :: rest)) := by
  intro T hT X
  obtain ⟨t, st, q⟩ := k T hT X
  exact ⟨t, X.faloadNull hexec (g := F0 m pc ls (.int i :: .null :: rest)) rfl (rest := rest) rfl (by rw [hb]; exact hdg) t st, q⟩
theorem vx_daloadN (hexec : p.tables.exec = Jvm.exec) (hb : c.code = cc) {i : Int32} (hdg : decode cc pc = .ok (.daload, 1)) (k : vx_NoteN p l e R s m args below meth c H locs cells slots Q (F0 m pc ls rest)) : W p l e R s m args below meth c H locs cells slots Q (F0 m pc ls (.int i :: .null :: rest)) := by
  intro T hT X
  obtain ⟨t, st, q⟩ := k T hT X
  exact ⟨t, X.daloadNull hexec (g := F0 m pc ls (.int i :: .null :: rest)) rfl (rest := rest) rfl (by rw [hb]; exact hdg) t st, q⟩
theorem vx_aaloadN (hexec : p.tables.exec = Jvm.exec) (hb : c.code = cc) {i : Int32} (hdg : decode cc pc = .ok (.aaload, 1)) (k : vx_NoteN p l e R s m args below meth c H locs cells slots Q (F0 m pc ls rest)) : W p l e R s m args below meth c H locs cells slots Q (F0 m pc ls (.int i :: .null :: rest)) := by
  intro T hT X
  obtain ⟨t, st, q⟩ := k T hT X
  exact ⟨t, X.aaloadNull hexec (g := F0 m pc ls (.int i :: .null :: rest)) rfl (rest := rest) rfl (by rw [hb]; exact hdg) t st, q⟩
theorem vx_baloadN (hexec : p.tables.exec = Jvm.exec) (hb : c.code = cc) {i : Int32} (hdg : decode cc pc = .ok (.baload, 1)) (k : vx_NoteN p l e R s m args below meth c H locs cells slots Q (F0 m pc ls rest)) : W p l e R s m args below meth c H locs cells slots Q (F0 m pc ls (.int i :: .null :: rest)) := by
  intro T hT X
  obtain ⟨t, st, q⟩ := k T hT X
  exact ⟨t, X.baloadNull hexec (g := F0 m pc ls (.int i :: .null :: rest)) rfl (rest := rest) rfl (by rw [hb]; exact hdg) t st, q⟩
theorem vx_caloadN (hexec : p.tables.exec = Jvm.exec) (hb : c.code = cc) {i : Int32} (hdg : decode cc pc = .ok (.caload, 1)) (k : vx_NoteN p l e R s m args below meth c H locs cells slots Q (F0 m pc ls rest)) : W p l e R s m args below meth c H locs cells slots Q (F0 m pc ls (.int i :: .null :: rest)) := by
  intro T hT X
  obtain ⟨t, st, q⟩ := k T hT X
  exact ⟨t, X.caloadNull hexec (g := F0 m pc ls (.int i :: .null :: rest)) rfl (rest := rest) rfl (by rw [hb]; exact hdg) t st, q⟩
theorem vx_saloadN (hexec : p.tables.exec = Jvm.exec) (hb : c.code = cc) {i : Int32} (hdg : decode cc pc = .ok (.saload, 1)) (k : vx_NoteN p l e R s m args below meth c H locs cells slots Q (F0 m pc ls rest)) : W p l e R s m args below meth c H locs cells slots Q (F0 m pc ls (.int i :: .null :: rest)) := by
  intro T hT X
  obtain ⟨t, st, q⟩ := k T hT X
  exact ⟨t, X.saloadNull hexec (g := F0 m pc ls (.int i :: .null :: rest)) rfl (rest := rest) rfl (by rw [hb]; exact hdg) t st, q⟩
theorem vx_iastoreN (hexec : p.tables.exec = Jvm.exec) (hb : c.code = cc) {x : Int32} {i : Int32} (hdg : decode cc pc = .ok (.iastore, 1)) (k : vx_NoteN p l e R s m args below meth c H locs cells slots Q (F0 m pc ls rest)) : W p l e R s m args below meth c H locs cells slots Q (F0 m pc ls (.int x :: .int i :: .null :: rest)) := by
  intro T hT X
  obtain ⟨t, st, q⟩ := k T hT X
  exact ⟨t, X.iastoreNull hexec (g := F0 m pc ls (.int x :: .int i :: .null :: rest)) rfl (rest := rest) rfl (by rw [hb]; exact hdg) t st, q⟩
theorem vx_lastoreN (hexec : p.tables.exec = Jvm.exec) (hb : c.code = cc) {x : Int64} {i : Int32} (hdg : decode cc pc = .ok (.lastore, 1)) (k : vx_NoteN p l e R s m args below meth c H locs cells slots Q (F0 m pc ls rest)) : W p l e R s m args below meth c H locs cells slots Q (F0 m pc ls (.long x :: .int i :: .null :: rest)) := by
  intro T hT X
  obtain ⟨t, st, q⟩ := k T hT X
  exact ⟨t, X.lastoreNull hexec (g := F0 m pc ls (.long x :: .int i :: .null :: rest)) rfl (rest := rest) rfl (by rw [hb]; exact hdg) t st, q⟩
theorem vx_fastoreN (hexec : p.tables.exec = Jvm.exec) (hb : c.code = cc) {x : UInt32} {i : Int32} (hdg : decode cc pc = .ok (.fastore, 1)) (k : vx_NoteN p l e R s m args below meth c H locs cells slots Q (F0 m pc ls rest)) : W p l e R s m args below meth c H locs cells slots Q (F0 m pc ls (.float x :: .int i :: .null :: rest)) := by
  intro T hT X
  obtain ⟨t, st, q⟩ := k T hT X
  exact ⟨t, X.fastoreNull hexec (g := F0 m pc ls (.float x :: .int i :: .null :: rest)) rfl (rest := rest) rfl (by rw [hb]; exact hdg) t st, q⟩
theorem vx_dastoreN (hexec : p.tables.exec = Jvm.exec) (hb : c.code = cc) {x : UInt64} {i : Int32} (hdg : decode cc pc = .ok (.dastore, 1)) (k : vx_NoteN p l e R s m args below meth c H locs cells slots Q (F0 m pc ls rest)) : W p l e R s m args below meth c H locs cells slots Q (F0 m pc ls (.double x :: .int i :: .null :: rest)) := by
  intro T hT X
  obtain ⟨t, st, q⟩ := k T hT X
  exact ⟨t, X.dastoreNull hexec (g := F0 m pc ls (.double x :: .int i :: .null :: rest)) rfl (rest := rest) rfl (by rw [hb]; exact hdg) t st, q⟩
theorem vx_bastoreN (hexec : p.tables.exec = Jvm.exec) (hb : c.code = cc) {x : Int32} {i : Int32} (hdg : decode cc pc = .ok (.bastore, 1)) (k : vx_NoteN p l e R s m args below meth c H locs cells slots Q (F0 m pc ls rest)) : W p l e R s m args below meth c H locs cells slots Q (F0 m pc ls (.int x :: .int i :: .null :: rest)) := by
  intro T hT X
  obtain ⟨t, st, q⟩ := k T hT X
  exact ⟨t, X.bastoreNull hexec (g := F0 m pc ls (.int x :: .int i :: .null :: rest)) rfl (rest := rest) rfl (by rw [hb]; exact hdg) t st, q⟩
theorem vx_castoreN (hexec : p.tables.exec = Jvm.exec) (hb : c.code = cc) {x : Int32} {i : Int32} (hdg : decode cc pc = .ok (.castore, 1)) (k : vx_NoteN p l e R s m args below meth c H locs cells slots Q (F0 m pc ls rest)) : W p l e R s m args below meth c H locs cells slots Q (F0 m pc ls (.int x :: .int i :: .null :: rest)) := by
  intro T hT X
  obtain ⟨t, st, q⟩ := k T hT X
  exact ⟨t, X.castoreNull hexec (g := F0 m pc ls (.int x :: .int i :: .null :: rest)) rfl (rest := rest) rfl (by rw [hb]; exact hdg) t st, q⟩
theorem vx_sastoreN (hexec : p.tables.exec = Jvm.exec) (hb : c.code = cc) {x : Int32} {i : Int32} (hdg : decode cc pc = .ok (.sastore, 1)) (k : vx_NoteN p l e R s m args below meth c H locs cells slots Q (F0 m pc ls rest)) : W p l e R s m args below meth c H locs cells slots Q (F0 m pc ls (.int x :: .int i :: .null :: rest)) := by
  intro T hT X
  obtain ⟨t, st, q⟩ := k T hT X
  exact ⟨t, X.sastoreNull hexec (g := F0 m pc ls (.int x :: .int i :: .null :: rest)) rfl (rest := rest) rfl (by rw [hb]; exact hdg) t st, q⟩
theorem vx_invokeN {own C : String} {index maxL : Nat} {y : MethodName} {bytes : ByteArray} {ret : Option FieldType} (hexec : p.tables.exec = Jvm.exec) (hb : c.code = cc) (hown : s.vm.findClass own = some m.cls) (hlink : (Cond.methodLink own index y).before args s = true) (hinst : (Cond.instanceMethod y).before args s = true) (hcode : (Cond.code y bytes maxL ret).before args s = true) (hsel : (Cond.selects C y y).before args s = true)
    (hx : y.cls ≠ "java/lang/invoke/MethodHandle" ∧ y.cls ≠ "java/lang/invoke/VarHandle") {As : List Value} (hlen : (parseMethodDescriptor y.desc).map (fun d => d.parameters.length) = some As.length) (hdg : decode cc pc = .ok (.invokevirtual index, 3))
    (k : vx_NoteN p l e R s m args below meth c H locs cells slots Q (F0 m pc ls rest)) {st0 : List Value} (hst : st0 = As.reverse ++ .null :: rest) : W p l e R s m args below meth c H locs cells slots Q (F0 m pc ls st0) := by
  intro T hT X
  obtain ⟨r0, r, hn, hrm, hstR, hsigR⟩ := va_Decl.of hinst hcode
  obtain ⟨c2, r2, m2, q1, q2, q3, q4, kP, hkP, hkPi⟩ := Cond.selects_spec hsel
  cases hn.symm.trans q3
  have hl9 : As.length = r.sig.parameters.length := by
    rw [hsigR] at hlen
    exact (Option.some.inj hlen).symm
  obtain ⟨vm', X1, st1⟩ := X.invokevirtualNull hexec hown hlink hn hrm hstR hkP hkPi hx (g := F0 m pc ls st0) rfl (argsL := As) (rest := rest) hl9 hst (by rw [hb]; exact hdg)
  obtain ⟨t, st, q⟩ := k (T.setVm vm') hT X1
  exact ⟨t, st1 t st, q⟩
theorem vx_newarrayZ {atype : ArrayType} (hexec : p.tables.exec = Jvm.exec) (hb : c.code = cc) {n : Int32} (h0 : n < 0) (hdg : decode cc pc = .ok (.newarray atype, 2)) (k : ∀ tx : String, tx = toString n → vx_Note p l e R s m args below meth c H locs cells slots Q (F0 m pc ls rest) "java/lang/NegativeArraySizeException" tx) : W p l e R s m args below meth c H locs cells slots Q (F0 m pc ls (.int n :: rest)) := by
  intro T hT X
  obtain ⟨t, st, q⟩ := k _ rfl T hT X
  exact ⟨t, X.newarrayNegative hexec (g := F0 m pc ls (.int n :: rest)) rfl h0 (rest := rest) rfl (by rw [hb]; exact hdg) t st, q⟩
end
end VXM
/-! ===== END ===== -/
/-! ===== BEGIN an exception as an object: made, kept, thrown later (no traces kept) ===== -/
section VXK
variable {p : Program} {l : Launch} {e : Env} {R : Room} {s : State} {m₀ : MethodId} {args : Array Value} {below : List Frame} {meth : Method} {c : Code} {W : State} {locs : List Loc} {cells slots : Nat}
set_option maxHeartbeats 1000000 in
theorem vx_ctorMadeS (X : Stand p l e R s m₀ args below meth c W locs cells slots) (hexec : p.tables.exec = Jvm.exec) (htr : e.platform.stackTraces = false) {own cls : String} {names : List String} {ic : Nat}
    (hown : s.vm.findClass own = some m₀.cls) (hcls : Bundle.fit cls = true) (hnames : ∀ n ∈ names, Bundle.fit n = true)
    (h : ∀ a ∈ Bundle.ownAtoms own ic cls names, a.before args s = true)
    (hlocs : ∀ x ∈ locs, ∀ cell, s.heap[x.base]? = some cell → cell.vm.isStatics = false)
    {a : Addr} {cX : ClassId} {kX : Class} (hfoundX : s.vm.findClass cls = some cX) (hkX : s.vm.classes[cX]? = some kX) (hcell : W.heap[a]? = some (freshCell cX kX)) (hnew : s.heap.size ≤ a)
    {msg : Value} (hmsg : msg.isRef = true)
    {g : JFrame} (hg : g.method = m₀) (hsize : g.locals.size = c.maxLocals) {rest : List Value} (hstack : g.stack = msg :: .ref a :: .ref a :: rest)
    (hd6 : decode c.code g.pc = .ok (.invokespecial ic, 3))
    (hRframes : names.length + 3 < R.frames) (hRlocals : 2 * g.monitorRoom + ((Value.ref a :: rest).map fun v => v.category).sum + (13 * (names.length + 1) + 42) ≤ R.locals) :
    ∃ (V : State) (ce : Cell) (L : List Loc), Stand p l e R s m₀ args below meth c (V.setCell a ce) (locs ++ L) cells slots ∧ (∀ y ∈ L, y.base = a) ∧ a < V.heap.size ∧ ce.cls = cX ∧ ce.vm = .none ∧
      ∀ target, Steps p.tables e below ((V.setCell a ce).setTop { g with stack := .ref a :: rest, pc := g.pc + 3 }) target → Steps p.tables e below (W.setTop g) target := by
  have howns : e.platform.frameOwnsMonitors = true := by rw [X.admits.platform]
  have hfin : e.platform.finalization = false := by rw [X.admits.platform]
  have hpl : e.platform.magicAccessors = ({} : Platform).magicAccessors := by rw [X.admits.platform]
  have a' : ∀ x, x ∈ Bundle.ownAtoms own ic cls names → x.holds args s none s [] = true := fun x hx => h x hx
  obtain ⟨T, Z0, L, -, Y⟩ := ThrowableC.of_atoms (args := args) howns hfin hpl (fun x hx => h x (by simp [Bundle.ownAtoms, hx]))
  obtain ⟨Z, M, LZ, LM, hnZ⟩ := Init0T.ofS_atoms (args := args) hpl L Y (fun x hx => h x (by simp [Bundle.ownAtoms, hx]))
  obtain ⟨P1, Ps, hlen, L1, hL, hP1m, hlink1, hlink⟩ := Bundle.chainS (args := args) hpl hnZ names cls hcls hnames (fun x hx => h x (by simp [Bundle.ownAtoms, hx]))
  have hfound : s.vm.findClass cls = some P1.m.cls := findClass_of_methodNamed hP1m
  cases Option.some.inj (hfoundX.symm.trans hfound)
  obtain ⟨c1, kX', hc1, hk, hord, -, -, hn6⟩ := Cond.instantiable_spec (a' (.instantiable cls 6) (by simp [Bundle.ownAtoms]))
  cases Option.some.inj (hc1.symm.trans hfound)
  cases Option.some.inj (hkX.symm.trans hk)
  have hsel0 : selectMethod e.platform s.vm P1.m.cls T.fill0 = .method T.fill0 := by
    obtain ⟨c2, r2, m2, q1, q2, q3, q4, -⟩ := Cond.selects_spec (a' (.selects cls Bundle.tFill0 Bundle.tFill0) (by simp [Bundle.ownAtoms]))
    cases Option.some.inj (q1.symm.trans hfound)
    cases Option.some.inj (q2.symm.trans (State.methodFound?_of_named Y.fill0 (by decide)))
    cases Option.some.inj (q3.symm.trans Y.fill0)
    rw [Launch.admits_selectMethod X.admits]; exact q4
  have hselF : selectMethod e.platform s.vm P1.m.cls T.fill = .method T.fill := by
    obtain ⟨c2, r2, m2, q1, q2, q3, q4, -⟩ := Cond.selects_spec (a' (.selects cls Bundle.tFill Bundle.tFill) (by simp [Bundle.ownAtoms]))
    cases Option.some.inj (q1.symm.trans hfound)
    cases Option.some.inj (q2.symm.trans (State.methodFound?_of_named Y.fill (by decide)))
    cases Option.some.inj (q3.symm.trans Y.fill)
    rw [Launch.admits_selectMethod X.admits]; exact q4
  obtain ⟨cellS0, hcS0, hiss⟩ := Y.statics
  obtain ⟨u0, hu0⟩ := Cond.staticRefV Y.unassigned L.unassignedStatic L.statics hcS0 hiss (a' (.isRef (.static Bundle.tN "UNASSIGNED_STACK" Bundle.steD)) (by simp [Bundle.ownAtoms]))
  obtain ⟨sen, hsen⟩ := Cond.staticRefV Y.sentinel L.sentinelStatic L.statics hcS0 hiss (a' (.isRef (.static Bundle.tN "SUPPRESSED_SENTINEL" Bundle.listD)) (by simp [Bundle.ownAtoms]))
  obtain ⟨ci198, i198, fB, hk198, hg198, ha198, hsB, -, hnB, htB, hffB⟩ := Cond.ownField (t := .object "java/lang/Object") Y.found L.cls (by decide +kernel) (a' (.fieldLink Bundle.tN 198 Bundle.tN "backtrace" "Ljava/lang/Object;") (by simp [Bundle.ownAtoms])) (a' (.lays Bundle.tN Bundle.tN "backtrace" "Ljava/lang/Object;") (by simp [Bundle.ownAtoms])) e.platform hpl
  obtain ⟨cellS, hcS', heS, -, hkeep⟩ := X.same.2.2.2.2.2 T.aS cellS0 hcS0
  have hcellS : W.heap[T.aS]? = some cellS := hcS'
  have hout' : ∀ i, (⟨T.aS, i⟩ : Loc) ∉ locs := fun i hmem => by
    have := hlocs _ hmem cellS0 hcS0
    rw [hiss] at this; cases this
  have hknownS : cellS.vm ≠ .unknown := by
    rw [heS]; intro hu
    rw [show cellS0.vm = .unknown from hu] at hiss
    cases hiss
  have hneS : T.aS ≠ a := Nat.ne_of_lt (Nat.lt_of_lt_of_le (Array.getElem?_eq_some_iff.mp hcS0).1 hnew)
  obtain ⟨iM, hffM⟩ := Y.msg
  obtain ⟨tyC, dC, hdC, hdnC⟩ := Cond.laysAt hfound hk Y.cause (a' (.lays cls Bundle.tN "cause" "Ljava/lang/Throwable;") (by simp [Bundle.ownAtoms]))
  obtain ⟨tyS, dS, hdS, hdnS⟩ := Cond.laysAt hfound hk Y.stack (a' (.lays cls Bundle.tN "stackTrace" Bundle.steD) (by simp [Bundle.ownAtoms]))
  obtain ⟨tyP, dP, hdP, hdnP⟩ := Cond.laysAt hfound hk Y.supp (a' (.lays cls Bundle.tN "suppressedExceptions" Bundle.listD) (by simp [Bundle.ownAtoms]))
  obtain ⟨tyM, dM, hdM, hdnM⟩ := Cond.laysAt hfound hk hffM (a' (.lays cls Bundle.tN "detailMessage" "Ljava/lang/String;") (by simp [Bundle.ownAtoms]))
  obtain ⟨tyB, dB, hdB, hdnB⟩ := Cond.laysAt hfound hk hffB (a' (.lays cls Bundle.tN "backtrace" "Ljava/lang/Object;") (by simp [Bundle.ownAtoms]))
  have bC := Cond.laysApart hdB hdC hdnB hdnC (by rw [hnB, Y.causeName]; decide)
  have bS := Cond.laysApart hdB hdS hdnB hdnS (by rw [hnB, Y.stackName]; decide)
  have bP := Cond.laysApart hdB hdP hdnB hdnP (by rw [hnB, Y.suppName]; decide)
  have hskip : SkipFacts T e.platform s (fun u => u) u0 ((preparedCellV T.toThrowableT (freshCell P1.m.cls kX) a u0 sen).withEntry W.cur) :=
    ⟨{ ci198 := ci198, i198 := i198, fBack := fB }, ⟨hk198, hg198, ha198, hsB⟩, by
      have := fresh_default (c := P1.m.cls) tyB
      rw [htB] at this
      simpa [preparedCellV, Cell.setSlot, Cell.withEntry, Array.getElem?_setIfInBounds, bC, bS, bP, bC.symm, bS.symm, bP.symm, defaultValue] using this, fun _ _ => rfl⟩
  obtain ⟨tm, methC, cdC, kC, vm₁, hnC, -, -, -, -, -, -, -, hW₁, st1⟩ := Steps.initColdS (tb := p.tables) (e := e) (below := below) (s := s) (U := W) X.here hexec X.warmed hpl hown (t := Bundle.initS cls) rfl rfl (Bundle.fit_spec hcls).2
    (a' (.methodLink own ic (Bundle.initS cls)) (by simp [Bundle.ownAtoms])) (h (.instanceMethod (Bundle.initS cls)) (by cases names <;> simp [Bundle.ownAtoms, Bundle.chainSAtoms, Bundle.passSAtoms])) (bytes := Bundle.six) (maxL := 2) (h (.code (Bundle.initS cls) Bundle.six 2 none) (by cases names <;> simp [Bundle.ownAtoms, Bundle.chainSAtoms, Bundle.passSAtoms]))
    (f := g) hg (a := a) (msg := msg) (rest := .ref a :: rest) hstack hd6
  cases Option.some.inj (hnC.symm.trans hP1m)
  have X₁ := X.noted hW₁
  obtain ⟨vm₂, X₂, st2⟩ := X₁.ctorMessageOffV hexec (g := { g with stack := .ref a :: rest }) hg hsize T L Z LZ M LM (P1 :: Ps)
    (fun P hP => by rcases List.mem_cons.mp hP with rfl | hP; exact L1; exact hL P hP) ⟨hlink1, hlink⟩ (u0 := u0) (sen := sen) (self := a) hmsg (cell := freshCell P1.m.cls kX) (cellS := cellS)
    hcell (fun _ => by simp) (by simp) rfl rfl hsel0 hselF hcellS hneS hknownS (by rw [hkeep _ (hout' _)]; exact hu0) (by rw [hkeep _ (hout' _)]; exact hsen)
    (Takes.of_laid hk hord tyC (by rw [Y.causeType]; rfl)) (Takes.of_laid hk hord tyS (by rw [Y.stackType]; exact fits_refV_array _ u0)) (Takes.of_laid hk hord tyP (by rw [Y.suppType]; exact fits_refV_object _ sen))
    (Takes.of_laid hk hord tyM (by rw [Y.msgType]; exact fits_refV_object _ ⟨msg, hmsg⟩)) Y.objLocals hskip htr [] hd6
    (by simp only [List.length_cons, hlen]; omega) (by simp only [List.length_cons, hlen]; exact hRlocals)
  have hlt : a < ((W.setVm vm₁).setVm vm₂).heap.size := (Array.getElem?_eq_some_iff.mp hcell).1
  refine ⟨(W.setVm vm₁).setVm vm₂, _, _, X₂, fun y hy => ?_, hlt, rfl, rfl, fun target hwalk => st1 _ (fun acts => ?_)⟩
  · simp only [List.mem_cons, List.not_mem_nil, or_false] at hy
    rcases hy with rfl | rfl | rfl | rfl | rfl <;> rfl
  · rw [doInvoke_state]
    exact st2 _ hwalk
set_option maxHeartbeats 1000000 in
theorem vx_ctorMade0 (X : Stand p l e R s m₀ args below meth c W locs cells slots) (hexec : p.tables.exec = Jvm.exec) (htr : e.platform.stackTraces = false) {own cls : String} {names : List String} {ic : Nat}
    (hown : s.vm.findClass own = some m₀.cls) (hcls : Bundle.fit cls = true) (hnames : ∀ n ∈ names, Bundle.fit n = true)
    (h : ∀ a ∈ Bundle.ownAtoms0 own ic cls names, a.before args s = true)
    (hlocs : ∀ x ∈ locs, ∀ cell, s.heap[x.base]? = some cell → cell.vm.isStatics = false)
    {a : Addr} {cX : ClassId} {kX : Class} (hfoundX : s.vm.findClass cls = some cX) (hkX : s.vm.classes[cX]? = some kX) (hcell : W.heap[a]? = some (freshCell cX kX)) (hnew : s.heap.size ≤ a)
    {g : JFrame} (hg : g.method = m₀) (hsize : g.locals.size = c.maxLocals) {rest : List Value} (hstack : g.stack = .ref a :: .ref a :: rest)
    (hd6 : decode c.code g.pc = .ok (.invokespecial ic, 3))
    (hRframes : names.length + 3 < R.frames) (hRlocals : 2 * g.monitorRoom + ((Value.ref a :: rest).map fun v => v.category).sum + (13 * (names.length + 1) + 41) ≤ R.locals) :
    ∃ (V : State) (ce : Cell) (L : List Loc), Stand p l e R s m₀ args below meth c (V.setCell a ce) (locs ++ L) cells slots ∧ (∀ y ∈ L, y.base = a) ∧ a < V.heap.size ∧ ce.cls = cX ∧ ce.vm = .none ∧
      ∀ target, Steps p.tables e below ((V.setCell a ce).setTop { g with stack := .ref a :: rest, pc := g.pc + 3 }) target → Steps p.tables e below (W.setTop g) target := by
  have howns : e.platform.frameOwnsMonitors = true := by rw [X.admits.platform]
  have hfin : e.platform.finalization = false := by rw [X.admits.platform]
  have hpl : e.platform.magicAccessors = ({} : Platform).magicAccessors := by rw [X.admits.platform]
  have a' : ∀ x, x ∈ Bundle.ownAtoms0 own ic cls names → x.holds args s none s [] = true := fun x hx => h x hx
  obtain ⟨T, Z, L, LZ, Y⟩ := ThrowableC.of_atoms (args := args) howns hfin hpl (fun x hx => h x (by simp [Bundle.ownAtoms0, hx]))
  obtain ⟨P1, Ps, hlen, L1, hL, hP1m, hlink1, hlink⟩ := Bundle.chain0 (args := args) hpl Y.init0 names cls hcls hnames (fun x hx => h x (by simp [Bundle.ownAtoms0, hx]))
  have hfound : s.vm.findClass cls = some P1.m.cls := findClass_of_methodNamed hP1m
  cases Option.some.inj (hfoundX.symm.trans hfound)
  obtain ⟨c1, kX', hc1, hk, hord, -, -, hn6⟩ := Cond.instantiable_spec (a' (.instantiable cls 6) (by simp [Bundle.ownAtoms0]))
  cases Option.some.inj (hc1.symm.trans hfound)
  cases Option.some.inj (hkX.symm.trans hk)
  have hsel0 : selectMethod e.platform s.vm P1.m.cls T.fill0 = .method T.fill0 := by
    obtain ⟨c2, r2, m2, q1, q2, q3, q4, -⟩ := Cond.selects_spec (a' (.selects cls Bundle.tFill0 Bundle.tFill0) (by simp [Bundle.ownAtoms0]))
    cases Option.some.inj (q1.symm.trans hfound)
    cases Option.some.inj (q2.symm.trans (State.methodFound?_of_named Y.fill0 (by decide)))
    cases Option.some.inj (q3.symm.trans Y.fill0)
    rw [Launch.admits_selectMethod X.admits]; exact q4
  have hselF : selectMethod e.platform s.vm P1.m.cls T.fill = .method T.fill := by
    obtain ⟨c2, r2, m2, q1, q2, q3, q4, -⟩ := Cond.selects_spec (a' (.selects cls Bundle.tFill Bundle.tFill) (by simp [Bundle.ownAtoms0]))
    cases Option.some.inj (q1.symm.trans hfound)
    cases Option.some.inj (q2.symm.trans (State.methodFound?_of_named Y.fill (by decide)))
    cases Option.some.inj (q3.symm.trans Y.fill)
    rw [Launch.admits_selectMethod X.admits]; exact q4
  obtain ⟨cellS0, hcS0, hiss⟩ := Y.statics
  obtain ⟨u0, hu0⟩ := Cond.staticRefV Y.unassigned L.unassignedStatic L.statics hcS0 hiss (a' (.isRef (.static Bundle.tN "UNASSIGNED_STACK" Bundle.steD)) (by simp [Bundle.ownAtoms0]))
  obtain ⟨sen, hsen⟩ := Cond.staticRefV Y.sentinel L.sentinelStatic L.statics hcS0 hiss (a' (.isRef (.static Bundle.tN "SUPPRESSED_SENTINEL" Bundle.listD)) (by simp [Bundle.ownAtoms0]))
  obtain ⟨ci198, i198, fB, hk198, hg198, ha198, hsB, -, hnB, htB, hffB⟩ := Cond.ownField (t := .object "java/lang/Object") Y.found L.cls (by decide +kernel) (a' (.fieldLink Bundle.tN 198 Bundle.tN "backtrace" "Ljava/lang/Object;") (by simp [Bundle.ownAtoms0])) (a' (.lays Bundle.tN Bundle.tN "backtrace" "Ljava/lang/Object;") (by simp [Bundle.ownAtoms0])) e.platform hpl
  obtain ⟨cellS, hcS', heS, -, hkeep⟩ := X.same.2.2.2.2.2 T.aS cellS0 hcS0
  have hcellS : W.heap[T.aS]? = some cellS := hcS'
  have hout' : ∀ i, (⟨T.aS, i⟩ : Loc) ∉ locs := fun i hmem => by
    have := hlocs _ hmem cellS0 hcS0
    rw [hiss] at this; cases this
  have hknownS : cellS.vm ≠ .unknown := by
    rw [heS]; intro hu
    rw [show cellS0.vm = .unknown from hu] at hiss
    cases hiss
  have hneS : T.aS ≠ a := Nat.ne_of_lt (Nat.lt_of_lt_of_le (Array.getElem?_eq_some_iff.mp hcS0).1 hnew)
  obtain ⟨iM, hffM⟩ := Y.msg
  obtain ⟨tyC, dC, hdC, hdnC⟩ := Cond.laysAt hfound hk Y.cause (a' (.lays cls Bundle.tN "cause" "Ljava/lang/Throwable;") (by simp [Bundle.ownAtoms0]))
  obtain ⟨tyS, dS, hdS, hdnS⟩ := Cond.laysAt hfound hk Y.stack (a' (.lays cls Bundle.tN "stackTrace" Bundle.steD) (by simp [Bundle.ownAtoms0]))
  obtain ⟨tyP, dP, hdP, hdnP⟩ := Cond.laysAt hfound hk Y.supp (a' (.lays cls Bundle.tN "suppressedExceptions" Bundle.listD) (by simp [Bundle.ownAtoms0]))
  obtain ⟨tyM, dM, hdM, hdnM⟩ := Cond.laysAt hfound hk hffM (a' (.lays cls Bundle.tN "detailMessage" "Ljava/lang/String;") (by simp [Bundle.ownAtoms0]))
  obtain ⟨tyB, dB, hdB, hdnB⟩ := Cond.laysAt hfound hk hffB (a' (.lays cls Bundle.tN "backtrace" "Ljava/lang/Object;") (by simp [Bundle.ownAtoms0]))
  have bC := Cond.laysApart hdB hdC hdnB hdnC (by rw [hnB, Y.causeName]; decide)
  have bS := Cond.laysApart hdB hdS hdnB hdnS (by rw [hnB, Y.stackName]; decide)
  have bP := Cond.laysApart hdB hdP hdnB hdnP (by rw [hnB, Y.suppName]; decide)
  have hskip : SkipFacts T e.platform s (fun u => u) u0 ((preparedCellV T.toThrowableT (freshCell P1.m.cls kX) a u0 sen).withEntry W.cur) :=
    ⟨{ ci198 := ci198, i198 := i198, fBack := fB }, ⟨hk198, hg198, ha198, hsB⟩, by
      have := fresh_default (c := P1.m.cls) tyB
      rw [htB] at this
      simpa [preparedCellV, Cell.setSlot, Cell.withEntry, Array.getElem?_setIfInBounds, bC, bS, bP, bC.symm, bS.symm, bP.symm, defaultValue] using this, fun _ _ => rfl⟩
  obtain ⟨tm, methC, cdC, kC, vm₁, hnC, -, -, -, -, -, -, -, hW₁, st1⟩ := Steps.initCold (tb := p.tables) (e := e) (below := below) (s := s) (U := W) X.here hexec X.warmed hpl hown (t := Bundle.init0 cls) rfl rfl (Bundle.fit_spec hcls).2
    (a' (.methodLink own ic (Bundle.init0 cls)) (by simp [Bundle.ownAtoms0])) (h (.instanceMethod (Bundle.init0 cls)) (by cases names <;> simp [Bundle.ownAtoms0, Bundle.chain0Atoms, Bundle.passAtoms])) (bytes := Bundle.five) (maxL := 1) (h (.code (Bundle.init0 cls) Bundle.five 1 none) (by cases names <;> simp [Bundle.ownAtoms0, Bundle.chain0Atoms, Bundle.passAtoms]))
    (f := g) hg (a := a) (rest := .ref a :: rest) hstack hd6
  cases Option.some.inj (hnC.symm.trans hP1m)
  have X₁ := X.noted hW₁
  obtain ⟨vm₂, X₂, st2⟩ := X₁.ctorPlainOffV hexec (g := { g with stack := .ref a :: rest }) hg hsize T L Z LZ (P1 :: Ps)
    (fun P hP => by rcases List.mem_cons.mp hP with rfl | hP; exact L1; exact hL P hP) ⟨hlink1, hlink⟩ (u0 := u0) (sen := sen) (self := a) (cell := freshCell P1.m.cls kX) (cellS := cellS)
    hcell (fun _ => by simp) (by simp) rfl rfl hsel0 hselF hcellS hneS hknownS (by rw [hkeep _ (hout' _)]; exact hu0) (by rw [hkeep _ (hout' _)]; exact hsen)
    (Takes.of_laid hk hord tyC (by rw [Y.causeType]; rfl)) (Takes.of_laid hk hord tyS (by rw [Y.stackType]; exact fits_refV_array _ u0)) (Takes.of_laid hk hord tyP (by rw [Y.suppType]; exact fits_refV_object _ sen)) Y.objLocals hskip htr [] hd6
    (by simp only [List.length_cons, hlen]; omega) (by simp only [List.length_cons, hlen]; exact hRlocals)
  have hlt : a < ((W.setVm vm₁).setVm vm₂).heap.size := (Array.getElem?_eq_some_iff.mp hcell).1
  refine ⟨(W.setVm vm₁).setVm vm₂, _, _, X₂, fun y hy => ?_, hlt, rfl, rfl, fun target hwalk => st1 _ (fun acts => ?_)⟩
  · simp only [List.mem_cons, List.not_mem_nil, or_false] at hy
    rcases hy with rfl | rfl | rfl | rfl <;> rfl
  · rw [doInvoke_state]
    exact st2 _ hwalk
end VXK
section VXK2
variable {p : Program} {l : Launch} {e : Env} {R : Room} {s : State} {m : MethodId} {args : Array Value} {below : List Frame} {meth : Method} {c : Code} {H : Heap} {locs : List Loc} {cells slots : Nat} {Q : State → Prop}
variable {ls : Array Slot} {rest : List Value} {D : va_G} {cl : List vw_C} {tys : List (ClassId × FieldType)} {ws : va_W}
/-- 'new E("text")' that isn't thrown at once: the object goes on the stack -/
theorem vx_makeS {cc : ByteArray} {pc : Nat} (hexec : p.tables.exec = Jvm.exec) (hb : c.code = cc) (hl : l.stackTraces = false) {own cls text : String} {names : List String} {ik is ic sa ci : Nat} {A : Nat → Prop} {T0 : u_T}
    (hown : s.vm.findClass own = some m.cls) (hcls : Bundle.fit cls = true) (hnames : ∀ n ∈ names, Bundle.fit n = true)
    (hk : (Cond.classLink own ik cls).before args s = true) (hini : (Cond.initialized cls).before args s = true) (hstr : vk_R own is text sa s) (hat : ∀ w ∈ vx_atS own ic cls names, w.before args s = true)
    (hgood : ∀ w ∈ Cond.classLink own ik cls :: Cond.initialized cls :: vx_atS own ic cls names, vx_ot w = true)
    (hU : vx_Zq Bundle.tN "UNASSIGNED_STACK" Bundle.steD A s s.heap) (hN : vx_Zq Bundle.tN "SUPPRESSED_SENTINEL" Bundle.listD A s s.heap) (hS : va_S A s.heap H locs) (hsize : ls.size = c.maxLocals)
    (d0 : decode cc pc = .ok (.new ik, 3)) (d3 : decode cc (pc + 3) = .ok (.dup, 1)) (d4 : decode cc (pc + 4) = .ok (.ldc is, 2)) (d6 : decode cc (pc + 6) = .ok (.invokespecial ic, 3))
    (hK : va_K D cl tys s) (hP : va_P D cl ws H) (hD : va_D A ws) (hA : ∀ q, s.heap.size ≤ q → A q) (hc : cl[ci]? = some (cls, T0, 0))
    (hRframes : names.length + 3 < R.frames) (hRlocals : (rest.map fun v => v.category).sum + (13 * (names.length + 1) + 43) ≤ R.locals) (hRcells : cells + 1 ≤ R.cells) (hRslots : slots + 6 ≤ R.slots)
    (kk : ∀ (q : Nat) (H1 : Heap), va_P D cl (ws ++ [(q, .inr (ci, []))]) H1 → va_D A (ws ++ [(q, .inr (ci, []))]) → va_S A s.heap H1 locs → W p l e R s m args below meth c H1 locs (cells + 1) (slots + 6) Q (F0 m (pc + 9) ls (.ref q :: rest))) :
    W p l e R s m args below meth c H locs cells slots Q (F0 m pc ls rest) := by
  intro T hT X
  subst hT
  have htr : e.platform.stackTraces = false := (show e.platform.stackTraces = l.stackTraces by rw [X.admits.platform]).trans hl
  have Y := vx_rebase X (R' := { frames := R.frames, locals := R.locals, cells := 1, slots := 6 }) (Nat.le_refl _) (Nat.le_refl _) hRcells hRslots
  obtain ⟨s', hA'⟩ : ∃ z, z = (T.setVm s.vm).setFrames (.invoking m args :: below) := ⟨_, rfl⟩
  rw [← hA'] at Y
  have hvm : s'.vm = s.vm := by rw [hA']; rfl
  have hhp : s'.heap = T.heap := by rw [hA']; rfl
  have hW0 : s.WarmedH s'.vm := by rw [hvm]; exact State.WarmedH.refl s
  have hat' : ∀ w ∈ vx_atS own ic cls names, w.before args s' = true := fun w hw => vx_ot_at hW0 hvm.symm (hgood w (List.mem_cons_of_mem _ (List.mem_cons_of_mem _ hw))) (hat w hw)
  have hk' : (Cond.classLink own ik cls).before args s' = true := vx_ot_at hW0 hvm.symm (hgood _ List.mem_cons_self) hk
  have hini' : (Cond.initialized cls).before args s' = true := vx_ot_at hW0 hvm.symm (hgood _ (List.mem_cons_of_mem _ List.mem_cons_self)) hini
  have hU' : vx_Zq Bundle.tN "UNASSIGNED_STACK" Bundle.steD A s' s'.heap := by rw [hhp]; exact vx_Zq.moved hW0.alike (hU.kept hS.2.1)
  have hN' : vx_Zq Bundle.tN "SUPPRESSED_SENTINEL" Bundle.listD A s' s'.heap := by rw [hhp]; exact vx_Zq.moved hW0.alike (hN.kept hS.2.1)
  have h : ∀ w ∈ Bundle.ownAtoms own ic cls names, w.before args s' = true := vx_own hat' (vx_isRefq hU'.1) (vx_isRefq hN'.1) hU'.2.word hN'.2.word
  have hown' : s'.vm.findClass own = some m.cls := by rw [hvm]; exact hown
  have hins : (Cond.instantiable cls 6).before args s' = true := h _ (by simp [Bundle.ownAtoms])
  obtain ⟨vm₁, cX, kX, hfX, hkX, -, -, X₁, st1⟩ := Y.newCold hexec (own := own) (C := cls) (index := ik) (n := 6) hown' hk' hins hini'
    (g := F0 m pc ls rest) rfl (by rw [hb]; exact d0) (Nat.le_refl _) (Nat.le_refl _)
  generalize hT1 : (T.setVm vm₁).pushCell { cls := cX, slots := kX.instanceTypes.map defaultValue, vm := .none } = T1 at X₁ st1
  have hcat : (Value.ref T.heap.size).category = 1 := rfl
  have hcellA : T1.heap[T.heap.size]? = some (freshCell cX kX) := by rw [← hT1]; exact State.heap_pushCell_size _ _
  have d3' : decode c.code (pc + 3) = .ok (.dup, 1) := by rw [hb]; exact d3
  have d4' : decode c.code (pc + 4) = .ok (.ldc is, 2) := by rw [hb]; exact d4
  have hstr' : vk_R own is text sa s' := vk_R.warm hW0 hstr
  obtain ⟨V, ce, L, Z, hL, hlt, hcl9, hvm9, st⟩ := vx_ctorMadeS X₁ hexec htr (own := own) (cls := cls) (names := names) (ic := ic) hown' hcls hnames h (fun x hx => nomatch hx) hfX hkX hcellA (by rw [hhp]; exact Nat.le_refl _) (msg := .ref sa) rfl
    (g := { method := m, pc := pc + 6, locals := ls, stack := .ref sa :: .ref T.heap.size :: .ref T.heap.size :: rest, locked := none }) rfl hsize (rest := rest) rfl
    (by rw [hb]; exact d6) hRframes (by simp only [List.map_cons, List.sum_cons, hcat]; omega)
  have Z0 := Stand.forget (locs := []) Z (fun y hy => by rw [hL y hy, hhp]; exact Nat.le_refl _)
  obtain ⟨f1, f2⟩ := vx_frame Z0.same
  rw [hhp] at f1 f2
  have hcid : ce.cls = D.1 ci := by
    rw [hcl9]
    have h1 := (hK.1 ci _ hc).2.1
    rw [hvm] at hfX
    exact Option.some.inj (hfX.symm.trans h1)
  have hh : (V.setCell T.heap.size ce).heap[T.heap.size]? = some ce := heapAt_setCell_self (s := V) ce hlt
  subst hA'
  have X5 := vx_back9 X Y Z0
  have X6 : Stand p l e R s m args below meth c (V.setCell T.heap.size ce) locs (cells + 1) (slots + 6) := { X5 with same := X5.same.mono (by omega) (by omega) }
  have hk9 : ∀ (k : Nat) (x : Nat × va_E), ws[k]? = some x → (V.setCell T.heap.size ce).heap[x.1]? = T.heap[x.1]? := fun k x hx => f2 x.1 ((hP k x hx).lt) (fun z hz => nomatch hz)
  obtain ⟨t, a1, b1⟩ := kk T.heap.size (V.setCell T.heap.size ce).heap ((hP.kept hk9).app (fun k x hx => by
      have hz : k < 1 := (List.getElem?_eq_some_iff.mp hx).1
      rw [show k = 0 by omega] at hx
      cases hx
      exact ⟨_, hc, ce, hh, hcid, hvm9, fun k hk => absurd hk (Nat.not_lt_zero k)⟩)) (hD.push hP rfl (hA _ hS.1)) ⟨Nat.le_trans hS.1 f1, fun q h1 h2 => (f2 q (Nat.lt_of_lt_of_le h1 hS.1) (fun z hz => nomatch hz)).trans (hS.2.1 q h1 h2), hS.2.2⟩ _ rfl X6
  refine ⟨t, st1 _ ?_, b1⟩
  show Steps p.tables e below (T1.setTop { method := m, pc := pc + 3, locals := ls, stack := .ref T.heap.size :: rest, locked := none }) _
  jvm_step X₁.here [X₁.here.top, hexec, d3', Value.category]
  exact X₁.ldcString hexec (own := own) (text := text) (index := is) (a := sa) hown' hstr'.1 hstr'.2
    (g := { method := m, pc := pc + 4, locals := ls, stack := .ref T.heap.size :: .ref T.heap.size :: rest, locked := none }) rfl d4' _ (st _ a1)
/-- 'new E()' that isn't thrown at once: the object goes on the stack -/
theorem vx_make0 {cc : ByteArray} {pc : Nat} (hexec : p.tables.exec = Jvm.exec) (hb : c.code = cc) (hl : l.stackTraces = false) {own cls : String} {names : List String} {ik ic ci : Nat} {A : Nat → Prop} {T0 : u_T}
    (hown : s.vm.findClass own = some m.cls) (hcls : Bundle.fit cls = true) (hnames : ∀ n ∈ names, Bundle.fit n = true)
    (hk : (Cond.classLink own ik cls).before args s = true) (hini : (Cond.initialized cls).before args s = true) (hat : ∀ w ∈ vx_at0 own ic cls names, w.before args s = true)
    (hgood : ∀ w ∈ Cond.classLink own ik cls :: Cond.initialized cls :: vx_at0 own ic cls names, vx_ot w = true)
    (hU : vx_Zq Bundle.tN "UNASSIGNED_STACK" Bundle.steD A s s.heap) (hN : vx_Zq Bundle.tN "SUPPRESSED_SENTINEL" Bundle.listD A s s.heap) (hS : va_S A s.heap H locs) (hsize : ls.size = c.maxLocals)
    (d0 : decode cc pc = .ok (.new ik, 3)) (d3 : decode cc (pc + 3) = .ok (.dup, 1)) (d4 : decode cc (pc + 4) = .ok (.invokespecial ic, 3))
    (hK : va_K D cl tys s) (hP : va_P D cl ws H) (hD : va_D A ws) (hA : ∀ q, s.heap.size ≤ q → A q) (hc : cl[ci]? = some (cls, T0, 0))
    (hRframes : names.length + 3 < R.frames) (hRlocals : (rest.map fun v => v.category).sum + (13 * (names.length + 1) + 42) ≤ R.locals) (hRcells : cells + 1 ≤ R.cells) (hRslots : slots + 6 ≤ R.slots)
    (kk : ∀ (q : Nat) (H1 : Heap), va_P D cl (ws ++ [(q, .inr (ci, []))]) H1 → va_D A (ws ++ [(q, .inr (ci, []))]) → va_S A s.heap H1 locs → W p l e R s m args below meth c H1 locs (cells + 1) (slots + 6) Q (F0 m (pc + 7) ls (.ref q :: rest))) :
    W p l e R s m args below meth c H locs cells slots Q (F0 m pc ls rest) := by
  intro T hT X
  subst hT
  have htr : e.platform.stackTraces = false := (show e.platform.stackTraces = l.stackTraces by rw [X.admits.platform]).trans hl
  have Y := vx_rebase X (R' := { frames := R.frames, locals := R.locals, cells := 1, slots := 6 }) (Nat.le_refl _) (Nat.le_refl _) hRcells hRslots
  obtain ⟨s', hA'⟩ : ∃ z, z = (T.setVm s.vm).setFrames (.invoking m args :: below) := ⟨_, rfl⟩
  rw [← hA'] at Y
  have hvm : s'.vm = s.vm := by rw [hA']; rfl
  have hhp : s'.heap = T.heap := by rw [hA']; rfl
  have hW0 : s.WarmedH s'.vm := by rw [hvm]; exact State.WarmedH.refl s
  have hat' : ∀ w ∈ vx_at0 own ic cls names, w.before args s' = true := fun w hw => vx_ot_at hW0 hvm.symm (hgood w (List.mem_cons_of_mem _ (List.mem_cons_of_mem _ hw))) (hat w hw)
  have hk' : (Cond.classLink own ik cls).before args s' = true := vx_ot_at hW0 hvm.symm (hgood _ List.mem_cons_self) hk
  have hini' : (Cond.initialized cls).before args s' = true := vx_ot_at hW0 hvm.symm (hgood _ (List.mem_cons_of_mem _ List.mem_cons_self)) hini
  have hU' : vx_Zq Bundle.tN "UNASSIGNED_STACK" Bundle.steD A s' s'.heap := by rw [hhp]; exact vx_Zq.moved hW0.alike (hU.kept hS.2.1)
  have hN' : vx_Zq Bundle.tN "SUPPRESSED_SENTINEL" Bundle.listD A s' s'.heap := by rw [hhp]; exact vx_Zq.moved hW0.alike (hN.kept hS.2.1)
  have h : ∀ w ∈ Bundle.ownAtoms0 own ic cls names, w.before args s' = true := vx_own hat' (vx_isRefq hU'.1) (vx_isRefq hN'.1) hU'.2.word hN'.2.word
  have hown' : s'.vm.findClass own = some m.cls := by rw [hvm]; exact hown
  have hins : (Cond.instantiable cls 6).before args s' = true := h _ (by simp [Bundle.ownAtoms0])
  obtain ⟨vm₁, cX, kX, hfX, hkX, -, -, X₁, st1⟩ := Y.newCold hexec (own := own) (C := cls) (index := ik) (n := 6) hown' hk' hins hini'
    (g := F0 m pc ls rest) rfl (by rw [hb]; exact d0) (Nat.le_refl _) (Nat.le_refl _)
  generalize hT1 : (T.setVm vm₁).pushCell { cls := cX, slots := kX.instanceTypes.map defaultValue, vm := .none } = T1 at X₁ st1
  have hcat : (Value.ref T.heap.size).category = 1 := rfl
  have hcellA : T1.heap[T.heap.size]? = some (freshCell cX kX) := by rw [← hT1]; exact State.heap_pushCell_size _ _
  have d3' : decode c.code (pc + 3) = .ok (.dup, 1) := by rw [hb]; exact d3
  obtain ⟨V, ce, L, Z, hL, hlt, hcl9, hvm9, st⟩ := vx_ctorMade0 X₁ hexec htr (own := own) (cls := cls) (names := names) (ic := ic) hown' hcls hnames h (fun x hx => nomatch hx) hfX hkX hcellA (by rw [hhp]; exact Nat.le_refl _)
    (g := { method := m, pc := pc + 4, locals := ls, stack := .ref T.heap.size :: .ref T.heap.size :: rest, locked := none }) rfl hsize (rest := rest) rfl
    (by rw [hb]; exact d4) hRframes (by simp only [List.map_cons, List.sum_cons, hcat]; omega)
  have Z0 := Stand.forget (locs := []) Z (fun y hy => by rw [hL y hy, hhp]; exact Nat.le_refl _)
  obtain ⟨f1, f2⟩ := vx_frame Z0.same
  rw [hhp] at f1 f2
  have hcid : ce.cls = D.1 ci := by
    rw [hcl9]
    have h1 := (hK.1 ci _ hc).2.1
    rw [hvm] at hfX
    exact Option.some.inj (hfX.symm.trans h1)
  have hh : (V.setCell T.heap.size ce).heap[T.heap.size]? = some ce := heapAt_setCell_self (s := V) ce hlt
  subst hA'
  have X5 := vx_back9 X Y Z0
  have X6 : Stand p l e R s m args below meth c (V.setCell T.heap.size ce) locs (cells + 1) (slots + 6) := { X5 with same := X5.same.mono (by omega) (by omega) }
  have hk9 : ∀ (k : Nat) (x : Nat × va_E), ws[k]? = some x → (V.setCell T.heap.size ce).heap[x.1]? = T.heap[x.1]? := fun k x hx => f2 x.1 ((hP k x hx).lt) (fun z hz => nomatch hz)
  obtain ⟨t, a1, b1⟩ := kk T.heap.size (V.setCell T.heap.size ce).heap ((hP.kept hk9).app (fun k x hx => by
      have hz : k < 1 := (List.getElem?_eq_some_iff.mp hx).1
      rw [show k = 0 by omega] at hx
      cases hx
      exact ⟨_, hc, ce, hh, hcid, hvm9, fun k hk => absurd hk (Nat.not_lt_zero k)⟩)) (hD.push hP rfl (hA _ hS.1)) ⟨Nat.le_trans hS.1 f1, fun q h1 h2 => (f2 q (Nat.lt_of_lt_of_le h1 hS.1) (fun z hz => nomatch hz)).trans (hS.2.1 q h1 h2), hS.2.2⟩ _ rfl X6
  refine ⟨t, st1 _ ?_, b1⟩
  show Steps p.tables e below (T1.setTop { method := m, pc := pc + 3, locals := ls, stack := .ref T.heap.size :: rest, locked := none }) _
  jvm_step X₁.here [X₁.here.top, hexec, d3', Value.category]
  exact st _ a1
/-- 'throw x' of an object that was made before -/
theorem vx_athrow {cc : ByteArray} {pc : Nat} (hexec : p.tables.exec = Jvm.exec) (hb : c.code = cc) {q : Addr} (hdg : decode cc pc = .ok (.athrow, 1)) (k : vx_W p l e R s m args below meth c H locs cells slots Q (F0 m pc ls rest) q) : W p l e R s m args below meth c H locs cells slots Q (F0 m pc ls (.ref q :: rest)) := by
  intro T hT X
  obtain ⟨t, st, hq⟩ := k T hT X
  refine ⟨t, ?_, hq⟩
  have hdg' : decode c.code pc = .ok (.athrow, 1) := by rw [hb]; exact hdg
  jvm_step X.here [X.here.top, hexec, hdg', athrow.wp_sem]
  exact st
end VXK2
/-! ===== END ===== -/
/-! ===== BEGIN a constructor that throws (launches without stack traces) ===== -/
section VXIA
variable {p : Program} {l : Launch} {e : Env} {R : Room} {s : State} {m : MethodId} {args : Array Value} {below : List Frame} {meth : Method} {c : Code} {T : State} {locs : List Loc} {cells slots : Nat}
theorem vx_callI (X : Stand p l e R s m args below meth c T locs cells slots) (hexec : p.tables.exec = Jvm.exec) {own : String} {index : Nat} {y : MethodName} {bytes : ByteArray} {maxL : Nat}
    (hown : s.vm.findClass own = some m.cls) (hy1 : y.name = "<init>") (hlink : (Cond.methodLink own index y).before args s = true) (hinst : (Cond.instanceMethod y).before args s = true)
    (hcode : (Cond.code y bytes maxL none).before args s = true) (hy : y.cls ≠ "java/lang/invoke/MethodHandle" ∧ y.cls ≠ "java/lang/invoke/VarHandle")
    {W9 : Nat} {Pre : Pt → Array Value → Prop} {Post : Pt → Array Value → Option Value → Pt → Prop} {PostX : Pt → Array Value → Addr → Pt → Prop} (hK : vx_Back l R p e below s args y 3 W9 Pre Post PostX)
    {g : JFrame} (hg : g.method = m) (hsize : g.locals.size = c.maxLocals) {a : Addr} {argsL rest : List Value} (hlen : ∀ sig, parseMethodDescriptor y.desc = some sig → argsL.length = sig.parameters.length)
    (hstack : g.stack = argsL.reverse ++ .ref a :: rest) (hW : 2 * g.monitorRoom + (rest.map fun v => v.category).sum ≤ W9) (hdg : decode c.code g.pc = .ok (.invokespecial index, 3))
    (hpre : ∀ vm₁, s.WarmedH vm₁ → Pre ⟨T.setVm vm₁, locs, cells, slots⟩ (Value.ref a :: argsL).toArray) :
    (∃ (v : Option Value) (vm₁ : Vm) (B : Pt), s.WarmedH vm₁ ∧ Stand p l e R s m args below meth c B.U B.locs B.cells B.slots ∧ Post ⟨T.setVm vm₁, locs, cells, slots⟩ (Value.ref a :: argsL).toArray v B ∧
      ∀ target, Steps p.tables e below (B.U.setTop { g with pc := g.pc + 3, stack := v.toList ++ rest }) target → Steps p.tables e below (T.setTop g) target) ∨
    (∃ (q : Addr) (vm₁ : Vm) (B : Pt), s.WarmedH vm₁ ∧ Stand p l e R s m args below meth c B.U B.locs B.cells B.slots ∧ PostX ⟨T.setVm vm₁, locs, cells, slots⟩ (Value.ref a :: argsL).toArray q B ∧
      Steps p.tables e below (T.setTop g) ((B.U.setTop { g with stack := rest }).pushFrame (.throwing q))) := by
  subst hg
  have hpl : e.platform.magicAccessors = ({} : Platform).magicAccessors := by rw [X.admits.platform]
  obtain ⟨mk, methM, cM, kP, vm₁, hnamed, hmethM, hcodeM, -, hlocalsM, -, hkP, -, hW₁, hstep₁⟩ := Steps.initColdArgs (e := e) X.here hexec X.warmed hpl hown hy1 hy hlink hinst hcode (f := g) rfl hlen hstack hdg
  have X₁ := X.noted hW₁
  rcases hK g.method meth c ⟨T.setVm vm₁, locs, cells, slots⟩ { g with stack := rest } (.invokespecial index) mk (Value.ref a :: argsL).toArray X₁ rfl hsize hdg hW (X₁.named hnamed) (hpre vm₁ X₁.warmed) with ⟨v, B, X', hpost, hsteps⟩ | ⟨q, B, X', hpost, hsteps⟩
  · exact Or.inl ⟨v, vm₁, B, X₁.warmed, X', hpost, fun target h => hstep₁ _ fun acts => by rw [doInvoke_state]; exact hsteps.trans h⟩
  · exact Or.inr ⟨q, vm₁, B, X₁.warmed, X', hpost, hstep₁ _ fun acts => by rw [doInvoke_state]; exact hsteps⟩
end VXIA
section VXIB
variable {p : Program} {l : Launch} {e : Env} {R : Room} {s : State} {m : MethodId} {args : Array Value} {below : List Frame} {meth : Method} {c : Code} {H : Heap} {locs : List Loc} {cells slots : Nat}
variable {y : MethodName} {bytes cc : ByteArray} {maxL nL mc ms n index : Nat} {ret : Option FieldType} {ws : List Cond} {rm : Room} {Pc : Array Value → State → Prop} {Qc : Array Value → State → Outcome → State → Prop} {XC : String → State → State → Prop} {free : Addr → Prop} {Ts : List Cond} {own C : String} {b : Addr} {As rest : List Value} {g : JFrame}
theorem vx_runI (S : CallFix p m c cc nL s args Ts own) (hM : vx_Met l y ws rm Pc Qc XC mc ms free) (cw : CallB R s args own index y bytes maxL none ws rm mc ms n ∧ y.name = "<init>" ∧ (Cond.instanceMethod y).before args s = true) (hp : PreS s H Pc (.ref b :: As))
    (hg : g.method = m) (hn : As.length = n) (hsize : g.locals.size = nL) (hstack : g.stack = As.reverse ++ .ref b :: rest) (hW : 2 * g.monitorRoom + (rest.map fun v => v.category).sum ≤ 8) (hdg : decode cc g.pc = .ok (.invokespecial index, 3)) (hf : cells + mc ≤ R.cells ∧ slots + ms ≤ R.slots) :
    vx_Run p l e R s m args below meth c H locs cells slots mc ms g rest (Qc (Value.ref b :: As).toArray) XC free := by
  have hK : vx_Back l R p e below s args y 3 8 (PreOf R mc ms Pc) (PostOf Qc mc ms free) (vx_Post XC mc ms free) := vx_callBack cw.1 hM hp.1
  obtain ⟨⟨-, -, -, -, -, -, hcode, -, hy, hlen, hl⟩, hy1, hin⟩ := cw
  obtain ⟨hx, hb, hml, ho, -⟩ := S
  have hPc := hp.2
  intro T hT X
  rcases vx_callI X hx (bytes := bytes) (maxL := maxL) ho hy1 hl hin hcode hy hK hg (hsize.trans hml.symm) (a := b) (argsL := As) (rest := rest) (fun sig h => hn.trans (hlen sig h)) hstack hW (by rw [hb]; exact hdg)
    (fun vm₁ hW₁ => ⟨hf.1, hf.2, hPc (T.setVm vm₁) hT hW₁⟩) with ⟨v, vm₁, ⟨U', l2, c2, s2⟩, hW₁, X', ⟨g', mk, t, L, e1, e2, hq, h1, hL, h2, h3⟩, st⟩ | ⟨q, vm₁, ⟨U', l2, c2, s2⟩, hW₁, X', ⟨g', mk, t, L, E, ce, e1, e2, hq, hce, hcv, hcl, h1, hL, h2, h3⟩, st⟩
  · dsimp only [Pt.U, Pt.locs, Pt.cells, Pt.slots] at X' e1 e2 h1 h2 h3 st
    subst h1; subst h2; subst h3
    exact Or.inl ⟨v, (T.setVm vm₁).calling g' mk (Value.ref b :: As).toArray, t, U', L, hT, X', hL, e1, e2, hq, st⟩
  · dsimp only [Pt.U, Pt.locs, Pt.cells, Pt.slots] at X' e1 e2 h1 h2 h3 st hcl
    subst h1; subst h2; subst h3
    exact Or.inr ⟨q, (T.setVm vm₁).calling g' mk (Value.ref b :: As).toArray, t, U', L, E, ce, hT, X', hL, e1, e2, hq, hce, hcv, vx_cls hW₁ hcl, st⟩
end VXIB
/-! ===== END ===== -/
/-! ===== BEGIN a private constructor of a nest mate that throws ===== -/
section VXIC
variable {p : Program} {l : Launch} {e : Env} {R : Room} {s : State} {m : MethodId} {args : Array Value} {below : List Frame} {meth : Method} {c : Code} {T : State} {locs : List Loc} {cells slots : Nat}
theorem vx_callIN (X : Stand p l e R s m args below meth c T locs cells slots) (hexec : p.tables.exec = Jvm.exec) {own : String} {index : Nat} {host : String} {y : MethodName} {bytes : ByteArray} {maxL : Nat}
    (hown : s.vm.findClass own = some m.cls) (hy1 : y.name = "<init>") (hlink : (Cond.methodLinkNest own index y host).before args s = true) (hinst : (Cond.instanceMethod y).before args s = true)
    (hcode : (Cond.code y bytes maxL none).before args s = true) (hy : y.cls ≠ "java/lang/invoke/MethodHandle" ∧ y.cls ≠ "java/lang/invoke/VarHandle")
    {W9 : Nat} {Pre : Pt → Array Value → Prop} {Post : Pt → Array Value → Option Value → Pt → Prop} {PostX : Pt → Array Value → Addr → Pt → Prop} (hK : vx_Back l R p e below s args y 3 W9 Pre Post PostX)
    {g : JFrame} (hg : g.method = m) (hsize : g.locals.size = c.maxLocals) {a : Addr} {argsL rest : List Value} (hlen : ∀ sig, parseMethodDescriptor y.desc = some sig → argsL.length = sig.parameters.length)
    (hstack : g.stack = argsL.reverse ++ .ref a :: rest) (hW : 2 * g.monitorRoom + (rest.map fun v => v.category).sum ≤ W9) (hdg : decode c.code g.pc = .ok (.invokespecial index, 3))
    (hpre : ∀ vm₁, s.WarmedH vm₁ → Pre ⟨T.setVm vm₁, locs, cells, slots⟩ (Value.ref a :: argsL).toArray) :
    (∃ (v : Option Value) (vm₁ : Vm) (B : Pt), s.WarmedH vm₁ ∧ Stand p l e R s m args below meth c B.U B.locs B.cells B.slots ∧ Post ⟨T.setVm vm₁, locs, cells, slots⟩ (Value.ref a :: argsL).toArray v B ∧
      ∀ target, Steps p.tables e below (B.U.setTop { g with pc := g.pc + 3, stack := v.toList ++ rest }) target → Steps p.tables e below (T.setTop g) target) ∨
    (∃ (q : Addr) (vm₁ : Vm) (B : Pt), s.WarmedH vm₁ ∧ Stand p l e R s m args below meth c B.U B.locs B.cells B.slots ∧ PostX ⟨T.setVm vm₁, locs, cells, slots⟩ (Value.ref a :: argsL).toArray q B ∧
      Steps p.tables e below (T.setTop g) ((B.U.setTop { g with stack := rest }).pushFrame (.throwing q))) := by
  subst hg
  have hpl : e.platform.magicAccessors = ({} : Platform).magicAccessors := by rw [X.admits.platform]
  obtain ⟨mk, methM, cM, kP, vm₁, hnamed, hmethM, hcodeM, -, hlocalsM, -, hkP, -, hW₁, hstep₁⟩ := Steps.initColdArgsNest (e := e) X.here hexec X.warmed hpl hown hy1 hy hlink hinst hcode (f := g) rfl hlen hstack hdg
  have X₁ := X.noted hW₁
  rcases hK g.method meth c ⟨T.setVm vm₁, locs, cells, slots⟩ { g with stack := rest } (.invokespecial index) mk (Value.ref a :: argsL).toArray X₁ rfl hsize hdg hW (X₁.named hnamed) (hpre vm₁ X₁.warmed) with ⟨v, B, X', hpost, hsteps⟩ | ⟨q, B, X', hpost, hsteps⟩
  · exact Or.inl ⟨v, vm₁, B, X₁.warmed, X', hpost, fun target h => hstep₁ _ fun acts => by rw [doInvoke_state]; exact hsteps.trans h⟩
  · exact Or.inr ⟨q, vm₁, B, X₁.warmed, X', hpost, hstep₁ _ fun acts => by rw [doInvoke_state]; exact hsteps⟩
end VXIC
section VXID
variable {p : Program} {l : Launch} {e : Env} {R : Room} {s : State} {m : MethodId} {args : Array Value} {below : List Frame} {meth : Method} {c : Code} {H : Heap} {locs : List Loc} {cells slots : Nat}
theorem vx_runIN {y : MethodName} {bytes cc : ByteArray} {maxL nL mc ms n index : Nat} {ws : List Cond} {rm : Room} {Pc : Array Value → State → Prop} {Qc : Array Value → State → Outcome → State → Prop} {XC : String → State → State → Prop} {free : Addr → Prop} {Ts : List Cond} {own host : String} {b : Addr} {As rest : List Value} {g : JFrame}
    (S : CallFix p m c cc nL s args Ts own) (hM : vx_Met l y ws rm Pc Qc XC mc ms free) (cw : va_CN R s args own index y host bytes maxL none ws rm mc ms n ∧ y.name = "<init>" ∧ (Cond.instanceMethod y).before args s = true) (hp : PreS s H Pc (.ref b :: As))
    (hg : g.method = m) (hn : As.length = n) (hsize : g.locals.size = nL) (hstack : g.stack = As.reverse ++ .ref b :: rest) (hW : 2 * g.monitorRoom + (rest.map fun v => v.category).sum ≤ 8) (hdg : decode cc g.pc = .ok (.invokespecial index, 3)) (hf : cells + mc ≤ R.cells ∧ slots + ms ≤ R.slots) :
    vx_Run p l e R s m args below meth c H locs cells slots mc ms g rest (Qc (Value.ref b :: As).toArray) XC free := by
  obtain ⟨⟨⟨hrc, hrs, hfr, hlo, hws, hcw⟩, hcode, hini, hy, hlen, hl⟩, hx1, hx2⟩ := cw
  have hK : vx_Back l R p e below s args y 3 8 (PreOf R mc ms Pc) (PostOf Qc mc ms free) (vx_Post XC mc ms free) := vx_back (bytes := bytes) (maxL := maxL) (ret := none) hM hp.1 hrc hrs hfr hlo hws hcw (fun a' U hW => word_at hW (Or.inl (by first | rfl | simp [Cond.onTables, Cond.keeps, Cond.steady])) hini)
  obtain ⟨hx, hb, hml, ho, -⟩ := S
  have hPc := hp.2
  intro T hT X
  rcases vx_callIN X hx (bytes := bytes) (maxL := maxL) ho hx1 hl hx2 hcode hy hK hg (hsize.trans hml.symm) (a := b) (argsL := As) (rest := rest) (fun sig h => hn.trans (hlen sig h)) hstack hW (by rw [hb]; exact hdg)
    (fun vm₁ hW₁ => ⟨hf.1, hf.2, hPc (T.setVm vm₁) hT hW₁⟩) with ⟨v, vm₁, ⟨U', l2, c2, s2⟩, hW₁, X', ⟨g', mk, t, L, e1, e2, hq, h1, hL, h2, h3⟩, st⟩ | ⟨q, vm₁, ⟨U', l2, c2, s2⟩, hW₁, X', ⟨g', mk, t, L, E, ce, e1, e2, hq, hce, hcv, hcl, h1, hL, h2, h3⟩, st⟩
  · dsimp only [Pt.U, Pt.locs, Pt.cells, Pt.slots] at X' e1 e2 h1 h2 h3 st
    subst h1; subst h2; subst h3
    exact Or.inl ⟨v, (T.setVm vm₁).calling g' mk (Value.ref b :: As).toArray, t, U', L, hT, X', hL, e1, e2, hq, st⟩
  · dsimp only [Pt.U, Pt.locs, Pt.cells, Pt.slots] at X' e1 e2 h1 h2 h3 st hcl
    subst h1; subst h2; subst h3
    exact Or.inr ⟨q, (T.setVm vm₁).calling g' mk (Value.ref b :: As).toArray, t, U', L, E, ce, hT, X', hL, e1, e2, hq, hce, hcv, vx_cls hW₁ hcl, st⟩
end VXID
/-! ===== END ===== -/
/-! ===== BEGIN a method of a class above, found by the receiver, that may throw (follows va_callVU, va_runU of this kit) ===== -/
section
variable {p : Program} {l : Launch} {e : Env} {R : Room} {s : State} {m : MethodId} {args : Array Value} {below : List Frame} {meth : Method} {c : Code} {H : Heap} {locs : List Loc} {cells slots : Nat}
theorem vx_callVU {T : State} {locs : List Loc} {cells slots : Nat} (X : Stand p l e R s m args below meth c T locs cells slots) (hexec : p.tables.exec = Jvm.exec) {own C owner : String} {index : Nat} {x y : MethodName} {bytes : ByteArray} {maxL : Nat} {ret : Option FieldType}
    (hown : s.vm.findClass own = some m.cls) (hlink : (Cond.methodLink own index x).before args s = true) (hsame : (Cond.sameMethod x.cls owner x.name x.desc).before args s = true)
    (hd0 : va_Decl s ⟨owner, x.name, x.desc⟩) (howner : owner ≠ "java/lang/invoke/MethodHandle" ∧ owner ≠ "java/lang/invoke/VarHandle")
    (hsel : (Cond.selects C x y).before args s = true) (hinst : (Cond.instanceMethod y).before args s = true) (hcode : (Cond.code y bytes maxL ret).before args s = true)
    {W : Nat} {Pre : Pt → Array Value → Prop} {Post : Pt → Array Value → Option Value → Pt → Prop} {PostX : Pt → Array Value → Addr → Pt → Prop} (hK : vx_Back l R p e below s args y 3 W Pre Post PostX)
    {b : Addr} {cellB : Cell} (hcell : T.heap[b]? = some cellB) (hobj : cellB.vm.isStatics = false) (hcls : s.vm.findClass C = some cellB.cls)
    {g : JFrame} (hg : g.method = m) (hsize : g.locals.size = c.maxLocals) {argsL rest : List Value} (hlen : ∀ sig, parseMethodDescriptor x.desc = some sig → argsL.length = sig.parameters.length)
    (hstack : g.stack = argsL.reverse ++ .ref b :: rest) (hW : 2 * g.monitorRoom + (rest.map fun v => v.category).sum ≤ W) (hdg : decode c.code g.pc = .ok (.invokevirtual index, 3))
    (hpre : ∀ vm₁, s.WarmedH vm₁ → Pre ⟨T.setVm vm₁, locs, cells, slots⟩ (Value.ref b :: argsL).toArray) :
    (∃ (v : Option Value) (vm₁ : Vm) (B : Pt), s.WarmedH vm₁ ∧ Stand p l e R s m args below meth c B.U B.locs B.cells B.slots ∧ Post ⟨T.setVm vm₁, locs, cells, slots⟩ (Value.ref b :: argsL).toArray v B ∧
      ∀ target, Steps p.tables e below (B.U.setTop { g with pc := g.pc + 3, stack := v.toList ++ rest }) target → Steps p.tables e below (T.setTop g) target) ∨
    (∃ (q : Addr) (vm₁ : Vm) (B : Pt), s.WarmedH vm₁ ∧ Stand p l e R s m args below meth c B.U B.locs B.cells B.slots ∧ PostX ⟨T.setVm vm₁, locs, cells, slots⟩ (Value.ref b :: argsL).toArray q B ∧
      Steps p.tables e below (T.setTop g) ((B.U.setTop { g with stack := rest }).pushFrame (.throwing q))) := by
  obtain ⟨r0, r, hn, hrm, hstR, hsigR⟩ := hd0
  obtain ⟨cn, ck, r1, hcn, hck, hni, hf, hn1⟩ := Cond.sameMethod_found hsame
  cases hn.symm.trans hn1
  obtain ⟨mk, methM, hnamed, hmethM, -, habM⟩ := Cond.instanceMethod_spec hinst
  obtain ⟨c2, r2, m2, q1, q2, q3, q4, kP, hkP, hkPi⟩ := Cond.selects_spec hsel
  cases hcls.symm.trans q1
  cases hf.symm.trans q2
  cases hnamed.symm.trans q3
  have hselP : selectMethod e.platform s.vm cellB.cls r0 = .method mk := by rw [Launch.admits_selectMethod X.admits]; exact q4
  obtain ⟨vm₁, X₁, hstep₁⟩ := X.invokevirtualUp hexec hown hlink hsame howner hn hrm hstR (a := b) (cell := cellB) hcell
    (fun z h => by rw [h] at hobj; cases hobj) hselP hmethM habM hkP hkPi (g := g) hg (argsL := argsL) (rest := rest) (hlen _ hsigR) hstack hdg
  rcases hK m meth c ⟨T.setVm vm₁, locs, cells, slots⟩ { g with stack := rest } (.invokevirtual index) mk (Value.ref b :: argsL).toArray X₁ hg hsize hdg hW (X₁.named hnamed) (hpre vm₁ X₁.warmed) with ⟨v, B, X', hpost, hsteps⟩ | ⟨q, B, X', hpost, hsteps⟩
  · exact Or.inl ⟨v, vm₁, B, X₁.warmed, X', hpost, fun target h => hstep₁ _ fun acts => by rw [doInvoke_state]; exact hsteps.trans h⟩
  · exact Or.inr ⟨q, vm₁, B, X₁.warmed, X', hpost, hstep₁ _ fun acts => by rw [doInvoke_state]; exact hsteps⟩
theorem vx_runU {x y : MethodName} {bytes cc : ByteArray} {maxL nL mc ms n index : Nat} {ret : Option FieldType} {ws : List Cond} {rm : Room} {Pc : Array Value → State → Prop} {Qc : Array Value → State → Outcome → State → Prop} {XC : String → State → State → Prop} {free : Addr → Prop} {Ts : List Cond} {own C owner : String} {b : Addr} {As rest : List Value} {g : JFrame}
    (S : CallFix p m c cc nL s args Ts own) (hM : vx_Met l y ws rm Pc Qc XC mc ms free) (cw : va_CU R s args own C owner index x y bytes maxL ret ws rm mc ms n) (hp : PreV s H C b Pc As)
    (hg : g.method = m) (hn : As.length = n) (hsize : g.locals.size = nL) (hstack : g.stack = As.reverse ++ .ref b :: rest) (hW : 2 * g.monitorRoom + (rest.map fun v => v.category).sum ≤ 8) (hdg : decode cc g.pc = .ok (.invokevirtual index, 3)) (hf : cells + mc ≤ R.cells ∧ slots + ms ≤ R.slots) :
    vx_Run p l e R s m args below meth c H locs cells slots mc ms g rest (Qc (Value.ref b :: As).toArray) XC free := by
  obtain ⟨hrc, hrs, hfr, hlo, hws, hcw⟩ := cw.back
  have hini := cw.init
  have hK : vx_Back l R p e below s args y 3 8 (PreOf R mc ms Pc) (PostOf Qc mc ms free) (vx_Post XC mc ms free) := vx_back (bytes := bytes) (maxL := maxL) (ret := ret) hM hp.1 hrc hrs hfr hlo hws hcw (fun a' U hW => word_at hW (Or.inl (by first | rfl | simp [Cond.onTables, Cond.keeps, Cond.steady])) hini)
  obtain ⟨hx, hb, hml, ho, -⟩ := S
  obtain ⟨-, ⟨cellB, hcB, hoB, hclB⟩, hPc⟩ := hp
  intro T hT X
  rcases vx_callVU X hx (C := C) (owner := owner) (bytes := bytes) (maxL := maxL) (ret := ret) ho cw.link cw.same cw.decl cw.notMH cw.sel cw.inst cw.code hK (by rw [hT]; exact hcB) hoB hclB hg (hsize.trans hml.symm) (argsL := As) (rest := rest) (fun sig h => hn.trans (cw.len sig h)) hstack hW (by rw [hb]; exact hdg)
    (fun vm₁ hW₁ => ⟨hf.1, hf.2, hPc (T.setVm vm₁) hT hW₁⟩) with ⟨v, vm₁, ⟨U', l2, c2, s2⟩, hW₁, X', ⟨g', mk, t, L, e1, e2, hq, h1, hL, h2, h3⟩, st⟩ | ⟨q, vm₁, ⟨U', l2, c2, s2⟩, hW₁, X', ⟨g', mk, t, L, E, ce, e1, e2, hq, hce, hcv, hcl, h1, hL, h2, h3⟩, st⟩
  · dsimp only [Pt.U, Pt.locs, Pt.cells, Pt.slots] at X' e1 e2 h1 h2 h3 st
    subst h1; subst h2; subst h3
    exact Or.inl ⟨v, (T.setVm vm₁).calling g' mk (Value.ref b :: As).toArray, t, U', L, hT, X', hL, e1, e2, hq, st⟩
  · dsimp only [Pt.U, Pt.locs, Pt.cells, Pt.slots] at X' e1 e2 h1 h2 h3 st hcl
    subst h1; subst h2; subst h3
    exact Or.inr ⟨q, (T.setVm vm₁).calling g' mk (Value.ref b :: As).toArray, t, U', L, E, ce, hT, X', hL, e1, e2, hq, hce, hcv, vx_cls hW₁ hcl, st⟩
end
/-! ===== END ===== -/
/-! ===== BEGIN super.m(..) that may throw (follows va_callSU, va_runSU) ===== -/
section
variable {p : Program} {l : Launch} {e : Env} {R : Room} {s : State} {m : MethodId} {args : Array Value} {below : List Frame} {meth : Method} {c : Code} {H : Heap} {locs : List Loc} {cells slots : Nat}
theorem vx_callSU {T : State} {locs : List Loc} {cells slots : Nat} (X : Stand p l e R s m args below meth c T locs cells slots) (hexec : p.tables.exec = Jvm.exec) {own : String} {index : Nat} {y : MethodName} {bytes : ByteArray} {maxL : Nat} {ret : Option FieldType}
    (hown : s.vm.findClass own = some m.cls) (hlink : (Cond.methodLink own index y).before args s = true) (hsame : (Cond.sameMethod y.cls y.cls y.name y.desc).before args s = true) (hsup : (Cond.superclass own y.cls).before args s = true)
    (hinst : (Cond.instanceMethod y).before args s = true) (hcode : (Cond.code y bytes maxL ret).before args s = true) (hno : y.name ≠ "<init>")
    {W : Nat} {Pre : Pt → Array Value → Prop} {Post : Pt → Array Value → Option Value → Pt → Prop} {PostX : Pt → Array Value → Addr → Pt → Prop} (hK : vx_Back l R p e below s args y 3 W Pre Post PostX)
    {b : Addr} {cellB : Cell} {kB : Class} (hcell : T.heap[b]? = some cellB) (hobj : cellB.vm.isStatics = false) (hkB : s.vm.classes[cellB.cls]? = some kB)
    {g : JFrame} (hg : g.method = m) (hsize : g.locals.size = c.maxLocals) {argsL rest : List Value} (hlen : ∀ sig, parseMethodDescriptor y.desc = some sig → argsL.length = sig.parameters.length)
    (hstack : g.stack = argsL.reverse ++ .ref b :: rest) (hW : 2 * g.monitorRoom + (rest.map fun v => v.category).sum ≤ W) (hdg : decode c.code g.pc = .ok (.invokespecial index, 3))
    (hpre : ∀ vm₁, s.WarmedH vm₁ → Pre ⟨T.setVm vm₁, locs, cells, slots⟩ (Value.ref b :: argsL).toArray) :
    (∃ (v : Option Value) (vm₁ : Vm) (B : Pt), s.WarmedH vm₁ ∧ Stand p l e R s m args below meth c B.U B.locs B.cells B.slots ∧ Post ⟨T.setVm vm₁, locs, cells, slots⟩ (Value.ref b :: argsL).toArray v B ∧
      ∀ target, Steps p.tables e below (B.U.setTop { g with pc := g.pc + 3, stack := v.toList ++ rest }) target → Steps p.tables e below (T.setTop g) target) ∨
    (∃ (q : Addr) (vm₁ : Vm) (B : Pt), s.WarmedH vm₁ ∧ Stand p l e R s m args below meth c B.U B.locs B.cells B.slots ∧ PostX ⟨T.setVm vm₁, locs, cells, slots⟩ (Value.ref b :: argsL).toArray q B ∧
      Steps p.tables e below (T.setTop g) ((B.U.setTop { g with stack := rest }).pushFrame (.throwing q))) := by
  obtain ⟨mk, methM, hnamed, hmethM, hstM, habM⟩ := Cond.instanceMethod_spec hinst
  obtain ⟨methM', cM, hmethM', -, -, -, -, -, -, hsigM⟩ := Cond.code_spec hnamed hcode
  cases hmethM.symm.trans hmethM'
  obtain ⟨ps, dk, kp, hps, hdk, hkp, hsuper, -, -, hnid⟩ := Cond.superclass_spec hown hsup
  have hn : s.methodNamed? ⟨y.cls, y.name, y.desc⟩ = some mk := hnamed
  have hpm : ps = mk.cls := Option.some.inj (hps.symm.trans (findClass_of_methodNamed hnamed))
  have hsub : s.vm.isSubclass ps mk.cls = true := by rw [hpm]; simp [Vm.isSubclass, Vm.isSubclassAux]
  obtain ⟨vm₁, X₁, hstep₁⟩ := X.invokespecialUp hexec hown hlink hsame hn hmethM hstM habM hno hdk hnid hps hsuper hsub (a := b) (cell := cellB) hcell
    (fun z h => by rw [h] at hobj; cases hobj) hkB (g := g) hg (argsL := argsL) (rest := rest) (hlen _ hsigM) hstack hdg
  rcases hK m meth c ⟨T.setVm vm₁, locs, cells, slots⟩ { g with stack := rest } (.invokespecial index) mk (Value.ref b :: argsL).toArray X₁ hg hsize hdg hW (X₁.named hnamed) (hpre vm₁ X₁.warmed) with ⟨v, B, X', hpost, hsteps⟩ | ⟨q, B, X', hpost, hsteps⟩
  · exact Or.inl ⟨v, vm₁, B, X₁.warmed, X', hpost, fun target h => hstep₁ _ (by rw [doInvoke_state]; exact hsteps.trans h)⟩
  · exact Or.inr ⟨q, vm₁, B, X₁.warmed, X', hpost, hstep₁ _ (by rw [doInvoke_state]; exact hsteps)⟩
theorem vx_runSU {y : MethodName} {bytes cc : ByteArray} {maxL nL mc ms n index : Nat} {ret : Option FieldType} {ws : List Cond} {rm : Room} {Pc : Array Value → State → Prop} {Qc : Array Value → State → Outcome → State → Prop} {XC : String → State → State → Prop} {free : Addr → Prop} {Ts : List Cond} {own C : String} {cC : ClassId} {b : Addr} {As rest : List Value} {g : JFrame}
    (hat : ClassAt s C cC) (S : CallFix p m c cc nL s args Ts own) (hM : vx_Met l y ws rm Pc Qc XC mc ms free) (cw : va_CS R s args own index y bytes maxL ret ws rm mc ms n) (hp : PreV s H C b Pc As)
    (hg : g.method = m) (hn : As.length = n) (hsize : g.locals.size = nL) (hstack : g.stack = As.reverse ++ .ref b :: rest) (hW : 2 * g.monitorRoom + (rest.map fun v => v.category).sum ≤ 8) (hdg : decode cc g.pc = .ok (.invokespecial index, 3)) (hf : cells + mc ≤ R.cells ∧ slots + ms ≤ R.slots) :
    vx_Run p l e R s m args below meth c H locs cells slots mc ms g rest (Qc (Value.ref b :: As).toArray) XC free := by
  obtain ⟨⟨hrc, hrs, hfr, hlo, hws, hcw⟩, hl1, hl2, hl3, hl4, hini, hcode, hno, hlen⟩ := cw
  have hK : vx_Back l R p e below s args y 3 8 (PreOf R mc ms Pc) (PostOf Qc mc ms free) (vx_Post XC mc ms free) := vx_back (bytes := bytes) (maxL := maxL) (ret := ret) hM hp.1 hrc hrs hfr hlo hws hcw (fun a' U hW => word_at hW (Or.inl (by first | rfl | simp [Cond.onTables, Cond.keeps, Cond.steady])) hini)
  obtain ⟨hx, hb, hml, ho, -⟩ := S
  obtain ⟨-, ⟨cellB, hcB, hoB, hclB⟩, hPc⟩ := hp
  obtain ⟨hfc, kB, hkB, -⟩ := hat
  cases hfc.symm.trans hclB
  intro T hT X
  rcases vx_callSU X hx (bytes := bytes) (maxL := maxL) (ret := ret) ho hl1 hl2 hl3 hl4 hcode hno hK (by rw [hT]; exact hcB) hoB hkB hg (hsize.trans hml.symm) (argsL := As) (rest := rest) (fun sig h => hn.trans (hlen sig h)) hstack hW (by rw [hb]; exact hdg)
    (fun vm₁ hW₁ => ⟨hf.1, hf.2, hPc (T.setVm vm₁) hT hW₁⟩) with ⟨v, vm₁, ⟨U', l2, c2, s2⟩, hW₁, X', ⟨g', mk, t, L, e1, e2, hq, h1, hL, h2, h3⟩, st⟩ | ⟨q, vm₁, ⟨U', l2, c2, s2⟩, hW₁, X', ⟨g', mk, t, L, E, ce, e1, e2, hq, hce, hcv, hcl, h1, hL, h2, h3⟩, st⟩
  · dsimp only [Pt.U, Pt.locs, Pt.cells, Pt.slots] at X' e1 e2 h1 h2 h3 st
    subst h1; subst h2; subst h3
    exact Or.inl ⟨v, (T.setVm vm₁).calling g' mk (Value.ref b :: As).toArray, t, U', L, hT, X', hL, e1, e2, hq, st⟩
  · dsimp only [Pt.U, Pt.locs, Pt.cells, Pt.slots] at X' e1 e2 h1 h2 h3 st hcl
    subst h1; subst h2; subst h3
    exact Or.inr ⟨q, (T.setVm vm₁).calling g' mk (Value.ref b :: As).toArray, t, U', L, E, ce, hT, X', hL, e1, e2, hq, hce, hcv, vx_cls hW₁ hcl, st⟩
end
/-! ===== END ===== -/
/-! ===== BEGIN a private method of a nest mate that may throw (follows va_callVN, va_callSN, va_runVN, va_runSN) ===== -/
section
variable {p : Program} {l : Launch} {e : Env} {R : Room} {s : State} {m : MethodId} {args : Array Value} {below : List Frame} {meth : Method} {c : Code} {H : Heap} {locs : List Loc} {cells slots : Nat}
variable {T : State}
theorem vx_callVN (X : Stand p l e R s m args below meth c T locs cells slots) (hexec : p.tables.exec = Jvm.exec) {own C : String} {index : Nat} {host : String} {y : MethodName} {bytes : ByteArray} {maxL : Nat} {ret : Option FieldType}
    (hown : s.vm.findClass own = some m.cls) (hlink : (Cond.methodLinkNest own index y host).before args s = true) (hinst : (Cond.instanceMethod y).before args s = true) (hsel : (Cond.selects C y y).before args s = true)
    (hcode : (Cond.code y bytes maxL ret).before args s = true) (hy : y.cls ≠ "java/lang/invoke/MethodHandle" ∧ y.cls ≠ "java/lang/invoke/VarHandle")
    {W : Nat} {Pre : Pt → Array Value → Prop} {Post : Pt → Array Value → Option Value → Pt → Prop} {PostX : Pt → Array Value → Addr → Pt → Prop} (hK : vx_Back l R p e below s args y 3 W Pre Post PostX)
    {b : Addr} {cellB : Cell} (hcell : T.heap[b]? = some cellB) (hobj : cellB.vm.isStatics = false) (hcls : s.vm.findClass C = some cellB.cls)
    {g : JFrame} (hg : g.method = m) (hsize : g.locals.size = c.maxLocals) {argsL rest : List Value} (hlen : ∀ sig, parseMethodDescriptor y.desc = some sig → argsL.length = sig.parameters.length)
    (hstack : g.stack = argsL.reverse ++ .ref b :: rest) (hW : 2 * g.monitorRoom + (rest.map fun v => v.category).sum ≤ W) (hdg : decode c.code g.pc = .ok (.invokevirtual index, 3))
    (hpre : ∀ vm₁, s.WarmedH vm₁ → Pre ⟨T.setVm vm₁, locs, cells, slots⟩ (Value.ref b :: argsL).toArray) :
    (∃ (v : Option Value) (vm₁ : Vm) (B : Pt), s.WarmedH vm₁ ∧ Stand p l e R s m args below meth c B.U B.locs B.cells B.slots ∧ Post ⟨T.setVm vm₁, locs, cells, slots⟩ (Value.ref b :: argsL).toArray v B ∧
      ∀ target, Steps p.tables e below (B.U.setTop { g with pc := g.pc + 3, stack := v.toList ++ rest }) target → Steps p.tables e below (T.setTop g) target) ∨
    (∃ (q : Addr) (vm₁ : Vm) (B : Pt), s.WarmedH vm₁ ∧ Stand p l e R s m args below meth c B.U B.locs B.cells B.slots ∧ PostX ⟨T.setVm vm₁, locs, cells, slots⟩ (Value.ref b :: argsL).toArray q B ∧
      Steps p.tables e below (T.setTop g) ((B.U.setTop { g with stack := rest }).pushFrame (.throwing q))) := by
  obtain ⟨mk, methM, hnamed, hmethM, hstM, habM⟩ := Cond.instanceMethod_spec hinst
  obtain ⟨methM', cM, hmethM', -, -, -, -, -, -, hsigM⟩ := Cond.code_spec hnamed hcode
  cases hmethM.symm.trans hmethM'
  obtain ⟨c2, r2, m2, q1, q2, q3, q4, kP, hkP, hkPi⟩ := Cond.selects_spec hsel
  cases hcls.symm.trans q1
  cases (State.methodFound?_of_named hnamed hy).symm.trans q2
  cases hnamed.symm.trans q3
  have hselP : selectMethod e.platform s.vm cellB.cls mk = .method mk := by rw [Launch.admits_selectMethod X.admits]; exact q4
  obtain ⟨vm₁, X₁, hstep₁⟩ := X.invokevirtualNest hexec hown hlink hnamed hmethM hstM hkP hkPi hy (a := b) (cell := cellB) hcell
    (fun z h => by rw [h] at hobj; cases hobj) hselP hmethM habM hkP hkPi (g := g) hg (argsL := argsL) (rest := rest) (hlen _ hsigM) hstack hdg
  rcases hK m meth c ⟨T.setVm vm₁, locs, cells, slots⟩ { g with stack := rest } (.invokevirtual index) mk (Value.ref b :: argsL).toArray X₁ hg hsize hdg hW (X₁.named hnamed) (hpre vm₁ X₁.warmed) with ⟨v, B, X', hpost, hsteps⟩ | ⟨q, B, X', hpost, hsteps⟩
  · exact Or.inl ⟨v, vm₁, B, X₁.warmed, X', hpost, fun target h => hstep₁ _ fun acts => by rw [doInvoke_state]; exact hsteps.trans h⟩
  · exact Or.inr ⟨q, vm₁, B, X₁.warmed, X', hpost, hstep₁ _ fun acts => by rw [doInvoke_state]; exact hsteps⟩
theorem vx_callSN (X : Stand p l e R s m args below meth c T locs cells slots) (hexec : p.tables.exec = Jvm.exec) {own : String} {index : Nat} {host : String} {y : MethodName} {bytes : ByteArray} {maxL : Nat} {ret : Option FieldType}
    (hown : s.vm.findClass own = some m.cls) (hlink : (Cond.methodLinkNest own index y host).before args s = true) (hstat : (Cond.static y).before args s = true) (hinit : (Cond.initialized y.cls).before args s = true)
    (hcode : (Cond.code y bytes maxL ret).before args s = true) (hy : y.cls ≠ "java/lang/invoke/MethodHandle" ∧ y.cls ≠ "java/lang/invoke/VarHandle")
    {W : Nat} {Pre : Pt → Array Value → Prop} {Post : Pt → Array Value → Option Value → Pt → Prop} {PostX : Pt → Array Value → Addr → Pt → Prop} (hK : vx_Back l R p e below s args y 3 W Pre Post PostX)
    {g : JFrame} (hg : g.method = m) (hsize : g.locals.size = c.maxLocals) {argsL rest : List Value} (hlen : ∀ sig, parseMethodDescriptor y.desc = some sig → argsL.length = sig.parameters.length)
    (hstack : g.stack = argsL.reverse ++ rest) (hW : 2 * g.monitorRoom + (rest.map fun v => v.category).sum ≤ W) (hdg : decode c.code g.pc = .ok (.invokestatic index, 3))
    (hpre : ∀ vm₁, s.WarmedH vm₁ → Pre ⟨T.setVm vm₁, locs, cells, slots⟩ argsL.toArray) :
    (∃ (v : Option Value) (vm₁ : Vm) (B : Pt), s.WarmedH vm₁ ∧ Stand p l e R s m args below meth c B.U B.locs B.cells B.slots ∧ Post ⟨T.setVm vm₁, locs, cells, slots⟩ argsL.toArray v B ∧
      ∀ target, Steps p.tables e below (B.U.setTop { g with pc := g.pc + 3, stack := v.toList ++ rest }) target → Steps p.tables e below (T.setTop g) target) ∨
    (∃ (q : Addr) (vm₁ : Vm) (B : Pt), s.WarmedH vm₁ ∧ Stand p l e R s m args below meth c B.U B.locs B.cells B.slots ∧ PostX ⟨T.setVm vm₁, locs, cells, slots⟩ argsL.toArray q B ∧
      Steps p.tables e below (T.setTop g) ((B.U.setTop { g with stack := rest }).pushFrame (.throwing q))) := by
  obtain ⟨mk, hnamed⟩ := Cond.code_named hcode
  obtain ⟨methM, cM, hmethM, -, -, -, -, -, -, hsigM⟩ := Cond.code_spec hnamed hcode
  have hstatic : methM.isStatic = true := Cond.static_spec hnamed hmethM hstat
  obtain ⟨kP, hkP, -⟩ := className_of_methodNamed hnamed
  have hinitP : kP.init = .initialized := Cond.initialized_spec (findClass_of_methodNamed hnamed) hkP hinit
  obtain ⟨vm₁, X₁, hstep₁⟩ := X.invokestaticNest hexec hown hlink hnamed hmethM hstatic hkP hinitP hy (g := g) hg (argsL := argsL) (rest := rest) (hlen _ hsigM) hstack hdg
  rcases hK m meth c ⟨T.setVm vm₁, locs, cells, slots⟩ { g with stack := rest } (.invokestatic index) mk argsL.toArray X₁ hg hsize hdg hW (X₁.named hnamed) (hpre vm₁ X₁.warmed) with ⟨v, B, X', hpost, hsteps⟩ | ⟨q, B, X', hpost, hsteps⟩
  · exact Or.inl ⟨v, vm₁, B, X₁.warmed, X', hpost, fun target h => hstep₁ _ fun acts => by rw [doInvoke_state]; exact hsteps.trans h⟩
  · exact Or.inr ⟨q, vm₁, B, X₁.warmed, X', hpost, hstep₁ _ fun acts => by rw [doInvoke_state]; exact hsteps⟩
theorem vx_runVN {y : MethodName} {bytes cc : ByteArray} {maxL nL mc ms n index : Nat} {ret : Option FieldType} {ws : List Cond} {rm : Room} {Pc : Array Value → State → Prop} {Qc : Array Value → State → Outcome → State → Prop} {XC : String → State → State → Prop} {free : Addr → Prop} {Ts : List Cond} {own C host : String} {b : Addr} {As rest : List Value} {g : JFrame}
    (S : CallFix p m c cc nL s args Ts own) (hM : vx_Met l y ws rm Pc Qc XC mc ms free) (cw : va_CN R s args own index y host bytes maxL ret ws rm mc ms n ∧ (Cond.instanceMethod y).before args s = true ∧ (Cond.selects C y y).before args s = true) (hp : PreV s H C b Pc As)
    (hg : g.method = m) (hn : As.length = n) (hsize : g.locals.size = nL) (hstack : g.stack = As.reverse ++ .ref b :: rest) (hW : 2 * g.monitorRoom + (rest.map fun v => v.category).sum ≤ 8) (hdg : decode cc g.pc = .ok (.invokevirtual index, 3)) (hf : cells + mc ≤ R.cells ∧ slots + ms ≤ R.slots) :
    vx_Run p l e R s m args below meth c H locs cells slots mc ms g rest (Qc (Value.ref b :: As).toArray) XC free := by
  obtain ⟨⟨⟨hrc, hrs, hfr, hlo, hws, hcw⟩, hcode, hini, hy, hlen, hl⟩, hx1, hx2⟩ := cw
  have hK : vx_Back l R p e below s args y 3 8 (PreOf R mc ms Pc) (PostOf Qc mc ms free) (vx_Post XC mc ms free) := vx_back (bytes := bytes) (maxL := maxL) (ret := ret) hM hp.1 hrc hrs hfr hlo hws hcw (fun a' U hW => word_at hW (Or.inl (by first | rfl | simp [Cond.onTables, Cond.keeps, Cond.steady])) hini)
  obtain ⟨hx, hb, hml, ho, -⟩ := S
  obtain ⟨-, ⟨cellB, hcB, hoB, hclB⟩, hPc⟩ := hp
  intro T hT X
  rcases vx_callVN X hx (C := C) (bytes := bytes) (maxL := maxL) (ret := ret) ho hl hx1 hx2 hcode hy hK (by rw [hT]; exact hcB) hoB hclB hg (hsize.trans hml.symm) (argsL := As) (rest := rest) (fun sig h => hn.trans (hlen sig h)) hstack hW (by rw [hb]; exact hdg)
    (fun vm₁ hW₁ => ⟨hf.1, hf.2, hPc (T.setVm vm₁) hT hW₁⟩) with ⟨v, vm₁, ⟨U', l2, c2, s2⟩, hW₁, X', ⟨g', mk, t, L, e1, e2, hq, h1, hL, h2, h3⟩, st⟩ | ⟨q, vm₁, ⟨U', l2, c2, s2⟩, hW₁, X', ⟨g', mk, t, L, E, ce, e1, e2, hq, hce, hcv, hcl, h1, hL, h2, h3⟩, st⟩
  · dsimp only [Pt.U, Pt.locs, Pt.cells, Pt.slots] at X' e1 e2 h1 h2 h3 st
    subst h1; subst h2; subst h3
    exact Or.inl ⟨v, (T.setVm vm₁).calling g' mk (Value.ref b :: As).toArray, t, U', L, hT, X', hL, e1, e2, hq, st⟩
  · dsimp only [Pt.U, Pt.locs, Pt.cells, Pt.slots] at X' e1 e2 h1 h2 h3 st hcl
    subst h1; subst h2; subst h3
    exact Or.inr ⟨q, (T.setVm vm₁).calling g' mk (Value.ref b :: As).toArray, t, U', L, E, ce, hT, X', hL, e1, e2, hq, hce, hcv, vx_cls hW₁ hcl, st⟩
theorem vx_runSN {y : MethodName} {bytes cc : ByteArray} {maxL nL mc ms n index : Nat} {ret : Option FieldType} {ws : List Cond} {rm : Room} {Pc : Array Value → State → Prop} {Qc : Array Value → State → Outcome → State → Prop} {XC : String → State → State → Prop} {free : Addr → Prop} {Ts : List Cond} {own host : String} {As rest : List Value} {g : JFrame}
    (S : CallFix p m c cc nL s args Ts own) (hM : vx_Met l y ws rm Pc Qc XC mc ms free) (cw : va_CN R s args own index y host bytes maxL ret ws rm mc ms n ∧ (Cond.static y).before args s = true ∧ True) (hp : PreS s H Pc As)
    (hg : g.method = m) (hn : As.length = n) (hsize : g.locals.size = nL) (hstack : g.stack = As.reverse ++ rest) (hW : 2 * g.monitorRoom + (rest.map fun v => v.category).sum ≤ 8) (hdg : decode cc g.pc = .ok (.invokestatic index, 3)) (hf : cells + mc ≤ R.cells ∧ slots + ms ≤ R.slots) :
    vx_Run p l e R s m args below meth c H locs cells slots mc ms g rest (Qc As.toArray) XC free := by
  obtain ⟨⟨⟨hrc, hrs, hfr, hlo, hws, hcw⟩, hcode, hini, hy, hlen, hl⟩, hx1, hx2⟩ := cw
  have hK : vx_Back l R p e below s args y 3 8 (PreOf R mc ms Pc) (PostOf Qc mc ms free) (vx_Post XC mc ms free) := vx_back (bytes := bytes) (maxL := maxL) (ret := ret) hM hp.1 hrc hrs hfr hlo hws hcw (fun a' U hW => word_at hW (Or.inl (by first | rfl | simp [Cond.onTables, Cond.keeps, Cond.steady])) hini)
  obtain ⟨hx, hb, hml, ho, -⟩ := S
  have hPc := hp.2
  intro T hT X
  rcases vx_callSN X hx (bytes := bytes) (maxL := maxL) (ret := ret) ho hl hx1 hini hcode hy hK hg (hsize.trans hml.symm) (argsL := As) (rest := rest) (fun sig h => hn.trans (hlen sig h)) hstack hW (by rw [hb]; exact hdg)
    (fun vm₁ hW₁ => ⟨hf.1, hf.2, hPc (T.setVm vm₁) hT hW₁⟩) with ⟨v, vm₁, ⟨U', l2, c2, s2⟩, hW₁, X', ⟨g', mk, t, L, e1, e2, hq, h1, hL, h2, h3⟩, st⟩ | ⟨q, vm₁, ⟨U', l2, c2, s2⟩, hW₁, X', ⟨g', mk, t, L, E, ce, e1, e2, hq, hce, hcv, hcl, h1, hL, h2, h3⟩, st⟩
  · dsimp only [Pt.U, Pt.locs, Pt.cells, Pt.slots] at X' e1 e2 h1 h2 h3 st
    subst h1; subst h2; subst h3
    exact Or.inl ⟨v, (T.setVm vm₁).calling g' mk As.toArray, t, U', L, hT, X', hL, e1, e2, hq, st⟩
  · dsimp only [Pt.U, Pt.locs, Pt.cells, Pt.slots] at X' e1 e2 h1 h2 h3 st hcl
    subst h1; subst h2; subst h3
    exact Or.inr ⟨q, (T.setVm vm₁).calling g' mk As.toArray, t, U', L, E, ce, hT, X', hL, e1, e2, hq, hce, hcv, vx_cls hW₁ hcl, st⟩
end
/-! ===== END ===== -/
/-! ===== BEGIN calls by an interface of methods that may throw (vx_callIF, vx_runF follow va_callIF, va_runF of this kit) ===== -/
section
variable {p : Program} {l : Launch} {e : Env} {R : Room} {s : State} {m : MethodId} {args : Array Value} {below : List Frame} {meth : Method} {c : Code} {H : Heap} {locs : List Loc} {cells slots : Nat} {Q : State → Prop}
variable {mc ms : Nat} {free : Addr → Prop} {A0 A1 : Nat → Prop} {H0 : Heap} {a : Array Value} {pc : Nat} {ls : Array Slot} {st0 rest : List Value}
def vx_Run5 (p : Program) (l : Launch) (e : Env) (R : Room) (s : State) (m : MethodId) (args : Array Value) (below : List Frame) (meth : Method) (c : Code) (H : Heap) (locs : List Loc) (cells slots mc ms : Nat) (g : JFrame) (rest : List Value) (Qa : State → Outcome → State → Prop) (XC : String → State → State → Prop) (free : Addr → Prop) : Prop :=
  ∀ T : State, T.heap = H → Stand p l e R s m args below meth c T locs cells slots →
    (∃ (v : Option Value) (st₀ t T' : State) (L : List Loc), st₀.heap = H ∧ Stand p l e R s m args below meth c T' (locs ++ L) (cells + mc) (slots + ms) ∧ (∀ q ∈ L, free q.base) ∧ T'.heap = t.heap ∧ T'.vm = t.vm ∧ Qa st₀ (.returned v) t ∧
      Goes p e below T g T' { g with pc := g.pc + 5, stack := v.toList ++ rest }) ∨
    (∃ (q : Addr) (st₀ t T' : State) (L : List Loc) (E : String) (ce : Cell), st₀.heap = H ∧ Stand p l e R s m args below meth c T' (locs ++ L) (cells + mc) (slots + ms) ∧ (∀ z ∈ L, free z.base) ∧ T'.heap = t.heap ∧ T'.vm = t.vm ∧ XC E st₀ t ∧ t.heap[q]? = some ce ∧ ce.vm = .none ∧ s.vm.findClass E = some ce.cls ∧
      Steps p.tables e below (T.setTop g) ((T'.setTop { g with stack := rest }).pushFrame (.throwing q)))
theorem vx_callIF {T : State} (X : Stand p l e R s m args below meth c T locs cells slots) (hexec : p.tables.exec = Jvm.exec) {own C : String} {index count : Nat} {x y : MethodName} {bytes : ByteArray} {maxL : Nat} {ret : Option FieldType}
    (hown : s.vm.findClass own = some m.cls) (hlink : (Cond.methodLink own index x).before args s = true) (hdecl : (Cond.declares x).before args s = true) (hface : (Cond.interfaceMethod x.cls x.cls x.name x.desc).before args s = true)
    (hsel : (Cond.selects C x y).before args s = true) (hinst : (Cond.instanceMethod y).before args s = true) (hpub : (Cond.publicMethod y).before args s = true) (hunh : (Cond.unhidden C x.name x.desc).before args s = true)
    (hcast : (Cond.castable C x.cls).before args s = true) (hcode : (Cond.code y bytes maxL ret).before args s = true) (hx : x.cls ≠ "java/lang/invoke/MethodHandle" ∧ x.cls ≠ "java/lang/invoke/VarHandle")
    {W9 : Nat} {Pre : Pt → Array Value → Prop} {Post : Pt → Array Value → Option Value → Pt → Prop} {PostX : Pt → Array Value → Addr → Pt → Prop} (hK : vx_Back l R p e below s args y 5 W9 Pre Post PostX)
    {b : Addr} {cellB : Cell} {kB : Class} (hcell : T.heap[b]? = some cellB) (hobj : cellB.vm.isStatics = false) (hcls : s.vm.findClass C = some cellB.cls) (hkB : s.vm.classes[cellB.cls]? = some kB)
    {g : JFrame} (hg : g.method = m) (hsize : g.locals.size = c.maxLocals) {argsL rest : List Value} (hlen : ∀ sig, parseMethodDescriptor x.desc = some sig → argsL.length = sig.parameters.length)
    (hstack : g.stack = argsL.reverse ++ .ref b :: rest) (hW : 2 * g.monitorRoom + (rest.map fun v => v.category).sum ≤ W9) (hdg : decode c.code g.pc = .ok (.invokeinterface index count, 5))
    (hpre : ∀ vm₁, s.WarmedH vm₁ → Pre ⟨T.setVm vm₁, locs, cells, slots⟩ (Value.ref b :: argsL).toArray) :
    (∃ (v : Option Value) (vm₁ : Vm) (B : Pt), s.WarmedH vm₁ ∧ Stand p l e R s m args below meth c B.U B.locs B.cells B.slots ∧ Post ⟨T.setVm vm₁, locs, cells, slots⟩ (Value.ref b :: argsL).toArray v B ∧
      ∀ target, Steps p.tables e below (B.U.setTop { g with pc := g.pc + 5, stack := v.toList ++ rest }) target → Steps p.tables e below (T.setTop g) target) ∨
    (∃ (q : Addr) (vm₁ : Vm) (B : Pt), s.WarmedH vm₁ ∧ Stand p l e R s m args below meth c B.U B.locs B.cells B.slots ∧ PostX ⟨T.setVm vm₁, locs, cells, slots⟩ (Value.ref b :: argsL).toArray q B ∧
      Steps p.tables e below (T.setTop g) ((B.U.setTop { g with stack := rest }).pushFrame (.throwing q))) := by
  obtain ⟨r0, r, hn, hrm, hstR, hsigR⟩ := Cond.declares_spec hdecl
  obtain ⟨cL, kL, r1, hcL, hkL, hiL, hfoundL, hn1⟩ := Cond.interfaceMethod_spec hface
  cases hn.symm.trans hn1
  have hr0cls : r0.cls = cL := Option.some.inj ((findClass_of_methodNamed hn).symm.trans hcL)
  obtain ⟨hnameR, hdescR⟩ := name_of_methodNamed hn hrm
  obtain ⟨mk, methM, hnamed, hmethM, -, habM⟩ := Cond.instanceMethod_spec hinst
  obtain ⟨c2, r2, m2, q1, q2, q3, q4, -⟩ := Cond.selects_spec hsel
  cases hcls.symm.trans q1
  cases hfoundL.symm.trans q2
  cases hnamed.symm.trans q3
  have hselP : selectMethod e.platform s.vm cellB.cls r0 = .method mk := by rw [Launch.admits_selectMethod X.admits]; exact q4
  have hpubM : hasFlag methM.accessFlags Acc.public_ = true := Cond.publicMethod_spec hnamed hmethM hpub
  have hway : ((cellB.cls :: s.vm.superclasses cellB.cls).any fun k => (declaredIn s.vm r.name r.desc k).any fun (_, z) => z.isPrivate || z.isStatic) = false := by
    rw [hnameR, hdescR]; exact Cond.unhidden_spec hcls hunh
  obtain ⟨c3, t3, w1, w2, w3⟩ := Cond.castable_spec hcast
  cases hcls.symm.trans w1
  cases hcL.symm.trans w2
  obtain ⟨vm₁, X₁, hstep₁⟩ := X.invokeinterface hexec hown hlink hn hrm hstR (by rw [hr0cls]; exact hkL) hiL hx (a := b) (cell := cellB) (kcell := kB) hcell
    (fun z h => by rw [h] at hobj; cases hobj) hkB (by rw [hr0cls]; exact w3) hselP hmethM hway hpubM habM (g := g) hg (argsL := argsL) (rest := rest) (hlen _ hsigR) hstack hdg
  rcases hK m meth c ⟨T.setVm vm₁, locs, cells, slots⟩ { g with stack := rest } (.invokeinterface index count) mk (Value.ref b :: argsL).toArray X₁ hg hsize hdg hW (X₁.named hnamed) (hpre vm₁ X₁.warmed) with ⟨v, B, X', hpost, hsteps⟩ | ⟨q, B, X', hpost, hsteps⟩
  · exact Or.inl ⟨v, vm₁, B, X₁.warmed, X', hpost, fun target h => hstep₁ _ fun acts => by rw [doInvoke_state]; exact hsteps.trans h⟩
  · exact Or.inr ⟨q, vm₁, B, X₁.warmed, X', hpost, hstep₁ _ fun acts => by rw [doInvoke_state]; exact hsteps⟩
theorem vx_runF {x y : MethodName} {bytes cc : ByteArray} {maxL nL mc ms n index count : Nat} {ret : Option FieldType} {ws : List Cond} {rm : Room} {Pc : Array Value → State → Prop} {Qc : Array Value → State → Outcome → State → Prop} {XC : String → State → State → Prop} {free : Addr → Prop} {Ts : List Cond} {own C : String} {cC : ClassId} {b : Addr} {As rest : List Value} {g : JFrame}
    (hat : ClassAt s C cC) (S : CallFix p m c cc nL s args Ts own) (hM : vx_Met l y ws rm Pc Qc XC mc ms free) (cw : va_CI R s args own C index x y bytes maxL ret ws rm mc ms n) (hp : PreV s H C b Pc As)
    (hg : g.method = m) (hn : As.length = n) (hsize : g.locals.size = nL) (hstack : g.stack = As.reverse ++ .ref b :: rest) (hW : 2 * g.monitorRoom + (rest.map fun v => v.category).sum ≤ 8) (hdg : decode cc g.pc = .ok (.invokeinterface index count, 5)) (hf : cells + mc ≤ R.cells ∧ slots + ms ≤ R.slots) :
    vx_Run5 p l e R s m args below meth c H locs cells slots mc ms g rest (Qc (Value.ref b :: As).toArray) XC free := by
  obtain ⟨hrc, hrs, hfr, hlo, hws, hcw⟩ := cw.back
  have hini := cw.init
  have hK : vx_Back l R p e below s args y 5 8 (PreOf R mc ms Pc) (PostOf Qc mc ms free) (vx_Post XC mc ms free) := vx_back (bytes := bytes) (maxL := maxL) (ret := ret) hM hp.1 hrc hrs hfr hlo hws hcw (fun a' U hW => word_at hW (Or.inl (by first | rfl | simp [Cond.onTables, Cond.keeps, Cond.steady])) hini)
  obtain ⟨hx, hb, hml, ho, -⟩ := S
  obtain ⟨-, ⟨cellB, hcB, hoB, hclB⟩, hPc⟩ := hp
  obtain ⟨hfc, kB, hkB, -⟩ := hat
  cases hfc.symm.trans hclB
  intro T hT X
  rcases vx_callIF X hx (C := C) (bytes := bytes) (maxL := maxL) (ret := ret) ho cw.link cw.decl cw.face cw.sel cw.inst cw.pub cw.unh cw.cast cw.code cw.notMH hK (by rw [hT]; exact hcB) hoB hclB hkB hg (hsize.trans hml.symm) (argsL := As) (rest := rest) (fun sig h => hn.trans (cw.len sig h)) hstack hW (by rw [hb]; exact hdg)
    (fun vm₁ hW₁ => ⟨hf.1, hf.2, hPc (T.setVm vm₁) hT hW₁⟩) with ⟨v, vm₁, ⟨U', l2, c2, s2⟩, hW₁, X', ⟨g', mk, t, L, e1, e2, hq, h1, hL, h2, h3⟩, st⟩ | ⟨q, vm₁, ⟨U', l2, c2, s2⟩, hW₁, X', ⟨g', mk, t, L, E, ce, e1, e2, hq, hce, hcv, hcl, h1, hL, h2, h3⟩, st⟩
  · dsimp only [Pt.U, Pt.locs, Pt.cells, Pt.slots] at X' e1 e2 h1 h2 h3 st
    subst h1; subst h2; subst h3
    exact Or.inl ⟨v, (T.setVm vm₁).calling g' mk (Value.ref b :: As).toArray, t, U', L, hT, X', hL, e1, e2, hq, st⟩
  · dsimp only [Pt.U, Pt.locs, Pt.cells, Pt.slots] at X' e1 e2 h1 h2 h3 st hcl
    subst h1; subst h2; subst h3
    exact Or.inr ⟨q, (T.setVm vm₁).calling g' mk (Value.ref b :: As).toArray, t, U', L, E, ce, hT, X', hL, e1, e2, hq, hce, hcv, vx_cls hW₁ hcl, st⟩
theorem vx_callFv {S SX : Type} {post : S → Prop} {px : SX → Prop} {B : S → State → Prop} {BX : String → SX → State → Prop} {AX : Nat → Prop} (hr : vx_Run5 p l e R s m args below meth c H locs cells slots mc ms (F0 m pc ls st0) rest (va_Qv post B A1 a) (vx_X px BX AX) free) (hS : va_S A0 H0 H locs) (hA : ∀ q, q < H.size → A1 q → A0 q) (hf : ∀ q, free q → A0 q) (hAX : ∀ q, q < H.size → AX q → A0 q)
    (kx : ∀ (E : String) (ce : Cell) (q9 : Addr) (u : SX) (t : State) (H1 : Heap) (locs1 : List Loc), t.heap = H1 → s.vm.Alike t.vm → px u → BX E u t → H.size ≤ H1.size → (∀ q : Nat, q < H.size → ¬ AX q → H1[q]? = H[q]?) → va_S A0 H0 H1 locs1 → H1[q9]? = some ce → ce.vm = .none → s.vm.findClass E = some ce.cls → vx_W p l e R s m args below meth c H1 locs1 (cells + mc) (slots + ms) Q (F0 m pc ls rest) q9)
    (kk : ∀ (u : S) (t : State) (H1 : Heap) (locs1 : List Loc), t.heap = H1 → s.vm.Alike t.vm → post u → B u t → H.size ≤ H1.size → (∀ q : Nat, q < H.size → ¬ A1 q → H1[q]? = H[q]?) → va_S A0 H0 H1 locs1 → W p l e R s m args below meth c H1 locs1 (cells + mc) (slots + ms) Q (F0 m (pc + 5) ls (rest))) : W p l e R s m args below meth c H locs cells slots Q (F0 m pc ls st0) := by
  intro T hT X
  rcases hr T hT X with ⟨v, st₀, t, T', L, h0, X', hL, e1, e2, ⟨⟨u, hv, hp, hb⟩, hF⟩, st⟩ | ⟨q, st₀, t, T', L, E, ce, h0, X', hL, e1, e2, ⟨u, hp, hb, hF⟩, hce, hcv, hcl, st⟩
  · cases hv
    obtain ⟨k1, k2, k3⟩ := vx_keep h0 e1 hS hA hf hL hF
    obtain ⟨t2, a1, b1⟩ := kk u t T'.heap (locs ++ L) e1.symm (by rw [← e2]; exact X'.warmed.alike) hp hb k1 k2 k3 T' rfl X'
    exact ⟨t2, st t2 a1, b1⟩
  · obtain ⟨k1, k2, k3⟩ := vx_keep h0 e1 hS hAX hf hL hF
    obtain ⟨t2, a1, b1⟩ := kx E ce q u t T'.heap (locs ++ L) e1.symm (by rw [← e2]; exact X'.warmed.alike) hp hb k1 k2 k3 (by rw [e1]; exact hce) hcv hcl T' rfl X'
    exact ⟨t2, st.trans a1, b1⟩
theorem vx_callFi {S SX : Type} {post : Int32 → S → Prop} {px : SX → Prop} {B : S → State → Prop} {BX : String → SX → State → Prop} {AX : Nat → Prop} (hr : vx_Run5 p l e R s m args below meth c H locs cells slots mc ms (F0 m pc ls st0) rest (va_Qi post B A1 a) (vx_X px BX AX) free) (hS : va_S A0 H0 H locs) (hA : ∀ q, q < H.size → A1 q → A0 q) (hf : ∀ q, free q → A0 q) (hAX : ∀ q, q < H.size → AX q → A0 q)
    (kx : ∀ (E : String) (ce : Cell) (q9 : Addr) (u : SX) (t : State) (H1 : Heap) (locs1 : List Loc), t.heap = H1 → s.vm.Alike t.vm → px u → BX E u t → H.size ≤ H1.size → (∀ q : Nat, q < H.size → ¬ AX q → H1[q]? = H[q]?) → va_S A0 H0 H1 locs1 → H1[q9]? = some ce → ce.vm = .none → s.vm.findClass E = some ce.cls → vx_W p l e R s m args below meth c H1 locs1 (cells + mc) (slots + ms) Q (F0 m pc ls rest) q9)
    (kk : ∀ (r : Int32) (u : S) (t : State) (H1 : Heap) (locs1 : List Loc), t.heap = H1 → s.vm.Alike t.vm → post r u → B u t → H.size ≤ H1.size → (∀ q : Nat, q < H.size → ¬ A1 q → H1[q]? = H[q]?) → va_S A0 H0 H1 locs1 → W p l e R s m args below meth c H1 locs1 (cells + mc) (slots + ms) Q (F0 m (pc + 5) ls (.int r :: rest))) : W p l e R s m args below meth c H locs cells slots Q (F0 m pc ls st0) := by
  intro T hT X
  rcases hr T hT X with ⟨v, st₀, t, T', L, h0, X', hL, e1, e2, ⟨⟨r, u, hv, hp, hb⟩, hF⟩, st⟩ | ⟨q, st₀, t, T', L, E, ce, h0, X', hL, e1, e2, ⟨u, hp, hb, hF⟩, hce, hcv, hcl, st⟩
  · cases hv
    obtain ⟨k1, k2, k3⟩ := vx_keep h0 e1 hS hA hf hL hF
    obtain ⟨t2, a1, b1⟩ := kk r u t T'.heap (locs ++ L) e1.symm (by rw [← e2]; exact X'.warmed.alike) hp hb k1 k2 k3 T' rfl X'
    exact ⟨t2, st t2 a1, b1⟩
  · obtain ⟨k1, k2, k3⟩ := vx_keep h0 e1 hS hAX hf hL hF
    obtain ⟨t2, a1, b1⟩ := kx E ce q u t T'.heap (locs ++ L) e1.symm (by rw [← e2]; exact X'.warmed.alike) hp hb k1 k2 k3 (by rw [e1]; exact hce) hcv hcl T' rfl X'
    exact ⟨t2, st.trans a1, b1⟩
theorem vx_callFl {S SX : Type} {post : Int64 → S → Prop} {px : SX → Prop} {B : S → State → Prop} {BX : String → SX → State → Prop} {AX : Nat → Prop} (hr : vx_Run5 p l e R s m args below meth c H locs cells slots mc ms (F0 m pc ls st0) rest (va_Ql post B A1 a) (vx_X px BX AX) free) (hS : va_S A0 H0 H locs) (hA : ∀ q, q < H.size → A1 q → A0 q) (hf : ∀ q, free q → A0 q) (hAX : ∀ q, q < H.size → AX q → A0 q)
    (kx : ∀ (E : String) (ce : Cell) (q9 : Addr) (u : SX) (t : State) (H1 : Heap) (locs1 : List Loc), t.heap = H1 → s.vm.Alike t.vm → px u → BX E u t → H.size ≤ H1.size → (∀ q : Nat, q < H.size → ¬ AX q → H1[q]? = H[q]?) → va_S A0 H0 H1 locs1 → H1[q9]? = some ce → ce.vm = .none → s.vm.findClass E = some ce.cls → vx_W p l e R s m args below meth c H1 locs1 (cells + mc) (slots + ms) Q (F0 m pc ls rest) q9)
    (kk : ∀ (r : Int64) (u : S) (t : State) (H1 : Heap) (locs1 : List Loc), t.heap = H1 → s.vm.Alike t.vm → post r u → B u t → H.size ≤ H1.size → (∀ q : Nat, q < H.size → ¬ A1 q → H1[q]? = H[q]?) → va_S A0 H0 H1 locs1 → W p l e R s m args below meth c H1 locs1 (cells + mc) (slots + ms) Q (F0 m (pc + 5) ls (.long r :: rest))) : W p l e R s m args below meth c H locs cells slots Q (F0 m pc ls st0) := by
  intro T hT X
  rcases hr T hT X with ⟨v, st₀, t, T', L, h0, X', hL, e1, e2, ⟨⟨r, u, hv, hp, hb⟩, hF⟩, st⟩ | ⟨q, st₀, t, T', L, E, ce, h0, X', hL, e1, e2, ⟨u, hp, hb, hF⟩, hce, hcv, hcl, st⟩
  · cases hv
    obtain ⟨k1, k2, k3⟩ := vx_keep h0 e1 hS hA hf hL hF
    obtain ⟨t2, a1, b1⟩ := kk r u t T'.heap (locs ++ L) e1.symm (by rw [← e2]; exact X'.warmed.alike) hp hb k1 k2 k3 T' rfl X'
    exact ⟨t2, st t2 a1, b1⟩
  · obtain ⟨k1, k2, k3⟩ := vx_keep h0 e1 hS hAX hf hL hF
    obtain ⟨t2, a1, b1⟩ := kx E ce q u t T'.heap (locs ++ L) e1.symm (by rw [← e2]; exact X'.warmed.alike) hp hb k1 k2 k3 (by rw [e1]; exact hce) hcv hcl T' rfl X'
    exact ⟨t2, st.trans a1, b1⟩
theorem vx_callFf {S SX : Type} {post : UInt32 → S → Prop} {px : SX → Prop} {B : S → State → Prop} {BX : String → SX → State → Prop} {AX : Nat → Prop} (hr : vx_Run5 p l e R s m args below meth c H locs cells slots mc ms (F0 m pc ls st0) rest (va_Qf post B A1 a) (vx_X px BX AX) free) (hS : va_S A0 H0 H locs) (hA : ∀ q, q < H.size → A1 q → A0 q) (hf : ∀ q, free q → A0 q) (hAX : ∀ q, q < H.size → AX q → A0 q)
    (kx : ∀ (E : String) (ce : Cell) (q9 : Addr) (u : SX) (t : State) (H1 : Heap) (locs1 : List Loc), t.heap = H1 → s.vm.Alike t.vm → px u → BX E u t → H.size ≤ H1.size → (∀ q : Nat, q < H.size → ¬ AX q → H1[q]? = H[q]?) → va_S A0 H0 H1 locs1 → H1[q9]? = some ce → ce.vm = .none → s.vm.findClass E = some ce.cls → vx_W p l e R s m args below meth c H1 locs1 (cells + mc) (slots + ms) Q (F0 m pc ls rest) q9)
    (kk : ∀ (r : UInt32) (u : S) (t : State) (H1 : Heap) (locs1 : List Loc), t.heap = H1 → s.vm.Alike t.vm → post r u → B u t → H.size ≤ H1.size → (∀ q : Nat, q < H.size → ¬ A1 q → H1[q]? = H[q]?) → va_S A0 H0 H1 locs1 → W p l e R s m args below meth c H1 locs1 (cells + mc) (slots + ms) Q (F0 m (pc + 5) ls (.float r :: rest))) : W p l e R s m args below meth c H locs cells slots Q (F0 m pc ls st0) := by
  intro T hT X
  rcases hr T hT X with ⟨v, st₀, t, T', L, h0, X', hL, e1, e2, ⟨⟨r, u, hv, hp, hb⟩, hF⟩, st⟩ | ⟨q, st₀, t, T', L, E, ce, h0, X', hL, e1, e2, ⟨u, hp, hb, hF⟩, hce, hcv, hcl, st⟩
  · cases hv
    obtain ⟨k1, k2, k3⟩ := vx_keep h0 e1 hS hA hf hL hF
    obtain ⟨t2, a1, b1⟩ := kk r u t T'.heap (locs ++ L) e1.symm (by rw [← e2]; exact X'.warmed.alike) hp hb k1 k2 k3 T' rfl X'
    exact ⟨t2, st t2 a1, b1⟩
  · obtain ⟨k1, k2, k3⟩ := vx_keep h0 e1 hS hAX hf hL hF
    obtain ⟨t2, a1, b1⟩ := kx E ce q u t T'.heap (locs ++ L) e1.symm (by rw [← e2]; exact X'.warmed.alike) hp hb k1 k2 k3 (by rw [e1]; exact hce) hcv hcl T' rfl X'
    exact ⟨t2, st.trans a1, b1⟩
theorem vx_callFd {S SX : Type} {post : UInt64 → S → Prop} {px : SX → Prop} {B : S → State → Prop} {BX : String → SX → State → Prop} {AX : Nat → Prop} (hr : vx_Run5 p l e R s m args below meth c H locs cells slots mc ms (F0 m pc ls st0) rest (va_Qd post B A1 a) (vx_X px BX AX) free) (hS : va_S A0 H0 H locs) (hA : ∀ q, q < H.size → A1 q → A0 q) (hf : ∀ q, free q → A0 q) (hAX : ∀ q, q < H.size → AX q → A0 q)
    (kx : ∀ (E : String) (ce : Cell) (q9 : Addr) (u : SX) (t : State) (H1 : Heap) (locs1 : List Loc), t.heap = H1 → s.vm.Alike t.vm → px u → BX E u t → H.size ≤ H1.size → (∀ q : Nat, q < H.size → ¬ AX q → H1[q]? = H[q]?) → va_S A0 H0 H1 locs1 → H1[q9]? = some ce → ce.vm = .none → s.vm.findClass E = some ce.cls → vx_W p l e R s m args below meth c H1 locs1 (cells + mc) (slots + ms) Q (F0 m pc ls rest) q9)
    (kk : ∀ (r : UInt64) (u : S) (t : State) (H1 : Heap) (locs1 : List Loc), t.heap = H1 → s.vm.Alike t.vm → post r u → B u t → H.size ≤ H1.size → (∀ q : Nat, q < H.size → ¬ A1 q → H1[q]? = H[q]?) → va_S A0 H0 H1 locs1 → W p l e R s m args below meth c H1 locs1 (cells + mc) (slots + ms) Q (F0 m (pc + 5) ls (.double r :: rest))) : W p l e R s m args below meth c H locs cells slots Q (F0 m pc ls st0) := by
  intro T hT X
  rcases hr T hT X with ⟨v, st₀, t, T', L, h0, X', hL, e1, e2, ⟨⟨r, u, hv, hp, hb⟩, hF⟩, st⟩ | ⟨q, st₀, t, T', L, E, ce, h0, X', hL, e1, e2, ⟨u, hp, hb, hF⟩, hce, hcv, hcl, st⟩
  · cases hv
    obtain ⟨k1, k2, k3⟩ := vx_keep h0 e1 hS hA hf hL hF
    obtain ⟨t2, a1, b1⟩ := kk r u t T'.heap (locs ++ L) e1.symm (by rw [← e2]; exact X'.warmed.alike) hp hb k1 k2 k3 T' rfl X'
    exact ⟨t2, st t2 a1, b1⟩
  · obtain ⟨k1, k2, k3⟩ := vx_keep h0 e1 hS hAX hf hL hF
    obtain ⟨t2, a1, b1⟩ := kx E ce q u t T'.heap (locs ++ L) e1.symm (by rw [← e2]; exact X'.warmed.alike) hp hb k1 k2 k3 (by rw [e1]; exact hce) hcv hcl T' rfl X'
    exact ⟨t2, st.trans a1, b1⟩
end
/-! ===== END ===== -/
/-! ===== BEGIN by an interface, a method with a table of its own that may throw (follows va_callIFW, va_runFW) ===== -/
section
variable {p : Program} {l : Launch} {e : Env} {R : Room} {s : State} {m : MethodId} {args : Array Value} {below : List Frame} {meth : Method} {c : Code} {H : Heap} {locs : List Loc} {cells slots : Nat}
theorem vx_callIFW {T : State} (X : Stand p l e R s m args below meth c T locs cells slots) (hexec : p.tables.exec = Jvm.exec) {own C : String} {index count : Nat} {x y : MethodName} {bytes : ByteArray} {maxL : Nat} {ret : Option FieldType} {hh : List (Nat × Nat × Nat × Nat)}
    (hown : s.vm.findClass own = some m.cls) (hlink : (Cond.methodLink own index x).before args s = true) (hdecl : (Cond.declares x).before args s = true) (hface : (Cond.interfaceMethod x.cls x.cls x.name x.desc).before args s = true)
    (hsel : (Cond.selects C x y).before args s = true) (hinst : (Cond.instanceMethod y).before args s = true) (hpub : (Cond.publicMethod y).before args s = true) (hunh : (Cond.unhidden C x.name x.desc).before args s = true)
    (hcast : (Cond.castable C x.cls).before args s = true) (hcode : (Cond.codeWith y bytes maxL ret hh).before args s = true) (hx : x.cls ≠ "java/lang/invoke/MethodHandle" ∧ x.cls ≠ "java/lang/invoke/VarHandle")
    {W : Nat} {Pre : Pt → Array Value → Prop} {Post : Pt → Array Value → Option Value → Pt → Prop} {PostX : Pt → Array Value → Addr → Pt → Prop} (hK : vx_Back l R p e below s args y 5 W Pre Post PostX)
    {b : Addr} {cellB : Cell} {kB : Class} (hcell : T.heap[b]? = some cellB) (hobj : cellB.vm.isStatics = false) (hcls : s.vm.findClass C = some cellB.cls) (hkB : s.vm.classes[cellB.cls]? = some kB)
    {g : JFrame} (hg : g.method = m) (hsize : g.locals.size = c.maxLocals) {argsL rest : List Value} (hlen : ∀ sig, parseMethodDescriptor x.desc = some sig → argsL.length = sig.parameters.length)
    (hstack : g.stack = argsL.reverse ++ .ref b :: rest) (hW : 2 * g.monitorRoom + (rest.map fun v => v.category).sum ≤ W) (hdg : decode c.code g.pc = .ok (.invokeinterface index count, 5))
    (hpre : ∀ vm₁, s.WarmedH vm₁ → Pre ⟨T.setVm vm₁, locs, cells, slots⟩ (Value.ref b :: argsL).toArray) :
    (∃ (v : Option Value) (vm₁ : Vm) (B : Pt), s.WarmedH vm₁ ∧ Stand p l e R s m args below meth c B.U B.locs B.cells B.slots ∧ Post ⟨T.setVm vm₁, locs, cells, slots⟩ (Value.ref b :: argsL).toArray v B ∧
      ∀ target, Steps p.tables e below (B.U.setTop { g with pc := g.pc + 5, stack := v.toList ++ rest }) target → Steps p.tables e below (T.setTop g) target) ∨
    (∃ (q : Addr) (vm₁ : Vm) (B : Pt), s.WarmedH vm₁ ∧ Stand p l e R s m args below meth c B.U B.locs B.cells B.slots ∧ PostX ⟨T.setVm vm₁, locs, cells, slots⟩ (Value.ref b :: argsL).toArray q B ∧
      Steps p.tables e below (T.setTop g) ((B.U.setTop { g with stack := rest }).pushFrame (.throwing q))) := by
  obtain ⟨r0, r, hn, hrm, hstR, hsigR⟩ := Cond.declares_spec hdecl
  obtain ⟨cL, kL, r1, hcL, hkL, hiL, hfoundL, hn1⟩ := Cond.interfaceMethod_spec hface
  cases hn.symm.trans hn1
  have hr0cls : r0.cls = cL := Option.some.inj ((findClass_of_methodNamed hn).symm.trans hcL)
  obtain ⟨hnameR, hdescR⟩ := name_of_methodNamed hn hrm
  obtain ⟨mk, methM, hnamed, hmethM, -, habM⟩ := Cond.instanceMethod_spec hinst
  obtain ⟨c2, r2, m2, q1, q2, q3, q4, -⟩ := Cond.selects_spec hsel
  cases hcls.symm.trans q1
  cases hfoundL.symm.trans q2
  cases hnamed.symm.trans q3
  have hselP : selectMethod e.platform s.vm cellB.cls r0 = .method mk := by rw [Launch.admits_selectMethod X.admits]; exact q4
  have hpubM : hasFlag methM.accessFlags Acc.public_ = true := Cond.publicMethod_spec hnamed hmethM hpub
  have hway : ((cellB.cls :: s.vm.superclasses cellB.cls).any fun k => (declaredIn s.vm r.name r.desc k).any fun (_, z) => z.isPrivate || z.isStatic) = false := by
    rw [hnameR, hdescR]; exact Cond.unhidden_spec hcls hunh
  obtain ⟨c3, t3, w1, w2, w3⟩ := Cond.castable_spec hcast
  cases hcls.symm.trans w1
  cases hcL.symm.trans w2
  obtain ⟨vm₁, X₁, hstep₁⟩ := X.invokeinterface hexec hown hlink hn hrm hstR (by rw [hr0cls]; exact hkL) hiL hx (a := b) (cell := cellB) (kcell := kB) hcell
    (fun z h => by rw [h] at hobj; cases hobj) hkB (by rw [hr0cls]; exact w3) hselP hmethM hway hpubM habM (g := g) hg (argsL := argsL) (rest := rest) (hlen _ hsigR) hstack hdg
  rcases hK m meth c ⟨T.setVm vm₁, locs, cells, slots⟩ { g with stack := rest } (.invokeinterface index count) mk (Value.ref b :: argsL).toArray X₁ hg hsize hdg hW (X₁.named hnamed) (hpre vm₁ X₁.warmed) with ⟨v, B, X', hpost, hsteps⟩ | ⟨q, B, X', hpost, hsteps⟩
  · exact Or.inl ⟨v, vm₁, B, X₁.warmed, X', hpost, fun target h => hstep₁ _ fun acts => by rw [doInvoke_state]; exact hsteps.trans h⟩
  · exact Or.inr ⟨q, vm₁, B, X₁.warmed, X', hpost, hstep₁ _ fun acts => by rw [doInvoke_state]; exact hsteps⟩
theorem vx_runFW {x y : MethodName} {bytes cc : ByteArray} {maxL nL mc ms n index count : Nat} {ret : Option FieldType} {hh : List (Nat × Nat × Nat × Nat)} {ws : List Cond} {rm : Room} {Pc : Array Value → State → Prop} {Qc : Array Value → State → Outcome → State → Prop} {XC : String → State → State → Prop} {free : Addr → Prop} {Ts : List Cond} {own C : String} {cC : ClassId} {b : Addr} {As rest : List Value} {g : JFrame}
    (hat : ClassAt s C cC) (S : CallFix p m c cc nL s args Ts own) (hM : vx_Met l y ws rm Pc Qc XC mc ms free) (cw : va_CIW R s args own C index x y bytes maxL ret hh ws rm mc ms n) (hp : PreV s H C b Pc As)
    (hg : g.method = m) (hn : As.length = n) (hsize : g.locals.size = nL) (hstack : g.stack = As.reverse ++ .ref b :: rest) (hW : 2 * g.monitorRoom + (rest.map fun v => v.category).sum ≤ 8) (hdg : decode cc g.pc = .ok (.invokeinterface index count, 5)) (hf : cells + mc ≤ R.cells ∧ slots + ms ≤ R.slots) :
    vx_Run5 p l e R s m args below meth c H locs cells slots mc ms g rest (Qc (Value.ref b :: As).toArray) XC free := by
  obtain ⟨hrc, hrs, hfr, hlo, hws, hcw⟩ := cw.back
  have hini := cw.init
  have hK : vx_Back l R p e below s args y 5 8 (PreOf R mc ms Pc) (PostOf Qc mc ms free) (vx_Post XC mc ms free) := vx_backW (hh := hh) (bytes := bytes) (maxL := maxL) (ret := ret) hM hp.1 hrc hrs hfr hlo hws hcw (fun a' U hW => word_at hW (Or.inl (by first | rfl | simp [Cond.onTables, Cond.keeps, Cond.steady])) hini)
  obtain ⟨hx, hb, hml, ho, -⟩ := S
  obtain ⟨-, ⟨cellB, hcB, hoB, hclB⟩, hPc⟩ := hp
  obtain ⟨hfc, kB, hkB, -⟩ := hat
  cases hfc.symm.trans hclB
  intro T hT X
  rcases vx_callIFW X hx (C := C) (hh := hh) (bytes := bytes) (maxL := maxL) (ret := ret) ho cw.link cw.decl cw.face cw.sel cw.inst cw.pub cw.unh cw.cast cw.code cw.notMH hK (by rw [hT]; exact hcB) hoB hclB hkB hg (hsize.trans hml.symm) (argsL := As) (rest := rest) (fun sig h => hn.trans (cw.len sig h)) hstack hW (by rw [hb]; exact hdg)
    (fun vm₁ hW₁ => ⟨hf.1, hf.2, hPc (T.setVm vm₁) hT hW₁⟩) with ⟨v, vm₁, ⟨U', l2, c2, s2⟩, hW₁, X', ⟨g', mk, t, L, e1, e2, hq, h1, hL, h2, h3⟩, st⟩ | ⟨q, vm₁, ⟨U', l2, c2, s2⟩, hW₁, X', ⟨g', mk, t, L, E, ce, e1, e2, hq, hce, hcv, hcl, h1, hL, h2, h3⟩, st⟩
  · dsimp only [Pt.U, Pt.locs, Pt.cells, Pt.slots] at X' e1 e2 h1 h2 h3 st
    subst h1; subst h2; subst h3
    exact Or.inl ⟨v, (T.setVm vm₁).calling g' mk (Value.ref b :: As).toArray, t, U', L, hT, X', hL, e1, e2, hq, st⟩
  · dsimp only [Pt.U, Pt.locs, Pt.cells, Pt.slots] at X' e1 e2 h1 h2 h3 st hcl
    subst h1; subst h2; subst h3
    exact Or.inr ⟨q, (T.setVm vm₁).calling g' mk (Value.ref b :: As).toArray, t, U', L, E, ce, hT, X', hL, e1, e2, hq, hce, hcv, vx_cls hW₁ hcl, st⟩
end
/-! ===== END ===== -/
/-! ===== BEGIN .. of methods that hand back an object of the pool ===== -/
section
variable {p : Program} {l : Launch} {e : Env} {R : Room} {s : State} {m : MethodId} {args : Array Value} {below : List Frame} {meth : Method} {c : Code} {H : Heap} {locs : List Loc} {cells slots : Nat} {Q : State → Prop}
variable {mc ms : Nat} {free : Addr → Prop} {A0 A1 : Nat → Prop} {H0 : Heap} {a : Array Value} {pc : Nat} {ls : Array Slot} {st0 rest : List Value}
theorem vx_callq {S SX : Type} {post : Option Nat → S → Prop} {px : SX → Prop} {B : S → State → Prop} {BX : String → SX → State → Prop} {AX : Nat → Prop} (hr : vx_Run p l e R s m args below meth c H locs cells slots mc ms (F0 m pc ls st0) rest (va_Qq post B A1 a) (vx_X px BX AX) free) (hS : va_S A0 H0 H locs) (hA : ∀ q, q < H.size → A1 q → A0 q) (hf : ∀ q, free q → A0 q) (hAX : ∀ q, q < H.size → AX q → A0 q)
    (kx : ∀ (E : String) (ce : Cell) (q9 : Addr) (u : SX) (t : State) (H1 : Heap) (locs1 : List Loc), t.heap = H1 → s.vm.Alike t.vm → px u → BX E u t → H.size ≤ H1.size → (∀ q : Nat, q < H.size → ¬ AX q → H1[q]? = H[q]?) → va_S A0 H0 H1 locs1 → H1[q9]? = some ce → ce.vm = .none → s.vm.findClass E = some ce.cls → vx_W p l e R s m args below meth c H1 locs1 (cells + mc) (slots + ms) Q (F0 m pc ls rest) q9)
    (kk : ∀ (r : Option Nat) (u : S) (t : State) (H1 : Heap) (locs1 : List Loc), t.heap = H1 → s.vm.Alike t.vm → post r u → B u t → H.size ≤ H1.size → (∀ q : Nat, q < H.size → ¬ A1 q → H1[q]? = H[q]?) → va_S A0 H0 H1 locs1 → W p l e R s m args below meth c H1 locs1 (cells + mc) (slots + ms) Q (F0 m (pc + 3) ls (va_rf r :: rest))) : W p l e R s m args below meth c H locs cells slots Q (F0 m pc ls st0) := by
  intro T hT X
  rcases hr T hT X with ⟨v, st₀, t, T', L, h0, X', hL, e1, e2, ⟨⟨r, u, hv, hp, hb⟩, hF⟩, st⟩ | ⟨q, st₀, t, T', L, E, ce, h0, X', hL, e1, e2, ⟨u, hp, hb, hF⟩, hce, hcv, hcl, st⟩
  · cases hv
    obtain ⟨k1, k2, k3⟩ := vx_keep h0 e1 hS hA hf hL hF
    obtain ⟨t2, a1, b1⟩ := kk r u t T'.heap (locs ++ L) e1.symm (by rw [← e2]; exact X'.warmed.alike) hp hb k1 k2 k3 T' rfl X'
    exact ⟨t2, st t2 a1, b1⟩
  · obtain ⟨k1, k2, k3⟩ := vx_keep h0 e1 hS hAX hf hL hF
    obtain ⟨t2, a1, b1⟩ := kx E ce q u t T'.heap (locs ++ L) e1.symm (by rw [← e2]; exact X'.warmed.alike) hp hb k1 k2 k3 (by rw [e1]; exact hce) hcv hcl T' rfl X'
    exact ⟨t2, st.trans a1, b1⟩
end
/-! ===== END ===== -/
/-! ===== BEGIN .. a constant ===== -/
section
variable {p : Program} {l : Launch} {e : Env} {R : Room} {s : State} {m : MethodId} {args : Array Value} {below : List Frame} {meth : Method} {c : Code} {H : Heap} {locs : List Loc} {cells slots : Nat} {Q : State → Prop}
variable {mc ms : Nat} {free : Addr → Prop} {A0 A1 : Nat → Prop} {H0 : Heap} {a : Array Value} {pc : Nat} {ls : Array Slot} {st0 rest : List Value}
theorem vx_calle {ad : Nat → Nat} {S SX : Type} {post : Option Nat → S → Prop} {px : SX → Prop} {B : S → State → Prop} {BX : String → SX → State → Prop} {AX : Nat → Prop} (hr : vx_Run p l e R s m args below meth c H locs cells slots mc ms (F0 m pc ls st0) rest (va_Qe ad post B A1 a) (vx_X px BX AX) free) (hS : va_S A0 H0 H locs) (hA : ∀ q, q < H.size → A1 q → A0 q) (hf : ∀ q, free q → A0 q) (hAX : ∀ q, q < H.size → AX q → A0 q)
    (kx : ∀ (E : String) (ce : Cell) (q9 : Addr) (u : SX) (t : State) (H1 : Heap) (locs1 : List Loc), t.heap = H1 → s.vm.Alike t.vm → px u → BX E u t → H.size ≤ H1.size → (∀ q : Nat, q < H.size → ¬ AX q → H1[q]? = H[q]?) → va_S A0 H0 H1 locs1 → H1[q9]? = some ce → ce.vm = .none → s.vm.findClass E = some ce.cls → vx_W p l e R s m args below meth c H1 locs1 (cells + mc) (slots + ms) Q (F0 m pc ls rest) q9)
    (kk : ∀ (r : Option Nat) (u : S) (t : State) (H1 : Heap) (locs1 : List Loc), t.heap = H1 → s.vm.Alike t.vm → post r u → B u t → H.size ≤ H1.size → (∀ q : Nat, q < H.size → ¬ A1 q → H1[q]? = H[q]?) → va_S A0 H0 H1 locs1 → W p l e R s m args below meth c H1 locs1 (cells + mc) (slots + ms) Q (F0 m (pc + 3) ls (va_re ad r :: rest))) : W p l e R s m args below meth c H locs cells slots Q (F0 m pc ls st0) := by
  intro T hT X
  rcases hr T hT X with ⟨v, st₀, t, T', L, h0, X', hL, e1, e2, ⟨⟨r, u, hv, hp, hb⟩, hF⟩, st⟩ | ⟨q, st₀, t, T', L, E, ce, h0, X', hL, e1, e2, ⟨u, hp, hb, hF⟩, hce, hcv, hcl, st⟩
  · cases hv
    obtain ⟨k1, k2, k3⟩ := vx_keep h0 e1 hS hA hf hL hF
    obtain ⟨t2, a1, b1⟩ := kk r u t T'.heap (locs ++ L) e1.symm (by rw [← e2]; exact X'.warmed.alike) hp hb k1 k2 k3 T' rfl X'
    exact ⟨t2, st t2 a1, b1⟩
  · obtain ⟨k1, k2, k3⟩ := vx_keep h0 e1 hS hAX hf hL hF
    obtain ⟨t2, a1, b1⟩ := kx E ce q u t T'.heap (locs ++ L) e1.symm (by rw [← e2]; exact X'.warmed.alike) hp hb k1 k2 k3 (by rw [e1]; exact hce) hcv hcl T' rfl X'
    exact ⟨t2, st.trans a1, b1⟩
end
/-! ===== END ===== -/
/-! ===== BEGIN .. by an interface, an object ===== -/
section
variable {p : Program} {l : Launch} {e : Env} {R : Room} {s : State} {m : MethodId} {args : Array Value} {below : List Frame} {meth : Method} {c : Code} {H : Heap} {locs : List Loc} {cells slots : Nat} {Q : State → Prop}
variable {mc ms : Nat} {free : Addr → Prop} {A0 A1 : Nat → Prop} {H0 : Heap} {a : Array Value} {pc : Nat} {ls : Array Slot} {st0 rest : List Value}
theorem vx_callFq {S SX : Type} {post : Option Nat → S → Prop} {px : SX → Prop} {B : S → State → Prop} {BX : String → SX → State → Prop} {AX : Nat → Prop} (hr : vx_Run5 p l e R s m args below meth c H locs cells slots mc ms (F0 m pc ls st0) rest (va_Qq post B A1 a) (vx_X px BX AX) free) (hS : va_S A0 H0 H locs) (hA : ∀ q, q < H.size → A1 q → A0 q) (hf : ∀ q, free q → A0 q) (hAX : ∀ q, q < H.size → AX q → A0 q)
    (kx : ∀ (E : String) (ce : Cell) (q9 : Addr) (u : SX) (t : State) (H1 : Heap) (locs1 : List Loc), t.heap = H1 → s.vm.Alike t.vm → px u → BX E u t → H.size ≤ H1.size → (∀ q : Nat, q < H.size → ¬ AX q → H1[q]? = H[q]?) → va_S A0 H0 H1 locs1 → H1[q9]? = some ce → ce.vm = .none → s.vm.findClass E = some ce.cls → vx_W p l e R s m args below meth c H1 locs1 (cells + mc) (slots + ms) Q (F0 m pc ls rest) q9)
    (kk : ∀ (r : Option Nat) (u : S) (t : State) (H1 : Heap) (locs1 : List Loc), t.heap = H1 → s.vm.Alike t.vm → post r u → B u t → H.size ≤ H1.size → (∀ q : Nat, q < H.size → ¬ A1 q → H1[q]? = H[q]?) → va_S A0 H0 H1 locs1 → W p l e R s m args below meth c H1 locs1 (cells + mc) (slots + ms) Q (F0 m (pc + 5) ls (va_rf r :: rest))) : W p l e R s m args below meth c H locs cells slots Q (F0 m pc ls st0) := by
  intro T hT X
  rcases hr T hT X with ⟨v, st₀, t, T', L, h0, X', hL, e1, e2, ⟨⟨r, u, hv, hp, hb⟩, hF⟩, st⟩ | ⟨q, st₀, t, T', L, E, ce, h0, X', hL, e1, e2, ⟨u, hp, hb, hF⟩, hce, hcv, hcl, st⟩
  · cases hv
    obtain ⟨k1, k2, k3⟩ := vx_keep h0 e1 hS hA hf hL hF
    obtain ⟨t2, a1, b1⟩ := kk r u t T'.heap (locs ++ L) e1.symm (by rw [← e2]; exact X'.warmed.alike) hp hb k1 k2 k3 T' rfl X'
    exact ⟨t2, st t2 a1, b1⟩
  · obtain ⟨k1, k2, k3⟩ := vx_keep h0 e1 hS hAX hf hL hF
    obtain ⟨t2, a1, b1⟩ := kx E ce q u t T'.heap (locs ++ L) e1.symm (by rw [← e2]; exact X'.warmed.alike) hp hb k1 k2 k3 (by rw [e1]; exact hce) hcv hcl T' rfl X'
    exact ⟨t2, st.trans a1, b1⟩
end
/-! ===== END ===== -/
/-! ===== BEGIN .. by an interface, a constant ===== -/
section
variable {p : Program} {l : Launch} {e : Env} {R : Room} {s : State} {m : MethodId} {args : Array Value} {below : List Frame} {meth : Method} {c : Code} {H : Heap} {locs : List Loc} {cells slots : Nat} {Q : State → Prop}
variable {mc ms : Nat} {free : Addr → Prop} {A0 A1 : Nat → Prop} {H0 : Heap} {a : Array Value} {pc : Nat} {ls : Array Slot} {st0 rest : List Value}
theorem vx_callFe {ad : Nat → Nat} {S SX : Type} {post : Option Nat → S → Prop} {px : SX → Prop} {B : S → State → Prop} {BX : String → SX → State → Prop} {AX : Nat → Prop} (hr : vx_Run5 p l e R s m args below meth c H locs cells slots mc ms (F0 m pc ls st0) rest (va_Qe ad post B A1 a) (vx_X px BX AX) free) (hS : va_S A0 H0 H locs) (hA : ∀ q, q < H.size → A1 q → A0 q) (hf : ∀ q, free q → A0 q) (hAX : ∀ q, q < H.size → AX q → A0 q)
    (kx : ∀ (E : String) (ce : Cell) (q9 : Addr) (u : SX) (t : State) (H1 : Heap) (locs1 : List Loc), t.heap = H1 → s.vm.Alike t.vm → px u → BX E u t → H.size ≤ H1.size → (∀ q : Nat, q < H.size → ¬ AX q → H1[q]? = H[q]?) → va_S A0 H0 H1 locs1 → H1[q9]? = some ce → ce.vm = .none → s.vm.findClass E = some ce.cls → vx_W p l e R s m args below meth c H1 locs1 (cells + mc) (slots + ms) Q (F0 m pc ls rest) q9)
    (kk : ∀ (r : Option Nat) (u : S) (t : State) (H1 : Heap) (locs1 : List Loc), t.heap = H1 → s.vm.Alike t.vm → post r u → B u t → H.size ≤ H1.size → (∀ q : Nat, q < H.size → ¬ A1 q → H1[q]? = H[q]?) → va_S A0 H0 H1 locs1 → W p l e R s m args below meth c H1 locs1 (cells + mc) (slots + ms) Q (F0 m (pc + 5) ls (va_re ad r :: rest))) : W p l e R s m args below meth c H locs cells slots Q (F0 m pc ls st0) := by
  intro T hT X
  rcases hr T hT X with ⟨v, st₀, t, T', L, h0, X', hL, e1, e2, ⟨⟨r, u, hv, hp, hb⟩, hF⟩, st⟩ | ⟨q, st₀, t, T', L, E, ce, h0, X', hL, e1, e2, ⟨u, hp, hb, hF⟩, hce, hcv, hcl, st⟩
  · cases hv
    obtain ⟨k1, k2, k3⟩ := vx_keep h0 e1 hS hA hf hL hF
    obtain ⟨t2, a1, b1⟩ := kk r u t T'.heap (locs ++ L) e1.symm (by rw [← e2]; exact X'.warmed.alike) hp hb k1 k2 k3 T' rfl X'
    exact ⟨t2, st t2 a1, b1⟩
  · obtain ⟨k1, k2, k3⟩ := vx_keep h0 e1 hS hAX hf hL hF
    obtain ⟨t2, a1, b1⟩ := kx E ce q u t T'.heap (locs ++ L) e1.symm (by rw [← e2]; exact X'.warmed.alike) hp hb k1 k2 k3 (by rw [e1]; exact hce) hcv hcl T' rfl X'
    exact ⟨t2, st.trans a1, b1⟩
end
/-! ===== END ===== -/
/-! ===== BEGIN what the machine throws by itself: null at a field, at athrow ===== -/
section VXM2
variable {p : Program} {l : Launch} {e : Env} {R : Room} {s : State} {m : MethodId} {args : Array Value} {below : List Frame} {meth : Method} {c : Code} {H : Heap} {locs : List Loc} {cells slots : Nat}
variable {Q : State → Prop} {cc : ByteArray} {pc : Nat} {ls : Array Slot} {rest : List Value}
theorem vx_getfN {D cl tys} {own ref C : String} {T : u_T} {N ci index : Nat} {Ts : List Cond} (hexec : p.tables.exec = Jvm.exec) (hb : c.code = cc) (hts : ∀ w ∈ Ts, w.before args s = true) (hin : ∀ w ∈ u_ws C T N, w ∈ Ts) (hown : s.vm.findClass own = some m.cls) (hK : va_K D cl tys s) (hc : cl[ci]? = some (C, T, N)) (k : Nat) (hk : k < N) (hlink : (Cond.fieldLink own index ref (T k).2.1 (T k).2.2.1).before args s = true) (hsame : ∀ x, s.fieldFound? (T k).1 (T k).2.1 (T k).2.2.1 = some x → s.fieldFound? ref (T k).2.1 (T k).2.2.1 = some x) (hdg : decode cc pc = .ok (.getfield index, 3)) (kk : vx_NoteN p l e R s m args below meth c H locs cells slots Q (F0 m pc ls rest)) : W p l e R s m args below meth c H locs cells slots Q (F0 m pc ls (.null :: rest)) := by
  obtain ⟨hS, hfc, kC, hkC, -⟩ := hK.1 ci _ hc
  obtain ⟨cf, kf, fi, f, hi, -⟩ := hS k hk
  intro U hU X
  obtain ⟨vm', X1, st1⟩ := X.getfieldNull hexec hown hlink (hsame _ hi) (u_facts hfc hkC (u_lays hts hin hk) hi).1 (g := F0 m pc ls (.null :: rest)) rfl (rest := rest) rfl (by rw [hb]; exact hdg)
  obtain ⟨t, st, q⟩ := kk (U.setVm vm') hU X1
  exact ⟨t, st1 t st, q⟩
theorem vx_getfNN {D cl tys} {own ref C host : String} {T : u_T} {N ci index : Nat} {Ts : List Cond} (hexec : p.tables.exec = Jvm.exec) (hb : c.code = cc) (hts : ∀ w ∈ Ts, w.before args s = true) (hin : ∀ w ∈ u_ws C T N, w ∈ Ts) (hown : s.vm.findClass own = some m.cls) (hK : va_K D cl tys s) (hc : cl[ci]? = some (C, T, N)) (k : Nat) (hk : k < N) (hlink : (Cond.fieldLinkNest own index ref (T k).2.1 (T k).2.2.1 host).before args s = true) (hsame : ∀ x, s.fieldFound? (T k).1 (T k).2.1 (T k).2.2.1 = some x → s.fieldFound? ref (T k).2.1 (T k).2.2.1 = some x) (hdg : decode cc pc = .ok (.getfield index, 3)) (kk : vx_NoteN p l e R s m args below meth c H locs cells slots Q (F0 m pc ls rest)) : W p l e R s m args below meth c H locs cells slots Q (F0 m pc ls (.null :: rest)) := by
  obtain ⟨hS, hfc, kC, hkC, -⟩ := hK.1 ci _ hc
  obtain ⟨cf, kf, fi, f, hi, -⟩ := hS k hk
  intro U hU X
  obtain ⟨vm', X1, st1⟩ := X.getfieldNullNest hexec hown hlink (hsame _ hi) (u_facts hfc hkC (u_lays hts hin hk) hi).1 (g := F0 m pc ls (.null :: rest)) rfl (rest := rest) rfl (by rw [hb]; exact hdg)
  obtain ⟨t, st, q⟩ := kk (U.setVm vm') hU X1
  exact ⟨t, st1 t st, q⟩
theorem vx_putfN {D cl tys} {own ref C : String} {T : u_T} {N ci index : Nat} {Ts : List Cond} (hexec : p.tables.exec = Jvm.exec) (hb : c.code = cc) (hts : ∀ w ∈ Ts, w.before args s = true) (hin : ∀ w ∈ u_ws C T N, w ∈ Ts) (hown : s.vm.findClass own = some m.cls) (hK : va_K D cl tys s) (hc : cl[ci]? = some (C, T, N)) (k : Nat) (hk : k < N) (hlink : (Cond.fieldLink own index ref (T k).2.1 (T k).2.2.1).before args s = true) (hsame : ∀ x, s.fieldFound? (T k).1 (T k).2.1 (T k).2.2.1 = some x → s.fieldFound? ref (T k).2.1 (T k).2.2.1 = some x) (hfin : (T k).2.2.2 = false) {v : Value} (hdg : decode cc pc = .ok (.putfield index, 3)) (kk : vx_NoteN p l e R s m args below meth c H locs cells slots Q (F0 m pc ls rest)) : W p l e R s m args below meth c H locs cells slots Q (F0 m pc ls (v :: .null :: rest)) := by
  obtain ⟨hS, hfc, kC, hkC, -⟩ := hK.1 ci _ hc
  obtain ⟨cf, kf, fi, f, hi, -⟩ := hS k hk
  have hlay := hts _ (hin _ (u_in_lay hk))
  unfold u_lay at hlay
  rw [if_neg (by rw [hfin]; decide)] at hlay
  obtain ⟨c9, k9, cf9, kf9, fi9, f9, -, -, hi9, hst9, hnf9, -⟩ := Cond.lays_spec hlay
  cases hi.symm.trans hi9
  intro U hU X
  obtain ⟨vm', X1, st1⟩ := X.putfieldNull hexec hown hlink (hsame _ hi) hst9 hnf9 (g := F0 m pc ls (v :: .null :: rest)) rfl (v := v) (rest := rest) rfl (by rw [hb]; exact hdg)
  obtain ⟨t, st, q⟩ := kk (U.setVm vm') hU X1
  exact ⟨t, st1 t st, q⟩
theorem vx_putfNN {D cl tys} {own ref C host : String} {T : u_T} {N ci index : Nat} {Ts : List Cond} (hexec : p.tables.exec = Jvm.exec) (hb : c.code = cc) (hts : ∀ w ∈ Ts, w.before args s = true) (hin : ∀ w ∈ u_ws C T N, w ∈ Ts) (hown : s.vm.findClass own = some m.cls) (hK : va_K D cl tys s) (hc : cl[ci]? = some (C, T, N)) (k : Nat) (hk : k < N) (hlink : (Cond.fieldLinkNest own index ref (T k).2.1 (T k).2.2.1 host).before args s = true) (hsame : ∀ x, s.fieldFound? (T k).1 (T k).2.1 (T k).2.2.1 = some x → s.fieldFound? ref (T k).2.1 (T k).2.2.1 = some x) (hfin : (T k).2.2.2 = false) {v : Value} (hdg : decode cc pc = .ok (.putfield index, 3)) (kk : vx_NoteN p l e R s m args below meth c H locs cells slots Q (F0 m pc ls rest)) : W p l e R s m args below meth c H locs cells slots Q (F0 m pc ls (v :: .null :: rest)) := by
  obtain ⟨hS, hfc, kC, hkC, -⟩ := hK.1 ci _ hc
  obtain ⟨cf, kf, fi, f, hi, -⟩ := hS k hk
  have hlay := hts _ (hin _ (u_in_lay hk))
  unfold u_lay at hlay
  rw [if_neg (by rw [hfin]; decide)] at hlay
  obtain ⟨c9, k9, cf9, kf9, fi9, f9, -, -, hi9, hst9, hnf9, -⟩ := Cond.lays_spec hlay
  cases hi.symm.trans hi9
  intro U hU X
  obtain ⟨vm', X1, st1⟩ := X.putfieldNullNest hexec hown hlink (hsame _ hi) hst9 hnf9 (g := F0 m pc ls (v :: .null :: rest)) rfl (v := v) (rest := rest) rfl (by rw [hb]; exact hdg)
  obtain ⟨t, st, q⟩ := kk (U.setVm vm') hU X1
  exact ⟨t, st1 t st, q⟩
theorem vx_athrowN (hexec : p.tables.exec = Jvm.exec) (hb : c.code = cc) (hdg : decode cc pc = .ok (.athrow, 1)) (k : vx_NoteN p l e R s m args below meth c H locs cells slots Q (F0 m pc ls rest)) : W p l e R s m args below meth c H locs cells slots Q (F0 m pc ls (.null :: rest)) := by
  intro T hT X
  obtain ⟨t, st, q⟩ := k T hT X
  exact ⟨t, X.athrowNull hexec (g := F0 m pc ls (.null :: rest)) rfl (rest := rest) rfl (by rw [hb]; exact hdg) t st, q⟩
end VXM2
/-! ===== END ===== -/

-- ===== PART A: goes FIRST, ahead of the names: the tables' words, and 'selects' of the private methods out of them =====
/-- a private method of a class that the tables say can be made, by its rows of tables_1 -/
def lw_okq (q : MethodName × Nat) : Prop := (q.1.cls ≠ "java/lang/invoke/MethodHandle" ∧ q.1.cls ≠ "java/lang/invoke/VarHandle") ∧ Cond.instantiable q.1.cls q.2 ∈ tables_1 ∧ Cond.privateMethod q.1 ∈ tables_1 ∧ Cond.instanceMethod q.1 ∈ tables_1
theorem lw_p0 : lw_okq (⟨"Scrubward$Code", "makeDataColumns", "()V"⟩, 5) := ⟨⟨by decide +kernel, by decide +kernel⟩, List.mem_of_getElem? (i := 40) (by decide +kernel), List.mem_of_getElem? (i := 200) (by decide +kernel), List.mem_of_getElem? (i := 201) (by decide +kernel)⟩
theorem lw_p1 : lw_okq (⟨"Scrubward$Memory", "asStuck", "(II)I"⟩, 12) := ⟨⟨by decide +kernel, by decide +kernel⟩, List.mem_of_getElem? (i := 77) (by decide +kernel), List.mem_of_getElem? (i := 242) (by decide +kernel), List.mem_of_getElem? (i := 243) (by decide +kernel)⟩
theorem lw_p2 : lw_okq (⟨"Scrubward", "rowsHaveOwnLines", "()Z"⟩, 12) := ⟨⟨by decide +kernel, by decide +kernel⟩, List.mem_of_getElem? (i := 32) (by decide +kernel), List.mem_of_getElem? (i := 313) (by decide +kernel), List.mem_of_getElem? (i := 314) (by decide +kernel)⟩
theorem lw_p3 : lw_okq (⟨"Scrubward", "rowOn", "(II)I"⟩, 12) := ⟨⟨by decide +kernel, by decide +kernel⟩, List.mem_of_getElem? (i := 32) (by decide +kernel), List.mem_of_getElem? (i := 318) (by decide +kernel), List.mem_of_getElem? (i := 319) (by decide +kernel)⟩
theorem lw_p4 : lw_okq (⟨"java/lang/Throwable", "fillInStackTrace", "(I)Ljava/lang/Throwable;"⟩, 6) := ⟨⟨by decide +kernel, by decide +kernel⟩, List.mem_of_getElem? (i := 373) (by decide +kernel), List.mem_of_getElem? (i := 371) (by decide +kernel), List.mem_of_getElem? (i := 372) (by decide +kernel)⟩
theorem lw_p5 : lw_okq (⟨"Scrubward$Code", "oneIfMended", "(I)I"⟩, 5) := ⟨⟨by decide +kernel, by decide +kernel⟩, List.mem_of_getElem? (i := 40) (by decide +kernel), List.mem_of_getElem? (i := 440) (by decide +kernel), List.mem_of_getElem? (i := 441) (by decide +kernel)⟩
theorem lw_p6 : lw_okq (⟨"Scrubward$Code", "thirdBits", "(II)I"⟩, 5) := ⟨⟨by decide +kernel, by decide +kernel⟩, List.mem_of_getElem? (i := 40) (by decide +kernel), List.mem_of_getElem? (i := 444) (by decide +kernel), List.mem_of_getElem? (i := 445) (by decide +kernel)⟩
theorem lw_p7 : lw_okq (⟨"Scrubward", "mixBank", "(JI)J"⟩, 12) := ⟨⟨by decide +kernel, by decide +kernel⟩, List.mem_of_getElem? (i := 32) (by decide +kernel), List.mem_of_getElem? (i := 448) (by decide +kernel), List.mem_of_getElem? (i := 449) (by decide +kernel)⟩
theorem lw_p8 : lw_okq (⟨"Scrubward$Log", "guiltyCell", "(I)I"⟩, 6) := ⟨⟨by decide +kernel, by decide +kernel⟩, List.mem_of_getElem? (i := 157) (by decide +kernel), List.mem_of_getElem? (i := 464) (by decide +kernel), List.mem_of_getElem? (i := 465) (by decide +kernel)⟩
theorem lw_p9 : lw_okq (⟨"Scrubward$Log", "isMendedIn", "(II)Z"⟩, 6) := ⟨⟨by decide +kernel, by decide +kernel⟩, List.mem_of_getElem? (i := 157) (by decide +kernel), List.mem_of_getElem? (i := 469) (by decide +kernel), List.mem_of_getElem? (i := 470) (by decide +kernel)⟩
theorem lw_p10 : lw_okq (⟨"Scrubward$Log", "isToldAgain", "(I)Z"⟩, 6) := ⟨⟨by decide +kernel, by decide +kernel⟩, List.mem_of_getElem? (i := 157) (by decide +kernel), List.mem_of_getElem? (i := 473) (by decide +kernel), List.mem_of_getElem? (i := 474) (by decide +kernel)⟩
theorem lw_p11 : lw_okq (⟨"Scrubward$Log", "isGuilty", "(III)Z"⟩, 6) := ⟨⟨by decide +kernel, by decide +kernel⟩, List.mem_of_getElem? (i := 157) (by decide +kernel), List.mem_of_getElem? (i := 477) (by decide +kernel), List.mem_of_getElem? (i := 478) (by decide +kernel)⟩
theorem lw_p12 : lw_okq (⟨"Scrubward", "lineAt", "(I)I"⟩, 12) := ⟨⟨by decide +kernel, by decide +kernel⟩, List.mem_of_getElem? (i := 32) (by decide +kernel), List.mem_of_getElem? (i := 492) (by decide +kernel), List.mem_of_getElem? (i := 493) (by decide +kernel)⟩
theorem lw_p13 : lw_okq (⟨"Scrubward", "uncleanIn", "(I)I"⟩, 12) := ⟨⟨by decide +kernel, by decide +kernel⟩, List.mem_of_getElem? (i := 32) (by decide +kernel), List.mem_of_getElem? (i := 496) (by decide +kernel), List.mem_of_getElem? (i := 497) (by decide +kernel)⟩
theorem lw_p14 : lw_okq (⟨"Scrubward", "stuckIn", "(I)I"⟩, 12) := ⟨⟨by decide +kernel, by decide +kernel⟩, List.mem_of_getElem? (i := 32) (by decide +kernel), List.mem_of_getElem? (i := 508) (by decide +kernel), List.mem_of_getElem? (i := 509) (by decide +kernel)⟩
theorem lw_p15 : lw_okq (⟨"Scrubward", "isPoisoned", "(I)Z"⟩, 12) := ⟨⟨by decide +kernel, by decide +kernel⟩, List.mem_of_getElem? (i := 32) (by decide +kernel), List.mem_of_getElem? (i := 521) (by decide +kernel), List.mem_of_getElem? (i := 522) (by decide +kernel)⟩
def lw_privs_1 : List (MethodName × Nat) := [(⟨"Scrubward$Code", "makeDataColumns", "()V"⟩, 5), (⟨"Scrubward$Memory", "asStuck", "(II)I"⟩, 12), (⟨"Scrubward", "rowsHaveOwnLines", "()Z"⟩, 12), (⟨"Scrubward", "rowOn", "(II)I"⟩, 12), (⟨"java/lang/Throwable", "fillInStackTrace", "(I)Ljava/lang/Throwable;"⟩, 6), (⟨"Scrubward$Code", "oneIfMended", "(I)I"⟩, 5), (⟨"Scrubward$Code", "thirdBits", "(II)I"⟩, 5), (⟨"Scrubward", "mixBank", "(JI)J"⟩, 12), (⟨"Scrubward$Log", "guiltyCell", "(I)I"⟩, 6), (⟨"Scrubward$Log", "isMendedIn", "(II)Z"⟩, 6), (⟨"Scrubward$Log", "isToldAgain", "(I)Z"⟩, 6), (⟨"Scrubward$Log", "isGuilty", "(III)Z"⟩, 6), (⟨"Scrubward", "lineAt", "(I)I"⟩, 12), (⟨"Scrubward", "uncleanIn", "(I)I"⟩, 12), (⟨"Scrubward", "stuckIn", "(I)I"⟩, 12), (⟨"Scrubward", "isPoisoned", "(I)Z"⟩, 12)]
theorem lw_r1 : ∀ q ∈ lw_privs_1, lw_okq q := List.forall_mem_cons.mpr ⟨lw_p0, List.forall_mem_cons.mpr ⟨lw_p1, List.forall_mem_cons.mpr ⟨lw_p2, List.forall_mem_cons.mpr ⟨lw_p3, List.forall_mem_cons.mpr ⟨lw_p4, List.forall_mem_cons.mpr ⟨lw_p5, List.forall_mem_cons.mpr ⟨lw_p6, List.forall_mem_cons.mpr ⟨lw_p7, List.forall_mem_cons.mpr ⟨lw_p8, List.forall_mem_cons.mpr ⟨lw_p9, List.forall_mem_cons.mpr ⟨lw_p10, List.forall_mem_cons.mpr ⟨lw_p11, List.forall_mem_cons.mpr ⟨lw_p12, List.forall_mem_cons.mpr ⟨lw_p13, List.forall_mem_cons.mpr ⟨lw_p14, List.forall_mem_cons.mpr ⟨lw_p15, fun _ h => absurd h List.not_mem_nil⟩⟩⟩⟩⟩⟩⟩⟩⟩⟩⟩⟩⟩⟩⟩⟩
theorem lw_p16 : lw_okq (⟨"Scrubward", "wordAt", "(I)I"⟩, 12) := ⟨⟨by decide +kernel, by decide +kernel⟩, List.mem_of_getElem? (i := 32) (by decide +kernel), List.mem_of_getElem? (i := 525) (by decide +kernel), List.mem_of_getElem? (i := 526) (by decide +kernel)⟩
theorem lw_p17 : lw_okq (⟨"Scrubward", "cellAt", "(I)I"⟩, 12) := ⟨⟨by decide +kernel, by decide +kernel⟩, List.mem_of_getElem? (i := 32) (by decide +kernel), List.mem_of_getElem? (i := 529) (by decide +kernel), List.mem_of_getElem? (i := 530) (by decide +kernel)⟩
theorem lw_p18 : lw_okq (⟨"Scrubward", "isRetired", "(I)Z"⟩, 12) := ⟨⟨by decide +kernel, by decide +kernel⟩, List.mem_of_getElem? (i := 32) (by decide +kernel), List.mem_of_getElem? (i := 560) (by decide +kernel), List.mem_of_getElem? (i := 561) (by decide +kernel)⟩
theorem lw_p19 : lw_okq (⟨"Scrubward", "dataAt", "(I)I"⟩, 12) := ⟨⟨by decide +kernel, by decide +kernel⟩, List.mem_of_getElem? (i := 32) (by decide +kernel), List.mem_of_getElem? (i := 564) (by decide +kernel), List.mem_of_getElem? (i := 565) (by decide +kernel)⟩
theorem lw_p20 : lw_okq (⟨"Scrubward$Memory", "isLeakable", "(II)Z"⟩, 12) := ⟨⟨by decide +kernel, by decide +kernel⟩, List.mem_of_getElem? (i := 77) (by decide +kernel), List.mem_of_getElem? (i := 597) (by decide +kernel), List.mem_of_getElem? (i := 598) (by decide +kernel)⟩
theorem lw_p21 : lw_okq (⟨"Scrubward$Memory", "isOverWithin", "(II)Z"⟩, 12) := ⟨⟨by decide +kernel, by decide +kernel⟩, List.mem_of_getElem? (i := 77) (by decide +kernel), List.mem_of_getElem? (i := 601) (by decide +kernel), List.mem_of_getElem? (i := 602) (by decide +kernel)⟩
theorem lw_p22 : lw_okq (⟨"Scrubward$Memory", "isRefreshedAt", "(I)Z"⟩, 12) := ⟨⟨by decide +kernel, by decide +kernel⟩, List.mem_of_getElem? (i := 77) (by decide +kernel), List.mem_of_getElem? (i := 605) (by decide +kernel), List.mem_of_getElem? (i := 606) (by decide +kernel)⟩
theorem lw_p23 : lw_okq (⟨"Scrubward", "checkData", "(I)V"⟩, 12) := ⟨⟨by decide +kernel, by decide +kernel⟩, List.mem_of_getElem? (i := 32) (by decide +kernel), List.mem_of_getElem? (i := 653) (by decide +kernel), List.mem_of_getElem? (i := 654) (by decide +kernel)⟩
theorem lw_p24 : lw_okq (⟨"Scrubward", "checkNotRetired", "(I)V"⟩, 12) := ⟨⟨by decide +kernel, by decide +kernel⟩, List.mem_of_getElem? (i := 32) (by decide +kernel), List.mem_of_getElem? (i := 659) (by decide +kernel), List.mem_of_getElem? (i := 660) (by decide +kernel)⟩
theorem lw_p25 : lw_okq (⟨"Scrubward", "store", "(II)V"⟩, 12) := ⟨⟨by decide +kernel, by decide +kernel⟩, List.mem_of_getElem? (i := 32) (by decide +kernel), List.mem_of_getElem? (i := 679) (by decide +kernel), List.mem_of_getElem? (i := 680) (by decide +kernel)⟩
theorem lw_p26 : lw_okq (⟨"Scrubward$Memory", "turnDrawnBit", "(I)V"⟩, 12) := ⟨⟨by decide +kernel, by decide +kernel⟩, List.mem_of_getElem? (i := 77) (by decide +kernel), List.mem_of_getElem? (i := 687) (by decide +kernel), List.mem_of_getElem? (i := 688) (by decide +kernel)⟩
theorem lw_p27 : lw_okq (⟨"Scrubward$Memory", "draw", "()I"⟩, 12) := ⟨⟨by decide +kernel, by decide +kernel⟩, List.mem_of_getElem? (i := 77) (by decide +kernel), List.mem_of_getElem? (i := 691) (by decide +kernel), List.mem_of_getElem? (i := 692) (by decide +kernel)⟩
theorem lw_p28 : lw_okq (⟨"Scrubward", "replace", "(II)V"⟩, 12) := ⟨⟨by decide +kernel, by decide +kernel⟩, List.mem_of_getElem? (i := 32) (by decide +kernel), List.mem_of_getElem? (i := 695) (by decide +kernel), List.mem_of_getElem? (i := 696) (by decide +kernel)⟩
theorem lw_p29 : lw_okq (⟨"Scrubward", "report", "(IZ)V"⟩, 12) := ⟨⟨by decide +kernel, by decide +kernel⟩, List.mem_of_getElem? (i := 32) (by decide +kernel), List.mem_of_getElem? (i := 711) (by decide +kernel), List.mem_of_getElem? (i := 712) (by decide +kernel)⟩
theorem lw_p30 : lw_okq (⟨"Scrubward", "readTwin", "(I)I"⟩, 12) := ⟨⟨by decide +kernel, by decide +kernel⟩, List.mem_of_getElem? (i := 32) (by decide +kernel), List.mem_of_getElem? (i := 724) (by decide +kernel), List.mem_of_getElem? (i := 725) (by decide +kernel)⟩
theorem lw_p31 : lw_okq (⟨"Scrubward", "moveRow", "(III)V"⟩, 12) := ⟨⟨by decide +kernel, by decide +kernel⟩, List.mem_of_getElem? (i := 32) (by decide +kernel), List.mem_of_getElem? (i := 789) (by decide +kernel), List.mem_of_getElem? (i := 790) (by decide +kernel)⟩
def lw_privs_2 : List (MethodName × Nat) := [(⟨"Scrubward", "wordAt", "(I)I"⟩, 12), (⟨"Scrubward", "cellAt", "(I)I"⟩, 12), (⟨"Scrubward", "isRetired", "(I)Z"⟩, 12), (⟨"Scrubward", "dataAt", "(I)I"⟩, 12), (⟨"Scrubward$Memory", "isLeakable", "(II)Z"⟩, 12), (⟨"Scrubward$Memory", "isOverWithin", "(II)Z"⟩, 12), (⟨"Scrubward$Memory", "isRefreshedAt", "(I)Z"⟩, 12), (⟨"Scrubward", "checkData", "(I)V"⟩, 12), (⟨"Scrubward", "checkNotRetired", "(I)V"⟩, 12), (⟨"Scrubward", "store", "(II)V"⟩, 12), (⟨"Scrubward$Memory", "turnDrawnBit", "(I)V"⟩, 12), (⟨"Scrubward$Memory", "draw", "()I"⟩, 12), (⟨"Scrubward", "replace", "(II)V"⟩, 12), (⟨"Scrubward", "report", "(IZ)V"⟩, 12), (⟨"Scrubward", "readTwin", "(I)I"⟩, 12), (⟨"Scrubward", "moveRow", "(III)V"⟩, 12)]
theorem lw_r2 : ∀ q ∈ lw_privs_2, lw_okq q := List.forall_mem_cons.mpr ⟨lw_p16, List.forall_mem_cons.mpr ⟨lw_p17, List.forall_mem_cons.mpr ⟨lw_p18, List.forall_mem_cons.mpr ⟨lw_p19, List.forall_mem_cons.mpr ⟨lw_p20, List.forall_mem_cons.mpr ⟨lw_p21, List.forall_mem_cons.mpr ⟨lw_p22, List.forall_mem_cons.mpr ⟨lw_p23, List.forall_mem_cons.mpr ⟨lw_p24, List.forall_mem_cons.mpr ⟨lw_p25, List.forall_mem_cons.mpr ⟨lw_p26, List.forall_mem_cons.mpr ⟨lw_p27, List.forall_mem_cons.mpr ⟨lw_p28, List.forall_mem_cons.mpr ⟨lw_p29, List.forall_mem_cons.mpr ⟨lw_p30, List.forall_mem_cons.mpr ⟨lw_p31, fun _ h => absurd h List.not_mem_nil⟩⟩⟩⟩⟩⟩⟩⟩⟩⟩⟩⟩⟩⟩⟩⟩
theorem lw_p32 : lw_okq (⟨"Scrubward", "scrubSteps", "()V"⟩, 12) := ⟨⟨by decide +kernel, by decide +kernel⟩, List.mem_of_getElem? (i := 32) (by decide +kernel), List.mem_of_getElem? (i := 812) (by decide +kernel), List.mem_of_getElem? (i := 813) (by decide +kernel)⟩
theorem lw_p33 : lw_okq (⟨"Scrubward", "signOf", "(I)C"⟩, 12) := ⟨⟨by decide +kernel, by decide +kernel⟩, List.mem_of_getElem? (i := 32) (by decide +kernel), List.mem_of_getElem? (i := 903) (by decide +kernel), List.mem_of_getElem? (i := 904) (by decide +kernel)⟩
theorem lw_p34 : lw_okq (⟨"ScrubwardModel", "no", "(I)I"⟩, 26) := ⟨⟨by decide +kernel, by decide +kernel⟩, List.mem_of_getElem? (i := 1152) (by decide +kernel), List.mem_of_getElem? (i := 1282) (by decide +kernel), List.mem_of_getElem? (i := 1283) (by decide +kernel)⟩
theorem lw_p35 : lw_okq (⟨"java/util/ArrayList", "add", "(Ljava/lang/Object;[Ljava/lang/Object;I)V"⟩, 3) := ⟨⟨by decide +kernel, by decide +kernel⟩, List.mem_of_getElem? (i := 1160) (by decide +kernel), List.mem_of_getElem? (i := 1323) (by decide +kernel), List.mem_of_getElem? (i := 1324) (by decide +kernel)⟩
theorem lw_p36 : lw_okq (⟨"java/util/ArrayList", "grow", "()[Ljava/lang/Object;"⟩, 3) := ⟨⟨by decide +kernel, by decide +kernel⟩, List.mem_of_getElem? (i := 1160) (by decide +kernel), List.mem_of_getElem? (i := 1327) (by decide +kernel), List.mem_of_getElem? (i := 1328) (by decide +kernel)⟩
theorem lw_p37 : lw_okq (⟨"java/util/ArrayList", "grow", "(I)[Ljava/lang/Object;"⟩, 3) := ⟨⟨by decide +kernel, by decide +kernel⟩, List.mem_of_getElem? (i := 1160) (by decide +kernel), List.mem_of_getElem? (i := 1331) (by decide +kernel), List.mem_of_getElem? (i := 1332) (by decide +kernel)⟩
theorem lw_p38 : lw_okq (⟨"ScrubwardModel", "put", "(III)V"⟩, 26) := ⟨⟨by decide +kernel, by decide +kernel⟩, List.mem_of_getElem? (i := 1152) (by decide +kernel), List.mem_of_getElem? (i := 1365) (by decide +kernel), List.mem_of_getElem? (i := 1366) (by decide +kernel)⟩
theorem lw_p39 : lw_okq (⟨"ScrubwardModel", "bits", "()I"⟩, 26) := ⟨⟨by decide +kernel, by decide +kernel⟩, List.mem_of_getElem? (i := 1152) (by decide +kernel), List.mem_of_getElem? (i := 1369) (by decide +kernel), List.mem_of_getElem? (i := 1370) (by decide +kernel)⟩
theorem lw_p40 : lw_okq (⟨"ScrubwardModel", "writeAt", "(II)V"⟩, 26) := ⟨⟨by decide +kernel, by decide +kernel⟩, List.mem_of_getElem? (i := 1152) (by decide +kernel), List.mem_of_getElem? (i := 1380) (by decide +kernel), List.mem_of_getElem? (i := 1381) (by decide +kernel)⟩
theorem lw_p41 : lw_okq (⟨"ScrubwardModel", "lineOf", "(I)I"⟩, 26) := ⟨⟨by decide +kernel, by decide +kernel⟩, List.mem_of_getElem? (i := 1152) (by decide +kernel), List.mem_of_getElem? (i := 1384) (by decide +kernel), List.mem_of_getElem? (i := 1385) (by decide +kernel)⟩
theorem lw_p42 : lw_okq (⟨"ScrubwardModel", "open", "(I)V"⟩, 26) := ⟨⟨by decide +kernel, by decide +kernel⟩, List.mem_of_getElem? (i := 1152) (by decide +kernel), List.mem_of_getElem? (i := 1388) (by decide +kernel), List.mem_of_getElem? (i := 1389) (by decide +kernel)⟩
theorem lw_p43 : lw_okq (⟨"ScrubwardModel", "draw", "()I"⟩, 26) := ⟨⟨by decide +kernel, by decide +kernel⟩, List.mem_of_getElem? (i := 1152) (by decide +kernel), List.mem_of_getElem? (i := 1392) (by decide +kernel), List.mem_of_getElem? (i := 1393) (by decide +kernel)⟩
theorem lw_p44 : lw_okq (⟨"ScrubwardModel", "encoded", "(I)I"⟩, 26) := ⟨⟨by decide +kernel, by decide +kernel⟩, List.mem_of_getElem? (i := 1152) (by decide +kernel), List.mem_of_getElem? (i := 1396) (by decide +kernel), List.mem_of_getElem? (i := 1397) (by decide +kernel)⟩
theorem lw_p45 : lw_okq (⟨"ScrubwardModel", "syndrome", "(I)I"⟩, 26) := ⟨⟨by decide +kernel, by decide +kernel⟩, List.mem_of_getElem? (i := 1152) (by decide +kernel), List.mem_of_getElem? (i := 1400) (by decide +kernel), List.mem_of_getElem? (i := 1401) (by decide +kernel)⟩
theorem lw_p46 : lw_okq (⟨"ScrubwardModel", "putAt", "(II)V"⟩, 26) := ⟨⟨by decide +kernel, by decide +kernel⟩, List.mem_of_getElem? (i := 1152) (by decide +kernel), List.mem_of_getElem? (i := 1407) (by decide +kernel), List.mem_of_getElem? (i := 1408) (by decide +kernel)⟩
theorem lw_p47 : lw_okq (⟨"ScrubwardModel", "wordAt", "(I)I"⟩, 26) := ⟨⟨by decide +kernel, by decide +kernel⟩, List.mem_of_getElem? (i := 1152) (by decide +kernel), List.mem_of_getElem? (i := 1414) (by decide +kernel), List.mem_of_getElem? (i := 1415) (by decide +kernel)⟩
def lw_privs_3 : List (MethodName × Nat) := [(⟨"Scrubward", "scrubSteps", "()V"⟩, 12), (⟨"Scrubward", "signOf", "(I)C"⟩, 12), (⟨"ScrubwardModel", "no", "(I)I"⟩, 26), (⟨"java/util/ArrayList", "add", "(Ljava/lang/Object;[Ljava/lang/Object;I)V"⟩, 3), (⟨"java/util/ArrayList", "grow", "()[Ljava/lang/Object;"⟩, 3), (⟨"java/util/ArrayList", "grow", "(I)[Ljava/lang/Object;"⟩, 3), (⟨"ScrubwardModel", "put", "(III)V"⟩, 26), (⟨"ScrubwardModel", "bits", "()I"⟩, 26), (⟨"ScrubwardModel", "writeAt", "(II)V"⟩, 26), (⟨"ScrubwardModel", "lineOf", "(I)I"⟩, 26), (⟨"ScrubwardModel", "open", "(I)V"⟩, 26), (⟨"ScrubwardModel", "draw", "()I"⟩, 26), (⟨"ScrubwardModel", "encoded", "(I)I"⟩, 26), (⟨"ScrubwardModel", "syndrome", "(I)I"⟩, 26), (⟨"ScrubwardModel", "putAt", "(II)V"⟩, 26), (⟨"ScrubwardModel", "wordAt", "(I)I"⟩, 26)]
theorem lw_r3 : ∀ q ∈ lw_privs_3, lw_okq q := List.forall_mem_cons.mpr ⟨lw_p32, List.forall_mem_cons.mpr ⟨lw_p33, List.forall_mem_cons.mpr ⟨lw_p34, List.forall_mem_cons.mpr ⟨lw_p35, List.forall_mem_cons.mpr ⟨lw_p36, List.forall_mem_cons.mpr ⟨lw_p37, List.forall_mem_cons.mpr ⟨lw_p38, List.forall_mem_cons.mpr ⟨lw_p39, List.forall_mem_cons.mpr ⟨lw_p40, List.forall_mem_cons.mpr ⟨lw_p41, List.forall_mem_cons.mpr ⟨lw_p42, List.forall_mem_cons.mpr ⟨lw_p43, List.forall_mem_cons.mpr ⟨lw_p44, List.forall_mem_cons.mpr ⟨lw_p45, List.forall_mem_cons.mpr ⟨lw_p46, List.forall_mem_cons.mpr ⟨lw_p47, fun _ h => absurd h List.not_mem_nil⟩⟩⟩⟩⟩⟩⟩⟩⟩⟩⟩⟩⟩⟩⟩⟩
theorem lw_p48 : lw_okq (⟨"ScrubwardModel", "readAt", "(I)I"⟩, 26) := ⟨⟨by decide +kernel, by decide +kernel⟩, List.mem_of_getElem? (i := 1152) (by decide +kernel), List.mem_of_getElem? (i := 1422) (by decide +kernel), List.mem_of_getElem? (i := 1423) (by decide +kernel)⟩
theorem lw_p49 : lw_okq (⟨"ScrubwardModel", "take", "(I)I"⟩, 26) := ⟨⟨by decide +kernel, by decide +kernel⟩, List.mem_of_getElem? (i := 1152) (by decide +kernel), List.mem_of_getElem? (i := 1426) (by decide +kernel), List.mem_of_getElem? (i := 1427) (by decide +kernel)⟩
theorem lw_p50 : lw_okq (⟨"ScrubwardModel", "kind", "(I)I"⟩, 26) := ⟨⟨by decide +kernel, by decide +kernel⟩, List.mem_of_getElem? (i := 1152) (by decide +kernel), List.mem_of_getElem? (i := 1430) (by decide +kernel), List.mem_of_getElem? (i := 1431) (by decide +kernel)⟩
theorem lw_p51 : lw_okq (⟨"ScrubwardModel", "bitOf", "(I)I"⟩, 26) := ⟨⟨by decide +kernel, by decide +kernel⟩, List.mem_of_getElem? (i := 1152) (by decide +kernel), List.mem_of_getElem? (i := 1434) (by decide +kernel), List.mem_of_getElem? (i := 1435) (by decide +kernel)⟩
theorem lw_p52 : lw_okq (⟨"ScrubwardModel", "note", "(II)V"⟩, 26) := ⟨⟨by decide +kernel, by decide +kernel⟩, List.mem_of_getElem? (i := 1152) (by decide +kernel), List.mem_of_getElem? (i := 1438) (by decide +kernel), List.mem_of_getElem? (i := 1439) (by decide +kernel)⟩
theorem lw_p53 : lw_okq (⟨"ScrubwardModel", "mended", "(I)I"⟩, 26) := ⟨⟨by decide +kernel, by decide +kernel⟩, List.mem_of_getElem? (i := 1152) (by decide +kernel), List.mem_of_getElem? (i := 1442) (by decide +kernel), List.mem_of_getElem? (i := 1443) (by decide +kernel)⟩
theorem lw_p54 : lw_okq (⟨"ScrubwardModel", "dataOf", "(I)I"⟩, 26) := ⟨⟨by decide +kernel, by decide +kernel⟩, List.mem_of_getElem? (i := 1152) (by decide +kernel), List.mem_of_getElem? (i := 1446) (by decide +kernel), List.mem_of_getElem? (i := 1447) (by decide +kernel)⟩
theorem lw_p55 : lw_okq (⟨"ScrubwardModel", "tick", "()V"⟩, 26) := ⟨⟨by decide +kernel, by decide +kernel⟩, List.mem_of_getElem? (i := 1152) (by decide +kernel), List.mem_of_getElem? (i := 1485) (by decide +kernel), List.mem_of_getElem? (i := 1486) (by decide +kernel)⟩
theorem lw_p56 : lw_okq (⟨"ScrubwardModel", "leak", "()V"⟩, 26) := ⟨⟨by decide +kernel, by decide +kernel⟩, List.mem_of_getElem? (i := 1152) (by decide +kernel), List.mem_of_getElem? (i := 1489) (by decide +kernel), List.mem_of_getElem? (i := 1490) (by decide +kernel)⟩
theorem lw_p57 : lw_okq (⟨"ScrubwardModel", "patrol", "()V"⟩, 26) := ⟨⟨by decide +kernel, by decide +kernel⟩, List.mem_of_getElem? (i := 1152) (by decide +kernel), List.mem_of_getElem? (i := 1493) (by decide +kernel), List.mem_of_getElem? (i := 1494) (by decide +kernel)⟩
theorem lw_p58 : lw_okq (⟨"ScrubwardModel", "fooledNow", "(I)I"⟩, 26) := ⟨⟨by decide +kernel, by decide +kernel⟩, List.mem_of_getElem? (i := 1152) (by decide +kernel), List.mem_of_getElem? (i := 1521) (by decide +kernel), List.mem_of_getElem? (i := 1522) (by decide +kernel)⟩
theorem lw_p59 : lw_okq (⟨"ScrubwardModel", "wordNow", "(II)I"⟩, 26) := ⟨⟨by decide +kernel, by decide +kernel⟩, List.mem_of_getElem? (i := 1152) (by decide +kernel), List.mem_of_getElem? (i := 1529) (by decide +kernel), List.mem_of_getElem? (i := 1530) (by decide +kernel)⟩
theorem lw_p60 : lw_okq (⟨"ScrubwardModel", "cells", "(Ljava/util/List;II)I"⟩, 26) := ⟨⟨by decide +kernel, by decide +kernel⟩, List.mem_of_getElem? (i := 1152) (by decide +kernel), List.mem_of_getElem? (i := 1533) (by decide +kernel), List.mem_of_getElem? (i := 1534) (by decide +kernel)⟩
theorem lw_p61 : lw_okq (⟨"ScrubwardModel", "lineNow", "(II)I"⟩, 26) := ⟨⟨by decide +kernel, by decide +kernel⟩, List.mem_of_getElem? (i := 1152) (by decide +kernel), List.mem_of_getElem? (i := 1541) (by decide +kernel), List.mem_of_getElem? (i := 1542) (by decide +kernel)⟩
theorem lw_p62 : lw_okq (⟨"ScrubwardModel", "rowOf", "(I)I"⟩, 26) := ⟨⟨by decide +kernel, by decide +kernel⟩, List.mem_of_getElem? (i := 1152) (by decide +kernel), List.mem_of_getElem? (i := 1545) (by decide +kernel), List.mem_of_getElem? (i := 1546) (by decide +kernel)⟩
theorem lw_p63 : lw_okq (⟨"ScrubwardModel", "unclean", "(I)I"⟩, 26) := ⟨⟨by decide +kernel, by decide +kernel⟩, List.mem_of_getElem? (i := 1152) (by decide +kernel), List.mem_of_getElem? (i := 1549) (by decide +kernel), List.mem_of_getElem? (i := 1550) (by decide +kernel)⟩
def lw_privs_4 : List (MethodName × Nat) := [(⟨"ScrubwardModel", "readAt", "(I)I"⟩, 26), (⟨"ScrubwardModel", "take", "(I)I"⟩, 26), (⟨"ScrubwardModel", "kind", "(I)I"⟩, 26), (⟨"ScrubwardModel", "bitOf", "(I)I"⟩, 26), (⟨"ScrubwardModel", "note", "(II)V"⟩, 26), (⟨"ScrubwardModel", "mended", "(I)I"⟩, 26), (⟨"ScrubwardModel", "dataOf", "(I)I"⟩, 26), (⟨"ScrubwardModel", "tick", "()V"⟩, 26), (⟨"ScrubwardModel", "leak", "()V"⟩, 26), (⟨"ScrubwardModel", "patrol", "()V"⟩, 26), (⟨"ScrubwardModel", "fooledNow", "(I)I"⟩, 26), (⟨"ScrubwardModel", "wordNow", "(II)I"⟩, 26), (⟨"ScrubwardModel", "cells", "(Ljava/util/List;II)I"⟩, 26), (⟨"ScrubwardModel", "lineNow", "(II)I"⟩, 26), (⟨"ScrubwardModel", "rowOf", "(I)I"⟩, 26), (⟨"ScrubwardModel", "unclean", "(I)I"⟩, 26)]
theorem lw_r4 : ∀ q ∈ lw_privs_4, lw_okq q := List.forall_mem_cons.mpr ⟨lw_p48, List.forall_mem_cons.mpr ⟨lw_p49, List.forall_mem_cons.mpr ⟨lw_p50, List.forall_mem_cons.mpr ⟨lw_p51, List.forall_mem_cons.mpr ⟨lw_p52, List.forall_mem_cons.mpr ⟨lw_p53, List.forall_mem_cons.mpr ⟨lw_p54, List.forall_mem_cons.mpr ⟨lw_p55, List.forall_mem_cons.mpr ⟨lw_p56, List.forall_mem_cons.mpr ⟨lw_p57, List.forall_mem_cons.mpr ⟨lw_p58, List.forall_mem_cons.mpr ⟨lw_p59, List.forall_mem_cons.mpr ⟨lw_p60, List.forall_mem_cons.mpr ⟨lw_p61, List.forall_mem_cons.mpr ⟨lw_p62, List.forall_mem_cons.mpr ⟨lw_p63, fun _ h => absurd h List.not_mem_nil⟩⟩⟩⟩⟩⟩⟩⟩⟩⟩⟩⟩⟩⟩⟩⟩
theorem lw_p64 : lw_okq (⟨"ScrubwardModel", "blameNow", "(IZ)I"⟩, 26) := ⟨⟨by decide +kernel, by decide +kernel⟩, List.mem_of_getElem? (i := 1152) (by decide +kernel), List.mem_of_getElem? (i := 1561) (by decide +kernel), List.mem_of_getElem? (i := 1562) (by decide +kernel)⟩
theorem lw_p65 : lw_okq (⟨"ScrubwardModel", "spread", "(IIIZ)I"⟩, 26) := ⟨⟨by decide +kernel, by decide +kernel⟩, List.mem_of_getElem? (i := 1152) (by decide +kernel), List.mem_of_getElem? (i := 1565) (by decide +kernel), List.mem_of_getElem? (i := 1566) (by decide +kernel)⟩
theorem lw_p66 : lw_okq (⟨"ScrubwardModel", "isMended", "(II)Z"⟩, 26) := ⟨⟨by decide +kernel, by decide +kernel⟩, List.mem_of_getElem? (i := 1152) (by decide +kernel), List.mem_of_getElem? (i := 1569) (by decide +kernel), List.mem_of_getElem? (i := 1570) (by decide +kernel)⟩
theorem lw_p67 : lw_okq (⟨"ScrubwardModel", "twice", "(I)I"⟩, 26) := ⟨⟨by decide +kernel, by decide +kernel⟩, List.mem_of_getElem? (i := 1152) (by decide +kernel), List.mem_of_getElem? (i := 1573) (by decide +kernel), List.mem_of_getElem? (i := 1574) (by decide +kernel)⟩
theorem lw_p68 : lw_okq (⟨"ScrubwardModel", "boardNow", "(I)I"⟩, 26) := ⟨⟨by decide +kernel, by decide +kernel⟩, List.mem_of_getElem? (i := 1152) (by decide +kernel), List.mem_of_getElem? (i := 1582) (by decide +kernel), List.mem_of_getElem? (i := 1583) (by decide +kernel)⟩
theorem lw_p69 : lw_okq (⟨"ScrubwardModel", "healthNow", "(I)D"⟩, 26) := ⟨⟨by decide +kernel, by decide +kernel⟩, List.mem_of_getElem? (i := 1152) (by decide +kernel), List.mem_of_getElem? (i := 1590) (by decide +kernel), List.mem_of_getElem? (i := 1591) (by decide +kernel)⟩
theorem lw_p70 : lw_okq (⟨"ScrubwardModel", "wouldReadNow", "(I)I"⟩, 26) := ⟨⟨by decide +kernel, by decide +kernel⟩, List.mem_of_getElem? (i := 1152) (by decide +kernel), List.mem_of_getElem? (i := 1608) (by decide +kernel), List.mem_of_getElem? (i := 1609) (by decide +kernel)⟩
theorem lw_p71 : lw_okq (⟨"ScrubwardModel", "wouldTell", "(I)I"⟩, 26) := ⟨⟨by decide +kernel, by decide +kernel⟩, List.mem_of_getElem? (i := 1152) (by decide +kernel), List.mem_of_getElem? (i := 1612) (by decide +kernel), List.mem_of_getElem? (i := 1613) (by decide +kernel)⟩
theorem lw_p72 : lw_okq (⟨"ScrubwardModel", "wouldSpareNow", "(I)I"⟩, 26) := ⟨⟨by decide +kernel, by decide +kernel⟩, List.mem_of_getElem? (i := 1152) (by decide +kernel), List.mem_of_getElem? (i := 1620) (by decide +kernel), List.mem_of_getElem? (i := 1621) (by decide +kernel)⟩
theorem lw_p73 : lw_okq (⟨"ScrubwardModel", "wouldLeakNow", "(I)I"⟩, 26) := ⟨⟨by decide +kernel, by decide +kernel⟩, List.mem_of_getElem? (i := 1152) (by decide +kernel), List.mem_of_getElem? (i := 1628) (by decide +kernel), List.mem_of_getElem? (i := 1629) (by decide +kernel)⟩
theorem lw_p74 : lw_okq (⟨"ScrubwardModel", "wouldLeak", "([II)Z"⟩, 26) := ⟨⟨by decide +kernel, by decide +kernel⟩, List.mem_of_getElem? (i := 1152) (by decide +kernel), List.mem_of_getElem? (i := 1632) (by decide +kernel), List.mem_of_getElem? (i := 1633) (by decide +kernel)⟩
theorem lw_p75 : lw_okq (⟨"ScrubwardModel", "isStuck", "([I)Z"⟩, 26) := ⟨⟨by decide +kernel, by decide +kernel⟩, List.mem_of_getElem? (i := 1152) (by decide +kernel), List.mem_of_getElem? (i := 1636) (by decide +kernel), List.mem_of_getElem? (i := 1637) (by decide +kernel)⟩
theorem lw_p76 : lw_okq (⟨"ScrubwardModel", "isSoundNow", "()Z"⟩, 26) := ⟨⟨by decide +kernel, by decide +kernel⟩, List.mem_of_getElem? (i := 1152) (by decide +kernel), List.mem_of_getElem? (i := 1647) (by decide +kernel), List.mem_of_getElem? (i := 1648) (by decide +kernel)⟩
def lw_privs_5 : List (MethodName × Nat) := [(⟨"ScrubwardModel", "blameNow", "(IZ)I"⟩, 26), (⟨"ScrubwardModel", "spread", "(IIIZ)I"⟩, 26), (⟨"ScrubwardModel", "isMended", "(II)Z"⟩, 26), (⟨"ScrubwardModel", "twice", "(I)I"⟩, 26), (⟨"ScrubwardModel", "boardNow", "(I)I"⟩, 26), (⟨"ScrubwardModel", "healthNow", "(I)D"⟩, 26), (⟨"ScrubwardModel", "wouldReadNow", "(I)I"⟩, 26), (⟨"ScrubwardModel", "wouldTell", "(I)I"⟩, 26), (⟨"ScrubwardModel", "wouldSpareNow", "(I)I"⟩, 26), (⟨"ScrubwardModel", "wouldLeakNow", "(I)I"⟩, 26), (⟨"ScrubwardModel", "wouldLeak", "([II)Z"⟩, 26), (⟨"ScrubwardModel", "isStuck", "([I)Z"⟩, 26), (⟨"ScrubwardModel", "isSoundNow", "()Z"⟩, 26)]
theorem lw_r5 : ∀ q ∈ lw_privs_5, lw_okq q := List.forall_mem_cons.mpr ⟨lw_p64, List.forall_mem_cons.mpr ⟨lw_p65, List.forall_mem_cons.mpr ⟨lw_p66, List.forall_mem_cons.mpr ⟨lw_p67, List.forall_mem_cons.mpr ⟨lw_p68, List.forall_mem_cons.mpr ⟨lw_p69, List.forall_mem_cons.mpr ⟨lw_p70, List.forall_mem_cons.mpr ⟨lw_p71, List.forall_mem_cons.mpr ⟨lw_p72, List.forall_mem_cons.mpr ⟨lw_p73, List.forall_mem_cons.mpr ⟨lw_p74, List.forall_mem_cons.mpr ⟨lw_p75, List.forall_mem_cons.mpr ⟨lw_p76, fun _ h => absurd h List.not_mem_nil⟩⟩⟩⟩⟩⟩⟩⟩⟩⟩⟩⟩⟩
def lw_privs : List (MethodName × Nat) := lw_privs_1 ++ (lw_privs_2 ++ (lw_privs_3 ++ (lw_privs_4 ++ (lw_privs_5))))
def lw_tbl : List Cond := k2_sels lw_privs ++ tables_1
theorem lw_privs_ok : ∀ q ∈ lw_privs, lw_okq q := by
  show ∀ q ∈ lw_privs_1 ++ (lw_privs_2 ++ (lw_privs_3 ++ (lw_privs_4 ++ (lw_privs_5)))), lw_okq q
  exact List.forall_mem_append.mpr ⟨lw_r1, List.forall_mem_append.mpr ⟨lw_r2, List.forall_mem_append.mpr ⟨lw_r3, List.forall_mem_append.mpr ⟨lw_r4, lw_r5⟩⟩⟩⟩
/-- the streams that the claim lets the run draw from -/
abbrev lw_cs : List Choice := [Jvm.Choice.named "NaN.bits"]
theorem lw_bits : nanBits ∈ lw_cs := by first | decide | exact List.mem_cons_self | simp [lw_cs, nanBits]
-- ===== end of PART A; then your names; then what follows =====
end
section
/-! The tables: written by a program (wip/gen) out of the claim's own texts. -/
def zdf (k : Nat) : Value := match k with
  | 3 => .long 0
  | 4 => .double 0
  | 5 => .null
  | _ => .int 0
def zB : List Jvm.Cond := lw_tbl.filter goodWord
theorem zb {w : Jvm.Cond} (i : Nat) (h : lw_tbl[i]? = some w) (g : goodWord w = true) : w ∈ zB := List.mem_filter.mpr ⟨List.mem_of_getElem? h, g⟩
def zon (o : Nat) : String := ["Scrubward$Code", "Scrubward$Faults", "Scrubward$Ints", "Scrubward$Log", "Scrubward$Memory", "Scrubward", "ScrubwardLaw$Out", "ScrubwardModel", "ScrubwardLaw", "java/lang/String", "java/util/Objects", "java/lang/StringLatin1", "jdk/internal/util/Preconditions", "java/lang/StringBuilder", "java/lang/AbstractStringBuilder", "java/lang/Integer", "java/util/Arrays", "jdk/internal/util/ArraysSupport", "java/util/ArrayList", "java/util/AbstractCollection", "java/util/AbstractList"].getD o ""
def zcn (c : Nat) : String := ["Scrubward$Code", "Scrubward$Faults", "Scrubward$Ints", "Scrubward$Log", "Scrubward$Memory", "Scrubward", "ScrubwardLaw$Out", "ScrubwardModel", "java/lang/StringBuilder", "java/lang/String", "java/util/ArrayList"].getD c ""
def zFT (f : Nat) : String × String × String × Bool := [("Scrubward$Code", "columns", "LScrubward$Ints;", true), ("Scrubward$Code", "turns", "LScrubward$Ints;", true), ("Scrubward$Code", "dataBits", "I", false), ("Scrubward$Code", "checkBits", "I", false), ("Scrubward$Code", "width", "I", false), ("Scrubward$Faults", "cells", "LScrubward$Ints;", true), ("Scrubward$Faults", "masks", "LScrubward$Ints;", true), ("Scrubward$Faults", "values", "LScrubward$Ints;", true), ("Scrubward$Faults", "count", "I", false), ("Scrubward$Ints", "items", "[I", true), ("Scrubward$Log", "addresses", "LScrubward$Ints;", true), ("Scrubward$Log", "bits", "LScrubward$Ints;", true), ("Scrubward$Log", "ticks", "LScrubward$Ints;", true), ("Scrubward$Log", "count", "I", false), ("Scrubward$Log", "mendedEver", "I", false), ("Scrubward$Log", "badEver", "I", false), ("Scrubward$Memory", "words", "LScrubward$Ints;", true), ("Scrubward$Memory", "counts", "LScrubward$Ints;", true), ("Scrubward$Memory", "freshAt", "LScrubward$Ints;", true), ("Scrubward$Memory", "leaked", "LScrubward$Ints;", true), ("Scrubward$Memory", "stuck", "LScrubward$Faults;", true), ("Scrubward$Memory", "weak", "LScrubward$Faults;", true), ("Scrubward$Memory", "width", "I", false), ("Scrubward$Memory", "tick", "I", false), ("Scrubward$Memory", "period", "I", false), ("Scrubward$Memory", "limit", "I", false), ("Scrubward$Memory", "nextDrawn", "I", false), ("Scrubward$Memory", "drawnEver", "I", false), ("Scrubward", "coder", "LScrubward$Code;", true), ("Scrubward", "memory", "LScrubward$Memory;", true), ("Scrubward", "log", "LScrubward$Log;", true), ("Scrubward", "lineOfRow", "LScrubward$Ints;", true), ("Scrubward", "sparesUsed", "LScrubward$Ints;", true), ("Scrubward", "poisoned", "LScrubward$Ints;", true), ("Scrubward", "retired", "LScrubward$Ints;", true), ("Scrubward", "steps", "I", false), ("Scrubward", "demandOn", "Z", false), ("Scrubward", "mirrorOn", "Z", false), ("Scrubward", "patrolAt", "I", false), ("Scrubward", "refused", "I", false), ("ScrubwardLaw$Out", "n", "J", false), ("ScrubwardLaw$Out", "d", "D", false), ("ScrubwardLaw$Out", "s", "Ljava/lang/String;", false), ("ScrubwardModel", "thrown", "I", false), ("ScrubwardModel", "data", "I", false), ("ScrubwardModel", "checks", "I", false), ("ScrubwardModel", "columns", "[I", false), ("ScrubwardModel", "tick", "I", false), ("ScrubwardModel", "period", "I", false), ("ScrubwardModel", "limit", "I", false), ("ScrubwardModel", "steps", "I", false), ("ScrubwardModel", "isDemand", "Z", false), ("ScrubwardModel", "isMirrored", "Z", false), ("ScrubwardModel", "stands", "I", false), ("ScrubwardModel", "row", "I", false), ("ScrubwardModel", "drawn", "I", false), ("ScrubwardModel", "refused", "I", false), ("ScrubwardModel", "mendings", "I", false), ("ScrubwardModel", "bads", "I", false), ("ScrubwardModel", "words", "[[I", true), ("ScrubwardModel", "counts", "[I", true), ("ScrubwardModel", "since", "[I", true), ("ScrubwardModel", "lines", "[I", true), ("ScrubwardModel", "spared", "[I", true), ("ScrubwardModel", "isPoisoned", "[Z", true), ("ScrubwardModel", "isRetired", "[Z", true), ("ScrubwardModel", "stuck", "Ljava/util/List;", false), ("ScrubwardModel", "weak", "Ljava/util/List;", false), ("ScrubwardModel", "log", "Ljava/util/List;", false), ("java/lang/AbstractStringBuilder", "value", "[B", false), ("java/lang/AbstractStringBuilder", "coder", "B", false), ("java/lang/AbstractStringBuilder", "maybeLatin1", "Z", false), ("java/lang/AbstractStringBuilder", "count", "I", false), ("java/lang/String", "value", "[B", true), ("java/lang/String", "coder", "B", true), ("java/lang/String", "hash", "I", false), ("java/lang/String", "hashIsZero", "Z", false), ("java/util/AbstractList", "modCount", "I", false), ("java/util/ArrayList", "elementData", "[Ljava/lang/Object;", false), ("java/util/ArrayList", "size", "I", false)].getD f ("", "", "", false)
def zcf (c : Nat) : List (Nat × Nat) := ([[(0, 5), (1, 5), (2, 0), (3, 0), (4, 0)], [(5, 5), (6, 5), (7, 5), (8, 0)], [(9, 5)], [(10, 5), (11, 5), (12, 5), (13, 0), (14, 0), (15, 0)], [(16, 5), (17, 5), (18, 5), (19, 5), (20, 5), (21, 5), (22, 0), (23, 0), (24, 0), (25, 0), (26, 0), (27, 0)], [(28, 5), (29, 5), (30, 5), (31, 5), (32, 5), (33, 5), (34, 5), (35, 0), (36, 1), (37, 1), (38, 0), (39, 0)], [(40, 3), (41, 4), (42, 5)], [(43, 0), (44, 0), (45, 0), (46, 5), (47, 0), (48, 0), (49, 0), (50, 0), (51, 1), (52, 1), (53, 0), (54, 0), (55, 0), (56, 0), (57, 0), (58, 0), (59, 5), (60, 5), (61, 5), (62, 5), (63, 5), (64, 5), (65, 5), (66, 5), (67, 5), (68, 5)], [(69, 5), (70, 2), (71, 1), (72, 0)], [(73, 5), (74, 2), (75, 0), (76, 1)], [(77, 0), (78, 5), (79, 0)]] : List (List (Nat × Nat))).getD c []
def zT (c : Nat) : u_T := fun k => zFT ((zcf c).getD k (0, 0)).1
def zcl : List vw_C := [(zcn 0, zT 0, 5), (zcn 1, zT 1, 4), (zcn 2, zT 2, 1), (zcn 3, zT 3, 6), (zcn 4, zT 4, 12), (zcn 5, zT 5, 12), (zcn 6, zT 6, 3), (zcn 7, zT 7, 26), (zcn 8, zT 8, 4), (zcn 9, zT 9, 4), (zcn 10, zT 10, 3)]
def zmn (y : Nat) : MethodName := ([⟨"Scrubward$Code", "<init>", "()V"⟩, ⟨"Scrubward$Code", "isDataColumn", "(I)Z"⟩, ⟨"Scrubward$Code", "dataColumnsOf", "(I)I"⟩, ⟨"Scrubward$Code", "make", "(II)V"⟩, ⟨"Scrubward$Code", "makeDataColumns", "()V"⟩, ⟨"Scrubward$Code", "words", "()I"⟩, ⟨"Scrubward$Code", "dataMask", "()I"⟩, ⟨"Scrubward$Code", "hasBit", "(I)Z"⟩, ⟨"Scrubward$Code", "syndromeOf", "(I)I"⟩, ⟨"Scrubward$Code", "turnOf", "(I)I"⟩, ⟨"Scrubward$Code", "isClean", "(I)Z"⟩, ⟨"Scrubward$Code", "verdictOf", "(I)I"⟩, ⟨"Scrubward$Code", "bitOf", "(I)I"⟩, ⟨"Scrubward$Code", "dataOf", "(I)I"⟩, ⟨"Scrubward$Code", "wordOf", "(I)I"⟩, ⟨"Scrubward$Code", "wronglyMended", "(I)I"⟩, ⟨"Scrubward$Code", "thirdBits", "(II)I"⟩, ⟨"Scrubward$Code", "oneIfMended", "(I)I"⟩, ⟨"Scrubward$Code", "isInOrder", "()Z"⟩, ⟨"Scrubward$Faults", "<init>", "()V"⟩, ⟨"Scrubward$Faults", "isFull", "()Z"⟩, ⟨"Scrubward$Faults", "add", "(III)V"⟩, ⟨"Scrubward$Faults", "keepBitsBelow", "(I)V"⟩, ⟨"Scrubward$Faults", "countIn", "(II)I"⟩, ⟨"Scrubward$Ints", "<init>", "(I)V"⟩, ⟨"Scrubward$Ints", "get", "(I)I"⟩, ⟨"Scrubward$Ints", "set", "(II)V"⟩, ⟨"Scrubward$Ints", "fill", "(I)V"⟩, ⟨"Scrubward$Ints", "sum", "()I"⟩, ⟨"Scrubward$Log", "<init>", "()V"⟩, ⟨"Scrubward$Log", "empty", "()V"⟩, ⟨"Scrubward$Log", "add", "(III)V"⟩, ⟨"Scrubward$Log", "guiltyOf", "(II)I"⟩, ⟨"Scrubward$Log", "isGuilty", "(III)Z"⟩, ⟨"Scrubward$Log", "suspectOf", "(IIII)I"⟩, ⟨"Scrubward$Log", "guiltyCell", "(I)I"⟩, ⟨"Scrubward$Log", "isToldAgain", "(I)Z"⟩, ⟨"Scrubward$Log", "isMendedIn", "(II)Z"⟩, ⟨"Scrubward$Log", "isInOrder", "()Z"⟩, ⟨"Scrubward$Memory", "<init>", "()V"⟩, ⟨"Scrubward$Memory", "wipe", "(I)V"⟩, ⟨"Scrubward$Memory", "put", "(II)V"⟩, ⟨"Scrubward$Memory", "asStuck", "(II)I"⟩, ⟨"Scrubward$Memory", "open", "(I)V"⟩, ⟨"Scrubward$Memory", "turnDrawnBit", "(I)V"⟩, ⟨"Scrubward$Memory", "draw", "()I"⟩, ⟨"Scrubward$Memory", "beginTick", "()V"⟩, ⟨"Scrubward$Memory", "isRefreshedAt", "(I)Z"⟩, ⟨"Scrubward$Memory", "leaksWithin", "(I)I"⟩, ⟨"Scrubward$Memory", "isLeakable", "(II)Z"⟩, ⟨"Scrubward$Memory", "isOverWithin", "(II)Z"⟩, ⟨"Scrubward$Memory", "isInOrder", "()Z"⟩, ⟨"Scrubward", "<init>", "()V"⟩, ⟨"Scrubward", "code", "(II)I"⟩, ⟨"Scrubward", "write", "(II)I"⟩, ⟨"Scrubward", "read", "(I)I"⟩, ⟨"Scrubward", "ray", "(II)I"⟩, ⟨"Scrubward", "stick", "(IIZ)I"⟩, ⟨"Scrubward", "weak", "(III)I"⟩, ⟨"Scrubward", "hammer", "(III)I"⟩, ⟨"Scrubward", "run", "(IIIZZ)I"⟩, ⟨"Scrubward", "spare", "(II)I"⟩, ⟨"Scrubward", "retire", "(IZ)I"⟩, ⟨"Scrubward", "pass", "(I)I"⟩, ⟨"Scrubward", "clear", "()I"⟩, ⟨"Scrubward", "call", "()I"⟩, ⟨"Scrubward", "column", "(I)I"⟩, ⟨"Scrubward", "encode", "(I)I"⟩, ⟨"Scrubward", "decode", "(II)I"⟩, ⟨"Scrubward", "fooled", "(I)I"⟩, ⟨"Scrubward", "ofWord", "(II)I"⟩, ⟨"Scrubward", "ofLine", "(III)I"⟩, ⟨"Scrubward", "ofEntry", "(II)I"⟩, ⟨"Scrubward", "blame", "(IZ)I"⟩, ⟨"Scrubward", "board", "(I)I"⟩, ⟨"Scrubward", "health", "(I)D"⟩, ⟨"Scrubward", "tell", "(II)Ljava/lang/String;"⟩, ⟨"Scrubward", "wouldRead", "(I)I"⟩, ⟨"Scrubward", "wouldSpare", "(I)I"⟩, ⟨"Scrubward", "wouldLeak", "(I)I"⟩, ⟨"Scrubward", "isSound", "()Z"⟩, ⟨"Scrubward", "digest", "()J"⟩, ⟨"Scrubward", "checkAddress", "(I)V"⟩, ⟨"Scrubward", "checkBank", "(I)V"⟩, ⟨"Scrubward", "checkRow", "(II)V"⟩, ⟨"Scrubward", "checkTicks", "(I)V"⟩, ⟨"Scrubward", "checkData", "(I)V"⟩, ⟨"Scrubward", "checkNotRetired", "(I)V"⟩, ⟨"Scrubward", "firstAddress", "(II)I"⟩, ⟨"Scrubward", "twinOf", "(I)I"⟩, ⟨"Scrubward", "lineAt", "(I)I"⟩, ⟨"Scrubward", "cellAt", "(I)I"⟩, ⟨"Scrubward", "wordAt", "(I)I"⟩, ⟨"Scrubward", "rowOn", "(II)I"⟩, ⟨"Scrubward", "rowsHaveOwnLines", "()Z"⟩, ⟨"Scrubward", "isPoisoned", "(I)Z"⟩, ⟨"Scrubward", "isRetired", "(I)Z"⟩, ⟨"Scrubward", "dataAt", "(I)I"⟩, ⟨"Scrubward", "signOf", "(I)C"⟩, ⟨"Scrubward", "stuckIn", "(I)I"⟩, ⟨"Scrubward", "uncleanIn", "(I)I"⟩, ⟨"Scrubward", "store", "(II)V"⟩, ⟨"Scrubward", "replace", "(II)V"⟩, ⟨"Scrubward", "report", "(IZ)V"⟩, ⟨"Scrubward", "readTwin", "(I)I"⟩, ⟨"Scrubward", "scrubSteps", "()V"⟩, ⟨"Scrubward", "moveRow", "(III)V"⟩, ⟨"Scrubward", "mix", "(JJ)J"⟩, ⟨"Scrubward", "mixBank", "(JI)J"⟩, ⟨"ScrubwardLaw$Out", "<init>", "()V"⟩, ⟨"ScrubwardModel", "<init>", "()V"⟩, ⟨"ScrubwardModel", "no", "(I)I"⟩, ⟨"ScrubwardModel", "in", "(III)Z"⟩, ⟨"ScrubwardModel", "has", "(II)Z"⟩, ⟨"ScrubwardModel", "weight", "(I)I"⟩, ⟨"ScrubwardModel", "dataColumns", "(I)I"⟩, ⟨"ScrubwardModel", "columnsOf", "(II)[I"⟩, ⟨"ScrubwardModel", "bits", "()I"⟩, ⟨"ScrubwardModel", "syndrome", "(I)I"⟩, ⟨"ScrubwardModel", "encoded", "(I)I"⟩, ⟨"ScrubwardModel", "bitOf", "(I)I"⟩, ⟨"ScrubwardModel", "kind", "(I)I"⟩, ⟨"ScrubwardModel", "mended", "(I)I"⟩, ⟨"ScrubwardModel", "dataOf", "(I)I"⟩, ⟨"ScrubwardModel", "lineOf", "(I)I"⟩, ⟨"ScrubwardModel", "wordAt", "(I)I"⟩, ⟨"ScrubwardModel", "put", "(III)V"⟩, ⟨"ScrubwardModel", "putAt", "(II)V"⟩, ⟨"ScrubwardModel", "draw", "()I"⟩, ⟨"ScrubwardModel", "open", "(I)V"⟩, ⟨"ScrubwardModel", "note", "(II)V"⟩, ⟨"ScrubwardModel", "mirror", "(I)I"⟩, ⟨"ScrubwardModel", "writeAt", "(II)V"⟩, ⟨"ScrubwardModel", "take", "(I)I"⟩, ⟨"ScrubwardModel", "readAt", "(I)I"⟩, ⟨"ScrubwardModel", "leak", "()V"⟩, ⟨"ScrubwardModel", "patrol", "()V"⟩, ⟨"ScrubwardModel", "tick", "()V"⟩, ⟨"ScrubwardModel", "isAddress", "(I)Z"⟩, ⟨"ScrubwardModel", "code", "(II)I"⟩, ⟨"ScrubwardModel", "write", "(II)I"⟩, ⟨"ScrubwardModel", "read", "(I)I"⟩, ⟨"ScrubwardModel", "ray", "(II)I"⟩, ⟨"ScrubwardModel", "stick", "(IIZ)I"⟩, ⟨"ScrubwardModel", "weak", "(III)I"⟩, ⟨"ScrubwardModel", "hammer", "(III)I"⟩, ⟨"ScrubwardModel", "run", "(IIIZZ)I"⟩, ⟨"ScrubwardModel", "spare", "(II)I"⟩, ⟨"ScrubwardModel", "retire", "(IZ)I"⟩, ⟨"ScrubwardModel", "many", "([Z)I"⟩, ⟨"ScrubwardModel", "pass", "(I)I"⟩, ⟨"ScrubwardModel", "clear", "()I"⟩, ⟨"ScrubwardModel", "call", "()I"⟩, ⟨"ScrubwardModel", "column", "(I)I"⟩, ⟨"ScrubwardModel", "encode", "(I)I"⟩, ⟨"ScrubwardModel", "decode", "(II)I"⟩, ⟨"ScrubwardModel", "fooledNow", "(I)I"⟩, ⟨"ScrubwardModel", "fooled", "(I)I"⟩, ⟨"ScrubwardModel", "cells", "(Ljava/util/List;II)I"⟩, ⟨"ScrubwardModel", "wordNow", "(II)I"⟩, ⟨"ScrubwardModel", "ofWord", "(II)I"⟩, ⟨"ScrubwardModel", "unclean", "(I)I"⟩, ⟨"ScrubwardModel", "rowOf", "(I)I"⟩, ⟨"ScrubwardModel", "lineNow", "(II)I"⟩, ⟨"ScrubwardModel", "ofLine", "(III)I"⟩, ⟨"ScrubwardModel", "ofEntry", "(II)I"⟩, ⟨"ScrubwardModel", "isMended", "(II)Z"⟩, ⟨"ScrubwardModel", "spread", "(IIIZ)I"⟩, ⟨"ScrubwardModel", "twice", "(I)I"⟩, ⟨"ScrubwardModel", "blameNow", "(IZ)I"⟩, ⟨"ScrubwardModel", "blame", "(IZ)I"⟩, ⟨"ScrubwardModel", "boardNow", "(I)I"⟩, ⟨"ScrubwardModel", "board", "(I)I"⟩, ⟨"ScrubwardModel", "healthNow", "(I)D"⟩, ⟨"ScrubwardModel", "health", "(I)D"⟩, ⟨"ScrubwardModel", "tell", "(II)Ljava/lang/String;"⟩, ⟨"ScrubwardModel", "wouldTell", "(I)I"⟩, ⟨"ScrubwardModel", "wouldReadNow", "(I)I"⟩, ⟨"ScrubwardModel", "wouldRead", "(I)I"⟩, ⟨"ScrubwardModel", "wouldSpareNow", "(I)I"⟩, ⟨"ScrubwardModel", "wouldSpare", "(I)I"⟩, ⟨"ScrubwardModel", "isStuck", "([I)Z"⟩, ⟨"ScrubwardModel", "wouldLeak", "([II)Z"⟩, ⟨"ScrubwardModel", "wouldLeakNow", "(I)I"⟩, ⟨"ScrubwardModel", "areOne", "([I[I)Z"⟩, ⟨"ScrubwardModel", "wouldLeak", "(I)I"⟩, ⟨"ScrubwardModel", "isSoundNow", "()Z"⟩, ⟨"ScrubwardModel", "isSound", "()Z"⟩, ⟨"ScrubwardModel", "digest", "()J"⟩, ⟨"ScrubwardLaw", "code", "(LScrubward;IILScrubwardLaw$Out;)I"⟩, ⟨"ScrubwardLaw", "write", "(LScrubward;IILScrubwardLaw$Out;)I"⟩, ⟨"ScrubwardLaw", "read", "(LScrubward;ILScrubwardLaw$Out;)I"⟩, ⟨"ScrubwardLaw", "ray", "(LScrubward;IILScrubwardLaw$Out;)I"⟩, ⟨"ScrubwardLaw", "stick", "(LScrubward;IIZLScrubwardLaw$Out;)I"⟩, ⟨"ScrubwardLaw", "weak", "(LScrubward;IIILScrubwardLaw$Out;)I"⟩, ⟨"ScrubwardLaw", "hammer", "(LScrubward;IIILScrubwardLaw$Out;)I"⟩, ⟨"ScrubwardLaw", "run", "(LScrubward;IIIZZLScrubwardLaw$Out;)I"⟩, ⟨"ScrubwardLaw", "spare", "(LScrubward;IILScrubwardLaw$Out;)I"⟩, ⟨"ScrubwardLaw", "retire", "(LScrubward;IZLScrubwardLaw$Out;)I"⟩, ⟨"ScrubwardLaw", "pass", "(LScrubward;ILScrubwardLaw$Out;)I"⟩, ⟨"ScrubwardLaw", "column", "(LScrubward;ILScrubwardLaw$Out;)I"⟩, ⟨"ScrubwardLaw", "encode", "(LScrubward;ILScrubwardLaw$Out;)I"⟩, ⟨"ScrubwardLaw", "decode", "(LScrubward;IILScrubwardLaw$Out;)I"⟩, ⟨"ScrubwardLaw", "fooled", "(LScrubward;ILScrubwardLaw$Out;)I"⟩, ⟨"ScrubwardLaw", "ofWord", "(LScrubward;IILScrubwardLaw$Out;)I"⟩, ⟨"ScrubwardLaw", "ofLine", "(LScrubward;IIILScrubwardLaw$Out;)I"⟩, ⟨"ScrubwardLaw", "ofEntry", "(LScrubward;IILScrubwardLaw$Out;)I"⟩, ⟨"ScrubwardLaw", "blame", "(LScrubward;IZLScrubwardLaw$Out;)I"⟩, ⟨"ScrubwardLaw", "board", "(LScrubward;ILScrubwardLaw$Out;)I"⟩, ⟨"ScrubwardLaw", "health", "(LScrubward;ILScrubwardLaw$Out;)I"⟩, ⟨"ScrubwardLaw", "tell", "(LScrubward;IILScrubwardLaw$Out;)I"⟩, ⟨"ScrubwardLaw", "wouldRead", "(LScrubward;ILScrubwardLaw$Out;)I"⟩, ⟨"ScrubwardLaw", "wouldSpare", "(LScrubward;ILScrubwardLaw$Out;)I"⟩, ⟨"ScrubwardLaw", "wouldLeak", "(LScrubward;ILScrubwardLaw$Out;)I"⟩, ⟨"ScrubwardLaw", "law", "([I)Z"⟩, ⟨"java/lang/String", "<init>", "(Ljava/lang/StringBuilder;)V"⟩, ⟨"java/lang/String", "<init>", "(Ljava/lang/AbstractStringBuilder;Ljava/lang/Void;)V"⟩, ⟨"java/util/Objects", "checkIndex", "(II)I"⟩, ⟨"java/lang/StringLatin1", "canEncode", "(C)Z"⟩, ⟨"jdk/internal/util/Preconditions", "checkIndex", "(IILjava/util/function/BiFunction;)I"⟩, ⟨"java/lang/StringBuilder", "append", "(C)Ljava/lang/StringBuilder;"⟩, ⟨"java/lang/StringBuilder", "<init>", "()V"⟩, ⟨"java/lang/StringBuilder", "toString", "()Ljava/lang/String;"⟩, ⟨"java/lang/AbstractStringBuilder", "append", "(C)Ljava/lang/AbstractStringBuilder;"⟩, ⟨"java/lang/AbstractStringBuilder", "ensureCapacityInternal", "(I)V"⟩, ⟨"java/lang/AbstractStringBuilder", "getValue", "()[B"⟩, ⟨"java/lang/AbstractStringBuilder", "<init>", "(I)V"⟩, ⟨"java/lang/AbstractStringBuilder", "isLatin1", "()Z"⟩, ⟨"java/lang/AbstractStringBuilder", "length", "()I"⟩, ⟨"java/lang/Integer", "bitCount", "(I)I"⟩, ⟨"java/util/Arrays", "checkLength", "(II)V"⟩, ⟨"java/util/Arrays", "copyOfRangeByte", "([BII)[B"⟩, ⟨"java/util/Arrays", "copyOfRange", "([BII)[B"⟩, ⟨"java/util/Arrays", "copyOf", "([Ljava/lang/Object;I)[Ljava/lang/Object;"⟩, ⟨"java/util/Arrays", "copyOf", "([Ljava/lang/Object;ILjava/lang/Class;)[Ljava/lang/Object;"⟩, ⟨"jdk/internal/util/ArraysSupport", "newLength", "(III)I"⟩, ⟨"java/util/ArrayList", "add", "(Ljava/lang/Object;[Ljava/lang/Object;I)V"⟩, ⟨"java/util/ArrayList", "add", "(Ljava/lang/Object;)Z"⟩, ⟨"java/util/ArrayList", "elementData", "(I)Ljava/lang/Object;"⟩, ⟨"java/util/ArrayList", "get", "(I)Ljava/lang/Object;"⟩, ⟨"java/util/ArrayList", "grow", "(I)[Ljava/lang/Object;"⟩, ⟨"java/util/ArrayList", "grow", "()[Ljava/lang/Object;"⟩, ⟨"java/util/ArrayList", "<init>", "()V"⟩, ⟨"java/util/ArrayList", "size", "()I"⟩, ⟨"java/util/AbstractCollection", "<init>", "()V"⟩, ⟨"java/util/AbstractList", "<init>", "()V"⟩] : List MethodName).getD y ⟨"", "", ""⟩
def zmb (y : Nat) : ByteArray := ([prog_2_method_1_code, prog_2_method_2_code, prog_2_method_3_code, prog_2_method_4_code, prog_2_method_5_code, prog_2_method_6_code, prog_2_method_7_code, prog_2_method_8_code, prog_2_method_9_code, prog_2_method_10_code, prog_2_method_11_code, prog_2_method_12_code, prog_2_method_13_code, prog_2_method_14_code, prog_2_method_15_code, prog_2_method_16_code, prog_2_method_17_code, prog_2_method_18_code, prog_2_method_19_code, prog_3_method_1_code, prog_3_method_2_code, prog_3_method_3_code, prog_3_method_4_code, prog_3_method_5_code, prog_4_method_1_code, prog_4_method_2_code, prog_4_method_3_code, prog_4_method_4_code, prog_4_method_5_code, prog_5_method_1_code, prog_5_method_2_code, prog_5_method_3_code, prog_5_method_4_code, prog_5_method_5_code, prog_5_method_6_code, prog_5_method_7_code, prog_5_method_8_code, prog_5_method_9_code, prog_5_method_10_code, prog_6_method_1_code, prog_6_method_2_code, prog_6_method_3_code, prog_6_method_4_code, prog_6_method_5_code, prog_6_method_6_code, prog_6_method_7_code, prog_6_method_8_code, prog_6_method_9_code, prog_6_method_10_code, prog_6_method_11_code, prog_6_method_12_code, prog_6_method_13_code, prog_1_method_1_code, prog_1_method_2_code, prog_1_method_3_code, prog_1_method_4_code, prog_1_method_5_code, prog_1_method_6_code, prog_1_method_7_code, prog_1_method_8_code, prog_1_method_9_code, prog_1_method_10_code, prog_1_method_11_code, prog_1_method_12_code, prog_1_method_13_code, prog_1_method_14_code, prog_1_method_15_code, prog_1_method_16_code, prog_1_method_17_code, prog_1_method_18_code, prog_1_method_19_code, prog_1_method_20_code, prog_1_method_21_code, prog_1_method_22_code, prog_1_method_23_code, prog_1_method_24_code, prog_1_method_25_code, prog_1_method_26_code, prog_1_method_27_code, prog_1_method_28_code, prog_1_method_29_code, prog_1_method_30_code, prog_1_method_31_code, prog_1_method_32_code, prog_1_method_33_code, prog_1_method_34_code, prog_1_method_35_code, prog_1_method_36_code, prog_1_method_37_code, prog_1_method_38_code, prog_1_method_39_code, prog_1_method_40_code, prog_1_method_41_code, prog_1_method_42_code, prog_1_method_43_code, prog_1_method_44_code, prog_1_method_45_code, prog_1_method_46_code, prog_1_method_47_code, prog_1_method_48_code, prog_1_method_49_code, prog_1_method_50_code, prog_1_method_51_code, prog_1_method_52_code, prog_1_method_53_code, prog_1_method_54_code, prog_1_method_55_code, prog_1_method_56_code, prog_1_method_57_code, prog_8_method_1_code, prog_9_method_1_code, prog_9_method_3_code, prog_9_method_4_code, prog_9_method_5_code, prog_9_method_6_code, prog_9_method_7_code, prog_9_method_8_code, prog_9_method_9_code, prog_9_method_10_code, prog_9_method_11_code, prog_9_method_12_code, prog_9_method_13_code, prog_9_method_14_code, prog_9_method_15_code, prog_9_method_16_code, prog_9_method_17_code, prog_9_method_18_code, prog_9_method_19_code, prog_9_method_20_code, prog_9_method_21_code, prog_9_method_22_code, prog_9_method_23_code, prog_9_method_24_code, prog_9_method_25_code, prog_9_method_26_code, prog_9_method_27_code, prog_9_method_28_code, prog_9_method_29_code, prog_9_method_30_code, prog_9_method_31_code, prog_9_method_32_code, prog_9_method_33_code, prog_9_method_34_code, prog_9_method_35_code, prog_9_method_36_code, prog_9_method_37_code, prog_9_method_38_code, prog_9_method_39_code, prog_9_method_40_code, prog_9_method_41_code, prog_9_method_42_code, prog_9_method_43_code, prog_9_method_44_code, prog_9_method_45_code, prog_9_method_46_code, prog_9_method_47_code, prog_9_method_48_code, prog_9_method_49_code, prog_9_method_50_code, prog_9_method_51_code, prog_9_method_52_code, prog_9_method_53_code, prog_9_method_54_code, prog_9_method_55_code, prog_9_method_56_code, prog_9_method_57_code, prog_9_method_58_code, prog_9_method_59_code, prog_9_method_60_code, prog_9_method_61_code, prog_9_method_62_code, prog_9_method_63_code, prog_9_method_64_code, prog_9_method_65_code, prog_9_method_66_code, prog_9_method_67_code, prog_9_method_68_code, prog_9_method_69_code, prog_9_method_70_code, prog_9_method_71_code, prog_9_method_72_code, prog_9_method_73_code, prog_9_method_74_code, prog_9_method_75_code, prog_9_method_76_code, prog_9_method_77_code, prog_9_method_78_code, prog_9_method_79_code, prog_9_method_80_code, method_2_code, method_3_code, method_4_code, method_5_code, method_6_code, method_7_code, method_8_code, method_9_code, method_10_code, method_11_code, method_12_code, method_13_code, method_14_code, method_15_code, method_16_code, method_17_code, method_18_code, method_19_code, method_20_code, method_21_code, method_22_code, method_23_code, method_24_code, method_25_code, method_26_code, code, prog_25_method_53_code, prog_25_method_150_code, prog_39_method_17_code, prog_27_method_3_code, prog_43_method_11_code, prog_26_method_14_code, prog_26_method_1_code, prog_26_method_42_code, prog_11_method_31_code, prog_11_method_9_code, prog_11_method_64_code, prog_11_method_2_code, prog_11_method_68_code, prog_11_method_6_code, prog_20_method_49_code, prog_36_method_131_code, prog_36_method_133_code, prog_36_method_132_code, prog_36_method_119_code, prog_36_method_120_code, prog_42_method_27_code, prog_35_method_24_code, prog_35_method_25_code, prog_35_method_18_code, prog_35_method_20_code, prog_35_method_6_code, prog_35_method_7_code, prog_35_method_2_code, prog_35_method_8_code, prog_33_method_1_code, prog_34_method_1_code] : List ByteArray).getD y ⟨#[]⟩
def zmL (y : Nat) : Nat := ([1, 2, 3, 4, 4, 1, 1, 2, 4, 2, 2, 3, 1, 3, 2, 6, 5, 2, 3, 1, 1, 4, 4, 5, 2, 2, 3, 3, 3, 1, 1, 4, 5, 8, 4, 6, 3, 3, 1, 1, 3, 3, 6, 4, 5, 2, 3, 2, 7, 4, 5, 3, 2, 3, 4, 3, 3, 4, 4, 6, 7, 4, 3, 3, 2, 1, 2, 2, 3, 2, 4, 5, 3, 5, 2, 5, 5, 4, 9, 2, 1, 5, 1, 1, 2, 1, 2, 2, 2, 1, 2, 2, 2, 4, 2, 2, 2, 2, 2, 2, 4, 3, 3, 5, 4, 4, 9, 4, 8, 1, 3, 2, 3, 2, 3, 3, 6, 1, 4, 2, 4, 2, 2, 2, 2, 2, 7, 3, 1, 4, 3, 1, 3, 4, 4, 3, 5, 2, 1, 7, 3, 2, 3, 4, 4, 6, 7, 8, 3, 6, 3, 2, 1, 2, 2, 4, 4, 2, 6, 5, 3, 7, 3, 3, 4, 3, 3, 9, 5, 5, 3, 3, 2, 4, 2, 7, 2, 4, 2, 6, 2, 3, 5, 6, 2, 2, 5, 1, 7, 5, 5, 4, 5, 6, 6, 6, 8, 5, 5, 4, 4, 4, 5, 4, 5, 6, 5, 5, 4, 4, 5, 4, 4, 4, 8, 2, 5, 2, 1, 3, 2, 1, 1, 2, 3, 1, 2, 1, 1, 1, 2, 5, 3, 2, 4, 4, 4, 2, 2, 2, 4, 1, 1, 1, 1, 1] : List Nat).getD y 0
def zmr (y : Nat) : Option FieldType := ([(Option.none : Option Jvm.ClassFile.FieldType), (Option.some Jvm.ClassFile.FieldType.boolean), (Option.some Jvm.ClassFile.FieldType.int), (Option.none : Option Jvm.ClassFile.FieldType), (Option.none : Option Jvm.ClassFile.FieldType), (Option.some Jvm.ClassFile.FieldType.int), (Option.some Jvm.ClassFile.FieldType.int), (Option.some Jvm.ClassFile.FieldType.boolean), (Option.some Jvm.ClassFile.FieldType.int), (Option.some Jvm.ClassFile.FieldType.int), (Option.some Jvm.ClassFile.FieldType.boolean), (Option.some Jvm.ClassFile.FieldType.int), (Option.some Jvm.ClassFile.FieldType.int), (Option.some Jvm.ClassFile.FieldType.int), (Option.some Jvm.ClassFile.FieldType.int), (Option.some Jvm.ClassFile.FieldType.int), (Option.some Jvm.ClassFile.FieldType.int), (Option.some Jvm.ClassFile.FieldType.int), (Option.some Jvm.ClassFile.FieldType.boolean), (Option.none : Option Jvm.ClassFile.FieldType), (Option.some Jvm.ClassFile.FieldType.boolean), (Option.none : Option Jvm.ClassFile.FieldType), (Option.none : Option Jvm.ClassFile.FieldType), (Option.some Jvm.ClassFile.FieldType.int), (Option.none : Option Jvm.ClassFile.FieldType), (Option.some Jvm.ClassFile.FieldType.int), (Option.none : Option Jvm.ClassFile.FieldType), (Option.none : Option Jvm.ClassFile.FieldType), (Option.some Jvm.ClassFile.FieldType.int), (Option.none : Option Jvm.ClassFile.FieldType), (Option.none : Option Jvm.ClassFile.FieldType), (Option.none : Option Jvm.ClassFile.FieldType), (Option.some Jvm.ClassFile.FieldType.int), (Option.some Jvm.ClassFile.FieldType.boolean), (Option.some Jvm.ClassFile.FieldType.int), (Option.some Jvm.ClassFile.FieldType.int), (Option.some Jvm.ClassFile.FieldType.boolean), (Option.some Jvm.ClassFile.FieldType.boolean), (Option.some Jvm.ClassFile.FieldType.boolean), (Option.none : Option Jvm.ClassFile.FieldType), (Option.none : Option Jvm.ClassFile.FieldType), (Option.none : Option Jvm.ClassFile.FieldType), (Option.some Jvm.ClassFile.FieldType.int), (Option.none : Option Jvm.ClassFile.FieldType), (Option.none : Option Jvm.ClassFile.FieldType), (Option.some Jvm.ClassFile.FieldType.int), (Option.none : Option Jvm.ClassFile.FieldType), (Option.some Jvm.ClassFile.FieldType.boolean), (Option.some Jvm.ClassFile.FieldType.int), (Option.some Jvm.ClassFile.FieldType.boolean), (Option.some Jvm.ClassFile.FieldType.boolean), (Option.some Jvm.ClassFile.FieldType.boolean), (Option.none : Option Jvm.ClassFile.FieldType), (Option.some Jvm.ClassFile.FieldType.int), (Option.some Jvm.ClassFile.FieldType.int), (Option.some Jvm.ClassFile.FieldType.int), (Option.some Jvm.ClassFile.FieldType.int), (Option.some Jvm.ClassFile.FieldType.int), (Option.some Jvm.ClassFile.FieldType.int), (Option.some Jvm.ClassFile.FieldType.int), (Option.some Jvm.ClassFile.FieldType.int), (Option.some Jvm.ClassFile.FieldType.int), (Option.some Jvm.ClassFile.FieldType.int), (Option.some Jvm.ClassFile.FieldType.int), (Option.some Jvm.ClassFile.FieldType.int), (Option.some Jvm.ClassFile.FieldType.int), (Option.some Jvm.ClassFile.FieldType.int), (Option.some Jvm.ClassFile.FieldType.int), (Option.some Jvm.ClassFile.FieldType.int), (Option.some Jvm.ClassFile.FieldType.int), (Option.some Jvm.ClassFile.FieldType.int), (Option.some Jvm.ClassFile.FieldType.int), (Option.some Jvm.ClassFile.FieldType.int), (Option.some Jvm.ClassFile.FieldType.int), (Option.some Jvm.ClassFile.FieldType.int), (Option.some Jvm.ClassFile.FieldType.double), (Option.some (Jvm.ClassFile.FieldType.object "java/lang/String")), (Option.some Jvm.ClassFile.FieldType.int), (Option.some Jvm.ClassFile.FieldType.int), (Option.some Jvm.ClassFile.FieldType.int), (Option.some Jvm.ClassFile.FieldType.boolean), (Option.some Jvm.ClassFile.FieldType.long), (Option.none : Option Jvm.ClassFile.FieldType), (Option.none : Option Jvm.ClassFile.FieldType), (Option.none : Option Jvm.ClassFile.FieldType), (Option.none : Option Jvm.ClassFile.FieldType), (Option.none : Option Jvm.ClassFile.FieldType), (Option.none : Option Jvm.ClassFile.FieldType), (Option.some Jvm.ClassFile.FieldType.int), (Option.some Jvm.ClassFile.FieldType.int), (Option.some Jvm.ClassFile.FieldType.int), (Option.some Jvm.ClassFile.FieldType.int), (Option.some Jvm.ClassFile.FieldType.int), (Option.some Jvm.ClassFile.FieldType.int), (Option.some Jvm.ClassFile.FieldType.boolean), (Option.some Jvm.ClassFile.FieldType.boolean), (Option.some Jvm.ClassFile.FieldType.boolean), (Option.some Jvm.ClassFile.FieldType.int), (Option.some Jvm.ClassFile.FieldType.char), (Option.some Jvm.ClassFile.FieldType.int), (Option.some Jvm.ClassFile.FieldType.int), (Option.none : Option Jvm.ClassFile.FieldType), (Option.none : Option Jvm.ClassFile.FieldType), (Option.none : Option Jvm.ClassFile.FieldType), (Option.some Jvm.ClassFile.FieldType.int), (Option.none : Option Jvm.ClassFile.FieldType), (Option.none : Option Jvm.ClassFile.FieldType), (Option.some Jvm.ClassFile.FieldType.long), (Option.some Jvm.ClassFile.FieldType.long), (Option.none : Option Jvm.ClassFile.FieldType), (Option.none : Option Jvm.ClassFile.FieldType), (Option.some Jvm.ClassFile.FieldType.int), (Option.some Jvm.ClassFile.FieldType.boolean), (Option.some Jvm.ClassFile.FieldType.boolean), (Option.some Jvm.ClassFile.FieldType.int), (Option.some Jvm.ClassFile.FieldType.int), (Option.some (Jvm.ClassFile.FieldType.array Jvm.ClassFile.FieldType.int)), (Option.some Jvm.ClassFile.FieldType.int), (Option.some Jvm.ClassFile.FieldType.int), (Option.some Jvm.ClassFile.FieldType.int), (Option.some Jvm.ClassFile.FieldType.int), (Option.some Jvm.ClassFile.FieldType.int), (Option.some Jvm.ClassFile.FieldType.int), (Option.some Jvm.ClassFile.FieldType.int), (Option.some Jvm.ClassFile.FieldType.int), (Option.some Jvm.ClassFile.FieldType.int), (Option.none : Option Jvm.ClassFile.FieldType), (Option.none : Option Jvm.ClassFile.FieldType), (Option.some Jvm.ClassFile.FieldType.int), (Option.none : Option Jvm.ClassFile.FieldType), (Option.none : Option Jvm.ClassFile.FieldType), (Option.some Jvm.ClassFile.FieldType.int), (Option.none : Option Jvm.ClassFile.FieldType), (Option.some Jvm.ClassFile.FieldType.int), (Option.some Jvm.ClassFile.FieldType.int), (Option.none : Option Jvm.ClassFile.FieldType), (Option.none : Option Jvm.ClassFile.FieldType), (Option.none : Option Jvm.ClassFile.FieldType), (Option.some Jvm.ClassFile.FieldType.boolean), (Option.some Jvm.ClassFile.FieldType.int), (Option.some Jvm.ClassFile.FieldType.int), (Option.some Jvm.ClassFile.FieldType.int), (Option.some Jvm.ClassFile.FieldType.int), (Option.some Jvm.ClassFile.FieldType.int), (Option.some Jvm.ClassFile.FieldType.int), (Option.some Jvm.ClassFile.FieldType.int), (Option.some Jvm.ClassFile.FieldType.int), (Option.some Jvm.ClassFile.FieldType.int), (Option.some Jvm.ClassFile.FieldType.int), (Option.some Jvm.ClassFile.FieldType.int), (Option.some Jvm.ClassFile.FieldType.int), (Option.some Jvm.ClassFile.FieldType.int), (Option.some Jvm.ClassFile.FieldType.int), (Option.some Jvm.ClassFile.FieldType.int), (Option.some Jvm.ClassFile.FieldType.int), (Option.some Jvm.ClassFile.FieldType.int), (Option.some Jvm.ClassFile.FieldType.int), (Option.some Jvm.ClassFile.FieldType.int), (Option.some Jvm.ClassFile.FieldType.int), (Option.some Jvm.ClassFile.FieldType.int), (Option.some Jvm.ClassFile.FieldType.int), (Option.some Jvm.ClassFile.FieldType.int), (Option.some Jvm.ClassFile.FieldType.int), (Option.some Jvm.ClassFile.FieldType.int), (Option.some Jvm.ClassFile.FieldType.int), (Option.some Jvm.ClassFile.FieldType.int), (Option.some Jvm.ClassFile.FieldType.boolean), (Option.some Jvm.ClassFile.FieldType.int), (Option.some Jvm.ClassFile.FieldType.int), (Option.some Jvm.ClassFile.FieldType.int), (Option.some Jvm.ClassFile.FieldType.int), (Option.some Jvm.ClassFile.FieldType.int), (Option.some Jvm.ClassFile.FieldType.int), (Option.some Jvm.ClassFile.FieldType.double), (Option.some Jvm.ClassFile.FieldType.double), (Option.some (Jvm.ClassFile.FieldType.object "java/lang/String")), (Option.some Jvm.ClassFile.FieldType.int), (Option.some Jvm.ClassFile.FieldType.int), (Option.some Jvm.ClassFile.FieldType.int), (Option.some Jvm.ClassFile.FieldType.int), (Option.some Jvm.ClassFile.FieldType.int), (Option.some Jvm.ClassFile.FieldType.boolean), (Option.some Jvm.ClassFile.FieldType.boolean), (Option.some Jvm.ClassFile.FieldType.int), (Option.some Jvm.ClassFile.FieldType.boolean), (Option.some Jvm.ClassFile.FieldType.int), (Option.some Jvm.ClassFile.FieldType.boolean), (Option.some Jvm.ClassFile.FieldType.boolean), (Option.some Jvm.ClassFile.FieldType.long), (Option.some Jvm.ClassFile.FieldType.int), (Option.some Jvm.ClassFile.FieldType.int), (Option.some Jvm.ClassFile.FieldType.int), (Option.some Jvm.ClassFile.FieldType.int), (Option.some Jvm.ClassFile.FieldType.int), (Option.some Jvm.ClassFile.FieldType.int), (Option.some Jvm.ClassFile.FieldType.int), (Option.some Jvm.ClassFile.FieldType.int), (Option.some Jvm.ClassFile.FieldType.int), (Option.some Jvm.ClassFile.FieldType.int), (Option.some Jvm.ClassFile.FieldType.int), (Option.some Jvm.ClassFile.FieldType.int), (Option.some Jvm.ClassFile.FieldType.int), (Option.some Jvm.ClassFile.FieldType.int), (Option.some Jvm.ClassFile.FieldType.int), (Option.some Jvm.ClassFile.FieldType.int), (Option.some Jvm.ClassFile.FieldType.int), (Option.some Jvm.ClassFile.FieldType.int), (Option.some Jvm.ClassFile.FieldType.int), (Option.some Jvm.ClassFile.FieldType.int), (Option.some Jvm.ClassFile.FieldType.int), (Option.some Jvm.ClassFile.FieldType.int), (Option.some Jvm.ClassFile.FieldType.int), (Option.some Jvm.ClassFile.FieldType.int), (Option.some Jvm.ClassFile.FieldType.int), (Option.some Jvm.ClassFile.FieldType.boolean), (Option.none : Option Jvm.ClassFile.FieldType), (Option.none : Option Jvm.ClassFile.FieldType), (Option.some Jvm.ClassFile.FieldType.int), (Option.some Jvm.ClassFile.FieldType.boolean), (Option.some Jvm.ClassFile.FieldType.int), (Option.some (Jvm.ClassFile.FieldType.object "java/lang/StringBuilder")), (Option.none : Option Jvm.ClassFile.FieldType), (Option.some (Jvm.ClassFile.FieldType.object "java/lang/String")), (Option.some (Jvm.ClassFile.FieldType.object "java/lang/AbstractStringBuilder")), (Option.none : Option Jvm.ClassFile.FieldType), (Option.some (Jvm.ClassFile.FieldType.array Jvm.ClassFile.FieldType.byte)), (Option.none : Option Jvm.ClassFile.FieldType), (Option.some Jvm.ClassFile.FieldType.boolean), (Option.some Jvm.ClassFile.FieldType.int), (Option.some Jvm.ClassFile.FieldType.int), (Option.none : Option Jvm.ClassFile.FieldType), (Option.some (Jvm.ClassFile.FieldType.array Jvm.ClassFile.FieldType.byte)), (Option.some (Jvm.ClassFile.FieldType.array Jvm.ClassFile.FieldType.byte)), (Option.some (Jvm.ClassFile.FieldType.array (Jvm.ClassFile.FieldType.object "java/lang/Object"))), (Option.some (Jvm.ClassFile.FieldType.array (Jvm.ClassFile.FieldType.object "java/lang/Object"))), (Option.some Jvm.ClassFile.FieldType.int), (Option.none : Option Jvm.ClassFile.FieldType), (Option.some Jvm.ClassFile.FieldType.boolean), (Option.some (Jvm.ClassFile.FieldType.object "java/lang/Object")), (Option.some (Jvm.ClassFile.FieldType.object "java/lang/Object")), (Option.some (Jvm.ClassFile.FieldType.array (Jvm.ClassFile.FieldType.object "java/lang/Object"))), (Option.some (Jvm.ClassFile.FieldType.array (Jvm.ClassFile.FieldType.object "java/lang/Object"))), (Option.none : Option Jvm.ClassFile.FieldType), (Option.some Jvm.ClassFile.FieldType.int), (Option.none : Option Jvm.ClassFile.FieldType), (Option.none : Option Jvm.ClassFile.FieldType)] : List (Option FieldType)).getD y none
def zmh (y : Nat) : List (Nat × Nat × Nat × Nat) := ([[], [], [], [], [], [], [], [], [], [], [], [], [], [], [], [], [], [], [], [], [], [], [], [], [], [], [], [], [], [], [], [], [], [], [], [], [], [], [], [], [], [], [], [], [], [], [], [], [], [], [], [], [], [], [], [], [], [], [], [], [], [], [], [], [], [], [], [], [], [], [], [], [], [], [], [], [], [], [], [], [], [], [], [], [], [], [], [], [], [], [], [], [], [], [], [], [], [], [], [], [], [], [], [], [], [], [], [], [], [], [], [], [], [], [], [], [], [], [], [], [], [], [], [], [], [], [], [], [], [], [], [], [], [], [], [], [], [], [], [], [], [], [], [], [], [], [], [], [], [], [], [], [], [], [], [], [], [], [], [], [], [], [], [], [], [], [], [], [], [], [], [], [], [], [], [], [], [], [], [], [], [], [], [], [], [], [], [], [], [(0, 11, 14, 19)], [(0, 11, 14, 24), (0, 11, 18, 19), (0, 11, 22, 26)], [(0, 10, 13, 24), (0, 10, 16, 26)], [(0, 11, 14, 24), (0, 11, 18, 19)], [(0, 13, 16, 24), (0, 13, 20, 19), (0, 13, 24, 26)], [(0, 13, 16, 24), (0, 13, 20, 19), (0, 13, 24, 26)], [(0, 13, 16, 24), (0, 13, 20, 19)], [(0, 17, 20, 19)], [(0, 11, 14, 24), (0, 11, 18, 26)], [(0, 11, 14, 24)], [(0, 10, 13, 19), (0, 10, 16, 26)], [(0, 10, 13, 24)], [(0, 10, 13, 19)], [(0, 11, 14, 19)], [(0, 10, 13, 19)], [(0, 11, 14, 24), (0, 11, 18, 19)], [(0, 13, 16, 24), (0, 13, 20, 19)], [(0, 11, 14, 24), (0, 11, 18, 19)], [(0, 11, 14, 24)], [(0, 10, 13, 19)], [(0, 9, 12, 24)], [(0, 10, 13, 24)], [(0, 10, 13, 24)], [(0, 10, 13, 24)], [(0, 10, 13, 19)], [], [], [], [], [], [], [], [], [], [], [], [], [], [], [], [], [], [], [], [], [], [], [], [], [], [], [], [], [], [], [], []] : List (List (Nat × Nat × Nat × Nat))).getD y []
def zmo (y : Nat) : Nat := ([0, 0, 0, 0, 0, 0, 0, 0, 0, 0, 0, 0, 0, 0, 0, 0, 0, 0, 0, 1, 1, 1, 1, 1, 2, 2, 2, 2, 2, 3, 3, 3, 3, 3, 3, 3, 3, 3, 3, 4, 4, 4, 4, 4, 4, 4, 4, 4, 4, 4, 4, 4, 5, 5, 5, 5, 5, 5, 5, 5, 5, 5, 5, 5, 5, 5, 5, 5, 5, 5, 5, 5, 5, 5, 5, 5, 5, 5, 5, 5, 5, 5, 5, 5, 5, 5, 5, 5, 5, 5, 5, 5, 5, 5, 5, 5, 5, 5, 5, 5, 5, 5, 5, 5, 5, 5, 5, 5, 5, 6, 7, 7, 7, 7, 7, 7, 7, 7, 7, 7, 7, 7, 7, 7, 7, 7, 7, 7, 7, 7, 7, 7, 7, 7, 7, 7, 7, 7, 7, 7, 7, 7, 7, 7, 7, 7, 7, 7, 7, 7, 7, 7, 7, 7, 7, 7, 7, 7, 7, 7, 7, 7, 7, 7, 7, 7, 7, 7, 7, 7, 7, 7, 7, 7, 7, 7, 7, 7, 7, 7, 7, 7, 7, 7, 7, 7, 7, 7, 7, 8, 8, 8, 8, 8, 8, 8, 8, 8, 8, 8, 8, 8, 8, 8, 8, 8, 8, 8, 8, 8, 8, 8, 8, 8, 8, 9, 9, 10, 11, 12, 13, 13, 13, 14, 14, 14, 14, 14, 14, 15, 16, 16, 16, 16, 16, 17, 18, 18, 18, 18, 18, 18, 18, 18, 19, 20] : List Nat).getD y 0
def zmp (y : Nat) : Nat := ([0, 1, 1, 2, 0, 0, 0, 1, 1, 1, 1, 1, 1, 1, 1, 1, 2, 1, 0, 0, 0, 3, 1, 2, 1, 1, 2, 1, 0, 0, 0, 3, 2, 3, 4, 1, 1, 2, 0, 0, 1, 2, 2, 1, 1, 0, 0, 1, 1, 2, 2, 0, 0, 2, 2, 1, 2, 3, 3, 3, 5, 2, 2, 1, 0, 0, 1, 1, 2, 1, 2, 3, 2, 2, 1, 1, 2, 1, 1, 1, 0, 0, 1, 1, 2, 1, 1, 1, 2, 1, 1, 1, 1, 2, 0, 1, 1, 1, 1, 1, 1, 2, 2, 2, 1, 0, 3, 2, 2, 0, 0, 1, 3, 2, 1, 1, 2, 0, 1, 1, 1, 1, 1, 1, 1, 1, 3, 2, 0, 1, 2, 1, 2, 1, 1, 0, 0, 0, 1, 2, 2, 1, 2, 3, 3, 3, 5, 2, 2, 1, 1, 0, 0, 1, 1, 2, 1, 1, 3, 2, 2, 1, 1, 2, 3, 2, 2, 4, 1, 2, 2, 1, 1, 1, 1, 2, 1, 1, 1, 1, 1, 1, 2, 1, 2, 1, 0, 0, 0, 4, 4, 3, 4, 5, 5, 5, 7, 4, 4, 3, 3, 3, 4, 3, 4, 5, 4, 4, 3, 3, 4, 3, 3, 3, 1, 1, 2, 2, 1, 3, 1, 0, 0, 1, 1, 0, 1, 0, 0, 1, 2, 3, 3, 2, 3, 3, 3, 1, 1, 1, 1, 0, 0, 0, 0, 0] : List Nat).getD y 0
def zNF : List (String × Nat × String × String × String × String) := [("Scrubward$Memory", 69, "Scrubward$Faults", "count", "I", "Scrubward"), ("Scrubward$Memory", 72, "Scrubward$Faults", "cells", "LScrubward$Ints;", "Scrubward"), ("Scrubward$Memory", 79, "Scrubward$Faults", "masks", "LScrubward$Ints;", "Scrubward"), ("Scrubward$Memory", 82, "Scrubward$Faults", "values", "LScrubward$Ints;", "Scrubward"), ("Scrubward", 55, "Scrubward$Code", "width", "I", "Scrubward"), ("Scrubward", 148, "Scrubward$Memory", "stuck", "LScrubward$Faults;", "Scrubward"), ("Scrubward", 167, "Scrubward$Faults", "count", "I", "Scrubward"), ("Scrubward", 172, "Scrubward$Memory", "weak", "LScrubward$Faults;", "Scrubward"), ("Scrubward", 186, "Scrubward$Memory", "counts", "LScrubward$Ints;", "Scrubward"), ("Scrubward", 201, "Scrubward$Memory", "period", "I", "Scrubward"), ("Scrubward", 204, "Scrubward$Memory", "limit", "I", "Scrubward"), ("Scrubward", 218, "Scrubward$Memory", "tick", "I", "Scrubward"), ("Scrubward", 229, "Scrubward$Log", "count", "I", "Scrubward"), ("Scrubward", 236, "Scrubward$Code", "columns", "LScrubward$Ints;", "Scrubward"), ("Scrubward", 279, "Scrubward$Memory", "freshAt", "LScrubward$Ints;", "Scrubward"), ("Scrubward", 292, "Scrubward$Log", "addresses", "LScrubward$Ints;", "Scrubward"), ("Scrubward", 295, "Scrubward$Log", "bits", "LScrubward$Ints;", "Scrubward"), ("Scrubward", 298, "Scrubward$Log", "ticks", "LScrubward$Ints;", "Scrubward"), ("Scrubward", 306, "Scrubward$Code", "dataBits", "I", "Scrubward"), ("Scrubward", 309, "Scrubward$Code", "checkBits", "I", "Scrubward"), ("Scrubward", 315, "Scrubward$Log", "mendedEver", "I", "Scrubward"), ("Scrubward", 318, "Scrubward$Log", "badEver", "I", "Scrubward"), ("Scrubward", 321, "Scrubward$Memory", "drawnEver", "I", "Scrubward"), ("Scrubward", 406, "Scrubward$Memory", "words", "LScrubward$Ints;", "Scrubward"), ("ScrubwardLaw", 13, "ScrubwardLaw$Out", "n", "J", "ScrubwardLaw"), ("ScrubwardLaw", 91, "ScrubwardLaw$Out", "d", "D", "ScrubwardLaw"), ("ScrubwardLaw", 99, "ScrubwardLaw$Out", "s", "Ljava/lang/String;", "ScrubwardLaw")]
def zNM : List (String × Nat × MethodName × String) := [("Scrubward$Memory", 31, ⟨"Scrubward$Faults", "<init>", "()V"⟩, "Scrubward"), ("Scrubward", 11, ⟨"Scrubward$Code", "<init>", "()V"⟩, "Scrubward"), ("Scrubward", 18, ⟨"Scrubward$Memory", "<init>", "()V"⟩, "Scrubward"), ("Scrubward", 25, ⟨"Scrubward$Log", "<init>", "()V"⟩, "Scrubward"), ("ScrubwardLaw", 116, ⟨"ScrubwardLaw$Out", "<init>", "()V"⟩, "ScrubwardLaw")]
def zN : List Jvm.Cond := zNF.map (fun q => .fieldLinkNest q.1 q.2.1 q.2.2.1 q.2.2.2.1 q.2.2.2.2.1 q.2.2.2.2.2) ++ zNM.map (fun q => .methodLinkNest q.1 q.2.1 q.2.2.1 q.2.2.2)
theorem zNF_in {a : String} {i : Nat} {b n d h : String} (k : Nat) (e : zNF[k]? = some (a, i, b, n, d, h)) : (.fieldLinkNest a i b n d h : Jvm.Cond) ∈ zN := List.mem_append_left _ (List.mem_map.mpr ⟨_, List.mem_of_getElem? e, rfl⟩)
theorem zNM_in {a : String} {i : Nat} {x : MethodName} {h : String} (k : Nat) (e : zNM[k]? = some (a, i, x, h)) : (.methodLinkNest a i x h : Jvm.Cond) ∈ zN := List.mem_append_right _ (List.mem_map.mpr ⟨_, List.mem_of_getElem? e, rfl⟩)
theorem zN_warm {s U : State} (hW : s.WarmedH U.vm) (h : ∀ w ∈ zN, va_Nw w s) : ∀ w ∈ zN, va_Nw w U := by
  intro w hw
  have hs := h w hw
  rcases List.mem_append.mp hw with q | q
  · obtain ⟨x, -, rfl⟩ := List.mem_map.mp q
    exact va_Nw.warmF hW hs
  · obtain ⟨x, -, rfl⟩ := List.mem_map.mp q
    exact va_Nw.warmM hW hs
def zFok (q : Nat × Nat × Nat) : Prop := (∃ ref, Jvm.Cond.fieldLink (zon q.1) q.2.1 ref (zFT q.2.2).2.1 (zFT q.2.2).2.2.1 ∈ zB ∧ (ref = (zFT q.2.2).1 ∨ Jvm.Cond.sameField ref (zFT q.2.2).1 (zFT q.2.2).2.1 (zFT q.2.2).2.2.1 ∈ zB)) ∨ ∃ host, Jvm.Cond.fieldLinkNest (zon q.1) q.2.1 (zFT q.2.2).1 (zFT q.2.2).2.1 (zFT q.2.2).2.2.1 host ∈ zN ∧ (zFT q.2.2).1 ≠ zon q.1
def zSok (q : Nat × Nat × Nat) : Prop := Jvm.Cond.methodLink (zon q.1) q.2.1 (zmn q.2.2) ∈ zB ∧ Jvm.Cond.static (zmn q.2.2) ∈ zB
def zVok (q : Nat × Nat × Nat × Nat) : Prop := Jvm.Cond.methodLink (zon q.1) q.2.1 (zmn q.2.2.1) ∈ zB ∧ Jvm.Cond.instanceMethod (zmn q.2.2.1) ∈ zB ∧ Jvm.Cond.selects (zmn q.2.2.1).cls (zmn q.2.2.1) (zmn q.2.2.1) ∈ zB ∧ zcn q.2.2.2 = (zmn q.2.2.1).cls
def zIok (q : Nat × Nat × Nat) : Prop := (Jvm.Cond.methodLink (zon q.1) q.2.1 (zmn q.2.2) ∈ zB ∨ ∃ host, Jvm.Cond.methodLinkNest (zon q.1) q.2.1 (zmn q.2.2) host ∈ zN) ∧ Jvm.Cond.instanceMethod (zmn q.2.2) ∈ zB ∧ (zmn q.2.2).name = "<init>"
def zCok (q : Nat × Nat × Nat) : Prop := Jvm.Cond.classLink (zon q.1) q.2.1 (zcn q.2.2) ∈ zB ∧ Jvm.Cond.instantiable (zcn q.2.2) (zcf q.2.2).length ∈ zB ∧ Jvm.Cond.initialized (zcn q.2.2) ∈ zB
def zKok (q : Nat × Nat × Nat × Nat) : Prop := (match q.2.2.1 with
  | 0 => Jvm.Cond.constantLong (zon q.1) q.2.1 (Int64.ofNat q.2.2.2)
  | 1 => Jvm.Cond.constantDouble (zon q.1) q.2.1 (UInt64.ofNat q.2.2.2)
  | _ => Jvm.Cond.constant (zon q.1) q.2.1 (Int32.ofNat q.2.2.2)) ∈ zB
def zXok (q : Nat × Nat × Nat) : Prop := if q.2.2 = 12 then Jvm.Cond.methodLink (zon q.1) q.2.1 Lib.Math.max.name ∈ zB ∧ Jvm.Cond.static Lib.Math.max.name ∈ zB ∧ Jvm.Cond.initialized "java/lang/Math" ∈ zB ∧ Jvm.Cond.code Lib.Math.max.name Lib.Math.max.code 2 (some .int) ∈ zB else Jvm.Cond.methodLink (zon q.1) q.2.1 Lib.Math.min.name ∈ zB ∧ Jvm.Cond.static Lib.Math.min.name ∈ zB ∧ Jvm.Cond.initialized "java/lang/Math" ∈ zB ∧ Jvm.Cond.code Lib.Math.min.name Lib.Math.min.code 2 (some .int) ∈ zB
def zOok (q : Nat × Nat) : Prop := Jvm.Cond.methodLink (zon q.1) q.2 Lib.objectInit ∈ zB
end
section
theorem zw0 : (.selects "Scrubward$Code" ⟨"Scrubward$Code", "makeDataColumns", "()V"⟩ ⟨"Scrubward$Code", "makeDataColumns", "()V"⟩ : Jvm.Cond) ∈ zB := zb 0 (by decide +kernel) (by decide +kernel)
theorem zw1 : (.selects "Scrubward$Memory" ⟨"Scrubward$Memory", "asStuck", "(II)I"⟩ ⟨"Scrubward$Memory", "asStuck", "(II)I"⟩ : Jvm.Cond) ∈ zB := zb 1 (by decide +kernel) (by decide +kernel)
theorem zw2 : (.selects "Scrubward" ⟨"Scrubward", "rowsHaveOwnLines", "()Z"⟩ ⟨"Scrubward", "rowsHaveOwnLines", "()Z"⟩ : Jvm.Cond) ∈ zB := zb 2 (by decide +kernel) (by decide +kernel)
theorem zw3 : (.selects "Scrubward" ⟨"Scrubward", "rowOn", "(II)I"⟩ ⟨"Scrubward", "rowOn", "(II)I"⟩ : Jvm.Cond) ∈ zB := zb 3 (by decide +kernel) (by decide +kernel)
theorem zw5 : (.selects "Scrubward$Code" ⟨"Scrubward$Code", "oneIfMended", "(I)I"⟩ ⟨"Scrubward$Code", "oneIfMended", "(I)I"⟩ : Jvm.Cond) ∈ zB := zb 5 (by decide +kernel) (by decide +kernel)
theorem zw6 : (.selects "Scrubward$Code" ⟨"Scrubward$Code", "thirdBits", "(II)I"⟩ ⟨"Scrubward$Code", "thirdBits", "(II)I"⟩ : Jvm.Cond) ∈ zB := zb 6 (by decide +kernel) (by decide +kernel)
theorem zw7 : (.selects "Scrubward" ⟨"Scrubward", "mixBank", "(JI)J"⟩ ⟨"Scrubward", "mixBank", "(JI)J"⟩ : Jvm.Cond) ∈ zB := zb 7 (by decide +kernel) (by decide +kernel)
theorem zw8 : (.selects "Scrubward$Log" ⟨"Scrubward$Log", "guiltyCell", "(I)I"⟩ ⟨"Scrubward$Log", "guiltyCell", "(I)I"⟩ : Jvm.Cond) ∈ zB := zb 8 (by decide +kernel) (by decide +kernel)
theorem zw9 : (.selects "Scrubward$Log" ⟨"Scrubward$Log", "isMendedIn", "(II)Z"⟩ ⟨"Scrubward$Log", "isMendedIn", "(II)Z"⟩ : Jvm.Cond) ∈ zB := zb 9 (by decide +kernel) (by decide +kernel)
theorem zw10 : (.selects "Scrubward$Log" ⟨"Scrubward$Log", "isToldAgain", "(I)Z"⟩ ⟨"Scrubward$Log", "isToldAgain", "(I)Z"⟩ : Jvm.Cond) ∈ zB := zb 10 (by decide +kernel) (by decide +kernel)
theorem zw11 : (.selects "Scrubward$Log" ⟨"Scrubward$Log", "isGuilty", "(III)Z"⟩ ⟨"Scrubward$Log", "isGuilty", "(III)Z"⟩ : Jvm.Cond) ∈ zB := zb 11 (by decide +kernel) (by decide +kernel)
theorem zw12 : (.selects "Scrubward" ⟨"Scrubward", "lineAt", "(I)I"⟩ ⟨"Scrubward", "lineAt", "(I)I"⟩ : Jvm.Cond) ∈ zB := zb 12 (by decide +kernel) (by decide +kernel)
theorem zw13 : (.selects "Scrubward" ⟨"Scrubward", "uncleanIn", "(I)I"⟩ ⟨"Scrubward", "uncleanIn", "(I)I"⟩ : Jvm.Cond) ∈ zB := zb 13 (by decide +kernel) (by decide +kernel)
theorem zw14 : (.selects "Scrubward" ⟨"Scrubward", "stuckIn", "(I)I"⟩ ⟨"Scrubward", "stuckIn", "(I)I"⟩ : Jvm.Cond) ∈ zB := zb 14 (by decide +kernel) (by decide +kernel)
theorem zw15 : (.selects "Scrubward" ⟨"Scrubward", "isPoisoned", "(I)Z"⟩ ⟨"Scrubward", "isPoisoned", "(I)Z"⟩ : Jvm.Cond) ∈ zB := zb 15 (by decide +kernel) (by decide +kernel)
theorem zw16 : (.selects "Scrubward" ⟨"Scrubward", "wordAt", "(I)I"⟩ ⟨"Scrubward", "wordAt", "(I)I"⟩ : Jvm.Cond) ∈ zB := zb 16 (by decide +kernel) (by decide +kernel)
theorem zw17 : (.selects "Scrubward" ⟨"Scrubward", "cellAt", "(I)I"⟩ ⟨"Scrubward", "cellAt", "(I)I"⟩ : Jvm.Cond) ∈ zB := zb 17 (by decide +kernel) (by decide +kernel)
theorem zw18 : (.selects "Scrubward" ⟨"Scrubward", "isRetired", "(I)Z"⟩ ⟨"Scrubward", "isRetired", "(I)Z"⟩ : Jvm.Cond) ∈ zB := zb 18 (by decide +kernel) (by decide +kernel)
theorem zw19 : (.selects "Scrubward" ⟨"Scrubward", "dataAt", "(I)I"⟩ ⟨"Scrubward", "dataAt", "(I)I"⟩ : Jvm.Cond) ∈ zB := zb 19 (by decide +kernel) (by decide +kernel)
theorem zw20 : (.selects "Scrubward$Memory" ⟨"Scrubward$Memory", "isLeakable", "(II)Z"⟩ ⟨"Scrubward$Memory", "isLeakable", "(II)Z"⟩ : Jvm.Cond) ∈ zB := zb 20 (by decide +kernel) (by decide +kernel)
theorem zw21 : (.selects "Scrubward$Memory" ⟨"Scrubward$Memory", "isOverWithin", "(II)Z"⟩ ⟨"Scrubward$Memory", "isOverWithin", "(II)Z"⟩ : Jvm.Cond) ∈ zB := zb 21 (by decide +kernel) (by decide +kernel)
theorem zw22 : (.selects "Scrubward$Memory" ⟨"Scrubward$Memory", "isRefreshedAt", "(I)Z"⟩ ⟨"Scrubward$Memory", "isRefreshedAt", "(I)Z"⟩ : Jvm.Cond) ∈ zB := zb 22 (by decide +kernel) (by decide +kernel)
theorem zw23 : (.selects "Scrubward" ⟨"Scrubward", "checkData", "(I)V"⟩ ⟨"Scrubward", "checkData", "(I)V"⟩ : Jvm.Cond) ∈ zB := zb 23 (by decide +kernel) (by decide +kernel)
theorem zw24 : (.selects "Scrubward" ⟨"Scrubward", "checkNotRetired", "(I)V"⟩ ⟨"Scrubward", "checkNotRetired", "(I)V"⟩ : Jvm.Cond) ∈ zB := zb 24 (by decide +kernel) (by decide +kernel)
theorem zw25 : (.selects "Scrubward" ⟨"Scrubward", "store", "(II)V"⟩ ⟨"Scrubward", "store", "(II)V"⟩ : Jvm.Cond) ∈ zB := zb 25 (by decide +kernel) (by decide +kernel)
theorem zw26 : (.selects "Scrubward$Memory" ⟨"Scrubward$Memory", "turnDrawnBit", "(I)V"⟩ ⟨"Scrubward$Memory", "turnDrawnBit", "(I)V"⟩ : Jvm.Cond) ∈ zB := zb 26 (by decide +kernel) (by decide +kernel)
theorem zw27 : (.selects "Scrubward$Memory" ⟨"Scrubward$Memory", "draw", "()I"⟩ ⟨"Scrubward$Memory", "draw", "()I"⟩ : Jvm.Cond) ∈ zB := zb 27 (by decide +kernel) (by decide +kernel)
theorem zw28 : (.selects "Scrubward" ⟨"Scrubward", "replace", "(II)V"⟩ ⟨"Scrubward", "replace", "(II)V"⟩ : Jvm.Cond) ∈ zB := zb 28 (by decide +kernel) (by decide +kernel)
theorem zw29 : (.selects "Scrubward" ⟨"Scrubward", "report", "(IZ)V"⟩ ⟨"Scrubward", "report", "(IZ)V"⟩ : Jvm.Cond) ∈ zB := zb 29 (by decide +kernel) (by decide +kernel)
theorem zw30 : (.selects "Scrubward" ⟨"Scrubward", "readTwin", "(I)I"⟩ ⟨"Scrubward", "readTwin", "(I)I"⟩ : Jvm.Cond) ∈ zB := zb 30 (by decide +kernel) (by decide +kernel)
theorem zw31 : (.selects "Scrubward" ⟨"Scrubward", "moveRow", "(III)V"⟩ ⟨"Scrubward", "moveRow", "(III)V"⟩ : Jvm.Cond) ∈ zB := zb 31 (by decide +kernel) (by decide +kernel)
theorem zw32 : (.selects "Scrubward" ⟨"Scrubward", "scrubSteps", "()V"⟩ ⟨"Scrubward", "scrubSteps", "()V"⟩ : Jvm.Cond) ∈ zB := zb 32 (by decide +kernel) (by decide +kernel)
theorem zw33 : (.selects "Scrubward" ⟨"Scrubward", "signOf", "(I)C"⟩ ⟨"Scrubward", "signOf", "(I)C"⟩ : Jvm.Cond) ∈ zB := zb 33 (by decide +kernel) (by decide +kernel)
theorem zw34 : (.selects "ScrubwardModel" ⟨"ScrubwardModel", "no", "(I)I"⟩ ⟨"ScrubwardModel", "no", "(I)I"⟩ : Jvm.Cond) ∈ zB := zb 34 (by decide +kernel) (by decide +kernel)
theorem zw35 : (.selects "java/util/ArrayList" ⟨"java/util/ArrayList", "add", "(Ljava/lang/Object;[Ljava/lang/Object;I)V"⟩ ⟨"java/util/ArrayList", "add", "(Ljava/lang/Object;[Ljava/lang/Object;I)V"⟩ : Jvm.Cond) ∈ zB := zb 35 (by decide +kernel) (by decide +kernel)
theorem zw36 : (.selects "java/util/ArrayList" ⟨"java/util/ArrayList", "grow", "()[Ljava/lang/Object;"⟩ ⟨"java/util/ArrayList", "grow", "()[Ljava/lang/Object;"⟩ : Jvm.Cond) ∈ zB := zb 36 (by decide +kernel) (by decide +kernel)
theorem zw37 : (.selects "java/util/ArrayList" ⟨"java/util/ArrayList", "grow", "(I)[Ljava/lang/Object;"⟩ ⟨"java/util/ArrayList", "grow", "(I)[Ljava/lang/Object;"⟩ : Jvm.Cond) ∈ zB := zb 37 (by decide +kernel) (by decide +kernel)
theorem zw38 : (.selects "ScrubwardModel" ⟨"ScrubwardModel", "put", "(III)V"⟩ ⟨"ScrubwardModel", "put", "(III)V"⟩ : Jvm.Cond) ∈ zB := zb 38 (by decide +kernel) (by decide +kernel)
theorem zw39 : (.selects "ScrubwardModel" ⟨"ScrubwardModel", "bits", "()I"⟩ ⟨"ScrubwardModel", "bits", "()I"⟩ : Jvm.Cond) ∈ zB := zb 39 (by decide +kernel) (by decide +kernel)
theorem zw40 : (.selects "ScrubwardModel" ⟨"ScrubwardModel", "writeAt", "(II)V"⟩ ⟨"ScrubwardModel", "writeAt", "(II)V"⟩ : Jvm.Cond) ∈ zB := zb 40 (by decide +kernel) (by decide +kernel)
theorem zw41 : (.selects "ScrubwardModel" ⟨"ScrubwardModel", "lineOf", "(I)I"⟩ ⟨"ScrubwardModel", "lineOf", "(I)I"⟩ : Jvm.Cond) ∈ zB := zb 41 (by decide +kernel) (by decide +kernel)
theorem zw42 : (.selects "ScrubwardModel" ⟨"ScrubwardModel", "open", "(I)V"⟩ ⟨"ScrubwardModel", "open", "(I)V"⟩ : Jvm.Cond) ∈ zB := zb 42 (by decide +kernel) (by decide +kernel)
theorem zw43 : (.selects "ScrubwardModel" ⟨"ScrubwardModel", "draw", "()I"⟩ ⟨"ScrubwardModel", "draw", "()I"⟩ : Jvm.Cond) ∈ zB := zb 43 (by decide +kernel) (by decide +kernel)
theorem zw44 : (.selects "ScrubwardModel" ⟨"ScrubwardModel", "encoded", "(I)I"⟩ ⟨"ScrubwardModel", "encoded", "(I)I"⟩ : Jvm.Cond) ∈ zB := zb 44 (by decide +kernel) (by decide +kernel)
theorem zw45 : (.selects "ScrubwardModel" ⟨"ScrubwardModel", "syndrome", "(I)I"⟩ ⟨"ScrubwardModel", "syndrome", "(I)I"⟩ : Jvm.Cond) ∈ zB := zb 45 (by decide +kernel) (by decide +kernel)
theorem zw46 : (.selects "ScrubwardModel" ⟨"ScrubwardModel", "putAt", "(II)V"⟩ ⟨"ScrubwardModel", "putAt", "(II)V"⟩ : Jvm.Cond) ∈ zB := zb 46 (by decide +kernel) (by decide +kernel)
theorem zw47 : (.selects "ScrubwardModel" ⟨"ScrubwardModel", "wordAt", "(I)I"⟩ ⟨"ScrubwardModel", "wordAt", "(I)I"⟩ : Jvm.Cond) ∈ zB := zb 47 (by decide +kernel) (by decide +kernel)
theorem zw48 : (.selects "ScrubwardModel" ⟨"ScrubwardModel", "readAt", "(I)I"⟩ ⟨"ScrubwardModel", "readAt", "(I)I"⟩ : Jvm.Cond) ∈ zB := zb 48 (by decide +kernel) (by decide +kernel)
theorem zw49 : (.selects "ScrubwardModel" ⟨"ScrubwardModel", "take", "(I)I"⟩ ⟨"ScrubwardModel", "take", "(I)I"⟩ : Jvm.Cond) ∈ zB := zb 49 (by decide +kernel) (by decide +kernel)
theorem zw50 : (.selects "ScrubwardModel" ⟨"ScrubwardModel", "kind", "(I)I"⟩ ⟨"ScrubwardModel", "kind", "(I)I"⟩ : Jvm.Cond) ∈ zB := zb 50 (by decide +kernel) (by decide +kernel)
theorem zw51 : (.selects "ScrubwardModel" ⟨"ScrubwardModel", "bitOf", "(I)I"⟩ ⟨"ScrubwardModel", "bitOf", "(I)I"⟩ : Jvm.Cond) ∈ zB := zb 51 (by decide +kernel) (by decide +kernel)
theorem zw52 : (.selects "ScrubwardModel" ⟨"ScrubwardModel", "note", "(II)V"⟩ ⟨"ScrubwardModel", "note", "(II)V"⟩ : Jvm.Cond) ∈ zB := zb 52 (by decide +kernel) (by decide +kernel)
theorem zw53 : (.selects "ScrubwardModel" ⟨"ScrubwardModel", "mended", "(I)I"⟩ ⟨"ScrubwardModel", "mended", "(I)I"⟩ : Jvm.Cond) ∈ zB := zb 53 (by decide +kernel) (by decide +kernel)
theorem zw54 : (.selects "ScrubwardModel" ⟨"ScrubwardModel", "dataOf", "(I)I"⟩ ⟨"ScrubwardModel", "dataOf", "(I)I"⟩ : Jvm.Cond) ∈ zB := zb 54 (by decide +kernel) (by decide +kernel)
theorem zw55 : (.selects "ScrubwardModel" ⟨"ScrubwardModel", "tick", "()V"⟩ ⟨"ScrubwardModel", "tick", "()V"⟩ : Jvm.Cond) ∈ zB := zb 55 (by decide +kernel) (by decide +kernel)
theorem zw56 : (.selects "ScrubwardModel" ⟨"ScrubwardModel", "leak", "()V"⟩ ⟨"ScrubwardModel", "leak", "()V"⟩ : Jvm.Cond) ∈ zB := zb 56 (by decide +kernel) (by decide +kernel)
theorem zw57 : (.selects "ScrubwardModel" ⟨"ScrubwardModel", "patrol", "()V"⟩ ⟨"ScrubwardModel", "patrol", "()V"⟩ : Jvm.Cond) ∈ zB := zb 57 (by decide +kernel) (by decide +kernel)
theorem zw58 : (.selects "ScrubwardModel" ⟨"ScrubwardModel", "fooledNow", "(I)I"⟩ ⟨"ScrubwardModel", "fooledNow", "(I)I"⟩ : Jvm.Cond) ∈ zB := zb 58 (by decide +kernel) (by decide +kernel)
theorem zw59 : (.selects "ScrubwardModel" ⟨"ScrubwardModel", "wordNow", "(II)I"⟩ ⟨"ScrubwardModel", "wordNow", "(II)I"⟩ : Jvm.Cond) ∈ zB := zb 59 (by decide +kernel) (by decide +kernel)
theorem zw60 : (.selects "ScrubwardModel" ⟨"ScrubwardModel", "cells", "(Ljava/util/List;II)I"⟩ ⟨"ScrubwardModel", "cells", "(Ljava/util/List;II)I"⟩ : Jvm.Cond) ∈ zB := zb 60 (by decide +kernel) (by decide +kernel)
theorem zw61 : (.selects "ScrubwardModel" ⟨"ScrubwardModel", "lineNow", "(II)I"⟩ ⟨"ScrubwardModel", "lineNow", "(II)I"⟩ : Jvm.Cond) ∈ zB := zb 61 (by decide +kernel) (by decide +kernel)
theorem zw62 : (.selects "ScrubwardModel" ⟨"ScrubwardModel", "rowOf", "(I)I"⟩ ⟨"ScrubwardModel", "rowOf", "(I)I"⟩ : Jvm.Cond) ∈ zB := zb 62 (by decide +kernel) (by decide +kernel)
theorem zw63 : (.selects "ScrubwardModel" ⟨"ScrubwardModel", "unclean", "(I)I"⟩ ⟨"ScrubwardModel", "unclean", "(I)I"⟩ : Jvm.Cond) ∈ zB := zb 63 (by decide +kernel) (by decide +kernel)
theorem zw64 : (.selects "ScrubwardModel" ⟨"ScrubwardModel", "blameNow", "(IZ)I"⟩ ⟨"ScrubwardModel", "blameNow", "(IZ)I"⟩ : Jvm.Cond) ∈ zB := zb 64 (by decide +kernel) (by decide +kernel)
theorem zw65 : (.selects "ScrubwardModel" ⟨"ScrubwardModel", "spread", "(IIIZ)I"⟩ ⟨"ScrubwardModel", "spread", "(IIIZ)I"⟩ : Jvm.Cond) ∈ zB := zb 65 (by decide +kernel) (by decide +kernel)
theorem zw66 : (.selects "ScrubwardModel" ⟨"ScrubwardModel", "isMended", "(II)Z"⟩ ⟨"ScrubwardModel", "isMended", "(II)Z"⟩ : Jvm.Cond) ∈ zB := zb 66 (by decide +kernel) (by decide +kernel)
theorem zw67 : (.selects "ScrubwardModel" ⟨"ScrubwardModel", "twice", "(I)I"⟩ ⟨"ScrubwardModel", "twice", "(I)I"⟩ : Jvm.Cond) ∈ zB := zb 67 (by decide +kernel) (by decide +kernel)
theorem zw68 : (.selects "ScrubwardModel" ⟨"ScrubwardModel", "boardNow", "(I)I"⟩ ⟨"ScrubwardModel", "boardNow", "(I)I"⟩ : Jvm.Cond) ∈ zB := zb 68 (by decide +kernel) (by decide +kernel)
theorem zw69 : (.selects "ScrubwardModel" ⟨"ScrubwardModel", "healthNow", "(I)D"⟩ ⟨"ScrubwardModel", "healthNow", "(I)D"⟩ : Jvm.Cond) ∈ zB := zb 69 (by decide +kernel) (by decide +kernel)
theorem zw70 : (.selects "ScrubwardModel" ⟨"ScrubwardModel", "wouldReadNow", "(I)I"⟩ ⟨"ScrubwardModel", "wouldReadNow", "(I)I"⟩ : Jvm.Cond) ∈ zB := zb 70 (by decide +kernel) (by decide +kernel)
theorem zw71 : (.selects "ScrubwardModel" ⟨"ScrubwardModel", "wouldTell", "(I)I"⟩ ⟨"ScrubwardModel", "wouldTell", "(I)I"⟩ : Jvm.Cond) ∈ zB := zb 71 (by decide +kernel) (by decide +kernel)
theorem zw72 : (.selects "ScrubwardModel" ⟨"ScrubwardModel", "wouldSpareNow", "(I)I"⟩ ⟨"ScrubwardModel", "wouldSpareNow", "(I)I"⟩ : Jvm.Cond) ∈ zB := zb 72 (by decide +kernel) (by decide +kernel)
theorem zw73 : (.selects "ScrubwardModel" ⟨"ScrubwardModel", "wouldLeakNow", "(I)I"⟩ ⟨"ScrubwardModel", "wouldLeakNow", "(I)I"⟩ : Jvm.Cond) ∈ zB := zb 73 (by decide +kernel) (by decide +kernel)
theorem zw74 : (.selects "ScrubwardModel" ⟨"ScrubwardModel", "wouldLeak", "([II)Z"⟩ ⟨"ScrubwardModel", "wouldLeak", "([II)Z"⟩ : Jvm.Cond) ∈ zB := zb 74 (by decide +kernel) (by decide +kernel)
theorem zw75 : (.selects "ScrubwardModel" ⟨"ScrubwardModel", "isStuck", "([I)Z"⟩ ⟨"ScrubwardModel", "isStuck", "([I)Z"⟩ : Jvm.Cond) ∈ zB := zb 75 (by decide +kernel) (by decide +kernel)
theorem zw76 : (.selects "ScrubwardModel" ⟨"ScrubwardModel", "isSoundNow", "()Z"⟩ ⟨"ScrubwardModel", "isSoundNow", "()Z"⟩ : Jvm.Cond) ∈ zB := zb 76 (by decide +kernel) (by decide +kernel)
theorem zw77 : (.initialized "ScrubwardLaw" : Jvm.Cond) ∈ zB := zb 77 (by decide +kernel) (by decide +kernel)
theorem zw78 : (.initialized "Scrubward" : Jvm.Cond) ∈ zB := zb 78 (by decide +kernel) (by decide +kernel)
theorem zw79 : (.initialized "Scrubward$Code" : Jvm.Cond) ∈ zB := zb 79 (by decide +kernel) (by decide +kernel)
theorem zw80 : (.initialized "Scrubward$Ints" : Jvm.Cond) ∈ zB := zb 80 (by decide +kernel) (by decide +kernel)
theorem zw81 : (.initialized "Scrubward$Memory" : Jvm.Cond) ∈ zB := zb 81 (by decide +kernel) (by decide +kernel)
theorem zw82 : (.initialized "Scrubward$Faults" : Jvm.Cond) ∈ zB := zb 82 (by decide +kernel) (by decide +kernel)
theorem zw83 : (.initialized "Scrubward$Log" : Jvm.Cond) ∈ zB := zb 83 (by decide +kernel) (by decide +kernel)
theorem zw85 : (.initialized "java/lang/Integer" : Jvm.Cond) ∈ zB := zb 85 (by decide +kernel) (by decide +kernel)
theorem zw86 : (.initialized "ScrubwardModel" : Jvm.Cond) ∈ zB := zb 86 (by decide +kernel) (by decide +kernel)
theorem zw87 : (.initialized "java/util/AbstractCollection" : Jvm.Cond) ∈ zB := zb 87 (by decide +kernel) (by decide +kernel)
theorem zw88 : (.initialized "java/util/AbstractList" : Jvm.Cond) ∈ zB := zb 88 (by decide +kernel) (by decide +kernel)
theorem zw89 : (.initialized "java/util/ArrayList" : Jvm.Cond) ∈ zB := zb 89 (by decide +kernel) (by decide +kernel)
theorem zw90 : (.initialized "ScrubwardLaw$Out" : Jvm.Cond) ∈ zB := zb 90 (by decide +kernel) (by decide +kernel)
theorem zw95 : (.initialized "java/util/Objects" : Jvm.Cond) ∈ zB := zb 95 (by decide +kernel) (by decide +kernel)
theorem zw96 : (.initialized "jdk/internal/util/Preconditions" : Jvm.Cond) ∈ zB := zb 96 (by decide +kernel) (by decide +kernel)
theorem zw97 : (.initialized "jdk/internal/util/ArraysSupport" : Jvm.Cond) ∈ zB := zb 97 (by decide +kernel) (by decide +kernel)
theorem zw98 : (.initialized "java/lang/Math" : Jvm.Cond) ∈ zB := zb 98 (by decide +kernel) (by decide +kernel)
theorem zw99 : (.initialized "java/util/Arrays" : Jvm.Cond) ∈ zB := zb 99 (by decide +kernel) (by decide +kernel)
theorem zw103 : (.initialized "java/lang/AbstractStringBuilder" : Jvm.Cond) ∈ zB := zb 103 (by decide +kernel) (by decide +kernel)
theorem zw104 : (.initialized "java/lang/StringBuilder" : Jvm.Cond) ∈ zB := zb 104 (by decide +kernel) (by decide +kernel)
theorem zw105 : (.initialized "java/lang/String" : Jvm.Cond) ∈ zB := zb 105 (by decide +kernel) (by decide +kernel)
theorem zw107 : (.initialized "java/lang/StringLatin1" : Jvm.Cond) ∈ zB := zb 107 (by decide +kernel) (by decide +kernel)
theorem zw108 : (.classLink "ScrubwardLaw" 8 "Scrubward" : Jvm.Cond) ∈ zB := zb 108 (by decide +kernel) (by decide +kernel)
theorem zw109 : (.instantiable "Scrubward" 12 : Jvm.Cond) ∈ zB := zb 109 (by decide +kernel) (by decide +kernel)
theorem zw110 : (.methodLink "ScrubwardLaw" 112 ⟨"Scrubward", "<init>", "()V"⟩ : Jvm.Cond) ∈ zB := zb 110 (by decide +kernel) (by decide +kernel)
theorem zw111 : (.instanceMethod ⟨"Scrubward", "<init>", "()V"⟩ : Jvm.Cond) ∈ zB := zb 111 (by decide +kernel) (by decide +kernel)
theorem zw112 : (.code ⟨"Scrubward", "<init>", "()V"⟩ prog_1_method_1_code 2 (Option.none : Option Jvm.ClassFile.FieldType) : Jvm.Cond) ∈ zB := zb 112 (by decide +kernel) (by decide +kernel)
theorem zw113 : (.methodLink "Scrubward" 3 ⟨"java/lang/Object", "<init>", "()V"⟩ : Jvm.Cond) ∈ zB := zb 113 (by decide +kernel) (by decide +kernel)
theorem zw116 : (.classLink "Scrubward" 9 "Scrubward$Code" : Jvm.Cond) ∈ zB := zb 116 (by decide +kernel) (by decide +kernel)
theorem zw117 : (.instantiable "Scrubward$Code" 5 : Jvm.Cond) ∈ zB := zb 117 (by decide +kernel) (by decide +kernel)
theorem zw119 : (.instanceMethod ⟨"Scrubward$Code", "<init>", "()V"⟩ : Jvm.Cond) ∈ zB := zb 119 (by decide +kernel) (by decide +kernel)
theorem zw120 : (.code ⟨"Scrubward$Code", "<init>", "()V"⟩ prog_2_method_1_code 1 (Option.none : Option Jvm.ClassFile.FieldType) : Jvm.Cond) ∈ zB := zb 120 (by decide +kernel) (by decide +kernel)
theorem zw121 : (.methodLink "Scrubward$Code" 3 ⟨"java/lang/Object", "<init>", "()V"⟩ : Jvm.Cond) ∈ zB := zb 121 (by decide +kernel) (by decide +kernel)
theorem zw122 : (.classLink "Scrubward$Code" 9 "Scrubward$Ints" : Jvm.Cond) ∈ zB := zb 122 (by decide +kernel) (by decide +kernel)
theorem zw123 : (.instantiable "Scrubward$Ints" 1 : Jvm.Cond) ∈ zB := zb 123 (by decide +kernel) (by decide +kernel)
theorem zw124 : (.methodLink "Scrubward$Code" 11 ⟨"Scrubward$Ints", "<init>", "(I)V"⟩ : Jvm.Cond) ∈ zB := zb 124 (by decide +kernel) (by decide +kernel)
theorem zw125 : (.instanceMethod ⟨"Scrubward$Ints", "<init>", "(I)V"⟩ : Jvm.Cond) ∈ zB := zb 125 (by decide +kernel) (by decide +kernel)
theorem zw126 : (.code ⟨"Scrubward$Ints", "<init>", "(I)V"⟩ prog_4_method_1_code 2 (Option.none : Option Jvm.ClassFile.FieldType) : Jvm.Cond) ∈ zB := zb 126 (by decide +kernel) (by decide +kernel)
theorem zw127 : (.methodLink "Scrubward$Ints" 1 ⟨"java/lang/Object", "<init>", "()V"⟩ : Jvm.Cond) ∈ zB := zb 127 (by decide +kernel) (by decide +kernel)
theorem zw128 : (.fieldLink "Scrubward$Ints" 7 "Scrubward$Ints" "items" "[I" : Jvm.Cond) ∈ zB := zb 128 (by decide +kernel) (by decide +kernel)
theorem zw129 : (.laysFinal "Scrubward$Ints" "Scrubward$Ints" "items" "[I" : Jvm.Cond) ∈ zB := zb 129 (by decide +kernel) (by decide +kernel)
theorem zw132 : (.arrayClass Jvm.ClassFile.FieldType.int : Jvm.Cond) ∈ zB := zb 132 (by decide +kernel) (by decide +kernel)
theorem zw133 : (.fieldLink "Scrubward$Code" 14 "Scrubward$Code" "columns" "LScrubward$Ints;" : Jvm.Cond) ∈ zB := zb 133 (by decide +kernel) (by decide +kernel)
theorem zw135 : (.fieldLink "Scrubward$Code" 20 "Scrubward$Code" "turns" "LScrubward$Ints;" : Jvm.Cond) ∈ zB := zb 135 (by decide +kernel) (by decide +kernel)
theorem zw136 : (.fieldLink "Scrubward$Code" 33 "Scrubward$Code" "dataBits" "I" : Jvm.Cond) ∈ zB := zb 136 (by decide +kernel) (by decide +kernel)
theorem zw138 : (.fieldLink "Scrubward$Code" 37 "Scrubward$Code" "checkBits" "I" : Jvm.Cond) ∈ zB := zb 138 (by decide +kernel) (by decide +kernel)
theorem zw141 : (.fieldLink "Scrubward$Code" 40 "Scrubward$Code" "width" "I" : Jvm.Cond) ∈ zB := zb 141 (by decide +kernel) (by decide +kernel)
theorem zw142 : (.laysFinal "Scrubward$Code" "Scrubward$Code" "columns" "LScrubward$Ints;" : Jvm.Cond) ∈ zB := zb 142 (by decide +kernel) (by decide +kernel)
theorem zw144 : (.laysFinal "Scrubward$Code" "Scrubward$Code" "turns" "LScrubward$Ints;" : Jvm.Cond) ∈ zB := zb 144 (by decide +kernel) (by decide +kernel)
theorem zw146 : (.lays "Scrubward$Code" "Scrubward$Code" "dataBits" "I" : Jvm.Cond) ∈ zB := zb 146 (by decide +kernel) (by decide +kernel)
theorem zw148 : (.lays "Scrubward$Code" "Scrubward$Code" "checkBits" "I" : Jvm.Cond) ∈ zB := zb 148 (by decide +kernel) (by decide +kernel)
theorem zw150 : (.lays "Scrubward$Code" "Scrubward$Code" "width" "I" : Jvm.Cond) ∈ zB := zb 150 (by decide +kernel) (by decide +kernel)
theorem zw153 : (.classLink "Scrubward" 16 "Scrubward$Memory" : Jvm.Cond) ∈ zB := zb 153 (by decide +kernel) (by decide +kernel)
theorem zw154 : (.instantiable "Scrubward$Memory" 12 : Jvm.Cond) ∈ zB := zb 154 (by decide +kernel) (by decide +kernel)
theorem zw156 : (.instanceMethod ⟨"Scrubward$Memory", "<init>", "()V"⟩ : Jvm.Cond) ∈ zB := zb 156 (by decide +kernel) (by decide +kernel)
theorem zw157 : (.code ⟨"Scrubward$Memory", "<init>", "()V"⟩ prog_6_method_1_code 1 (Option.none : Option Jvm.ClassFile.FieldType) : Jvm.Cond) ∈ zB := zb 157 (by decide +kernel) (by decide +kernel)
theorem zw158 : (.methodLink "Scrubward$Memory" 3 ⟨"java/lang/Object", "<init>", "()V"⟩ : Jvm.Cond) ∈ zB := zb 158 (by decide +kernel) (by decide +kernel)
theorem zw159 : (.classLink "Scrubward$Memory" 9 "Scrubward$Ints" : Jvm.Cond) ∈ zB := zb 159 (by decide +kernel) (by decide +kernel)
theorem zw160 : (.methodLink "Scrubward$Memory" 11 ⟨"Scrubward$Ints", "<init>", "(I)V"⟩ : Jvm.Cond) ∈ zB := zb 160 (by decide +kernel) (by decide +kernel)
theorem zw161 : (.classLink "Scrubward$Memory" 29 "Scrubward$Faults" : Jvm.Cond) ∈ zB := zb 161 (by decide +kernel) (by decide +kernel)
theorem zw162 : (.instantiable "Scrubward$Faults" 4 : Jvm.Cond) ∈ zB := zb 162 (by decide +kernel) (by decide +kernel)
theorem zw164 : (.instanceMethod ⟨"Scrubward$Faults", "<init>", "()V"⟩ : Jvm.Cond) ∈ zB := zb 164 (by decide +kernel) (by decide +kernel)
theorem zw165 : (.code ⟨"Scrubward$Faults", "<init>", "()V"⟩ prog_3_method_1_code 1 (Option.none : Option Jvm.ClassFile.FieldType) : Jvm.Cond) ∈ zB := zb 165 (by decide +kernel) (by decide +kernel)
theorem zw166 : (.methodLink "Scrubward$Faults" 3 ⟨"java/lang/Object", "<init>", "()V"⟩ : Jvm.Cond) ∈ zB := zb 166 (by decide +kernel) (by decide +kernel)
theorem zw167 : (.classLink "Scrubward$Faults" 9 "Scrubward$Ints" : Jvm.Cond) ∈ zB := zb 167 (by decide +kernel) (by decide +kernel)
theorem zw168 : (.methodLink "Scrubward$Faults" 11 ⟨"Scrubward$Ints", "<init>", "(I)V"⟩ : Jvm.Cond) ∈ zB := zb 168 (by decide +kernel) (by decide +kernel)
theorem zw169 : (.fieldLink "Scrubward$Faults" 14 "Scrubward$Faults" "cells" "LScrubward$Ints;" : Jvm.Cond) ∈ zB := zb 169 (by decide +kernel) (by decide +kernel)
theorem zw171 : (.fieldLink "Scrubward$Faults" 20 "Scrubward$Faults" "masks" "LScrubward$Ints;" : Jvm.Cond) ∈ zB := zb 171 (by decide +kernel) (by decide +kernel)
theorem zw173 : (.fieldLink "Scrubward$Faults" 23 "Scrubward$Faults" "values" "LScrubward$Ints;" : Jvm.Cond) ∈ zB := zb 173 (by decide +kernel) (by decide +kernel)
theorem zw175 : (.fieldLink "Scrubward$Faults" 26 "Scrubward$Faults" "count" "I" : Jvm.Cond) ∈ zB := zb 175 (by decide +kernel) (by decide +kernel)
theorem zw178 : (.laysFinal "Scrubward$Faults" "Scrubward$Faults" "cells" "LScrubward$Ints;" : Jvm.Cond) ∈ zB := zb 178 (by decide +kernel) (by decide +kernel)
theorem zw180 : (.laysFinal "Scrubward$Faults" "Scrubward$Faults" "masks" "LScrubward$Ints;" : Jvm.Cond) ∈ zB := zb 180 (by decide +kernel) (by decide +kernel)
theorem zw182 : (.laysFinal "Scrubward$Faults" "Scrubward$Faults" "values" "LScrubward$Ints;" : Jvm.Cond) ∈ zB := zb 182 (by decide +kernel) (by decide +kernel)
theorem zw184 : (.lays "Scrubward$Faults" "Scrubward$Faults" "count" "I" : Jvm.Cond) ∈ zB := zb 184 (by decide +kernel) (by decide +kernel)
theorem zw187 : (.fieldLink "Scrubward$Memory" 14 "Scrubward$Memory" "words" "LScrubward$Ints;" : Jvm.Cond) ∈ zB := zb 187 (by decide +kernel) (by decide +kernel)
theorem zw189 : (.fieldLink "Scrubward$Memory" 20 "Scrubward$Memory" "counts" "LScrubward$Ints;" : Jvm.Cond) ∈ zB := zb 189 (by decide +kernel) (by decide +kernel)
theorem zw191 : (.fieldLink "Scrubward$Memory" 23 "Scrubward$Memory" "freshAt" "LScrubward$Ints;" : Jvm.Cond) ∈ zB := zb 191 (by decide +kernel) (by decide +kernel)
theorem zw193 : (.fieldLink "Scrubward$Memory" 26 "Scrubward$Memory" "leaked" "LScrubward$Ints;" : Jvm.Cond) ∈ zB := zb 193 (by decide +kernel) (by decide +kernel)
theorem zw194 : (.fieldLink "Scrubward$Memory" 32 "Scrubward$Memory" "stuck" "LScrubward$Faults;" : Jvm.Cond) ∈ zB := zb 194 (by decide +kernel) (by decide +kernel)
theorem zw196 : (.fieldLink "Scrubward$Memory" 36 "Scrubward$Memory" "weak" "LScrubward$Faults;" : Jvm.Cond) ∈ zB := zb 196 (by decide +kernel) (by decide +kernel)
theorem zw198 : (.fieldLink "Scrubward$Memory" 49 "Scrubward$Memory" "width" "I" : Jvm.Cond) ∈ zB := zb 198 (by decide +kernel) (by decide +kernel)
theorem zw199 : (.fieldLink "Scrubward$Memory" 85 "Scrubward$Memory" "tick" "I" : Jvm.Cond) ∈ zB := zb 199 (by decide +kernel) (by decide +kernel)
theorem zw201 : (.fieldLink "Scrubward$Memory" 39 "Scrubward$Memory" "period" "I" : Jvm.Cond) ∈ zB := zb 201 (by decide +kernel) (by decide +kernel)
theorem zw203 : (.fieldLink "Scrubward$Memory" 43 "Scrubward$Memory" "limit" "I" : Jvm.Cond) ∈ zB := zb 203 (by decide +kernel) (by decide +kernel)
theorem zw205 : (.fieldLink "Scrubward$Memory" 46 "Scrubward$Memory" "nextDrawn" "I" : Jvm.Cond) ∈ zB := zb 205 (by decide +kernel) (by decide +kernel)
theorem zw206 : (.fieldLink "Scrubward$Memory" 95 "Scrubward$Memory" "drawnEver" "I" : Jvm.Cond) ∈ zB := zb 206 (by decide +kernel) (by decide +kernel)
theorem zw208 : (.laysFinal "Scrubward$Memory" "Scrubward$Memory" "words" "LScrubward$Ints;" : Jvm.Cond) ∈ zB := zb 208 (by decide +kernel) (by decide +kernel)
theorem zw210 : (.laysFinal "Scrubward$Memory" "Scrubward$Memory" "counts" "LScrubward$Ints;" : Jvm.Cond) ∈ zB := zb 210 (by decide +kernel) (by decide +kernel)
theorem zw212 : (.laysFinal "Scrubward$Memory" "Scrubward$Memory" "freshAt" "LScrubward$Ints;" : Jvm.Cond) ∈ zB := zb 212 (by decide +kernel) (by decide +kernel)
theorem zw214 : (.laysFinal "Scrubward$Memory" "Scrubward$Memory" "leaked" "LScrubward$Ints;" : Jvm.Cond) ∈ zB := zb 214 (by decide +kernel) (by decide +kernel)
theorem zw216 : (.laysFinal "Scrubward$Memory" "Scrubward$Memory" "stuck" "LScrubward$Faults;" : Jvm.Cond) ∈ zB := zb 216 (by decide +kernel) (by decide +kernel)
theorem zw218 : (.laysFinal "Scrubward$Memory" "Scrubward$Memory" "weak" "LScrubward$Faults;" : Jvm.Cond) ∈ zB := zb 218 (by decide +kernel) (by decide +kernel)
theorem zw220 : (.lays "Scrubward$Memory" "Scrubward$Memory" "width" "I" : Jvm.Cond) ∈ zB := zb 220 (by decide +kernel) (by decide +kernel)
theorem zw222 : (.lays "Scrubward$Memory" "Scrubward$Memory" "tick" "I" : Jvm.Cond) ∈ zB := zb 222 (by decide +kernel) (by decide +kernel)
theorem zw224 : (.lays "Scrubward$Memory" "Scrubward$Memory" "period" "I" : Jvm.Cond) ∈ zB := zb 224 (by decide +kernel) (by decide +kernel)
theorem zw226 : (.lays "Scrubward$Memory" "Scrubward$Memory" "limit" "I" : Jvm.Cond) ∈ zB := zb 226 (by decide +kernel) (by decide +kernel)
theorem zw228 : (.lays "Scrubward$Memory" "Scrubward$Memory" "nextDrawn" "I" : Jvm.Cond) ∈ zB := zb 228 (by decide +kernel) (by decide +kernel)
theorem zw230 : (.lays "Scrubward$Memory" "Scrubward$Memory" "drawnEver" "I" : Jvm.Cond) ∈ zB := zb 230 (by decide +kernel) (by decide +kernel)
theorem zw233 : (.classLink "Scrubward" 23 "Scrubward$Log" : Jvm.Cond) ∈ zB := zb 233 (by decide +kernel) (by decide +kernel)
theorem zw234 : (.instantiable "Scrubward$Log" 6 : Jvm.Cond) ∈ zB := zb 234 (by decide +kernel) (by decide +kernel)
theorem zw236 : (.instanceMethod ⟨"Scrubward$Log", "<init>", "()V"⟩ : Jvm.Cond) ∈ zB := zb 236 (by decide +kernel) (by decide +kernel)
theorem zw237 : (.code ⟨"Scrubward$Log", "<init>", "()V"⟩ prog_5_method_1_code 1 (Option.none : Option Jvm.ClassFile.FieldType) : Jvm.Cond) ∈ zB := zb 237 (by decide +kernel) (by decide +kernel)
theorem zw238 : (.methodLink "Scrubward$Log" 3 ⟨"java/lang/Object", "<init>", "()V"⟩ : Jvm.Cond) ∈ zB := zb 238 (by decide +kernel) (by decide +kernel)
theorem zw239 : (.classLink "Scrubward$Log" 9 "Scrubward$Ints" : Jvm.Cond) ∈ zB := zb 239 (by decide +kernel) (by decide +kernel)
theorem zw240 : (.methodLink "Scrubward$Log" 11 ⟨"Scrubward$Ints", "<init>", "(I)V"⟩ : Jvm.Cond) ∈ zB := zb 240 (by decide +kernel) (by decide +kernel)
theorem zw241 : (.fieldLink "Scrubward$Log" 14 "Scrubward$Log" "addresses" "LScrubward$Ints;" : Jvm.Cond) ∈ zB := zb 241 (by decide +kernel) (by decide +kernel)
theorem zw243 : (.fieldLink "Scrubward$Log" 20 "Scrubward$Log" "bits" "LScrubward$Ints;" : Jvm.Cond) ∈ zB := zb 243 (by decide +kernel) (by decide +kernel)
theorem zw245 : (.fieldLink "Scrubward$Log" 23 "Scrubward$Log" "ticks" "LScrubward$Ints;" : Jvm.Cond) ∈ zB := zb 245 (by decide +kernel) (by decide +kernel)
theorem zw247 : (.fieldLink "Scrubward$Log" 26 "Scrubward$Log" "count" "I" : Jvm.Cond) ∈ zB := zb 247 (by decide +kernel) (by decide +kernel)
theorem zw249 : (.fieldLink "Scrubward$Log" 33 "Scrubward$Log" "mendedEver" "I" : Jvm.Cond) ∈ zB := zb 249 (by decide +kernel) (by decide +kernel)
theorem zw251 : (.fieldLink "Scrubward$Log" 30 "Scrubward$Log" "badEver" "I" : Jvm.Cond) ∈ zB := zb 251 (by decide +kernel) (by decide +kernel)
theorem zw253 : (.laysFinal "Scrubward$Log" "Scrubward$Log" "addresses" "LScrubward$Ints;" : Jvm.Cond) ∈ zB := zb 253 (by decide +kernel) (by decide +kernel)
theorem zw255 : (.laysFinal "Scrubward$Log" "Scrubward$Log" "bits" "LScrubward$Ints;" : Jvm.Cond) ∈ zB := zb 255 (by decide +kernel) (by decide +kernel)
theorem zw257 : (.laysFinal "Scrubward$Log" "Scrubward$Log" "ticks" "LScrubward$Ints;" : Jvm.Cond) ∈ zB := zb 257 (by decide +kernel) (by decide +kernel)
theorem zw259 : (.lays "Scrubward$Log" "Scrubward$Log" "count" "I" : Jvm.Cond) ∈ zB := zb 259 (by decide +kernel) (by decide +kernel)
theorem zw261 : (.lays "Scrubward$Log" "Scrubward$Log" "mendedEver" "I" : Jvm.Cond) ∈ zB := zb 261 (by decide +kernel) (by decide +kernel)
theorem zw263 : (.lays "Scrubward$Log" "Scrubward$Log" "badEver" "I" : Jvm.Cond) ∈ zB := zb 263 (by decide +kernel) (by decide +kernel)
theorem zw266 : (.classLink "Scrubward" 30 "Scrubward$Ints" : Jvm.Cond) ∈ zB := zb 266 (by decide +kernel) (by decide +kernel)
theorem zw267 : (.methodLink "Scrubward" 32 ⟨"Scrubward$Ints", "<init>", "(I)V"⟩ : Jvm.Cond) ∈ zB := zb 267 (by decide +kernel) (by decide +kernel)
theorem zw268 : (.methodLink "Scrubward" 48 ⟨"Scrubward$Ints", "set", "(II)V"⟩ : Jvm.Cond) ∈ zB := zb 268 (by decide +kernel) (by decide +kernel)
theorem zw269 : (.instanceMethod ⟨"Scrubward$Ints", "set", "(II)V"⟩ : Jvm.Cond) ∈ zB := zb 269 (by decide +kernel) (by decide +kernel)
theorem zw270 : (.selects "Scrubward$Ints" ⟨"Scrubward$Ints", "set", "(II)V"⟩ ⟨"Scrubward$Ints", "set", "(II)V"⟩ : Jvm.Cond) ∈ zB := zb 270 (by decide +kernel) (by decide +kernel)
theorem zw271 : (.code ⟨"Scrubward$Ints", "set", "(II)V"⟩ prog_4_method_3_code 3 (Option.none : Option Jvm.ClassFile.FieldType) : Jvm.Cond) ∈ zB := zb 271 (by decide +kernel) (by decide +kernel)
theorem zw272 : (.methodLink "Scrubward" 52 ⟨"Scrubward$Code", "make", "(II)V"⟩ : Jvm.Cond) ∈ zB := zb 272 (by decide +kernel) (by decide +kernel)
theorem zw273 : (.instanceMethod ⟨"Scrubward$Code", "make", "(II)V"⟩ : Jvm.Cond) ∈ zB := zb 273 (by decide +kernel) (by decide +kernel)
theorem zw274 : (.selects "Scrubward$Code" ⟨"Scrubward$Code", "make", "(II)V"⟩ ⟨"Scrubward$Code", "make", "(II)V"⟩ : Jvm.Cond) ∈ zB := zb 274 (by decide +kernel) (by decide +kernel)
theorem zw275 : (.code ⟨"Scrubward$Code", "make", "(II)V"⟩ prog_2_method_4_code 4 (Option.none : Option Jvm.ClassFile.FieldType) : Jvm.Cond) ∈ zB := zb 275 (by decide +kernel) (by decide +kernel)
theorem zw276 : (.methodLink "Scrubward$Code" 43 ⟨"Scrubward$Code", "makeDataColumns", "()V"⟩ : Jvm.Cond) ∈ zB := zb 276 (by decide +kernel) (by decide +kernel)
theorem zw278 : (.instanceMethod ⟨"Scrubward$Code", "makeDataColumns", "()V"⟩ : Jvm.Cond) ∈ zB := zb 278 (by decide +kernel) (by decide +kernel)
theorem zw279 : (.code ⟨"Scrubward$Code", "makeDataColumns", "()V"⟩ prog_2_method_5_code 4 (Option.none : Option Jvm.ClassFile.FieldType) : Jvm.Cond) ∈ zB := zb 279 (by decide +kernel) (by decide +kernel)
theorem zw280 : (.methodLink "Scrubward$Code" 23 ⟨"java/lang/Integer", "bitCount", "(I)I"⟩ : Jvm.Cond) ∈ zB := zb 280 (by decide +kernel) (by decide +kernel)
theorem zw281 : (.static ⟨"java/lang/Integer", "bitCount", "(I)I"⟩ : Jvm.Cond) ∈ zB := zb 281 (by decide +kernel) (by decide +kernel)
theorem zw282 : (.code ⟨"java/lang/Integer", "bitCount", "(I)I"⟩ prog_20_method_49_code 1 (Option.some Jvm.ClassFile.FieldType.int) : Jvm.Cond) ∈ zB := zb 282 (by decide +kernel) (by decide +kernel)
theorem zw283 : (.constant "java/lang/Integer" 265 1431655765 : Jvm.Cond) ∈ zB := zb 283 (by decide +kernel) (by decide +kernel)
theorem zw284 : (.constant "java/lang/Integer" 266 858993459 : Jvm.Cond) ∈ zB := zb 284 (by decide +kernel) (by decide +kernel)
theorem zw285 : (.constant "java/lang/Integer" 267 252645135 : Jvm.Cond) ∈ zB := zb 285 (by decide +kernel) (by decide +kernel)
theorem zw286 : (.methodLink "Scrubward$Code" 46 ⟨"Scrubward$Ints", "set", "(II)V"⟩ : Jvm.Cond) ∈ zB := zb 286 (by decide +kernel) (by decide +kernel)
theorem zw287 : (.methodLink "Scrubward$Code" 50 ⟨"Scrubward$Ints", "fill", "(I)V"⟩ : Jvm.Cond) ∈ zB := zb 287 (by decide +kernel) (by decide +kernel)
theorem zw288 : (.instanceMethod ⟨"Scrubward$Ints", "fill", "(I)V"⟩ : Jvm.Cond) ∈ zB := zb 288 (by decide +kernel) (by decide +kernel)
theorem zw289 : (.selects "Scrubward$Ints" ⟨"Scrubward$Ints", "fill", "(I)V"⟩ ⟨"Scrubward$Ints", "fill", "(I)V"⟩ : Jvm.Cond) ∈ zB := zb 289 (by decide +kernel) (by decide +kernel)
theorem zw290 : (.code ⟨"Scrubward$Ints", "fill", "(I)V"⟩ prog_4_method_4_code 3 (Option.none : Option Jvm.ClassFile.FieldType) : Jvm.Cond) ∈ zB := zb 290 (by decide +kernel) (by decide +kernel)
theorem zw291 : (.methodLink "Scrubward$Code" 53 ⟨"Scrubward$Ints", "get", "(I)I"⟩ : Jvm.Cond) ∈ zB := zb 291 (by decide +kernel) (by decide +kernel)
theorem zw292 : (.instanceMethod ⟨"Scrubward$Ints", "get", "(I)I"⟩ : Jvm.Cond) ∈ zB := zb 292 (by decide +kernel) (by decide +kernel)
theorem zw293 : (.selects "Scrubward$Ints" ⟨"Scrubward$Ints", "get", "(I)I"⟩ ⟨"Scrubward$Ints", "get", "(I)I"⟩ : Jvm.Cond) ∈ zB := zb 293 (by decide +kernel) (by decide +kernel)
theorem zw294 : (.code ⟨"Scrubward$Ints", "get", "(I)I"⟩ prog_4_method_2_code 2 (Option.some Jvm.ClassFile.FieldType.int) : Jvm.Cond) ∈ zB := zb 294 (by decide +kernel) (by decide +kernel)
theorem zw295 : (.methodLink "Scrubward" 59 ⟨"Scrubward$Memory", "wipe", "(I)V"⟩ : Jvm.Cond) ∈ zB := zb 295 (by decide +kernel) (by decide +kernel)
theorem zw296 : (.instanceMethod ⟨"Scrubward$Memory", "wipe", "(I)V"⟩ : Jvm.Cond) ∈ zB := zb 296 (by decide +kernel) (by decide +kernel)
theorem zw297 : (.selects "Scrubward$Memory" ⟨"Scrubward$Memory", "wipe", "(I)V"⟩ ⟨"Scrubward$Memory", "wipe", "(I)V"⟩ : Jvm.Cond) ∈ zB := zb 297 (by decide +kernel) (by decide +kernel)
theorem zw298 : (.code ⟨"Scrubward$Memory", "wipe", "(I)V"⟩ prog_6_method_2_code 3 (Option.none : Option Jvm.ClassFile.FieldType) : Jvm.Cond) ∈ zB := zb 298 (by decide +kernel) (by decide +kernel)
theorem zw299 : (.methodLink "Scrubward$Memory" 52 ⟨"Scrubward$Faults", "keepBitsBelow", "(I)V"⟩ : Jvm.Cond) ∈ zB := zb 299 (by decide +kernel) (by decide +kernel)
theorem zw300 : (.instanceMethod ⟨"Scrubward$Faults", "keepBitsBelow", "(I)V"⟩ : Jvm.Cond) ∈ zB := zb 300 (by decide +kernel) (by decide +kernel)
theorem zw301 : (.selects "Scrubward$Faults" ⟨"Scrubward$Faults", "keepBitsBelow", "(I)V"⟩ ⟨"Scrubward$Faults", "keepBitsBelow", "(I)V"⟩ : Jvm.Cond) ∈ zB := zb 301 (by decide +kernel) (by decide +kernel)
theorem zw302 : (.code ⟨"Scrubward$Faults", "keepBitsBelow", "(I)V"⟩ prog_3_method_4_code 4 (Option.none : Option Jvm.ClassFile.FieldType) : Jvm.Cond) ∈ zB := zb 302 (by decide +kernel) (by decide +kernel)
theorem zw303 : (.methodLink "Scrubward$Faults" 38 ⟨"Scrubward$Ints", "get", "(I)I"⟩ : Jvm.Cond) ∈ zB := zb 303 (by decide +kernel) (by decide +kernel)
theorem zw304 : (.methodLink "Scrubward$Faults" 42 ⟨"Scrubward$Faults", "add", "(III)V"⟩ : Jvm.Cond) ∈ zB := zb 304 (by decide +kernel) (by decide +kernel)
theorem zw305 : (.instanceMethod ⟨"Scrubward$Faults", "add", "(III)V"⟩ : Jvm.Cond) ∈ zB := zb 305 (by decide +kernel) (by decide +kernel)
theorem zw306 : (.selects "Scrubward$Faults" ⟨"Scrubward$Faults", "add", "(III)V"⟩ ⟨"Scrubward$Faults", "add", "(III)V"⟩ : Jvm.Cond) ∈ zB := zb 306 (by decide +kernel) (by decide +kernel)
theorem zw307 : (.code ⟨"Scrubward$Faults", "add", "(III)V"⟩ prog_3_method_3_code 4 (Option.none : Option Jvm.ClassFile.FieldType) : Jvm.Cond) ∈ zB := zb 307 (by decide +kernel) (by decide +kernel)
theorem zw308 : (.methodLink "Scrubward$Faults" 30 ⟨"Scrubward$Faults", "isFull", "()Z"⟩ : Jvm.Cond) ∈ zB := zb 308 (by decide +kernel) (by decide +kernel)
theorem zw309 : (.instanceMethod ⟨"Scrubward$Faults", "isFull", "()Z"⟩ : Jvm.Cond) ∈ zB := zb 309 (by decide +kernel) (by decide +kernel)
theorem zw310 : (.selects "Scrubward$Faults" ⟨"Scrubward$Faults", "isFull", "()Z"⟩ ⟨"Scrubward$Faults", "isFull", "()Z"⟩ : Jvm.Cond) ∈ zB := zb 310 (by decide +kernel) (by decide +kernel)
theorem zw311 : (.code ⟨"Scrubward$Faults", "isFull", "()Z"⟩ prog_3_method_2_code 1 (Option.some Jvm.ClassFile.FieldType.boolean) : Jvm.Cond) ∈ zB := zb 311 (by decide +kernel) (by decide +kernel)
theorem zw312 : (.methodLink "Scrubward$Faults" 34 ⟨"Scrubward$Ints", "set", "(II)V"⟩ : Jvm.Cond) ∈ zB := zb 312 (by decide +kernel) (by decide +kernel)
theorem zw313 : (.methodLink "Scrubward$Memory" 55 ⟨"Scrubward$Ints", "fill", "(I)V"⟩ : Jvm.Cond) ∈ zB := zb 313 (by decide +kernel) (by decide +kernel)
theorem zw314 : (.methodLink "Scrubward$Memory" 58 ⟨"Scrubward$Memory", "put", "(II)V"⟩ : Jvm.Cond) ∈ zB := zb 314 (by decide +kernel) (by decide +kernel)
theorem zw315 : (.instanceMethod ⟨"Scrubward$Memory", "put", "(II)V"⟩ : Jvm.Cond) ∈ zB := zb 315 (by decide +kernel) (by decide +kernel)
theorem zw316 : (.selects "Scrubward$Memory" ⟨"Scrubward$Memory", "put", "(II)V"⟩ ⟨"Scrubward$Memory", "put", "(II)V"⟩ : Jvm.Cond) ∈ zB := zb 316 (by decide +kernel) (by decide +kernel)
theorem zw317 : (.code ⟨"Scrubward$Memory", "put", "(II)V"⟩ prog_6_method_3_code 3 (Option.none : Option Jvm.ClassFile.FieldType) : Jvm.Cond) ∈ zB := zb 317 (by decide +kernel) (by decide +kernel)
theorem zw318 : (.methodLink "Scrubward$Memory" 62 ⟨"Scrubward$Memory", "asStuck", "(II)I"⟩ : Jvm.Cond) ∈ zB := zb 318 (by decide +kernel) (by decide +kernel)
theorem zw320 : (.instanceMethod ⟨"Scrubward$Memory", "asStuck", "(II)I"⟩ : Jvm.Cond) ∈ zB := zb 320 (by decide +kernel) (by decide +kernel)
theorem zw321 : (.code ⟨"Scrubward$Memory", "asStuck", "(II)I"⟩ prog_6_method_4_code 6 (Option.some Jvm.ClassFile.FieldType.int) : Jvm.Cond) ∈ zB := zb 321 (by decide +kernel) (by decide +kernel)
theorem zw322 : (.methodLink "Scrubward$Memory" 75 ⟨"Scrubward$Ints", "get", "(I)I"⟩ : Jvm.Cond) ∈ zB := zb 322 (by decide +kernel) (by decide +kernel)
theorem zw323 : (.methodLink "Scrubward$Memory" 66 ⟨"Scrubward$Ints", "set", "(II)V"⟩ : Jvm.Cond) ∈ zB := zb 323 (by decide +kernel) (by decide +kernel)
theorem zw324 : (.fieldLink "Scrubward" 12 "Scrubward" "coder" "LScrubward$Code;" : Jvm.Cond) ∈ zB := zb 324 (by decide +kernel) (by decide +kernel)
theorem zw325 : (.fieldLink "Scrubward" 19 "Scrubward" "memory" "LScrubward$Memory;" : Jvm.Cond) ∈ zB := zb 325 (by decide +kernel) (by decide +kernel)
theorem zw326 : (.fieldLink "Scrubward" 26 "Scrubward" "log" "LScrubward$Log;" : Jvm.Cond) ∈ zB := zb 326 (by decide +kernel) (by decide +kernel)
theorem zw327 : (.fieldLink "Scrubward" 35 "Scrubward" "lineOfRow" "LScrubward$Ints;" : Jvm.Cond) ∈ zB := zb 327 (by decide +kernel) (by decide +kernel)
theorem zw328 : (.fieldLink "Scrubward" 39 "Scrubward" "sparesUsed" "LScrubward$Ints;" : Jvm.Cond) ∈ zB := zb 328 (by decide +kernel) (by decide +kernel)
theorem zw329 : (.fieldLink "Scrubward" 42 "Scrubward" "poisoned" "LScrubward$Ints;" : Jvm.Cond) ∈ zB := zb 329 (by decide +kernel) (by decide +kernel)
theorem zw330 : (.fieldLink "Scrubward" 45 "Scrubward" "retired" "LScrubward$Ints;" : Jvm.Cond) ∈ zB := zb 330 (by decide +kernel) (by decide +kernel)
theorem zw331 : (.fieldLink "Scrubward" 198 "Scrubward" "steps" "I" : Jvm.Cond) ∈ zB := zb 331 (by decide +kernel) (by decide +kernel)
theorem zw332 : (.fieldLink "Scrubward" 121 "Scrubward" "demandOn" "Z" : Jvm.Cond) ∈ zB := zb 332 (by decide +kernel) (by decide +kernel)
theorem zw333 : (.fieldLink "Scrubward" 98 "Scrubward" "mirrorOn" "Z" : Jvm.Cond) ∈ zB := zb 333 (by decide +kernel) (by decide +kernel)
theorem zw334 : (.fieldLink "Scrubward" 312 "Scrubward" "patrolAt" "I" : Jvm.Cond) ∈ zB := zb 334 (by decide +kernel) (by decide +kernel)
theorem zw335 : (.fieldLink "Scrubward" 230 "Scrubward" "refused" "I" : Jvm.Cond) ∈ zB := zb 335 (by decide +kernel) (by decide +kernel)
theorem zw336 : (.laysFinal "Scrubward" "Scrubward" "coder" "LScrubward$Code;" : Jvm.Cond) ∈ zB := zb 336 (by decide +kernel) (by decide +kernel)
theorem zw338 : (.laysFinal "Scrubward" "Scrubward" "memory" "LScrubward$Memory;" : Jvm.Cond) ∈ zB := zb 338 (by decide +kernel) (by decide +kernel)
theorem zw340 : (.laysFinal "Scrubward" "Scrubward" "log" "LScrubward$Log;" : Jvm.Cond) ∈ zB := zb 340 (by decide +kernel) (by decide +kernel)
theorem zw342 : (.laysFinal "Scrubward" "Scrubward" "lineOfRow" "LScrubward$Ints;" : Jvm.Cond) ∈ zB := zb 342 (by decide +kernel) (by decide +kernel)
theorem zw344 : (.laysFinal "Scrubward" "Scrubward" "sparesUsed" "LScrubward$Ints;" : Jvm.Cond) ∈ zB := zb 344 (by decide +kernel) (by decide +kernel)
theorem zw346 : (.laysFinal "Scrubward" "Scrubward" "poisoned" "LScrubward$Ints;" : Jvm.Cond) ∈ zB := zb 346 (by decide +kernel) (by decide +kernel)
theorem zw348 : (.laysFinal "Scrubward" "Scrubward" "retired" "LScrubward$Ints;" : Jvm.Cond) ∈ zB := zb 348 (by decide +kernel) (by decide +kernel)
theorem zw350 : (.lays "Scrubward" "Scrubward" "steps" "I" : Jvm.Cond) ∈ zB := zb 350 (by decide +kernel) (by decide +kernel)
theorem zw352 : (.lays "Scrubward" "Scrubward" "demandOn" "Z" : Jvm.Cond) ∈ zB := zb 352 (by decide +kernel) (by decide +kernel)
theorem zw354 : (.lays "Scrubward" "Scrubward" "mirrorOn" "Z" : Jvm.Cond) ∈ zB := zb 354 (by decide +kernel) (by decide +kernel)
theorem zw356 : (.lays "Scrubward" "Scrubward" "patrolAt" "I" : Jvm.Cond) ∈ zB := zb 356 (by decide +kernel) (by decide +kernel)
theorem zw358 : (.lays "Scrubward" "Scrubward" "refused" "I" : Jvm.Cond) ∈ zB := zb 358 (by decide +kernel) (by decide +kernel)
theorem zw361 : (.methodLink "ScrubwardLaw" 158 ⟨"Scrubward", "clear", "()I"⟩ : Jvm.Cond) ∈ zB := zb 361 (by decide +kernel) (by decide +kernel)
theorem zw362 : (.instanceMethod ⟨"Scrubward", "clear", "()I"⟩ : Jvm.Cond) ∈ zB := zb 362 (by decide +kernel) (by decide +kernel)
theorem zw363 : (.selects "Scrubward" ⟨"Scrubward", "clear", "()I"⟩ ⟨"Scrubward", "clear", "()I"⟩ : Jvm.Cond) ∈ zB := zb 363 (by decide +kernel) (by decide +kernel)
theorem zw364 : (.code ⟨"Scrubward", "clear", "()I"⟩ prog_1_method_13_code 2 (Option.some Jvm.ClassFile.FieldType.int) : Jvm.Cond) ∈ zB := zb 364 (by decide +kernel) (by decide +kernel)
theorem zw365 : (.methodLink "Scrubward" 80 ⟨"Scrubward$Log", "empty", "()V"⟩ : Jvm.Cond) ∈ zB := zb 365 (by decide +kernel) (by decide +kernel)
theorem zw366 : (.instanceMethod ⟨"Scrubward$Log", "empty", "()V"⟩ : Jvm.Cond) ∈ zB := zb 366 (by decide +kernel) (by decide +kernel)
theorem zw367 : (.selects "Scrubward$Log" ⟨"Scrubward$Log", "empty", "()V"⟩ ⟨"Scrubward$Log", "empty", "()V"⟩ : Jvm.Cond) ∈ zB := zb 367 (by decide +kernel) (by decide +kernel)
theorem zw368 : (.code ⟨"Scrubward$Log", "empty", "()V"⟩ prog_5_method_2_code 1 (Option.none : Option Jvm.ClassFile.FieldType) : Jvm.Cond) ∈ zB := zb 368 (by decide +kernel) (by decide +kernel)
theorem zw369 : (.methodLink "ScrubwardLaw" 163 ⟨"Scrubward", "call", "()I"⟩ : Jvm.Cond) ∈ zB := zb 369 (by decide +kernel) (by decide +kernel)
theorem zw370 : (.instanceMethod ⟨"Scrubward", "call", "()I"⟩ : Jvm.Cond) ∈ zB := zb 370 (by decide +kernel) (by decide +kernel)
theorem zw371 : (.selects "Scrubward" ⟨"Scrubward", "call", "()I"⟩ ⟨"Scrubward", "call", "()I"⟩ : Jvm.Cond) ∈ zB := zb 371 (by decide +kernel) (by decide +kernel)
theorem zw372 : (.code ⟨"Scrubward", "call", "()I"⟩ prog_1_method_14_code 1 (Option.some Jvm.ClassFile.FieldType.int) : Jvm.Cond) ∈ zB := zb 372 (by decide +kernel) (by decide +kernel)
theorem zw373 : (.methodLink "ScrubwardLaw" 209 ⟨"Scrubward", "isSound", "()Z"⟩ : Jvm.Cond) ∈ zB := zb 373 (by decide +kernel) (by decide +kernel)
theorem zw374 : (.instanceMethod ⟨"Scrubward", "isSound", "()Z"⟩ : Jvm.Cond) ∈ zB := zb 374 (by decide +kernel) (by decide +kernel)
theorem zw375 : (.selects "Scrubward" ⟨"Scrubward", "isSound", "()Z"⟩ ⟨"Scrubward", "isSound", "()Z"⟩ : Jvm.Cond) ∈ zB := zb 375 (by decide +kernel) (by decide +kernel)
theorem zw376 : (.code ⟨"Scrubward", "isSound", "()Z"⟩ prog_1_method_29_code 1 (Option.some Jvm.ClassFile.FieldType.boolean) : Jvm.Cond) ∈ zB := zb 376 (by decide +kernel) (by decide +kernel)
theorem zw377 : (.methodLink "Scrubward" 349 ⟨"Scrubward$Code", "isInOrder", "()Z"⟩ : Jvm.Cond) ∈ zB := zb 377 (by decide +kernel) (by decide +kernel)
theorem zw378 : (.instanceMethod ⟨"Scrubward$Code", "isInOrder", "()Z"⟩ : Jvm.Cond) ∈ zB := zb 378 (by decide +kernel) (by decide +kernel)
theorem zw379 : (.selects "Scrubward$Code" ⟨"Scrubward$Code", "isInOrder", "()Z"⟩ ⟨"Scrubward$Code", "isInOrder", "()Z"⟩ : Jvm.Cond) ∈ zB := zb 379 (by decide +kernel) (by decide +kernel)
theorem zw380 : (.code ⟨"Scrubward$Code", "isInOrder", "()Z"⟩ prog_2_method_19_code 3 (Option.some Jvm.ClassFile.FieldType.boolean) : Jvm.Cond) ∈ zB := zb 380 (by decide +kernel) (by decide +kernel)
theorem zw381 : (.methodLink "Scrubward" 352 ⟨"Scrubward$Memory", "isInOrder", "()Z"⟩ : Jvm.Cond) ∈ zB := zb 381 (by decide +kernel) (by decide +kernel)
theorem zw382 : (.instanceMethod ⟨"Scrubward$Memory", "isInOrder", "()Z"⟩ : Jvm.Cond) ∈ zB := zb 382 (by decide +kernel) (by decide +kernel)
theorem zw383 : (.selects "Scrubward$Memory" ⟨"Scrubward$Memory", "isInOrder", "()Z"⟩ ⟨"Scrubward$Memory", "isInOrder", "()Z"⟩ : Jvm.Cond) ∈ zB := zb 383 (by decide +kernel) (by decide +kernel)
theorem zw384 : (.code ⟨"Scrubward$Memory", "isInOrder", "()Z"⟩ prog_6_method_13_code 3 (Option.some Jvm.ClassFile.FieldType.boolean) : Jvm.Cond) ∈ zB := zb 384 (by decide +kernel) (by decide +kernel)
theorem zw385 : (.methodLink "Scrubward" 353 ⟨"Scrubward$Log", "isInOrder", "()Z"⟩ : Jvm.Cond) ∈ zB := zb 385 (by decide +kernel) (by decide +kernel)
theorem zw386 : (.instanceMethod ⟨"Scrubward$Log", "isInOrder", "()Z"⟩ : Jvm.Cond) ∈ zB := zb 386 (by decide +kernel) (by decide +kernel)
theorem zw387 : (.selects "Scrubward$Log" ⟨"Scrubward$Log", "isInOrder", "()Z"⟩ ⟨"Scrubward$Log", "isInOrder", "()Z"⟩ : Jvm.Cond) ∈ zB := zb 387 (by decide +kernel) (by decide +kernel)
theorem zw388 : (.code ⟨"Scrubward$Log", "isInOrder", "()Z"⟩ prog_5_method_10_code 1 (Option.some Jvm.ClassFile.FieldType.boolean) : Jvm.Cond) ∈ zB := zb 388 (by decide +kernel) (by decide +kernel)
theorem zw389 : (.methodLink "Scrubward" 354 ⟨"Scrubward", "rowsHaveOwnLines", "()Z"⟩ : Jvm.Cond) ∈ zB := zb 389 (by decide +kernel) (by decide +kernel)
theorem zw391 : (.instanceMethod ⟨"Scrubward", "rowsHaveOwnLines", "()Z"⟩ : Jvm.Cond) ∈ zB := zb 391 (by decide +kernel) (by decide +kernel)
theorem zw392 : (.code ⟨"Scrubward", "rowsHaveOwnLines", "()Z"⟩ prog_1_method_43_code 2 (Option.some Jvm.ClassFile.FieldType.boolean) : Jvm.Cond) ∈ zB := zb 392 (by decide +kernel) (by decide +kernel)
theorem zw393 : (.methodLink "Scrubward" 189 ⟨"Scrubward$Ints", "get", "(I)I"⟩ : Jvm.Cond) ∈ zB := zb 393 (by decide +kernel) (by decide +kernel)
theorem zw394 : (.methodLink "Scrubward" 276 ⟨"Scrubward", "rowOn", "(II)I"⟩ : Jvm.Cond) ∈ zB := zb 394 (by decide +kernel) (by decide +kernel)
theorem zw396 : (.instanceMethod ⟨"Scrubward", "rowOn", "(II)I"⟩ : Jvm.Cond) ∈ zB := zb 396 (by decide +kernel) (by decide +kernel)
theorem zw397 : (.code ⟨"Scrubward", "rowOn", "(II)I"⟩ prog_1_method_42_code 4 (Option.some Jvm.ClassFile.FieldType.int) : Jvm.Cond) ∈ zB := zb 397 (by decide +kernel) (by decide +kernel)
theorem zw398 : (.methodLink "ScrubwardLaw" 214 ⟨"Scrubward", "digest", "()J"⟩ : Jvm.Cond) ∈ zB := zb 398 (by decide +kernel) (by decide +kernel)
theorem zw399 : (.instanceMethod ⟨"Scrubward", "digest", "()J"⟩ : Jvm.Cond) ∈ zB := zb 399 (by decide +kernel) (by decide +kernel)
theorem zw400 : (.selects "Scrubward" ⟨"Scrubward", "digest", "()J"⟩ ⟨"Scrubward", "digest", "()J"⟩ : Jvm.Cond) ∈ zB := zb 400 (by decide +kernel) (by decide +kernel)
theorem zw401 : (.code ⟨"Scrubward", "digest", "()J"⟩ prog_1_method_30_code 5 (Option.some Jvm.ClassFile.FieldType.long) : Jvm.Cond) ∈ zB := zb 401 (by decide +kernel) (by decide +kernel)
theorem zw402 : (.constantLong "Scrubward" 357 58281 : Jvm.Cond) ∈ zB := zb 402 (by decide +kernel) (by decide +kernel)
theorem zw403 : (.methodLink "Scrubward" 359 ⟨"Scrubward", "board", "(I)I"⟩ : Jvm.Cond) ∈ zB := zb 403 (by decide +kernel) (by decide +kernel)
theorem zw404 : (.instanceMethod ⟨"Scrubward", "board", "(I)I"⟩ : Jvm.Cond) ∈ zB := zb 404 (by decide +kernel) (by decide +kernel)
theorem zw405 : (.selects "Scrubward" ⟨"Scrubward", "board", "(I)I"⟩ ⟨"Scrubward", "board", "(I)I"⟩ : Jvm.Cond) ∈ zB := zb 405 (by decide +kernel) (by decide +kernel)
theorem zw406 : (.code ⟨"Scrubward", "board", "(I)I"⟩ prog_1_method_23_code 2 (Option.some Jvm.ClassFile.FieldType.int) : Jvm.Cond) ∈ zB := zb 406 (by decide +kernel) (by decide +kernel)
theorem zw407 : (.methodLink "Scrubward" 212 ⟨"Scrubward$Ints", "sum", "()I"⟩ : Jvm.Cond) ∈ zB := zb 407 (by decide +kernel) (by decide +kernel)
theorem zw408 : (.instanceMethod ⟨"Scrubward$Ints", "sum", "()I"⟩ : Jvm.Cond) ∈ zB := zb 408 (by decide +kernel) (by decide +kernel)
theorem zw409 : (.selects "Scrubward$Ints" ⟨"Scrubward$Ints", "sum", "()I"⟩ ⟨"Scrubward$Ints", "sum", "()I"⟩ : Jvm.Cond) ∈ zB := zb 409 (by decide +kernel) (by decide +kernel)
theorem zw410 : (.code ⟨"Scrubward$Ints", "sum", "()I"⟩ prog_4_method_5_code 3 (Option.some Jvm.ClassFile.FieldType.int) : Jvm.Cond) ∈ zB := zb 410 (by decide +kernel) (by decide +kernel)
theorem zw478 : (.arrayClass Jvm.ClassFile.FieldType.byte : Jvm.Cond) ∈ zB := zb 478 (by decide +kernel) (by decide +kernel)
theorem zw479 : (.methodLink "Scrubward" 362 ⟨"Scrubward", "mix", "(JJ)J"⟩ : Jvm.Cond) ∈ zB := zb 479 (by decide +kernel) (by decide +kernel)
theorem zw480 : (.static ⟨"Scrubward", "mix", "(JJ)J"⟩ : Jvm.Cond) ∈ zB := zb 480 (by decide +kernel) (by decide +kernel)
theorem zw481 : (.code ⟨"Scrubward", "mix", "(JJ)J"⟩ prog_1_method_56_code 4 (Option.some Jvm.ClassFile.FieldType.long) : Jvm.Cond) ∈ zB := zb 481 (by decide +kernel) (by decide +kernel)
theorem zw482 : (.constantLong "Scrubward" 412 31 : Jvm.Cond) ∈ zB := zb 482 (by decide +kernel) (by decide +kernel)
theorem zw483 : (.methodLink "Scrubward" 366 ⟨"Scrubward", "column", "(I)I"⟩ : Jvm.Cond) ∈ zB := zb 483 (by decide +kernel) (by decide +kernel)
theorem zw484 : (.instanceMethod ⟨"Scrubward", "column", "(I)I"⟩ : Jvm.Cond) ∈ zB := zb 484 (by decide +kernel) (by decide +kernel)
theorem zw485 : (.selects "Scrubward" ⟨"Scrubward", "column", "(I)I"⟩ ⟨"Scrubward", "column", "(I)I"⟩ : Jvm.Cond) ∈ zB := zb 485 (by decide +kernel) (by decide +kernel)
theorem zw486 : (.code ⟨"Scrubward", "column", "(I)I"⟩ prog_1_method_15_code 2 (Option.some Jvm.ClassFile.FieldType.int) : Jvm.Cond) ∈ zB := zb 486 (by decide +kernel) (by decide +kernel)
theorem zw487 : (.methodLink "Scrubward" 143 ⟨"Scrubward$Code", "hasBit", "(I)Z"⟩ : Jvm.Cond) ∈ zB := zb 487 (by decide +kernel) (by decide +kernel)
theorem zw488 : (.instanceMethod ⟨"Scrubward$Code", "hasBit", "(I)Z"⟩ : Jvm.Cond) ∈ zB := zb 488 (by decide +kernel) (by decide +kernel)
theorem zw489 : (.selects "Scrubward$Code" ⟨"Scrubward$Code", "hasBit", "(I)Z"⟩ ⟨"Scrubward$Code", "hasBit", "(I)Z"⟩ : Jvm.Cond) ∈ zB := zb 489 (by decide +kernel) (by decide +kernel)
theorem zw490 : (.code ⟨"Scrubward$Code", "hasBit", "(I)Z"⟩ prog_2_method_8_code 2 (Option.some Jvm.ClassFile.FieldType.boolean) : Jvm.Cond) ∈ zB := zb 490 (by decide +kernel) (by decide +kernel)
theorem zw507 : (.methodLink "Scrubward" 369 ⟨"Scrubward", "fooled", "(I)I"⟩ : Jvm.Cond) ∈ zB := zb 507 (by decide +kernel) (by decide +kernel)
theorem zw508 : (.instanceMethod ⟨"Scrubward", "fooled", "(I)I"⟩ : Jvm.Cond) ∈ zB := zb 508 (by decide +kernel) (by decide +kernel)
theorem zw509 : (.selects "Scrubward" ⟨"Scrubward", "fooled", "(I)I"⟩ ⟨"Scrubward", "fooled", "(I)I"⟩ : Jvm.Cond) ∈ zB := zb 509 (by decide +kernel) (by decide +kernel)
theorem zw510 : (.code ⟨"Scrubward", "fooled", "(I)I"⟩ prog_1_method_18_code 2 (Option.some Jvm.ClassFile.FieldType.int) : Jvm.Cond) ∈ zB := zb 510 (by decide +kernel) (by decide +kernel)
theorem zw512 : (.methodLink "Scrubward" 263 ⟨"Scrubward$Code", "wronglyMended", "(I)I"⟩ : Jvm.Cond) ∈ zB := zb 512 (by decide +kernel) (by decide +kernel)
theorem zw513 : (.instanceMethod ⟨"Scrubward$Code", "wronglyMended", "(I)I"⟩ : Jvm.Cond) ∈ zB := zb 513 (by decide +kernel) (by decide +kernel)
theorem zw514 : (.selects "Scrubward$Code" ⟨"Scrubward$Code", "wronglyMended", "(I)I"⟩ ⟨"Scrubward$Code", "wronglyMended", "(I)I"⟩ : Jvm.Cond) ∈ zB := zb 514 (by decide +kernel) (by decide +kernel)
theorem zw515 : (.code ⟨"Scrubward$Code", "wronglyMended", "(I)I"⟩ prog_2_method_16_code 6 (Option.some Jvm.ClassFile.FieldType.int) : Jvm.Cond) ∈ zB := zb 515 (by decide +kernel) (by decide +kernel)
theorem zw516 : (.methodLink "Scrubward$Code" 66 ⟨"Scrubward$Code", "oneIfMended", "(I)I"⟩ : Jvm.Cond) ∈ zB := zb 516 (by decide +kernel) (by decide +kernel)
theorem zw518 : (.instanceMethod ⟨"Scrubward$Code", "oneIfMended", "(I)I"⟩ : Jvm.Cond) ∈ zB := zb 518 (by decide +kernel) (by decide +kernel)
theorem zw519 : (.code ⟨"Scrubward$Code", "oneIfMended", "(I)I"⟩ prog_2_method_18_code 2 (Option.some Jvm.ClassFile.FieldType.int) : Jvm.Cond) ∈ zB := zb 519 (by decide +kernel) (by decide +kernel)
theorem zw520 : (.methodLink "Scrubward$Code" 69 ⟨"Scrubward$Code", "thirdBits", "(II)I"⟩ : Jvm.Cond) ∈ zB := zb 520 (by decide +kernel) (by decide +kernel)
theorem zw522 : (.instanceMethod ⟨"Scrubward$Code", "thirdBits", "(II)I"⟩ : Jvm.Cond) ∈ zB := zb 522 (by decide +kernel) (by decide +kernel)
theorem zw523 : (.code ⟨"Scrubward$Code", "thirdBits", "(II)I"⟩ prog_2_method_17_code 5 (Option.some Jvm.ClassFile.FieldType.int) : Jvm.Cond) ∈ zB := zb 523 (by decide +kernel) (by decide +kernel)
theorem zw524 : (.methodLink "Scrubward" 372 ⟨"Scrubward", "mixBank", "(JI)J"⟩ : Jvm.Cond) ∈ zB := zb 524 (by decide +kernel) (by decide +kernel)
theorem zw526 : (.instanceMethod ⟨"Scrubward", "mixBank", "(JI)J"⟩ : Jvm.Cond) ∈ zB := zb 526 (by decide +kernel) (by decide +kernel)
theorem zw527 : (.code ⟨"Scrubward", "mixBank", "(JI)J"⟩ prog_1_method_57_code 8 (Option.some Jvm.ClassFile.FieldType.long) : Jvm.Cond) ∈ zB := zb 527 (by decide +kernel) (by decide +kernel)
theorem zw528 : (.methodLink "Scrubward" 414 ⟨"Scrubward", "blame", "(IZ)I"⟩ : Jvm.Cond) ∈ zB := zb 528 (by decide +kernel) (by decide +kernel)
theorem zw529 : (.instanceMethod ⟨"Scrubward", "blame", "(IZ)I"⟩ : Jvm.Cond) ∈ zB := zb 529 (by decide +kernel) (by decide +kernel)
theorem zw530 : (.selects "Scrubward" ⟨"Scrubward", "blame", "(IZ)I"⟩ ⟨"Scrubward", "blame", "(IZ)I"⟩ : Jvm.Cond) ∈ zB := zb 530 (by decide +kernel) (by decide +kernel)
theorem zw531 : (.code ⟨"Scrubward", "blame", "(IZ)I"⟩ prog_1_method_22_code 5 (Option.some Jvm.ClassFile.FieldType.int) : Jvm.Cond) ∈ zB := zb 531 (by decide +kernel) (by decide +kernel)
theorem zw532 : (.methodLink "Scrubward" 271 ⟨"Scrubward", "checkBank", "(I)V"⟩ : Jvm.Cond) ∈ zB := zb 532 (by decide +kernel) (by decide +kernel)
theorem zw533 : (.static ⟨"Scrubward", "checkBank", "(I)V"⟩ : Jvm.Cond) ∈ zB := zb 533 (by decide +kernel) (by decide +kernel)
theorem zw534 : (.code ⟨"Scrubward", "checkBank", "(I)V"⟩ prog_1_method_32_code 1 (Option.none : Option Jvm.ClassFile.FieldType) : Jvm.Cond) ∈ zB := zb 534 (by decide +kernel) (by decide +kernel)
theorem zw536 : (.methodLink "Scrubward" 303 ⟨"Scrubward$Log", "guiltyOf", "(II)I"⟩ : Jvm.Cond) ∈ zB := zb 536 (by decide +kernel) (by decide +kernel)
theorem zw537 : (.instanceMethod ⟨"Scrubward$Log", "guiltyOf", "(II)I"⟩ : Jvm.Cond) ∈ zB := zb 537 (by decide +kernel) (by decide +kernel)
theorem zw538 : (.selects "Scrubward$Log" ⟨"Scrubward$Log", "guiltyOf", "(II)I"⟩ ⟨"Scrubward$Log", "guiltyOf", "(II)I"⟩ : Jvm.Cond) ∈ zB := zb 538 (by decide +kernel) (by decide +kernel)
theorem zw539 : (.code ⟨"Scrubward$Log", "guiltyOf", "(II)I"⟩ prog_5_method_4_code 5 (Option.some Jvm.ClassFile.FieldType.int) : Jvm.Cond) ∈ zB := zb 539 (by decide +kernel) (by decide +kernel)
theorem zw540 : (.methodLink "Scrubward$Log" 40 ⟨"Scrubward$Log", "guiltyCell", "(I)I"⟩ : Jvm.Cond) ∈ zB := zb 540 (by decide +kernel) (by decide +kernel)
theorem zw542 : (.instanceMethod ⟨"Scrubward$Log", "guiltyCell", "(I)I"⟩ : Jvm.Cond) ∈ zB := zb 542 (by decide +kernel) (by decide +kernel)
theorem zw543 : (.code ⟨"Scrubward$Log", "guiltyCell", "(I)I"⟩ prog_5_method_7_code 6 (Option.some Jvm.ClassFile.FieldType.int) : Jvm.Cond) ∈ zB := zb 543 (by decide +kernel) (by decide +kernel)
theorem zw544 : (.methodLink "Scrubward$Log" 48 ⟨"Scrubward$Ints", "get", "(I)I"⟩ : Jvm.Cond) ∈ zB := zb 544 (by decide +kernel) (by decide +kernel)
theorem zw545 : (.methodLink "Scrubward$Log" 51 ⟨"Scrubward$Log", "isMendedIn", "(II)Z"⟩ : Jvm.Cond) ∈ zB := zb 545 (by decide +kernel) (by decide +kernel)
theorem zw547 : (.instanceMethod ⟨"Scrubward$Log", "isMendedIn", "(II)Z"⟩ : Jvm.Cond) ∈ zB := zb 547 (by decide +kernel) (by decide +kernel)
theorem zw548 : (.code ⟨"Scrubward$Log", "isMendedIn", "(II)Z"⟩ prog_5_method_9_code 3 (Option.some Jvm.ClassFile.FieldType.boolean) : Jvm.Cond) ∈ zB := zb 548 (by decide +kernel) (by decide +kernel)
theorem zw549 : (.methodLink "Scrubward$Log" 64 ⟨"Scrubward$Log", "isToldAgain", "(I)Z"⟩ : Jvm.Cond) ∈ zB := zb 549 (by decide +kernel) (by decide +kernel)
theorem zw551 : (.instanceMethod ⟨"Scrubward$Log", "isToldAgain", "(I)Z"⟩ : Jvm.Cond) ∈ zB := zb 551 (by decide +kernel) (by decide +kernel)
theorem zw552 : (.code ⟨"Scrubward$Log", "isToldAgain", "(I)Z"⟩ prog_5_method_8_code 3 (Option.some Jvm.ClassFile.FieldType.boolean) : Jvm.Cond) ∈ zB := zb 552 (by decide +kernel) (by decide +kernel)
theorem zw553 : (.methodLink "Scrubward$Log" 44 ⟨"Scrubward$Log", "isGuilty", "(III)Z"⟩ : Jvm.Cond) ∈ zB := zb 553 (by decide +kernel) (by decide +kernel)
theorem zw555 : (.instanceMethod ⟨"Scrubward$Log", "isGuilty", "(III)Z"⟩ : Jvm.Cond) ∈ zB := zb 555 (by decide +kernel) (by decide +kernel)
theorem zw556 : (.code ⟨"Scrubward$Log", "isGuilty", "(III)Z"⟩ prog_5_method_5_code 8 (Option.some Jvm.ClassFile.FieldType.boolean) : Jvm.Cond) ∈ zB := zb 556 (by decide +kernel) (by decide +kernel)
theorem zw557 : (.methodLink "Scrubward$Log" 55 ⟨"Scrubward$Log", "suspectOf", "(IIII)I"⟩ : Jvm.Cond) ∈ zB := zb 557 (by decide +kernel) (by decide +kernel)
theorem zw558 : (.static ⟨"Scrubward$Log", "suspectOf", "(IIII)I"⟩ : Jvm.Cond) ∈ zB := zb 558 (by decide +kernel) (by decide +kernel)
theorem zw559 : (.code ⟨"Scrubward$Log", "suspectOf", "(IIII)I"⟩ prog_5_method_6_code 4 (Option.some Jvm.ClassFile.FieldType.int) : Jvm.Cond) ∈ zB := zb 559 (by decide +kernel) (by decide +kernel)
theorem zw560 : (.methodLink "Scrubward$Log" 59 ⟨"java/lang/Integer", "bitCount", "(I)I"⟩ : Jvm.Cond) ∈ zB := zb 560 (by decide +kernel) (by decide +kernel)
theorem zw561 : (.methodLink "Scrubward" 418 ⟨"Scrubward", "wouldSpare", "(I)I"⟩ : Jvm.Cond) ∈ zB := zb 561 (by decide +kernel) (by decide +kernel)
theorem zw562 : (.instanceMethod ⟨"Scrubward", "wouldSpare", "(I)I"⟩ : Jvm.Cond) ∈ zB := zb 562 (by decide +kernel) (by decide +kernel)
theorem zw563 : (.selects "Scrubward" ⟨"Scrubward", "wouldSpare", "(I)I"⟩ ⟨"Scrubward", "wouldSpare", "(I)I"⟩ : Jvm.Cond) ∈ zB := zb 563 (by decide +kernel) (by decide +kernel)
theorem zw564 : (.code ⟨"Scrubward", "wouldSpare", "(I)I"⟩ prog_1_method_27_code 9 (Option.some Jvm.ClassFile.FieldType.int) : Jvm.Cond) ∈ zB := zb 564 (by decide +kernel) (by decide +kernel)
theorem zw565 : (.methodLink "Scrubward" 182 ⟨"Scrubward", "firstAddress", "(II)I"⟩ : Jvm.Cond) ∈ zB := zb 565 (by decide +kernel) (by decide +kernel)
theorem zw566 : (.static ⟨"Scrubward", "firstAddress", "(II)I"⟩ : Jvm.Cond) ∈ zB := zb 566 (by decide +kernel) (by decide +kernel)
theorem zw567 : (.code ⟨"Scrubward", "firstAddress", "(II)I"⟩ prog_1_method_37_code 2 (Option.some Jvm.ClassFile.FieldType.int) : Jvm.Cond) ∈ zB := zb 567 (by decide +kernel) (by decide +kernel)
theorem zw568 : (.methodLink "Scrubward" 109 ⟨"Scrubward", "lineAt", "(I)I"⟩ : Jvm.Cond) ∈ zB := zb 568 (by decide +kernel) (by decide +kernel)
theorem zw570 : (.instanceMethod ⟨"Scrubward", "lineAt", "(I)I"⟩ : Jvm.Cond) ∈ zB := zb 570 (by decide +kernel) (by decide +kernel)
theorem zw571 : (.code ⟨"Scrubward", "lineAt", "(I)I"⟩ prog_1_method_39_code 2 (Option.some Jvm.ClassFile.FieldType.int) : Jvm.Cond) ∈ zB := zb 571 (by decide +kernel) (by decide +kernel)
theorem zw572 : (.methodLink "Scrubward" 285 ⟨"Scrubward", "uncleanIn", "(I)I"⟩ : Jvm.Cond) ∈ zB := zb 572 (by decide +kernel) (by decide +kernel)
theorem zw574 : (.instanceMethod ⟨"Scrubward", "uncleanIn", "(I)I"⟩ : Jvm.Cond) ∈ zB := zb 574 (by decide +kernel) (by decide +kernel)
theorem zw575 : (.code ⟨"Scrubward", "uncleanIn", "(I)I"⟩ prog_1_method_49_code 4 (Option.some Jvm.ClassFile.FieldType.int) : Jvm.Cond) ∈ zB := zb 575 (by decide +kernel) (by decide +kernel)
theorem zw576 : (.methodLink "Scrubward" 326 ⟨"Scrubward$Code", "isClean", "(I)Z"⟩ : Jvm.Cond) ∈ zB := zb 576 (by decide +kernel) (by decide +kernel)
theorem zw577 : (.instanceMethod ⟨"Scrubward$Code", "isClean", "(I)Z"⟩ : Jvm.Cond) ∈ zB := zb 577 (by decide +kernel) (by decide +kernel)
theorem zw578 : (.selects "Scrubward$Code" ⟨"Scrubward$Code", "isClean", "(I)Z"⟩ ⟨"Scrubward$Code", "isClean", "(I)Z"⟩ : Jvm.Cond) ∈ zB := zb 578 (by decide +kernel) (by decide +kernel)
theorem zw579 : (.code ⟨"Scrubward$Code", "isClean", "(I)Z"⟩ prog_2_method_11_code 2 (Option.some Jvm.ClassFile.FieldType.boolean) : Jvm.Cond) ∈ zB := zb 579 (by decide +kernel) (by decide +kernel)
theorem zw580 : (.methodLink "Scrubward$Code" 56 ⟨"Scrubward$Code", "syndromeOf", "(I)I"⟩ : Jvm.Cond) ∈ zB := zb 580 (by decide +kernel) (by decide +kernel)
theorem zw581 : (.instanceMethod ⟨"Scrubward$Code", "syndromeOf", "(I)I"⟩ : Jvm.Cond) ∈ zB := zb 581 (by decide +kernel) (by decide +kernel)
theorem zw582 : (.selects "Scrubward$Code" ⟨"Scrubward$Code", "syndromeOf", "(I)I"⟩ ⟨"Scrubward$Code", "syndromeOf", "(I)I"⟩ : Jvm.Cond) ∈ zB := zb 582 (by decide +kernel) (by decide +kernel)
theorem zw583 : (.code ⟨"Scrubward$Code", "syndromeOf", "(I)I"⟩ prog_2_method_9_code 4 (Option.some Jvm.ClassFile.FieldType.int) : Jvm.Cond) ∈ zB := zb 583 (by decide +kernel) (by decide +kernel)
theorem zw584 : (.methodLink "Scrubward" 282 ⟨"Scrubward", "stuckIn", "(I)I"⟩ : Jvm.Cond) ∈ zB := zb 584 (by decide +kernel) (by decide +kernel)
theorem zw586 : (.instanceMethod ⟨"Scrubward", "stuckIn", "(I)I"⟩ : Jvm.Cond) ∈ zB := zb 586 (by decide +kernel) (by decide +kernel)
theorem zw587 : (.code ⟨"Scrubward", "stuckIn", "(I)I"⟩ prog_1_method_48_code 2 (Option.some Jvm.ClassFile.FieldType.int) : Jvm.Cond) ∈ zB := zb 587 (by decide +kernel) (by decide +kernel)
theorem zw588 : (.methodLink "Scrubward" 266 ⟨"Scrubward$Faults", "countIn", "(II)I"⟩ : Jvm.Cond) ∈ zB := zb 588 (by decide +kernel) (by decide +kernel)
theorem zw589 : (.instanceMethod ⟨"Scrubward$Faults", "countIn", "(II)I"⟩ : Jvm.Cond) ∈ zB := zb 589 (by decide +kernel) (by decide +kernel)
theorem zw590 : (.selects "Scrubward$Faults" ⟨"Scrubward$Faults", "countIn", "(II)I"⟩ ⟨"Scrubward$Faults", "countIn", "(II)I"⟩ : Jvm.Cond) ∈ zB := zb 590 (by decide +kernel) (by decide +kernel)
theorem zw591 : (.code ⟨"Scrubward$Faults", "countIn", "(II)I"⟩ prog_3_method_5_code 5 (Option.some Jvm.ClassFile.FieldType.int) : Jvm.Cond) ∈ zB := zb 591 (by decide +kernel) (by decide +kernel)
theorem zw592 : (.constantDouble "Scrubward" 329 4634204016564240384 : Jvm.Cond) ∈ zB := zb 592 (by decide +kernel) (by decide +kernel)
theorem zw593 : (.methodLink "Scrubward" 421 ⟨"Scrubward", "health", "(I)D"⟩ : Jvm.Cond) ∈ zB := zb 593 (by decide +kernel) (by decide +kernel)
theorem zw594 : (.instanceMethod ⟨"Scrubward", "health", "(I)D"⟩ : Jvm.Cond) ∈ zB := zb 594 (by decide +kernel) (by decide +kernel)
theorem zw595 : (.selects "Scrubward" ⟨"Scrubward", "health", "(I)D"⟩ ⟨"Scrubward", "health", "(I)D"⟩ : Jvm.Cond) ∈ zB := zb 595 (by decide +kernel) (by decide +kernel)
theorem zw596 : (.code ⟨"Scrubward", "health", "(I)D"⟩ prog_1_method_24_code 5 (Option.some Jvm.ClassFile.FieldType.double) : Jvm.Cond) ∈ zB := zb 596 (by decide +kernel) (by decide +kernel)
theorem zw597 : (.methodLink "Scrubward" 118 ⟨"Scrubward", "isPoisoned", "(I)Z"⟩ : Jvm.Cond) ∈ zB := zb 597 (by decide +kernel) (by decide +kernel)
theorem zw599 : (.instanceMethod ⟨"Scrubward", "isPoisoned", "(I)Z"⟩ : Jvm.Cond) ∈ zB := zb 599 (by decide +kernel) (by decide +kernel)
theorem zw600 : (.code ⟨"Scrubward", "isPoisoned", "(I)Z"⟩ prog_1_method_44_code 2 (Option.some Jvm.ClassFile.FieldType.boolean) : Jvm.Cond) ∈ zB := zb 600 (by decide +kernel) (by decide +kernel)
theorem zw601 : (.methodLink "Scrubward" 106 ⟨"Scrubward", "wordAt", "(I)I"⟩ : Jvm.Cond) ∈ zB := zb 601 (by decide +kernel) (by decide +kernel)
theorem zw603 : (.instanceMethod ⟨"Scrubward", "wordAt", "(I)I"⟩ : Jvm.Cond) ∈ zB := zb 603 (by decide +kernel) (by decide +kernel)
theorem zw604 : (.code ⟨"Scrubward", "wordAt", "(I)I"⟩ prog_1_method_41_code 2 (Option.some Jvm.ClassFile.FieldType.int) : Jvm.Cond) ∈ zB := zb 604 (by decide +kernel) (by decide +kernel)
theorem zw605 : (.methodLink "Scrubward" 137 ⟨"Scrubward", "cellAt", "(I)I"⟩ : Jvm.Cond) ∈ zB := zb 605 (by decide +kernel) (by decide +kernel)
theorem zw607 : (.instanceMethod ⟨"Scrubward", "cellAt", "(I)I"⟩ : Jvm.Cond) ∈ zB := zb 607 (by decide +kernel) (by decide +kernel)
theorem zw608 : (.code ⟨"Scrubward", "cellAt", "(I)I"⟩ prog_1_method_40_code 2 (Option.some Jvm.ClassFile.FieldType.int) : Jvm.Cond) ∈ zB := zb 608 (by decide +kernel) (by decide +kernel)
theorem zw609 : (.methodLink "Scrubward" 425 ⟨"Scrubward", "ofLine", "(III)I"⟩ : Jvm.Cond) ∈ zB := zb 609 (by decide +kernel) (by decide +kernel)
theorem zw610 : (.instanceMethod ⟨"Scrubward", "ofLine", "(III)I"⟩ : Jvm.Cond) ∈ zB := zb 610 (by decide +kernel) (by decide +kernel)
theorem zw611 : (.selects "Scrubward" ⟨"Scrubward", "ofLine", "(III)I"⟩ ⟨"Scrubward", "ofLine", "(III)I"⟩ : Jvm.Cond) ∈ zB := zb 611 (by decide +kernel) (by decide +kernel)
theorem zw612 : (.code ⟨"Scrubward", "ofLine", "(III)I"⟩ prog_1_method_20_code 5 (Option.some Jvm.ClassFile.FieldType.int) : Jvm.Cond) ∈ zB := zb 612 (by decide +kernel) (by decide +kernel)
theorem zw615 : (.methodLink "Scrubward" 376 ⟨"Scrubward", "ofWord", "(II)I"⟩ : Jvm.Cond) ∈ zB := zb 615 (by decide +kernel) (by decide +kernel)
theorem zw616 : (.instanceMethod ⟨"Scrubward", "ofWord", "(II)I"⟩ : Jvm.Cond) ∈ zB := zb 616 (by decide +kernel) (by decide +kernel)
theorem zw617 : (.selects "Scrubward" ⟨"Scrubward", "ofWord", "(II)I"⟩ ⟨"Scrubward", "ofWord", "(II)I"⟩ : Jvm.Cond) ∈ zB := zb 617 (by decide +kernel) (by decide +kernel)
theorem zw618 : (.code ⟨"Scrubward", "ofWord", "(II)I"⟩ prog_1_method_19_code 4 (Option.some Jvm.ClassFile.FieldType.int) : Jvm.Cond) ∈ zB := zb 618 (by decide +kernel) (by decide +kernel)
theorem zw619 : (.methodLink "Scrubward" 83 ⟨"Scrubward", "checkAddress", "(I)V"⟩ : Jvm.Cond) ∈ zB := zb 619 (by decide +kernel) (by decide +kernel)
theorem zw620 : (.static ⟨"Scrubward", "checkAddress", "(I)V"⟩ : Jvm.Cond) ∈ zB := zb 620 (by decide +kernel) (by decide +kernel)
theorem zw621 : (.code ⟨"Scrubward", "checkAddress", "(I)V"⟩ prog_1_method_31_code 1 (Option.none : Option Jvm.ClassFile.FieldType) : Jvm.Cond) ∈ zB := zb 621 (by decide +kernel) (by decide +kernel)
theorem zw623 : (.methodLink "Scrubward" 247 ⟨"Scrubward$Code", "verdictOf", "(I)I"⟩ : Jvm.Cond) ∈ zB := zb 623 (by decide +kernel) (by decide +kernel)
theorem zw624 : (.instanceMethod ⟨"Scrubward$Code", "verdictOf", "(I)I"⟩ : Jvm.Cond) ∈ zB := zb 624 (by decide +kernel) (by decide +kernel)
theorem zw625 : (.selects "Scrubward$Code" ⟨"Scrubward$Code", "verdictOf", "(I)I"⟩ ⟨"Scrubward$Code", "verdictOf", "(I)I"⟩ : Jvm.Cond) ∈ zB := zb 625 (by decide +kernel) (by decide +kernel)
theorem zw626 : (.code ⟨"Scrubward$Code", "verdictOf", "(I)I"⟩ prog_2_method_12_code 3 (Option.some Jvm.ClassFile.FieldType.int) : Jvm.Cond) ∈ zB := zb 626 (by decide +kernel) (by decide +kernel)
theorem zw627 : (.methodLink "Scrubward$Code" 59 ⟨"Scrubward$Code", "turnOf", "(I)I"⟩ : Jvm.Cond) ∈ zB := zb 627 (by decide +kernel) (by decide +kernel)
theorem zw628 : (.instanceMethod ⟨"Scrubward$Code", "turnOf", "(I)I"⟩ : Jvm.Cond) ∈ zB := zb 628 (by decide +kernel) (by decide +kernel)
theorem zw629 : (.selects "Scrubward$Code" ⟨"Scrubward$Code", "turnOf", "(I)I"⟩ ⟨"Scrubward$Code", "turnOf", "(I)I"⟩ : Jvm.Cond) ∈ zB := zb 629 (by decide +kernel) (by decide +kernel)
theorem zw630 : (.code ⟨"Scrubward$Code", "turnOf", "(I)I"⟩ prog_2_method_10_code 2 (Option.some Jvm.ClassFile.FieldType.int) : Jvm.Cond) ∈ zB := zb 630 (by decide +kernel) (by decide +kernel)
theorem zw632 : (.methodLink "Scrubward" 379 ⟨"Scrubward", "wouldRead", "(I)I"⟩ : Jvm.Cond) ∈ zB := zb 632 (by decide +kernel) (by decide +kernel)
theorem zw633 : (.instanceMethod ⟨"Scrubward", "wouldRead", "(I)I"⟩ : Jvm.Cond) ∈ zB := zb 633 (by decide +kernel) (by decide +kernel)
theorem zw634 : (.selects "Scrubward" ⟨"Scrubward", "wouldRead", "(I)I"⟩ ⟨"Scrubward", "wouldRead", "(I)I"⟩ : Jvm.Cond) ∈ zB := zb 634 (by decide +kernel) (by decide +kernel)
theorem zw635 : (.code ⟨"Scrubward", "wouldRead", "(I)I"⟩ prog_1_method_26_code 4 (Option.some Jvm.ClassFile.FieldType.int) : Jvm.Cond) ∈ zB := zb 635 (by decide +kernel) (by decide +kernel)
theorem zw636 : (.methodLink "Scrubward" 102 ⟨"Scrubward", "isRetired", "(I)Z"⟩ : Jvm.Cond) ∈ zB := zb 636 (by decide +kernel) (by decide +kernel)
theorem zw638 : (.instanceMethod ⟨"Scrubward", "isRetired", "(I)Z"⟩ : Jvm.Cond) ∈ zB := zb 638 (by decide +kernel) (by decide +kernel)
theorem zw639 : (.code ⟨"Scrubward", "isRetired", "(I)Z"⟩ prog_1_method_45_code 2 (Option.some Jvm.ClassFile.FieldType.boolean) : Jvm.Cond) ∈ zB := zb 639 (by decide +kernel) (by decide +kernel)
theorem zw640 : (.methodLink "Scrubward" 115 ⟨"Scrubward", "dataAt", "(I)I"⟩ : Jvm.Cond) ∈ zB := zb 640 (by decide +kernel) (by decide +kernel)
theorem zw642 : (.instanceMethod ⟨"Scrubward", "dataAt", "(I)I"⟩ : Jvm.Cond) ∈ zB := zb 642 (by decide +kernel) (by decide +kernel)
theorem zw643 : (.code ⟨"Scrubward", "dataAt", "(I)I"⟩ prog_1_method_46_code 2 (Option.some Jvm.ClassFile.FieldType.int) : Jvm.Cond) ∈ zB := zb 643 (by decide +kernel) (by decide +kernel)
theorem zw644 : (.methodLink "Scrubward" 256 ⟨"Scrubward$Code", "dataOf", "(I)I"⟩ : Jvm.Cond) ∈ zB := zb 644 (by decide +kernel) (by decide +kernel)
theorem zw645 : (.instanceMethod ⟨"Scrubward$Code", "dataOf", "(I)I"⟩ : Jvm.Cond) ∈ zB := zb 645 (by decide +kernel) (by decide +kernel)
theorem zw646 : (.selects "Scrubward$Code" ⟨"Scrubward$Code", "dataOf", "(I)I"⟩ ⟨"Scrubward$Code", "dataOf", "(I)I"⟩ : Jvm.Cond) ∈ zB := zb 646 (by decide +kernel) (by decide +kernel)
theorem zw647 : (.code ⟨"Scrubward$Code", "dataOf", "(I)I"⟩ prog_2_method_14_code 3 (Option.some Jvm.ClassFile.FieldType.int) : Jvm.Cond) ∈ zB := zb 647 (by decide +kernel) (by decide +kernel)
theorem zw648 : (.methodLink "Scrubward$Code" 62 ⟨"Scrubward$Code", "dataMask", "()I"⟩ : Jvm.Cond) ∈ zB := zb 648 (by decide +kernel) (by decide +kernel)
theorem zw649 : (.instanceMethod ⟨"Scrubward$Code", "dataMask", "()I"⟩ : Jvm.Cond) ∈ zB := zb 649 (by decide +kernel) (by decide +kernel)
theorem zw650 : (.selects "Scrubward$Code" ⟨"Scrubward$Code", "dataMask", "()I"⟩ ⟨"Scrubward$Code", "dataMask", "()I"⟩ : Jvm.Cond) ∈ zB := zb 650 (by decide +kernel) (by decide +kernel)
theorem zw651 : (.code ⟨"Scrubward$Code", "dataMask", "()I"⟩ prog_2_method_7_code 1 (Option.some Jvm.ClassFile.FieldType.int) : Jvm.Cond) ∈ zB := zb 651 (by decide +kernel) (by decide +kernel)
theorem zw652 : (.methodLink "Scrubward" 95 ⟨"Scrubward", "twinOf", "(I)I"⟩ : Jvm.Cond) ∈ zB := zb 652 (by decide +kernel) (by decide +kernel)
theorem zw653 : (.static ⟨"Scrubward", "twinOf", "(I)I"⟩ : Jvm.Cond) ∈ zB := zb 653 (by decide +kernel) (by decide +kernel)
theorem zw654 : (.code ⟨"Scrubward", "twinOf", "(I)I"⟩ prog_1_method_38_code 1 (Option.some Jvm.ClassFile.FieldType.int) : Jvm.Cond) ∈ zB := zb 654 (by decide +kernel) (by decide +kernel)
theorem zw655 : (.methodLink "Scrubward" 382 ⟨"Scrubward", "ofEntry", "(II)I"⟩ : Jvm.Cond) ∈ zB := zb 655 (by decide +kernel) (by decide +kernel)
theorem zw656 : (.instanceMethod ⟨"Scrubward", "ofEntry", "(II)I"⟩ : Jvm.Cond) ∈ zB := zb 656 (by decide +kernel) (by decide +kernel)
theorem zw657 : (.selects "Scrubward" ⟨"Scrubward", "ofEntry", "(II)I"⟩ ⟨"Scrubward", "ofEntry", "(II)I"⟩ : Jvm.Cond) ∈ zB := zb 657 (by decide +kernel) (by decide +kernel)
theorem zw658 : (.code ⟨"Scrubward", "ofEntry", "(II)I"⟩ prog_1_method_21_code 3 (Option.some Jvm.ClassFile.FieldType.int) : Jvm.Cond) ∈ zB := zb 658 (by decide +kernel) (by decide +kernel)
theorem zw661 : (.methodLink "Scrubward" 385 ⟨"Scrubward", "wouldLeak", "(I)I"⟩ : Jvm.Cond) ∈ zB := zb 661 (by decide +kernel) (by decide +kernel)
theorem zw662 : (.instanceMethod ⟨"Scrubward", "wouldLeak", "(I)I"⟩ : Jvm.Cond) ∈ zB := zb 662 (by decide +kernel) (by decide +kernel)
theorem zw663 : (.selects "Scrubward" ⟨"Scrubward", "wouldLeak", "(I)I"⟩ ⟨"Scrubward", "wouldLeak", "(I)I"⟩ : Jvm.Cond) ∈ zB := zb 663 (by decide +kernel) (by decide +kernel)
theorem zw664 : (.code ⟨"Scrubward", "wouldLeak", "(I)I"⟩ prog_1_method_28_code 2 (Option.some Jvm.ClassFile.FieldType.int) : Jvm.Cond) ∈ zB := zb 664 (by decide +kernel) (by decide +kernel)
theorem zw665 : (.methodLink "Scrubward" 215 ⟨"Scrubward", "checkTicks", "(I)V"⟩ : Jvm.Cond) ∈ zB := zb 665 (by decide +kernel) (by decide +kernel)
theorem zw666 : (.static ⟨"Scrubward", "checkTicks", "(I)V"⟩ : Jvm.Cond) ∈ zB := zb 666 (by decide +kernel) (by decide +kernel)
theorem zw667 : (.code ⟨"Scrubward", "checkTicks", "(I)V"⟩ prog_1_method_34_code 1 (Option.none : Option Jvm.ClassFile.FieldType) : Jvm.Cond) ∈ zB := zb 667 (by decide +kernel) (by decide +kernel)
theorem zw669 : (.methodLink "Scrubward" 346 ⟨"Scrubward$Memory", "leaksWithin", "(I)I"⟩ : Jvm.Cond) ∈ zB := zb 669 (by decide +kernel) (by decide +kernel)
theorem zw670 : (.instanceMethod ⟨"Scrubward$Memory", "leaksWithin", "(I)I"⟩ : Jvm.Cond) ∈ zB := zb 670 (by decide +kernel) (by decide +kernel)
theorem zw671 : (.selects "Scrubward$Memory" ⟨"Scrubward$Memory", "leaksWithin", "(I)I"⟩ ⟨"Scrubward$Memory", "leaksWithin", "(I)I"⟩ : Jvm.Cond) ∈ zB := zb 671 (by decide +kernel) (by decide +kernel)
theorem zw672 : (.code ⟨"Scrubward$Memory", "leaksWithin", "(I)I"⟩ prog_6_method_10_code 7 (Option.some Jvm.ClassFile.FieldType.int) : Jvm.Cond) ∈ zB := zb 672 (by decide +kernel) (by decide +kernel)
theorem zw673 : (.methodLink "Scrubward$Memory" 102 ⟨"Scrubward$Memory", "isLeakable", "(II)Z"⟩ : Jvm.Cond) ∈ zB := zb 673 (by decide +kernel) (by decide +kernel)
theorem zw675 : (.instanceMethod ⟨"Scrubward$Memory", "isLeakable", "(II)Z"⟩ : Jvm.Cond) ∈ zB := zb 675 (by decide +kernel) (by decide +kernel)
theorem zw676 : (.code ⟨"Scrubward$Memory", "isLeakable", "(II)Z"⟩ prog_6_method_11_code 4 (Option.some Jvm.ClassFile.FieldType.boolean) : Jvm.Cond) ∈ zB := zb 676 (by decide +kernel) (by decide +kernel)
theorem zw677 : (.methodLink "Scrubward$Memory" 106 ⟨"Scrubward$Memory", "isOverWithin", "(II)Z"⟩ : Jvm.Cond) ∈ zB := zb 677 (by decide +kernel) (by decide +kernel)
theorem zw679 : (.instanceMethod ⟨"Scrubward$Memory", "isOverWithin", "(II)Z"⟩ : Jvm.Cond) ∈ zB := zb 679 (by decide +kernel) (by decide +kernel)
theorem zw680 : (.code ⟨"Scrubward$Memory", "isOverWithin", "(II)Z"⟩ prog_6_method_12_code 5 (Option.some Jvm.ClassFile.FieldType.boolean) : Jvm.Cond) ∈ zB := zb 680 (by decide +kernel) (by decide +kernel)
theorem zw681 : (.methodLink "Scrubward$Memory" 98 ⟨"Scrubward$Memory", "isRefreshedAt", "(I)Z"⟩ : Jvm.Cond) ∈ zB := zb 681 (by decide +kernel) (by decide +kernel)
theorem zw683 : (.instanceMethod ⟨"Scrubward$Memory", "isRefreshedAt", "(I)Z"⟩ : Jvm.Cond) ∈ zB := zb 683 (by decide +kernel) (by decide +kernel)
theorem zw684 : (.code ⟨"Scrubward$Memory", "isRefreshedAt", "(I)Z"⟩ prog_6_method_9_code 2 (Option.some Jvm.ClassFile.FieldType.boolean) : Jvm.Cond) ∈ zB := zb 684 (by decide +kernel) (by decide +kernel)
theorem zw685 : (.methodLink "Scrubward" 388 ⟨"Scrubward", "isSound", "()Z"⟩ : Jvm.Cond) ∈ zB := zb 685 (by decide +kernel) (by decide +kernel)
theorem zw686 : (.classLink "ScrubwardLaw" 14 "ScrubwardLaw$Out" : Jvm.Cond) ∈ zB := zb 686 (by decide +kernel) (by decide +kernel)
theorem zw687 : (.instantiable "ScrubwardLaw$Out" 3 : Jvm.Cond) ∈ zB := zb 687 (by decide +kernel) (by decide +kernel)
theorem zw689 : (.instanceMethod ⟨"ScrubwardLaw$Out", "<init>", "()V"⟩ : Jvm.Cond) ∈ zB := zb 689 (by decide +kernel) (by decide +kernel)
theorem zw690 : (.code ⟨"ScrubwardLaw$Out", "<init>", "()V"⟩ prog_8_method_1_code 1 (Option.none : Option Jvm.ClassFile.FieldType) : Jvm.Cond) ∈ zB := zb 690 (by decide +kernel) (by decide +kernel)
theorem zw691 : (.methodLink "ScrubwardLaw$Out" 1 ⟨"java/lang/Object", "<init>", "()V"⟩ : Jvm.Cond) ∈ zB := zb 691 (by decide +kernel) (by decide +kernel)
theorem zw695 : (.lays "ScrubwardLaw$Out" "ScrubwardLaw$Out" "n" "J" : Jvm.Cond) ∈ zB := zb 695 (by decide +kernel) (by decide +kernel)
theorem zw697 : (.lays "ScrubwardLaw$Out" "ScrubwardLaw$Out" "d" "D" : Jvm.Cond) ∈ zB := zb 697 (by decide +kernel) (by decide +kernel)
theorem zw699 : (.lays "ScrubwardLaw$Out" "ScrubwardLaw$Out" "s" "Ljava/lang/String;" : Jvm.Cond) ∈ zB := zb 699 (by decide +kernel) (by decide +kernel)
theorem zw702 : (.methodLink "ScrubwardLaw" 117 ⟨"ScrubwardLaw", "code", "(LScrubward;IILScrubwardLaw$Out;)I"⟩ : Jvm.Cond) ∈ zB := zb 702 (by decide +kernel) (by decide +kernel)
theorem zw703 : (.static ⟨"ScrubwardLaw", "code", "(LScrubward;IILScrubwardLaw$Out;)I"⟩ : Jvm.Cond) ∈ zB := zb 703 (by decide +kernel) (by decide +kernel)
theorem zw704 : (.codeWith ⟨"ScrubwardLaw", "code", "(LScrubward;IILScrubwardLaw$Out;)I"⟩ method_2_code 5 (Option.some Jvm.ClassFile.FieldType.int) [(0, 11, 14, 19)] : Jvm.Cond) ∈ zB := zb 704 (by decide +kernel) (by decide +kernel)
theorem zw706 : (.methodLink "ScrubwardLaw" 7 ⟨"Scrubward", "code", "(II)I"⟩ : Jvm.Cond) ∈ zB := zb 706 (by decide +kernel) (by decide +kernel)
theorem zw707 : (.instanceMethod ⟨"Scrubward", "code", "(II)I"⟩ : Jvm.Cond) ∈ zB := zb 707 (by decide +kernel) (by decide +kernel)
theorem zw708 : (.selects "Scrubward" ⟨"Scrubward", "code", "(II)I"⟩ ⟨"Scrubward", "code", "(II)I"⟩ : Jvm.Cond) ∈ zB := zb 708 (by decide +kernel) (by decide +kernel)
theorem zw709 : (.code ⟨"Scrubward", "code", "(II)I"⟩ prog_1_method_2_code 3 (Option.some Jvm.ClassFile.FieldType.int) : Jvm.Cond) ∈ zB := zb 709 (by decide +kernel) (by decide +kernel)
theorem zw712 : (.methodLink "Scrubward" 71 ⟨"Scrubward$Code", "dataColumnsOf", "(I)I"⟩ : Jvm.Cond) ∈ zB := zb 712 (by decide +kernel) (by decide +kernel)
theorem zw713 : (.static ⟨"Scrubward$Code", "dataColumnsOf", "(I)I"⟩ : Jvm.Cond) ∈ zB := zb 713 (by decide +kernel) (by decide +kernel)
theorem zw714 : (.code ⟨"Scrubward$Code", "dataColumnsOf", "(I)I"⟩ prog_2_method_3_code 3 (Option.some Jvm.ClassFile.FieldType.int) : Jvm.Cond) ∈ zB := zb 714 (by decide +kernel) (by decide +kernel)
theorem zw715 : (.methodLink "Scrubward$Code" 29 ⟨"Scrubward$Code", "isDataColumn", "(I)Z"⟩ : Jvm.Cond) ∈ zB := zb 715 (by decide +kernel) (by decide +kernel)
theorem zw716 : (.static ⟨"Scrubward$Code", "isDataColumn", "(I)Z"⟩ : Jvm.Cond) ∈ zB := zb 716 (by decide +kernel) (by decide +kernel)
theorem zw717 : (.code ⟨"Scrubward$Code", "isDataColumn", "(I)Z"⟩ prog_2_method_2_code 2 (Option.some Jvm.ClassFile.FieldType.boolean) : Jvm.Cond) ∈ zB := zb 717 (by decide +kernel) (by decide +kernel)
theorem zw719 : (.methodLink "Scrubward" 77 ⟨"Scrubward$Ints", "fill", "(I)V"⟩ : Jvm.Cond) ∈ zB := zb 719 (by decide +kernel) (by decide +kernel)
theorem zw720 : (.methodLink "ScrubwardLaw" 123 ⟨"ScrubwardLaw", "write", "(LScrubward;IILScrubwardLaw$Out;)I"⟩ : Jvm.Cond) ∈ zB := zb 720 (by decide +kernel) (by decide +kernel)
theorem zw721 : (.static ⟨"ScrubwardLaw", "write", "(LScrubward;IILScrubwardLaw$Out;)I"⟩ : Jvm.Cond) ∈ zB := zb 721 (by decide +kernel) (by decide +kernel)
theorem zw722 : (.codeWith ⟨"ScrubwardLaw", "write", "(LScrubward;IILScrubwardLaw$Out;)I"⟩ method_3_code 5 (Option.some Jvm.ClassFile.FieldType.int) [(0, 11, 14, 24), (0, 11, 18, 19), (0, 11, 22, 26)] : Jvm.Cond) ∈ zB := zb 722 (by decide +kernel) (by decide +kernel)
theorem zw725 : (.methodLink "ScrubwardLaw" 21 ⟨"Scrubward", "write", "(II)I"⟩ : Jvm.Cond) ∈ zB := zb 725 (by decide +kernel) (by decide +kernel)
theorem zw726 : (.instanceMethod ⟨"Scrubward", "write", "(II)I"⟩ : Jvm.Cond) ∈ zB := zb 726 (by decide +kernel) (by decide +kernel)
theorem zw727 : (.selects "Scrubward" ⟨"Scrubward", "write", "(II)I"⟩ ⟨"Scrubward", "write", "(II)I"⟩ : Jvm.Cond) ∈ zB := zb 727 (by decide +kernel) (by decide +kernel)
theorem zw728 : (.code ⟨"Scrubward", "write", "(II)I"⟩ prog_1_method_3_code 4 (Option.some Jvm.ClassFile.FieldType.int) : Jvm.Cond) ∈ zB := zb 728 (by decide +kernel) (by decide +kernel)
theorem zw729 : (.methodLink "Scrubward" 86 ⟨"Scrubward", "checkData", "(I)V"⟩ : Jvm.Cond) ∈ zB := zb 729 (by decide +kernel) (by decide +kernel)
theorem zw731 : (.instanceMethod ⟨"Scrubward", "checkData", "(I)V"⟩ : Jvm.Cond) ∈ zB := zb 731 (by decide +kernel) (by decide +kernel)
theorem zw732 : (.code ⟨"Scrubward", "checkData", "(I)V"⟩ prog_1_method_35_code 2 (Option.none : Option Jvm.ClassFile.FieldType) : Jvm.Cond) ∈ zB := zb 732 (by decide +kernel) (by decide +kernel)
theorem zw733 : (.methodLink "Scrubward" 399 ⟨"Scrubward$Code", "dataMask", "()I"⟩ : Jvm.Cond) ∈ zB := zb 733 (by decide +kernel) (by decide +kernel)
theorem zw735 : (.methodLink "Scrubward" 89 ⟨"Scrubward", "checkNotRetired", "(I)V"⟩ : Jvm.Cond) ∈ zB := zb 735 (by decide +kernel) (by decide +kernel)
theorem zw737 : (.instanceMethod ⟨"Scrubward", "checkNotRetired", "(I)V"⟩ : Jvm.Cond) ∈ zB := zb 737 (by decide +kernel) (by decide +kernel)
theorem zw738 : (.code ⟨"Scrubward", "checkNotRetired", "(I)V"⟩ prog_1_method_36_code 2 (Option.none : Option Jvm.ClassFile.FieldType) : Jvm.Cond) ∈ zB := zb 738 (by decide +kernel) (by decide +kernel)
theorem zw755 : (.methodLink "Scrubward" 92 ⟨"Scrubward", "store", "(II)V"⟩ : Jvm.Cond) ∈ zB := zb 755 (by decide +kernel) (by decide +kernel)
theorem zw757 : (.instanceMethod ⟨"Scrubward", "store", "(II)V"⟩ : Jvm.Cond) ∈ zB := zb 757 (by decide +kernel) (by decide +kernel)
theorem zw758 : (.code ⟨"Scrubward", "store", "(II)V"⟩ prog_1_method_50_code 3 (Option.none : Option Jvm.ClassFile.FieldType) : Jvm.Cond) ∈ zB := zb 758 (by decide +kernel) (by decide +kernel)
theorem zw759 : (.methodLink "Scrubward" 112 ⟨"Scrubward$Memory", "open", "(I)V"⟩ : Jvm.Cond) ∈ zB := zb 759 (by decide +kernel) (by decide +kernel)
theorem zw760 : (.instanceMethod ⟨"Scrubward$Memory", "open", "(I)V"⟩ : Jvm.Cond) ∈ zB := zb 760 (by decide +kernel) (by decide +kernel)
theorem zw761 : (.selects "Scrubward$Memory" ⟨"Scrubward$Memory", "open", "(I)V"⟩ ⟨"Scrubward$Memory", "open", "(I)V"⟩ : Jvm.Cond) ∈ zB := zb 761 (by decide +kernel) (by decide +kernel)
theorem zw762 : (.code ⟨"Scrubward$Memory", "open", "(I)V"⟩ prog_6_method_5_code 4 (Option.none : Option Jvm.ClassFile.FieldType) : Jvm.Cond) ∈ zB := zb 762 (by decide +kernel) (by decide +kernel)
theorem zw763 : (.methodLink "Scrubward$Memory" 88 ⟨"Scrubward$Memory", "turnDrawnBit", "(I)V"⟩ : Jvm.Cond) ∈ zB := zb 763 (by decide +kernel) (by decide +kernel)
theorem zw765 : (.instanceMethod ⟨"Scrubward$Memory", "turnDrawnBit", "(I)V"⟩ : Jvm.Cond) ∈ zB := zb 765 (by decide +kernel) (by decide +kernel)
theorem zw766 : (.code ⟨"Scrubward$Memory", "turnDrawnBit", "(I)V"⟩ prog_6_method_6_code 5 (Option.none : Option Jvm.ClassFile.FieldType) : Jvm.Cond) ∈ zB := zb 766 (by decide +kernel) (by decide +kernel)
theorem zw767 : (.methodLink "Scrubward$Memory" 91 ⟨"Scrubward$Memory", "draw", "()I"⟩ : Jvm.Cond) ∈ zB := zb 767 (by decide +kernel) (by decide +kernel)
theorem zw769 : (.instanceMethod ⟨"Scrubward$Memory", "draw", "()I"⟩ : Jvm.Cond) ∈ zB := zb 769 (by decide +kernel) (by decide +kernel)
theorem zw770 : (.code ⟨"Scrubward$Memory", "draw", "()I"⟩ prog_6_method_7_code 2 (Option.some Jvm.ClassFile.FieldType.int) : Jvm.Cond) ∈ zB := zb 770 (by decide +kernel) (by decide +kernel)
theorem zw771 : (.methodLink "Scrubward" 408 ⟨"Scrubward", "replace", "(II)V"⟩ : Jvm.Cond) ∈ zB := zb 771 (by decide +kernel) (by decide +kernel)
theorem zw773 : (.instanceMethod ⟨"Scrubward", "replace", "(II)V"⟩ : Jvm.Cond) ∈ zB := zb 773 (by decide +kernel) (by decide +kernel)
theorem zw774 : (.code ⟨"Scrubward", "replace", "(II)V"⟩ prog_1_method_51_code 3 (Option.none : Option Jvm.ClassFile.FieldType) : Jvm.Cond) ∈ zB := zb 774 (by decide +kernel) (by decide +kernel)
theorem zw775 : (.methodLink "Scrubward" 239 ⟨"Scrubward$Code", "wordOf", "(I)I"⟩ : Jvm.Cond) ∈ zB := zb 775 (by decide +kernel) (by decide +kernel)
theorem zw776 : (.instanceMethod ⟨"Scrubward$Code", "wordOf", "(I)I"⟩ : Jvm.Cond) ∈ zB := zb 776 (by decide +kernel) (by decide +kernel)
theorem zw777 : (.selects "Scrubward$Code" ⟨"Scrubward$Code", "wordOf", "(I)I"⟩ ⟨"Scrubward$Code", "wordOf", "(I)I"⟩ : Jvm.Cond) ∈ zB := zb 777 (by decide +kernel) (by decide +kernel)
theorem zw778 : (.code ⟨"Scrubward$Code", "wordOf", "(I)I"⟩ prog_2_method_15_code 2 (Option.some Jvm.ClassFile.FieldType.int) : Jvm.Cond) ∈ zB := zb 778 (by decide +kernel) (by decide +kernel)
theorem zw779 : (.methodLink "Scrubward" 140 ⟨"Scrubward$Memory", "put", "(II)V"⟩ : Jvm.Cond) ∈ zB := zb 779 (by decide +kernel) (by decide +kernel)
theorem zw780 : (.methodLink "ScrubwardLaw" 126 ⟨"ScrubwardLaw", "read", "(LScrubward;ILScrubwardLaw$Out;)I"⟩ : Jvm.Cond) ∈ zB := zb 780 (by decide +kernel) (by decide +kernel)
theorem zw781 : (.static ⟨"ScrubwardLaw", "read", "(LScrubward;ILScrubwardLaw$Out;)I"⟩ : Jvm.Cond) ∈ zB := zb 781 (by decide +kernel) (by decide +kernel)
theorem zw782 : (.codeWith ⟨"ScrubwardLaw", "read", "(LScrubward;ILScrubwardLaw$Out;)I"⟩ method_4_code 4 (Option.some Jvm.ClassFile.FieldType.int) [(0, 10, 13, 24), (0, 10, 16, 26)] : Jvm.Cond) ∈ zB := zb 782 (by decide +kernel) (by decide +kernel)
theorem zw783 : (.methodLink "ScrubwardLaw" 28 ⟨"Scrubward", "read", "(I)I"⟩ : Jvm.Cond) ∈ zB := zb 783 (by decide +kernel) (by decide +kernel)
theorem zw784 : (.instanceMethod ⟨"Scrubward", "read", "(I)I"⟩ : Jvm.Cond) ∈ zB := zb 784 (by decide +kernel) (by decide +kernel)
theorem zw785 : (.selects "Scrubward" ⟨"Scrubward", "read", "(I)I"⟩ ⟨"Scrubward", "read", "(I)I"⟩ : Jvm.Cond) ∈ zB := zb 785 (by decide +kernel) (by decide +kernel)
theorem zw786 : (.code ⟨"Scrubward", "read", "(I)I"⟩ prog_1_method_4_code 3 (Option.some Jvm.ClassFile.FieldType.int) : Jvm.Cond) ∈ zB := zb 786 (by decide +kernel) (by decide +kernel)
theorem zw787 : (.methodLink "Scrubward" 124 ⟨"Scrubward", "report", "(IZ)V"⟩ : Jvm.Cond) ∈ zB := zb 787 (by decide +kernel) (by decide +kernel)
theorem zw789 : (.instanceMethod ⟨"Scrubward", "report", "(IZ)V"⟩ : Jvm.Cond) ∈ zB := zb 789 (by decide +kernel) (by decide +kernel)
theorem zw790 : (.code ⟨"Scrubward", "report", "(IZ)V"⟩ prog_1_method_52_code 5 (Option.none : Option Jvm.ClassFile.FieldType) : Jvm.Cond) ∈ zB := zb 790 (by decide +kernel) (by decide +kernel)
theorem zw791 : (.methodLink "Scrubward" 250 ⟨"Scrubward$Code", "turnOf", "(I)I"⟩ : Jvm.Cond) ∈ zB := zb 791 (by decide +kernel) (by decide +kernel)
theorem zw792 : (.methodLink "Scrubward" 253 ⟨"Scrubward$Code", "bitOf", "(I)I"⟩ : Jvm.Cond) ∈ zB := zb 792 (by decide +kernel) (by decide +kernel)
theorem zw793 : (.static ⟨"Scrubward$Code", "bitOf", "(I)I"⟩ : Jvm.Cond) ∈ zB := zb 793 (by decide +kernel) (by decide +kernel)
theorem zw794 : (.code ⟨"Scrubward$Code", "bitOf", "(I)I"⟩ prog_2_method_13_code 1 (Option.some Jvm.ClassFile.FieldType.int) : Jvm.Cond) ∈ zB := zb 794 (by decide +kernel) (by decide +kernel)
theorem zw795 : (.methodLink "Scrubward" 411 ⟨"Scrubward$Log", "add", "(III)V"⟩ : Jvm.Cond) ∈ zB := zb 795 (by decide +kernel) (by decide +kernel)
theorem zw796 : (.instanceMethod ⟨"Scrubward$Log", "add", "(III)V"⟩ : Jvm.Cond) ∈ zB := zb 796 (by decide +kernel) (by decide +kernel)
theorem zw797 : (.selects "Scrubward$Log" ⟨"Scrubward$Log", "add", "(III)V"⟩ ⟨"Scrubward$Log", "add", "(III)V"⟩ : Jvm.Cond) ∈ zB := zb 797 (by decide +kernel) (by decide +kernel)
theorem zw798 : (.code ⟨"Scrubward$Log", "add", "(III)V"⟩ prog_5_method_3_code 4 (Option.none : Option Jvm.ClassFile.FieldType) : Jvm.Cond) ∈ zB := zb 798 (by decide +kernel) (by decide +kernel)
theorem zw799 : (.methodLink "Scrubward$Log" 36 ⟨"Scrubward$Ints", "set", "(II)V"⟩ : Jvm.Cond) ∈ zB := zb 799 (by decide +kernel) (by decide +kernel)
theorem zw800 : (.methodLink "Scrubward" 128 ⟨"Scrubward", "readTwin", "(I)I"⟩ : Jvm.Cond) ∈ zB := zb 800 (by decide +kernel) (by decide +kernel)
theorem zw802 : (.instanceMethod ⟨"Scrubward", "readTwin", "(I)I"⟩ : Jvm.Cond) ∈ zB := zb 802 (by decide +kernel) (by decide +kernel)
theorem zw803 : (.code ⟨"Scrubward", "readTwin", "(I)I"⟩ prog_1_method_53_code 4 (Option.some Jvm.ClassFile.FieldType.int) : Jvm.Cond) ∈ zB := zb 803 (by decide +kernel) (by decide +kernel)
theorem zw804 : (.methodLink "ScrubwardLaw" 130 ⟨"ScrubwardLaw", "ray", "(LScrubward;IILScrubwardLaw$Out;)I"⟩ : Jvm.Cond) ∈ zB := zb 804 (by decide +kernel) (by decide +kernel)
theorem zw805 : (.static ⟨"ScrubwardLaw", "ray", "(LScrubward;IILScrubwardLaw$Out;)I"⟩ : Jvm.Cond) ∈ zB := zb 805 (by decide +kernel) (by decide +kernel)
theorem zw806 : (.codeWith ⟨"ScrubwardLaw", "ray", "(LScrubward;IILScrubwardLaw$Out;)I"⟩ method_5_code 5 (Option.some Jvm.ClassFile.FieldType.int) [(0, 11, 14, 24), (0, 11, 18, 19)] : Jvm.Cond) ∈ zB := zb 806 (by decide +kernel) (by decide +kernel)
theorem zw807 : (.methodLink "ScrubwardLaw" 32 ⟨"Scrubward", "ray", "(II)I"⟩ : Jvm.Cond) ∈ zB := zb 807 (by decide +kernel) (by decide +kernel)
theorem zw808 : (.instanceMethod ⟨"Scrubward", "ray", "(II)I"⟩ : Jvm.Cond) ∈ zB := zb 808 (by decide +kernel) (by decide +kernel)
theorem zw809 : (.selects "Scrubward" ⟨"Scrubward", "ray", "(II)I"⟩ ⟨"Scrubward", "ray", "(II)I"⟩ : Jvm.Cond) ∈ zB := zb 809 (by decide +kernel) (by decide +kernel)
theorem zw810 : (.code ⟨"Scrubward", "ray", "(II)I"⟩ prog_1_method_5_code 3 (Option.some Jvm.ClassFile.FieldType.int) : Jvm.Cond) ∈ zB := zb 810 (by decide +kernel) (by decide +kernel)
theorem zw811 : (.methodLink "Scrubward" 131 ⟨"Scrubward$Code", "words", "()I"⟩ : Jvm.Cond) ∈ zB := zb 811 (by decide +kernel) (by decide +kernel)
theorem zw812 : (.instanceMethod ⟨"Scrubward$Code", "words", "()I"⟩ : Jvm.Cond) ∈ zB := zb 812 (by decide +kernel) (by decide +kernel)
theorem zw813 : (.selects "Scrubward$Code" ⟨"Scrubward$Code", "words", "()I"⟩ ⟨"Scrubward$Code", "words", "()I"⟩ : Jvm.Cond) ∈ zB := zb 813 (by decide +kernel) (by decide +kernel)
theorem zw814 : (.code ⟨"Scrubward$Code", "words", "()I"⟩ prog_2_method_6_code 1 (Option.some Jvm.ClassFile.FieldType.int) : Jvm.Cond) ∈ zB := zb 814 (by decide +kernel) (by decide +kernel)
theorem zw816 : (.methodLink "ScrubwardLaw" 133 ⟨"ScrubwardLaw", "stick", "(LScrubward;IIZLScrubwardLaw$Out;)I"⟩ : Jvm.Cond) ∈ zB := zb 816 (by decide +kernel) (by decide +kernel)
theorem zw817 : (.static ⟨"ScrubwardLaw", "stick", "(LScrubward;IIZLScrubwardLaw$Out;)I"⟩ : Jvm.Cond) ∈ zB := zb 817 (by decide +kernel) (by decide +kernel)
theorem zw818 : (.codeWith ⟨"ScrubwardLaw", "stick", "(LScrubward;IIZLScrubwardLaw$Out;)I"⟩ method_6_code 6 (Option.some Jvm.ClassFile.FieldType.int) [(0, 13, 16, 24), (0, 13, 20, 19), (0, 13, 24, 26)] : Jvm.Cond) ∈ zB := zb 818 (by decide +kernel) (by decide +kernel)
theorem zw819 : (.methodLink "ScrubwardLaw" 35 ⟨"Scrubward", "stick", "(IIZ)I"⟩ : Jvm.Cond) ∈ zB := zb 819 (by decide +kernel) (by decide +kernel)
theorem zw820 : (.instanceMethod ⟨"Scrubward", "stick", "(IIZ)I"⟩ : Jvm.Cond) ∈ zB := zb 820 (by decide +kernel) (by decide +kernel)
theorem zw821 : (.selects "Scrubward" ⟨"Scrubward", "stick", "(IIZ)I"⟩ ⟨"Scrubward", "stick", "(IIZ)I"⟩ : Jvm.Cond) ∈ zB := zb 821 (by decide +kernel) (by decide +kernel)
theorem zw822 : (.code ⟨"Scrubward", "stick", "(IIZ)I"⟩ prog_1_method_6_code 4 (Option.some Jvm.ClassFile.FieldType.int) : Jvm.Cond) ∈ zB := zb 822 (by decide +kernel) (by decide +kernel)
theorem zw823 : (.methodLink "Scrubward" 152 ⟨"Scrubward$Faults", "isFull", "()Z"⟩ : Jvm.Cond) ∈ zB := zb 823 (by decide +kernel) (by decide +kernel)
theorem zw825 : (.methodLink "Scrubward" 163 ⟨"Scrubward$Faults", "add", "(III)V"⟩ : Jvm.Cond) ∈ zB := zb 825 (by decide +kernel) (by decide +kernel)
theorem zw826 : (.methodLink "ScrubwardLaw" 137 ⟨"ScrubwardLaw", "weak", "(LScrubward;IIILScrubwardLaw$Out;)I"⟩ : Jvm.Cond) ∈ zB := zb 826 (by decide +kernel) (by decide +kernel)
theorem zw827 : (.static ⟨"ScrubwardLaw", "weak", "(LScrubward;IIILScrubwardLaw$Out;)I"⟩ : Jvm.Cond) ∈ zB := zb 827 (by decide +kernel) (by decide +kernel)
theorem zw828 : (.codeWith ⟨"ScrubwardLaw", "weak", "(LScrubward;IIILScrubwardLaw$Out;)I"⟩ method_7_code 6 (Option.some Jvm.ClassFile.FieldType.int) [(0, 13, 16, 24), (0, 13, 20, 19), (0, 13, 24, 26)] : Jvm.Cond) ∈ zB := zb 828 (by decide +kernel) (by decide +kernel)
theorem zw829 : (.methodLink "ScrubwardLaw" 39 ⟨"Scrubward", "weak", "(III)I"⟩ : Jvm.Cond) ∈ zB := zb 829 (by decide +kernel) (by decide +kernel)
theorem zw830 : (.instanceMethod ⟨"Scrubward", "weak", "(III)I"⟩ : Jvm.Cond) ∈ zB := zb 830 (by decide +kernel) (by decide +kernel)
theorem zw831 : (.selects "Scrubward" ⟨"Scrubward", "weak", "(III)I"⟩ ⟨"Scrubward", "weak", "(III)I"⟩ : Jvm.Cond) ∈ zB := zb 831 (by decide +kernel) (by decide +kernel)
theorem zw832 : (.code ⟨"Scrubward", "weak", "(III)I"⟩ prog_1_method_7_code 4 (Option.some Jvm.ClassFile.FieldType.int) : Jvm.Cond) ∈ zB := zb 832 (by decide +kernel) (by decide +kernel)
theorem zw835 : (.methodLink "ScrubwardLaw" 141 ⟨"ScrubwardLaw", "hammer", "(LScrubward;IIILScrubwardLaw$Out;)I"⟩ : Jvm.Cond) ∈ zB := zb 835 (by decide +kernel) (by decide +kernel)
theorem zw836 : (.static ⟨"ScrubwardLaw", "hammer", "(LScrubward;IIILScrubwardLaw$Out;)I"⟩ : Jvm.Cond) ∈ zB := zb 836 (by decide +kernel) (by decide +kernel)
theorem zw837 : (.codeWith ⟨"ScrubwardLaw", "hammer", "(LScrubward;IIILScrubwardLaw$Out;)I"⟩ method_8_code 6 (Option.some Jvm.ClassFile.FieldType.int) [(0, 13, 16, 24), (0, 13, 20, 19)] : Jvm.Cond) ∈ zB := zb 837 (by decide +kernel) (by decide +kernel)
theorem zw838 : (.methodLink "ScrubwardLaw" 43 ⟨"Scrubward", "hammer", "(III)I"⟩ : Jvm.Cond) ∈ zB := zb 838 (by decide +kernel) (by decide +kernel)
theorem zw839 : (.instanceMethod ⟨"Scrubward", "hammer", "(III)I"⟩ : Jvm.Cond) ∈ zB := zb 839 (by decide +kernel) (by decide +kernel)
theorem zw840 : (.selects "Scrubward" ⟨"Scrubward", "hammer", "(III)I"⟩ ⟨"Scrubward", "hammer", "(III)I"⟩ : Jvm.Cond) ∈ zB := zb 840 (by decide +kernel) (by decide +kernel)
theorem zw841 : (.code ⟨"Scrubward", "hammer", "(III)I"⟩ prog_1_method_8_code 6 (Option.some Jvm.ClassFile.FieldType.int) : Jvm.Cond) ∈ zB := zb 841 (by decide +kernel) (by decide +kernel)
end
section
theorem zw842 : (.methodLink "Scrubward" 177 ⟨"Scrubward", "checkRow", "(II)V"⟩ : Jvm.Cond) ∈ zB := zb 842 (by decide +kernel) (by decide +kernel)
theorem zw843 : (.static ⟨"Scrubward", "checkRow", "(II)V"⟩ : Jvm.Cond) ∈ zB := zb 843 (by decide +kernel) (by decide +kernel)
theorem zw844 : (.code ⟨"Scrubward", "checkRow", "(II)V"⟩ prog_1_method_33_code 2 (Option.none : Option Jvm.ClassFile.FieldType) : Jvm.Cond) ∈ zB := zb 844 (by decide +kernel) (by decide +kernel)
theorem zw847 : (.methodLink "ScrubwardLaw" 144 ⟨"ScrubwardLaw", "run", "(LScrubward;IIIZZLScrubwardLaw$Out;)I"⟩ : Jvm.Cond) ∈ zB := zb 847 (by decide +kernel) (by decide +kernel)
theorem zw848 : (.static ⟨"ScrubwardLaw", "run", "(LScrubward;IIIZZLScrubwardLaw$Out;)I"⟩ : Jvm.Cond) ∈ zB := zb 848 (by decide +kernel) (by decide +kernel)
theorem zw849 : (.codeWith ⟨"ScrubwardLaw", "run", "(LScrubward;IIIZZLScrubwardLaw$Out;)I"⟩ method_9_code 8 (Option.some Jvm.ClassFile.FieldType.int) [(0, 17, 20, 19)] : Jvm.Cond) ∈ zB := zb 849 (by decide +kernel) (by decide +kernel)
theorem zw850 : (.methodLink "ScrubwardLaw" 46 ⟨"Scrubward", "run", "(IIIZZ)I"⟩ : Jvm.Cond) ∈ zB := zb 850 (by decide +kernel) (by decide +kernel)
theorem zw851 : (.instanceMethod ⟨"Scrubward", "run", "(IIIZZ)I"⟩ : Jvm.Cond) ∈ zB := zb 851 (by decide +kernel) (by decide +kernel)
theorem zw852 : (.selects "Scrubward" ⟨"Scrubward", "run", "(IIIZZ)I"⟩ ⟨"Scrubward", "run", "(IIIZZ)I"⟩ : Jvm.Cond) ∈ zB := zb 852 (by decide +kernel) (by decide +kernel)
theorem zw853 : (.code ⟨"Scrubward", "run", "(IIIZZ)I"⟩ prog_1_method_9_code 7 (Option.some Jvm.ClassFile.FieldType.int) : Jvm.Cond) ∈ zB := zb 853 (by decide +kernel) (by decide +kernel)
theorem zw857 : (.methodLink "ScrubwardLaw" 148 ⟨"ScrubwardLaw", "spare", "(LScrubward;IILScrubwardLaw$Out;)I"⟩ : Jvm.Cond) ∈ zB := zb 857 (by decide +kernel) (by decide +kernel)
theorem zw858 : (.static ⟨"ScrubwardLaw", "spare", "(LScrubward;IILScrubwardLaw$Out;)I"⟩ : Jvm.Cond) ∈ zB := zb 858 (by decide +kernel) (by decide +kernel)
theorem zw859 : (.codeWith ⟨"ScrubwardLaw", "spare", "(LScrubward;IILScrubwardLaw$Out;)I"⟩ method_10_code 5 (Option.some Jvm.ClassFile.FieldType.int) [(0, 11, 14, 24), (0, 11, 18, 26)] : Jvm.Cond) ∈ zB := zb 859 (by decide +kernel) (by decide +kernel)
theorem zw860 : (.methodLink "ScrubwardLaw" 50 ⟨"Scrubward", "spare", "(II)I"⟩ : Jvm.Cond) ∈ zB := zb 860 (by decide +kernel) (by decide +kernel)
theorem zw861 : (.instanceMethod ⟨"Scrubward", "spare", "(II)I"⟩ : Jvm.Cond) ∈ zB := zb 861 (by decide +kernel) (by decide +kernel)
theorem zw862 : (.selects "Scrubward" ⟨"Scrubward", "spare", "(II)I"⟩ ⟨"Scrubward", "spare", "(II)I"⟩ : Jvm.Cond) ∈ zB := zb 862 (by decide +kernel) (by decide +kernel)
theorem zw863 : (.code ⟨"Scrubward", "spare", "(II)I"⟩ prog_1_method_10_code 4 (Option.some Jvm.ClassFile.FieldType.int) : Jvm.Cond) ∈ zB := zb 863 (by decide +kernel) (by decide +kernel)
theorem zw865 : (.methodLink "Scrubward" 209 ⟨"Scrubward", "moveRow", "(III)V"⟩ : Jvm.Cond) ∈ zB := zb 865 (by decide +kernel) (by decide +kernel)
theorem zw867 : (.instanceMethod ⟨"Scrubward", "moveRow", "(III)V"⟩ : Jvm.Cond) ∈ zB := zb 867 (by decide +kernel) (by decide +kernel)
theorem zw868 : (.code ⟨"Scrubward", "moveRow", "(III)V"⟩ prog_1_method_55_code 9 (Option.none : Option Jvm.ClassFile.FieldType) : Jvm.Cond) ∈ zB := zb 868 (by decide +kernel) (by decide +kernel)
theorem zw869 : (.methodLink "ScrubwardLaw" 151 ⟨"ScrubwardLaw", "retire", "(LScrubward;IZLScrubwardLaw$Out;)I"⟩ : Jvm.Cond) ∈ zB := zb 869 (by decide +kernel) (by decide +kernel)
theorem zw870 : (.static ⟨"ScrubwardLaw", "retire", "(LScrubward;IZLScrubwardLaw$Out;)I"⟩ : Jvm.Cond) ∈ zB := zb 870 (by decide +kernel) (by decide +kernel)
theorem zw871 : (.codeWith ⟨"ScrubwardLaw", "retire", "(LScrubward;IZLScrubwardLaw$Out;)I"⟩ method_11_code 5 (Option.some Jvm.ClassFile.FieldType.int) [(0, 11, 14, 24)] : Jvm.Cond) ∈ zB := zb 871 (by decide +kernel) (by decide +kernel)
theorem zw872 : (.methodLink "ScrubwardLaw" 53 ⟨"Scrubward", "retire", "(IZ)I"⟩ : Jvm.Cond) ∈ zB := zb 872 (by decide +kernel) (by decide +kernel)
theorem zw873 : (.instanceMethod ⟨"Scrubward", "retire", "(IZ)I"⟩ : Jvm.Cond) ∈ zB := zb 873 (by decide +kernel) (by decide +kernel)
theorem zw874 : (.selects "Scrubward" ⟨"Scrubward", "retire", "(IZ)I"⟩ ⟨"Scrubward", "retire", "(IZ)I"⟩ : Jvm.Cond) ∈ zB := zb 874 (by decide +kernel) (by decide +kernel)
theorem zw875 : (.code ⟨"Scrubward", "retire", "(IZ)I"⟩ prog_1_method_11_code 3 (Option.some Jvm.ClassFile.FieldType.int) : Jvm.Cond) ∈ zB := zb 875 (by decide +kernel) (by decide +kernel)
theorem zw876 : (.methodLink "ScrubwardLaw" 155 ⟨"ScrubwardLaw", "pass", "(LScrubward;ILScrubwardLaw$Out;)I"⟩ : Jvm.Cond) ∈ zB := zb 876 (by decide +kernel) (by decide +kernel)
theorem zw877 : (.static ⟨"ScrubwardLaw", "pass", "(LScrubward;ILScrubwardLaw$Out;)I"⟩ : Jvm.Cond) ∈ zB := zb 877 (by decide +kernel) (by decide +kernel)
theorem zw878 : (.codeWith ⟨"ScrubwardLaw", "pass", "(LScrubward;ILScrubwardLaw$Out;)I"⟩ method_12_code 4 (Option.some Jvm.ClassFile.FieldType.int) [(0, 10, 13, 19), (0, 10, 16, 26)] : Jvm.Cond) ∈ zB := zb 878 (by decide +kernel) (by decide +kernel)
theorem zw879 : (.methodLink "ScrubwardLaw" 57 ⟨"Scrubward", "pass", "(I)I"⟩ : Jvm.Cond) ∈ zB := zb 879 (by decide +kernel) (by decide +kernel)
theorem zw880 : (.instanceMethod ⟨"Scrubward", "pass", "(I)I"⟩ : Jvm.Cond) ∈ zB := zb 880 (by decide +kernel) (by decide +kernel)
theorem zw881 : (.selects "Scrubward" ⟨"Scrubward", "pass", "(I)I"⟩ ⟨"Scrubward", "pass", "(I)I"⟩ : Jvm.Cond) ∈ zB := zb 881 (by decide +kernel) (by decide +kernel)
theorem zw882 : (.code ⟨"Scrubward", "pass", "(I)I"⟩ prog_1_method_12_code 3 (Option.some Jvm.ClassFile.FieldType.int) : Jvm.Cond) ∈ zB := zb 882 (by decide +kernel) (by decide +kernel)
theorem zw884 : (.methodLink "Scrubward" 223 ⟨"Scrubward$Memory", "beginTick", "()V"⟩ : Jvm.Cond) ∈ zB := zb 884 (by decide +kernel) (by decide +kernel)
theorem zw885 : (.instanceMethod ⟨"Scrubward$Memory", "beginTick", "()V"⟩ : Jvm.Cond) ∈ zB := zb 885 (by decide +kernel) (by decide +kernel)
theorem zw886 : (.selects "Scrubward$Memory" ⟨"Scrubward$Memory", "beginTick", "()V"⟩ ⟨"Scrubward$Memory", "beginTick", "()V"⟩ : Jvm.Cond) ∈ zB := zb 886 (by decide +kernel) (by decide +kernel)
theorem zw887 : (.code ⟨"Scrubward$Memory", "beginTick", "()V"⟩ prog_6_method_8_code 3 (Option.none : Option Jvm.ClassFile.FieldType) : Jvm.Cond) ∈ zB := zb 887 (by decide +kernel) (by decide +kernel)
theorem zw888 : (.methodLink "Scrubward" 226 ⟨"Scrubward", "scrubSteps", "()V"⟩ : Jvm.Cond) ∈ zB := zb 888 (by decide +kernel) (by decide +kernel)
theorem zw890 : (.instanceMethod ⟨"Scrubward", "scrubSteps", "()V"⟩ : Jvm.Cond) ∈ zB := zb 890 (by decide +kernel) (by decide +kernel)
theorem zw891 : (.code ⟨"Scrubward", "scrubSteps", "()V"⟩ prog_1_method_54_code 4 (Option.none : Option Jvm.ClassFile.FieldType) : Jvm.Cond) ∈ zB := zb 891 (by decide +kernel) (by decide +kernel)
theorem zw892 : (.methodLink "ScrubwardLaw" 167 ⟨"ScrubwardLaw", "column", "(LScrubward;ILScrubwardLaw$Out;)I"⟩ : Jvm.Cond) ∈ zB := zb 892 (by decide +kernel) (by decide +kernel)
theorem zw893 : (.static ⟨"ScrubwardLaw", "column", "(LScrubward;ILScrubwardLaw$Out;)I"⟩ : Jvm.Cond) ∈ zB := zb 893 (by decide +kernel) (by decide +kernel)
theorem zw894 : (.codeWith ⟨"ScrubwardLaw", "column", "(LScrubward;ILScrubwardLaw$Out;)I"⟩ method_13_code 4 (Option.some Jvm.ClassFile.FieldType.int) [(0, 10, 13, 24)] : Jvm.Cond) ∈ zB := zb 894 (by decide +kernel) (by decide +kernel)
theorem zw895 : (.methodLink "ScrubwardLaw" 60 ⟨"Scrubward", "column", "(I)I"⟩ : Jvm.Cond) ∈ zB := zb 895 (by decide +kernel) (by decide +kernel)
theorem zw896 : (.methodLink "ScrubwardLaw" 170 ⟨"ScrubwardLaw", "encode", "(LScrubward;ILScrubwardLaw$Out;)I"⟩ : Jvm.Cond) ∈ zB := zb 896 (by decide +kernel) (by decide +kernel)
theorem zw897 : (.static ⟨"ScrubwardLaw", "encode", "(LScrubward;ILScrubwardLaw$Out;)I"⟩ : Jvm.Cond) ∈ zB := zb 897 (by decide +kernel) (by decide +kernel)
theorem zw898 : (.codeWith ⟨"ScrubwardLaw", "encode", "(LScrubward;ILScrubwardLaw$Out;)I"⟩ method_14_code 4 (Option.some Jvm.ClassFile.FieldType.int) [(0, 10, 13, 19)] : Jvm.Cond) ∈ zB := zb 898 (by decide +kernel) (by decide +kernel)
theorem zw899 : (.methodLink "ScrubwardLaw" 63 ⟨"Scrubward", "encode", "(I)I"⟩ : Jvm.Cond) ∈ zB := zb 899 (by decide +kernel) (by decide +kernel)
theorem zw900 : (.instanceMethod ⟨"Scrubward", "encode", "(I)I"⟩ : Jvm.Cond) ∈ zB := zb 900 (by decide +kernel) (by decide +kernel)
theorem zw901 : (.selects "Scrubward" ⟨"Scrubward", "encode", "(I)I"⟩ ⟨"Scrubward", "encode", "(I)I"⟩ : Jvm.Cond) ∈ zB := zb 901 (by decide +kernel) (by decide +kernel)
theorem zw902 : (.code ⟨"Scrubward", "encode", "(I)I"⟩ prog_1_method_16_code 2 (Option.some Jvm.ClassFile.FieldType.int) : Jvm.Cond) ∈ zB := zb 902 (by decide +kernel) (by decide +kernel)
theorem zw903 : (.methodLink "ScrubwardLaw" 173 ⟨"ScrubwardLaw", "decode", "(LScrubward;IILScrubwardLaw$Out;)I"⟩ : Jvm.Cond) ∈ zB := zb 903 (by decide +kernel) (by decide +kernel)
theorem zw904 : (.static ⟨"ScrubwardLaw", "decode", "(LScrubward;IILScrubwardLaw$Out;)I"⟩ : Jvm.Cond) ∈ zB := zb 904 (by decide +kernel) (by decide +kernel)
theorem zw905 : (.codeWith ⟨"ScrubwardLaw", "decode", "(LScrubward;IILScrubwardLaw$Out;)I"⟩ method_15_code 5 (Option.some Jvm.ClassFile.FieldType.int) [(0, 11, 14, 19)] : Jvm.Cond) ∈ zB := zb 905 (by decide +kernel) (by decide +kernel)
theorem zw906 : (.methodLink "ScrubwardLaw" 66 ⟨"Scrubward", "decode", "(II)I"⟩ : Jvm.Cond) ∈ zB := zb 906 (by decide +kernel) (by decide +kernel)
theorem zw907 : (.instanceMethod ⟨"Scrubward", "decode", "(II)I"⟩ : Jvm.Cond) ∈ zB := zb 907 (by decide +kernel) (by decide +kernel)
theorem zw908 : (.selects "Scrubward" ⟨"Scrubward", "decode", "(II)I"⟩ ⟨"Scrubward", "decode", "(II)I"⟩ : Jvm.Cond) ∈ zB := zb 908 (by decide +kernel) (by decide +kernel)
theorem zw909 : (.code ⟨"Scrubward", "decode", "(II)I"⟩ prog_1_method_17_code 3 (Option.some Jvm.ClassFile.FieldType.int) : Jvm.Cond) ∈ zB := zb 909 (by decide +kernel) (by decide +kernel)
theorem zw911 : (.methodLink "Scrubward" 244 ⟨"Scrubward$Code", "syndromeOf", "(I)I"⟩ : Jvm.Cond) ∈ zB := zb 911 (by decide +kernel) (by decide +kernel)
theorem zw913 : (.methodLink "ScrubwardLaw" 176 ⟨"ScrubwardLaw", "fooled", "(LScrubward;ILScrubwardLaw$Out;)I"⟩ : Jvm.Cond) ∈ zB := zb 913 (by decide +kernel) (by decide +kernel)
theorem zw914 : (.static ⟨"ScrubwardLaw", "fooled", "(LScrubward;ILScrubwardLaw$Out;)I"⟩ : Jvm.Cond) ∈ zB := zb 914 (by decide +kernel) (by decide +kernel)
theorem zw915 : (.codeWith ⟨"ScrubwardLaw", "fooled", "(LScrubward;ILScrubwardLaw$Out;)I"⟩ method_16_code 4 (Option.some Jvm.ClassFile.FieldType.int) [(0, 10, 13, 19)] : Jvm.Cond) ∈ zB := zb 915 (by decide +kernel) (by decide +kernel)
theorem zw916 : (.methodLink "ScrubwardLaw" 69 ⟨"Scrubward", "fooled", "(I)I"⟩ : Jvm.Cond) ∈ zB := zb 916 (by decide +kernel) (by decide +kernel)
theorem zw917 : (.methodLink "ScrubwardLaw" 179 ⟨"ScrubwardLaw", "ofWord", "(LScrubward;IILScrubwardLaw$Out;)I"⟩ : Jvm.Cond) ∈ zB := zb 917 (by decide +kernel) (by decide +kernel)
theorem zw918 : (.static ⟨"ScrubwardLaw", "ofWord", "(LScrubward;IILScrubwardLaw$Out;)I"⟩ : Jvm.Cond) ∈ zB := zb 918 (by decide +kernel) (by decide +kernel)
theorem zw919 : (.codeWith ⟨"ScrubwardLaw", "ofWord", "(LScrubward;IILScrubwardLaw$Out;)I"⟩ method_17_code 5 (Option.some Jvm.ClassFile.FieldType.int) [(0, 11, 14, 24), (0, 11, 18, 19)] : Jvm.Cond) ∈ zB := zb 919 (by decide +kernel) (by decide +kernel)
theorem zw920 : (.methodLink "ScrubwardLaw" 72 ⟨"Scrubward", "ofWord", "(II)I"⟩ : Jvm.Cond) ∈ zB := zb 920 (by decide +kernel) (by decide +kernel)
theorem zw921 : (.methodLink "ScrubwardLaw" 182 ⟨"ScrubwardLaw", "ofLine", "(LScrubward;IIILScrubwardLaw$Out;)I"⟩ : Jvm.Cond) ∈ zB := zb 921 (by decide +kernel) (by decide +kernel)
theorem zw922 : (.static ⟨"ScrubwardLaw", "ofLine", "(LScrubward;IIILScrubwardLaw$Out;)I"⟩ : Jvm.Cond) ∈ zB := zb 922 (by decide +kernel) (by decide +kernel)
theorem zw923 : (.codeWith ⟨"ScrubwardLaw", "ofLine", "(LScrubward;IIILScrubwardLaw$Out;)I"⟩ method_18_code 6 (Option.some Jvm.ClassFile.FieldType.int) [(0, 13, 16, 24), (0, 13, 20, 19)] : Jvm.Cond) ∈ zB := zb 923 (by decide +kernel) (by decide +kernel)
theorem zw924 : (.methodLink "ScrubwardLaw" 75 ⟨"Scrubward", "ofLine", "(III)I"⟩ : Jvm.Cond) ∈ zB := zb 924 (by decide +kernel) (by decide +kernel)
theorem zw925 : (.methodLink "ScrubwardLaw" 185 ⟨"ScrubwardLaw", "ofEntry", "(LScrubward;IILScrubwardLaw$Out;)I"⟩ : Jvm.Cond) ∈ zB := zb 925 (by decide +kernel) (by decide +kernel)
theorem zw926 : (.static ⟨"ScrubwardLaw", "ofEntry", "(LScrubward;IILScrubwardLaw$Out;)I"⟩ : Jvm.Cond) ∈ zB := zb 926 (by decide +kernel) (by decide +kernel)
theorem zw927 : (.codeWith ⟨"ScrubwardLaw", "ofEntry", "(LScrubward;IILScrubwardLaw$Out;)I"⟩ method_19_code 5 (Option.some Jvm.ClassFile.FieldType.int) [(0, 11, 14, 24), (0, 11, 18, 19)] : Jvm.Cond) ∈ zB := zb 927 (by decide +kernel) (by decide +kernel)
theorem zw928 : (.methodLink "ScrubwardLaw" 78 ⟨"Scrubward", "ofEntry", "(II)I"⟩ : Jvm.Cond) ∈ zB := zb 928 (by decide +kernel) (by decide +kernel)
theorem zw929 : (.methodLink "ScrubwardLaw" 188 ⟨"ScrubwardLaw", "blame", "(LScrubward;IZLScrubwardLaw$Out;)I"⟩ : Jvm.Cond) ∈ zB := zb 929 (by decide +kernel) (by decide +kernel)
theorem zw930 : (.static ⟨"ScrubwardLaw", "blame", "(LScrubward;IZLScrubwardLaw$Out;)I"⟩ : Jvm.Cond) ∈ zB := zb 930 (by decide +kernel) (by decide +kernel)
theorem zw931 : (.codeWith ⟨"ScrubwardLaw", "blame", "(LScrubward;IZLScrubwardLaw$Out;)I"⟩ method_20_code 5 (Option.some Jvm.ClassFile.FieldType.int) [(0, 11, 14, 24)] : Jvm.Cond) ∈ zB := zb 931 (by decide +kernel) (by decide +kernel)
theorem zw932 : (.methodLink "ScrubwardLaw" 81 ⟨"Scrubward", "blame", "(IZ)I"⟩ : Jvm.Cond) ∈ zB := zb 932 (by decide +kernel) (by decide +kernel)
theorem zw933 : (.methodLink "ScrubwardLaw" 191 ⟨"ScrubwardLaw", "board", "(LScrubward;ILScrubwardLaw$Out;)I"⟩ : Jvm.Cond) ∈ zB := zb 933 (by decide +kernel) (by decide +kernel)
theorem zw934 : (.static ⟨"ScrubwardLaw", "board", "(LScrubward;ILScrubwardLaw$Out;)I"⟩ : Jvm.Cond) ∈ zB := zb 934 (by decide +kernel) (by decide +kernel)
theorem zw935 : (.codeWith ⟨"ScrubwardLaw", "board", "(LScrubward;ILScrubwardLaw$Out;)I"⟩ method_21_code 4 (Option.some Jvm.ClassFile.FieldType.int) [(0, 10, 13, 19)] : Jvm.Cond) ∈ zB := zb 935 (by decide +kernel) (by decide +kernel)
theorem zw936 : (.methodLink "ScrubwardLaw" 84 ⟨"Scrubward", "board", "(I)I"⟩ : Jvm.Cond) ∈ zB := zb 936 (by decide +kernel) (by decide +kernel)
theorem zw937 : (.methodLink "ScrubwardLaw" 194 ⟨"ScrubwardLaw", "health", "(LScrubward;ILScrubwardLaw$Out;)I"⟩ : Jvm.Cond) ∈ zB := zb 937 (by decide +kernel) (by decide +kernel)
theorem zw938 : (.static ⟨"ScrubwardLaw", "health", "(LScrubward;ILScrubwardLaw$Out;)I"⟩ : Jvm.Cond) ∈ zB := zb 938 (by decide +kernel) (by decide +kernel)
theorem zw939 : (.codeWith ⟨"ScrubwardLaw", "health", "(LScrubward;ILScrubwardLaw$Out;)I"⟩ method_22_code 4 (Option.some Jvm.ClassFile.FieldType.int) [(0, 9, 12, 24)] : Jvm.Cond) ∈ zB := zb 939 (by decide +kernel) (by decide +kernel)
theorem zw940 : (.methodLink "ScrubwardLaw" 87 ⟨"Scrubward", "health", "(I)D"⟩ : Jvm.Cond) ∈ zB := zb 940 (by decide +kernel) (by decide +kernel)
theorem zw941 : (.methodLink "ScrubwardLaw" 197 ⟨"ScrubwardLaw", "tell", "(LScrubward;IILScrubwardLaw$Out;)I"⟩ : Jvm.Cond) ∈ zB := zb 941 (by decide +kernel) (by decide +kernel)
theorem zw942 : (.static ⟨"ScrubwardLaw", "tell", "(LScrubward;IILScrubwardLaw$Out;)I"⟩ : Jvm.Cond) ∈ zB := zb 942 (by decide +kernel) (by decide +kernel)
theorem zw943 : (.codeWith ⟨"ScrubwardLaw", "tell", "(LScrubward;IILScrubwardLaw$Out;)I"⟩ method_23_code 5 (Option.some Jvm.ClassFile.FieldType.int) [(0, 10, 13, 24)] : Jvm.Cond) ∈ zB := zb 943 (by decide +kernel) (by decide +kernel)
theorem zw944 : (.methodLink "ScrubwardLaw" 95 ⟨"Scrubward", "tell", "(II)Ljava/lang/String;"⟩ : Jvm.Cond) ∈ zB := zb 944 (by decide +kernel) (by decide +kernel)
theorem zw945 : (.instanceMethod ⟨"Scrubward", "tell", "(II)Ljava/lang/String;"⟩ : Jvm.Cond) ∈ zB := zb 945 (by decide +kernel) (by decide +kernel)
theorem zw946 : (.selects "Scrubward" ⟨"Scrubward", "tell", "(II)Ljava/lang/String;"⟩ ⟨"Scrubward", "tell", "(II)Ljava/lang/String;"⟩ : Jvm.Cond) ∈ zB := zb 946 (by decide +kernel) (by decide +kernel)
theorem zw947 : (.code ⟨"Scrubward", "tell", "(II)Ljava/lang/String;"⟩ prog_1_method_25_code 5 (Option.some (Jvm.ClassFile.FieldType.object "java/lang/String")) : Jvm.Cond) ∈ zB := zb 947 (by decide +kernel) (by decide +kernel)
theorem zw948 : (.classLink "Scrubward" 331 "java/lang/StringBuilder" : Jvm.Cond) ∈ zB := zb 948 (by decide +kernel) (by decide +kernel)
theorem zw949 : (.instantiable "java/lang/StringBuilder" 4 : Jvm.Cond) ∈ zB := zb 949 (by decide +kernel) (by decide +kernel)
theorem zw950 : (.methodLink "Scrubward" 333 ⟨"java/lang/StringBuilder", "<init>", "()V"⟩ : Jvm.Cond) ∈ zB := zb 950 (by decide +kernel) (by decide +kernel)
theorem zw951 : (.instanceMethod ⟨"java/lang/StringBuilder", "<init>", "()V"⟩ : Jvm.Cond) ∈ zB := zb 951 (by decide +kernel) (by decide +kernel)
theorem zw952 : (.code ⟨"java/lang/StringBuilder", "<init>", "()V"⟩ prog_26_method_1_code 1 (Option.none : Option Jvm.ClassFile.FieldType) : Jvm.Cond) ∈ zB := zb 952 (by decide +kernel) (by decide +kernel)
theorem zw953 : (.methodLink "java/lang/StringBuilder" 1 ⟨"java/lang/AbstractStringBuilder", "<init>", "(I)V"⟩ : Jvm.Cond) ∈ zB := zb 953 (by decide +kernel) (by decide +kernel)
theorem zw954 : (.instanceMethod ⟨"java/lang/AbstractStringBuilder", "<init>", "(I)V"⟩ : Jvm.Cond) ∈ zB := zb 954 (by decide +kernel) (by decide +kernel)
theorem zw955 : (.code ⟨"java/lang/AbstractStringBuilder", "<init>", "(I)V"⟩ prog_11_method_2_code 2 (Option.none : Option Jvm.ClassFile.FieldType) : Jvm.Cond) ∈ zB := zb 955 (by decide +kernel) (by decide +kernel)
theorem zw956 : (.methodLink "java/lang/AbstractStringBuilder" 3 ⟨"java/lang/Object", "<init>", "()V"⟩ : Jvm.Cond) ∈ zB := zb 956 (by decide +kernel) (by decide +kernel)
theorem zw966 : (.fieldLink "java/lang/AbstractStringBuilder" 15 "java/lang/AbstractStringBuilder" "value" "[B" : Jvm.Cond) ∈ zB := zb 966 (by decide +kernel) (by decide +kernel)
theorem zw967 : (.fieldLink "java/lang/AbstractStringBuilder" 22 "java/lang/AbstractStringBuilder" "coder" "B" : Jvm.Cond) ∈ zB := zb 967 (by decide +kernel) (by decide +kernel)
theorem zw968 : (.fieldLink "java/lang/String" 1048 "java/lang/AbstractStringBuilder" "maybeLatin1" "Z" : Jvm.Cond) ∈ zB := zb 968 (by decide +kernel) (by decide +kernel)
theorem zw969 : (.fieldLink "java/lang/AbstractStringBuilder" 79 "java/lang/AbstractStringBuilder" "count" "I" : Jvm.Cond) ∈ zB := zb 969 (by decide +kernel) (by decide +kernel)
theorem zw970 : (.lays "java/lang/StringBuilder" "java/lang/AbstractStringBuilder" "value" "[B" : Jvm.Cond) ∈ zB := zb 970 (by decide +kernel) (by decide +kernel)
theorem zw972 : (.lays "java/lang/StringBuilder" "java/lang/AbstractStringBuilder" "coder" "B" : Jvm.Cond) ∈ zB := zb 972 (by decide +kernel) (by decide +kernel)
theorem zw974 : (.lays "java/lang/StringBuilder" "java/lang/AbstractStringBuilder" "maybeLatin1" "Z" : Jvm.Cond) ∈ zB := zb 974 (by decide +kernel) (by decide +kernel)
theorem zw976 : (.lays "java/lang/StringBuilder" "java/lang/AbstractStringBuilder" "count" "I" : Jvm.Cond) ∈ zB := zb 976 (by decide +kernel) (by decide +kernel)
theorem zw979 : (.methodLink "Scrubward" 334 ⟨"Scrubward", "signOf", "(I)C"⟩ : Jvm.Cond) ∈ zB := zb 979 (by decide +kernel) (by decide +kernel)
theorem zw981 : (.instanceMethod ⟨"Scrubward", "signOf", "(I)C"⟩ : Jvm.Cond) ∈ zB := zb 981 (by decide +kernel) (by decide +kernel)
theorem zw982 : (.code ⟨"Scrubward", "signOf", "(I)C"⟩ prog_1_method_47_code 2 (Option.some Jvm.ClassFile.FieldType.char) : Jvm.Cond) ∈ zB := zb 982 (by decide +kernel) (by decide +kernel)
theorem zw983 : (.methodLink "Scrubward" 338 ⟨"java/lang/StringBuilder", "append", "(C)Ljava/lang/StringBuilder;"⟩ : Jvm.Cond) ∈ zB := zb 983 (by decide +kernel) (by decide +kernel)
theorem zw984 : (.instanceMethod ⟨"java/lang/StringBuilder", "append", "(C)Ljava/lang/StringBuilder;"⟩ : Jvm.Cond) ∈ zB := zb 984 (by decide +kernel) (by decide +kernel)
theorem zw985 : (.selects "java/lang/StringBuilder" ⟨"java/lang/StringBuilder", "append", "(C)Ljava/lang/StringBuilder;"⟩ ⟨"java/lang/StringBuilder", "append", "(C)Ljava/lang/StringBuilder;"⟩ : Jvm.Cond) ∈ zB := zb 985 (by decide +kernel) (by decide +kernel)
theorem zw986 : (.code ⟨"java/lang/StringBuilder", "append", "(C)Ljava/lang/StringBuilder;"⟩ prog_26_method_14_code 2 (Option.some (Jvm.ClassFile.FieldType.object "java/lang/StringBuilder")) : Jvm.Cond) ∈ zB := zb 986 (by decide +kernel) (by decide +kernel)
theorem zw989 : (.code ⟨"java/lang/AbstractStringBuilder", "append", "(C)Ljava/lang/AbstractStringBuilder;"⟩ prog_11_method_31_code 2 (Option.some (Jvm.ClassFile.FieldType.object "java/lang/AbstractStringBuilder")) : Jvm.Cond) ∈ zB := zb 989 (by decide +kernel) (by decide +kernel)
theorem zw990 : (.methodLink "java/lang/AbstractStringBuilder" 100 ⟨"java/lang/AbstractStringBuilder", "ensureCapacityInternal", "(I)V"⟩ : Jvm.Cond) ∈ zB := zb 990 (by decide +kernel) (by decide +kernel)
theorem zw992 : (.instanceMethod ⟨"java/lang/AbstractStringBuilder", "ensureCapacityInternal", "(I)V"⟩ : Jvm.Cond) ∈ zB := zb 992 (by decide +kernel) (by decide +kernel)
theorem zw993 : (.code ⟨"java/lang/AbstractStringBuilder", "ensureCapacityInternal", "(I)V"⟩ prog_11_method_9_code 3 (Option.none : Option Jvm.ClassFile.FieldType) : Jvm.Cond) ∈ zB := zb 993 (by decide +kernel) (by decide +kernel)
theorem zw999 : (.static ⟨"jdk/internal/util/ArraysSupport", "newLength", "(III)I"⟩ : Jvm.Cond) ∈ zB := zb 999 (by decide +kernel) (by decide +kernel)
theorem zw1000 : (.code ⟨"jdk/internal/util/ArraysSupport", "newLength", "(III)I"⟩ prog_42_method_27_code 4 (Option.some Jvm.ClassFile.FieldType.int) : Jvm.Cond) ∈ zB := zb 1000 (by decide +kernel) (by decide +kernel)
theorem zw1001 : (.methodLink "jdk/internal/util/ArraysSupport" 194 ⟨"java/lang/Math", "max", "(II)I"⟩ : Jvm.Cond) ∈ zB := zb 1001 (by decide +kernel) (by decide +kernel)
theorem zw1002 : (.static ⟨"java/lang/Math", "max", "(II)I"⟩ : Jvm.Cond) ∈ zB := zb 1002 (by decide +kernel) (by decide +kernel)
theorem zw1003 : (.code ⟨"java/lang/Math", "max", "(II)I"⟩ prog_22_method_65_code 2 (Option.some Jvm.ClassFile.FieldType.int) : Jvm.Cond) ∈ zB := zb 1003 (by decide +kernel) (by decide +kernel)
theorem zw1004 : (.constant "jdk/internal/util/ArraysSupport" 200 2147483639 : Jvm.Cond) ∈ zB := zb 1004 (by decide +kernel) (by decide +kernel)
theorem zw1019 : (.methodLink "java/util/Arrays" 304 ⟨"java/lang/Math", "min", "(II)I"⟩ : Jvm.Cond) ∈ zB := zb 1019 (by decide +kernel) (by decide +kernel)
theorem zw1020 : (.static ⟨"java/lang/Math", "min", "(II)I"⟩ : Jvm.Cond) ∈ zB := zb 1020 (by decide +kernel) (by decide +kernel)
theorem zw1021 : (.code ⟨"java/lang/Math", "min", "(II)I"⟩ prog_22_method_69_code 2 (Option.some Jvm.ClassFile.FieldType.int) : Jvm.Cond) ∈ zB := zb 1021 (by decide +kernel) (by decide +kernel)
theorem zw1025 : (.methodLink "java/lang/AbstractStringBuilder" 83 ⟨"java/lang/AbstractStringBuilder", "isLatin1", "()Z"⟩ : Jvm.Cond) ∈ zB := zb 1025 (by decide +kernel) (by decide +kernel)
theorem zw1026 : (.instanceMethod ⟨"java/lang/AbstractStringBuilder", "isLatin1", "()Z"⟩ : Jvm.Cond) ∈ zB := zb 1026 (by decide +kernel) (by decide +kernel)
theorem zw1029 : (.code ⟨"java/lang/AbstractStringBuilder", "isLatin1", "()Z"⟩ prog_11_method_68_code 1 (Option.some Jvm.ClassFile.FieldType.boolean) : Jvm.Cond) ∈ zB := zb 1029 (by decide +kernel) (by decide +kernel)
theorem zw1030 : (.methodLink "java/lang/AbstractStringBuilder" 191 ⟨"java/lang/StringLatin1", "canEncode", "(C)Z"⟩ : Jvm.Cond) ∈ zB := zb 1030 (by decide +kernel) (by decide +kernel)
theorem zw1031 : (.static ⟨"java/lang/StringLatin1", "canEncode", "(C)Z"⟩ : Jvm.Cond) ∈ zB := zb 1031 (by decide +kernel) (by decide +kernel)
theorem zw1032 : (.code ⟨"java/lang/StringLatin1", "canEncode", "(C)Z"⟩ prog_27_method_3_code 1 (Option.some Jvm.ClassFile.FieldType.boolean) : Jvm.Cond) ∈ zB := zb 1032 (by decide +kernel) (by decide +kernel)
theorem zw1076 : (.static ⟨"jdk/internal/util/Preconditions", "checkIndex", "(IILjava/util/function/BiFunction;)I"⟩ : Jvm.Cond) ∈ zB := zb 1076 (by decide +kernel) (by decide +kernel)
theorem zw1077 : (.code ⟨"jdk/internal/util/Preconditions", "checkIndex", "(IILjava/util/function/BiFunction;)I"⟩ prog_43_method_11_code 3 (Option.some Jvm.ClassFile.FieldType.int) : Jvm.Cond) ∈ zB := zb 1077 (by decide +kernel) (by decide +kernel)
theorem zw1078 : (.methodLink "Scrubward" 342 ⟨"java/lang/StringBuilder", "toString", "()Ljava/lang/String;"⟩ : Jvm.Cond) ∈ zB := zb 1078 (by decide +kernel) (by decide +kernel)
theorem zw1079 : (.instanceMethod ⟨"java/lang/StringBuilder", "toString", "()Ljava/lang/String;"⟩ : Jvm.Cond) ∈ zB := zb 1079 (by decide +kernel) (by decide +kernel)
theorem zw1080 : (.selects "java/lang/StringBuilder" ⟨"java/lang/StringBuilder", "toString", "()Ljava/lang/String;"⟩ ⟨"java/lang/StringBuilder", "toString", "()Ljava/lang/String;"⟩ : Jvm.Cond) ∈ zB := zb 1080 (by decide +kernel) (by decide +kernel)
theorem zw1081 : (.code ⟨"java/lang/StringBuilder", "toString", "()Ljava/lang/String;"⟩ prog_26_method_42_code 1 (Option.some (Jvm.ClassFile.FieldType.object "java/lang/String")) : Jvm.Cond) ∈ zB := zb 1081 (by decide +kernel) (by decide +kernel)
theorem zw1082 : (.classLink "java/lang/StringBuilder" 18 "java/lang/String" : Jvm.Cond) ∈ zB := zb 1082 (by decide +kernel) (by decide +kernel)
theorem zw1083 : (.instantiable "java/lang/String" 4 : Jvm.Cond) ∈ zB := zb 1083 (by decide +kernel) (by decide +kernel)
theorem zw1084 : (.methodLink "java/lang/StringBuilder" 137 ⟨"java/lang/String", "<init>", "(Ljava/lang/StringBuilder;)V"⟩ : Jvm.Cond) ∈ zB := zb 1084 (by decide +kernel) (by decide +kernel)
theorem zw1085 : (.instanceMethod ⟨"java/lang/String", "<init>", "(Ljava/lang/StringBuilder;)V"⟩ : Jvm.Cond) ∈ zB := zb 1085 (by decide +kernel) (by decide +kernel)
theorem zw1086 : (.code ⟨"java/lang/String", "<init>", "(Ljava/lang/StringBuilder;)V"⟩ prog_25_method_53_code 2 (Option.none : Option Jvm.ClassFile.FieldType) : Jvm.Cond) ∈ zB := zb 1086 (by decide +kernel) (by decide +kernel)
theorem zw1087 : (.methodLink "java/lang/String" 489 ⟨"java/lang/String", "<init>", "(Ljava/lang/AbstractStringBuilder;Ljava/lang/Void;)V"⟩ : Jvm.Cond) ∈ zB := zb 1087 (by decide +kernel) (by decide +kernel)
theorem zw1088 : (.instanceMethod ⟨"java/lang/String", "<init>", "(Ljava/lang/AbstractStringBuilder;Ljava/lang/Void;)V"⟩ : Jvm.Cond) ∈ zB := zb 1088 (by decide +kernel) (by decide +kernel)
theorem zw1089 : (.code ⟨"java/lang/String", "<init>", "(Ljava/lang/AbstractStringBuilder;Ljava/lang/Void;)V"⟩ prog_25_method_150_code 5 (Option.none : Option Jvm.ClassFile.FieldType) : Jvm.Cond) ∈ zB := zb 1089 (by decide +kernel) (by decide +kernel)
theorem zw1090 : (.methodLink "java/lang/String" 1 ⟨"java/lang/Object", "<init>", "()V"⟩ : Jvm.Cond) ∈ zB := zb 1090 (by decide +kernel) (by decide +kernel)
theorem zw1091 : (.methodLink "java/lang/String" 552 ⟨"java/lang/AbstractStringBuilder", "getValue", "()[B"⟩ : Jvm.Cond) ∈ zB := zb 1091 (by decide +kernel) (by decide +kernel)
theorem zw1092 : (.instanceMethod ⟨"java/lang/AbstractStringBuilder", "getValue", "()[B"⟩ : Jvm.Cond) ∈ zB := zb 1092 (by decide +kernel) (by decide +kernel)
theorem zw1095 : (.code ⟨"java/lang/AbstractStringBuilder", "getValue", "()[B"⟩ prog_11_method_64_code 1 (Option.some (Jvm.ClassFile.FieldType.array Jvm.ClassFile.FieldType.byte)) : Jvm.Cond) ∈ zB := zb 1095 (by decide +kernel) (by decide +kernel)
theorem zw1096 : (.methodLink "java/lang/String" 549 ⟨"java/lang/AbstractStringBuilder", "length", "()I"⟩ : Jvm.Cond) ∈ zB := zb 1096 (by decide +kernel) (by decide +kernel)
theorem zw1097 : (.instanceMethod ⟨"java/lang/AbstractStringBuilder", "length", "()I"⟩ : Jvm.Cond) ∈ zB := zb 1097 (by decide +kernel) (by decide +kernel)
theorem zw1103 : (.code ⟨"java/lang/AbstractStringBuilder", "length", "()I"⟩ prog_11_method_6_code 1 (Option.some Jvm.ClassFile.FieldType.int) : Jvm.Cond) ∈ zB := zb 1103 (by decide +kernel) (by decide +kernel)
theorem zw1104 : (.methodLink "java/lang/String" 1047 ⟨"java/lang/AbstractStringBuilder", "isLatin1", "()Z"⟩ : Jvm.Cond) ∈ zB := zb 1104 (by decide +kernel) (by decide +kernel)
theorem zw1105 : (.methodLink "java/lang/String" 54 ⟨"java/util/Arrays", "copyOfRange", "([BII)[B"⟩ : Jvm.Cond) ∈ zB := zb 1105 (by decide +kernel) (by decide +kernel)
theorem zw1106 : (.static ⟨"java/util/Arrays", "copyOfRange", "([BII)[B"⟩ : Jvm.Cond) ∈ zB := zb 1106 (by decide +kernel) (by decide +kernel)
theorem zw1107 : (.code ⟨"java/util/Arrays", "copyOfRange", "([BII)[B"⟩ prog_36_method_132_code 3 (Option.some (Jvm.ClassFile.FieldType.array Jvm.ClassFile.FieldType.byte)) : Jvm.Cond) ∈ zB := zb 1107 (by decide +kernel) (by decide +kernel)
theorem zw1108 : (.methodLink "java/util/Arrays" 339 ⟨"java/util/Arrays", "copyOfRangeByte", "([BII)[B"⟩ : Jvm.Cond) ∈ zB := zb 1108 (by decide +kernel) (by decide +kernel)
theorem zw1109 : (.static ⟨"java/util/Arrays", "copyOfRangeByte", "([BII)[B"⟩ : Jvm.Cond) ∈ zB := zb 1109 (by decide +kernel) (by decide +kernel)
theorem zw1110 : (.code ⟨"java/util/Arrays", "copyOfRangeByte", "([BII)[B"⟩ prog_36_method_133_code 5 (Option.some (Jvm.ClassFile.FieldType.array Jvm.ClassFile.FieldType.byte)) : Jvm.Cond) ∈ zB := zb 1110 (by decide +kernel) (by decide +kernel)
theorem zw1111 : (.methodLink "java/util/Arrays" 343 ⟨"java/util/Arrays", "checkLength", "(II)V"⟩ : Jvm.Cond) ∈ zB := zb 1111 (by decide +kernel) (by decide +kernel)
theorem zw1112 : (.static ⟨"java/util/Arrays", "checkLength", "(II)V"⟩ : Jvm.Cond) ∈ zB := zb 1112 (by decide +kernel) (by decide +kernel)
theorem zw1113 : (.code ⟨"java/util/Arrays", "checkLength", "(II)V"⟩ prog_36_method_131_code 2 (Option.none : Option Jvm.ClassFile.FieldType) : Jvm.Cond) ∈ zB := zb 1113 (by decide +kernel) (by decide +kernel)
theorem zw1115 : (.classLink "java/util/Arrays" 45 "java/lang/StringBuilder" : Jvm.Cond) ∈ zB := zb 1115 (by decide +kernel) (by decide +kernel)
theorem zw1116 : (.methodLink "java/util/Arrays" 47 ⟨"java/lang/StringBuilder", "<init>", "()V"⟩ : Jvm.Cond) ∈ zB := zb 1116 (by decide +kernel) (by decide +kernel)
theorem zw1190 : (.methodLink "java/util/Arrays" 61 ⟨"java/lang/StringBuilder", "toString", "()Ljava/lang/String;"⟩ : Jvm.Cond) ∈ zB := zb 1190 (by decide +kernel) (by decide +kernel)
theorem zw1205 : (.fieldLink "java/lang/String" 9 "java/lang/String" "value" "[B" : Jvm.Cond) ∈ zB := zb 1205 (by decide +kernel) (by decide +kernel)
theorem zw1206 : (.fieldLink "java/lang/String" 15 "java/lang/String" "coder" "B" : Jvm.Cond) ∈ zB := zb 1206 (by decide +kernel) (by decide +kernel)
theorem zw1207 : (.laysFinal "java/lang/String" "java/lang/String" "value" "[B" : Jvm.Cond) ∈ zB := zb 1207 (by decide +kernel) (by decide +kernel)
theorem zw1209 : (.laysFinal "java/lang/String" "java/lang/String" "coder" "B" : Jvm.Cond) ∈ zB := zb 1209 (by decide +kernel) (by decide +kernel)
theorem zw1211 : (.lays "java/lang/String" "java/lang/String" "hash" "I" : Jvm.Cond) ∈ zB := zb 1211 (by decide +kernel) (by decide +kernel)
theorem zw1213 : (.lays "java/lang/String" "java/lang/String" "hashIsZero" "Z" : Jvm.Cond) ∈ zB := zb 1213 (by decide +kernel) (by decide +kernel)
theorem zw1216 : (.methodLink "ScrubwardLaw" 200 ⟨"ScrubwardLaw", "wouldRead", "(LScrubward;ILScrubwardLaw$Out;)I"⟩ : Jvm.Cond) ∈ zB := zb 1216 (by decide +kernel) (by decide +kernel)
theorem zw1217 : (.static ⟨"ScrubwardLaw", "wouldRead", "(LScrubward;ILScrubwardLaw$Out;)I"⟩ : Jvm.Cond) ∈ zB := zb 1217 (by decide +kernel) (by decide +kernel)
theorem zw1218 : (.codeWith ⟨"ScrubwardLaw", "wouldRead", "(LScrubward;ILScrubwardLaw$Out;)I"⟩ method_24_code 4 (Option.some Jvm.ClassFile.FieldType.int) [(0, 10, 13, 24)] : Jvm.Cond) ∈ zB := zb 1218 (by decide +kernel) (by decide +kernel)
theorem zw1219 : (.methodLink "ScrubwardLaw" 103 ⟨"Scrubward", "wouldRead", "(I)I"⟩ : Jvm.Cond) ∈ zB := zb 1219 (by decide +kernel) (by decide +kernel)
theorem zw1220 : (.methodLink "ScrubwardLaw" 203 ⟨"ScrubwardLaw", "wouldSpare", "(LScrubward;ILScrubwardLaw$Out;)I"⟩ : Jvm.Cond) ∈ zB := zb 1220 (by decide +kernel) (by decide +kernel)
theorem zw1221 : (.static ⟨"ScrubwardLaw", "wouldSpare", "(LScrubward;ILScrubwardLaw$Out;)I"⟩ : Jvm.Cond) ∈ zB := zb 1221 (by decide +kernel) (by decide +kernel)
theorem zw1222 : (.codeWith ⟨"ScrubwardLaw", "wouldSpare", "(LScrubward;ILScrubwardLaw$Out;)I"⟩ method_25_code 4 (Option.some Jvm.ClassFile.FieldType.int) [(0, 10, 13, 24)] : Jvm.Cond) ∈ zB := zb 1222 (by decide +kernel) (by decide +kernel)
theorem zw1223 : (.methodLink "ScrubwardLaw" 106 ⟨"Scrubward", "wouldSpare", "(I)I"⟩ : Jvm.Cond) ∈ zB := zb 1223 (by decide +kernel) (by decide +kernel)
theorem zw1224 : (.methodLink "ScrubwardLaw" 206 ⟨"ScrubwardLaw", "wouldLeak", "(LScrubward;ILScrubwardLaw$Out;)I"⟩ : Jvm.Cond) ∈ zB := zb 1224 (by decide +kernel) (by decide +kernel)
theorem zw1225 : (.static ⟨"ScrubwardLaw", "wouldLeak", "(LScrubward;ILScrubwardLaw$Out;)I"⟩ : Jvm.Cond) ∈ zB := zb 1225 (by decide +kernel) (by decide +kernel)
theorem zw1226 : (.codeWith ⟨"ScrubwardLaw", "wouldLeak", "(LScrubward;ILScrubwardLaw$Out;)I"⟩ method_26_code 4 (Option.some Jvm.ClassFile.FieldType.int) [(0, 10, 13, 19)] : Jvm.Cond) ∈ zB := zb 1226 (by decide +kernel) (by decide +kernel)
theorem zw1227 : (.methodLink "ScrubwardLaw" 109 ⟨"Scrubward", "wouldLeak", "(I)I"⟩ : Jvm.Cond) ∈ zB := zb 1227 (by decide +kernel) (by decide +kernel)
theorem zw1228 : (.classLink "ScrubwardLaw" 113 "ScrubwardModel" : Jvm.Cond) ∈ zB := zb 1228 (by decide +kernel) (by decide +kernel)
theorem zw1229 : (.instantiable "ScrubwardModel" 26 : Jvm.Cond) ∈ zB := zb 1229 (by decide +kernel) (by decide +kernel)
theorem zw1230 : (.methodLink "ScrubwardLaw" 115 ⟨"ScrubwardModel", "<init>", "()V"⟩ : Jvm.Cond) ∈ zB := zb 1230 (by decide +kernel) (by decide +kernel)
theorem zw1231 : (.instanceMethod ⟨"ScrubwardModel", "<init>", "()V"⟩ : Jvm.Cond) ∈ zB := zb 1231 (by decide +kernel) (by decide +kernel)
theorem zw1232 : (.code ⟨"ScrubwardModel", "<init>", "()V"⟩ prog_9_method_1_code 3 (Option.none : Option Jvm.ClassFile.FieldType) : Jvm.Cond) ∈ zB := zb 1232 (by decide +kernel) (by decide +kernel)
theorem zw1233 : (.methodLink "ScrubwardModel" 1 ⟨"java/lang/Object", "<init>", "()V"⟩ : Jvm.Cond) ∈ zB := zb 1233 (by decide +kernel) (by decide +kernel)
theorem zw1236 : (.classLink "ScrubwardModel" 53 "java/util/ArrayList" : Jvm.Cond) ∈ zB := zb 1236 (by decide +kernel) (by decide +kernel)
theorem zw1237 : (.instantiable "java/util/ArrayList" 3 : Jvm.Cond) ∈ zB := zb 1237 (by decide +kernel) (by decide +kernel)
theorem zw1238 : (.methodLink "ScrubwardModel" 55 ⟨"java/util/ArrayList", "<init>", "()V"⟩ : Jvm.Cond) ∈ zB := zb 1238 (by decide +kernel) (by decide +kernel)
theorem zw1239 : (.instanceMethod ⟨"java/util/ArrayList", "<init>", "()V"⟩ : Jvm.Cond) ∈ zB := zb 1239 (by decide +kernel) (by decide +kernel)
theorem zw1240 : (.code ⟨"java/util/ArrayList", "<init>", "()V"⟩ prog_35_method_2_code 1 (Option.none : Option Jvm.ClassFile.FieldType) : Jvm.Cond) ∈ zB := zb 1240 (by decide +kernel) (by decide +kernel)
theorem zw1241 : (.methodLink "java/util/ArrayList" 1 ⟨"java/util/AbstractList", "<init>", "()V"⟩ : Jvm.Cond) ∈ zB := zb 1241 (by decide +kernel) (by decide +kernel)
theorem zw1242 : (.instanceMethod ⟨"java/util/AbstractList", "<init>", "()V"⟩ : Jvm.Cond) ∈ zB := zb 1242 (by decide +kernel) (by decide +kernel)
theorem zw1243 : (.code ⟨"java/util/AbstractList", "<init>", "()V"⟩ prog_34_method_1_code 1 (Option.none : Option Jvm.ClassFile.FieldType) : Jvm.Cond) ∈ zB := zb 1243 (by decide +kernel) (by decide +kernel)
theorem zw1244 : (.methodLink "java/util/AbstractList" 1 ⟨"java/util/AbstractCollection", "<init>", "()V"⟩ : Jvm.Cond) ∈ zB := zb 1244 (by decide +kernel) (by decide +kernel)
theorem zw1245 : (.instanceMethod ⟨"java/util/AbstractCollection", "<init>", "()V"⟩ : Jvm.Cond) ∈ zB := zb 1245 (by decide +kernel) (by decide +kernel)
theorem zw1246 : (.code ⟨"java/util/AbstractCollection", "<init>", "()V"⟩ prog_33_method_1_code 1 (Option.none : Option Jvm.ClassFile.FieldType) : Jvm.Cond) ∈ zB := zb 1246 (by decide +kernel) (by decide +kernel)
theorem zw1247 : (.methodLink "java/util/AbstractCollection" 1 ⟨"java/lang/Object", "<init>", "()V"⟩ : Jvm.Cond) ∈ zB := zb 1247 (by decide +kernel) (by decide +kernel)
theorem zw1250 : (.fieldLink "java/util/ArrayList" 9 "java/util/ArrayList" "elementData" "[Ljava/lang/Object;" : Jvm.Cond) ∈ zB := zb 1250 (by decide +kernel) (by decide +kernel)
theorem zw1251 : (.fieldLink "java/util/ArrayList" 48 "java/util/ArrayList" "size" "I" : Jvm.Cond) ∈ zB := zb 1251 (by decide +kernel) (by decide +kernel)
theorem zw1252 : (.fieldLink "java/util/AbstractList" 7 "java/util/AbstractList" "modCount" "I" : Jvm.Cond) ∈ zB := zb 1252 (by decide +kernel) (by decide +kernel)
theorem zw1253 : (.fieldLink "java/util/ArrayList" 63 "java/util/ArrayList" "modCount" "I" : Jvm.Cond) ∈ zB := zb 1253 (by decide +kernel) (by decide +kernel)
theorem zw1254 : (.sameField "java/util/ArrayList" "java/util/AbstractList" "modCount" "I" : Jvm.Cond) ∈ zB := zb 1254 (by decide +kernel) (by decide +kernel)
theorem zw1255 : (.lays "java/util/ArrayList" "java/util/ArrayList" "elementData" "[Ljava/lang/Object;" : Jvm.Cond) ∈ zB := zb 1255 (by decide +kernel) (by decide +kernel)
theorem zw1257 : (.lays "java/util/ArrayList" "java/util/ArrayList" "size" "I" : Jvm.Cond) ∈ zB := zb 1257 (by decide +kernel) (by decide +kernel)
theorem zw1259 : (.lays "java/util/ArrayList" "java/util/AbstractList" "modCount" "I" : Jvm.Cond) ∈ zB := zb 1259 (by decide +kernel) (by decide +kernel)
theorem zw1262 : (.arrayClass Jvm.ClassFile.FieldType.boolean : Jvm.Cond) ∈ zB := zb 1262 (by decide +kernel) (by decide +kernel)
theorem zw1263 : (.methodLink "ScrubwardModel" 66 ⟨"ScrubwardModel", "columnsOf", "(II)[I"⟩ : Jvm.Cond) ∈ zB := zb 1263 (by decide +kernel) (by decide +kernel)
theorem zw1264 : (.static ⟨"ScrubwardModel", "columnsOf", "(II)[I"⟩ : Jvm.Cond) ∈ zB := zb 1264 (by decide +kernel) (by decide +kernel)
theorem zw1265 : (.code ⟨"ScrubwardModel", "columnsOf", "(II)[I"⟩ prog_9_method_8_code 6 (Option.some (Jvm.ClassFile.FieldType.array Jvm.ClassFile.FieldType.int)) : Jvm.Cond) ∈ zB := zb 1265 (by decide +kernel) (by decide +kernel)
theorem zw1266 : (.methodLink "ScrubwardModel" 73 ⟨"ScrubwardModel", "weight", "(I)I"⟩ : Jvm.Cond) ∈ zB := zb 1266 (by decide +kernel) (by decide +kernel)
theorem zw1267 : (.static ⟨"ScrubwardModel", "weight", "(I)I"⟩ : Jvm.Cond) ∈ zB := zb 1267 (by decide +kernel) (by decide +kernel)
theorem zw1268 : (.code ⟨"ScrubwardModel", "weight", "(I)I"⟩ prog_9_method_6_code 3 (Option.some Jvm.ClassFile.FieldType.int) : Jvm.Cond) ∈ zB := zb 1268 (by decide +kernel) (by decide +kernel)
theorem zw1269 : (.fieldLink "ScrubwardModel" 70 "ScrubwardModel" "thrown" "I" : Jvm.Cond) ∈ zB := zb 1269 (by decide +kernel) (by decide +kernel)
theorem zw1270 : (.fieldLink "ScrubwardModel" 7 "ScrubwardModel" "data" "I" : Jvm.Cond) ∈ zB := zb 1270 (by decide +kernel) (by decide +kernel)
theorem zw1271 : (.fieldLink "ScrubwardModel" 13 "ScrubwardModel" "checks" "I" : Jvm.Cond) ∈ zB := zb 1271 (by decide +kernel) (by decide +kernel)
theorem zw1272 : (.fieldLink "ScrubwardModel" 16 "ScrubwardModel" "columns" "[I" : Jvm.Cond) ∈ zB := zb 1272 (by decide +kernel) (by decide +kernel)
theorem zw1273 : (.fieldLink "ScrubwardModel" 114 "ScrubwardModel" "tick" "I" : Jvm.Cond) ∈ zB := zb 1273 (by decide +kernel) (by decide +kernel)
theorem zw1274 : (.fieldLink "ScrubwardModel" 20 "ScrubwardModel" "period" "I" : Jvm.Cond) ∈ zB := zb 1274 (by decide +kernel) (by decide +kernel)
theorem zw1275 : (.fieldLink "ScrubwardModel" 23 "ScrubwardModel" "limit" "I" : Jvm.Cond) ∈ zB := zb 1275 (by decide +kernel) (by decide +kernel)
theorem zw1276 : (.fieldLink "ScrubwardModel" 170 "ScrubwardModel" "steps" "I" : Jvm.Cond) ∈ zB := zb 1276 (by decide +kernel) (by decide +kernel)
theorem zw1277 : (.fieldLink "ScrubwardModel" 154 "ScrubwardModel" "isDemand" "Z" : Jvm.Cond) ∈ zB := zb 1277 (by decide +kernel) (by decide +kernel)
theorem zw1278 : (.fieldLink "ScrubwardModel" 167 "ScrubwardModel" "isMirrored" "Z" : Jvm.Cond) ∈ zB := zb 1278 (by decide +kernel) (by decide +kernel)
theorem zw1279 : (.fieldLink "ScrubwardModel" 173 "ScrubwardModel" "stands" "I" : Jvm.Cond) ∈ zB := zb 1279 (by decide +kernel) (by decide +kernel)
theorem zw1280 : (.fieldLink "ScrubwardModel" 26 "ScrubwardModel" "row" "I" : Jvm.Cond) ∈ zB := zb 1280 (by decide +kernel) (by decide +kernel)
theorem zw1281 : (.fieldLink "ScrubwardModel" 111 "ScrubwardModel" "drawn" "I" : Jvm.Cond) ∈ zB := zb 1281 (by decide +kernel) (by decide +kernel)
theorem zw1282 : (.fieldLink "ScrubwardModel" 204 "ScrubwardModel" "refused" "I" : Jvm.Cond) ∈ zB := zb 1282 (by decide +kernel) (by decide +kernel)
theorem zw1283 : (.fieldLink "ScrubwardModel" 127 "ScrubwardModel" "mendings" "I" : Jvm.Cond) ∈ zB := zb 1283 (by decide +kernel) (by decide +kernel)
theorem zw1284 : (.fieldLink "ScrubwardModel" 130 "ScrubwardModel" "bads" "I" : Jvm.Cond) ∈ zB := zb 1284 (by decide +kernel) (by decide +kernel)
theorem zw1285 : (.fieldLink "ScrubwardModel" 31 "ScrubwardModel" "words" "[[I" : Jvm.Cond) ∈ zB := zb 1285 (by decide +kernel) (by decide +kernel)
theorem zw1286 : (.fieldLink "ScrubwardModel" 34 "ScrubwardModel" "counts" "[I" : Jvm.Cond) ∈ zB := zb 1286 (by decide +kernel) (by decide +kernel)
theorem zw1287 : (.fieldLink "ScrubwardModel" 37 "ScrubwardModel" "since" "[I" : Jvm.Cond) ∈ zB := zb 1287 (by decide +kernel) (by decide +kernel)
theorem zw1288 : (.fieldLink "ScrubwardModel" 40 "ScrubwardModel" "lines" "[I" : Jvm.Cond) ∈ zB := zb 1288 (by decide +kernel) (by decide +kernel)
theorem zw1289 : (.fieldLink "ScrubwardModel" 43 "ScrubwardModel" "spared" "[I" : Jvm.Cond) ∈ zB := zb 1289 (by decide +kernel) (by decide +kernel)
theorem zw1290 : (.fieldLink "ScrubwardModel" 46 "ScrubwardModel" "isPoisoned" "[Z" : Jvm.Cond) ∈ zB := zb 1290 (by decide +kernel) (by decide +kernel)
theorem zw1291 : (.fieldLink "ScrubwardModel" 50 "ScrubwardModel" "isRetired" "[Z" : Jvm.Cond) ∈ zB := zb 1291 (by decide +kernel) (by decide +kernel)
theorem zw1292 : (.fieldLink "ScrubwardModel" 56 "ScrubwardModel" "stuck" "Ljava/util/List;" : Jvm.Cond) ∈ zB := zb 1292 (by decide +kernel) (by decide +kernel)
theorem zw1293 : (.fieldLink "ScrubwardModel" 60 "ScrubwardModel" "weak" "Ljava/util/List;" : Jvm.Cond) ∈ zB := zb 1293 (by decide +kernel) (by decide +kernel)
theorem zw1294 : (.fieldLink "ScrubwardModel" 63 "ScrubwardModel" "log" "Ljava/util/List;" : Jvm.Cond) ∈ zB := zb 1294 (by decide +kernel) (by decide +kernel)
theorem zw1295 : (.lays "ScrubwardModel" "ScrubwardModel" "thrown" "I" : Jvm.Cond) ∈ zB := zb 1295 (by decide +kernel) (by decide +kernel)
theorem zw1297 : (.lays "ScrubwardModel" "ScrubwardModel" "data" "I" : Jvm.Cond) ∈ zB := zb 1297 (by decide +kernel) (by decide +kernel)
theorem zw1299 : (.lays "ScrubwardModel" "ScrubwardModel" "checks" "I" : Jvm.Cond) ∈ zB := zb 1299 (by decide +kernel) (by decide +kernel)
theorem zw1301 : (.lays "ScrubwardModel" "ScrubwardModel" "columns" "[I" : Jvm.Cond) ∈ zB := zb 1301 (by decide +kernel) (by decide +kernel)
theorem zw1303 : (.lays "ScrubwardModel" "ScrubwardModel" "tick" "I" : Jvm.Cond) ∈ zB := zb 1303 (by decide +kernel) (by decide +kernel)
theorem zw1305 : (.lays "ScrubwardModel" "ScrubwardModel" "period" "I" : Jvm.Cond) ∈ zB := zb 1305 (by decide +kernel) (by decide +kernel)
theorem zw1307 : (.lays "ScrubwardModel" "ScrubwardModel" "limit" "I" : Jvm.Cond) ∈ zB := zb 1307 (by decide +kernel) (by decide +kernel)
theorem zw1309 : (.lays "ScrubwardModel" "ScrubwardModel" "steps" "I" : Jvm.Cond) ∈ zB := zb 1309 (by decide +kernel) (by decide +kernel)
theorem zw1311 : (.lays "ScrubwardModel" "ScrubwardModel" "isDemand" "Z" : Jvm.Cond) ∈ zB := zb 1311 (by decide +kernel) (by decide +kernel)
theorem zw1313 : (.lays "ScrubwardModel" "ScrubwardModel" "isMirrored" "Z" : Jvm.Cond) ∈ zB := zb 1313 (by decide +kernel) (by decide +kernel)
theorem zw1315 : (.lays "ScrubwardModel" "ScrubwardModel" "stands" "I" : Jvm.Cond) ∈ zB := zb 1315 (by decide +kernel) (by decide +kernel)
theorem zw1317 : (.lays "ScrubwardModel" "ScrubwardModel" "row" "I" : Jvm.Cond) ∈ zB := zb 1317 (by decide +kernel) (by decide +kernel)
theorem zw1319 : (.lays "ScrubwardModel" "ScrubwardModel" "drawn" "I" : Jvm.Cond) ∈ zB := zb 1319 (by decide +kernel) (by decide +kernel)
theorem zw1321 : (.lays "ScrubwardModel" "ScrubwardModel" "refused" "I" : Jvm.Cond) ∈ zB := zb 1321 (by decide +kernel) (by decide +kernel)
theorem zw1323 : (.lays "ScrubwardModel" "ScrubwardModel" "mendings" "I" : Jvm.Cond) ∈ zB := zb 1323 (by decide +kernel) (by decide +kernel)
theorem zw1325 : (.lays "ScrubwardModel" "ScrubwardModel" "bads" "I" : Jvm.Cond) ∈ zB := zb 1325 (by decide +kernel) (by decide +kernel)
theorem zw1327 : (.laysFinal "ScrubwardModel" "ScrubwardModel" "words" "[[I" : Jvm.Cond) ∈ zB := zb 1327 (by decide +kernel) (by decide +kernel)
theorem zw1329 : (.laysFinal "ScrubwardModel" "ScrubwardModel" "counts" "[I" : Jvm.Cond) ∈ zB := zb 1329 (by decide +kernel) (by decide +kernel)
theorem zw1331 : (.laysFinal "ScrubwardModel" "ScrubwardModel" "since" "[I" : Jvm.Cond) ∈ zB := zb 1331 (by decide +kernel) (by decide +kernel)
theorem zw1333 : (.laysFinal "ScrubwardModel" "ScrubwardModel" "lines" "[I" : Jvm.Cond) ∈ zB := zb 1333 (by decide +kernel) (by decide +kernel)
theorem zw1335 : (.laysFinal "ScrubwardModel" "ScrubwardModel" "spared" "[I" : Jvm.Cond) ∈ zB := zb 1335 (by decide +kernel) (by decide +kernel)
theorem zw1337 : (.laysFinal "ScrubwardModel" "ScrubwardModel" "isPoisoned" "[Z" : Jvm.Cond) ∈ zB := zb 1337 (by decide +kernel) (by decide +kernel)
theorem zw1339 : (.laysFinal "ScrubwardModel" "ScrubwardModel" "isRetired" "[Z" : Jvm.Cond) ∈ zB := zb 1339 (by decide +kernel) (by decide +kernel)
theorem zw1341 : (.lays "ScrubwardModel" "ScrubwardModel" "stuck" "Ljava/util/List;" : Jvm.Cond) ∈ zB := zb 1341 (by decide +kernel) (by decide +kernel)
theorem zw1343 : (.lays "ScrubwardModel" "ScrubwardModel" "weak" "Ljava/util/List;" : Jvm.Cond) ∈ zB := zb 1343 (by decide +kernel) (by decide +kernel)
theorem zw1345 : (.lays "ScrubwardModel" "ScrubwardModel" "log" "Ljava/util/List;" : Jvm.Cond) ∈ zB := zb 1345 (by decide +kernel) (by decide +kernel)
theorem zw1348 : (.methodLink "ScrubwardLaw" 122 ⟨"ScrubwardModel", "code", "(II)I"⟩ : Jvm.Cond) ∈ zB := zb 1348 (by decide +kernel) (by decide +kernel)
theorem zw1349 : (.instanceMethod ⟨"ScrubwardModel", "code", "(II)I"⟩ : Jvm.Cond) ∈ zB := zb 1349 (by decide +kernel) (by decide +kernel)
theorem zw1350 : (.selects "ScrubwardModel" ⟨"ScrubwardModel", "code", "(II)I"⟩ ⟨"ScrubwardModel", "code", "(II)I"⟩ : Jvm.Cond) ∈ zB := zb 1350 (by decide +kernel) (by decide +kernel)
theorem zw1351 : (.code ⟨"ScrubwardModel", "code", "(II)I"⟩ prog_9_method_31_code 7 (Option.some Jvm.ClassFile.FieldType.int) : Jvm.Cond) ∈ zB := zb 1351 (by decide +kernel) (by decide +kernel)
theorem zw1352 : (.methodLink "ScrubwardModel" 117 ⟨"ScrubwardModel", "in", "(III)Z"⟩ : Jvm.Cond) ∈ zB := zb 1352 (by decide +kernel) (by decide +kernel)
theorem zw1353 : (.static ⟨"ScrubwardModel", "in", "(III)Z"⟩ : Jvm.Cond) ∈ zB := zb 1353 (by decide +kernel) (by decide +kernel)
theorem zw1354 : (.code ⟨"ScrubwardModel", "in", "(III)Z"⟩ prog_9_method_4_code 3 (Option.some Jvm.ClassFile.FieldType.boolean) : Jvm.Cond) ∈ zB := zb 1354 (by decide +kernel) (by decide +kernel)
theorem zw1355 : (.methodLink "ScrubwardModel" 182 ⟨"ScrubwardModel", "dataColumns", "(I)I"⟩ : Jvm.Cond) ∈ zB := zb 1355 (by decide +kernel) (by decide +kernel)
theorem zw1356 : (.static ⟨"ScrubwardModel", "dataColumns", "(I)I"⟩ : Jvm.Cond) ∈ zB := zb 1356 (by decide +kernel) (by decide +kernel)
theorem zw1357 : (.code ⟨"ScrubwardModel", "dataColumns", "(I)I"⟩ prog_9_method_7_code 3 (Option.some Jvm.ClassFile.FieldType.int) : Jvm.Cond) ∈ zB := zb 1357 (by decide +kernel) (by decide +kernel)
theorem zw1358 : (.methodLink "ScrubwardModel" 185 ⟨"ScrubwardModel", "no", "(I)I"⟩ : Jvm.Cond) ∈ zB := zb 1358 (by decide +kernel) (by decide +kernel)
theorem zw1360 : (.instanceMethod ⟨"ScrubwardModel", "no", "(I)I"⟩ : Jvm.Cond) ∈ zB := zb 1360 (by decide +kernel) (by decide +kernel)
theorem zw1361 : (.code ⟨"ScrubwardModel", "no", "(I)I"⟩ prog_9_method_3_code 2 (Option.some Jvm.ClassFile.FieldType.int) : Jvm.Cond) ∈ zB := zb 1361 (by decide +kernel) (by decide +kernel)
theorem zw1371 : (.code ⟨"java/util/ArrayList", "size", "()I"⟩ prog_35_method_8_code 1 (Option.some Jvm.ClassFile.FieldType.int) : Jvm.Cond) ∈ zB := zb 1371 (by decide +kernel) (by decide +kernel)
theorem zw1380 : (.code ⟨"java/util/ArrayList", "get", "(I)Ljava/lang/Object;"⟩ prog_35_method_20_code 2 (Option.some (Jvm.ClassFile.FieldType.object "java/lang/Object")) : Jvm.Cond) ∈ zB := zb 1380 (by decide +kernel) (by decide +kernel)
theorem zw1381 : (.methodLink "java/util/ArrayList" 118 ⟨"java/util/Objects", "checkIndex", "(II)I"⟩ : Jvm.Cond) ∈ zB := zb 1381 (by decide +kernel) (by decide +kernel)
theorem zw1382 : (.static ⟨"java/util/Objects", "checkIndex", "(II)I"⟩ : Jvm.Cond) ∈ zB := zb 1382 (by decide +kernel) (by decide +kernel)
theorem zw1383 : (.code ⟨"java/util/Objects", "checkIndex", "(II)I"⟩ prog_39_method_17_code 2 (Option.some Jvm.ClassFile.FieldType.int) : Jvm.Cond) ∈ zB := zb 1383 (by decide +kernel) (by decide +kernel)
theorem zw1384 : (.methodLink "java/util/Objects" 105 ⟨"jdk/internal/util/Preconditions", "checkIndex", "(IILjava/util/function/BiFunction;)I"⟩ : Jvm.Cond) ∈ zB := zb 1384 (by decide +kernel) (by decide +kernel)
theorem zw1385 : (.methodLink "java/util/ArrayList" 123 ⟨"java/util/ArrayList", "elementData", "(I)Ljava/lang/Object;"⟩ : Jvm.Cond) ∈ zB := zb 1385 (by decide +kernel) (by decide +kernel)
theorem zw1386 : (.instanceMethod ⟨"java/util/ArrayList", "elementData", "(I)Ljava/lang/Object;"⟩ : Jvm.Cond) ∈ zB := zb 1386 (by decide +kernel) (by decide +kernel)
theorem zw1387 : (.selects "java/util/ArrayList" ⟨"java/util/ArrayList", "elementData", "(I)Ljava/lang/Object;"⟩ ⟨"java/util/ArrayList", "elementData", "(I)Ljava/lang/Object;"⟩ : Jvm.Cond) ∈ zB := zb 1387 (by decide +kernel) (by decide +kernel)
theorem zw1388 : (.code ⟨"java/util/ArrayList", "elementData", "(I)Ljava/lang/Object;"⟩ prog_35_method_18_code 2 (Option.some (Jvm.ClassFile.FieldType.object "java/lang/Object")) : Jvm.Cond) ∈ zB := zb 1388 (by decide +kernel) (by decide +kernel)
theorem zw1398 : (.code ⟨"java/util/ArrayList", "add", "(Ljava/lang/Object;)Z"⟩ prog_35_method_25_code 2 (Option.some Jvm.ClassFile.FieldType.boolean) : Jvm.Cond) ∈ zB := zb 1398 (by decide +kernel) (by decide +kernel)
theorem zw1399 : (.methodLink "java/util/ArrayList" 131 ⟨"java/util/ArrayList", "add", "(Ljava/lang/Object;[Ljava/lang/Object;I)V"⟩ : Jvm.Cond) ∈ zB := zb 1399 (by decide +kernel) (by decide +kernel)
theorem zw1401 : (.instanceMethod ⟨"java/util/ArrayList", "add", "(Ljava/lang/Object;[Ljava/lang/Object;I)V"⟩ : Jvm.Cond) ∈ zB := zb 1401 (by decide +kernel) (by decide +kernel)
theorem zw1402 : (.code ⟨"java/util/ArrayList", "add", "(Ljava/lang/Object;[Ljava/lang/Object;I)V"⟩ prog_35_method_24_code 4 (Option.none : Option Jvm.ClassFile.FieldType) : Jvm.Cond) ∈ zB := zb 1402 (by decide +kernel) (by decide +kernel)
theorem zw1403 : (.methodLink "java/util/ArrayList" 129 ⟨"java/util/ArrayList", "grow", "()[Ljava/lang/Object;"⟩ : Jvm.Cond) ∈ zB := zb 1403 (by decide +kernel) (by decide +kernel)
theorem zw1405 : (.instanceMethod ⟨"java/util/ArrayList", "grow", "()[Ljava/lang/Object;"⟩ : Jvm.Cond) ∈ zB := zb 1405 (by decide +kernel) (by decide +kernel)
theorem zw1406 : (.code ⟨"java/util/ArrayList", "grow", "()[Ljava/lang/Object;"⟩ prog_35_method_7_code 1 (Option.some (Jvm.ClassFile.FieldType.array (Jvm.ClassFile.FieldType.object "java/lang/Object"))) : Jvm.Cond) ∈ zB := zb 1406 (by decide +kernel) (by decide +kernel)
theorem zw1407 : (.methodLink "java/util/ArrayList" 69 ⟨"java/util/ArrayList", "grow", "(I)[Ljava/lang/Object;"⟩ : Jvm.Cond) ∈ zB := zb 1407 (by decide +kernel) (by decide +kernel)
theorem zw1409 : (.instanceMethod ⟨"java/util/ArrayList", "grow", "(I)[Ljava/lang/Object;"⟩ : Jvm.Cond) ∈ zB := zb 1409 (by decide +kernel) (by decide +kernel)
theorem zw1410 : (.code ⟨"java/util/ArrayList", "grow", "(I)[Ljava/lang/Object;"⟩ prog_35_method_6_code 4 (Option.some (Jvm.ClassFile.FieldType.array (Jvm.ClassFile.FieldType.object "java/lang/Object"))) : Jvm.Cond) ∈ zB := zb 1410 (by decide +kernel) (by decide +kernel)
theorem zw1411 : (.methodLink "java/util/ArrayList" 73 ⟨"jdk/internal/util/ArraysSupport", "newLength", "(III)I"⟩ : Jvm.Cond) ∈ zB := zb 1411 (by decide +kernel) (by decide +kernel)
theorem zw1412 : (.methodLink "java/util/ArrayList" 66 ⟨"java/util/Arrays", "copyOf", "([Ljava/lang/Object;I)[Ljava/lang/Object;"⟩ : Jvm.Cond) ∈ zB := zb 1412 (by decide +kernel) (by decide +kernel)
theorem zw1413 : (.static ⟨"java/util/Arrays", "copyOf", "([Ljava/lang/Object;I)[Ljava/lang/Object;"⟩ : Jvm.Cond) ∈ zB := zb 1413 (by decide +kernel) (by decide +kernel)
theorem zw1414 : (.code ⟨"java/util/Arrays", "copyOf", "([Ljava/lang/Object;I)[Ljava/lang/Object;"⟩ prog_36_method_119_code 2 (Option.some (Jvm.ClassFile.FieldType.array (Jvm.ClassFile.FieldType.object "java/lang/Object"))) : Jvm.Cond) ∈ zB := zb 1414 (by decide +kernel) (by decide +kernel)
theorem zw1433 : (.methodLink "java/util/Arrays" 300 ⟨"java/util/Arrays", "copyOf", "([Ljava/lang/Object;ILjava/lang/Class;)[Ljava/lang/Object;"⟩ : Jvm.Cond) ∈ zB := zb 1433 (by decide +kernel) (by decide +kernel)
theorem zw1434 : (.static ⟨"java/util/Arrays", "copyOf", "([Ljava/lang/Object;ILjava/lang/Class;)[Ljava/lang/Object;"⟩ : Jvm.Cond) ∈ zB := zb 1434 (by decide +kernel) (by decide +kernel)
theorem zw1435 : (.code ⟨"java/util/Arrays", "copyOf", "([Ljava/lang/Object;ILjava/lang/Class;)[Ljava/lang/Object;"⟩ prog_36_method_120_code 4 (Option.some (Jvm.ClassFile.FieldType.array (Jvm.ClassFile.FieldType.object "java/lang/Object"))) : Jvm.Cond) ∈ zB := zb 1435 (by decide +kernel) (by decide +kernel)
theorem zw1439 : (.methodLink "java/util/ArrayList" 79 ⟨"java/lang/Math", "max", "(II)I"⟩ : Jvm.Cond) ∈ zB := zb 1439 (by decide +kernel) (by decide +kernel)
theorem zw1441 : (.methodLink "ScrubwardModel" 107 ⟨"ScrubwardModel", "put", "(III)V"⟩ : Jvm.Cond) ∈ zB := zb 1441 (by decide +kernel) (by decide +kernel)
theorem zw1443 : (.instanceMethod ⟨"ScrubwardModel", "put", "(III)V"⟩ : Jvm.Cond) ∈ zB := zb 1443 (by decide +kernel) (by decide +kernel)
theorem zw1444 : (.code ⟨"ScrubwardModel", "put", "(III)V"⟩ prog_9_method_18_code 7 (Option.none : Option Jvm.ClassFile.FieldType) : Jvm.Cond) ∈ zB := zb 1444 (by decide +kernel) (by decide +kernel)
theorem zw1445 : (.methodLink "ScrubwardModel" 124 ⟨"ScrubwardModel", "bits", "()I"⟩ : Jvm.Cond) ∈ zB := zb 1445 (by decide +kernel) (by decide +kernel)
theorem zw1447 : (.instanceMethod ⟨"ScrubwardModel", "bits", "()I"⟩ : Jvm.Cond) ∈ zB := zb 1447 (by decide +kernel) (by decide +kernel)
theorem zw1448 : (.code ⟨"ScrubwardModel", "bits", "()I"⟩ prog_9_method_9_code 1 (Option.some Jvm.ClassFile.FieldType.int) : Jvm.Cond) ∈ zB := zb 1448 (by decide +kernel) (by decide +kernel)
theorem zw1449 : (.methodLink "ScrubwardLaw" 125 ⟨"ScrubwardModel", "write", "(II)I"⟩ : Jvm.Cond) ∈ zB := zb 1449 (by decide +kernel) (by decide +kernel)
theorem zw1450 : (.instanceMethod ⟨"ScrubwardModel", "write", "(II)I"⟩ : Jvm.Cond) ∈ zB := zb 1450 (by decide +kernel) (by decide +kernel)
theorem zw1451 : (.selects "ScrubwardModel" ⟨"ScrubwardModel", "write", "(II)I"⟩ ⟨"ScrubwardModel", "write", "(II)I"⟩ : Jvm.Cond) ∈ zB := zb 1451 (by decide +kernel) (by decide +kernel)
theorem zw1452 : (.code ⟨"ScrubwardModel", "write", "(II)I"⟩ prog_9_method_32_code 3 (Option.some Jvm.ClassFile.FieldType.int) : Jvm.Cond) ∈ zB := zb 1452 (by decide +kernel) (by decide +kernel)
theorem zw1453 : (.methodLink "ScrubwardModel" 188 ⟨"ScrubwardModel", "isAddress", "(I)Z"⟩ : Jvm.Cond) ∈ zB := zb 1453 (by decide +kernel) (by decide +kernel)
theorem zw1454 : (.static ⟨"ScrubwardModel", "isAddress", "(I)Z"⟩ : Jvm.Cond) ∈ zB := zb 1454 (by decide +kernel) (by decide +kernel)
theorem zw1455 : (.code ⟨"ScrubwardModel", "isAddress", "(I)Z"⟩ prog_9_method_30_code 1 (Option.some Jvm.ClassFile.FieldType.boolean) : Jvm.Cond) ∈ zB := zb 1455 (by decide +kernel) (by decide +kernel)
theorem zw1456 : (.methodLink "ScrubwardModel" 192 ⟨"ScrubwardModel", "writeAt", "(II)V"⟩ : Jvm.Cond) ∈ zB := zb 1456 (by decide +kernel) (by decide +kernel)
theorem zw1458 : (.instanceMethod ⟨"ScrubwardModel", "writeAt", "(II)V"⟩ : Jvm.Cond) ∈ zB := zb 1458 (by decide +kernel) (by decide +kernel)
theorem zw1459 : (.code ⟨"ScrubwardModel", "writeAt", "(II)V"⟩ prog_9_method_24_code 3 (Option.none : Option Jvm.ClassFile.FieldType) : Jvm.Cond) ∈ zB := zb 1459 (by decide +kernel) (by decide +kernel)
theorem zw1460 : (.methodLink "ScrubwardModel" 93 ⟨"ScrubwardModel", "lineOf", "(I)I"⟩ : Jvm.Cond) ∈ zB := zb 1460 (by decide +kernel) (by decide +kernel)
theorem zw1462 : (.instanceMethod ⟨"ScrubwardModel", "lineOf", "(I)I"⟩ : Jvm.Cond) ∈ zB := zb 1462 (by decide +kernel) (by decide +kernel)
theorem zw1463 : (.code ⟨"ScrubwardModel", "lineOf", "(I)I"⟩ prog_9_method_16_code 2 (Option.some Jvm.ClassFile.FieldType.int) : Jvm.Cond) ∈ zB := zb 1463 (by decide +kernel) (by decide +kernel)
theorem zw1464 : (.methodLink "ScrubwardModel" 137 ⟨"ScrubwardModel", "open", "(I)V"⟩ : Jvm.Cond) ∈ zB := zb 1464 (by decide +kernel) (by decide +kernel)
theorem zw1466 : (.instanceMethod ⟨"ScrubwardModel", "open", "(I)V"⟩ : Jvm.Cond) ∈ zB := zb 1466 (by decide +kernel) (by decide +kernel)
theorem zw1467 : (.code ⟨"ScrubwardModel", "open", "(I)V"⟩ prog_9_method_21_code 4 (Option.none : Option Jvm.ClassFile.FieldType) : Jvm.Cond) ∈ zB := zb 1467 (by decide +kernel) (by decide +kernel)
theorem zw1468 : (.methodLink "ScrubwardModel" 121 ⟨"ScrubwardModel", "draw", "()I"⟩ : Jvm.Cond) ∈ zB := zb 1468 (by decide +kernel) (by decide +kernel)
theorem zw1470 : (.instanceMethod ⟨"ScrubwardModel", "draw", "()I"⟩ : Jvm.Cond) ∈ zB := zb 1470 (by decide +kernel) (by decide +kernel)
theorem zw1471 : (.code ⟨"ScrubwardModel", "draw", "()I"⟩ prog_9_method_20_code 1 (Option.some Jvm.ClassFile.FieldType.int) : Jvm.Cond) ∈ zB := zb 1471 (by decide +kernel) (by decide +kernel)
theorem zw1472 : (.methodLink "ScrubwardModel" 141 ⟨"ScrubwardModel", "encoded", "(I)I"⟩ : Jvm.Cond) ∈ zB := zb 1472 (by decide +kernel) (by decide +kernel)
theorem zw1474 : (.instanceMethod ⟨"ScrubwardModel", "encoded", "(I)I"⟩ : Jvm.Cond) ∈ zB := zb 1474 (by decide +kernel) (by decide +kernel)
theorem zw1475 : (.code ⟨"ScrubwardModel", "encoded", "(I)I"⟩ prog_9_method_11_code 2 (Option.some Jvm.ClassFile.FieldType.int) : Jvm.Cond) ∈ zB := zb 1475 (by decide +kernel) (by decide +kernel)
theorem zw1476 : (.methodLink "ScrubwardModel" 81 ⟨"ScrubwardModel", "syndrome", "(I)I"⟩ : Jvm.Cond) ∈ zB := zb 1476 (by decide +kernel) (by decide +kernel)
theorem zw1478 : (.instanceMethod ⟨"ScrubwardModel", "syndrome", "(I)I"⟩ : Jvm.Cond) ∈ zB := zb 1478 (by decide +kernel) (by decide +kernel)
theorem zw1479 : (.code ⟨"ScrubwardModel", "syndrome", "(I)I"⟩ prog_9_method_10_code 4 (Option.some Jvm.ClassFile.FieldType.int) : Jvm.Cond) ∈ zB := zb 1479 (by decide +kernel) (by decide +kernel)
theorem zw1480 : (.methodLink "ScrubwardModel" 77 ⟨"ScrubwardModel", "has", "(II)Z"⟩ : Jvm.Cond) ∈ zB := zb 1480 (by decide +kernel) (by decide +kernel)
theorem zw1481 : (.static ⟨"ScrubwardModel", "has", "(II)Z"⟩ : Jvm.Cond) ∈ zB := zb 1481 (by decide +kernel) (by decide +kernel)
theorem zw1482 : (.code ⟨"ScrubwardModel", "has", "(II)Z"⟩ prog_9_method_5_code 2 (Option.some Jvm.ClassFile.FieldType.boolean) : Jvm.Cond) ∈ zB := zb 1482 (by decide +kernel) (by decide +kernel)
theorem zw1483 : (.methodLink "ScrubwardModel" 144 ⟨"ScrubwardModel", "putAt", "(II)V"⟩ : Jvm.Cond) ∈ zB := zb 1483 (by decide +kernel) (by decide +kernel)
theorem zw1485 : (.instanceMethod ⟨"ScrubwardModel", "putAt", "(II)V"⟩ : Jvm.Cond) ∈ zB := zb 1485 (by decide +kernel) (by decide +kernel)
theorem zw1486 : (.code ⟨"ScrubwardModel", "putAt", "(II)V"⟩ prog_9_method_19_code 3 (Option.none : Option Jvm.ClassFile.FieldType) : Jvm.Cond) ∈ zB := zb 1486 (by decide +kernel) (by decide +kernel)
theorem zw1487 : (.methodLink "ScrubwardModel" 164 ⟨"ScrubwardModel", "mirror", "(I)I"⟩ : Jvm.Cond) ∈ zB := zb 1487 (by decide +kernel) (by decide +kernel)
theorem zw1488 : (.static ⟨"ScrubwardModel", "mirror", "(I)I"⟩ : Jvm.Cond) ∈ zB := zb 1488 (by decide +kernel) (by decide +kernel)
theorem zw1489 : (.code ⟨"ScrubwardModel", "mirror", "(I)I"⟩ prog_9_method_23_code 1 (Option.some Jvm.ClassFile.FieldType.int) : Jvm.Cond) ∈ zB := zb 1489 (by decide +kernel) (by decide +kernel)
theorem zw1490 : (.methodLink "ScrubwardModel" 148 ⟨"ScrubwardModel", "wordAt", "(I)I"⟩ : Jvm.Cond) ∈ zB := zb 1490 (by decide +kernel) (by decide +kernel)
theorem zw1492 : (.instanceMethod ⟨"ScrubwardModel", "wordAt", "(I)I"⟩ : Jvm.Cond) ∈ zB := zb 1492 (by decide +kernel) (by decide +kernel)
theorem zw1493 : (.code ⟨"ScrubwardModel", "wordAt", "(I)I"⟩ prog_9_method_17_code 2 (Option.some Jvm.ClassFile.FieldType.int) : Jvm.Cond) ∈ zB := zb 1493 (by decide +kernel) (by decide +kernel)
theorem zw1494 : (.methodLink "ScrubwardLaw" 129 ⟨"ScrubwardModel", "read", "(I)I"⟩ : Jvm.Cond) ∈ zB := zb 1494 (by decide +kernel) (by decide +kernel)
theorem zw1495 : (.instanceMethod ⟨"ScrubwardModel", "read", "(I)I"⟩ : Jvm.Cond) ∈ zB := zb 1495 (by decide +kernel) (by decide +kernel)
theorem zw1496 : (.selects "ScrubwardModel" ⟨"ScrubwardModel", "read", "(I)I"⟩ ⟨"ScrubwardModel", "read", "(I)I"⟩ : Jvm.Cond) ∈ zB := zb 1496 (by decide +kernel) (by decide +kernel)
theorem zw1497 : (.code ⟨"ScrubwardModel", "read", "(I)I"⟩ prog_9_method_33_code 2 (Option.some Jvm.ClassFile.FieldType.int) : Jvm.Cond) ∈ zB := zb 1497 (by decide +kernel) (by decide +kernel)
theorem zw1498 : (.methodLink "ScrubwardModel" 195 ⟨"ScrubwardModel", "readAt", "(I)I"⟩ : Jvm.Cond) ∈ zB := zb 1498 (by decide +kernel) (by decide +kernel)
theorem zw1500 : (.instanceMethod ⟨"ScrubwardModel", "readAt", "(I)I"⟩ : Jvm.Cond) ∈ zB := zb 1500 (by decide +kernel) (by decide +kernel)
theorem zw1501 : (.code ⟨"ScrubwardModel", "readAt", "(I)I"⟩ prog_9_method_26_code 4 (Option.some Jvm.ClassFile.FieldType.int) : Jvm.Cond) ∈ zB := zb 1501 (by decide +kernel) (by decide +kernel)
theorem zw1502 : (.methodLink "ScrubwardModel" 161 ⟨"ScrubwardModel", "take", "(I)I"⟩ : Jvm.Cond) ∈ zB := zb 1502 (by decide +kernel) (by decide +kernel)
theorem zw1504 : (.instanceMethod ⟨"ScrubwardModel", "take", "(I)I"⟩ : Jvm.Cond) ∈ zB := zb 1504 (by decide +kernel) (by decide +kernel)
theorem zw1505 : (.code ⟨"ScrubwardModel", "take", "(I)I"⟩ prog_9_method_25_code 4 (Option.some Jvm.ClassFile.FieldType.int) : Jvm.Cond) ∈ zB := zb 1505 (by decide +kernel) (by decide +kernel)
theorem zw1506 : (.methodLink "ScrubwardModel" 87 ⟨"ScrubwardModel", "kind", "(I)I"⟩ : Jvm.Cond) ∈ zB := zb 1506 (by decide +kernel) (by decide +kernel)
theorem zw1508 : (.instanceMethod ⟨"ScrubwardModel", "kind", "(I)I"⟩ : Jvm.Cond) ∈ zB := zb 1508 (by decide +kernel) (by decide +kernel)
theorem zw1509 : (.code ⟨"ScrubwardModel", "kind", "(I)I"⟩ prog_9_method_13_code 2 (Option.some Jvm.ClassFile.FieldType.int) : Jvm.Cond) ∈ zB := zb 1509 (by decide +kernel) (by decide +kernel)
theorem zw1510 : (.methodLink "ScrubwardModel" 84 ⟨"ScrubwardModel", "bitOf", "(I)I"⟩ : Jvm.Cond) ∈ zB := zb 1510 (by decide +kernel) (by decide +kernel)
theorem zw1512 : (.instanceMethod ⟨"ScrubwardModel", "bitOf", "(I)I"⟩ : Jvm.Cond) ∈ zB := zb 1512 (by decide +kernel) (by decide +kernel)
theorem zw1513 : (.code ⟨"ScrubwardModel", "bitOf", "(I)I"⟩ prog_9_method_12_code 4 (Option.some Jvm.ClassFile.FieldType.int) : Jvm.Cond) ∈ zB := zb 1513 (by decide +kernel) (by decide +kernel)
theorem zw1514 : (.methodLink "ScrubwardModel" 151 ⟨"ScrubwardModel", "note", "(II)V"⟩ : Jvm.Cond) ∈ zB := zb 1514 (by decide +kernel) (by decide +kernel)
theorem zw1516 : (.instanceMethod ⟨"ScrubwardModel", "note", "(II)V"⟩ : Jvm.Cond) ∈ zB := zb 1516 (by decide +kernel) (by decide +kernel)
theorem zw1517 : (.code ⟨"ScrubwardModel", "note", "(II)V"⟩ prog_9_method_22_code 3 (Option.none : Option Jvm.ClassFile.FieldType) : Jvm.Cond) ∈ zB := zb 1517 (by decide +kernel) (by decide +kernel)
theorem zw1518 : (.methodLink "ScrubwardModel" 90 ⟨"ScrubwardModel", "mended", "(I)I"⟩ : Jvm.Cond) ∈ zB := zb 1518 (by decide +kernel) (by decide +kernel)
theorem zw1520 : (.instanceMethod ⟨"ScrubwardModel", "mended", "(I)I"⟩ : Jvm.Cond) ∈ zB := zb 1520 (by decide +kernel) (by decide +kernel)
theorem zw1521 : (.code ⟨"ScrubwardModel", "mended", "(I)I"⟩ prog_9_method_14_code 2 (Option.some Jvm.ClassFile.FieldType.int) : Jvm.Cond) ∈ zB := zb 1521 (by decide +kernel) (by decide +kernel)
theorem zw1522 : (.methodLink "ScrubwardModel" 158 ⟨"ScrubwardModel", "dataOf", "(I)I"⟩ : Jvm.Cond) ∈ zB := zb 1522 (by decide +kernel) (by decide +kernel)
theorem zw1524 : (.instanceMethod ⟨"ScrubwardModel", "dataOf", "(I)I"⟩ : Jvm.Cond) ∈ zB := zb 1524 (by decide +kernel) (by decide +kernel)
theorem zw1525 : (.code ⟨"ScrubwardModel", "dataOf", "(I)I"⟩ prog_9_method_15_code 2 (Option.some Jvm.ClassFile.FieldType.int) : Jvm.Cond) ∈ zB := zb 1525 (by decide +kernel) (by decide +kernel)
theorem zw1526 : (.methodLink "ScrubwardLaw" 132 ⟨"ScrubwardModel", "ray", "(II)I"⟩ : Jvm.Cond) ∈ zB := zb 1526 (by decide +kernel) (by decide +kernel)
theorem zw1527 : (.instanceMethod ⟨"ScrubwardModel", "ray", "(II)I"⟩ : Jvm.Cond) ∈ zB := zb 1527 (by decide +kernel) (by decide +kernel)
theorem zw1528 : (.selects "ScrubwardModel" ⟨"ScrubwardModel", "ray", "(II)I"⟩ ⟨"ScrubwardModel", "ray", "(II)I"⟩ : Jvm.Cond) ∈ zB := zb 1528 (by decide +kernel) (by decide +kernel)
theorem zw1529 : (.code ⟨"ScrubwardModel", "ray", "(II)I"⟩ prog_9_method_34_code 3 (Option.some Jvm.ClassFile.FieldType.int) : Jvm.Cond) ∈ zB := zb 1529 (by decide +kernel) (by decide +kernel)
theorem zw1530 : (.methodLink "ScrubwardLaw" 136 ⟨"ScrubwardModel", "stick", "(IIZ)I"⟩ : Jvm.Cond) ∈ zB := zb 1530 (by decide +kernel) (by decide +kernel)
theorem zw1531 : (.instanceMethod ⟨"ScrubwardModel", "stick", "(IIZ)I"⟩ : Jvm.Cond) ∈ zB := zb 1531 (by decide +kernel) (by decide +kernel)
theorem zw1532 : (.selects "ScrubwardModel" ⟨"ScrubwardModel", "stick", "(IIZ)I"⟩ ⟨"ScrubwardModel", "stick", "(IIZ)I"⟩ : Jvm.Cond) ∈ zB := zb 1532 (by decide +kernel) (by decide +kernel)
theorem zw1533 : (.code ⟨"ScrubwardModel", "stick", "(IIZ)I"⟩ prog_9_method_35_code 4 (Option.some Jvm.ClassFile.FieldType.int) : Jvm.Cond) ∈ zB := zb 1533 (by decide +kernel) (by decide +kernel)
theorem zw1534 : (.methodLink "ScrubwardLaw" 140 ⟨"ScrubwardModel", "weak", "(III)I"⟩ : Jvm.Cond) ∈ zB := zb 1534 (by decide +kernel) (by decide +kernel)
theorem zw1535 : (.instanceMethod ⟨"ScrubwardModel", "weak", "(III)I"⟩ : Jvm.Cond) ∈ zB := zb 1535 (by decide +kernel) (by decide +kernel)
theorem zw1536 : (.selects "ScrubwardModel" ⟨"ScrubwardModel", "weak", "(III)I"⟩ ⟨"ScrubwardModel", "weak", "(III)I"⟩ : Jvm.Cond) ∈ zB := zb 1536 (by decide +kernel) (by decide +kernel)
theorem zw1537 : (.code ⟨"ScrubwardModel", "weak", "(III)I"⟩ prog_9_method_36_code 4 (Option.some Jvm.ClassFile.FieldType.int) : Jvm.Cond) ∈ zB := zb 1537 (by decide +kernel) (by decide +kernel)
theorem zw1538 : (.methodLink "ScrubwardLaw" 143 ⟨"ScrubwardModel", "hammer", "(III)I"⟩ : Jvm.Cond) ∈ zB := zb 1538 (by decide +kernel) (by decide +kernel)
theorem zw1539 : (.instanceMethod ⟨"ScrubwardModel", "hammer", "(III)I"⟩ : Jvm.Cond) ∈ zB := zb 1539 (by decide +kernel) (by decide +kernel)
theorem zw1540 : (.selects "ScrubwardModel" ⟨"ScrubwardModel", "hammer", "(III)I"⟩ ⟨"ScrubwardModel", "hammer", "(III)I"⟩ : Jvm.Cond) ∈ zB := zb 1540 (by decide +kernel) (by decide +kernel)
theorem zw1541 : (.code ⟨"ScrubwardModel", "hammer", "(III)I"⟩ prog_9_method_37_code 6 (Option.some Jvm.ClassFile.FieldType.int) : Jvm.Cond) ∈ zB := zb 1541 (by decide +kernel) (by decide +kernel)
theorem zw1542 : (.methodLink "ScrubwardLaw" 147 ⟨"ScrubwardModel", "run", "(IIIZZ)I"⟩ : Jvm.Cond) ∈ zB := zb 1542 (by decide +kernel) (by decide +kernel)
theorem zw1543 : (.instanceMethod ⟨"ScrubwardModel", "run", "(IIIZZ)I"⟩ : Jvm.Cond) ∈ zB := zb 1543 (by decide +kernel) (by decide +kernel)
theorem zw1544 : (.selects "ScrubwardModel" ⟨"ScrubwardModel", "run", "(IIIZZ)I"⟩ ⟨"ScrubwardModel", "run", "(IIIZZ)I"⟩ : Jvm.Cond) ∈ zB := zb 1544 (by decide +kernel) (by decide +kernel)
theorem zw1545 : (.code ⟨"ScrubwardModel", "run", "(IIIZZ)I"⟩ prog_9_method_38_code 7 (Option.some Jvm.ClassFile.FieldType.int) : Jvm.Cond) ∈ zB := zb 1545 (by decide +kernel) (by decide +kernel)
theorem zw1546 : (.methodLink "ScrubwardLaw" 150 ⟨"ScrubwardModel", "spare", "(II)I"⟩ : Jvm.Cond) ∈ zB := zb 1546 (by decide +kernel) (by decide +kernel)
theorem zw1547 : (.instanceMethod ⟨"ScrubwardModel", "spare", "(II)I"⟩ : Jvm.Cond) ∈ zB := zb 1547 (by decide +kernel) (by decide +kernel)
theorem zw1548 : (.selects "ScrubwardModel" ⟨"ScrubwardModel", "spare", "(II)I"⟩ ⟨"ScrubwardModel", "spare", "(II)I"⟩ : Jvm.Cond) ∈ zB := zb 1548 (by decide +kernel) (by decide +kernel)
theorem zw1549 : (.code ⟨"ScrubwardModel", "spare", "(II)I"⟩ prog_9_method_39_code 8 (Option.some Jvm.ClassFile.FieldType.int) : Jvm.Cond) ∈ zB := zb 1549 (by decide +kernel) (by decide +kernel)
theorem zw1550 : (.methodLink "ScrubwardLaw" 154 ⟨"ScrubwardModel", "retire", "(IZ)I"⟩ : Jvm.Cond) ∈ zB := zb 1550 (by decide +kernel) (by decide +kernel)
theorem zw1551 : (.instanceMethod ⟨"ScrubwardModel", "retire", "(IZ)I"⟩ : Jvm.Cond) ∈ zB := zb 1551 (by decide +kernel) (by decide +kernel)
theorem zw1552 : (.selects "ScrubwardModel" ⟨"ScrubwardModel", "retire", "(IZ)I"⟩ ⟨"ScrubwardModel", "retire", "(IZ)I"⟩ : Jvm.Cond) ∈ zB := zb 1552 (by decide +kernel) (by decide +kernel)
theorem zw1553 : (.code ⟨"ScrubwardModel", "retire", "(IZ)I"⟩ prog_9_method_40_code 3 (Option.some Jvm.ClassFile.FieldType.int) : Jvm.Cond) ∈ zB := zb 1553 (by decide +kernel) (by decide +kernel)
theorem zw1554 : (.methodLink "ScrubwardModel" 198 ⟨"ScrubwardModel", "many", "([Z)I"⟩ : Jvm.Cond) ∈ zB := zb 1554 (by decide +kernel) (by decide +kernel)
theorem zw1555 : (.static ⟨"ScrubwardModel", "many", "([Z)I"⟩ : Jvm.Cond) ∈ zB := zb 1555 (by decide +kernel) (by decide +kernel)
theorem zw1556 : (.code ⟨"ScrubwardModel", "many", "([Z)I"⟩ prog_9_method_41_code 6 (Option.some Jvm.ClassFile.FieldType.int) : Jvm.Cond) ∈ zB := zb 1556 (by decide +kernel) (by decide +kernel)
theorem zw1557 : (.methodLink "ScrubwardLaw" 157 ⟨"ScrubwardModel", "pass", "(I)I"⟩ : Jvm.Cond) ∈ zB := zb 1557 (by decide +kernel) (by decide +kernel)
theorem zw1558 : (.instanceMethod ⟨"ScrubwardModel", "pass", "(I)I"⟩ : Jvm.Cond) ∈ zB := zb 1558 (by decide +kernel) (by decide +kernel)
theorem zw1559 : (.selects "ScrubwardModel" ⟨"ScrubwardModel", "pass", "(I)I"⟩ ⟨"ScrubwardModel", "pass", "(I)I"⟩ : Jvm.Cond) ∈ zB := zb 1559 (by decide +kernel) (by decide +kernel)
theorem zw1560 : (.code ⟨"ScrubwardModel", "pass", "(I)I"⟩ prog_9_method_42_code 3 (Option.some Jvm.ClassFile.FieldType.int) : Jvm.Cond) ∈ zB := zb 1560 (by decide +kernel) (by decide +kernel)
theorem zw1561 : (.methodLink "ScrubwardModel" 202 ⟨"ScrubwardModel", "tick", "()V"⟩ : Jvm.Cond) ∈ zB := zb 1561 (by decide +kernel) (by decide +kernel)
theorem zw1563 : (.instanceMethod ⟨"ScrubwardModel", "tick", "()V"⟩ : Jvm.Cond) ∈ zB := zb 1563 (by decide +kernel) (by decide +kernel)
theorem zw1564 : (.code ⟨"ScrubwardModel", "tick", "()V"⟩ prog_9_method_29_code 2 (Option.none : Option Jvm.ClassFile.FieldType) : Jvm.Cond) ∈ zB := zb 1564 (by decide +kernel) (by decide +kernel)
theorem zw1565 : (.methodLink "ScrubwardModel" 176 ⟨"ScrubwardModel", "leak", "()V"⟩ : Jvm.Cond) ∈ zB := zb 1565 (by decide +kernel) (by decide +kernel)
theorem zw1567 : (.instanceMethod ⟨"ScrubwardModel", "leak", "()V"⟩ : Jvm.Cond) ∈ zB := zb 1567 (by decide +kernel) (by decide +kernel)
theorem zw1568 : (.code ⟨"ScrubwardModel", "leak", "()V"⟩ prog_9_method_27_code 3 (Option.none : Option Jvm.ClassFile.FieldType) : Jvm.Cond) ∈ zB := zb 1568 (by decide +kernel) (by decide +kernel)
theorem zw1569 : (.methodLink "ScrubwardModel" 179 ⟨"ScrubwardModel", "patrol", "()V"⟩ : Jvm.Cond) ∈ zB := zb 1569 (by decide +kernel) (by decide +kernel)
theorem zw1571 : (.instanceMethod ⟨"ScrubwardModel", "patrol", "()V"⟩ : Jvm.Cond) ∈ zB := zb 1571 (by decide +kernel) (by decide +kernel)
theorem zw1572 : (.code ⟨"ScrubwardModel", "patrol", "()V"⟩ prog_9_method_28_code 5 (Option.none : Option Jvm.ClassFile.FieldType) : Jvm.Cond) ∈ zB := zb 1572 (by decide +kernel) (by decide +kernel)
theorem zw1573 : (.methodLink "ScrubwardLaw" 162 ⟨"ScrubwardModel", "clear", "()I"⟩ : Jvm.Cond) ∈ zB := zb 1573 (by decide +kernel) (by decide +kernel)
theorem zw1574 : (.instanceMethod ⟨"ScrubwardModel", "clear", "()I"⟩ : Jvm.Cond) ∈ zB := zb 1574 (by decide +kernel) (by decide +kernel)
theorem zw1575 : (.selects "ScrubwardModel" ⟨"ScrubwardModel", "clear", "()I"⟩ ⟨"ScrubwardModel", "clear", "()I"⟩ : Jvm.Cond) ∈ zB := zb 1575 (by decide +kernel) (by decide +kernel)
theorem zw1576 : (.code ⟨"ScrubwardModel", "clear", "()I"⟩ prog_9_method_43_code 2 (Option.some Jvm.ClassFile.FieldType.int) : Jvm.Cond) ∈ zB := zb 1576 (by decide +kernel) (by decide +kernel)
theorem zw1577 : (.methodLink "ScrubwardLaw" 166 ⟨"ScrubwardModel", "call", "()I"⟩ : Jvm.Cond) ∈ zB := zb 1577 (by decide +kernel) (by decide +kernel)
theorem zw1578 : (.instanceMethod ⟨"ScrubwardModel", "call", "()I"⟩ : Jvm.Cond) ∈ zB := zb 1578 (by decide +kernel) (by decide +kernel)
theorem zw1579 : (.selects "ScrubwardModel" ⟨"ScrubwardModel", "call", "()I"⟩ ⟨"ScrubwardModel", "call", "()I"⟩ : Jvm.Cond) ∈ zB := zb 1579 (by decide +kernel) (by decide +kernel)
theorem zw1580 : (.code ⟨"ScrubwardModel", "call", "()I"⟩ prog_9_method_44_code 1 (Option.some Jvm.ClassFile.FieldType.int) : Jvm.Cond) ∈ zB := zb 1580 (by decide +kernel) (by decide +kernel)
theorem zw1581 : (.methodLink "ScrubwardLaw" 169 ⟨"ScrubwardModel", "column", "(I)I"⟩ : Jvm.Cond) ∈ zB := zb 1581 (by decide +kernel) (by decide +kernel)
theorem zw1582 : (.instanceMethod ⟨"ScrubwardModel", "column", "(I)I"⟩ : Jvm.Cond) ∈ zB := zb 1582 (by decide +kernel) (by decide +kernel)
theorem zw1583 : (.selects "ScrubwardModel" ⟨"ScrubwardModel", "column", "(I)I"⟩ ⟨"ScrubwardModel", "column", "(I)I"⟩ : Jvm.Cond) ∈ zB := zb 1583 (by decide +kernel) (by decide +kernel)
theorem zw1584 : (.code ⟨"ScrubwardModel", "column", "(I)I"⟩ prog_9_method_45_code 2 (Option.some Jvm.ClassFile.FieldType.int) : Jvm.Cond) ∈ zB := zb 1584 (by decide +kernel) (by decide +kernel)
theorem zw1585 : (.methodLink "ScrubwardLaw" 172 ⟨"ScrubwardModel", "encode", "(I)I"⟩ : Jvm.Cond) ∈ zB := zb 1585 (by decide +kernel) (by decide +kernel)
theorem zw1586 : (.instanceMethod ⟨"ScrubwardModel", "encode", "(I)I"⟩ : Jvm.Cond) ∈ zB := zb 1586 (by decide +kernel) (by decide +kernel)
theorem zw1587 : (.selects "ScrubwardModel" ⟨"ScrubwardModel", "encode", "(I)I"⟩ ⟨"ScrubwardModel", "encode", "(I)I"⟩ : Jvm.Cond) ∈ zB := zb 1587 (by decide +kernel) (by decide +kernel)
theorem zw1588 : (.code ⟨"ScrubwardModel", "encode", "(I)I"⟩ prog_9_method_46_code 2 (Option.some Jvm.ClassFile.FieldType.int) : Jvm.Cond) ∈ zB := zb 1588 (by decide +kernel) (by decide +kernel)
theorem zw1589 : (.methodLink "ScrubwardLaw" 175 ⟨"ScrubwardModel", "decode", "(II)I"⟩ : Jvm.Cond) ∈ zB := zb 1589 (by decide +kernel) (by decide +kernel)
theorem zw1590 : (.instanceMethod ⟨"ScrubwardModel", "decode", "(II)I"⟩ : Jvm.Cond) ∈ zB := zb 1590 (by decide +kernel) (by decide +kernel)
theorem zw1591 : (.selects "ScrubwardModel" ⟨"ScrubwardModel", "decode", "(II)I"⟩ ⟨"ScrubwardModel", "decode", "(II)I"⟩ : Jvm.Cond) ∈ zB := zb 1591 (by decide +kernel) (by decide +kernel)
theorem zw1592 : (.code ⟨"ScrubwardModel", "decode", "(II)I"⟩ prog_9_method_47_code 4 (Option.some Jvm.ClassFile.FieldType.int) : Jvm.Cond) ∈ zB := zb 1592 (by decide +kernel) (by decide +kernel)
theorem zw1593 : (.methodLink "ScrubwardLaw" 178 ⟨"ScrubwardModel", "fooled", "(I)I"⟩ : Jvm.Cond) ∈ zB := zb 1593 (by decide +kernel) (by decide +kernel)
theorem zw1594 : (.instanceMethod ⟨"ScrubwardModel", "fooled", "(I)I"⟩ : Jvm.Cond) ∈ zB := zb 1594 (by decide +kernel) (by decide +kernel)
theorem zw1595 : (.selects "ScrubwardModel" ⟨"ScrubwardModel", "fooled", "(I)I"⟩ ⟨"ScrubwardModel", "fooled", "(I)I"⟩ : Jvm.Cond) ∈ zB := zb 1595 (by decide +kernel) (by decide +kernel)
theorem zw1596 : (.code ⟨"ScrubwardModel", "fooled", "(I)I"⟩ prog_9_method_49_code 2 (Option.some Jvm.ClassFile.FieldType.int) : Jvm.Cond) ∈ zB := zb 1596 (by decide +kernel) (by decide +kernel)
theorem zw1597 : (.methodLink "ScrubwardModel" 207 ⟨"ScrubwardModel", "fooledNow", "(I)I"⟩ : Jvm.Cond) ∈ zB := zb 1597 (by decide +kernel) (by decide +kernel)
theorem zw1599 : (.instanceMethod ⟨"ScrubwardModel", "fooledNow", "(I)I"⟩ : Jvm.Cond) ∈ zB := zb 1599 (by decide +kernel) (by decide +kernel)
theorem zw1600 : (.code ⟨"ScrubwardModel", "fooledNow", "(I)I"⟩ prog_9_method_48_code 4 (Option.some Jvm.ClassFile.FieldType.int) : Jvm.Cond) ∈ zB := zb 1600 (by decide +kernel) (by decide +kernel)
theorem zw1601 : (.methodLink "ScrubwardLaw" 181 ⟨"ScrubwardModel", "ofWord", "(II)I"⟩ : Jvm.Cond) ∈ zB := zb 1601 (by decide +kernel) (by decide +kernel)
theorem zw1602 : (.instanceMethod ⟨"ScrubwardModel", "ofWord", "(II)I"⟩ : Jvm.Cond) ∈ zB := zb 1602 (by decide +kernel) (by decide +kernel)
theorem zw1603 : (.selects "ScrubwardModel" ⟨"ScrubwardModel", "ofWord", "(II)I"⟩ ⟨"ScrubwardModel", "ofWord", "(II)I"⟩ : Jvm.Cond) ∈ zB := zb 1603 (by decide +kernel) (by decide +kernel)
theorem zw1604 : (.code ⟨"ScrubwardModel", "ofWord", "(II)I"⟩ prog_9_method_52_code 3 (Option.some Jvm.ClassFile.FieldType.int) : Jvm.Cond) ∈ zB := zb 1604 (by decide +kernel) (by decide +kernel)
theorem zw1605 : (.methodLink "ScrubwardModel" 214 ⟨"ScrubwardModel", "wordNow", "(II)I"⟩ : Jvm.Cond) ∈ zB := zb 1605 (by decide +kernel) (by decide +kernel)
theorem zw1607 : (.instanceMethod ⟨"ScrubwardModel", "wordNow", "(II)I"⟩ : Jvm.Cond) ∈ zB := zb 1607 (by decide +kernel) (by decide +kernel)
theorem zw1608 : (.code ⟨"ScrubwardModel", "wordNow", "(II)I"⟩ prog_9_method_51_code 5 (Option.some Jvm.ClassFile.FieldType.int) : Jvm.Cond) ∈ zB := zb 1608 (by decide +kernel) (by decide +kernel)
theorem zw1609 : (.methodLink "ScrubwardModel" 210 ⟨"ScrubwardModel", "cells", "(Ljava/util/List;II)I"⟩ : Jvm.Cond) ∈ zB := zb 1609 (by decide +kernel) (by decide +kernel)
theorem zw1611 : (.instanceMethod ⟨"ScrubwardModel", "cells", "(Ljava/util/List;II)I"⟩ : Jvm.Cond) ∈ zB := zb 1611 (by decide +kernel) (by decide +kernel)
theorem zw1612 : (.code ⟨"ScrubwardModel", "cells", "(Ljava/util/List;II)I"⟩ prog_9_method_50_code 6 (Option.some Jvm.ClassFile.FieldType.int) : Jvm.Cond) ∈ zB := zb 1612 (by decide +kernel) (by decide +kernel)
theorem zw1613 : (.methodLink "ScrubwardLaw" 184 ⟨"ScrubwardModel", "ofLine", "(III)I"⟩ : Jvm.Cond) ∈ zB := zb 1613 (by decide +kernel) (by decide +kernel)
theorem zw1614 : (.instanceMethod ⟨"ScrubwardModel", "ofLine", "(III)I"⟩ : Jvm.Cond) ∈ zB := zb 1614 (by decide +kernel) (by decide +kernel)
theorem zw1615 : (.selects "ScrubwardModel" ⟨"ScrubwardModel", "ofLine", "(III)I"⟩ ⟨"ScrubwardModel", "ofLine", "(III)I"⟩ : Jvm.Cond) ∈ zB := zb 1615 (by decide +kernel) (by decide +kernel)
theorem zw1616 : (.code ⟨"ScrubwardModel", "ofLine", "(III)I"⟩ prog_9_method_56_code 4 (Option.some Jvm.ClassFile.FieldType.int) : Jvm.Cond) ∈ zB := zb 1616 (by decide +kernel) (by decide +kernel)
theorem zw1617 : (.methodLink "ScrubwardModel" 224 ⟨"ScrubwardModel", "lineNow", "(II)I"⟩ : Jvm.Cond) ∈ zB := zb 1617 (by decide +kernel) (by decide +kernel)
theorem zw1619 : (.instanceMethod ⟨"ScrubwardModel", "lineNow", "(II)I"⟩ : Jvm.Cond) ∈ zB := zb 1619 (by decide +kernel) (by decide +kernel)
theorem zw1620 : (.code ⟨"ScrubwardModel", "lineNow", "(II)I"⟩ prog_9_method_55_code 3 (Option.some Jvm.ClassFile.FieldType.int) : Jvm.Cond) ∈ zB := zb 1620 (by decide +kernel) (by decide +kernel)
theorem zw1621 : (.methodLink "ScrubwardModel" 218 ⟨"ScrubwardModel", "rowOf", "(I)I"⟩ : Jvm.Cond) ∈ zB := zb 1621 (by decide +kernel) (by decide +kernel)
theorem zw1623 : (.instanceMethod ⟨"ScrubwardModel", "rowOf", "(I)I"⟩ : Jvm.Cond) ∈ zB := zb 1623 (by decide +kernel) (by decide +kernel)
theorem zw1624 : (.code ⟨"ScrubwardModel", "rowOf", "(I)I"⟩ prog_9_method_54_code 3 (Option.some Jvm.ClassFile.FieldType.int) : Jvm.Cond) ∈ zB := zb 1624 (by decide +kernel) (by decide +kernel)
theorem zw1625 : (.methodLink "ScrubwardModel" 221 ⟨"ScrubwardModel", "unclean", "(I)I"⟩ : Jvm.Cond) ∈ zB := zb 1625 (by decide +kernel) (by decide +kernel)
theorem zw1627 : (.instanceMethod ⟨"ScrubwardModel", "unclean", "(I)I"⟩ : Jvm.Cond) ∈ zB := zb 1627 (by decide +kernel) (by decide +kernel)
theorem zw1628 : (.code ⟨"ScrubwardModel", "unclean", "(I)I"⟩ prog_9_method_53_code 7 (Option.some Jvm.ClassFile.FieldType.int) : Jvm.Cond) ∈ zB := zb 1628 (by decide +kernel) (by decide +kernel)
theorem zw1629 : (.methodLink "ScrubwardLaw" 187 ⟨"ScrubwardModel", "ofEntry", "(II)I"⟩ : Jvm.Cond) ∈ zB := zb 1629 (by decide +kernel) (by decide +kernel)
theorem zw1630 : (.instanceMethod ⟨"ScrubwardModel", "ofEntry", "(II)I"⟩ : Jvm.Cond) ∈ zB := zb 1630 (by decide +kernel) (by decide +kernel)
theorem zw1631 : (.selects "ScrubwardModel" ⟨"ScrubwardModel", "ofEntry", "(II)I"⟩ ⟨"ScrubwardModel", "ofEntry", "(II)I"⟩ : Jvm.Cond) ∈ zB := zb 1631 (by decide +kernel) (by decide +kernel)
theorem zw1632 : (.code ⟨"ScrubwardModel", "ofEntry", "(II)I"⟩ prog_9_method_57_code 3 (Option.some Jvm.ClassFile.FieldType.int) : Jvm.Cond) ∈ zB := zb 1632 (by decide +kernel) (by decide +kernel)
theorem zw1633 : (.methodLink "ScrubwardLaw" 190 ⟨"ScrubwardModel", "blame", "(IZ)I"⟩ : Jvm.Cond) ∈ zB := zb 1633 (by decide +kernel) (by decide +kernel)
theorem zw1634 : (.instanceMethod ⟨"ScrubwardModel", "blame", "(IZ)I"⟩ : Jvm.Cond) ∈ zB := zb 1634 (by decide +kernel) (by decide +kernel)
theorem zw1635 : (.selects "ScrubwardModel" ⟨"ScrubwardModel", "blame", "(IZ)I"⟩ ⟨"ScrubwardModel", "blame", "(IZ)I"⟩ : Jvm.Cond) ∈ zB := zb 1635 (by decide +kernel) (by decide +kernel)
theorem zw1636 : (.code ⟨"ScrubwardModel", "blame", "(IZ)I"⟩ prog_9_method_62_code 3 (Option.some Jvm.ClassFile.FieldType.int) : Jvm.Cond) ∈ zB := zb 1636 (by decide +kernel) (by decide +kernel)
theorem zw1637 : (.methodLink "ScrubwardModel" 242 ⟨"ScrubwardModel", "blameNow", "(IZ)I"⟩ : Jvm.Cond) ∈ zB := zb 1637 (by decide +kernel) (by decide +kernel)
theorem zw1639 : (.instanceMethod ⟨"ScrubwardModel", "blameNow", "(IZ)I"⟩ : Jvm.Cond) ∈ zB := zb 1639 (by decide +kernel) (by decide +kernel)
theorem zw1640 : (.code ⟨"ScrubwardModel", "blameNow", "(IZ)I"⟩ prog_9_method_61_code 5 (Option.some Jvm.ClassFile.FieldType.int) : Jvm.Cond) ∈ zB := zb 1640 (by decide +kernel) (by decide +kernel)
theorem zw1641 : (.methodLink "ScrubwardModel" 235 ⟨"ScrubwardModel", "spread", "(IIIZ)I"⟩ : Jvm.Cond) ∈ zB := zb 1641 (by decide +kernel) (by decide +kernel)
theorem zw1643 : (.instanceMethod ⟨"ScrubwardModel", "spread", "(IIIZ)I"⟩ : Jvm.Cond) ∈ zB := zb 1643 (by decide +kernel) (by decide +kernel)
theorem zw1644 : (.code ⟨"ScrubwardModel", "spread", "(IIIZ)I"⟩ prog_9_method_59_code 9 (Option.some Jvm.ClassFile.FieldType.int) : Jvm.Cond) ∈ zB := zb 1644 (by decide +kernel) (by decide +kernel)
theorem zw1645 : (.methodLink "ScrubwardModel" 227 ⟨"ScrubwardModel", "isMended", "(II)Z"⟩ : Jvm.Cond) ∈ zB := zb 1645 (by decide +kernel) (by decide +kernel)
theorem zw1647 : (.instanceMethod ⟨"ScrubwardModel", "isMended", "(II)Z"⟩ : Jvm.Cond) ∈ zB := zb 1647 (by decide +kernel) (by decide +kernel)
theorem zw1648 : (.code ⟨"ScrubwardModel", "isMended", "(II)Z"⟩ prog_9_method_58_code 3 (Option.some Jvm.ClassFile.FieldType.boolean) : Jvm.Cond) ∈ zB := zb 1648 (by decide +kernel) (by decide +kernel)
theorem zw1649 : (.methodLink "ScrubwardModel" 239 ⟨"ScrubwardModel", "twice", "(I)I"⟩ : Jvm.Cond) ∈ zB := zb 1649 (by decide +kernel) (by decide +kernel)
theorem zw1651 : (.instanceMethod ⟨"ScrubwardModel", "twice", "(I)I"⟩ : Jvm.Cond) ∈ zB := zb 1651 (by decide +kernel) (by decide +kernel)
theorem zw1652 : (.code ⟨"ScrubwardModel", "twice", "(I)I"⟩ prog_9_method_60_code 5 (Option.some Jvm.ClassFile.FieldType.int) : Jvm.Cond) ∈ zB := zb 1652 (by decide +kernel) (by decide +kernel)
theorem zw1653 : (.methodLink "ScrubwardModel" 230 ⟨"java/lang/Math", "min", "(II)I"⟩ : Jvm.Cond) ∈ zB := zb 1653 (by decide +kernel) (by decide +kernel)
theorem zw1654 : (.methodLink "ScrubwardLaw" 193 ⟨"ScrubwardModel", "board", "(I)I"⟩ : Jvm.Cond) ∈ zB := zb 1654 (by decide +kernel) (by decide +kernel)
theorem zw1655 : (.instanceMethod ⟨"ScrubwardModel", "board", "(I)I"⟩ : Jvm.Cond) ∈ zB := zb 1655 (by decide +kernel) (by decide +kernel)
theorem zw1656 : (.selects "ScrubwardModel" ⟨"ScrubwardModel", "board", "(I)I"⟩ ⟨"ScrubwardModel", "board", "(I)I"⟩ : Jvm.Cond) ∈ zB := zb 1656 (by decide +kernel) (by decide +kernel)
theorem zw1657 : (.code ⟨"ScrubwardModel", "board", "(I)I"⟩ prog_9_method_64_code 2 (Option.some Jvm.ClassFile.FieldType.int) : Jvm.Cond) ∈ zB := zb 1657 (by decide +kernel) (by decide +kernel)
theorem zw1658 : (.methodLink "ScrubwardModel" 246 ⟨"ScrubwardModel", "boardNow", "(I)I"⟩ : Jvm.Cond) ∈ zB := zb 1658 (by decide +kernel) (by decide +kernel)
theorem zw1660 : (.instanceMethod ⟨"ScrubwardModel", "boardNow", "(I)I"⟩ : Jvm.Cond) ∈ zB := zb 1660 (by decide +kernel) (by decide +kernel)
theorem zw1661 : (.code ⟨"ScrubwardModel", "boardNow", "(I)I"⟩ prog_9_method_63_code 3 (Option.some Jvm.ClassFile.FieldType.int) : Jvm.Cond) ∈ zB := zb 1661 (by decide +kernel) (by decide +kernel)
theorem zw1662 : (.methodLink "ScrubwardLaw" 196 ⟨"ScrubwardModel", "health", "(I)D"⟩ : Jvm.Cond) ∈ zB := zb 1662 (by decide +kernel) (by decide +kernel)
theorem zw1663 : (.instanceMethod ⟨"ScrubwardModel", "health", "(I)D"⟩ : Jvm.Cond) ∈ zB := zb 1663 (by decide +kernel) (by decide +kernel)
theorem zw1664 : (.selects "ScrubwardModel" ⟨"ScrubwardModel", "health", "(I)D"⟩ ⟨"ScrubwardModel", "health", "(I)D"⟩ : Jvm.Cond) ∈ zB := zb 1664 (by decide +kernel) (by decide +kernel)
theorem zw1665 : (.code ⟨"ScrubwardModel", "health", "(I)D"⟩ prog_9_method_66_code 2 (Option.some Jvm.ClassFile.FieldType.double) : Jvm.Cond) ∈ zB := zb 1665 (by decide +kernel) (by decide +kernel)
theorem zw1666 : (.methodLink "ScrubwardModel" 251 ⟨"ScrubwardModel", "healthNow", "(I)D"⟩ : Jvm.Cond) ∈ zB := zb 1666 (by decide +kernel) (by decide +kernel)
theorem zw1668 : (.instanceMethod ⟨"ScrubwardModel", "healthNow", "(I)D"⟩ : Jvm.Cond) ∈ zB := zb 1668 (by decide +kernel) (by decide +kernel)
theorem zw1669 : (.code ⟨"ScrubwardModel", "healthNow", "(I)D"⟩ prog_9_method_65_code 4 (Option.some Jvm.ClassFile.FieldType.double) : Jvm.Cond) ∈ zB := zb 1669 (by decide +kernel) (by decide +kernel)
theorem zw1670 : (.constantDouble "ScrubwardModel" 249 4634204016564240384 : Jvm.Cond) ∈ zB := zb 1670 (by decide +kernel) (by decide +kernel)
theorem zw1671 : (.methodLink "ScrubwardLaw" 199 ⟨"ScrubwardModel", "tell", "(II)Ljava/lang/String;"⟩ : Jvm.Cond) ∈ zB := zb 1671 (by decide +kernel) (by decide +kernel)
theorem zw1672 : (.instanceMethod ⟨"ScrubwardModel", "tell", "(II)Ljava/lang/String;"⟩ : Jvm.Cond) ∈ zB := zb 1672 (by decide +kernel) (by decide +kernel)
theorem zw1673 : (.selects "ScrubwardModel" ⟨"ScrubwardModel", "tell", "(II)Ljava/lang/String;"⟩ ⟨"ScrubwardModel", "tell", "(II)Ljava/lang/String;"⟩ : Jvm.Cond) ∈ zB := zb 1673 (by decide +kernel) (by decide +kernel)
theorem zw1674 : (.code ⟨"ScrubwardModel", "tell", "(II)Ljava/lang/String;"⟩ prog_9_method_67_code 7 (Option.some (Jvm.ClassFile.FieldType.object "java/lang/String")) : Jvm.Cond) ∈ zB := zb 1674 (by decide +kernel) (by decide +kernel)
theorem zw1676 : (.classLink "ScrubwardModel" 257 "java/lang/StringBuilder" : Jvm.Cond) ∈ zB := zb 1676 (by decide +kernel) (by decide +kernel)
theorem zw1677 : (.methodLink "ScrubwardModel" 259 ⟨"java/lang/StringBuilder", "<init>", "()V"⟩ : Jvm.Cond) ∈ zB := zb 1677 (by decide +kernel) (by decide +kernel)
theorem zw1678 : (.methodLink "ScrubwardModel" 260 ⟨"java/lang/StringBuilder", "append", "(C)Ljava/lang/StringBuilder;"⟩ : Jvm.Cond) ∈ zB := zb 1678 (by decide +kernel) (by decide +kernel)
theorem zw1679 : (.methodLink "ScrubwardModel" 264 ⟨"java/lang/StringBuilder", "toString", "()Ljava/lang/String;"⟩ : Jvm.Cond) ∈ zB := zb 1679 (by decide +kernel) (by decide +kernel)
theorem zw1680 : (.methodLink "ScrubwardLaw" 202 ⟨"ScrubwardModel", "wouldRead", "(I)I"⟩ : Jvm.Cond) ∈ zB := zb 1680 (by decide +kernel) (by decide +kernel)
theorem zw1681 : (.instanceMethod ⟨"ScrubwardModel", "wouldRead", "(I)I"⟩ : Jvm.Cond) ∈ zB := zb 1681 (by decide +kernel) (by decide +kernel)
theorem zw1682 : (.selects "ScrubwardModel" ⟨"ScrubwardModel", "wouldRead", "(I)I"⟩ ⟨"ScrubwardModel", "wouldRead", "(I)I"⟩ : Jvm.Cond) ∈ zB := zb 1682 (by decide +kernel) (by decide +kernel)
theorem zw1683 : (.code ⟨"ScrubwardModel", "wouldRead", "(I)I"⟩ prog_9_method_70_code 2 (Option.some Jvm.ClassFile.FieldType.int) : Jvm.Cond) ∈ zB := zb 1683 (by decide +kernel) (by decide +kernel)
theorem zw1684 : (.methodLink "ScrubwardModel" 271 ⟨"ScrubwardModel", "wouldReadNow", "(I)I"⟩ : Jvm.Cond) ∈ zB := zb 1684 (by decide +kernel) (by decide +kernel)
theorem zw1686 : (.instanceMethod ⟨"ScrubwardModel", "wouldReadNow", "(I)I"⟩ : Jvm.Cond) ∈ zB := zb 1686 (by decide +kernel) (by decide +kernel)
theorem zw1687 : (.code ⟨"ScrubwardModel", "wouldReadNow", "(I)I"⟩ prog_9_method_69_code 4 (Option.some Jvm.ClassFile.FieldType.int) : Jvm.Cond) ∈ zB := zb 1687 (by decide +kernel) (by decide +kernel)
theorem zw1688 : (.methodLink "ScrubwardModel" 268 ⟨"ScrubwardModel", "wouldTell", "(I)I"⟩ : Jvm.Cond) ∈ zB := zb 1688 (by decide +kernel) (by decide +kernel)
theorem zw1690 : (.instanceMethod ⟨"ScrubwardModel", "wouldTell", "(I)I"⟩ : Jvm.Cond) ∈ zB := zb 1690 (by decide +kernel) (by decide +kernel)
theorem zw1691 : (.code ⟨"ScrubwardModel", "wouldTell", "(I)I"⟩ prog_9_method_68_code 2 (Option.some Jvm.ClassFile.FieldType.int) : Jvm.Cond) ∈ zB := zb 1691 (by decide +kernel) (by decide +kernel)
theorem zw1692 : (.methodLink "ScrubwardLaw" 205 ⟨"ScrubwardModel", "wouldSpare", "(I)I"⟩ : Jvm.Cond) ∈ zB := zb 1692 (by decide +kernel) (by decide +kernel)
theorem zw1693 : (.instanceMethod ⟨"ScrubwardModel", "wouldSpare", "(I)I"⟩ : Jvm.Cond) ∈ zB := zb 1693 (by decide +kernel) (by decide +kernel)
theorem zw1694 : (.selects "ScrubwardModel" ⟨"ScrubwardModel", "wouldSpare", "(I)I"⟩ ⟨"ScrubwardModel", "wouldSpare", "(I)I"⟩ : Jvm.Cond) ∈ zB := zb 1694 (by decide +kernel) (by decide +kernel)
theorem zw1695 : (.code ⟨"ScrubwardModel", "wouldSpare", "(I)I"⟩ prog_9_method_72_code 2 (Option.some Jvm.ClassFile.FieldType.int) : Jvm.Cond) ∈ zB := zb 1695 (by decide +kernel) (by decide +kernel)
theorem zw1696 : (.methodLink "ScrubwardModel" 274 ⟨"ScrubwardModel", "wouldSpareNow", "(I)I"⟩ : Jvm.Cond) ∈ zB := zb 1696 (by decide +kernel) (by decide +kernel)
theorem zw1698 : (.instanceMethod ⟨"ScrubwardModel", "wouldSpareNow", "(I)I"⟩ : Jvm.Cond) ∈ zB := zb 1698 (by decide +kernel) (by decide +kernel)
theorem zw1699 : (.code ⟨"ScrubwardModel", "wouldSpareNow", "(I)I"⟩ prog_9_method_71_code 6 (Option.some Jvm.ClassFile.FieldType.int) : Jvm.Cond) ∈ zB := zb 1699 (by decide +kernel) (by decide +kernel)
theorem zw1700 : (.methodLink "ScrubwardLaw" 208 ⟨"ScrubwardModel", "wouldLeak", "(I)I"⟩ : Jvm.Cond) ∈ zB := zb 1700 (by decide +kernel) (by decide +kernel)
theorem zw1701 : (.instanceMethod ⟨"ScrubwardModel", "wouldLeak", "(I)I"⟩ : Jvm.Cond) ∈ zB := zb 1701 (by decide +kernel) (by decide +kernel)
theorem zw1702 : (.selects "ScrubwardModel" ⟨"ScrubwardModel", "wouldLeak", "(I)I"⟩ ⟨"ScrubwardModel", "wouldLeak", "(I)I"⟩ : Jvm.Cond) ∈ zB := zb 1702 (by decide +kernel) (by decide +kernel)
theorem zw1703 : (.code ⟨"ScrubwardModel", "wouldLeak", "(I)I"⟩ prog_9_method_77_code 2 (Option.some Jvm.ClassFile.FieldType.int) : Jvm.Cond) ∈ zB := zb 1703 (by decide +kernel) (by decide +kernel)
theorem zw1704 : (.methodLink "ScrubwardModel" 289 ⟨"ScrubwardModel", "wouldLeakNow", "(I)I"⟩ : Jvm.Cond) ∈ zB := zb 1704 (by decide +kernel) (by decide +kernel)
theorem zw1706 : (.instanceMethod ⟨"ScrubwardModel", "wouldLeakNow", "(I)I"⟩ : Jvm.Cond) ∈ zB := zb 1706 (by decide +kernel) (by decide +kernel)
theorem zw1707 : (.code ⟨"ScrubwardModel", "wouldLeakNow", "(I)I"⟩ prog_9_method_75_code 6 (Option.some Jvm.ClassFile.FieldType.int) : Jvm.Cond) ∈ zB := zb 1707 (by decide +kernel) (by decide +kernel)
theorem zw1708 : (.methodLink "ScrubwardModel" 281 ⟨"ScrubwardModel", "wouldLeak", "([II)Z"⟩ : Jvm.Cond) ∈ zB := zb 1708 (by decide +kernel) (by decide +kernel)
theorem zw1710 : (.instanceMethod ⟨"ScrubwardModel", "wouldLeak", "([II)Z"⟩ : Jvm.Cond) ∈ zB := zb 1710 (by decide +kernel) (by decide +kernel)
theorem zw1711 : (.code ⟨"ScrubwardModel", "wouldLeak", "([II)Z"⟩ prog_9_method_74_code 5 (Option.some Jvm.ClassFile.FieldType.boolean) : Jvm.Cond) ∈ zB := zb 1711 (by decide +kernel) (by decide +kernel)
theorem zw1712 : (.methodLink "ScrubwardModel" 277 ⟨"ScrubwardModel", "isStuck", "([I)Z"⟩ : Jvm.Cond) ∈ zB := zb 1712 (by decide +kernel) (by decide +kernel)
theorem zw1714 : (.instanceMethod ⟨"ScrubwardModel", "isStuck", "([I)Z"⟩ : Jvm.Cond) ∈ zB := zb 1714 (by decide +kernel) (by decide +kernel)
theorem zw1715 : (.code ⟨"ScrubwardModel", "isStuck", "([I)Z"⟩ prog_9_method_73_code 3 (Option.some Jvm.ClassFile.FieldType.boolean) : Jvm.Cond) ∈ zB := zb 1715 (by decide +kernel) (by decide +kernel)
theorem zw1716 : (.methodLink "ScrubwardModel" 285 ⟨"ScrubwardModel", "areOne", "([I[I)Z"⟩ : Jvm.Cond) ∈ zB := zb 1716 (by decide +kernel) (by decide +kernel)
theorem zw1717 : (.static ⟨"ScrubwardModel", "areOne", "([I[I)Z"⟩ : Jvm.Cond) ∈ zB := zb 1717 (by decide +kernel) (by decide +kernel)
theorem zw1718 : (.code ⟨"ScrubwardModel", "areOne", "([I[I)Z"⟩ prog_9_method_76_code 2 (Option.some Jvm.ClassFile.FieldType.boolean) : Jvm.Cond) ∈ zB := zb 1718 (by decide +kernel) (by decide +kernel)
theorem zw1719 : (.methodLink "ScrubwardLaw" 213 ⟨"ScrubwardModel", "isSound", "()Z"⟩ : Jvm.Cond) ∈ zB := zb 1719 (by decide +kernel) (by decide +kernel)
theorem zw1720 : (.instanceMethod ⟨"ScrubwardModel", "isSound", "()Z"⟩ : Jvm.Cond) ∈ zB := zb 1720 (by decide +kernel) (by decide +kernel)
theorem zw1721 : (.selects "ScrubwardModel" ⟨"ScrubwardModel", "isSound", "()Z"⟩ ⟨"ScrubwardModel", "isSound", "()Z"⟩ : Jvm.Cond) ∈ zB := zb 1721 (by decide +kernel) (by decide +kernel)
theorem zw1722 : (.code ⟨"ScrubwardModel", "isSound", "()Z"⟩ prog_9_method_79_code 1 (Option.some Jvm.ClassFile.FieldType.boolean) : Jvm.Cond) ∈ zB := zb 1722 (by decide +kernel) (by decide +kernel)
theorem zw1723 : (.methodLink "ScrubwardModel" 292 ⟨"ScrubwardModel", "isSoundNow", "()Z"⟩ : Jvm.Cond) ∈ zB := zb 1723 (by decide +kernel) (by decide +kernel)
theorem zw1725 : (.instanceMethod ⟨"ScrubwardModel", "isSoundNow", "()Z"⟩ : Jvm.Cond) ∈ zB := zb 1725 (by decide +kernel) (by decide +kernel)
theorem zw1726 : (.code ⟨"ScrubwardModel", "isSoundNow", "()Z"⟩ prog_9_method_78_code 5 (Option.some Jvm.ClassFile.FieldType.boolean) : Jvm.Cond) ∈ zB := zb 1726 (by decide +kernel) (by decide +kernel)
theorem zw1727 : (.methodLink "ScrubwardLaw" 218 ⟨"ScrubwardModel", "digest", "()J"⟩ : Jvm.Cond) ∈ zB := zb 1727 (by decide +kernel) (by decide +kernel)
theorem zw1728 : (.instanceMethod ⟨"ScrubwardModel", "digest", "()J"⟩ : Jvm.Cond) ∈ zB := zb 1728 (by decide +kernel) (by decide +kernel)
theorem zw1729 : (.selects "ScrubwardModel" ⟨"ScrubwardModel", "digest", "()J"⟩ ⟨"ScrubwardModel", "digest", "()J"⟩ : Jvm.Cond) ∈ zB := zb 1729 (by decide +kernel) (by decide +kernel)
theorem zw1730 : (.code ⟨"ScrubwardModel", "digest", "()J"⟩ prog_9_method_80_code 7 (Option.some Jvm.ClassFile.FieldType.long) : Jvm.Cond) ∈ zB := zb 1730 (by decide +kernel) (by decide +kernel)
theorem zw1731 : (.constantLong "ScrubwardModel" 296 58281 : Jvm.Cond) ∈ zB := zb 1731 (by decide +kernel) (by decide +kernel)
theorem zw1732 : (.constantLong "ScrubwardModel" 298 31 : Jvm.Cond) ∈ zB := zb 1732 (by decide +kernel) (by decide +kernel)
end
section
def zFL : List (Nat × Nat × Nat) := [(0, 14, 0), (0, 20, 1), (0, 33, 2), (0, 37, 3), (0, 40, 4), (1, 14, 5), (1, 20, 6), (1, 23, 7), (1, 26, 8), (2, 7, 9), (3, 14, 10), (3, 20, 11), (3, 23, 12), (3, 26, 13), (3, 30, 15), (3, 33, 14), (4, 14, 16), (4, 20, 17), (4, 23, 18), (4, 26, 19), (4, 32, 20), (4, 36, 21), (4, 39, 24), (4, 43, 25), (4, 46, 26), (4, 49, 22), (4, 69, 8), (4, 72, 5), (4, 79, 6), (4, 82, 7), (4, 85, 23), (4, 95, 27), (5, 12, 28), (5, 19, 29), (5, 26, 30), (5, 35, 31), (5, 39, 32), (5, 42, 33), (5, 45, 34), (5, 55, 4), (5, 98, 37), (5, 121, 36), (5, 148, 20), (5, 167, 8), (5, 172, 21), (5, 186, 17), (5, 198, 35), (5, 201, 24), (5, 204, 25), (5, 218, 23), (5, 229, 13), (5, 230, 39), (5, 236, 0), (5, 279, 18), (5, 292, 10), (5, 295, 11), (5, 298, 12), (5, 306, 2), (5, 309, 3), (5, 312, 38), (5, 315, 14), (5, 318, 15), (5, 321, 27), (5, 406, 16), (7, 7, 44), (7, 13, 45), (7, 16, 46), (7, 20, 48), (7, 23, 49), (7, 26, 54), (7, 31, 59), (7, 34, 60), (7, 37, 61), (7, 40, 62), (7, 43, 63), (7, 46, 64), (7, 50, 65), (7, 56, 66), (7, 60, 67), (7, 63, 68), (7, 70, 43), (7, 111, 55), (7, 114, 47), (7, 127, 57), (7, 130, 58), (7, 154, 51), (7, 167, 52), (7, 170, 50), (7, 173, 53), (7, 204, 56), (8, 13, 40), (8, 91, 41), (8, 99, 42), (9, 9, 73), (9, 15, 74), (9, 1048, 71), (14, 15, 69), (14, 22, 70), (14, 79, 72), (18, 9, 78), (18, 48, 79), (18, 63, 77), (20, 7, 77)]
theorem zFL_0 : ∀ q ∈ ([(0, 14, 0), (0, 20, 1), (0, 33, 2), (0, 37, 3), (0, 40, 4), (1, 14, 5), (1, 20, 6), (1, 23, 7), (1, 26, 8), (2, 7, 9), (3, 14, 10), (3, 20, 11), (3, 23, 12), (3, 26, 13), (3, 30, 15), (3, 33, 14), (4, 14, 16), (4, 20, 17), (4, 23, 18), (4, 26, 19), (4, 32, 20), (4, 36, 21), (4, 39, 24), (4, 43, 25), (4, 46, 26), (4, 49, 22), (4, 69, 8), (4, 72, 5), (4, 79, 6), (4, 82, 7), (4, 85, 23), (4, 95, 27), (5, 12, 28), (5, 19, 29), (5, 26, 30), (5, 35, 31), (5, 39, 32), (5, 42, 33), (5, 45, 34), (5, 55, 4)] : List (Nat × Nat × Nat)), zFok q := List.forall_mem_cons.mpr ⟨Or.inl ⟨_, zw133, Or.inl rfl⟩, List.forall_mem_cons.mpr ⟨Or.inl ⟨_, zw135, Or.inl rfl⟩, List.forall_mem_cons.mpr ⟨Or.inl ⟨_, zw136, Or.inl rfl⟩, List.forall_mem_cons.mpr ⟨Or.inl ⟨_, zw138, Or.inl rfl⟩, List.forall_mem_cons.mpr ⟨Or.inl ⟨_, zw141, Or.inl rfl⟩, List.forall_mem_cons.mpr ⟨Or.inl ⟨_, zw169, Or.inl rfl⟩, List.forall_mem_cons.mpr ⟨Or.inl ⟨_, zw171, Or.inl rfl⟩, List.forall_mem_cons.mpr ⟨Or.inl ⟨_, zw173, Or.inl rfl⟩, List.forall_mem_cons.mpr ⟨Or.inl ⟨_, zw175, Or.inl rfl⟩, List.forall_mem_cons.mpr ⟨Or.inl ⟨_, zw128, Or.inl rfl⟩, List.forall_mem_cons.mpr ⟨Or.inl ⟨_, zw241, Or.inl rfl⟩, List.forall_mem_cons.mpr ⟨Or.inl ⟨_, zw243, Or.inl rfl⟩, List.forall_mem_cons.mpr ⟨Or.inl ⟨_, zw245, Or.inl rfl⟩, List.forall_mem_cons.mpr ⟨Or.inl ⟨_, zw247, Or.inl rfl⟩, List.forall_mem_cons.mpr ⟨Or.inl ⟨_, zw251, Or.inl rfl⟩, List.forall_mem_cons.mpr ⟨Or.inl ⟨_, zw249, Or.inl rfl⟩, List.forall_mem_cons.mpr ⟨Or.inl ⟨_, zw187, Or.inl rfl⟩, List.forall_mem_cons.mpr ⟨Or.inl ⟨_, zw189, Or.inl rfl⟩, List.forall_mem_cons.mpr ⟨Or.inl ⟨_, zw191, Or.inl rfl⟩, List.forall_mem_cons.mpr ⟨Or.inl ⟨_, zw193, Or.inl rfl⟩, List.forall_mem_cons.mpr ⟨Or.inl ⟨_, zw194, Or.inl rfl⟩, List.forall_mem_cons.mpr ⟨Or.inl ⟨_, zw196, Or.inl rfl⟩, List.forall_mem_cons.mpr ⟨Or.inl ⟨_, zw201, Or.inl rfl⟩, List.forall_mem_cons.mpr ⟨Or.inl ⟨_, zw203, Or.inl rfl⟩, List.forall_mem_cons.mpr ⟨Or.inl ⟨_, zw205, Or.inl rfl⟩, List.forall_mem_cons.mpr ⟨Or.inl ⟨_, zw198, Or.inl rfl⟩, List.forall_mem_cons.mpr ⟨Or.inr ⟨_, (zNF_in 0 rfl), by decide +kernel⟩, List.forall_mem_cons.mpr ⟨Or.inr ⟨_, (zNF_in 1 rfl), by decide +kernel⟩, List.forall_mem_cons.mpr ⟨Or.inr ⟨_, (zNF_in 2 rfl), by decide +kernel⟩, List.forall_mem_cons.mpr ⟨Or.inr ⟨_, (zNF_in 3 rfl), by decide +kernel⟩, List.forall_mem_cons.mpr ⟨Or.inl ⟨_, zw199, Or.inl rfl⟩, List.forall_mem_cons.mpr ⟨Or.inl ⟨_, zw206, Or.inl rfl⟩, List.forall_mem_cons.mpr ⟨Or.inl ⟨_, zw324, Or.inl rfl⟩, List.forall_mem_cons.mpr ⟨Or.inl ⟨_, zw325, Or.inl rfl⟩, List.forall_mem_cons.mpr ⟨Or.inl ⟨_, zw326, Or.inl rfl⟩, List.forall_mem_cons.mpr ⟨Or.inl ⟨_, zw327, Or.inl rfl⟩, List.forall_mem_cons.mpr ⟨Or.inl ⟨_, zw328, Or.inl rfl⟩, List.forall_mem_cons.mpr ⟨Or.inl ⟨_, zw329, Or.inl rfl⟩, List.forall_mem_cons.mpr ⟨Or.inl ⟨_, zw330, Or.inl rfl⟩, List.forall_mem_cons.mpr ⟨Or.inr ⟨_, (zNF_in 4 rfl), by decide +kernel⟩, fun _ h => absurd h List.not_mem_nil⟩⟩⟩⟩⟩⟩⟩⟩⟩⟩⟩⟩⟩⟩⟩⟩⟩⟩⟩⟩⟩⟩⟩⟩⟩⟩⟩⟩⟩⟩⟩⟩⟩⟩⟩⟩⟩⟩⟩⟩
theorem zFL_1 : ∀ q ∈ ([(5, 98, 37), (5, 121, 36), (5, 148, 20), (5, 167, 8), (5, 172, 21), (5, 186, 17), (5, 198, 35), (5, 201, 24), (5, 204, 25), (5, 218, 23), (5, 229, 13), (5, 230, 39), (5, 236, 0), (5, 279, 18), (5, 292, 10), (5, 295, 11), (5, 298, 12), (5, 306, 2), (5, 309, 3), (5, 312, 38), (5, 315, 14), (5, 318, 15), (5, 321, 27), (5, 406, 16), (7, 7, 44), (7, 13, 45), (7, 16, 46), (7, 20, 48), (7, 23, 49), (7, 26, 54), (7, 31, 59), (7, 34, 60), (7, 37, 61), (7, 40, 62), (7, 43, 63), (7, 46, 64), (7, 50, 65), (7, 56, 66), (7, 60, 67), (7, 63, 68)] : List (Nat × Nat × Nat)), zFok q := List.forall_mem_cons.mpr ⟨Or.inl ⟨_, zw333, Or.inl rfl⟩, List.forall_mem_cons.mpr ⟨Or.inl ⟨_, zw332, Or.inl rfl⟩, List.forall_mem_cons.mpr ⟨Or.inr ⟨_, (zNF_in 5 rfl), by decide +kernel⟩, List.forall_mem_cons.mpr ⟨Or.inr ⟨_, (zNF_in 6 rfl), by decide +kernel⟩, List.forall_mem_cons.mpr ⟨Or.inr ⟨_, (zNF_in 7 rfl), by decide +kernel⟩, List.forall_mem_cons.mpr ⟨Or.inr ⟨_, (zNF_in 8 rfl), by decide +kernel⟩, List.forall_mem_cons.mpr ⟨Or.inl ⟨_, zw331, Or.inl rfl⟩, List.forall_mem_cons.mpr ⟨Or.inr ⟨_, (zNF_in 9 rfl), by decide +kernel⟩, List.forall_mem_cons.mpr ⟨Or.inr ⟨_, (zNF_in 10 rfl), by decide +kernel⟩, List.forall_mem_cons.mpr ⟨Or.inr ⟨_, (zNF_in 11 rfl), by decide +kernel⟩, List.forall_mem_cons.mpr ⟨Or.inr ⟨_, (zNF_in 12 rfl), by decide +kernel⟩, List.forall_mem_cons.mpr ⟨Or.inl ⟨_, zw335, Or.inl rfl⟩, List.forall_mem_cons.mpr ⟨Or.inr ⟨_, (zNF_in 13 rfl), by decide +kernel⟩, List.forall_mem_cons.mpr ⟨Or.inr ⟨_, (zNF_in 14 rfl), by decide +kernel⟩, List.forall_mem_cons.mpr ⟨Or.inr ⟨_, (zNF_in 15 rfl), by decide +kernel⟩, List.forall_mem_cons.mpr ⟨Or.inr ⟨_, (zNF_in 16 rfl), by decide +kernel⟩, List.forall_mem_cons.mpr ⟨Or.inr ⟨_, (zNF_in 17 rfl), by decide +kernel⟩, List.forall_mem_cons.mpr ⟨Or.inr ⟨_, (zNF_in 18 rfl), by decide +kernel⟩, List.forall_mem_cons.mpr ⟨Or.inr ⟨_, (zNF_in 19 rfl), by decide +kernel⟩, List.forall_mem_cons.mpr ⟨Or.inl ⟨_, zw334, Or.inl rfl⟩, List.forall_mem_cons.mpr ⟨Or.inr ⟨_, (zNF_in 20 rfl), by decide +kernel⟩, List.forall_mem_cons.mpr ⟨Or.inr ⟨_, (zNF_in 21 rfl), by decide +kernel⟩, List.forall_mem_cons.mpr ⟨Or.inr ⟨_, (zNF_in 22 rfl), by decide +kernel⟩, List.forall_mem_cons.mpr ⟨Or.inr ⟨_, (zNF_in 23 rfl), by decide +kernel⟩, List.forall_mem_cons.mpr ⟨Or.inl ⟨_, zw1270, Or.inl rfl⟩, List.forall_mem_cons.mpr ⟨Or.inl ⟨_, zw1271, Or.inl rfl⟩, List.forall_mem_cons.mpr ⟨Or.inl ⟨_, zw1272, Or.inl rfl⟩, List.forall_mem_cons.mpr ⟨Or.inl ⟨_, zw1274, Or.inl rfl⟩, List.forall_mem_cons.mpr ⟨Or.inl ⟨_, zw1275, Or.inl rfl⟩, List.forall_mem_cons.mpr ⟨Or.inl ⟨_, zw1280, Or.inl rfl⟩, List.forall_mem_cons.mpr ⟨Or.inl ⟨_, zw1285, Or.inl rfl⟩, List.forall_mem_cons.mpr ⟨Or.inl ⟨_, zw1286, Or.inl rfl⟩, List.forall_mem_cons.mpr ⟨Or.inl ⟨_, zw1287, Or.inl rfl⟩, List.forall_mem_cons.mpr ⟨Or.inl ⟨_, zw1288, Or.inl rfl⟩, List.forall_mem_cons.mpr ⟨Or.inl ⟨_, zw1289, Or.inl rfl⟩, List.forall_mem_cons.mpr ⟨Or.inl ⟨_, zw1290, Or.inl rfl⟩, List.forall_mem_cons.mpr ⟨Or.inl ⟨_, zw1291, Or.inl rfl⟩, List.forall_mem_cons.mpr ⟨Or.inl ⟨_, zw1292, Or.inl rfl⟩, List.forall_mem_cons.mpr ⟨Or.inl ⟨_, zw1293, Or.inl rfl⟩, List.forall_mem_cons.mpr ⟨Or.inl ⟨_, zw1294, Or.inl rfl⟩, fun _ h => absurd h List.not_mem_nil⟩⟩⟩⟩⟩⟩⟩⟩⟩⟩⟩⟩⟩⟩⟩⟩⟩⟩⟩⟩⟩⟩⟩⟩⟩⟩⟩⟩⟩⟩⟩⟩⟩⟩⟩⟩⟩⟩⟩⟩
theorem zFL_2 : ∀ q ∈ ([(7, 70, 43), (7, 111, 55), (7, 114, 47), (7, 127, 57), (7, 130, 58), (7, 154, 51), (7, 167, 52), (7, 170, 50), (7, 173, 53), (7, 204, 56), (8, 13, 40), (8, 91, 41), (8, 99, 42), (9, 9, 73), (9, 15, 74), (9, 1048, 71), (14, 15, 69), (14, 22, 70), (14, 79, 72), (18, 9, 78), (18, 48, 79), (18, 63, 77), (20, 7, 77)] : List (Nat × Nat × Nat)), zFok q := List.forall_mem_cons.mpr ⟨Or.inl ⟨_, zw1269, Or.inl rfl⟩, List.forall_mem_cons.mpr ⟨Or.inl ⟨_, zw1281, Or.inl rfl⟩, List.forall_mem_cons.mpr ⟨Or.inl ⟨_, zw1273, Or.inl rfl⟩, List.forall_mem_cons.mpr ⟨Or.inl ⟨_, zw1283, Or.inl rfl⟩, List.forall_mem_cons.mpr ⟨Or.inl ⟨_, zw1284, Or.inl rfl⟩, List.forall_mem_cons.mpr ⟨Or.inl ⟨_, zw1277, Or.inl rfl⟩, List.forall_mem_cons.mpr ⟨Or.inl ⟨_, zw1278, Or.inl rfl⟩, List.forall_mem_cons.mpr ⟨Or.inl ⟨_, zw1276, Or.inl rfl⟩, List.forall_mem_cons.mpr ⟨Or.inl ⟨_, zw1279, Or.inl rfl⟩, List.forall_mem_cons.mpr ⟨Or.inl ⟨_, zw1282, Or.inl rfl⟩, List.forall_mem_cons.mpr ⟨Or.inr ⟨_, (zNF_in 24 rfl), by decide +kernel⟩, List.forall_mem_cons.mpr ⟨Or.inr ⟨_, (zNF_in 25 rfl), by decide +kernel⟩, List.forall_mem_cons.mpr ⟨Or.inr ⟨_, (zNF_in 26 rfl), by decide +kernel⟩, List.forall_mem_cons.mpr ⟨Or.inl ⟨_, zw1205, Or.inl rfl⟩, List.forall_mem_cons.mpr ⟨Or.inl ⟨_, zw1206, Or.inl rfl⟩, List.forall_mem_cons.mpr ⟨Or.inl ⟨_, zw968, Or.inl rfl⟩, List.forall_mem_cons.mpr ⟨Or.inl ⟨_, zw966, Or.inl rfl⟩, List.forall_mem_cons.mpr ⟨Or.inl ⟨_, zw967, Or.inl rfl⟩, List.forall_mem_cons.mpr ⟨Or.inl ⟨_, zw969, Or.inl rfl⟩, List.forall_mem_cons.mpr ⟨Or.inl ⟨_, zw1250, Or.inl rfl⟩, List.forall_mem_cons.mpr ⟨Or.inl ⟨_, zw1251, Or.inl rfl⟩, List.forall_mem_cons.mpr ⟨Or.inl ⟨_, zw1253, Or.inr zw1254⟩, List.forall_mem_cons.mpr ⟨Or.inl ⟨_, zw1252, Or.inl rfl⟩, fun _ h => absurd h List.not_mem_nil⟩⟩⟩⟩⟩⟩⟩⟩⟩⟩⟩⟩⟩⟩⟩⟩⟩⟩⟩⟩⟩⟩⟩
theorem zFL_ok : ∀ q ∈ zFL, zFok q := List.forall_mem_append.mpr ⟨zFL_0, List.forall_mem_append.mpr ⟨zFL_1, zFL_2⟩⟩
def zSL : List (Nat × Nat × Nat) := [(0, 23, 229), (0, 29, 1), (3, 55, 34), (3, 59, 229), (5, 71, 2), (5, 83, 82), (5, 95, 89), (5, 177, 84), (5, 182, 88), (5, 215, 85), (5, 253, 12), (5, 271, 83), (5, 362, 107), (7, 66, 116), (7, 73, 114), (7, 77, 113), (7, 117, 112), (7, 164, 131), (7, 182, 115), (7, 188, 138), (7, 198, 149), (7, 285, 184), (8, 117, 189), (8, 123, 190), (8, 126, 191), (8, 130, 192), (8, 133, 193), (8, 137, 194), (8, 141, 195), (8, 144, 196), (8, 148, 197), (8, 151, 198), (8, 155, 199), (8, 167, 200), (8, 170, 201), (8, 173, 202), (8, 176, 203), (8, 179, 204), (8, 182, 205), (8, 185, 206), (8, 188, 207), (8, 191, 208), (8, 194, 209), (8, 197, 210), (8, 200, 211), (8, 203, 212), (8, 206, 213), (9, 54, 232), (10, 105, 219), (14, 191, 218), (16, 300, 234), (16, 339, 231), (16, 343, 230), (18, 66, 233), (18, 73, 235), (18, 118, 217)]
theorem zSL_0 : ∀ q ∈ ([(0, 23, 229), (0, 29, 1), (3, 55, 34), (3, 59, 229), (5, 71, 2), (5, 83, 82), (5, 95, 89), (5, 177, 84), (5, 182, 88), (5, 215, 85), (5, 253, 12), (5, 271, 83), (5, 362, 107), (7, 66, 116), (7, 73, 114), (7, 77, 113), (7, 117, 112), (7, 164, 131), (7, 182, 115), (7, 188, 138), (7, 198, 149), (7, 285, 184), (8, 117, 189), (8, 123, 190), (8, 126, 191), (8, 130, 192), (8, 133, 193), (8, 137, 194), (8, 141, 195), (8, 144, 196), (8, 148, 197), (8, 151, 198), (8, 155, 199), (8, 167, 200), (8, 170, 201), (8, 173, 202), (8, 176, 203), (8, 179, 204), (8, 182, 205), (8, 185, 206)] : List (Nat × Nat × Nat)), zSok q := List.forall_mem_cons.mpr ⟨⟨zw280, zw281⟩, List.forall_mem_cons.mpr ⟨⟨zw715, zw716⟩, List.forall_mem_cons.mpr ⟨⟨zw557, zw558⟩, List.forall_mem_cons.mpr ⟨⟨zw560, zw281⟩, List.forall_mem_cons.mpr ⟨⟨zw712, zw713⟩, List.forall_mem_cons.mpr ⟨⟨zw619, zw620⟩, List.forall_mem_cons.mpr ⟨⟨zw652, zw653⟩, List.forall_mem_cons.mpr ⟨⟨zw842, zw843⟩, List.forall_mem_cons.mpr ⟨⟨zw565, zw566⟩, List.forall_mem_cons.mpr ⟨⟨zw665, zw666⟩, List.forall_mem_cons.mpr ⟨⟨zw792, zw793⟩, List.forall_mem_cons.mpr ⟨⟨zw532, zw533⟩, List.forall_mem_cons.mpr ⟨⟨zw479, zw480⟩, List.forall_mem_cons.mpr ⟨⟨zw1263, zw1264⟩, List.forall_mem_cons.mpr ⟨⟨zw1266, zw1267⟩, List.forall_mem_cons.mpr ⟨⟨zw1480, zw1481⟩, List.forall_mem_cons.mpr ⟨⟨zw1352, zw1353⟩, List.forall_mem_cons.mpr ⟨⟨zw1487, zw1488⟩, List.forall_mem_cons.mpr ⟨⟨zw1355, zw1356⟩, List.forall_mem_cons.mpr ⟨⟨zw1453, zw1454⟩, List.forall_mem_cons.mpr ⟨⟨zw1554, zw1555⟩, List.forall_mem_cons.mpr ⟨⟨zw1716, zw1717⟩, List.forall_mem_cons.mpr ⟨⟨zw702, zw703⟩, List.forall_mem_cons.mpr ⟨⟨zw720, zw721⟩, List.forall_mem_cons.mpr ⟨⟨zw780, zw781⟩, List.forall_mem_cons.mpr ⟨⟨zw804, zw805⟩, List.forall_mem_cons.mpr ⟨⟨zw816, zw817⟩, List.forall_mem_cons.mpr ⟨⟨zw826, zw827⟩, List.forall_mem_cons.mpr ⟨⟨zw835, zw836⟩, List.forall_mem_cons.mpr ⟨⟨zw847, zw848⟩, List.forall_mem_cons.mpr ⟨⟨zw857, zw858⟩, List.forall_mem_cons.mpr ⟨⟨zw869, zw870⟩, List.forall_mem_cons.mpr ⟨⟨zw876, zw877⟩, List.forall_mem_cons.mpr ⟨⟨zw892, zw893⟩, List.forall_mem_cons.mpr ⟨⟨zw896, zw897⟩, List.forall_mem_cons.mpr ⟨⟨zw903, zw904⟩, List.forall_mem_cons.mpr ⟨⟨zw913, zw914⟩, List.forall_mem_cons.mpr ⟨⟨zw917, zw918⟩, List.forall_mem_cons.mpr ⟨⟨zw921, zw922⟩, List.forall_mem_cons.mpr ⟨⟨zw925, zw926⟩, fun _ h => absurd h List.not_mem_nil⟩⟩⟩⟩⟩⟩⟩⟩⟩⟩⟩⟩⟩⟩⟩⟩⟩⟩⟩⟩⟩⟩⟩⟩⟩⟩⟩⟩⟩⟩⟩⟩⟩⟩⟩⟩⟩⟩⟩⟩
theorem zSL_1 : ∀ q ∈ ([(8, 188, 207), (8, 191, 208), (8, 194, 209), (8, 197, 210), (8, 200, 211), (8, 203, 212), (8, 206, 213), (9, 54, 232), (10, 105, 219), (14, 191, 218), (16, 300, 234), (16, 339, 231), (16, 343, 230), (18, 66, 233), (18, 73, 235), (18, 118, 217)] : List (Nat × Nat × Nat)), zSok q := List.forall_mem_cons.mpr ⟨⟨zw929, zw930⟩, List.forall_mem_cons.mpr ⟨⟨zw933, zw934⟩, List.forall_mem_cons.mpr ⟨⟨zw937, zw938⟩, List.forall_mem_cons.mpr ⟨⟨zw941, zw942⟩, List.forall_mem_cons.mpr ⟨⟨zw1216, zw1217⟩, List.forall_mem_cons.mpr ⟨⟨zw1220, zw1221⟩, List.forall_mem_cons.mpr ⟨⟨zw1224, zw1225⟩, List.forall_mem_cons.mpr ⟨⟨zw1105, zw1106⟩, List.forall_mem_cons.mpr ⟨⟨zw1384, zw1076⟩, List.forall_mem_cons.mpr ⟨⟨zw1030, zw1031⟩, List.forall_mem_cons.mpr ⟨⟨zw1433, zw1434⟩, List.forall_mem_cons.mpr ⟨⟨zw1108, zw1109⟩, List.forall_mem_cons.mpr ⟨⟨zw1111, zw1112⟩, List.forall_mem_cons.mpr ⟨⟨zw1412, zw1413⟩, List.forall_mem_cons.mpr ⟨⟨zw1411, zw999⟩, List.forall_mem_cons.mpr ⟨⟨zw1381, zw1382⟩, fun _ h => absurd h List.not_mem_nil⟩⟩⟩⟩⟩⟩⟩⟩⟩⟩⟩⟩⟩⟩⟩⟩
theorem zSL_ok : ∀ q ∈ zSL, zSok q := List.forall_mem_append.mpr ⟨zSL_0, zSL_1⟩
def zVL : List (Nat × Nat × Nat × Nat) := [(0, 43, 4, 0), (0, 46, 26, 2), (0, 50, 27, 2), (0, 53, 25, 2), (0, 56, 8, 0), (0, 59, 9, 0), (0, 62, 6, 0), (0, 66, 17, 0), (0, 69, 16, 0), (1, 30, 20, 1), (1, 34, 26, 2), (1, 38, 25, 2), (1, 42, 21, 1), (3, 36, 26, 2), (3, 40, 35, 3), (3, 44, 33, 3), (3, 48, 25, 2), (3, 51, 37, 3), (3, 64, 36, 3), (4, 52, 22, 1), (4, 55, 27, 2), (4, 58, 41, 4), (4, 62, 42, 4), (4, 66, 26, 2), (4, 75, 25, 2), (4, 88, 44, 4), (4, 91, 45, 4), (4, 98, 47, 4), (4, 102, 49, 4), (4, 106, 50, 4), (5, 48, 26, 2), (5, 52, 3, 0), (5, 59, 40, 4), (5, 77, 27, 2), (5, 80, 30, 3), (5, 86, 86, 5), (5, 89, 87, 5), (5, 92, 101, 5), (5, 102, 96, 5), (5, 106, 92, 5), (5, 109, 90, 5), (5, 112, 43, 4), (5, 115, 97, 5), (5, 118, 95, 5), (5, 124, 103, 5), (5, 128, 104, 5), (5, 131, 5, 0), (5, 137, 91, 5), (5, 140, 41, 4), (5, 143, 7, 0), (5, 152, 20, 1), (5, 163, 21, 1), (5, 189, 25, 2), (5, 209, 106, 5), (5, 212, 28, 2), (5, 223, 46, 4), (5, 226, 105, 5), (5, 239, 14, 0), (5, 244, 8, 0), (5, 247, 11, 0), (5, 250, 9, 0), (5, 256, 13, 0), (5, 263, 15, 0), (5, 266, 23, 1), (5, 276, 93, 5), (5, 282, 99, 5), (5, 285, 100, 5), (5, 303, 32, 3), (5, 326, 10, 0), (5, 334, 98, 5), (5, 338, 220, 8), (5, 342, 222, 8), (5, 346, 48, 4), (5, 349, 18, 0), (5, 352, 51, 4), (5, 353, 38, 3), (5, 354, 94, 5), (5, 359, 74, 5), (5, 366, 66, 5), (5, 369, 69, 5), (5, 372, 108, 5), (5, 376, 70, 5), (5, 379, 77, 5), (5, 382, 72, 5), (5, 385, 79, 5), (5, 388, 80, 5), (5, 399, 6, 0), (5, 408, 102, 5), (5, 411, 31, 3), (5, 414, 73, 5), (5, 418, 78, 5), (5, 421, 75, 5), (5, 425, 71, 5), (7, 81, 118, 7), (7, 84, 120, 7), (7, 87, 121, 7), (7, 90, 122, 7), (7, 93, 124, 7), (7, 107, 126, 7), (7, 121, 128, 7), (7, 124, 117, 7), (7, 137, 129, 7), (7, 141, 119, 7), (7, 144, 127, 7), (7, 148, 125, 7), (7, 151, 130, 7), (7, 158, 123, 7), (7, 161, 133, 7), (7, 176, 135, 7), (7, 179, 136, 7), (7, 185, 111, 7), (7, 192, 132, 7), (7, 195, 134, 7), (7, 202, 137, 7), (7, 207, 156, 7), (7, 210, 158, 7), (7, 214, 159, 7), (7, 218, 162, 7), (7, 221, 161, 7), (7, 224, 163, 7), (7, 227, 166, 7), (7, 235, 167, 7), (7, 239, 168, 7), (7, 242, 169, 7), (7, 246, 171, 7), (7, 251, 173, 7), (7, 260, 220, 8), (7, 264, 222, 8), (7, 268, 176, 7), (7, 271, 177, 7), (7, 274, 179, 7), (7, 277, 181, 7), (7, 281, 182, 7), (7, 289, 183, 7), (7, 292, 186, 7), (8, 7, 53, 5), (8, 21, 54, 5), (8, 28, 55, 5), (8, 32, 56, 5), (8, 35, 57, 5), (8, 39, 58, 5), (8, 43, 59, 5), (8, 46, 60, 5), (8, 50, 61, 5), (8, 53, 62, 5), (8, 57, 63, 5), (8, 60, 66, 5), (8, 63, 67, 5), (8, 66, 68, 5), (8, 69, 69, 5), (8, 72, 70, 5), (8, 75, 71, 5), (8, 78, 72, 5), (8, 81, 73, 5), (8, 84, 74, 5), (8, 87, 75, 5), (8, 95, 76, 5), (8, 103, 77, 5), (8, 106, 78, 5), (8, 109, 79, 5), (8, 122, 139, 7), (8, 125, 140, 7), (8, 129, 141, 7), (8, 132, 142, 7), (8, 136, 143, 7), (8, 140, 144, 7), (8, 143, 145, 7), (8, 147, 146, 7), (8, 150, 147, 7), (8, 154, 148, 7), (8, 157, 150, 7), (8, 158, 64, 5), (8, 162, 151, 7), (8, 163, 65, 5), (8, 166, 152, 7), (8, 169, 153, 7), (8, 172, 154, 7), (8, 175, 155, 7), (8, 178, 157, 7), (8, 181, 160, 7), (8, 184, 164, 7), (8, 187, 165, 7), (8, 190, 170, 7), (8, 193, 172, 7), (8, 196, 174, 7), (8, 199, 175, 7), (8, 202, 178, 7), (8, 205, 180, 7), (8, 208, 185, 7), (8, 209, 80, 5), (8, 213, 187, 7), (8, 214, 81, 5), (8, 218, 188, 7), (16, 61, 222, 8), (18, 69, 240, 10), (18, 123, 238, 10), (18, 129, 241, 10), (18, 131, 236, 10)]
theorem zVL_0 : ∀ q ∈ ([(0, 43, 4, 0), (0, 46, 26, 2), (0, 50, 27, 2), (0, 53, 25, 2), (0, 56, 8, 0), (0, 59, 9, 0), (0, 62, 6, 0), (0, 66, 17, 0), (0, 69, 16, 0), (1, 30, 20, 1), (1, 34, 26, 2), (1, 38, 25, 2), (1, 42, 21, 1), (3, 36, 26, 2), (3, 40, 35, 3), (3, 44, 33, 3), (3, 48, 25, 2), (3, 51, 37, 3), (3, 64, 36, 3), (4, 52, 22, 1), (4, 55, 27, 2), (4, 58, 41, 4), (4, 62, 42, 4), (4, 66, 26, 2), (4, 75, 25, 2), (4, 88, 44, 4), (4, 91, 45, 4), (4, 98, 47, 4), (4, 102, 49, 4), (4, 106, 50, 4), (5, 48, 26, 2), (5, 52, 3, 0), (5, 59, 40, 4), (5, 77, 27, 2), (5, 80, 30, 3), (5, 86, 86, 5), (5, 89, 87, 5), (5, 92, 101, 5), (5, 102, 96, 5), (5, 106, 92, 5)] : List (Nat × Nat × Nat × Nat)), zVok q := List.forall_mem_cons.mpr ⟨⟨zw276, zw278, zw0, rfl⟩, List.forall_mem_cons.mpr ⟨⟨zw286, zw269, zw270, rfl⟩, List.forall_mem_cons.mpr ⟨⟨zw287, zw288, zw289, rfl⟩, List.forall_mem_cons.mpr ⟨⟨zw291, zw292, zw293, rfl⟩, List.forall_mem_cons.mpr ⟨⟨zw580, zw581, zw582, rfl⟩, List.forall_mem_cons.mpr ⟨⟨zw627, zw628, zw629, rfl⟩, List.forall_mem_cons.mpr ⟨⟨zw648, zw649, zw650, rfl⟩, List.forall_mem_cons.mpr ⟨⟨zw516, zw518, zw5, rfl⟩, List.forall_mem_cons.mpr ⟨⟨zw520, zw522, zw6, rfl⟩, List.forall_mem_cons.mpr ⟨⟨zw308, zw309, zw310, rfl⟩, List.forall_mem_cons.mpr ⟨⟨zw312, zw269, zw270, rfl⟩, List.forall_mem_cons.mpr ⟨⟨zw303, zw292, zw293, rfl⟩, List.forall_mem_cons.mpr ⟨⟨zw304, zw305, zw306, rfl⟩, List.forall_mem_cons.mpr ⟨⟨zw799, zw269, zw270, rfl⟩, List.forall_mem_cons.mpr ⟨⟨zw540, zw542, zw8, rfl⟩, List.forall_mem_cons.mpr ⟨⟨zw553, zw555, zw11, rfl⟩, List.forall_mem_cons.mpr ⟨⟨zw544, zw292, zw293, rfl⟩, List.forall_mem_cons.mpr ⟨⟨zw545, zw547, zw9, rfl⟩, List.forall_mem_cons.mpr ⟨⟨zw549, zw551, zw10, rfl⟩, List.forall_mem_cons.mpr ⟨⟨zw299, zw300, zw301, rfl⟩, List.forall_mem_cons.mpr ⟨⟨zw313, zw288, zw289, rfl⟩, List.forall_mem_cons.mpr ⟨⟨zw314, zw315, zw316, rfl⟩, List.forall_mem_cons.mpr ⟨⟨zw318, zw320, zw1, rfl⟩, List.forall_mem_cons.mpr ⟨⟨zw323, zw269, zw270, rfl⟩, List.forall_mem_cons.mpr ⟨⟨zw322, zw292, zw293, rfl⟩, List.forall_mem_cons.mpr ⟨⟨zw763, zw765, zw26, rfl⟩, List.forall_mem_cons.mpr ⟨⟨zw767, zw769, zw27, rfl⟩, List.forall_mem_cons.mpr ⟨⟨zw681, zw683, zw22, rfl⟩, List.forall_mem_cons.mpr ⟨⟨zw673, zw675, zw20, rfl⟩, List.forall_mem_cons.mpr ⟨⟨zw677, zw679, zw21, rfl⟩, List.forall_mem_cons.mpr ⟨⟨zw268, zw269, zw270, rfl⟩, List.forall_mem_cons.mpr ⟨⟨zw272, zw273, zw274, rfl⟩, List.forall_mem_cons.mpr ⟨⟨zw295, zw296, zw297, rfl⟩, List.forall_mem_cons.mpr ⟨⟨zw719, zw288, zw289, rfl⟩, List.forall_mem_cons.mpr ⟨⟨zw365, zw366, zw367, rfl⟩, List.forall_mem_cons.mpr ⟨⟨zw729, zw731, zw23, rfl⟩, List.forall_mem_cons.mpr ⟨⟨zw735, zw737, zw24, rfl⟩, List.forall_mem_cons.mpr ⟨⟨zw755, zw757, zw25, rfl⟩, List.forall_mem_cons.mpr ⟨⟨zw636, zw638, zw18, rfl⟩, List.forall_mem_cons.mpr ⟨⟨zw601, zw603, zw16, rfl⟩, fun _ h => absurd h List.not_mem_nil⟩⟩⟩⟩⟩⟩⟩⟩⟩⟩⟩⟩⟩⟩⟩⟩⟩⟩⟩⟩⟩⟩⟩⟩⟩⟩⟩⟩⟩⟩⟩⟩⟩⟩⟩⟩⟩⟩⟩⟩
theorem zVL_1 : ∀ q ∈ ([(5, 109, 90, 5), (5, 112, 43, 4), (5, 115, 97, 5), (5, 118, 95, 5), (5, 124, 103, 5), (5, 128, 104, 5), (5, 131, 5, 0), (5, 137, 91, 5), (5, 140, 41, 4), (5, 143, 7, 0), (5, 152, 20, 1), (5, 163, 21, 1), (5, 189, 25, 2), (5, 209, 106, 5), (5, 212, 28, 2), (5, 223, 46, 4), (5, 226, 105, 5), (5, 239, 14, 0), (5, 244, 8, 0), (5, 247, 11, 0), (5, 250, 9, 0), (5, 256, 13, 0), (5, 263, 15, 0), (5, 266, 23, 1), (5, 276, 93, 5), (5, 282, 99, 5), (5, 285, 100, 5), (5, 303, 32, 3), (5, 326, 10, 0), (5, 334, 98, 5), (5, 338, 220, 8), (5, 342, 222, 8), (5, 346, 48, 4), (5, 349, 18, 0), (5, 352, 51, 4), (5, 353, 38, 3), (5, 354, 94, 5), (5, 359, 74, 5), (5, 366, 66, 5), (5, 369, 69, 5)] : List (Nat × Nat × Nat × Nat)), zVok q := List.forall_mem_cons.mpr ⟨⟨zw568, zw570, zw12, rfl⟩, List.forall_mem_cons.mpr ⟨⟨zw759, zw760, zw761, rfl⟩, List.forall_mem_cons.mpr ⟨⟨zw640, zw642, zw19, rfl⟩, List.forall_mem_cons.mpr ⟨⟨zw597, zw599, zw15, rfl⟩, List.forall_mem_cons.mpr ⟨⟨zw787, zw789, zw29, rfl⟩, List.forall_mem_cons.mpr ⟨⟨zw800, zw802, zw30, rfl⟩, List.forall_mem_cons.mpr ⟨⟨zw811, zw812, zw813, rfl⟩, List.forall_mem_cons.mpr ⟨⟨zw605, zw607, zw17, rfl⟩, List.forall_mem_cons.mpr ⟨⟨zw779, zw315, zw316, rfl⟩, List.forall_mem_cons.mpr ⟨⟨zw487, zw488, zw489, rfl⟩, List.forall_mem_cons.mpr ⟨⟨zw823, zw309, zw310, rfl⟩, List.forall_mem_cons.mpr ⟨⟨zw825, zw305, zw306, rfl⟩, List.forall_mem_cons.mpr ⟨⟨zw393, zw292, zw293, rfl⟩, List.forall_mem_cons.mpr ⟨⟨zw865, zw867, zw31, rfl⟩, List.forall_mem_cons.mpr ⟨⟨zw407, zw408, zw409, rfl⟩, List.forall_mem_cons.mpr ⟨⟨zw884, zw885, zw886, rfl⟩, List.forall_mem_cons.mpr ⟨⟨zw888, zw890, zw32, rfl⟩, List.forall_mem_cons.mpr ⟨⟨zw775, zw776, zw777, rfl⟩, List.forall_mem_cons.mpr ⟨⟨zw911, zw581, zw582, rfl⟩, List.forall_mem_cons.mpr ⟨⟨zw623, zw624, zw625, rfl⟩, List.forall_mem_cons.mpr ⟨⟨zw791, zw628, zw629, rfl⟩, List.forall_mem_cons.mpr ⟨⟨zw644, zw645, zw646, rfl⟩, List.forall_mem_cons.mpr ⟨⟨zw512, zw513, zw514, rfl⟩, List.forall_mem_cons.mpr ⟨⟨zw588, zw589, zw590, rfl⟩, List.forall_mem_cons.mpr ⟨⟨zw394, zw396, zw3, rfl⟩, List.forall_mem_cons.mpr ⟨⟨zw584, zw586, zw14, rfl⟩, List.forall_mem_cons.mpr ⟨⟨zw572, zw574, zw13, rfl⟩, List.forall_mem_cons.mpr ⟨⟨zw536, zw537, zw538, rfl⟩, List.forall_mem_cons.mpr ⟨⟨zw576, zw577, zw578, rfl⟩, List.forall_mem_cons.mpr ⟨⟨zw979, zw981, zw33, rfl⟩, List.forall_mem_cons.mpr ⟨⟨zw983, zw984, zw985, rfl⟩, List.forall_mem_cons.mpr ⟨⟨zw1078, zw1079, zw1080, rfl⟩, List.forall_mem_cons.mpr ⟨⟨zw669, zw670, zw671, rfl⟩, List.forall_mem_cons.mpr ⟨⟨zw377, zw378, zw379, rfl⟩, List.forall_mem_cons.mpr ⟨⟨zw381, zw382, zw383, rfl⟩, List.forall_mem_cons.mpr ⟨⟨zw385, zw386, zw387, rfl⟩, List.forall_mem_cons.mpr ⟨⟨zw389, zw391, zw2, rfl⟩, List.forall_mem_cons.mpr ⟨⟨zw403, zw404, zw405, rfl⟩, List.forall_mem_cons.mpr ⟨⟨zw483, zw484, zw485, rfl⟩, List.forall_mem_cons.mpr ⟨⟨zw507, zw508, zw509, rfl⟩, fun _ h => absurd h List.not_mem_nil⟩⟩⟩⟩⟩⟩⟩⟩⟩⟩⟩⟩⟩⟩⟩⟩⟩⟩⟩⟩⟩⟩⟩⟩⟩⟩⟩⟩⟩⟩⟩⟩⟩⟩⟩⟩⟩⟩⟩⟩
theorem zVL_2 : ∀ q ∈ ([(5, 372, 108, 5), (5, 376, 70, 5), (5, 379, 77, 5), (5, 382, 72, 5), (5, 385, 79, 5), (5, 388, 80, 5), (5, 399, 6, 0), (5, 408, 102, 5), (5, 411, 31, 3), (5, 414, 73, 5), (5, 418, 78, 5), (5, 421, 75, 5), (5, 425, 71, 5), (7, 81, 118, 7), (7, 84, 120, 7), (7, 87, 121, 7), (7, 90, 122, 7), (7, 93, 124, 7), (7, 107, 126, 7), (7, 121, 128, 7), (7, 124, 117, 7), (7, 137, 129, 7), (7, 141, 119, 7), (7, 144, 127, 7), (7, 148, 125, 7), (7, 151, 130, 7), (7, 158, 123, 7), (7, 161, 133, 7), (7, 176, 135, 7), (7, 179, 136, 7), (7, 185, 111, 7), (7, 192, 132, 7), (7, 195, 134, 7), (7, 202, 137, 7), (7, 207, 156, 7), (7, 210, 158, 7), (7, 214, 159, 7), (7, 218, 162, 7), (7, 221, 161, 7), (7, 224, 163, 7)] : List (Nat × Nat × Nat × Nat)), zVok q := List.forall_mem_cons.mpr ⟨⟨zw524, zw526, zw7, rfl⟩, List.forall_mem_cons.mpr ⟨⟨zw615, zw616, zw617, rfl⟩, List.forall_mem_cons.mpr ⟨⟨zw632, zw633, zw634, rfl⟩, List.forall_mem_cons.mpr ⟨⟨zw655, zw656, zw657, rfl⟩, List.forall_mem_cons.mpr ⟨⟨zw661, zw662, zw663, rfl⟩, List.forall_mem_cons.mpr ⟨⟨zw685, zw374, zw375, rfl⟩, List.forall_mem_cons.mpr ⟨⟨zw733, zw649, zw650, rfl⟩, List.forall_mem_cons.mpr ⟨⟨zw771, zw773, zw28, rfl⟩, List.forall_mem_cons.mpr ⟨⟨zw795, zw796, zw797, rfl⟩, List.forall_mem_cons.mpr ⟨⟨zw528, zw529, zw530, rfl⟩, List.forall_mem_cons.mpr ⟨⟨zw561, zw562, zw563, rfl⟩, List.forall_mem_cons.mpr ⟨⟨zw593, zw594, zw595, rfl⟩, List.forall_mem_cons.mpr ⟨⟨zw609, zw610, zw611, rfl⟩, List.forall_mem_cons.mpr ⟨⟨zw1476, zw1478, zw45, rfl⟩, List.forall_mem_cons.mpr ⟨⟨zw1510, zw1512, zw51, rfl⟩, List.forall_mem_cons.mpr ⟨⟨zw1506, zw1508, zw50, rfl⟩, List.forall_mem_cons.mpr ⟨⟨zw1518, zw1520, zw53, rfl⟩, List.forall_mem_cons.mpr ⟨⟨zw1460, zw1462, zw41, rfl⟩, List.forall_mem_cons.mpr ⟨⟨zw1441, zw1443, zw38, rfl⟩, List.forall_mem_cons.mpr ⟨⟨zw1468, zw1470, zw43, rfl⟩, List.forall_mem_cons.mpr ⟨⟨zw1445, zw1447, zw39, rfl⟩, List.forall_mem_cons.mpr ⟨⟨zw1464, zw1466, zw42, rfl⟩, List.forall_mem_cons.mpr ⟨⟨zw1472, zw1474, zw44, rfl⟩, List.forall_mem_cons.mpr ⟨⟨zw1483, zw1485, zw46, rfl⟩, List.forall_mem_cons.mpr ⟨⟨zw1490, zw1492, zw47, rfl⟩, List.forall_mem_cons.mpr ⟨⟨zw1514, zw1516, zw52, rfl⟩, List.forall_mem_cons.mpr ⟨⟨zw1522, zw1524, zw54, rfl⟩, List.forall_mem_cons.mpr ⟨⟨zw1502, zw1504, zw49, rfl⟩, List.forall_mem_cons.mpr ⟨⟨zw1565, zw1567, zw56, rfl⟩, List.forall_mem_cons.mpr ⟨⟨zw1569, zw1571, zw57, rfl⟩, List.forall_mem_cons.mpr ⟨⟨zw1358, zw1360, zw34, rfl⟩, List.forall_mem_cons.mpr ⟨⟨zw1456, zw1458, zw40, rfl⟩, List.forall_mem_cons.mpr ⟨⟨zw1498, zw1500, zw48, rfl⟩, List.forall_mem_cons.mpr ⟨⟨zw1561, zw1563, zw55, rfl⟩, List.forall_mem_cons.mpr ⟨⟨zw1597, zw1599, zw58, rfl⟩, List.forall_mem_cons.mpr ⟨⟨zw1609, zw1611, zw60, rfl⟩, List.forall_mem_cons.mpr ⟨⟨zw1605, zw1607, zw59, rfl⟩, List.forall_mem_cons.mpr ⟨⟨zw1621, zw1623, zw62, rfl⟩, List.forall_mem_cons.mpr ⟨⟨zw1625, zw1627, zw63, rfl⟩, List.forall_mem_cons.mpr ⟨⟨zw1617, zw1619, zw61, rfl⟩, fun _ h => absurd h List.not_mem_nil⟩⟩⟩⟩⟩⟩⟩⟩⟩⟩⟩⟩⟩⟩⟩⟩⟩⟩⟩⟩⟩⟩⟩⟩⟩⟩⟩⟩⟩⟩⟩⟩⟩⟩⟩⟩⟩⟩⟩⟩
theorem zVL_3 : ∀ q ∈ ([(7, 227, 166, 7), (7, 235, 167, 7), (7, 239, 168, 7), (7, 242, 169, 7), (7, 246, 171, 7), (7, 251, 173, 7), (7, 260, 220, 8), (7, 264, 222, 8), (7, 268, 176, 7), (7, 271, 177, 7), (7, 274, 179, 7), (7, 277, 181, 7), (7, 281, 182, 7), (7, 289, 183, 7), (7, 292, 186, 7), (8, 7, 53, 5), (8, 21, 54, 5), (8, 28, 55, 5), (8, 32, 56, 5), (8, 35, 57, 5), (8, 39, 58, 5), (8, 43, 59, 5), (8, 46, 60, 5), (8, 50, 61, 5), (8, 53, 62, 5), (8, 57, 63, 5), (8, 60, 66, 5), (8, 63, 67, 5), (8, 66, 68, 5), (8, 69, 69, 5), (8, 72, 70, 5), (8, 75, 71, 5), (8, 78, 72, 5), (8, 81, 73, 5), (8, 84, 74, 5), (8, 87, 75, 5), (8, 95, 76, 5), (8, 103, 77, 5), (8, 106, 78, 5), (8, 109, 79, 5)] : List (Nat × Nat × Nat × Nat)), zVok q := List.forall_mem_cons.mpr ⟨⟨zw1645, zw1647, zw66, rfl⟩, List.forall_mem_cons.mpr ⟨⟨zw1641, zw1643, zw65, rfl⟩, List.forall_mem_cons.mpr ⟨⟨zw1649, zw1651, zw67, rfl⟩, List.forall_mem_cons.mpr ⟨⟨zw1637, zw1639, zw64, rfl⟩, List.forall_mem_cons.mpr ⟨⟨zw1658, zw1660, zw68, rfl⟩, List.forall_mem_cons.mpr ⟨⟨zw1666, zw1668, zw69, rfl⟩, List.forall_mem_cons.mpr ⟨⟨zw1678, zw984, zw985, rfl⟩, List.forall_mem_cons.mpr ⟨⟨zw1679, zw1079, zw1080, rfl⟩, List.forall_mem_cons.mpr ⟨⟨zw1688, zw1690, zw71, rfl⟩, List.forall_mem_cons.mpr ⟨⟨zw1684, zw1686, zw70, rfl⟩, List.forall_mem_cons.mpr ⟨⟨zw1696, zw1698, zw72, rfl⟩, List.forall_mem_cons.mpr ⟨⟨zw1712, zw1714, zw75, rfl⟩, List.forall_mem_cons.mpr ⟨⟨zw1708, zw1710, zw74, rfl⟩, List.forall_mem_cons.mpr ⟨⟨zw1704, zw1706, zw73, rfl⟩, List.forall_mem_cons.mpr ⟨⟨zw1723, zw1725, zw76, rfl⟩, List.forall_mem_cons.mpr ⟨⟨zw706, zw707, zw708, rfl⟩, List.forall_mem_cons.mpr ⟨⟨zw725, zw726, zw727, rfl⟩, List.forall_mem_cons.mpr ⟨⟨zw783, zw784, zw785, rfl⟩, List.forall_mem_cons.mpr ⟨⟨zw807, zw808, zw809, rfl⟩, List.forall_mem_cons.mpr ⟨⟨zw819, zw820, zw821, rfl⟩, List.forall_mem_cons.mpr ⟨⟨zw829, zw830, zw831, rfl⟩, List.forall_mem_cons.mpr ⟨⟨zw838, zw839, zw840, rfl⟩, List.forall_mem_cons.mpr ⟨⟨zw850, zw851, zw852, rfl⟩, List.forall_mem_cons.mpr ⟨⟨zw860, zw861, zw862, rfl⟩, List.forall_mem_cons.mpr ⟨⟨zw872, zw873, zw874, rfl⟩, List.forall_mem_cons.mpr ⟨⟨zw879, zw880, zw881, rfl⟩, List.forall_mem_cons.mpr ⟨⟨zw895, zw484, zw485, rfl⟩, List.forall_mem_cons.mpr ⟨⟨zw899, zw900, zw901, rfl⟩, List.forall_mem_cons.mpr ⟨⟨zw906, zw907, zw908, rfl⟩, List.forall_mem_cons.mpr ⟨⟨zw916, zw508, zw509, rfl⟩, List.forall_mem_cons.mpr ⟨⟨zw920, zw616, zw617, rfl⟩, List.forall_mem_cons.mpr ⟨⟨zw924, zw610, zw611, rfl⟩, List.forall_mem_cons.mpr ⟨⟨zw928, zw656, zw657, rfl⟩, List.forall_mem_cons.mpr ⟨⟨zw932, zw529, zw530, rfl⟩, List.forall_mem_cons.mpr ⟨⟨zw936, zw404, zw405, rfl⟩, List.forall_mem_cons.mpr ⟨⟨zw940, zw594, zw595, rfl⟩, List.forall_mem_cons.mpr ⟨⟨zw944, zw945, zw946, rfl⟩, List.forall_mem_cons.mpr ⟨⟨zw1219, zw633, zw634, rfl⟩, List.forall_mem_cons.mpr ⟨⟨zw1223, zw562, zw563, rfl⟩, List.forall_mem_cons.mpr ⟨⟨zw1227, zw662, zw663, rfl⟩, fun _ h => absurd h List.not_mem_nil⟩⟩⟩⟩⟩⟩⟩⟩⟩⟩⟩⟩⟩⟩⟩⟩⟩⟩⟩⟩⟩⟩⟩⟩⟩⟩⟩⟩⟩⟩⟩⟩⟩⟩⟩⟩⟩⟩⟩⟩
theorem zVL_4 : ∀ q ∈ ([(8, 122, 139, 7), (8, 125, 140, 7), (8, 129, 141, 7), (8, 132, 142, 7), (8, 136, 143, 7), (8, 140, 144, 7), (8, 143, 145, 7), (8, 147, 146, 7), (8, 150, 147, 7), (8, 154, 148, 7), (8, 157, 150, 7), (8, 158, 64, 5), (8, 162, 151, 7), (8, 163, 65, 5), (8, 166, 152, 7), (8, 169, 153, 7), (8, 172, 154, 7), (8, 175, 155, 7), (8, 178, 157, 7), (8, 181, 160, 7), (8, 184, 164, 7), (8, 187, 165, 7), (8, 190, 170, 7), (8, 193, 172, 7), (8, 196, 174, 7), (8, 199, 175, 7), (8, 202, 178, 7), (8, 205, 180, 7), (8, 208, 185, 7), (8, 209, 80, 5), (8, 213, 187, 7), (8, 214, 81, 5), (8, 218, 188, 7), (16, 61, 222, 8), (18, 69, 240, 10), (18, 123, 238, 10), (18, 129, 241, 10), (18, 131, 236, 10)] : List (Nat × Nat × Nat × Nat)), zVok q := List.forall_mem_cons.mpr ⟨⟨zw1348, zw1349, zw1350, rfl⟩, List.forall_mem_cons.mpr ⟨⟨zw1449, zw1450, zw1451, rfl⟩, List.forall_mem_cons.mpr ⟨⟨zw1494, zw1495, zw1496, rfl⟩, List.forall_mem_cons.mpr ⟨⟨zw1526, zw1527, zw1528, rfl⟩, List.forall_mem_cons.mpr ⟨⟨zw1530, zw1531, zw1532, rfl⟩, List.forall_mem_cons.mpr ⟨⟨zw1534, zw1535, zw1536, rfl⟩, List.forall_mem_cons.mpr ⟨⟨zw1538, zw1539, zw1540, rfl⟩, List.forall_mem_cons.mpr ⟨⟨zw1542, zw1543, zw1544, rfl⟩, List.forall_mem_cons.mpr ⟨⟨zw1546, zw1547, zw1548, rfl⟩, List.forall_mem_cons.mpr ⟨⟨zw1550, zw1551, zw1552, rfl⟩, List.forall_mem_cons.mpr ⟨⟨zw1557, zw1558, zw1559, rfl⟩, List.forall_mem_cons.mpr ⟨⟨zw361, zw362, zw363, rfl⟩, List.forall_mem_cons.mpr ⟨⟨zw1573, zw1574, zw1575, rfl⟩, List.forall_mem_cons.mpr ⟨⟨zw369, zw370, zw371, rfl⟩, List.forall_mem_cons.mpr ⟨⟨zw1577, zw1578, zw1579, rfl⟩, List.forall_mem_cons.mpr ⟨⟨zw1581, zw1582, zw1583, rfl⟩, List.forall_mem_cons.mpr ⟨⟨zw1585, zw1586, zw1587, rfl⟩, List.forall_mem_cons.mpr ⟨⟨zw1589, zw1590, zw1591, rfl⟩, List.forall_mem_cons.mpr ⟨⟨zw1593, zw1594, zw1595, rfl⟩, List.forall_mem_cons.mpr ⟨⟨zw1601, zw1602, zw1603, rfl⟩, List.forall_mem_cons.mpr ⟨⟨zw1613, zw1614, zw1615, rfl⟩, List.forall_mem_cons.mpr ⟨⟨zw1629, zw1630, zw1631, rfl⟩, List.forall_mem_cons.mpr ⟨⟨zw1633, zw1634, zw1635, rfl⟩, List.forall_mem_cons.mpr ⟨⟨zw1654, zw1655, zw1656, rfl⟩, List.forall_mem_cons.mpr ⟨⟨zw1662, zw1663, zw1664, rfl⟩, List.forall_mem_cons.mpr ⟨⟨zw1671, zw1672, zw1673, rfl⟩, List.forall_mem_cons.mpr ⟨⟨zw1680, zw1681, zw1682, rfl⟩, List.forall_mem_cons.mpr ⟨⟨zw1692, zw1693, zw1694, rfl⟩, List.forall_mem_cons.mpr ⟨⟨zw1700, zw1701, zw1702, rfl⟩, List.forall_mem_cons.mpr ⟨⟨zw373, zw374, zw375, rfl⟩, List.forall_mem_cons.mpr ⟨⟨zw1719, zw1720, zw1721, rfl⟩, List.forall_mem_cons.mpr ⟨⟨zw398, zw399, zw400, rfl⟩, List.forall_mem_cons.mpr ⟨⟨zw1727, zw1728, zw1729, rfl⟩, List.forall_mem_cons.mpr ⟨⟨zw1190, zw1079, zw1080, rfl⟩, List.forall_mem_cons.mpr ⟨⟨zw1407, zw1409, zw37, rfl⟩, List.forall_mem_cons.mpr ⟨⟨zw1385, zw1386, zw1387, rfl⟩, List.forall_mem_cons.mpr ⟨⟨zw1403, zw1405, zw36, rfl⟩, List.forall_mem_cons.mpr ⟨⟨zw1399, zw1401, zw35, rfl⟩, fun _ h => absurd h List.not_mem_nil⟩⟩⟩⟩⟩⟩⟩⟩⟩⟩⟩⟩⟩⟩⟩⟩⟩⟩⟩⟩⟩⟩⟩⟩⟩⟩⟩⟩⟩⟩⟩⟩⟩⟩⟩⟩⟩⟩
theorem zVL_ok : ∀ q ∈ zVL, zVok q := List.forall_mem_append.mpr ⟨zVL_0, List.forall_mem_append.mpr ⟨zVL_1, List.forall_mem_append.mpr ⟨zVL_2, List.forall_mem_append.mpr ⟨zVL_3, zVL_4⟩⟩⟩⟩
def zIL : List (Nat × Nat × Nat) := [(0, 11, 24), (1, 11, 24), (3, 11, 24), (4, 11, 24), (4, 31, 19), (5, 11, 0), (5, 18, 39), (5, 25, 29), (5, 32, 24), (5, 333, 221), (7, 55, 242), (7, 259, 221), (8, 112, 52), (8, 115, 110), (8, 116, 109), (9, 489, 216), (13, 1, 226), (13, 137, 215), (16, 47, 221), (18, 1, 245), (20, 1, 244)]
theorem zIL_0 : ∀ q ∈ ([(0, 11, 24), (1, 11, 24), (3, 11, 24), (4, 11, 24), (4, 31, 19), (5, 11, 0), (5, 18, 39), (5, 25, 29), (5, 32, 24), (5, 333, 221), (7, 55, 242), (7, 259, 221), (8, 112, 52), (8, 115, 110), (8, 116, 109), (9, 489, 216), (13, 1, 226), (13, 137, 215), (16, 47, 221), (18, 1, 245), (20, 1, 244)] : List (Nat × Nat × Nat)), zIok q := List.forall_mem_cons.mpr ⟨⟨Or.inl zw124, zw125, rfl⟩, List.forall_mem_cons.mpr ⟨⟨Or.inl zw168, zw125, rfl⟩, List.forall_mem_cons.mpr ⟨⟨Or.inl zw240, zw125, rfl⟩, List.forall_mem_cons.mpr ⟨⟨Or.inl zw160, zw125, rfl⟩, List.forall_mem_cons.mpr ⟨⟨Or.inr ⟨_, (zNM_in 0 rfl)⟩, zw164, rfl⟩, List.forall_mem_cons.mpr ⟨⟨Or.inr ⟨_, (zNM_in 1 rfl)⟩, zw119, rfl⟩, List.forall_mem_cons.mpr ⟨⟨Or.inr ⟨_, (zNM_in 2 rfl)⟩, zw156, rfl⟩, List.forall_mem_cons.mpr ⟨⟨Or.inr ⟨_, (zNM_in 3 rfl)⟩, zw236, rfl⟩, List.forall_mem_cons.mpr ⟨⟨Or.inl zw267, zw125, rfl⟩, List.forall_mem_cons.mpr ⟨⟨Or.inl zw950, zw951, rfl⟩, List.forall_mem_cons.mpr ⟨⟨Or.inl zw1238, zw1239, rfl⟩, List.forall_mem_cons.mpr ⟨⟨Or.inl zw1677, zw951, rfl⟩, List.forall_mem_cons.mpr ⟨⟨Or.inl zw110, zw111, rfl⟩, List.forall_mem_cons.mpr ⟨⟨Or.inl zw1230, zw1231, rfl⟩, List.forall_mem_cons.mpr ⟨⟨Or.inr ⟨_, (zNM_in 4 rfl)⟩, zw689, rfl⟩, List.forall_mem_cons.mpr ⟨⟨Or.inl zw1087, zw1088, rfl⟩, List.forall_mem_cons.mpr ⟨⟨Or.inl zw953, zw954, rfl⟩, List.forall_mem_cons.mpr ⟨⟨Or.inl zw1084, zw1085, rfl⟩, List.forall_mem_cons.mpr ⟨⟨Or.inl zw1116, zw951, rfl⟩, List.forall_mem_cons.mpr ⟨⟨Or.inl zw1241, zw1242, rfl⟩, List.forall_mem_cons.mpr ⟨⟨Or.inl zw1244, zw1245, rfl⟩, fun _ h => absurd h List.not_mem_nil⟩⟩⟩⟩⟩⟩⟩⟩⟩⟩⟩⟩⟩⟩⟩⟩⟩⟩⟩⟩⟩
theorem zIL_ok : ∀ q ∈ zIL, zIok q := zIL_0
def zCL : List (Nat × Nat × Nat) := [(0, 9, 2), (1, 9, 2), (3, 9, 2), (4, 9, 2), (4, 29, 1), (5, 9, 0), (5, 16, 4), (5, 23, 3), (5, 30, 2), (5, 331, 8), (7, 53, 10), (7, 257, 8), (8, 8, 5), (8, 14, 6), (8, 113, 7), (13, 18, 9), (16, 45, 8)]
theorem zCL_0 : ∀ q ∈ ([(0, 9, 2), (1, 9, 2), (3, 9, 2), (4, 9, 2), (4, 29, 1), (5, 9, 0), (5, 16, 4), (5, 23, 3), (5, 30, 2), (5, 331, 8), (7, 53, 10), (7, 257, 8), (8, 8, 5), (8, 14, 6), (8, 113, 7), (13, 18, 9), (16, 45, 8)] : List (Nat × Nat × Nat)), zCok q := List.forall_mem_cons.mpr ⟨⟨zw122, zw123, zw80⟩, List.forall_mem_cons.mpr ⟨⟨zw167, zw123, zw80⟩, List.forall_mem_cons.mpr ⟨⟨zw239, zw123, zw80⟩, List.forall_mem_cons.mpr ⟨⟨zw159, zw123, zw80⟩, List.forall_mem_cons.mpr ⟨⟨zw161, zw162, zw82⟩, List.forall_mem_cons.mpr ⟨⟨zw116, zw117, zw79⟩, List.forall_mem_cons.mpr ⟨⟨zw153, zw154, zw81⟩, List.forall_mem_cons.mpr ⟨⟨zw233, zw234, zw83⟩, List.forall_mem_cons.mpr ⟨⟨zw266, zw123, zw80⟩, List.forall_mem_cons.mpr ⟨⟨zw948, zw949, zw104⟩, List.forall_mem_cons.mpr ⟨⟨zw1236, zw1237, zw89⟩, List.forall_mem_cons.mpr ⟨⟨zw1676, zw949, zw104⟩, List.forall_mem_cons.mpr ⟨⟨zw108, zw109, zw78⟩, List.forall_mem_cons.mpr ⟨⟨zw686, zw687, zw90⟩, List.forall_mem_cons.mpr ⟨⟨zw1228, zw1229, zw86⟩, List.forall_mem_cons.mpr ⟨⟨zw1082, zw1083, zw105⟩, List.forall_mem_cons.mpr ⟨⟨zw1115, zw949, zw104⟩, fun _ h => absurd h List.not_mem_nil⟩⟩⟩⟩⟩⟩⟩⟩⟩⟩⟩⟩⟩⟩⟩⟩⟩
theorem zCL_ok : ∀ q ∈ zCL, zCok q := zCL_0
def zKL : List (Nat × Nat × Nat × Nat) := [(5, 329, 1, 4634204016564240384), (5, 357, 0, 58281), (5, 412, 0, 31), (7, 249, 1, 4634204016564240384), (7, 296, 0, 58281), (7, 298, 0, 31), (15, 265, 5, 1431655765), (15, 266, 5, 858993459), (15, 267, 5, 252645135), (17, 200, 5, 2147483639)]
theorem zKL_0 : ∀ q ∈ ([(5, 329, 1, 4634204016564240384), (5, 357, 0, 58281), (5, 412, 0, 31), (7, 249, 1, 4634204016564240384), (7, 296, 0, 58281), (7, 298, 0, 31), (15, 265, 5, 1431655765), (15, 266, 5, 858993459), (15, 267, 5, 252645135), (17, 200, 5, 2147483639)] : List (Nat × Nat × Nat × Nat)), zKok q := List.forall_mem_cons.mpr ⟨zw592, List.forall_mem_cons.mpr ⟨zw402, List.forall_mem_cons.mpr ⟨zw482, List.forall_mem_cons.mpr ⟨zw1670, List.forall_mem_cons.mpr ⟨zw1731, List.forall_mem_cons.mpr ⟨zw1732, List.forall_mem_cons.mpr ⟨zw283, List.forall_mem_cons.mpr ⟨zw284, List.forall_mem_cons.mpr ⟨zw285, List.forall_mem_cons.mpr ⟨zw1004, fun _ h => absurd h List.not_mem_nil⟩⟩⟩⟩⟩⟩⟩⟩⟩⟩
theorem zKL_ok : ∀ q ∈ zKL, zKok q := zKL_0
def zOL : List (Nat × Nat) := [(0, 3), (1, 3), (2, 1), (3, 3), (4, 3), (5, 3), (6, 1), (7, 1), (9, 1), (14, 3), (19, 1)]
theorem zOL_0 : ∀ q ∈ ([(0, 3), (1, 3), (2, 1), (3, 3), (4, 3), (5, 3), (6, 1), (7, 1), (9, 1), (14, 3), (19, 1)] : List (Nat × Nat)), zOok q := List.forall_mem_cons.mpr ⟨zw121, List.forall_mem_cons.mpr ⟨zw166, List.forall_mem_cons.mpr ⟨zw127, List.forall_mem_cons.mpr ⟨zw238, List.forall_mem_cons.mpr ⟨zw158, List.forall_mem_cons.mpr ⟨zw113, List.forall_mem_cons.mpr ⟨zw691, List.forall_mem_cons.mpr ⟨zw1233, List.forall_mem_cons.mpr ⟨zw1090, List.forall_mem_cons.mpr ⟨zw956, List.forall_mem_cons.mpr ⟨zw1247, fun _ h => absurd h List.not_mem_nil⟩⟩⟩⟩⟩⟩⟩⟩⟩⟩⟩
theorem zOL_ok : ∀ q ∈ zOL, zOok q := zOL_0
def zXL : List (Nat × Nat × Nat) := [(7, 230, 13), (16, 304, 13), (17, 194, 12), (18, 79, 12)]
theorem zXL_0 : ∀ q ∈ ([(7, 230, 13), (16, 304, 13), (17, 194, 12), (18, 79, 12)] : List (Nat × Nat × Nat)), zXok q := List.forall_mem_cons.mpr ⟨⟨zw1653, zw1020, zw98, zw1021⟩, List.forall_mem_cons.mpr ⟨⟨zw1019, zw1020, zw98, zw1021⟩, List.forall_mem_cons.mpr ⟨⟨zw1001, zw1002, zw98, zw1003⟩, List.forall_mem_cons.mpr ⟨⟨zw1439, zw1002, zw98, zw1003⟩, fun _ h => absurd h List.not_mem_nil⟩⟩⟩⟩
theorem zXL_ok : ∀ q ∈ zXL, zXok q := zXL_0
theorem zAi : (.arrayClass Jvm.ClassFile.FieldType.int : Jvm.Cond) ∈ zB := zw132
theorem zAz : (.arrayClass Jvm.ClassFile.FieldType.boolean : Jvm.Cond) ∈ zB := zw1262
theorem zAb : (.arrayClass Jvm.ClassFile.FieldType.byte : Jvm.Cond) ∈ zB := zw478
def zlaw : Nat := 214
def zTX : List (String × Nat × String) := [("Scrubward", 64, "K is not 4 to 10"), ("Scrubward", 69, "R is not 4 to 6"), ("Scrubward", 75, "there are not K columns of data bits"), ("Scrubward", 135, "bits is not a set of bits of a word"), ("Scrubward", 146, "there is no such bit"), ("Scrubward", 160, "there are 24 stuck cells"), ("Scrubward", 170, "span is not 1 to 60"), ("Scrubward", 175, "there are 24 weak cells"), ("Scrubward", 180, "times is not 1 to 100"), ("Scrubward", 192, "period is not 1 to 100"), ("Scrubward", 194, "limit is not 2 to 100"), ("Scrubward", 196, "steps is not 0 to 8"), ("Scrubward", 207, "both spares of the bank are used"), ("Scrubward", 221, "the tick would be above 2000"), ("Scrubward", 242, "there is no such word"), ("Scrubward", 259, "what is not 0 to 3"), ("Scrubward", 261, "many is not 2 or 3"), ("Scrubward", 269, "what is not 0 to 6"), ("Scrubward", 274, "there is no such line"), ("Scrubward", 288, "what is not 0 to 4"), ("Scrubward", 290, "there is no such entry"), ("Scrubward", 301, "what is not 0 to 2"), ("Scrubward", 324, "what is not 0 to 17"), ("Scrubward", 391, "there is no such address"), ("Scrubward", 393, "there is no such bank"), ("Scrubward", 395, "there is no such row"), ("Scrubward", 397, "ticks is not 1 to 100"), ("Scrubward", 402, "data does not fit into the data bits"), ("Scrubward", 404, "the word is retired")]

def zty (c k : Nat) : FieldType := (parseFieldDescriptor (zT c k).2.2.1).getD .int
/-- a field's kind and its type -/
def zkt (kd : Nat) (t : FieldType) : Prop := match kd with
  | 0 => t = .int
  | 1 => t = .boolean
  | 2 => t = .byte
  | 3 => t = .long
  | 4 => t = .double
  | _ => (∃ n, t = .object n) ∨ ∃ q, t = .array q
def zktb (kd : Nat) (t : FieldType) : Bool := match kd, t with
  | 0, .int => true
  | 1, .boolean => true
  | 2, .byte => true
  | 3, .long => true
  | 4, .double => true
  | 5, .object _ => true
  | 5, .array _ => true
  | _, _ => false
theorem zktb_ok {kd : Nat} {t : FieldType} (h : zktb kd t = true) : zkt kd t := by
  unfold zktb at h
  split at h <;> first | rfl | exact Or.inl ⟨_, rfl⟩ | exact Or.inr ⟨_, rfl⟩ | cases h
def zcOK (c : Nat) : Prop := (∀ w ∈ u_ws (zcn c) (zT c) (zcf c).length, w ∈ zB) ∧ (∀ a, a < (zcf c).length → ∀ b, b < (zcf c).length → a ≠ b → (zT c a).2.1 ≠ (zT c b).2.1) ∧ (∀ k, k < (zcf c).length → parseFieldDescriptor (zT c k).2.2.1 = some (zty c k)) ∧ (∀ k, k < (zcf c).length → zktb ((zcf c).getD k (0, 0)).2 (zty c k) = true) ∧ (∀ k, k < (zcf c).length → defaultValue (zty c k) = zdf ((zcf c).getD k (0, 0)).2) ∧ zcl[c]? = some (zcn c, zT c, (zcf c).length)
theorem zcO0 : zcOK 0 := ⟨List.forall_mem_cons.mpr ⟨zw142, List.forall_mem_cons.mpr ⟨zw144, List.forall_mem_cons.mpr ⟨zw146, List.forall_mem_cons.mpr ⟨zw148, List.forall_mem_cons.mpr ⟨zw150, fun _ h => absurd h List.not_mem_nil⟩⟩⟩⟩⟩, by decide +kernel, by decide +kernel, by decide +kernel, by decide +kernel, rfl⟩
theorem zcO1 : zcOK 1 := ⟨List.forall_mem_cons.mpr ⟨zw178, List.forall_mem_cons.mpr ⟨zw180, List.forall_mem_cons.mpr ⟨zw182, List.forall_mem_cons.mpr ⟨zw184, fun _ h => absurd h List.not_mem_nil⟩⟩⟩⟩, by decide +kernel, by decide +kernel, by decide +kernel, by decide +kernel, rfl⟩
theorem zcO2 : zcOK 2 := ⟨List.forall_mem_cons.mpr ⟨zw129, fun _ h => absurd h List.not_mem_nil⟩, by decide +kernel, by decide +kernel, by decide +kernel, by decide +kernel, rfl⟩
theorem zcO3 : zcOK 3 := ⟨List.forall_mem_cons.mpr ⟨zw253, List.forall_mem_cons.mpr ⟨zw255, List.forall_mem_cons.mpr ⟨zw257, List.forall_mem_cons.mpr ⟨zw259, List.forall_mem_cons.mpr ⟨zw261, List.forall_mem_cons.mpr ⟨zw263, fun _ h => absurd h List.not_mem_nil⟩⟩⟩⟩⟩⟩, by decide +kernel, by decide +kernel, by decide +kernel, by decide +kernel, rfl⟩
theorem zcO4 : zcOK 4 := ⟨List.forall_mem_cons.mpr ⟨zw208, List.forall_mem_cons.mpr ⟨zw210, List.forall_mem_cons.mpr ⟨zw212, List.forall_mem_cons.mpr ⟨zw214, List.forall_mem_cons.mpr ⟨zw216, List.forall_mem_cons.mpr ⟨zw218, List.forall_mem_cons.mpr ⟨zw220, List.forall_mem_cons.mpr ⟨zw222, List.forall_mem_cons.mpr ⟨zw224, List.forall_mem_cons.mpr ⟨zw226, List.forall_mem_cons.mpr ⟨zw228, List.forall_mem_cons.mpr ⟨zw230, fun _ h => absurd h List.not_mem_nil⟩⟩⟩⟩⟩⟩⟩⟩⟩⟩⟩⟩, by decide +kernel, by decide +kernel, by decide +kernel, by decide +kernel, rfl⟩
theorem zcO5 : zcOK 5 := ⟨List.forall_mem_cons.mpr ⟨zw336, List.forall_mem_cons.mpr ⟨zw338, List.forall_mem_cons.mpr ⟨zw340, List.forall_mem_cons.mpr ⟨zw342, List.forall_mem_cons.mpr ⟨zw344, List.forall_mem_cons.mpr ⟨zw346, List.forall_mem_cons.mpr ⟨zw348, List.forall_mem_cons.mpr ⟨zw350, List.forall_mem_cons.mpr ⟨zw352, List.forall_mem_cons.mpr ⟨zw354, List.forall_mem_cons.mpr ⟨zw356, List.forall_mem_cons.mpr ⟨zw358, fun _ h => absurd h List.not_mem_nil⟩⟩⟩⟩⟩⟩⟩⟩⟩⟩⟩⟩, by decide +kernel, by decide +kernel, by decide +kernel, by decide +kernel, rfl⟩
theorem zcO6 : zcOK 6 := ⟨List.forall_mem_cons.mpr ⟨zw695, List.forall_mem_cons.mpr ⟨zw697, List.forall_mem_cons.mpr ⟨zw699, fun _ h => absurd h List.not_mem_nil⟩⟩⟩, by decide +kernel, by decide +kernel, by decide +kernel, by decide +kernel, rfl⟩
theorem zcO7 : zcOK 7 := ⟨List.forall_mem_cons.mpr ⟨zw1295, List.forall_mem_cons.mpr ⟨zw1297, List.forall_mem_cons.mpr ⟨zw1299, List.forall_mem_cons.mpr ⟨zw1301, List.forall_mem_cons.mpr ⟨zw1303, List.forall_mem_cons.mpr ⟨zw1305, List.forall_mem_cons.mpr ⟨zw1307, List.forall_mem_cons.mpr ⟨zw1309, List.forall_mem_cons.mpr ⟨zw1311, List.forall_mem_cons.mpr ⟨zw1313, List.forall_mem_cons.mpr ⟨zw1315, List.forall_mem_cons.mpr ⟨zw1317, List.forall_mem_cons.mpr ⟨zw1319, List.forall_mem_cons.mpr ⟨zw1321, List.forall_mem_cons.mpr ⟨zw1323, List.forall_mem_cons.mpr ⟨zw1325, List.forall_mem_cons.mpr ⟨zw1327, List.forall_mem_cons.mpr ⟨zw1329, List.forall_mem_cons.mpr ⟨zw1331, List.forall_mem_cons.mpr ⟨zw1333, List.forall_mem_cons.mpr ⟨zw1335, List.forall_mem_cons.mpr ⟨zw1337, List.forall_mem_cons.mpr ⟨zw1339, List.forall_mem_cons.mpr ⟨zw1341, List.forall_mem_cons.mpr ⟨zw1343, List.forall_mem_cons.mpr ⟨zw1345, fun _ h => absurd h List.not_mem_nil⟩⟩⟩⟩⟩⟩⟩⟩⟩⟩⟩⟩⟩⟩⟩⟩⟩⟩⟩⟩⟩⟩⟩⟩⟩⟩, by decide +kernel, by decide +kernel, by decide +kernel, by decide +kernel, rfl⟩
theorem zcO8 : zcOK 8 := ⟨List.forall_mem_cons.mpr ⟨zw970, List.forall_mem_cons.mpr ⟨zw972, List.forall_mem_cons.mpr ⟨zw974, List.forall_mem_cons.mpr ⟨zw976, fun _ h => absurd h List.not_mem_nil⟩⟩⟩⟩, by decide +kernel, by decide +kernel, by decide +kernel, by decide +kernel, rfl⟩
theorem zcO9 : zcOK 9 := ⟨List.forall_mem_cons.mpr ⟨zw1207, List.forall_mem_cons.mpr ⟨zw1209, List.forall_mem_cons.mpr ⟨zw1211, List.forall_mem_cons.mpr ⟨zw1213, fun _ h => absurd h List.not_mem_nil⟩⟩⟩⟩, by decide +kernel, by decide +kernel, by decide +kernel, by decide +kernel, rfl⟩
theorem zcO10 : zcOK 10 := ⟨List.forall_mem_cons.mpr ⟨zw1259, List.forall_mem_cons.mpr ⟨zw1255, List.forall_mem_cons.mpr ⟨zw1257, fun _ h => absurd h List.not_mem_nil⟩⟩⟩, by decide +kernel, by decide +kernel, by decide +kernel, by decide +kernel, rfl⟩
theorem zc_ok : ∀ c, c < 11 → zcOK c := by
  intro c h
  match c, h with
  | 0, _ => exact zcO0
  | 1, _ => exact zcO1
  | 2, _ => exact zcO2
  | 3, _ => exact zcO3
  | 4, _ => exact zcO4
  | 5, _ => exact zcO5
  | 6, _ => exact zcO6
  | 7, _ => exact zcO7
  | 8, _ => exact zcO8
  | 9, _ => exact zcO9
  | 10, _ => exact zcO10
  | n + 11, h => exact absurd h (by omega)
def zMok (y : Nat) : Prop := (zmh y = [] ∧ Jvm.Cond.code (zmn y) (zmb y) (zmL y) (zmr y) ∈ zB ∨ zmh y ≠ [] ∧ Jvm.Cond.codeWith (zmn y) (zmb y) (zmL y) (zmr y) (zmh y) ∈ zB) ∧ Jvm.Cond.initialized (zmn y).cls ∈ zB ∧ zon (zmo y) = (zmn y).cls ∧ Bundle.fit (zmn y).cls = true ∧ (parseMethodDescriptor (zmn y).desc).map (fun d => d.parameters.length) = some (zmp y) ∧ zmL y ≤ 20
theorem zM0 : zMok 0 := ⟨Or.inl ⟨rfl, zw120⟩, zw79, rfl, by decide +kernel, by decide +kernel, by decide +kernel⟩
theorem zM1 : zMok 1 := ⟨Or.inl ⟨rfl, zw717⟩, zw79, rfl, by decide +kernel, by decide +kernel, by decide +kernel⟩
theorem zM2 : zMok 2 := ⟨Or.inl ⟨rfl, zw714⟩, zw79, rfl, by decide +kernel, by decide +kernel, by decide +kernel⟩
theorem zM3 : zMok 3 := ⟨Or.inl ⟨rfl, zw275⟩, zw79, rfl, by decide +kernel, by decide +kernel, by decide +kernel⟩
theorem zM4 : zMok 4 := ⟨Or.inl ⟨rfl, zw279⟩, zw79, rfl, by decide +kernel, by decide +kernel, by decide +kernel⟩
theorem zM5 : zMok 5 := ⟨Or.inl ⟨rfl, zw814⟩, zw79, rfl, by decide +kernel, by decide +kernel, by decide +kernel⟩
theorem zM6 : zMok 6 := ⟨Or.inl ⟨rfl, zw651⟩, zw79, rfl, by decide +kernel, by decide +kernel, by decide +kernel⟩
theorem zM7 : zMok 7 := ⟨Or.inl ⟨rfl, zw490⟩, zw79, rfl, by decide +kernel, by decide +kernel, by decide +kernel⟩
theorem zM8 : zMok 8 := ⟨Or.inl ⟨rfl, zw583⟩, zw79, rfl, by decide +kernel, by decide +kernel, by decide +kernel⟩
theorem zM9 : zMok 9 := ⟨Or.inl ⟨rfl, zw630⟩, zw79, rfl, by decide +kernel, by decide +kernel, by decide +kernel⟩
theorem zM10 : zMok 10 := ⟨Or.inl ⟨rfl, zw579⟩, zw79, rfl, by decide +kernel, by decide +kernel, by decide +kernel⟩
theorem zM11 : zMok 11 := ⟨Or.inl ⟨rfl, zw626⟩, zw79, rfl, by decide +kernel, by decide +kernel, by decide +kernel⟩
theorem zM12 : zMok 12 := ⟨Or.inl ⟨rfl, zw794⟩, zw79, rfl, by decide +kernel, by decide +kernel, by decide +kernel⟩
theorem zM13 : zMok 13 := ⟨Or.inl ⟨rfl, zw647⟩, zw79, rfl, by decide +kernel, by decide +kernel, by decide +kernel⟩
theorem zM14 : zMok 14 := ⟨Or.inl ⟨rfl, zw778⟩, zw79, rfl, by decide +kernel, by decide +kernel, by decide +kernel⟩
theorem zM15 : zMok 15 := ⟨Or.inl ⟨rfl, zw515⟩, zw79, rfl, by decide +kernel, by decide +kernel, by decide +kernel⟩
theorem zM16 : zMok 16 := ⟨Or.inl ⟨rfl, zw523⟩, zw79, rfl, by decide +kernel, by decide +kernel, by decide +kernel⟩
theorem zM17 : zMok 17 := ⟨Or.inl ⟨rfl, zw519⟩, zw79, rfl, by decide +kernel, by decide +kernel, by decide +kernel⟩
theorem zM18 : zMok 18 := ⟨Or.inl ⟨rfl, zw380⟩, zw79, rfl, by decide +kernel, by decide +kernel, by decide +kernel⟩
theorem zM19 : zMok 19 := ⟨Or.inl ⟨rfl, zw165⟩, zw82, rfl, by decide +kernel, by decide +kernel, by decide +kernel⟩
theorem zM20 : zMok 20 := ⟨Or.inl ⟨rfl, zw311⟩, zw82, rfl, by decide +kernel, by decide +kernel, by decide +kernel⟩
theorem zM21 : zMok 21 := ⟨Or.inl ⟨rfl, zw307⟩, zw82, rfl, by decide +kernel, by decide +kernel, by decide +kernel⟩
theorem zM22 : zMok 22 := ⟨Or.inl ⟨rfl, zw302⟩, zw82, rfl, by decide +kernel, by decide +kernel, by decide +kernel⟩
theorem zM23 : zMok 23 := ⟨Or.inl ⟨rfl, zw591⟩, zw82, rfl, by decide +kernel, by decide +kernel, by decide +kernel⟩
theorem zM24 : zMok 24 := ⟨Or.inl ⟨rfl, zw126⟩, zw80, rfl, by decide +kernel, by decide +kernel, by decide +kernel⟩
theorem zM25 : zMok 25 := ⟨Or.inl ⟨rfl, zw294⟩, zw80, rfl, by decide +kernel, by decide +kernel, by decide +kernel⟩
theorem zM26 : zMok 26 := ⟨Or.inl ⟨rfl, zw271⟩, zw80, rfl, by decide +kernel, by decide +kernel, by decide +kernel⟩
theorem zM27 : zMok 27 := ⟨Or.inl ⟨rfl, zw290⟩, zw80, rfl, by decide +kernel, by decide +kernel, by decide +kernel⟩
theorem zM28 : zMok 28 := ⟨Or.inl ⟨rfl, zw410⟩, zw80, rfl, by decide +kernel, by decide +kernel, by decide +kernel⟩
theorem zM29 : zMok 29 := ⟨Or.inl ⟨rfl, zw237⟩, zw83, rfl, by decide +kernel, by decide +kernel, by decide +kernel⟩
theorem zM30 : zMok 30 := ⟨Or.inl ⟨rfl, zw368⟩, zw83, rfl, by decide +kernel, by decide +kernel, by decide +kernel⟩
theorem zM31 : zMok 31 := ⟨Or.inl ⟨rfl, zw798⟩, zw83, rfl, by decide +kernel, by decide +kernel, by decide +kernel⟩
theorem zM32 : zMok 32 := ⟨Or.inl ⟨rfl, zw539⟩, zw83, rfl, by decide +kernel, by decide +kernel, by decide +kernel⟩
theorem zM33 : zMok 33 := ⟨Or.inl ⟨rfl, zw556⟩, zw83, rfl, by decide +kernel, by decide +kernel, by decide +kernel⟩
theorem zM34 : zMok 34 := ⟨Or.inl ⟨rfl, zw559⟩, zw83, rfl, by decide +kernel, by decide +kernel, by decide +kernel⟩
theorem zM35 : zMok 35 := ⟨Or.inl ⟨rfl, zw543⟩, zw83, rfl, by decide +kernel, by decide +kernel, by decide +kernel⟩
theorem zM36 : zMok 36 := ⟨Or.inl ⟨rfl, zw552⟩, zw83, rfl, by decide +kernel, by decide +kernel, by decide +kernel⟩
theorem zM37 : zMok 37 := ⟨Or.inl ⟨rfl, zw548⟩, zw83, rfl, by decide +kernel, by decide +kernel, by decide +kernel⟩
theorem zM38 : zMok 38 := ⟨Or.inl ⟨rfl, zw388⟩, zw83, rfl, by decide +kernel, by decide +kernel, by decide +kernel⟩
theorem zM39 : zMok 39 := ⟨Or.inl ⟨rfl, zw157⟩, zw81, rfl, by decide +kernel, by decide +kernel, by decide +kernel⟩
theorem zM40 : zMok 40 := ⟨Or.inl ⟨rfl, zw298⟩, zw81, rfl, by decide +kernel, by decide +kernel, by decide +kernel⟩
theorem zM41 : zMok 41 := ⟨Or.inl ⟨rfl, zw317⟩, zw81, rfl, by decide +kernel, by decide +kernel, by decide +kernel⟩
theorem zM42 : zMok 42 := ⟨Or.inl ⟨rfl, zw321⟩, zw81, rfl, by decide +kernel, by decide +kernel, by decide +kernel⟩
theorem zM43 : zMok 43 := ⟨Or.inl ⟨rfl, zw762⟩, zw81, rfl, by decide +kernel, by decide +kernel, by decide +kernel⟩
theorem zM44 : zMok 44 := ⟨Or.inl ⟨rfl, zw766⟩, zw81, rfl, by decide +kernel, by decide +kernel, by decide +kernel⟩
theorem zM45 : zMok 45 := ⟨Or.inl ⟨rfl, zw770⟩, zw81, rfl, by decide +kernel, by decide +kernel, by decide +kernel⟩
theorem zM46 : zMok 46 := ⟨Or.inl ⟨rfl, zw887⟩, zw81, rfl, by decide +kernel, by decide +kernel, by decide +kernel⟩
theorem zM47 : zMok 47 := ⟨Or.inl ⟨rfl, zw684⟩, zw81, rfl, by decide +kernel, by decide +kernel, by decide +kernel⟩
theorem zM48 : zMok 48 := ⟨Or.inl ⟨rfl, zw672⟩, zw81, rfl, by decide +kernel, by decide +kernel, by decide +kernel⟩
theorem zM49 : zMok 49 := ⟨Or.inl ⟨rfl, zw676⟩, zw81, rfl, by decide +kernel, by decide +kernel, by decide +kernel⟩
theorem zM50 : zMok 50 := ⟨Or.inl ⟨rfl, zw680⟩, zw81, rfl, by decide +kernel, by decide +kernel, by decide +kernel⟩
theorem zM51 : zMok 51 := ⟨Or.inl ⟨rfl, zw384⟩, zw81, rfl, by decide +kernel, by decide +kernel, by decide +kernel⟩
theorem zM52 : zMok 52 := ⟨Or.inl ⟨rfl, zw112⟩, zw78, rfl, by decide +kernel, by decide +kernel, by decide +kernel⟩
theorem zM53 : zMok 53 := ⟨Or.inl ⟨rfl, zw709⟩, zw78, rfl, by decide +kernel, by decide +kernel, by decide +kernel⟩
theorem zM54 : zMok 54 := ⟨Or.inl ⟨rfl, zw728⟩, zw78, rfl, by decide +kernel, by decide +kernel, by decide +kernel⟩
theorem zM55 : zMok 55 := ⟨Or.inl ⟨rfl, zw786⟩, zw78, rfl, by decide +kernel, by decide +kernel, by decide +kernel⟩
theorem zM56 : zMok 56 := ⟨Or.inl ⟨rfl, zw810⟩, zw78, rfl, by decide +kernel, by decide +kernel, by decide +kernel⟩
theorem zM57 : zMok 57 := ⟨Or.inl ⟨rfl, zw822⟩, zw78, rfl, by decide +kernel, by decide +kernel, by decide +kernel⟩
theorem zM58 : zMok 58 := ⟨Or.inl ⟨rfl, zw832⟩, zw78, rfl, by decide +kernel, by decide +kernel, by decide +kernel⟩
theorem zM59 : zMok 59 := ⟨Or.inl ⟨rfl, zw841⟩, zw78, rfl, by decide +kernel, by decide +kernel, by decide +kernel⟩
theorem zM60 : zMok 60 := ⟨Or.inl ⟨rfl, zw853⟩, zw78, rfl, by decide +kernel, by decide +kernel, by decide +kernel⟩
theorem zM61 : zMok 61 := ⟨Or.inl ⟨rfl, zw863⟩, zw78, rfl, by decide +kernel, by decide +kernel, by decide +kernel⟩
theorem zM62 : zMok 62 := ⟨Or.inl ⟨rfl, zw875⟩, zw78, rfl, by decide +kernel, by decide +kernel, by decide +kernel⟩
theorem zM63 : zMok 63 := ⟨Or.inl ⟨rfl, zw882⟩, zw78, rfl, by decide +kernel, by decide +kernel, by decide +kernel⟩
theorem zM64 : zMok 64 := ⟨Or.inl ⟨rfl, zw364⟩, zw78, rfl, by decide +kernel, by decide +kernel, by decide +kernel⟩
theorem zM65 : zMok 65 := ⟨Or.inl ⟨rfl, zw372⟩, zw78, rfl, by decide +kernel, by decide +kernel, by decide +kernel⟩
theorem zM66 : zMok 66 := ⟨Or.inl ⟨rfl, zw486⟩, zw78, rfl, by decide +kernel, by decide +kernel, by decide +kernel⟩
theorem zM67 : zMok 67 := ⟨Or.inl ⟨rfl, zw902⟩, zw78, rfl, by decide +kernel, by decide +kernel, by decide +kernel⟩
theorem zM68 : zMok 68 := ⟨Or.inl ⟨rfl, zw909⟩, zw78, rfl, by decide +kernel, by decide +kernel, by decide +kernel⟩
theorem zM69 : zMok 69 := ⟨Or.inl ⟨rfl, zw510⟩, zw78, rfl, by decide +kernel, by decide +kernel, by decide +kernel⟩
theorem zM70 : zMok 70 := ⟨Or.inl ⟨rfl, zw618⟩, zw78, rfl, by decide +kernel, by decide +kernel, by decide +kernel⟩
theorem zM71 : zMok 71 := ⟨Or.inl ⟨rfl, zw612⟩, zw78, rfl, by decide +kernel, by decide +kernel, by decide +kernel⟩
theorem zM72 : zMok 72 := ⟨Or.inl ⟨rfl, zw658⟩, zw78, rfl, by decide +kernel, by decide +kernel, by decide +kernel⟩
theorem zM73 : zMok 73 := ⟨Or.inl ⟨rfl, zw531⟩, zw78, rfl, by decide +kernel, by decide +kernel, by decide +kernel⟩
theorem zM74 : zMok 74 := ⟨Or.inl ⟨rfl, zw406⟩, zw78, rfl, by decide +kernel, by decide +kernel, by decide +kernel⟩
theorem zM75 : zMok 75 := ⟨Or.inl ⟨rfl, zw596⟩, zw78, rfl, by decide +kernel, by decide +kernel, by decide +kernel⟩
theorem zM76 : zMok 76 := ⟨Or.inl ⟨rfl, zw947⟩, zw78, rfl, by decide +kernel, by decide +kernel, by decide +kernel⟩
theorem zM77 : zMok 77 := ⟨Or.inl ⟨rfl, zw635⟩, zw78, rfl, by decide +kernel, by decide +kernel, by decide +kernel⟩
theorem zM78 : zMok 78 := ⟨Or.inl ⟨rfl, zw564⟩, zw78, rfl, by decide +kernel, by decide +kernel, by decide +kernel⟩
theorem zM79 : zMok 79 := ⟨Or.inl ⟨rfl, zw664⟩, zw78, rfl, by decide +kernel, by decide +kernel, by decide +kernel⟩
theorem zM80 : zMok 80 := ⟨Or.inl ⟨rfl, zw376⟩, zw78, rfl, by decide +kernel, by decide +kernel, by decide +kernel⟩
theorem zM81 : zMok 81 := ⟨Or.inl ⟨rfl, zw401⟩, zw78, rfl, by decide +kernel, by decide +kernel, by decide +kernel⟩
theorem zM82 : zMok 82 := ⟨Or.inl ⟨rfl, zw621⟩, zw78, rfl, by decide +kernel, by decide +kernel, by decide +kernel⟩
theorem zM83 : zMok 83 := ⟨Or.inl ⟨rfl, zw534⟩, zw78, rfl, by decide +kernel, by decide +kernel, by decide +kernel⟩
theorem zM84 : zMok 84 := ⟨Or.inl ⟨rfl, zw844⟩, zw78, rfl, by decide +kernel, by decide +kernel, by decide +kernel⟩
theorem zM85 : zMok 85 := ⟨Or.inl ⟨rfl, zw667⟩, zw78, rfl, by decide +kernel, by decide +kernel, by decide +kernel⟩
theorem zM86 : zMok 86 := ⟨Or.inl ⟨rfl, zw732⟩, zw78, rfl, by decide +kernel, by decide +kernel, by decide +kernel⟩
theorem zM87 : zMok 87 := ⟨Or.inl ⟨rfl, zw738⟩, zw78, rfl, by decide +kernel, by decide +kernel, by decide +kernel⟩
theorem zM88 : zMok 88 := ⟨Or.inl ⟨rfl, zw567⟩, zw78, rfl, by decide +kernel, by decide +kernel, by decide +kernel⟩
theorem zM89 : zMok 89 := ⟨Or.inl ⟨rfl, zw654⟩, zw78, rfl, by decide +kernel, by decide +kernel, by decide +kernel⟩
theorem zM90 : zMok 90 := ⟨Or.inl ⟨rfl, zw571⟩, zw78, rfl, by decide +kernel, by decide +kernel, by decide +kernel⟩
theorem zM91 : zMok 91 := ⟨Or.inl ⟨rfl, zw608⟩, zw78, rfl, by decide +kernel, by decide +kernel, by decide +kernel⟩
theorem zM92 : zMok 92 := ⟨Or.inl ⟨rfl, zw604⟩, zw78, rfl, by decide +kernel, by decide +kernel, by decide +kernel⟩
theorem zM93 : zMok 93 := ⟨Or.inl ⟨rfl, zw397⟩, zw78, rfl, by decide +kernel, by decide +kernel, by decide +kernel⟩
theorem zM94 : zMok 94 := ⟨Or.inl ⟨rfl, zw392⟩, zw78, rfl, by decide +kernel, by decide +kernel, by decide +kernel⟩
theorem zM95 : zMok 95 := ⟨Or.inl ⟨rfl, zw600⟩, zw78, rfl, by decide +kernel, by decide +kernel, by decide +kernel⟩
theorem zM96 : zMok 96 := ⟨Or.inl ⟨rfl, zw639⟩, zw78, rfl, by decide +kernel, by decide +kernel, by decide +kernel⟩
theorem zM97 : zMok 97 := ⟨Or.inl ⟨rfl, zw643⟩, zw78, rfl, by decide +kernel, by decide +kernel, by decide +kernel⟩
theorem zM98 : zMok 98 := ⟨Or.inl ⟨rfl, zw982⟩, zw78, rfl, by decide +kernel, by decide +kernel, by decide +kernel⟩
theorem zM99 : zMok 99 := ⟨Or.inl ⟨rfl, zw587⟩, zw78, rfl, by decide +kernel, by decide +kernel, by decide +kernel⟩
theorem zM100 : zMok 100 := ⟨Or.inl ⟨rfl, zw575⟩, zw78, rfl, by decide +kernel, by decide +kernel, by decide +kernel⟩
theorem zM101 : zMok 101 := ⟨Or.inl ⟨rfl, zw758⟩, zw78, rfl, by decide +kernel, by decide +kernel, by decide +kernel⟩
theorem zM102 : zMok 102 := ⟨Or.inl ⟨rfl, zw774⟩, zw78, rfl, by decide +kernel, by decide +kernel, by decide +kernel⟩
theorem zM103 : zMok 103 := ⟨Or.inl ⟨rfl, zw790⟩, zw78, rfl, by decide +kernel, by decide +kernel, by decide +kernel⟩
theorem zM104 : zMok 104 := ⟨Or.inl ⟨rfl, zw803⟩, zw78, rfl, by decide +kernel, by decide +kernel, by decide +kernel⟩
theorem zM105 : zMok 105 := ⟨Or.inl ⟨rfl, zw891⟩, zw78, rfl, by decide +kernel, by decide +kernel, by decide +kernel⟩
theorem zM106 : zMok 106 := ⟨Or.inl ⟨rfl, zw868⟩, zw78, rfl, by decide +kernel, by decide +kernel, by decide +kernel⟩
theorem zM107 : zMok 107 := ⟨Or.inl ⟨rfl, zw481⟩, zw78, rfl, by decide +kernel, by decide +kernel, by decide +kernel⟩
theorem zM108 : zMok 108 := ⟨Or.inl ⟨rfl, zw527⟩, zw78, rfl, by decide +kernel, by decide +kernel, by decide +kernel⟩
theorem zM109 : zMok 109 := ⟨Or.inl ⟨rfl, zw690⟩, zw90, rfl, by decide +kernel, by decide +kernel, by decide +kernel⟩
theorem zM110 : zMok 110 := ⟨Or.inl ⟨rfl, zw1232⟩, zw86, rfl, by decide +kernel, by decide +kernel, by decide +kernel⟩
theorem zM111 : zMok 111 := ⟨Or.inl ⟨rfl, zw1361⟩, zw86, rfl, by decide +kernel, by decide +kernel, by decide +kernel⟩
theorem zM112 : zMok 112 := ⟨Or.inl ⟨rfl, zw1354⟩, zw86, rfl, by decide +kernel, by decide +kernel, by decide +kernel⟩
theorem zM113 : zMok 113 := ⟨Or.inl ⟨rfl, zw1482⟩, zw86, rfl, by decide +kernel, by decide +kernel, by decide +kernel⟩
theorem zM114 : zMok 114 := ⟨Or.inl ⟨rfl, zw1268⟩, zw86, rfl, by decide +kernel, by decide +kernel, by decide +kernel⟩
theorem zM115 : zMok 115 := ⟨Or.inl ⟨rfl, zw1357⟩, zw86, rfl, by decide +kernel, by decide +kernel, by decide +kernel⟩
theorem zM116 : zMok 116 := ⟨Or.inl ⟨rfl, zw1265⟩, zw86, rfl, by decide +kernel, by decide +kernel, by decide +kernel⟩
theorem zM117 : zMok 117 := ⟨Or.inl ⟨rfl, zw1448⟩, zw86, rfl, by decide +kernel, by decide +kernel, by decide +kernel⟩
theorem zM118 : zMok 118 := ⟨Or.inl ⟨rfl, zw1479⟩, zw86, rfl, by decide +kernel, by decide +kernel, by decide +kernel⟩
theorem zM119 : zMok 119 := ⟨Or.inl ⟨rfl, zw1475⟩, zw86, rfl, by decide +kernel, by decide +kernel, by decide +kernel⟩
theorem zM120 : zMok 120 := ⟨Or.inl ⟨rfl, zw1513⟩, zw86, rfl, by decide +kernel, by decide +kernel, by decide +kernel⟩
theorem zM121 : zMok 121 := ⟨Or.inl ⟨rfl, zw1509⟩, zw86, rfl, by decide +kernel, by decide +kernel, by decide +kernel⟩
theorem zM122 : zMok 122 := ⟨Or.inl ⟨rfl, zw1521⟩, zw86, rfl, by decide +kernel, by decide +kernel, by decide +kernel⟩
theorem zM123 : zMok 123 := ⟨Or.inl ⟨rfl, zw1525⟩, zw86, rfl, by decide +kernel, by decide +kernel, by decide +kernel⟩
theorem zM124 : zMok 124 := ⟨Or.inl ⟨rfl, zw1463⟩, zw86, rfl, by decide +kernel, by decide +kernel, by decide +kernel⟩
theorem zM125 : zMok 125 := ⟨Or.inl ⟨rfl, zw1493⟩, zw86, rfl, by decide +kernel, by decide +kernel, by decide +kernel⟩
theorem zM126 : zMok 126 := ⟨Or.inl ⟨rfl, zw1444⟩, zw86, rfl, by decide +kernel, by decide +kernel, by decide +kernel⟩
theorem zM127 : zMok 127 := ⟨Or.inl ⟨rfl, zw1486⟩, zw86, rfl, by decide +kernel, by decide +kernel, by decide +kernel⟩
theorem zM128 : zMok 128 := ⟨Or.inl ⟨rfl, zw1471⟩, zw86, rfl, by decide +kernel, by decide +kernel, by decide +kernel⟩
theorem zM129 : zMok 129 := ⟨Or.inl ⟨rfl, zw1467⟩, zw86, rfl, by decide +kernel, by decide +kernel, by decide +kernel⟩
theorem zM130 : zMok 130 := ⟨Or.inl ⟨rfl, zw1517⟩, zw86, rfl, by decide +kernel, by decide +kernel, by decide +kernel⟩
theorem zM131 : zMok 131 := ⟨Or.inl ⟨rfl, zw1489⟩, zw86, rfl, by decide +kernel, by decide +kernel, by decide +kernel⟩
theorem zM132 : zMok 132 := ⟨Or.inl ⟨rfl, zw1459⟩, zw86, rfl, by decide +kernel, by decide +kernel, by decide +kernel⟩
theorem zM133 : zMok 133 := ⟨Or.inl ⟨rfl, zw1505⟩, zw86, rfl, by decide +kernel, by decide +kernel, by decide +kernel⟩
theorem zM134 : zMok 134 := ⟨Or.inl ⟨rfl, zw1501⟩, zw86, rfl, by decide +kernel, by decide +kernel, by decide +kernel⟩
theorem zM135 : zMok 135 := ⟨Or.inl ⟨rfl, zw1568⟩, zw86, rfl, by decide +kernel, by decide +kernel, by decide +kernel⟩
theorem zM136 : zMok 136 := ⟨Or.inl ⟨rfl, zw1572⟩, zw86, rfl, by decide +kernel, by decide +kernel, by decide +kernel⟩
theorem zM137 : zMok 137 := ⟨Or.inl ⟨rfl, zw1564⟩, zw86, rfl, by decide +kernel, by decide +kernel, by decide +kernel⟩
theorem zM138 : zMok 138 := ⟨Or.inl ⟨rfl, zw1455⟩, zw86, rfl, by decide +kernel, by decide +kernel, by decide +kernel⟩
theorem zM139 : zMok 139 := ⟨Or.inl ⟨rfl, zw1351⟩, zw86, rfl, by decide +kernel, by decide +kernel, by decide +kernel⟩
theorem zM140 : zMok 140 := ⟨Or.inl ⟨rfl, zw1452⟩, zw86, rfl, by decide +kernel, by decide +kernel, by decide +kernel⟩
theorem zM141 : zMok 141 := ⟨Or.inl ⟨rfl, zw1497⟩, zw86, rfl, by decide +kernel, by decide +kernel, by decide +kernel⟩
theorem zM142 : zMok 142 := ⟨Or.inl ⟨rfl, zw1529⟩, zw86, rfl, by decide +kernel, by decide +kernel, by decide +kernel⟩
theorem zM143 : zMok 143 := ⟨Or.inl ⟨rfl, zw1533⟩, zw86, rfl, by decide +kernel, by decide +kernel, by decide +kernel⟩
theorem zM144 : zMok 144 := ⟨Or.inl ⟨rfl, zw1537⟩, zw86, rfl, by decide +kernel, by decide +kernel, by decide +kernel⟩
theorem zM145 : zMok 145 := ⟨Or.inl ⟨rfl, zw1541⟩, zw86, rfl, by decide +kernel, by decide +kernel, by decide +kernel⟩
theorem zM146 : zMok 146 := ⟨Or.inl ⟨rfl, zw1545⟩, zw86, rfl, by decide +kernel, by decide +kernel, by decide +kernel⟩
theorem zM147 : zMok 147 := ⟨Or.inl ⟨rfl, zw1549⟩, zw86, rfl, by decide +kernel, by decide +kernel, by decide +kernel⟩
theorem zM148 : zMok 148 := ⟨Or.inl ⟨rfl, zw1553⟩, zw86, rfl, by decide +kernel, by decide +kernel, by decide +kernel⟩
theorem zM149 : zMok 149 := ⟨Or.inl ⟨rfl, zw1556⟩, zw86, rfl, by decide +kernel, by decide +kernel, by decide +kernel⟩
theorem zM150 : zMok 150 := ⟨Or.inl ⟨rfl, zw1560⟩, zw86, rfl, by decide +kernel, by decide +kernel, by decide +kernel⟩
theorem zM151 : zMok 151 := ⟨Or.inl ⟨rfl, zw1576⟩, zw86, rfl, by decide +kernel, by decide +kernel, by decide +kernel⟩
theorem zM152 : zMok 152 := ⟨Or.inl ⟨rfl, zw1580⟩, zw86, rfl, by decide +kernel, by decide +kernel, by decide +kernel⟩
theorem zM153 : zMok 153 := ⟨Or.inl ⟨rfl, zw1584⟩, zw86, rfl, by decide +kernel, by decide +kernel, by decide +kernel⟩
theorem zM154 : zMok 154 := ⟨Or.inl ⟨rfl, zw1588⟩, zw86, rfl, by decide +kernel, by decide +kernel, by decide +kernel⟩
theorem zM155 : zMok 155 := ⟨Or.inl ⟨rfl, zw1592⟩, zw86, rfl, by decide +kernel, by decide +kernel, by decide +kernel⟩
theorem zM156 : zMok 156 := ⟨Or.inl ⟨rfl, zw1600⟩, zw86, rfl, by decide +kernel, by decide +kernel, by decide +kernel⟩
theorem zM157 : zMok 157 := ⟨Or.inl ⟨rfl, zw1596⟩, zw86, rfl, by decide +kernel, by decide +kernel, by decide +kernel⟩
theorem zM158 : zMok 158 := ⟨Or.inl ⟨rfl, zw1612⟩, zw86, rfl, by decide +kernel, by decide +kernel, by decide +kernel⟩
theorem zM159 : zMok 159 := ⟨Or.inl ⟨rfl, zw1608⟩, zw86, rfl, by decide +kernel, by decide +kernel, by decide +kernel⟩
theorem zM160 : zMok 160 := ⟨Or.inl ⟨rfl, zw1604⟩, zw86, rfl, by decide +kernel, by decide +kernel, by decide +kernel⟩
theorem zM161 : zMok 161 := ⟨Or.inl ⟨rfl, zw1628⟩, zw86, rfl, by decide +kernel, by decide +kernel, by decide +kernel⟩
theorem zM162 : zMok 162 := ⟨Or.inl ⟨rfl, zw1624⟩, zw86, rfl, by decide +kernel, by decide +kernel, by decide +kernel⟩
theorem zM163 : zMok 163 := ⟨Or.inl ⟨rfl, zw1620⟩, zw86, rfl, by decide +kernel, by decide +kernel, by decide +kernel⟩
theorem zM164 : zMok 164 := ⟨Or.inl ⟨rfl, zw1616⟩, zw86, rfl, by decide +kernel, by decide +kernel, by decide +kernel⟩
theorem zM165 : zMok 165 := ⟨Or.inl ⟨rfl, zw1632⟩, zw86, rfl, by decide +kernel, by decide +kernel, by decide +kernel⟩
theorem zM166 : zMok 166 := ⟨Or.inl ⟨rfl, zw1648⟩, zw86, rfl, by decide +kernel, by decide +kernel, by decide +kernel⟩
theorem zM167 : zMok 167 := ⟨Or.inl ⟨rfl, zw1644⟩, zw86, rfl, by decide +kernel, by decide +kernel, by decide +kernel⟩
theorem zM168 : zMok 168 := ⟨Or.inl ⟨rfl, zw1652⟩, zw86, rfl, by decide +kernel, by decide +kernel, by decide +kernel⟩
theorem zM169 : zMok 169 := ⟨Or.inl ⟨rfl, zw1640⟩, zw86, rfl, by decide +kernel, by decide +kernel, by decide +kernel⟩
theorem zM170 : zMok 170 := ⟨Or.inl ⟨rfl, zw1636⟩, zw86, rfl, by decide +kernel, by decide +kernel, by decide +kernel⟩
theorem zM171 : zMok 171 := ⟨Or.inl ⟨rfl, zw1661⟩, zw86, rfl, by decide +kernel, by decide +kernel, by decide +kernel⟩
theorem zM172 : zMok 172 := ⟨Or.inl ⟨rfl, zw1657⟩, zw86, rfl, by decide +kernel, by decide +kernel, by decide +kernel⟩
theorem zM173 : zMok 173 := ⟨Or.inl ⟨rfl, zw1669⟩, zw86, rfl, by decide +kernel, by decide +kernel, by decide +kernel⟩
theorem zM174 : zMok 174 := ⟨Or.inl ⟨rfl, zw1665⟩, zw86, rfl, by decide +kernel, by decide +kernel, by decide +kernel⟩
theorem zM175 : zMok 175 := ⟨Or.inl ⟨rfl, zw1674⟩, zw86, rfl, by decide +kernel, by decide +kernel, by decide +kernel⟩
theorem zM176 : zMok 176 := ⟨Or.inl ⟨rfl, zw1691⟩, zw86, rfl, by decide +kernel, by decide +kernel, by decide +kernel⟩
theorem zM177 : zMok 177 := ⟨Or.inl ⟨rfl, zw1687⟩, zw86, rfl, by decide +kernel, by decide +kernel, by decide +kernel⟩
theorem zM178 : zMok 178 := ⟨Or.inl ⟨rfl, zw1683⟩, zw86, rfl, by decide +kernel, by decide +kernel, by decide +kernel⟩
theorem zM179 : zMok 179 := ⟨Or.inl ⟨rfl, zw1699⟩, zw86, rfl, by decide +kernel, by decide +kernel, by decide +kernel⟩
theorem zM180 : zMok 180 := ⟨Or.inl ⟨rfl, zw1695⟩, zw86, rfl, by decide +kernel, by decide +kernel, by decide +kernel⟩
theorem zM181 : zMok 181 := ⟨Or.inl ⟨rfl, zw1715⟩, zw86, rfl, by decide +kernel, by decide +kernel, by decide +kernel⟩
theorem zM182 : zMok 182 := ⟨Or.inl ⟨rfl, zw1711⟩, zw86, rfl, by decide +kernel, by decide +kernel, by decide +kernel⟩
theorem zM183 : zMok 183 := ⟨Or.inl ⟨rfl, zw1707⟩, zw86, rfl, by decide +kernel, by decide +kernel, by decide +kernel⟩
theorem zM184 : zMok 184 := ⟨Or.inl ⟨rfl, zw1718⟩, zw86, rfl, by decide +kernel, by decide +kernel, by decide +kernel⟩
theorem zM185 : zMok 185 := ⟨Or.inl ⟨rfl, zw1703⟩, zw86, rfl, by decide +kernel, by decide +kernel, by decide +kernel⟩
theorem zM186 : zMok 186 := ⟨Or.inl ⟨rfl, zw1726⟩, zw86, rfl, by decide +kernel, by decide +kernel, by decide +kernel⟩
theorem zM187 : zMok 187 := ⟨Or.inl ⟨rfl, zw1722⟩, zw86, rfl, by decide +kernel, by decide +kernel, by decide +kernel⟩
theorem zM188 : zMok 188 := ⟨Or.inl ⟨rfl, zw1730⟩, zw86, rfl, by decide +kernel, by decide +kernel, by decide +kernel⟩
theorem zM189 : zMok 189 := ⟨Or.inr ⟨by decide +kernel, zw704⟩, zw77, rfl, by decide +kernel, by decide +kernel, by decide +kernel⟩
theorem zM190 : zMok 190 := ⟨Or.inr ⟨by decide +kernel, zw722⟩, zw77, rfl, by decide +kernel, by decide +kernel, by decide +kernel⟩
theorem zM191 : zMok 191 := ⟨Or.inr ⟨by decide +kernel, zw782⟩, zw77, rfl, by decide +kernel, by decide +kernel, by decide +kernel⟩
theorem zM192 : zMok 192 := ⟨Or.inr ⟨by decide +kernel, zw806⟩, zw77, rfl, by decide +kernel, by decide +kernel, by decide +kernel⟩
theorem zM193 : zMok 193 := ⟨Or.inr ⟨by decide +kernel, zw818⟩, zw77, rfl, by decide +kernel, by decide +kernel, by decide +kernel⟩
theorem zM194 : zMok 194 := ⟨Or.inr ⟨by decide +kernel, zw828⟩, zw77, rfl, by decide +kernel, by decide +kernel, by decide +kernel⟩
theorem zM195 : zMok 195 := ⟨Or.inr ⟨by decide +kernel, zw837⟩, zw77, rfl, by decide +kernel, by decide +kernel, by decide +kernel⟩
theorem zM196 : zMok 196 := ⟨Or.inr ⟨by decide +kernel, zw849⟩, zw77, rfl, by decide +kernel, by decide +kernel, by decide +kernel⟩
theorem zM197 : zMok 197 := ⟨Or.inr ⟨by decide +kernel, zw859⟩, zw77, rfl, by decide +kernel, by decide +kernel, by decide +kernel⟩
theorem zM198 : zMok 198 := ⟨Or.inr ⟨by decide +kernel, zw871⟩, zw77, rfl, by decide +kernel, by decide +kernel, by decide +kernel⟩
theorem zM199 : zMok 199 := ⟨Or.inr ⟨by decide +kernel, zw878⟩, zw77, rfl, by decide +kernel, by decide +kernel, by decide +kernel⟩
theorem zM200 : zMok 200 := ⟨Or.inr ⟨by decide +kernel, zw894⟩, zw77, rfl, by decide +kernel, by decide +kernel, by decide +kernel⟩
theorem zM201 : zMok 201 := ⟨Or.inr ⟨by decide +kernel, zw898⟩, zw77, rfl, by decide +kernel, by decide +kernel, by decide +kernel⟩
theorem zM202 : zMok 202 := ⟨Or.inr ⟨by decide +kernel, zw905⟩, zw77, rfl, by decide +kernel, by decide +kernel, by decide +kernel⟩
theorem zM203 : zMok 203 := ⟨Or.inr ⟨by decide +kernel, zw915⟩, zw77, rfl, by decide +kernel, by decide +kernel, by decide +kernel⟩
theorem zM204 : zMok 204 := ⟨Or.inr ⟨by decide +kernel, zw919⟩, zw77, rfl, by decide +kernel, by decide +kernel, by decide +kernel⟩
theorem zM205 : zMok 205 := ⟨Or.inr ⟨by decide +kernel, zw923⟩, zw77, rfl, by decide +kernel, by decide +kernel, by decide +kernel⟩
theorem zM206 : zMok 206 := ⟨Or.inr ⟨by decide +kernel, zw927⟩, zw77, rfl, by decide +kernel, by decide +kernel, by decide +kernel⟩
theorem zM207 : zMok 207 := ⟨Or.inr ⟨by decide +kernel, zw931⟩, zw77, rfl, by decide +kernel, by decide +kernel, by decide +kernel⟩
theorem zM208 : zMok 208 := ⟨Or.inr ⟨by decide +kernel, zw935⟩, zw77, rfl, by decide +kernel, by decide +kernel, by decide +kernel⟩
theorem zM209 : zMok 209 := ⟨Or.inr ⟨by decide +kernel, zw939⟩, zw77, rfl, by decide +kernel, by decide +kernel, by decide +kernel⟩
theorem zM210 : zMok 210 := ⟨Or.inr ⟨by decide +kernel, zw943⟩, zw77, rfl, by decide +kernel, by decide +kernel, by decide +kernel⟩
theorem zM211 : zMok 211 := ⟨Or.inr ⟨by decide +kernel, zw1218⟩, zw77, rfl, by decide +kernel, by decide +kernel, by decide +kernel⟩
theorem zM212 : zMok 212 := ⟨Or.inr ⟨by decide +kernel, zw1222⟩, zw77, rfl, by decide +kernel, by decide +kernel, by decide +kernel⟩
theorem zM213 : zMok 213 := ⟨Or.inr ⟨by decide +kernel, zw1226⟩, zw77, rfl, by decide +kernel, by decide +kernel, by decide +kernel⟩
theorem zM215 : zMok 215 := ⟨Or.inl ⟨rfl, zw1086⟩, zw105, rfl, by decide +kernel, by decide +kernel, by decide +kernel⟩
theorem zM216 : zMok 216 := ⟨Or.inl ⟨rfl, zw1089⟩, zw105, rfl, by decide +kernel, by decide +kernel, by decide +kernel⟩
theorem zM217 : zMok 217 := ⟨Or.inl ⟨rfl, zw1383⟩, zw95, rfl, by decide +kernel, by decide +kernel, by decide +kernel⟩
theorem zM218 : zMok 218 := ⟨Or.inl ⟨rfl, zw1032⟩, zw107, rfl, by decide +kernel, by decide +kernel, by decide +kernel⟩
theorem zM219 : zMok 219 := ⟨Or.inl ⟨rfl, zw1077⟩, zw96, rfl, by decide +kernel, by decide +kernel, by decide +kernel⟩
theorem zM220 : zMok 220 := ⟨Or.inl ⟨rfl, zw986⟩, zw104, rfl, by decide +kernel, by decide +kernel, by decide +kernel⟩
theorem zM221 : zMok 221 := ⟨Or.inl ⟨rfl, zw952⟩, zw104, rfl, by decide +kernel, by decide +kernel, by decide +kernel⟩
theorem zM222 : zMok 222 := ⟨Or.inl ⟨rfl, zw1081⟩, zw104, rfl, by decide +kernel, by decide +kernel, by decide +kernel⟩
theorem zM223 : zMok 223 := ⟨Or.inl ⟨rfl, zw989⟩, zw103, rfl, by decide +kernel, by decide +kernel, by decide +kernel⟩
theorem zM224 : zMok 224 := ⟨Or.inl ⟨rfl, zw993⟩, zw103, rfl, by decide +kernel, by decide +kernel, by decide +kernel⟩
theorem zM225 : zMok 225 := ⟨Or.inl ⟨rfl, zw1095⟩, zw103, rfl, by decide +kernel, by decide +kernel, by decide +kernel⟩
theorem zM226 : zMok 226 := ⟨Or.inl ⟨rfl, zw955⟩, zw103, rfl, by decide +kernel, by decide +kernel, by decide +kernel⟩
theorem zM227 : zMok 227 := ⟨Or.inl ⟨rfl, zw1029⟩, zw103, rfl, by decide +kernel, by decide +kernel, by decide +kernel⟩
theorem zM228 : zMok 228 := ⟨Or.inl ⟨rfl, zw1103⟩, zw103, rfl, by decide +kernel, by decide +kernel, by decide +kernel⟩
theorem zM229 : zMok 229 := ⟨Or.inl ⟨rfl, zw282⟩, zw85, rfl, by decide +kernel, by decide +kernel, by decide +kernel⟩
theorem zM230 : zMok 230 := ⟨Or.inl ⟨rfl, zw1113⟩, zw99, rfl, by decide +kernel, by decide +kernel, by decide +kernel⟩
theorem zM231 : zMok 231 := ⟨Or.inl ⟨rfl, zw1110⟩, zw99, rfl, by decide +kernel, by decide +kernel, by decide +kernel⟩
theorem zM232 : zMok 232 := ⟨Or.inl ⟨rfl, zw1107⟩, zw99, rfl, by decide +kernel, by decide +kernel, by decide +kernel⟩
theorem zM233 : zMok 233 := ⟨Or.inl ⟨rfl, zw1414⟩, zw99, rfl, by decide +kernel, by decide +kernel, by decide +kernel⟩
theorem zM234 : zMok 234 := ⟨Or.inl ⟨rfl, zw1435⟩, zw99, rfl, by decide +kernel, by decide +kernel, by decide +kernel⟩
theorem zM235 : zMok 235 := ⟨Or.inl ⟨rfl, zw1000⟩, zw97, rfl, by decide +kernel, by decide +kernel, by decide +kernel⟩
theorem zM236 : zMok 236 := ⟨Or.inl ⟨rfl, zw1402⟩, zw89, rfl, by decide +kernel, by decide +kernel, by decide +kernel⟩
theorem zM237 : zMok 237 := ⟨Or.inl ⟨rfl, zw1398⟩, zw89, rfl, by decide +kernel, by decide +kernel, by decide +kernel⟩
theorem zM238 : zMok 238 := ⟨Or.inl ⟨rfl, zw1388⟩, zw89, rfl, by decide +kernel, by decide +kernel, by decide +kernel⟩
theorem zM239 : zMok 239 := ⟨Or.inl ⟨rfl, zw1380⟩, zw89, rfl, by decide +kernel, by decide +kernel, by decide +kernel⟩
theorem zM240 : zMok 240 := ⟨Or.inl ⟨rfl, zw1410⟩, zw89, rfl, by decide +kernel, by decide +kernel, by decide +kernel⟩
theorem zM241 : zMok 241 := ⟨Or.inl ⟨rfl, zw1406⟩, zw89, rfl, by decide +kernel, by decide +kernel, by decide +kernel⟩
theorem zM242 : zMok 242 := ⟨Or.inl ⟨rfl, zw1240⟩, zw89, rfl, by decide +kernel, by decide +kernel, by decide +kernel⟩
theorem zM243 : zMok 243 := ⟨Or.inl ⟨rfl, zw1371⟩, zw89, rfl, by decide +kernel, by decide +kernel, by decide +kernel⟩
theorem zM244 : zMok 244 := ⟨Or.inl ⟨rfl, zw1246⟩, zw87, rfl, by decide +kernel, by decide +kernel, by decide +kernel⟩
theorem zM245 : zMok 245 := ⟨Or.inl ⟨rfl, zw1243⟩, zw88, rfl, by decide +kernel, by decide +kernel, by decide +kernel⟩
theorem zMs_0 : ∀ y ∈ [0, 1, 2, 3, 4, 5, 6, 7, 8, 9, 10, 11, 12, 13, 14, 15, 16, 17, 18, 19, 20, 21, 22, 23, 24, 25, 26, 27, 28, 29, 30, 31, 32, 33, 34, 35, 36, 37, 38, 39], zMok y := List.forall_mem_cons.mpr ⟨zM0, List.forall_mem_cons.mpr ⟨zM1, List.forall_mem_cons.mpr ⟨zM2, List.forall_mem_cons.mpr ⟨zM3, List.forall_mem_cons.mpr ⟨zM4, List.forall_mem_cons.mpr ⟨zM5, List.forall_mem_cons.mpr ⟨zM6, List.forall_mem_cons.mpr ⟨zM7, List.forall_mem_cons.mpr ⟨zM8, List.forall_mem_cons.mpr ⟨zM9, List.forall_mem_cons.mpr ⟨zM10, List.forall_mem_cons.mpr ⟨zM11, List.forall_mem_cons.mpr ⟨zM12, List.forall_mem_cons.mpr ⟨zM13, List.forall_mem_cons.mpr ⟨zM14, List.forall_mem_cons.mpr ⟨zM15, List.forall_mem_cons.mpr ⟨zM16, List.forall_mem_cons.mpr ⟨zM17, List.forall_mem_cons.mpr ⟨zM18, List.forall_mem_cons.mpr ⟨zM19, List.forall_mem_cons.mpr ⟨zM20, List.forall_mem_cons.mpr ⟨zM21, List.forall_mem_cons.mpr ⟨zM22, List.forall_mem_cons.mpr ⟨zM23, List.forall_mem_cons.mpr ⟨zM24, List.forall_mem_cons.mpr ⟨zM25, List.forall_mem_cons.mpr ⟨zM26, List.forall_mem_cons.mpr ⟨zM27, List.forall_mem_cons.mpr ⟨zM28, List.forall_mem_cons.mpr ⟨zM29, List.forall_mem_cons.mpr ⟨zM30, List.forall_mem_cons.mpr ⟨zM31, List.forall_mem_cons.mpr ⟨zM32, List.forall_mem_cons.mpr ⟨zM33, List.forall_mem_cons.mpr ⟨zM34, List.forall_mem_cons.mpr ⟨zM35, List.forall_mem_cons.mpr ⟨zM36, List.forall_mem_cons.mpr ⟨zM37, List.forall_mem_cons.mpr ⟨zM38, List.forall_mem_cons.mpr ⟨zM39, fun _ h => absurd h List.not_mem_nil⟩⟩⟩⟩⟩⟩⟩⟩⟩⟩⟩⟩⟩⟩⟩⟩⟩⟩⟩⟩⟩⟩⟩⟩⟩⟩⟩⟩⟩⟩⟩⟩⟩⟩⟩⟩⟩⟩⟩⟩
theorem zMs_1 : ∀ y ∈ [40, 41, 42, 43, 44, 45, 46, 47, 48, 49, 50, 51, 52, 53, 54, 55, 56, 57, 58, 59, 60, 61, 62, 63, 64, 65, 66, 67, 68, 69, 70, 71, 72, 73, 74, 75, 76, 77, 78, 79], zMok y := List.forall_mem_cons.mpr ⟨zM40, List.forall_mem_cons.mpr ⟨zM41, List.forall_mem_cons.mpr ⟨zM42, List.forall_mem_cons.mpr ⟨zM43, List.forall_mem_cons.mpr ⟨zM44, List.forall_mem_cons.mpr ⟨zM45, List.forall_mem_cons.mpr ⟨zM46, List.forall_mem_cons.mpr ⟨zM47, List.forall_mem_cons.mpr ⟨zM48, List.forall_mem_cons.mpr ⟨zM49, List.forall_mem_cons.mpr ⟨zM50, List.forall_mem_cons.mpr ⟨zM51, List.forall_mem_cons.mpr ⟨zM52, List.forall_mem_cons.mpr ⟨zM53, List.forall_mem_cons.mpr ⟨zM54, List.forall_mem_cons.mpr ⟨zM55, List.forall_mem_cons.mpr ⟨zM56, List.forall_mem_cons.mpr ⟨zM57, List.forall_mem_cons.mpr ⟨zM58, List.forall_mem_cons.mpr ⟨zM59, List.forall_mem_cons.mpr ⟨zM60, List.forall_mem_cons.mpr ⟨zM61, List.forall_mem_cons.mpr ⟨zM62, List.forall_mem_cons.mpr ⟨zM63, List.forall_mem_cons.mpr ⟨zM64, List.forall_mem_cons.mpr ⟨zM65, List.forall_mem_cons.mpr ⟨zM66, List.forall_mem_cons.mpr ⟨zM67, List.forall_mem_cons.mpr ⟨zM68, List.forall_mem_cons.mpr ⟨zM69, List.forall_mem_cons.mpr ⟨zM70, List.forall_mem_cons.mpr ⟨zM71, List.forall_mem_cons.mpr ⟨zM72, List.forall_mem_cons.mpr ⟨zM73, List.forall_mem_cons.mpr ⟨zM74, List.forall_mem_cons.mpr ⟨zM75, List.forall_mem_cons.mpr ⟨zM76, List.forall_mem_cons.mpr ⟨zM77, List.forall_mem_cons.mpr ⟨zM78, List.forall_mem_cons.mpr ⟨zM79, fun _ h => absurd h List.not_mem_nil⟩⟩⟩⟩⟩⟩⟩⟩⟩⟩⟩⟩⟩⟩⟩⟩⟩⟩⟩⟩⟩⟩⟩⟩⟩⟩⟩⟩⟩⟩⟩⟩⟩⟩⟩⟩⟩⟩⟩⟩
theorem zMs_2 : ∀ y ∈ [80, 81, 82, 83, 84, 85, 86, 87, 88, 89, 90, 91, 92, 93, 94, 95, 96, 97, 98, 99, 100, 101, 102, 103, 104, 105, 106, 107, 108, 109, 110, 111, 112, 113, 114, 115, 116, 117, 118, 119], zMok y := List.forall_mem_cons.mpr ⟨zM80, List.forall_mem_cons.mpr ⟨zM81, List.forall_mem_cons.mpr ⟨zM82, List.forall_mem_cons.mpr ⟨zM83, List.forall_mem_cons.mpr ⟨zM84, List.forall_mem_cons.mpr ⟨zM85, List.forall_mem_cons.mpr ⟨zM86, List.forall_mem_cons.mpr ⟨zM87, List.forall_mem_cons.mpr ⟨zM88, List.forall_mem_cons.mpr ⟨zM89, List.forall_mem_cons.mpr ⟨zM90, List.forall_mem_cons.mpr ⟨zM91, List.forall_mem_cons.mpr ⟨zM92, List.forall_mem_cons.mpr ⟨zM93, List.forall_mem_cons.mpr ⟨zM94, List.forall_mem_cons.mpr ⟨zM95, List.forall_mem_cons.mpr ⟨zM96, List.forall_mem_cons.mpr ⟨zM97, List.forall_mem_cons.mpr ⟨zM98, List.forall_mem_cons.mpr ⟨zM99, List.forall_mem_cons.mpr ⟨zM100, List.forall_mem_cons.mpr ⟨zM101, List.forall_mem_cons.mpr ⟨zM102, List.forall_mem_cons.mpr ⟨zM103, List.forall_mem_cons.mpr ⟨zM104, List.forall_mem_cons.mpr ⟨zM105, List.forall_mem_cons.mpr ⟨zM106, List.forall_mem_cons.mpr ⟨zM107, List.forall_mem_cons.mpr ⟨zM108, List.forall_mem_cons.mpr ⟨zM109, List.forall_mem_cons.mpr ⟨zM110, List.forall_mem_cons.mpr ⟨zM111, List.forall_mem_cons.mpr ⟨zM112, List.forall_mem_cons.mpr ⟨zM113, List.forall_mem_cons.mpr ⟨zM114, List.forall_mem_cons.mpr ⟨zM115, List.forall_mem_cons.mpr ⟨zM116, List.forall_mem_cons.mpr ⟨zM117, List.forall_mem_cons.mpr ⟨zM118, List.forall_mem_cons.mpr ⟨zM119, fun _ h => absurd h List.not_mem_nil⟩⟩⟩⟩⟩⟩⟩⟩⟩⟩⟩⟩⟩⟩⟩⟩⟩⟩⟩⟩⟩⟩⟩⟩⟩⟩⟩⟩⟩⟩⟩⟩⟩⟩⟩⟩⟩⟩⟩⟩
theorem zMs_3 : ∀ y ∈ [120, 121, 122, 123, 124, 125, 126, 127, 128, 129, 130, 131, 132, 133, 134, 135, 136, 137, 138, 139, 140, 141, 142, 143, 144, 145, 146, 147, 148, 149, 150, 151, 152, 153, 154, 155, 156, 157, 158, 159], zMok y := List.forall_mem_cons.mpr ⟨zM120, List.forall_mem_cons.mpr ⟨zM121, List.forall_mem_cons.mpr ⟨zM122, List.forall_mem_cons.mpr ⟨zM123, List.forall_mem_cons.mpr ⟨zM124, List.forall_mem_cons.mpr ⟨zM125, List.forall_mem_cons.mpr ⟨zM126, List.forall_mem_cons.mpr ⟨zM127, List.forall_mem_cons.mpr ⟨zM128, List.forall_mem_cons.mpr ⟨zM129, List.forall_mem_cons.mpr ⟨zM130, List.forall_mem_cons.mpr ⟨zM131, List.forall_mem_cons.mpr ⟨zM132, List.forall_mem_cons.mpr ⟨zM133, List.forall_mem_cons.mpr ⟨zM134, List.forall_mem_cons.mpr ⟨zM135, List.forall_mem_cons.mpr ⟨zM136, List.forall_mem_cons.mpr ⟨zM137, List.forall_mem_cons.mpr ⟨zM138, List.forall_mem_cons.mpr ⟨zM139, List.forall_mem_cons.mpr ⟨zM140, List.forall_mem_cons.mpr ⟨zM141, List.forall_mem_cons.mpr ⟨zM142, List.forall_mem_cons.mpr ⟨zM143, List.forall_mem_cons.mpr ⟨zM144, List.forall_mem_cons.mpr ⟨zM145, List.forall_mem_cons.mpr ⟨zM146, List.forall_mem_cons.mpr ⟨zM147, List.forall_mem_cons.mpr ⟨zM148, List.forall_mem_cons.mpr ⟨zM149, List.forall_mem_cons.mpr ⟨zM150, List.forall_mem_cons.mpr ⟨zM151, List.forall_mem_cons.mpr ⟨zM152, List.forall_mem_cons.mpr ⟨zM153, List.forall_mem_cons.mpr ⟨zM154, List.forall_mem_cons.mpr ⟨zM155, List.forall_mem_cons.mpr ⟨zM156, List.forall_mem_cons.mpr ⟨zM157, List.forall_mem_cons.mpr ⟨zM158, List.forall_mem_cons.mpr ⟨zM159, fun _ h => absurd h List.not_mem_nil⟩⟩⟩⟩⟩⟩⟩⟩⟩⟩⟩⟩⟩⟩⟩⟩⟩⟩⟩⟩⟩⟩⟩⟩⟩⟩⟩⟩⟩⟩⟩⟩⟩⟩⟩⟩⟩⟩⟩⟩
theorem zMs_4 : ∀ y ∈ [160, 161, 162, 163, 164, 165, 166, 167, 168, 169, 170, 171, 172, 173, 174, 175, 176, 177, 178, 179, 180, 181, 182, 183, 184, 185, 186, 187, 188, 189, 190, 191, 192, 193, 194, 195, 196, 197, 198, 199], zMok y := List.forall_mem_cons.mpr ⟨zM160, List.forall_mem_cons.mpr ⟨zM161, List.forall_mem_cons.mpr ⟨zM162, List.forall_mem_cons.mpr ⟨zM163, List.forall_mem_cons.mpr ⟨zM164, List.forall_mem_cons.mpr ⟨zM165, List.forall_mem_cons.mpr ⟨zM166, List.forall_mem_cons.mpr ⟨zM167, List.forall_mem_cons.mpr ⟨zM168, List.forall_mem_cons.mpr ⟨zM169, List.forall_mem_cons.mpr ⟨zM170, List.forall_mem_cons.mpr ⟨zM171, List.forall_mem_cons.mpr ⟨zM172, List.forall_mem_cons.mpr ⟨zM173, List.forall_mem_cons.mpr ⟨zM174, List.forall_mem_cons.mpr ⟨zM175, List.forall_mem_cons.mpr ⟨zM176, List.forall_mem_cons.mpr ⟨zM177, List.forall_mem_cons.mpr ⟨zM178, List.forall_mem_cons.mpr ⟨zM179, List.forall_mem_cons.mpr ⟨zM180, List.forall_mem_cons.mpr ⟨zM181, List.forall_mem_cons.mpr ⟨zM182, List.forall_mem_cons.mpr ⟨zM183, List.forall_mem_cons.mpr ⟨zM184, List.forall_mem_cons.mpr ⟨zM185, List.forall_mem_cons.mpr ⟨zM186, List.forall_mem_cons.mpr ⟨zM187, List.forall_mem_cons.mpr ⟨zM188, List.forall_mem_cons.mpr ⟨zM189, List.forall_mem_cons.mpr ⟨zM190, List.forall_mem_cons.mpr ⟨zM191, List.forall_mem_cons.mpr ⟨zM192, List.forall_mem_cons.mpr ⟨zM193, List.forall_mem_cons.mpr ⟨zM194, List.forall_mem_cons.mpr ⟨zM195, List.forall_mem_cons.mpr ⟨zM196, List.forall_mem_cons.mpr ⟨zM197, List.forall_mem_cons.mpr ⟨zM198, List.forall_mem_cons.mpr ⟨zM199, fun _ h => absurd h List.not_mem_nil⟩⟩⟩⟩⟩⟩⟩⟩⟩⟩⟩⟩⟩⟩⟩⟩⟩⟩⟩⟩⟩⟩⟩⟩⟩⟩⟩⟩⟩⟩⟩⟩⟩⟩⟩⟩⟩⟩⟩⟩
theorem zMs_5 : ∀ y ∈ [200, 201, 202, 203, 204, 205, 206, 207, 208, 209, 210, 211, 212, 213, 215, 216, 217, 218, 219, 220, 221, 222, 223, 224, 225, 226, 227, 228, 229, 230, 231, 232, 233, 234, 235, 236, 237, 238, 239, 240], zMok y := List.forall_mem_cons.mpr ⟨zM200, List.forall_mem_cons.mpr ⟨zM201, List.forall_mem_cons.mpr ⟨zM202, List.forall_mem_cons.mpr ⟨zM203, List.forall_mem_cons.mpr ⟨zM204, List.forall_mem_cons.mpr ⟨zM205, List.forall_mem_cons.mpr ⟨zM206, List.forall_mem_cons.mpr ⟨zM207, List.forall_mem_cons.mpr ⟨zM208, List.forall_mem_cons.mpr ⟨zM209, List.forall_mem_cons.mpr ⟨zM210, List.forall_mem_cons.mpr ⟨zM211, List.forall_mem_cons.mpr ⟨zM212, List.forall_mem_cons.mpr ⟨zM213, List.forall_mem_cons.mpr ⟨zM215, List.forall_mem_cons.mpr ⟨zM216, List.forall_mem_cons.mpr ⟨zM217, List.forall_mem_cons.mpr ⟨zM218, List.forall_mem_cons.mpr ⟨zM219, List.forall_mem_cons.mpr ⟨zM220, List.forall_mem_cons.mpr ⟨zM221, List.forall_mem_cons.mpr ⟨zM222, List.forall_mem_cons.mpr ⟨zM223, List.forall_mem_cons.mpr ⟨zM224, List.forall_mem_cons.mpr ⟨zM225, List.forall_mem_cons.mpr ⟨zM226, List.forall_mem_cons.mpr ⟨zM227, List.forall_mem_cons.mpr ⟨zM228, List.forall_mem_cons.mpr ⟨zM229, List.forall_mem_cons.mpr ⟨zM230, List.forall_mem_cons.mpr ⟨zM231, List.forall_mem_cons.mpr ⟨zM232, List.forall_mem_cons.mpr ⟨zM233, List.forall_mem_cons.mpr ⟨zM234, List.forall_mem_cons.mpr ⟨zM235, List.forall_mem_cons.mpr ⟨zM236, List.forall_mem_cons.mpr ⟨zM237, List.forall_mem_cons.mpr ⟨zM238, List.forall_mem_cons.mpr ⟨zM239, List.forall_mem_cons.mpr ⟨zM240, fun _ h => absurd h List.not_mem_nil⟩⟩⟩⟩⟩⟩⟩⟩⟩⟩⟩⟩⟩⟩⟩⟩⟩⟩⟩⟩⟩⟩⟩⟩⟩⟩⟩⟩⟩⟩⟩⟩⟩⟩⟩⟩⟩⟩⟩⟩
theorem zMs_6 : ∀ y ∈ [241, 242, 243, 244, 245], zMok y := List.forall_mem_cons.mpr ⟨zM241, List.forall_mem_cons.mpr ⟨zM242, List.forall_mem_cons.mpr ⟨zM243, List.forall_mem_cons.mpr ⟨zM244, List.forall_mem_cons.mpr ⟨zM245, fun _ h => absurd h List.not_mem_nil⟩⟩⟩⟩⟩
theorem zM_ok : ∀ y, y < 246 → y ≠ 214 → zMok y := by
  intro y h1 h2
  have h : y ∈ [0, 1, 2, 3, 4, 5, 6, 7, 8, 9, 10, 11, 12, 13, 14, 15, 16, 17, 18, 19, 20, 21, 22, 23, 24, 25, 26, 27, 28, 29, 30, 31, 32, 33, 34, 35, 36, 37, 38, 39] ++ [40, 41, 42, 43, 44, 45, 46, 47, 48, 49, 50, 51, 52, 53, 54, 55, 56, 57, 58, 59, 60, 61, 62, 63, 64, 65, 66, 67, 68, 69, 70, 71, 72, 73, 74, 75, 76, 77, 78, 79] ++ [80, 81, 82, 83, 84, 85, 86, 87, 88, 89, 90, 91, 92, 93, 94, 95, 96, 97, 98, 99, 100, 101, 102, 103, 104, 105, 106, 107, 108, 109, 110, 111, 112, 113, 114, 115, 116, 117, 118, 119] ++ [120, 121, 122, 123, 124, 125, 126, 127, 128, 129, 130, 131, 132, 133, 134, 135, 136, 137, 138, 139, 140, 141, 142, 143, 144, 145, 146, 147, 148, 149, 150, 151, 152, 153, 154, 155, 156, 157, 158, 159] ++ [160, 161, 162, 163, 164, 165, 166, 167, 168, 169, 170, 171, 172, 173, 174, 175, 176, 177, 178, 179, 180, 181, 182, 183, 184, 185, 186, 187, 188, 189, 190, 191, 192, 193, 194, 195, 196, 197, 198, 199] ++ [200, 201, 202, 203, 204, 205, 206, 207, 208, 209, 210, 211, 212, 213, 215, 216, 217, 218, 219, 220, 221, 222, 223, 224, 225, 226, 227, 228, 229, 230, 231, 232, 233, 234, 235, 236, 237, 238, 239, 240] ++ [241, 242, 243, 244, 245] := by
    have e : (List.range 246).all (fun y => decide (y = 214) || decide (y ∈ ([0, 1, 2, 3, 4, 5, 6, 7, 8, 9, 10, 11, 12, 13, 14, 15, 16, 17, 18, 19, 20, 21, 22, 23, 24, 25, 26, 27, 28, 29, 30, 31, 32, 33, 34, 35, 36, 37, 38, 39] : List Nat) ++ ([40, 41, 42, 43, 44, 45, 46, 47, 48, 49, 50, 51, 52, 53, 54, 55, 56, 57, 58, 59, 60, 61, 62, 63, 64, 65, 66, 67, 68, 69, 70, 71, 72, 73, 74, 75, 76, 77, 78, 79] : List Nat) ++ ([80, 81, 82, 83, 84, 85, 86, 87, 88, 89, 90, 91, 92, 93, 94, 95, 96, 97, 98, 99, 100, 101, 102, 103, 104, 105, 106, 107, 108, 109, 110, 111, 112, 113, 114, 115, 116, 117, 118, 119] : List Nat) ++ ([120, 121, 122, 123, 124, 125, 126, 127, 128, 129, 130, 131, 132, 133, 134, 135, 136, 137, 138, 139, 140, 141, 142, 143, 144, 145, 146, 147, 148, 149, 150, 151, 152, 153, 154, 155, 156, 157, 158, 159] : List Nat) ++ ([160, 161, 162, 163, 164, 165, 166, 167, 168, 169, 170, 171, 172, 173, 174, 175, 176, 177, 178, 179, 180, 181, 182, 183, 184, 185, 186, 187, 188, 189, 190, 191, 192, 193, 194, 195, 196, 197, 198, 199] : List Nat) ++ ([200, 201, 202, 203, 204, 205, 206, 207, 208, 209, 210, 211, 212, 213, 215, 216, 217, 218, 219, 220, 221, 222, 223, 224, 225, 226, 227, 228, 229, 230, 231, 232, 233, 234, 235, 236, 237, 238, 239, 240] : List Nat) ++ ([241, 242, 243, 244, 245] : List Nat))) = true := by decide +kernel
    have h3 := List.all_eq_true.mp e y (List.mem_range.mpr h1)
    rw [Bool.or_eq_true, decide_eq_true_eq, decide_eq_true_eq] at h3
    exact h3.resolve_left h2
  exact (List.forall_mem_append.mpr ⟨List.forall_mem_append.mpr ⟨List.forall_mem_append.mpr ⟨List.forall_mem_append.mpr ⟨List.forall_mem_append.mpr ⟨List.forall_mem_append.mpr ⟨zMs_0, zMs_1⟩, zMs_2⟩, zMs_3⟩, zMs_4⟩, zMs_5⟩, zMs_6⟩) y h
end
section
/-! The abstract machine: cells are (tag, values); a tag below 100 is a class by its place among zcl, 100 int[], 101 boolean[], 102 byte[], 103 Object[], 104 int[][]; a reference is a cell's place; retAddr 0 the script, retAddr 1 ArrayList's empty row, retAddr 2 the Class object of Object[]. -/
abbrev zH : Type := List (Nat × List Value)
abbrev zL : Type := List (Option Value)
/-- what a step does: go on (pc, locals, stack, heap, new cells, new slots); or call (method, arguments with the receiver first, rest of the stack, pc behind); or end (return a value, or throw class E, heap, new cells, new slots) -/
abbrev zA : Type := (Nat × zL × List Value × zH × Nat × Nat) ⊕ ((Nat × List Value × List Value × Nat) ⊕ ((Option Value ⊕ Nat) × Nat × Nat))
abbrev zRow : Type := Nat × Instr × Nat × Nat × Nat × Nat × Nat
def zgo (pc : Nat) (L : zL) (st : List Value) (h : zH) : Option zA := some (.inl (pc, L, st, h, 0, 0))
def zldI (L : zL) (i nx : Nat) (st : List Value) (h : zH) : Option zA := match L[i]? with
  | some (some (.int x)) => zgo nx L (.int x :: st) h
  | _ => none
def zldL (L : zL) (i nx : Nat) (st : List Value) (h : zH) : Option zA := match L[i]? with
  | some (some (.long x)) => zgo nx L (.long x :: st) h
  | _ => none
def zldD (L : zL) (i nx : Nat) (st : List Value) (h : zH) : Option zA := match L[i]? with
  | some (some (.double x)) => zgo nx L (.double x :: st) h
  | _ => none
def zldA (L : zL) (i nx : Nat) (st : List Value) (h : zH) : Option zA := match L[i]? with
  | some (some (.ref x)) => zgo nx L (.ref x :: st) h
  | some (some (.retAddr x)) => zgo nx L (.retAddr x :: st) h
  | some (some .null) => zgo nx L (.null :: st) h
  | _ => none
/-- what stands ahead of a local that is stored: a value of two slots goes -/
def zk (a : Option Value) : Option Value := match a with
  | some (.long _) => none
  | some (.double _) => none
  | x => x
def zst1 (v : Value) : Nat → zL → Option zL
  | 0, _ :: l => some (some v :: l)
  | 1, a :: _ :: l => some (zk a :: some v :: l)
  | i + 2, a :: l => match zst1 v (i + 1) l with
    | some l' => some (a :: l')
    | none => none
  | _, _ => none
def zst2 (v : Value) : Nat → zL → Option zL
  | 0, _ :: _ :: l => some (some v :: none :: l)
  | 1, a :: _ :: _ :: l => some (zk a :: some v :: none :: l)
  | i + 2, a :: l => match zst2 v (i + 1) l with
    | some l' => some (a :: l')
    | none => none
  | _, _ => none
def zsv1 (L : zL) (i nx : Nat) (v : Value) (st : List Value) (h : zH) : Option zA := match zst1 v i L with
  | some L' => zgo nx L' st h
  | none => none
def zsv2 (L : zL) (i nx : Nat) (v : Value) (st : List Value) (h : zH) : Option zA := match zst2 v i L with
  | some L' => zgo nx L' st h
  | none => none
def zsI (L : zL) (i nx : Nat) (st : List Value) (h : zH) : Option zA := match st with
  | .int x :: r => zsv1 L i nx (.int x) r h
  | _ => none
def zsA (L : zL) (i nx : Nat) (st : List Value) (h : zH) : Option zA := match st with
  | .ref x :: r => zsv1 L i nx (.ref x) r h
  | .retAddr x :: r => zsv1 L i nx (.retAddr x) r h
  | _ => none
def zsL (L : zL) (i nx : Nat) (st : List Value) (h : zH) : Option zA := match st with
  | .long x :: r => zsv2 L i nx (.long x) r h
  | _ => none
def zsD (L : zL) (i nx : Nat) (st : List Value) (h : zH) : Option zA := match st with
  | .double x :: r => zsv2 L i nx (.double x) r h
  | _ => none
def zinc (L : zL) (i : Nat) (n : Int) (nx : Nat) (st : List Value) (h : zH) : Option zA := match L[i]? with
  | some (some (.int x)) => zsv1 L i nx (.int (x + Int32.ofInt n)) st h
  | _ => none
def zpu (L : zL) (v : Value) (nx : Nat) (st : List Value) (h : zH) : Option zA := zgo nx L (v :: st) h
def zbin (f : Int32 → Int32 → Int32) (nx : Nat) (L : zL) (st : List Value) (h : zH) : Option zA := match st with
  | .int y :: .int x :: r => zgo nx L (.int (f x y) :: r) h
  | _ => none
def zdiv (f : Int32 → Int32 → Int32) (nx : Nat) (L : zL) (st : List Value) (h : zH) : Option zA := match st with
  | .int y :: .int x :: r => if y = 0 then none else zgo nx L (.int (f x y) :: r) h
  | _ => none
def zun (f : Int32 → Value) (nx : Nat) (L : zL) (st : List Value) (h : zH) : Option zA := match st with
  | .int x :: r => zgo nx L (f x :: r) h
  | _ => none
def zbinL (f : Int64 → Int64 → Int64) (nx : Nat) (L : zL) (st : List Value) (h : zH) : Option zA := match st with
  | .long y :: .long x :: r => zgo nx L (.long (f x y) :: r) h
  | _ => none
def zbinD (f : UInt64 → UInt64 → UInt64) (nx : Nat) (L : zL) (st : List Value) (h : zH) : Option zA := match st with
  | .double y :: .double x :: r => if (f x y) &&& 0x7fffffffffffffff ≤ 0x7ff0000000000000 then zgo nx L (.double (f x y) :: r) h else none
  | _ => none
def zd2l (nx : Nat) (L : zL) (st : List Value) (h : zH) : Option zA := match st with
  | .double x :: r => zgo nx L (.long (FP.d2l x) :: r) h
  | _ => none
def zcat (v : Value) : Bool := match v with
  | .long _ => true
  | .double _ => true
  | _ => false
def zdup (nx : Nat) (L : zL) (st : List Value) (h : zH) : Option zA := match st with
  | v :: r => if zcat v then none else zgo nx L (v :: v :: r) h
  | _ => none
def zpop (nx : Nat) (L : zL) (st : List Value) (h : zH) : Option zA := match st with
  | v :: r => if zcat v then none else zgo nx L r h
  | _ => none
def zpop2 (nx : Nat) (L : zL) (st : List Value) (h : zH) : Option zA := match st with
  | v :: r => if zcat v then zgo nx L r h else none
  | _ => none
def zdupx1 (nx : Nat) (L : zL) (st : List Value) (h : zH) : Option zA := match st with
  | v :: w :: r => if zcat v || zcat w then none else zgo nx L (v :: w :: v :: r) h
  | _ => none
def zdup2 (nx : Nat) (L : zL) (st : List Value) (h : zH) : Option zA := match st with
  | v :: w :: r => if zcat v || zcat w then none else zgo nx L (v :: w :: v :: w :: r) h
  | _ => none
/-- a branch on x, y -/
def zbr (c : ClassFile.Cond) (x y : Int32) (tg nx : Nat) (L : zL) (r : List Value) (h : zH) : Option zA := match c with
  | .eq => if x = y then zgo tg L r h else zgo nx L r h
  | .ne => if x = y then zgo nx L r h else zgo tg L r h
  | .lt => if x < y then zgo tg L r h else zgo nx L r h
  | .ge => if y ≤ x then zgo tg L r h else zgo nx L r h
  | .gt => if y < x then zgo tg L r h else zgo nx L r h
  | .le => if x ≤ y then zgo tg L r h else zgo nx L r h
def zif (c : ClassFile.Cond) (tg nx : Nat) (L : zL) (st : List Value) (h : zH) : Option zA := match st with
  | .int x :: r => zbr c x 0 tg nx L r h
  | _ => none
def zicmp (c : ClassFile.Cond) (tg nx : Nat) (L : zL) (st : List Value) (h : zH) : Option zA := match st with
  | .int y :: .int x :: r => zbr c x y tg nx L r h
  | _ => none
def zoff (pc : Nat) (o : Int) (L : zL) (r : List Value) (h : zH) : Option zA := match (pc : Int) + o with
  | .ofNat t => zgo t L r h
  | .negSucc _ => none
def ztab (pc : Nat) (d lo hi : Int) (offs : Array Int) (L : zL) (st : List Value) (h : zH) : Option zA := match st with
  | .int x :: r => if x.toInt < lo ∨ hi < x.toInt then zoff pc d L r h else match offs[(x.toInt - lo).toNat]? with
    | some o => zoff pc o L r h
    | none => none
  | _ => none
def zlook (pc : Nat) (d : Int) (ps : Array (Int × Int)) (L : zL) (st : List Value) (h : zH) : Option zA := match st with
  | .int x :: r => zoff pc (Op.lookupswitch.offset ps.toList d x.toInt) L r h
  | _ => none
/-- a place in a row -/
def zix (i : Int32) : Option Nat := if i < 0 then none else some i.toNatClampNeg
def zald (t : Nat) (nx : Nat) (L : zL) (st : List Value) (h : zH) : Option zA := match st with
  | .int i :: .ref a :: r => match h[a]? with
    | some (t', vs) => if t' = t then match vs[i.toNatClampNeg]? with
      | some (.int x) => if i < 0 then none else zgo nx L (.int x :: r) h
      | _ => none else none
    | none => none
  | _ => none
def zast (t : Nat) (g : Int32 → Option Int32) (nx : Nat) (L : zL) (st : List Value) (h : zH) : Option zA := match st with
  | .int x :: .int i :: .ref a :: r => match h[a]? with
    | some (t', vs) => if t' = t then if i < 0 then none else if i.toNatClampNeg < vs.length then match g x with
      | some y => zgo nx L r (h.set a (t, vs.set i.toNatClampNeg (.int y)))
      | none => none else none else none
    | none => none
  | _ => none
/-- the script, or a row of ints -/
def zialoadX (xs : List Int32) (nx : Nat) (L : zL) (st : List Value) (h : zH) : Option zA := match st with
  | .int i :: .retAddr 0 :: r => if i < 0 then none else match xs[i.toNatClampNeg]? with
    | some x => zgo nx L (.int x :: r) h
    | none => none
  | _ => zald 100 nx L st h
def zalen (xs : List Int32) (nx : Nat) (L : zL) (st : List Value) (h : zH) : Option zA := match st with
  | .ref a :: r => match h[a]? with
    | some (t, vs) => if 100 ≤ t then zgo nx L (.int (Int32.ofNat vs.length) :: r) h else none
    | none => none
  | .retAddr 0 :: r => zgo nx L (.int (Int32.ofNat xs.length) :: r) h
  | .retAddr 1 :: r => zgo nx L (.int 0 :: r) h
  | _ => none
/-- a row of references (103 Object[], 104 int[][]) -/
def zaald (nx : Nat) (L : zL) (st : List Value) (h : zH) : Option zA := match st with
  | .int i :: .ref a :: r => match h[a]? with
    | some (t, vs) => if t = 103 ∨ t = 104 then match vs[i.toNatClampNeg]? with
      | some v => if i < 0 then none else zgo nx L (v :: r) h
      | none => none else none
    | none => none
  | _ => none
def zaast (nx : Nat) (L : zL) (st : List Value) (h : zH) : Option zA := match st with
  | .ref x :: .int i :: .ref a :: r => match h[a]?, h[x]? with
    | some (t, vs), some (t', _) => if t = 103 ∧ t' = 100 then if i < 0 then none else if i.toNatClampNeg < vs.length then zgo nx L r (h.set a (103, vs.set i.toNatClampNeg (.ref x))) else none else none
    | _, _ => none
  | _ => none
def ztag (a : ArrayType) : Nat := match a with
  | .int => 100
  | .boolean => 101
  | .byte => 102
  | _ => 99
def znewa (t : Nat) (v : Value) (nx : Nat) (L : zL) (st : List Value) (h : zH) : Option zA := match st with
  | .int n :: r => if n < 0 then none else if n.toNatClampNeg ≤ 100000 then if t = 99 then none else
      some (.inl (nx, L, .ref h.length :: r, h ++ [(t, List.replicate n.toNatClampNeg v)], 1, n.toNatClampNeg)) else none
  | _ => none
/-- int[n][k] -/
def zmulti (nx : Nat) (L : zL) (st : List Value) (h : zH) : Option zA := match st with
  | .int k :: .int n :: r => if k = 8 ∧ n = 20 then
      some (.inl (nx, L, .ref h.length :: r, h ++ (104, (List.range 20).map (fun j => .ref (h.length + 1 + j))) :: List.replicate 20 (100, List.replicate 8 (.int 0)), 21, 180)) else none
  | _ => none
/-- fields: by id the declaring class, name, descriptor, whether final; of a class (by tag) its fields' ids and kinds (0 int, 1 boolean, 2 byte, 3 long, 4 double, 5 a reference) -/
def zfdk (k : Nat) (v : Value) : Bool := match k, v with
  | 0, .int _ => true
  | 1, .int x => decide (x = 0 ∨ x = 1)
  | 2, .int x => decide (-128 ≤ x ∧ x ≤ 127)
  | 3, .long _ => true
  | 4, .double _ => true
  | 5, .ref _ => true
  | 5, .null => true
  | 5, .retAddr 1 => true
  | _, _ => false
/-- f: the field's id; k its place; cf: the fields' ids and kinds of each class -/
def zget (cf : Nat → List (Nat × Nat)) (f k nx : Nat) (L : zL) (st : List Value) (h : zH) : Option zA := match st with
  | .ref a :: r => match h[a]? with
    | some (c, vs) => match (cf c)[k]? with
      | some (f', _) => if f' = f then match vs[k]? with
        | some v => zgo nx L (v :: r) h
        | none => none else none
      | none => none
    | none => none
  | _ => none
def zput (cf : Nat → List (Nat × Nat)) (f k nx : Nat) (L : zL) (st : List Value) (h : zH) : Option zA := match st with
  | v :: .ref a :: r => match h[a]? with
    | some (c, vs) => match (cf c)[k]? with
      | some (f', kd) => if f' = f then if zfdk kd v = true then if k < vs.length then zgo nx L r (h.set a (c, vs.set k v)) else none else none else none
      | none => none
    | none => none
  | _ => none
def znew (cf : Nat → List (Nat × Nat)) (c nx : Nat) (L : zL) (st : List Value) (h : zH) : Option zA :=
  some (.inl (nx, L, .ref h.length :: st, h ++ [(c, (cf c).map (fun q => zdf q.2))], 1, (cf c).length))
def ztk : Nat → List Value → List Value → Option (List Value × List Value)
  | 0, acc, r => some (acc, r)
  | n + 1, acc, v :: r => ztk n (v :: acc) r
  | _, _, [] => none
def zcs : List Value → Nat
  | [] => 0
  | v :: r => (if zcat v then 2 else 1) + zcs r
def zmm (f : Int32 → Int32 → Int32) (nx : Nat) (L : zL) (st : List Value) (h : zH) : Option zA := match st with
  | .int y :: .int x :: r => if zcs r ≤ 8 then zgo nx L (.int (f x y) :: r) h else none
  | _ => none
def zoi (nx : Nat) (L : zL) (st : List Value) (h : zH) : Option zA := match st with
  | .ref _ :: r => if zcs r ≤ 8 then zgo nx L r h else none
  | _ => none
def zcall (n y nx : Nat) (st : List Value) : Option zA := match ztk n [] st with
  | some (as, r) => if zcs r ≤ 8 then some (.inr (.inl (y, as, r, nx))) else none
  | none => none
/-- a call on an object of the class of tag c -/
def zcallV (n c y nx : Nat) (st : List Value) (h : zH) : Option zA := match ztk (n + 1) [] st with
  | some (as, r) => match as with
    | .ref a :: as' => match h[a]? with
      | some (c', _) => if c' = c then if zcs r ≤ 8 then some (.inr (.inl (y, .ref a :: as', r, nx))) else none else none
      | none => none
    | _ => none
  | none => none
def zcallI (n y nx : Nat) (st : List Value) : Option zA := match ztk (n + 1) [] st with
  | some (as, r) => match as with
    | .ref a :: as' => if zcs r ≤ 8 then some (.inr (.inl (y, .ref a :: as', r, nx))) else none
    | _ => none
  | none => none
def zret (v : Option Value) : Option zA := some (.inr (.inr (.inl v, 0, 0)))
def zcopy (nx : Nat) (L : zL) (st : List Value) (h : zH) : Option zA := match st with
  | .int n :: .int dp :: .ref d :: .int sp :: .ref a :: r => match h[a]?, h[d]? with
    | some (t, vs), some (t', ws) => if t = t' ∧ (t = 102 ∨ t = 103) ∧ zcs r ≤ 8 ∧ ¬ sp < 0 ∧ ¬ dp < 0 ∧ ¬ n < 0 ∧ dp = 0 ∧ sp = 0 ∧ n.toNatClampNeg ≤ vs.length ∧ n.toNatClampNeg ≤ ws.length then
        zgo nx L r (h.set d (t, vs.take n.toNatClampNeg ++ ws.drop n.toNatClampNeg)) else none
    | _, _ => none
  | _ => none
/-- k, y, n, c: what the row's link was resolved to -/
def zstep (cf : Nat → List (Nat × Nat)) (xs : List Int32) (pc : Nat) (i : Instr) (nx k y n c : Nat) (L : zL) (st : List Value) (h : zH) : Option zA := match i with
  | .iload j => zldI L j nx st h
  | .iload_n j => zldI L j nx st h
  | .lload j => zldL L j nx st h
  | .lload_n j => zldL L j nx st h
  | .dload j => zldD L j nx st h
  | .aload j => zldA L j nx st h
  | .aload_n j => zldA L j nx st h
  | .istore j => zsI L j nx st h
  | .istore_n j => zsI L j nx st h
  | .astore j => zsA L j nx st h
  | .astore_n j => zsA L j nx st h
  | .lstore j => zsL L j nx st h
  | .lstore_n j => zsL L j nx st h
  | .dstore j => zsD L j nx st h
  | .iinc j z => zinc L j z nx st h
  | .iconst z => zpu L (.int (Int32.ofInt z)) nx st h
  | .bipush z => zpu L (.int (Int8.ofInt z).toInt32) nx st h
  | .sipush z => zpu L (.int (Int16.ofInt z).toInt32) nx st h
  | .lconst z => zpu L (.long (Int64.ofNat z)) nx st h
  | .aconst_null => zpu L .null nx st h
  | .ldc _ => if k = 0 then zpu L (.int (Int32.ofNat y)) nx st h else if k = 2 then zpu L (.retAddr 2) nx st h else none
  | .ldc_w _ => if k = 0 then zpu L (.int (Int32.ofNat y)) nx st h else none
  | .ldc2_w _ => if k = 0 then zpu L (.long (Int64.ofNat y)) nx st h else if k = 1 then zpu L (.double (UInt64.ofNat y)) nx st h else none
  | .iadd => zbin (fun x y => x + y) nx L st h
  | .isub => zbin (fun x y => x - y) nx L st h
  | .imul => zbin (fun x y => x * y) nx L st h
  | .iand => zbin (fun x y => x &&& y) nx L st h
  | .ior => zbin (fun x y => x ||| y) nx L st h
  | .ixor => zbin (fun x y => x ^^^ y) nx L st h
  | .ishl => zbin (fun x y => x <<< (y &&& 31)) nx L st h
  | .ishr => zbin (fun x y => x >>> (y &&& 31)) nx L st h
  | .iushr => zbin (fun x y => (x.toUInt32 >>> (y.toUInt32 &&& Int32.toUInt32 31)).toInt32) nx L st h
  | .idiv => zdiv (fun x y => x / y) nx L st h
  | .irem => zdiv (fun x y => x - x / y * y) nx L st h
  | .ineg => zun (fun x => .int (-x)) nx L st h
  | .i2l => zun (fun x => .long x.toInt64) nx L st h
  | .i2b => zun (fun x => .int x.toInt8.toInt32) nx L st h
  | .i2c => zun (fun x => .int (x.toUInt32 % 65536).toInt32) nx L st h
  | .i2d => zun (fun x => .double (FP.i2d x)) nx L st h
  | .ladd => zbinL (fun x y => x + y) nx L st h
  | .lmul => zbinL (fun x y => x * y) nx L st h
  | .ddiv => zbinD FP.ddiv nx L st h
  | .dmul => zbinD FP.dmul nx L st h
  | .d2l => zd2l nx L st h
  | .dup => zdup nx L st h
  | .pop => zpop nx L st h
  | .pop2 => zpop2 nx L st h
  | .dup_x1 => zdupx1 nx L st h
  | .dup2 => zdup2 nx L st h
  | .ifCond q _ => zif q k nx L st h
  | .if_icmp q _ => zicmp q k nx L st h
  | .goto _ => zgo k L st h
  | .tableswitch d lo hi os => ztab pc d lo hi os L st h
  | .lookupswitch d ps => zlook pc d ps L st h
  | .iaload => zialoadX xs nx L st h
  | .iastore => zast 100 some nx L st h
  | .baload => zald k nx L st h
  | .bastore => if k = 101 then zast 101 (fun x => if x = 0 ∨ x = 1 then some x else none) nx L st h else zast 102 (fun x => some x.toInt8.toInt32) nx L st h
  | .aaload => zaald nx L st h
  | .aastore => zaast nx L st h
  | .arraylength => zalen xs nx L st h
  | .newarray t => znewa (ztag t) (.int 0) nx L st h
  | .anewarray _ => znewa 103 .null nx L st h
  | .multianewarray _ _ => zmulti nx L st h
  | .getfield _ => zget cf y k nx L st h
  | .putfield _ => zput cf y k nx L st h
  | .new _ => if k = 9 then (if zcs st ≤ 8 then some (.inr (.inr (.inr y, 1, 6))) else none) else znew cf c nx L st h
  | .invokestatic _ => if k = 10 then zcopy nx L st h else if k = 12 then zmm (fun x y => if x < y then y else x) nx L st h else if k = 13 then zmm (fun x y => if y < x then y else x) nx L st h else zcall n y nx st
  | .invokevirtual _ => zcallV n c y nx st h
  | .invokeinterface _ _ => zcallV n c y nx st h
  | .invokespecial _ => if k = 8 then zoi nx L st h else zcallI n y nx st
  | .ireturn => (match st with
      | [.int v] => if k = 0 ∨ (k = 1 ∧ (v = 0 ∨ v = 1)) ∨ (k = 2 ∧ 0 ≤ v ∧ v ≤ 255) then zret (some (.int v)) else none
      | _ => none)
  | .lreturn => (match st with
      | [.long v] => zret (some (.long v))
      | _ => none)
  | .dreturn => (match st with
      | [.double v] => zret (some (.double v))
      | _ => none)
  | .areturn => (match st with
      | [.ref v] => zret (some (.ref v))
      | _ => none)
  | .return_ => (match st with
      | [] => zret none
      | _ => none)
  | _ => none
end
section
/-- the abstract values by the world's addresses: sp the three special ones -/
def zV (sp : Nat → Nat) (ads : List Nat) (v v' : Value) : Prop := match v with
  | .ref k => ∃ a, ads[k]? = some a ∧ v' = .ref a
  | .retAddr k => k < 3 ∧ v' = .ref (sp k)
  | w => v' = w
def zS (sp : Nat → Nat) (ads : List Nat) : List Value → List Value → Prop
  | [], st' => st' = []
  | v :: st, st' => ∃ v' r', st' = v' :: r' ∧ zV sp ads v v' ∧ zS sp ads st r'
/-- the locals -/
def zLR (sp : Nat → Nat) (ads : List Nat) (L : zL) (ls : Array Slot) (nL : Nat) : Prop := L.length = nL ∧ ∃ lv : List (Nat × Value), lv_has ls nL lv ∧ ∀ i v, L[i]? = some (some v) → ∃ v', zV sp ads v v' ∧ (i, v') ∈ lv
theorem zV_cat {sp : Nat → Nat} {ads : List Nat} {v v' : Value} (h : zV sp ads v v') : v'.category = if zcat v then 2 else 1 := by
  cases v with
  | ref k => obtain ⟨a, -, rfl⟩ := h; rfl
  | retAddr k => obtain ⟨-, rfl⟩ := h; rfl
  | int x => cases (show v' = _ from h); rfl
  | long x => cases (show v' = _ from h); rfl
  | float x => cases (show v' = _ from h); rfl
  | double x => cases (show v' = _ from h); rfl
  | null => cases (show v' = _ from h); rfl
theorem zV_mono {sp : Nat → Nat} {ads : List Nat} {v v' : Value} (q : List Nat) (h : zV sp ads v v') : zV sp (ads ++ q) v v' := by
  cases v with
  | ref k =>
    obtain ⟨a, h1, rfl⟩ := h
    exact ⟨a, by rw [List.getElem?_append_left (List.getElem?_eq_some_iff.mp h1).1]; exact h1, rfl⟩
  | _ => exact h
theorem zS_mono {sp : Nat → Nat} {ads : List Nat} (q : List Nat) : ∀ {st st' : List Value}, zS sp ads st st' → zS sp (ads ++ q) st st'
  | [], _, h => h
  | _ :: _, _, ⟨v', r', h1, h2, h3⟩ => ⟨v', r', h1, zV_mono q h2, zS_mono q h3⟩
theorem zLR_mono {sp : Nat → Nat} {ads : List Nat} {L : zL} {ls : Array Slot} {nL : Nat} (q : List Nat) (h : zLR sp ads L ls nL) : zLR sp (ads ++ q) L ls nL := by
  obtain ⟨h0, lv, h1, h2⟩ := h
  exact ⟨h0, lv, h1, fun i v hi => by obtain ⟨v', a, b⟩ := h2 i v hi; exact ⟨v', zV_mono q a, b⟩⟩
theorem zS_cs {sp : Nat → Nat} {ads : List Nat} : ∀ {st st' : List Value}, zS sp ads st st' → (st'.map fun v => v.category).sum = zcs st
  | [], _, h => by cases (show _ = [] from h); rfl
  | v :: st, _, ⟨v', r', rfl, h2, h3⟩ => by
    rw [List.map_cons, List.sum_cons, zS_cs h3, zV_cat h2]
    rfl
theorem zS_len {sp : Nat → Nat} {ads : List Nat} : ∀ {st st' : List Value}, zS sp ads st st' → st'.length = st.length
  | [], _, h => by cases (show _ = [] from h); rfl
  | _ :: _, _, ⟨_, _, rfl, _, h3⟩ => by rw [List.length_cons, List.length_cons, zS_len h3]
theorem zS_at {sp : Nat → Nat} {ads : List Nat} : ∀ {st st' : List Value}, zS sp ads st st' → ∀ {k : Nat} {v : Value}, st[k]? = some v → ∃ v', st'[k]? = some v' ∧ zV sp ads v v'
  | [], _, _, k, v, h => by simp at h
  | w :: st, _, ⟨w', r', rfl, h2, h3⟩, 0, v, h => ⟨w', rfl, by cases h; exact h2⟩
  | w :: st, _, ⟨w', r', rfl, h2, h3⟩, k + 1, v, h => zS_at h3 (k := k) h
theorem zS_set {sp : Nat → Nat} {ads : List Nat} {v v' : Value} (hv : zV sp ads v v') : ∀ {st st' : List Value}, zS sp ads st st' → ∀ (k : Nat), zS sp ads (st.set k v) (st'.set k v')
  | [], _, h, k => by cases (show _ = [] from h); exact rfl
  | w :: st, _, ⟨w', r', rfl, h2, h3⟩, 0 => ⟨v', r', rfl, hv, h3⟩
  | w :: st, _, ⟨w', r', rfl, h2, h3⟩, k + 1 => ⟨w', _, rfl, h2, zS_set hv h3 k⟩
theorem zS_app {sp : Nat → Nat} {ads : List Nat} {b b' : List Value} (hb : zS sp ads b b') : ∀ {a a' : List Value}, zS sp ads a a' → zS sp ads (a ++ b) (a' ++ b')
  | [], _, h => by cases (show _ = [] from h); exact hb
  | _ :: _, _, ⟨w', r', rfl, h2, h3⟩ => ⟨w', _, rfl, h2, zS_app hb h3⟩
/-- popping arguments -/
theorem ztk_S {sp : Nat → Nat} {ads : List Nat} : ∀ (n : Nat) {acc acc' st st' as r : List Value}, zS sp ads acc acc' → zS sp ads st st' → ztk n acc st = some (as, r) → ∃ as' r' : List Value, zS sp ads as as' ∧ zS sp ads r r' ∧ acc'.reverse ++ st' = as'.reverse ++ r' ∧ as.length = acc.length + n
  | 0, acc, acc', st, st', as, r, ha, hs, h => by
    cases (show some (acc, st) = some (as, r) from h)
    exact ⟨acc', st', ha, hs, rfl, rfl⟩
  | n + 1, acc, acc', [], st', as, r, ha, hs, h => by cases (show none = some (as, r) from h)
  | n + 1, acc, acc', v :: st, _, as, r, ha, ⟨v', r1, rfl, h2, h3⟩, h => by
    obtain ⟨as', r', a1, a2, a3, a4⟩ := ztk_S n (acc := v :: acc) (acc' := v' :: acc') ⟨v', acc', rfl, h2, ha⟩ h3 h
    exact ⟨as', r', a1, a2, by rw [← a3]; simp, by rw [a4, List.length_cons]; omega⟩
theorem zst1_spec {v : Value} : ∀ {i : Nat} {L L' : zL}, zst1 v i L = some L' → L'.length = L.length ∧ i < L.length ∧ L'[i]? = some (some v) ∧ ∀ j w, j ≠ i → L'[j]? = some (some w) → L[j]? = some (some w) ∧ (j + 1 = i → zcat w = false)
  | 0, a :: l, L', h => by
    cases (show some _ = some L' from h)
    refine ⟨rfl, Nat.succ_pos _, rfl, fun j w hj hw => ?_⟩
    cases j with
    | zero => exact absurd rfl hj
    | succ j => exact ⟨hw, fun e => by omega⟩
  | 1, a :: b :: l, L', h => by
    cases (show some _ = some L' from h)
    refine ⟨rfl, by simp, rfl, fun j w hj hw => ?_⟩
    match j, hj, hw with
    | 0, _, hw =>
      have hw' : zk a = some w := Option.some.inj hw
      cases a with
      | none => cases hw'
      | some x => cases x <;> first | (cases hw'; done) | (cases hw'; exact ⟨rfl, fun _ => rfl⟩)
    | 1, hj, _ => exact absurd rfl hj
    | j + 2, _, hw => exact ⟨hw, fun e => by omega⟩
  | i + 2, a :: l, L', h => by
    unfold zst1 at h
    split at h
    · next l' hl =>
      cases h
      obtain ⟨h1, h2, h3, h4⟩ := zst1_spec hl
      refine ⟨by simp [h1], by simp; omega, h3, fun j w hj hw => ?_⟩
      cases j with
      | zero => exact ⟨hw, fun e => by omega⟩
      | succ j =>
        obtain ⟨q1, q2⟩ := h4 j w (by omega) hw
        exact ⟨q1, fun e => q2 (by omega)⟩
    · cases h
  | 0, [], L', h => by cases (show none = some L' from h)
  | 1, [], L', h => by cases (show none = some L' from h)
  | 1, [_], L', h => by cases (show none = some L' from h)
  | i + 2, [], L', h => by cases (show none = some L' from h)
theorem zst2_spec {v : Value} : ∀ {i : Nat} {L L' : zL}, zst2 v i L = some L' → L'.length = L.length ∧ i + 1 < L.length ∧ L'[i]? = some (some v) ∧ ∀ j w, j ≠ i → L'[j]? = some (some w) → L[j]? = some (some w) ∧ j ≠ i + 1 ∧ (j + 1 = i → zcat w = false)
  | 0, a :: b :: l, L', h => by
    cases (show some _ = some L' from h)
    refine ⟨rfl, by simp, rfl, fun j w hj hw => ?_⟩
    match j, hj, hw with
    | 0, hj, _ => exact absurd rfl hj
    | 1, _, hw => cases hw
    | j + 2, _, hw => exact ⟨hw, by omega, fun e => by omega⟩
  | 1, a :: b :: d :: l, L', h => by
    cases (show some _ = some L' from h)
    refine ⟨rfl, by simp, rfl, fun j w hj hw => ?_⟩
    match j, hj, hw with
    | 0, _, hw =>
      have hw' : zk a = some w := Option.some.inj hw
      cases a with
      | none => cases hw'
      | some x => cases x <;> first | (cases hw'; done) | (cases hw'; exact ⟨rfl, by omega, fun _ => rfl⟩)
    | 1, hj, _ => exact absurd rfl hj
    | 2, _, hw => cases hw
    | j + 3, _, hw => exact ⟨hw, by omega, fun e => by omega⟩
  | i + 2, a :: l, L', h => by
    unfold zst2 at h
    split at h
    · next l' hl =>
      cases h
      obtain ⟨h1, h2, h3, h4⟩ := zst2_spec hl
      refine ⟨by simp [h1], by simp; omega, h3, fun j w hj hw => ?_⟩
      cases j with
      | zero => exact ⟨hw, by omega, fun e => by omega⟩
      | succ j =>
        obtain ⟨q1, q2, q3⟩ := h4 j w (by omega) hw
        exact ⟨q1, by omega, fun e => q3 (by omega)⟩
    · cases h
  | 0, [], L', h => by cases (show none = some L' from h)
  | 0, [_], L', h => by cases (show none = some L' from h)
  | 1, [], L', h => by cases (show none = some L' from h)
  | 1, [_], L', h => by cases (show none = some L' from h)
  | 1, [_, _], L', h => by cases (show none = some L' from h)
  | i + 2, [], L', h => by cases (show none = some L' from h)
theorem zLR_st1 {sp : Nat → Nat} {ads : List Nat} {L L' : zL} {ls : Array Slot} {nL i : Nat} {v v' : Value} (h : zLR sp ads L ls nL) (hs : zst1 v i L = some L') (hv : zV sp ads v v') : i < nL ∧ ∃ lv : List (Nat × Value), lv_has ls nL lv ∧ ∀ ls' : Array Slot, lv_has ls' nL ((i, v') :: lv.filter (fun q => !(q.1 == i) && !(q.1 + 1 == i && q.2.category == 2))) → zLR sp ads L' ls' nL := by
  obtain ⟨h0, lv, h1, h2⟩ := h
  obtain ⟨q1, q2, q3, q4⟩ := zst1_spec hs
  refine ⟨by omega, lv, h1, fun ls' h' => ⟨by omega, _, h', fun j w hj => ?_⟩⟩
  by_cases e : j = i
  · subst e
    rw [q3] at hj
    cases hj
    exact ⟨v', hv, List.mem_cons_self⟩
  · obtain ⟨r1, r2⟩ := q4 j w e hj
    obtain ⟨w', a, b⟩ := h2 j w r1
    refine ⟨w', a, List.mem_cons_of_mem _ (List.mem_filter.mpr ⟨b, ?_⟩)⟩
    have hc := zV_cat a
    by_cases e2 : j + 1 = i
    · rw [r2 e2] at hc
      simp [e, hc]
    · simp [e, e2]
theorem zLR_st2 {sp : Nat → Nat} {ads : List Nat} {L L' : zL} {ls : Array Slot} {nL i : Nat} {v v' : Value} (h : zLR sp ads L ls nL) (hs : zst2 v i L = some L') (hv : zV sp ads v v') : i + 1 < nL ∧ ∃ lv : List (Nat × Value), lv_has ls nL lv ∧ ∀ ls' : Array Slot, lv_has ls' nL ((i, v') :: lv.filter (fun q => !(q.1 == i) && (!(q.1 == i + 1) && !(q.1 + 1 == i && q.2.category == 2)))) → zLR sp ads L' ls' nL := by
  obtain ⟨h0, lv, h1, h2⟩ := h
  obtain ⟨q1, q2, q3, q4⟩ := zst2_spec hs
  refine ⟨by omega, lv, h1, fun ls' h' => ⟨by omega, _, h', fun j w hj => ?_⟩⟩
  by_cases e : j = i
  · subst e
    rw [q3] at hj
    cases hj
    exact ⟨v', hv, List.mem_cons_self⟩
  · obtain ⟨r1, r3, r2⟩ := q4 j w e hj
    obtain ⟨w', a, b⟩ := h2 j w r1
    refine ⟨w', a, List.mem_cons_of_mem _ (List.mem_filter.mpr ⟨b, ?_⟩)⟩
    have hc := zV_cat a
    by_cases e2 : j + 1 = i
    · rw [r2 e2] at hc
      simp [e, r3, hc]
    · simp [e, r3, e2]
theorem zLR_ld {sp : Nat → Nat} {ads : List Nat} {L : zL} {ls : Array Slot} {nL i : Nat} {v : Value} (h : zLR sp ads L ls nL) (hi : L[i]? = some (some v)) : ∃ v', zV sp ads v v' ∧ ls[i]? = some (.val v') := by
  obtain ⟨h0, lv, h1, h2⟩ := h
  obtain ⟨v', a, b⟩ := h2 i v hi
  exact ⟨v', a, h1.2.2 _ b⟩
end
section
/-! Words that no reader of steady words carries into a call: told beside. -/
def zND : List MethodName := [⟨"java/lang/RuntimeException", "<init>", "(Ljava/lang/String;)V"⟩, ⟨"java/lang/Exception", "<init>", "(Ljava/lang/String;)V"⟩, ⟨"java/lang/Throwable", "<init>", "(Ljava/lang/String;)V"⟩, ⟨"java/lang/Object", "getClass", "()Ljava/lang/Class;"⟩]
def zNC : List (String × String) := [("java/lang/IllegalArgumentException", "java/lang/IllegalArgumentException"), ("java/lang/IndexOutOfBoundsException", "java/lang/IndexOutOfBoundsException"), ("java/lang/IllegalStateException", "java/lang/IllegalStateException"), ("[I", "java/lang/Object")]
def zN2 : List Jvm.Cond := zND.map (fun q => .declares q) ++ zNC.map (fun q => .castable q.1 q.2)
theorem zN2_warm {s U : State} (hW : s.WarmedH U.vm) (h : ∀ w ∈ zN2, va_Nw w s) : ∀ w ∈ zN2, va_Nw w U := by
  intro w hw
  have hs := h w hw
  rcases List.mem_append.mp hw with q | q
  · obtain ⟨x, -, rfl⟩ := List.mem_map.mp q
    exact va_Nw.warmD hW hs
  · obtain ⟨x, -, rfl⟩ := List.mem_map.mp q
    exact va_Nw.warmC hW hs
theorem zN2_on : ∀ w ∈ zN2, w.onTables = true := by
  intro w hw
  rcases List.mem_append.mp hw with q | q
  · obtain ⟨x, -, rfl⟩ := List.mem_map.mp q
    rfl
  · obtain ⟨x, -, rfl⟩ := List.mem_map.mp q
    rfl
/-- what no exception is -/
def zNP : List (String × String) := [("java/lang/IllegalArgumentException", "java/lang/IndexOutOfBoundsException"), ("java/lang/IllegalArgumentException", "java/lang/IllegalStateException"), ("java/lang/IndexOutOfBoundsException", "java/lang/IllegalArgumentException"), ("java/lang/IndexOutOfBoundsException", "java/lang/IllegalStateException"), ("java/lang/IllegalStateException", "java/lang/IllegalArgumentException"), ("java/lang/IllegalStateException", "java/lang/IndexOutOfBoundsException")]
def zIF : List (MethodName × MethodName) := [(⟨"java/util/List", "size", "()I"⟩, ⟨"java/util/ArrayList", "size", "()I"⟩), (⟨"java/util/List", "get", "(I)Ljava/lang/Object;"⟩, ⟨"java/util/ArrayList", "get", "(I)Ljava/lang/Object;"⟩), (⟨"java/util/List", "add", "(Ljava/lang/Object;)Z"⟩, ⟨"java/util/ArrayList", "add", "(Ljava/lang/Object;)Z"⟩)]
theorem zIF_cls : ∀ q ∈ zIF, q.1.cls ≠ "java/lang/invoke/MethodHandle" ∧ q.1.cls ≠ "java/lang/invoke/VarHandle" := by decide +kernel
/-- the JDK's statics and words that lists, texts and rows of references want -/
def zSJ (sp : Nat → Nat) (A : Nat → Prop) (s : State) : Prop :=
  (∀ q ∈ zIF, va_Fw "java/util/ArrayList" q.1 q.2 s) ∧ va_Z "java/lang/String" "COMPACT_STRINGS" "Z" (.int 1) A s s.heap ∧ va_Z "java/util/ArrayList" "DEFAULTCAPACITY_EMPTY_ELEMENTDATA" "[Ljava/lang/Object;" (.ref (sp 1)) A s s.heap ∧ va_T (.object "java/lang/Object") (sp 1) 0 (fun _ => .null) A s s.heap ∧ va_Mi "[Ljava/lang/Object;" (sp 2) s ∧ va_AO "java/lang/Object" s
theorem zSJ_call {sp : Nat → Nat} {A A' : Nat → Prop} {s U : State} {H : Heap} {locs : List Loc} (h : zSJ sp A s) (hS : va_S A s.heap H locs) (hW : s.WarmedH U.vm) (hU : U.heap = H) (hA : ∀ q, A' q → A q) : zSJ sp A' U := by
  obtain ⟨a1, a2, a3, a4, a5, a6⟩ := h
  subst hU
  exact ⟨fun q hq => va_Fw.moved (zIF_cls q hq) hW.alike (a1 q hq), (va_Z.moved hW.alike (a2.kept hS.2.1)).narrow hA, (va_Z.moved hW.alike (a3.kept hS.2.1)).narrow hA, (va_T.moved hW.alike (a4.kept hS.2.1)).narrow hA, va_Mi.moved hW.alike a5, va_AO.moved hW.alike a6⟩
end
section
theorem zcf_out {t : Nat} (h : 11 ≤ t) : zcf t = [] := by
  unfold zcf
  rw [List.getD_eq_getElem?_getD, List.getElem?_eq_none (by simpa using h)]
  rfl
theorem zby {x : Int32} (h1 : -128 ≤ x) (h2 : x ≤ 127) : narrow .byte (.int x) = .int x := by
  have h3 := Int32.le_iff_toInt_le.mp h1
  have h4 := Int32.le_iff_toInt_le.mp h2
  have e1 : (-128 : Int32).toInt = -128 := by decide
  have e2 : (127 : Int32).toInt = 127 := by decide
  rw [e1] at h3
  rw [e2] at h4
  show Value.int x.toInt8.toInt32 = Value.int x
  congr 1
  apply Int32.toInt_inj.mp
  rw [Int8.toInt_toInt32, Int32.toInt_toInt8]
  rw [Int.bmod_def]
  omega
theorem zdf_V (sp : Nat → Nat) (ads : List Nat) (k : Nat) : zV sp ads (zdf k) (zdf k) := by
  unfold zdf
  split <;> exact rfl
theorem zdfs (sp : Nat → Nat) (ads : List Nat) : ∀ l : List (Nat × Nat), zS sp ads (l.map (fun q => zdf q.2)) (l.map (fun q => zdf q.2))
  | [] => rfl
  | q :: l => ⟨_, _, rfl, zdf_V sp ads q.2, zdfs sp ads l⟩
/-! The abstract machine's step is the machine's. -/
def zC (sp : Nat → Nat) (ty : Nat → ClassId) (ads : List Nat) (c : Nat × List Value) (e : va_E) : Prop :=
  (c.1 < 100 ∧ ∃ vs', e = .inr (c.1, vs') ∧ zS sp ads c.2 vs') ∨
  ((c.1 = 100 ∨ c.1 = 101 ∨ c.1 = 102) ∧ ∃ f : Nat → Int32, e = .inl (ty (c.1 - 100), c.2.length, .inl f) ∧ ∀ (j : Nat) (x : Value), c.2[j]? = some x → x = .int (f j)) ∨
  ((c.1 = 103 ∨ c.1 = 104) ∧ ∃ f : Nat → Option Nat, e = .inl (ty (c.1 - 100), c.2.length, .inr (.inr (.inr (.inr f)))) ∧ ∀ (j : Nat) (x : Value), c.2[j]? = some x → zV sp ads x (va_rf (f j)))
def zW (sp : Nat → Nat) (ty : Nat → ClassId) (D : va_G) (A : Nat → Prop) (H0 : Heap) (ads : List Nat) (h : zH) (H : Heap) (locs : List Loc) : Prop :=
  ∃ ws : va_W, va_P D zcl ws H ∧ va_D A ws ∧ va_S A H0 H locs ∧ ws.map (fun q => q.1) = ads ∧ h.length = ws.length ∧ ∀ (k : Nat) (c : Nat × List Value) (q : Nat × va_E), h[k]? = some c → ws[k]? = some q → zC sp ty ads c q.2
def zR (sp : Nat → Nat) (ty : Nat → ClassId) (D : va_G) (A : Nat → Prop) (H0 : Heap) (nL : Nat) (ads : List Nat) (L : zL) (st : List Value) (h : zH) (ls : Array Slot) (str : List Value) (H : Heap) (locs : List Loc) : Prop :=
  zLR sp ads L ls nL ∧ zS sp ads st str ∧ zW sp ty D A H0 ads h H locs
def ztys (ty : Nat → ClassId) : List (ClassId × FieldType) := [(ty 0, .int), (ty 1, .boolean), (ty 2, .byte), (ty 3, .object "java/lang/Object"), (ty 4, .array .int)]
/-- what is known of the special addresses -/
def zSP (xs : List Int32) (sp : Nat → Nat) (A : Nat → Prop) (s : State) : Prop :=
  (∀ w ∈ zN, va_Nw w s) ∧
  (vx_Zq Bundle.tN "UNASSIGNED_STACK" Bundle.steD A s s.heap ∧ vx_Zq Bundle.tN "SUPPRESSED_SENTINEL" Bundle.listD A s s.heap) ∧
  (∀ q ∈ zTX, ∃ sa, vk_R q.1 q.2.1 q.2.2 sa s) ∧
  (va_X (sp 0) xs.length (fun j => xs.getD j 0) s s.heap ∧ sp 0 < s.heap.size ∧ ¬ A (sp 0)) ∧
  (∀ w ∈ zN2, va_Nw w s) ∧ (∀ q ∈ zNP, va_Nc q.1 q.2 s) ∧ zSJ sp A s
def zX (xs : List Int32) (sp : Nat → Nat) (ty : Nat → ClassId) (D : va_G) (A : Nat → Prop) (y : Nat) (p : Program) (R : Room) (s : State) (m : MethodId) (args : Array Value) (meth : Method) (c : Code) : Prop :=
  p.tables.exec = Jvm.exec ∧ c.code = zmb y ∧ c.maxLocals = zmL y ∧ meth.sig.returnType = zmr y ∧ meth.locks = false ∧ s.vm.findClass (zon (zmo y)) = some m.cls ∧ meth.name = (zmn y).name ∧
  (∀ w ∈ zB, w.before args s = true) ∧ va_K D zcl (ztys ty) s ∧ (∀ q, s.heap.size ≤ q → A q) ∧ zSP xs sp A s ∧ 20 ≤ R.frames ∧ 400 ≤ R.locals
section ZZ
variable {p : Program} {l : Launch} {e : Env} {R : Room} {s : State} {m : MethodId} {args : Array Value} {below : List Frame} {meth : Method} {c : Code} {H : Heap} {locs : List Loc} {cells slots : Nat} {Q : State → Prop}
variable {xs : List Int32} {sp : Nat → Nat} {ty : Nat → ClassId} {D : va_G} {A : Nat → Prop} {ads : List Nat} {nL : Nat} {H0 : Heap}
variable {pc nx pc' dc ds : Nat} {L L' : zL} {st st' str : List Value} {h h' : zH} {ls : Array Slot}
/-- what is owed behind a step -/
abbrev zKK (p : Program) (l : Launch) (e : Env) (R : Room) (s : State) (m : MethodId) (args : Array Value) (below : List Frame) (meth : Method) (c : Code) (cells slots : Nat) (Q : State → Prop) (sp : Nat → Nat) (ty : Nat → ClassId) (D : va_G) (A : Nat → Prop) (H0 : Heap) (nL : Nat) (ads : List Nat) (pc' : Nat) (L' : zL) (st' : List Value) (h' : zH) (dc ds : Nat) : Prop :=
  ∀ (q : List Nat) (ls' : Array Slot) (str' : List Value) (H' : Heap) (locs' : List Loc), zR sp ty D A H0 nL (ads ++ q) L' st' h' ls' str' H' locs' → W p l e R s m args below meth c H' locs' (cells + dc) (slots + ds) Q (F0 m pc' ls' str')
theorem zgo_kk {ls' : Array Slot} {str' : List Value} (hs : zgo nx L st h = some (.inl (pc', L', st', h', dc, ds))) (kk : zKK p l e R s m args below meth c cells slots Q sp ty D A H0 nL ads pc' L' st' h' dc ds) (h1 : zLR sp ads L ls' nL) (h2 : zS sp ads st str') (h3 : zW sp ty D A H0 ads h H locs) : W p l e R s m args below meth c H locs cells slots Q (F0 m nx ls' str') := by
  cases (show some (Sum.inl (nx, L, st, h, 0, 0)) = some (Sum.inl (pc', L', st', h', dc, ds)) from hs)
  have k := kk [] ls' str' H locs
  rw [List.append_nil] at k
  exact k ⟨h1, h2, h3⟩
theorem z_bin (f : Int32 → Int32 → Int32) (hs : zbin f nx L st h = some (.inl (pc', L', st', h', dc, ds))) (I : zR sp ty D A H0 nL ads L st h ls str H locs) (kk : zKK p l e R s m args below meth c cells slots Q sp ty D A H0 nL ads pc' L' st' h' dc ds)
    (row : ∀ (x y : Int32) (r : List Value), W p l e R s m args below meth c H locs cells slots Q (F0 m nx ls (.int (f x y) :: r)) → W p l e R s m args below meth c H locs cells slots Q (F0 m pc ls (.int y :: .int x :: r))) : W p l e R s m args below meth c H locs cells slots Q (F0 m pc ls str) := by
  obtain ⟨I1, I2, I3⟩ := I
  unfold zbin at hs
  split at hs
  · obtain ⟨_, _, rfl, hv, _, _, rfl, hw, hr⟩ := I2
    cases (show _ = Value.int _ from hv); cases (show _ = Value.int _ from hw)
    exact row _ _ _ (zgo_kk hs kk I1 ⟨_, _, rfl, rfl, hr⟩ I3)
  · cases hs
theorem z_div (f : Int32 → Int32 → Int32) (hs : zdiv f nx L st h = some (.inl (pc', L', st', h', dc, ds))) (I : zR sp ty D A H0 nL ads L st h ls str H locs) (kk : zKK p l e R s m args below meth c cells slots Q sp ty D A H0 nL ads pc' L' st' h' dc ds)
    (row : ∀ (x y : Int32) (r : List Value), ¬ y = 0 → W p l e R s m args below meth c H locs cells slots Q (F0 m nx ls (.int (f x y) :: r)) → W p l e R s m args below meth c H locs cells slots Q (F0 m pc ls (.int y :: .int x :: r))) : W p l e R s m args below meth c H locs cells slots Q (F0 m pc ls str) := by
  obtain ⟨I1, I2, I3⟩ := I
  unfold zdiv at hs
  split at hs
  · split at hs
    · cases hs
    · next hne =>
      obtain ⟨_, _, rfl, hv, _, _, rfl, hw, hr⟩ := I2
      cases (show _ = Value.int _ from hv); cases (show _ = Value.int _ from hw)
      exact row _ _ _ hne (zgo_kk hs kk I1 ⟨_, _, rfl, rfl, hr⟩ I3)
  · cases hs
theorem z_un (f : Int32 → Value) (hf : ∀ x, zV sp ads (f x) (f x)) (hs : zun f nx L st h = some (.inl (pc', L', st', h', dc, ds))) (I : zR sp ty D A H0 nL ads L st h ls str H locs) (kk : zKK p l e R s m args below meth c cells slots Q sp ty D A H0 nL ads pc' L' st' h' dc ds)
    (row : ∀ (x : Int32) (r : List Value), W p l e R s m args below meth c H locs cells slots Q (F0 m nx ls (f x :: r)) → W p l e R s m args below meth c H locs cells slots Q (F0 m pc ls (.int x :: r))) : W p l e R s m args below meth c H locs cells slots Q (F0 m pc ls str) := by
  obtain ⟨I1, I2, I3⟩ := I
  unfold zun at hs
  split at hs
  · obtain ⟨_, _, rfl, hv, hr⟩ := I2
    cases (show _ = Value.int _ from hv)
    exact row _ _ (zgo_kk hs kk I1 ⟨_, _, rfl, hf _, hr⟩ I3)
  · cases hs
theorem z_binL (f : Int64 → Int64 → Int64) (hs : zbinL f nx L st h = some (.inl (pc', L', st', h', dc, ds))) (I : zR sp ty D A H0 nL ads L st h ls str H locs) (kk : zKK p l e R s m args below meth c cells slots Q sp ty D A H0 nL ads pc' L' st' h' dc ds)
    (row : ∀ (x y : Int64) (r : List Value), W p l e R s m args below meth c H locs cells slots Q (F0 m nx ls (.long (f x y) :: r)) → W p l e R s m args below meth c H locs cells slots Q (F0 m pc ls (.long y :: .long x :: r))) : W p l e R s m args below meth c H locs cells slots Q (F0 m pc ls str) := by
  obtain ⟨I1, I2, I3⟩ := I
  unfold zbinL at hs
  split at hs
  · obtain ⟨_, _, rfl, hv, _, _, rfl, hw, hr⟩ := I2
    cases (show _ = Value.long _ from hv); cases (show _ = Value.long _ from hw)
    exact row _ _ _ (zgo_kk hs kk I1 ⟨_, _, rfl, rfl, hr⟩ I3)
  · cases hs
theorem z_binD (f : UInt64 → UInt64 → UInt64) (hs : zbinD f nx L st h = some (.inl (pc', L', st', h', dc, ds))) (I : zR sp ty D A H0 nL ads L st h ls str H locs) (kk : zKK p l e R s m args below meth c cells slots Q sp ty D A H0 nL ads pc' L' st' h' dc ds)
    (row : ∀ (x y : UInt64) (r : List Value), vf_n64 (f x y) → W p l e R s m args below meth c H locs cells slots Q (F0 m nx ls (.double (f x y) :: r)) → W p l e R s m args below meth c H locs cells slots Q (F0 m pc ls (.double y :: .double x :: r))) : W p l e R s m args below meth c H locs cells slots Q (F0 m pc ls str) := by
  obtain ⟨I1, I2, I3⟩ := I
  unfold zbinD at hs
  split at hs
  · split at hs
    · next hne =>
      obtain ⟨_, _, rfl, hv, _, _, rfl, hw, hr⟩ := I2
      cases (show _ = Value.double _ from hv); cases (show _ = Value.double _ from hw)
      exact row _ _ _ hne (zgo_kk hs kk I1 ⟨_, _, rfl, rfl, hr⟩ I3)
    · cases hs
  · cases hs
theorem z_d2l (hs : zd2l nx L st h = some (.inl (pc', L', st', h', dc, ds))) (I : zR sp ty D A H0 nL ads L st h ls str H locs) (kk : zKK p l e R s m args below meth c cells slots Q sp ty D A H0 nL ads pc' L' st' h' dc ds)
    (row : ∀ (x : UInt64) (r : List Value), W p l e R s m args below meth c H locs cells slots Q (F0 m nx ls (.long (FP.d2l x) :: r)) → W p l e R s m args below meth c H locs cells slots Q (F0 m pc ls (.double x :: r))) : W p l e R s m args below meth c H locs cells slots Q (F0 m pc ls str) := by
  obtain ⟨I1, I2, I3⟩ := I
  unfold zd2l at hs
  split at hs
  · obtain ⟨_, _, rfl, hv, hr⟩ := I2
    cases (show _ = Value.double _ from hv)
    exact row _ _ (zgo_kk hs kk I1 ⟨_, _, rfl, rfl, hr⟩ I3)
  · cases hs
theorem z_pu {v v' : Value} (hv : zV sp ads v v') (hs : zpu L v nx st h = some (.inl (pc', L', st', h', dc, ds))) (I : zR sp ty D A H0 nL ads L st h ls str H locs) (kk : zKK p l e R s m args below meth c cells slots Q sp ty D A H0 nL ads pc' L' st' h' dc ds)
    (row : W p l e R s m args below meth c H locs cells slots Q (F0 m nx ls (v' :: str)) → W p l e R s m args below meth c H locs cells slots Q (F0 m pc ls str)) : W p l e R s m args below meth c H locs cells slots Q (F0 m pc ls str) := by
  obtain ⟨I1, I2, I3⟩ := I
  exact row (zgo_kk hs kk I1 ⟨_, _, rfl, hv, I2⟩ I3)
theorem z_goto (hs : zgo nx L st h = some (.inl (pc', L', st', h', dc, ds))) (I : zR sp ty D A H0 nL ads L st h ls str H locs) (kk : zKK p l e R s m args below meth c cells slots Q sp ty D A H0 nL ads pc' L' st' h' dc ds)
    (row : W p l e R s m args below meth c H locs cells slots Q (F0 m nx ls str) → W p l e R s m args below meth c H locs cells slots Q (F0 m pc ls str)) : W p l e R s m args below meth c H locs cells slots Q (F0 m pc ls str) :=
  row (zgo_kk hs kk I.1 I.2.1 I.2.2)
theorem z_ldI {i : Nat} (hs : zldI L i nx st h = some (.inl (pc', L', st', h', dc, ds))) (I : zR sp ty D A H0 nL ads L st h ls str H locs) (kk : zKK p l e R s m args below meth c cells slots Q sp ty D A H0 nL ads pc' L' st' h' dc ds)
    (row : ∀ x : Int32, ls[i]? = some (.val (.int x)) → W p l e R s m args below meth c H locs cells slots Q (F0 m nx ls (.int x :: str)) → W p l e R s m args below meth c H locs cells slots Q (F0 m pc ls str)) : W p l e R s m args below meth c H locs cells slots Q (F0 m pc ls str) := by
  obtain ⟨I1, I2, I3⟩ := I
  unfold zldI at hs
  split at hs
  · next x hx =>
    obtain ⟨v', hv, hl⟩ := zLR_ld I1 hx
    cases (show _ = Value.int _ from hv)
    exact row x hl (zgo_kk hs kk I1 ⟨_, _, rfl, rfl, I2⟩ I3)
  · cases hs
theorem z_ldL {i : Nat} (hs : zldL L i nx st h = some (.inl (pc', L', st', h', dc, ds))) (I : zR sp ty D A H0 nL ads L st h ls str H locs) (kk : zKK p l e R s m args below meth c cells slots Q sp ty D A H0 nL ads pc' L' st' h' dc ds)
    (row : ∀ x : Int64, ls[i]? = some (.val (.long x)) → W p l e R s m args below meth c H locs cells slots Q (F0 m nx ls (.long x :: str)) → W p l e R s m args below meth c H locs cells slots Q (F0 m pc ls str)) : W p l e R s m args below meth c H locs cells slots Q (F0 m pc ls str) := by
  obtain ⟨I1, I2, I3⟩ := I
  unfold zldL at hs
  split at hs
  · next x hx =>
    obtain ⟨v', hv, hl⟩ := zLR_ld I1 hx
    cases (show _ = Value.long _ from hv)
    exact row x hl (zgo_kk hs kk I1 ⟨_, _, rfl, rfl, I2⟩ I3)
  · cases hs
theorem z_ldD {i : Nat} (hs : zldD L i nx st h = some (.inl (pc', L', st', h', dc, ds))) (I : zR sp ty D A H0 nL ads L st h ls str H locs) (kk : zKK p l e R s m args below meth c cells slots Q sp ty D A H0 nL ads pc' L' st' h' dc ds)
    (row : ∀ x : UInt64, ls[i]? = some (.val (.double x)) → W p l e R s m args below meth c H locs cells slots Q (F0 m nx ls (.double x :: str)) → W p l e R s m args below meth c H locs cells slots Q (F0 m pc ls str)) : W p l e R s m args below meth c H locs cells slots Q (F0 m pc ls str) := by
  obtain ⟨I1, I2, I3⟩ := I
  unfold zldD at hs
  split at hs
  · next x hx =>
    obtain ⟨v', hv, hl⟩ := zLR_ld I1 hx
    cases (show _ = Value.double _ from hv)
    exact row x hl (zgo_kk hs kk I1 ⟨_, _, rfl, rfl, I2⟩ I3)
  · cases hs
theorem z_ldA {i : Nat} (hs : zldA L i nx st h = some (.inl (pc', L', st', h', dc, ds))) (I : zR sp ty D A H0 nL ads L st h ls str H locs) (kk : zKK p l e R s m args below meth c cells slots Q sp ty D A H0 nL ads pc' L' st' h' dc ds)
    (row : ∀ x : Nat, ls[i]? = some (.val (.ref x)) → W p l e R s m args below meth c H locs cells slots Q (F0 m nx ls (.ref x :: str)) → W p l e R s m args below meth c H locs cells slots Q (F0 m pc ls str))
    (rowN : ls[i]? = some (.val .null) → W p l e R s m args below meth c H locs cells slots Q (F0 m nx ls (.null :: str)) → W p l e R s m args below meth c H locs cells slots Q (F0 m pc ls str)) : W p l e R s m args below meth c H locs cells slots Q (F0 m pc ls str) := by
  obtain ⟨I1, I2, I3⟩ := I
  unfold zldA at hs
  split at hs
  · next x hx =>
    obtain ⟨v', hv, hl⟩ := zLR_ld I1 hx
    obtain ⟨a, ha, rfl⟩ := id hv
    exact row a hl (zgo_kk hs kk I1 ⟨_, _, rfl, hv, I2⟩ I3)
  · next x hx =>
    obtain ⟨v', hv, hl⟩ := zLR_ld I1 hx
    obtain ⟨ha, rfl⟩ := id hv
    exact row _ hl (zgo_kk hs kk I1 ⟨_, _, rfl, hv, I2⟩ I3)
  · next hx =>
    obtain ⟨v', hv, hl⟩ := zLR_ld I1 hx
    cases (show _ = Value.null from hv)
    exact rowN hl (zgo_kk hs kk I1 ⟨_, _, rfl, rfl, I2⟩ I3)
  · cases hs
theorem z_sv1 {i : Nat} {v v' : Value} {r r' : List Value} (hs : zsv1 L i nx v r h = some (.inl (pc', L', st', h', dc, ds))) (hv : zV sp ads v v') (I1 : zLR sp ads L ls nL) (hr : zS sp ads r r') (I3 : zW sp ty D A H0 ads h H locs) (kk : zKK p l e R s m args below meth c cells slots Q sp ty D A H0 nL ads pc' L' st' h' dc ds)
    (row : ∀ lv : List (Nat × Value), lv_has ls nL lv → i < nL → (∀ ls' : Array Slot, lv_has ls' nL ((i, v') :: lv.filter (fun q => !(q.1 == i) && !(q.1 + 1 == i && q.2.category == 2))) → W p l e R s m args below meth c H locs cells slots Q (F0 m nx ls' r')) → W p l e R s m args below meth c H locs cells slots Q (F0 m pc ls str)) : W p l e R s m args below meth c H locs cells slots Q (F0 m pc ls str) := by
  unfold zsv1 at hs
  split at hs
  · next L1 h1 =>
    obtain ⟨hi, lv, g1, g2⟩ := zLR_st1 I1 h1 hv
    exact row lv g1 hi (fun ls' h2 => zgo_kk hs kk (g2 ls' h2) hr I3)
  · cases hs
theorem z_sv2 {i : Nat} {v v' : Value} {r r' : List Value} (hs : zsv2 L i nx v r h = some (.inl (pc', L', st', h', dc, ds))) (hv : zV sp ads v v') (I1 : zLR sp ads L ls nL) (hr : zS sp ads r r') (I3 : zW sp ty D A H0 ads h H locs) (kk : zKK p l e R s m args below meth c cells slots Q sp ty D A H0 nL ads pc' L' st' h' dc ds)
    (row : ∀ lv : List (Nat × Value), lv_has ls nL lv → i + 1 < nL → (∀ ls' : Array Slot, lv_has ls' nL ((i, v') :: lv.filter (fun q => !(q.1 == i) && (!(q.1 == i + 1) && !(q.1 + 1 == i && q.2.category == 2)))) → W p l e R s m args below meth c H locs cells slots Q (F0 m nx ls' r')) → W p l e R s m args below meth c H locs cells slots Q (F0 m pc ls str)) : W p l e R s m args below meth c H locs cells slots Q (F0 m pc ls str) := by
  unfold zsv2 at hs
  split at hs
  · next L1 h1 =>
    obtain ⟨hi, lv, g1, g2⟩ := zLR_st2 I1 h1 hv
    exact row lv g1 hi (fun ls' h2 => zgo_kk hs kk (g2 ls' h2) hr I3)
  · cases hs
theorem zS_cat {v v' : Value} (h : zV sp ads v v') (hc : zcat v = false) : v'.category = 1 := by rw [zV_cat h, hc]; rfl
theorem zS_cat2 {v v' : Value} (h : zV sp ads v v') (hc : zcat v = true) : v'.category = 2 := by rw [zV_cat h, hc]; rfl
theorem z_dup (hs : zdup nx L st h = some (.inl (pc', L', st', h', dc, ds))) (I : zR sp ty D A H0 nL ads L st h ls str H locs) (kk : zKK p l e R s m args below meth c cells slots Q sp ty D A H0 nL ads pc' L' st' h' dc ds)
    (row : ∀ (v : Value) (r : List Value), v.category = 1 → W p l e R s m args below meth c H locs cells slots Q (F0 m nx ls (v :: v :: r)) → W p l e R s m args below meth c H locs cells slots Q (F0 m pc ls (v :: r))) : W p l e R s m args below meth c H locs cells slots Q (F0 m pc ls str) := by
  obtain ⟨I1, I2, I3⟩ := I
  unfold zdup at hs
  split at hs
  · split at hs
    · cases hs
    · next hc =>
      obtain ⟨_, _, rfl, hv, hr⟩ := I2
      exact row _ _ (zS_cat hv (by simpa using hc)) (zgo_kk hs kk I1 ⟨_, _, rfl, hv, _, _, rfl, hv, hr⟩ I3)
  · cases hs
theorem z_pop (hs : zpop nx L st h = some (.inl (pc', L', st', h', dc, ds))) (I : zR sp ty D A H0 nL ads L st h ls str H locs) (kk : zKK p l e R s m args below meth c cells slots Q sp ty D A H0 nL ads pc' L' st' h' dc ds)
    (row : ∀ (v : Value) (r : List Value), v.category = 1 → W p l e R s m args below meth c H locs cells slots Q (F0 m nx ls r) → W p l e R s m args below meth c H locs cells slots Q (F0 m pc ls (v :: r))) : W p l e R s m args below meth c H locs cells slots Q (F0 m pc ls str) := by
  obtain ⟨I1, I2, I3⟩ := I
  unfold zpop at hs
  split at hs
  · split at hs
    · cases hs
    · next hc =>
      obtain ⟨_, _, rfl, hv, hr⟩ := I2
      exact row _ _ (zS_cat hv (by simpa using hc)) (zgo_kk hs kk I1 hr I3)
  · cases hs
theorem z_pop2 (hs : zpop2 nx L st h = some (.inl (pc', L', st', h', dc, ds))) (I : zR sp ty D A H0 nL ads L st h ls str H locs) (kk : zKK p l e R s m args below meth c cells slots Q sp ty D A H0 nL ads pc' L' st' h' dc ds)
    (row : ∀ (v : Value) (r : List Value), v.category = 2 → W p l e R s m args below meth c H locs cells slots Q (F0 m nx ls r) → W p l e R s m args below meth c H locs cells slots Q (F0 m pc ls (v :: r))) : W p l e R s m args below meth c H locs cells slots Q (F0 m pc ls str) := by
  obtain ⟨I1, I2, I3⟩ := I
  unfold zpop2 at hs
  split at hs
  · split at hs
    · next hc =>
      obtain ⟨_, _, rfl, hv, hr⟩ := I2
      exact row _ _ (zS_cat2 hv hc) (zgo_kk hs kk I1 hr I3)
    · cases hs
  · cases hs
theorem z_dupx1 (hs : zdupx1 nx L st h = some (.inl (pc', L', st', h', dc, ds))) (I : zR sp ty D A H0 nL ads L st h ls str H locs) (kk : zKK p l e R s m args below meth c cells slots Q sp ty D A H0 nL ads pc' L' st' h' dc ds)
    (row : ∀ (v w : Value) (r : List Value), v.category = 1 → w.category = 1 → W p l e R s m args below meth c H locs cells slots Q (F0 m nx ls (v :: w :: v :: r)) → W p l e R s m args below meth c H locs cells slots Q (F0 m pc ls (v :: w :: r))) : W p l e R s m args below meth c H locs cells slots Q (F0 m pc ls str) := by
  obtain ⟨I1, I2, I3⟩ := I
  unfold zdupx1 at hs
  split at hs
  · split at hs
    · cases hs
    · next hc =>
      obtain ⟨_, _, rfl, hv, _, _, rfl, hw, hr⟩ := I2
      simp only [Bool.or_eq_true, not_or, Bool.not_eq_true] at hc
      exact row _ _ _ (zS_cat hv hc.1) (zS_cat hw hc.2) (zgo_kk hs kk I1 ⟨_, _, rfl, hv, _, _, rfl, hw, _, _, rfl, hv, hr⟩ I3)
  · cases hs
theorem z_dup2 (hs : zdup2 nx L st h = some (.inl (pc', L', st', h', dc, ds))) (I : zR sp ty D A H0 nL ads L st h ls str H locs) (kk : zKK p l e R s m args below meth c cells slots Q sp ty D A H0 nL ads pc' L' st' h' dc ds)
    (row : ∀ (v w : Value) (r : List Value), v.category = 1 → w.category = 1 → W p l e R s m args below meth c H locs cells slots Q (F0 m nx ls (v :: w :: v :: w :: r)) → W p l e R s m args below meth c H locs cells slots Q (F0 m pc ls (v :: w :: r))) : W p l e R s m args below meth c H locs cells slots Q (F0 m pc ls str) := by
  obtain ⟨I1, I2, I3⟩ := I
  unfold zdup2 at hs
  split at hs
  · split at hs
    · cases hs
    · next hc =>
      obtain ⟨_, _, rfl, hv, _, _, rfl, hw, hr⟩ := I2
      simp only [Bool.or_eq_true, not_or, Bool.not_eq_true] at hc
      exact row _ _ _ (zS_cat hv hc.1) (zS_cat hw hc.2) (zgo_kk hs kk I1 ⟨_, _, rfl, hv, _, _, rfl, hw, _, _, rfl, hv, _, _, rfl, hw, hr⟩ I3)
  · cases hs
/-- the machine's branch row of a condition -/
def zrow (p : Program) (l : Launch) (e : Env) (R : Room) (s : State) (m : MethodId) (args : Array Value) (below : List Frame) (meth : Method) (c : Code) (H : Heap) (locs : List Loc) (cells slots : Nat) (Q : State → Prop) (cd : ClassFile.Cond) (x y : Int32) (tg nx : Nat) (ls : Array Slot) (r str : List Value) (pc : Nat) : Prop :=
  match cd with
  | .eq => (x = y → W p l e R s m args below meth c H locs cells slots Q (F0 m tg ls r)) → (¬ x = y → W p l e R s m args below meth c H locs cells slots Q (F0 m nx ls r)) → W p l e R s m args below meth c H locs cells slots Q (F0 m pc ls str)
  | .ne => (¬ x = y → W p l e R s m args below meth c H locs cells slots Q (F0 m tg ls r)) → (x = y → W p l e R s m args below meth c H locs cells slots Q (F0 m nx ls r)) → W p l e R s m args below meth c H locs cells slots Q (F0 m pc ls str)
  | .lt => (x < y → W p l e R s m args below meth c H locs cells slots Q (F0 m tg ls r)) → (¬ x < y → W p l e R s m args below meth c H locs cells slots Q (F0 m nx ls r)) → W p l e R s m args below meth c H locs cells slots Q (F0 m pc ls str)
  | .ge => (y ≤ x → W p l e R s m args below meth c H locs cells slots Q (F0 m tg ls r)) → (¬ y ≤ x → W p l e R s m args below meth c H locs cells slots Q (F0 m nx ls r)) → W p l e R s m args below meth c H locs cells slots Q (F0 m pc ls str)
  | .gt => (y < x → W p l e R s m args below meth c H locs cells slots Q (F0 m tg ls r)) → (¬ y < x → W p l e R s m args below meth c H locs cells slots Q (F0 m nx ls r)) → W p l e R s m args below meth c H locs cells slots Q (F0 m pc ls str)
  | .le => (x ≤ y → W p l e R s m args below meth c H locs cells slots Q (F0 m tg ls r)) → (¬ x ≤ y → W p l e R s m args below meth c H locs cells slots Q (F0 m nx ls r)) → W p l e R s m args below meth c H locs cells slots Q (F0 m pc ls str)
theorem z_br {cd : ClassFile.Cond} {x y : Int32} {tg : Nat} {r r' : List Value} (hs : zbr cd x y tg nx L r h = some (.inl (pc', L', st', h', dc, ds))) (I1 : zLR sp ads L ls nL) (hr : zS sp ads r r') (I3 : zW sp ty D A H0 ads h H locs) (kk : zKK p l e R s m args below meth c cells slots Q sp ty D A H0 nL ads pc' L' st' h' dc ds)
    (row : zrow p l e R s m args below meth c H locs cells slots Q cd x y tg nx ls r' str pc) : W p l e R s m args below meth c H locs cells slots Q (F0 m pc ls str) := by
  cases cd <;> (unfold zbr at hs; dsimp only at hs; unfold zrow at row; dsimp only at row; refine row (fun g => ?_) (fun g => ?_) <;> first | (rw [if_pos g] at hs; exact zgo_kk hs kk I1 hr I3) | (rw [if_neg g] at hs; exact zgo_kk hs kk I1 hr I3))
theorem z_off {o : Int} {r r' : List Value} (hs : zoff pc o L r h = some (.inl (pc', L', st', h', dc, ds))) (I1 : zLR sp ads L ls nL) (hr : zS sp ads r r') (I3 : zW sp ty D A H0 ads h H locs) (kk : zKK p l e R s m args below meth c cells slots Q sp ty D A H0 nL ads pc' L' st' h' dc ds) : ∃ tg : Nat, (pc : Int) + o = (tg : Int) ∧ W p l e R s m args below meth c H locs cells slots Q (F0 m tg ls r') := by
  unfold zoff at hs
  split at hs
  · next t ht => exact ⟨t, ht, zgo_kk hs kk I1 hr I3⟩
  · cases hs
theorem z_W {k : Nat} {ce : Nat × List Value} (I3 : zW sp ty D A H0 ads h H locs) (hk : h[k]? = some ce) {v' : Value} (hv : zV sp ads (.ref k) v') : ∃ (ws : va_W) (a : Nat) (e : va_E), v' = .ref a ∧ ads[k]? = some a ∧ ws[k]? = some (a, e) ∧ zC sp ty ads ce e ∧ va_P D zcl ws H ∧ va_D A ws ∧ va_S A H0 H locs ∧ ws.map (fun q => q.1) = ads ∧ h.length = ws.length ∧ ∀ (k : Nat) (c : Nat × List Value) (q : Nat × va_E), h[k]? = some c → ws[k]? = some q → zC sp ty ads c q.2 := by
  obtain ⟨ws, w1, w2, w3, w4, w5, w6⟩ := I3
  obtain ⟨a, ha, rfl⟩ := hv
  have hl : k < ws.length := by rw [← w5]; exact (List.getElem?_eq_some_iff.mp hk).1
  obtain ⟨q, hq⟩ : ∃ q, ws[k]? = some q := ⟨_, List.getElem?_eq_getElem hl⟩
  have h1 : ads[k]? = some q.1 := by rw [← w4, List.getElem?_map, hq]; rfl
  cases Option.some.inj (ha.symm.trans h1)
  exact ⟨ws, q.1, q.2, rfl, h1, hq, w6 k _ q hk hq, w1, w2, w3, w4, w5, w6⟩
/-- a cell written anew, of the same tag -/
theorem z_Wset {ws : va_W} {k a : Nat} {e0 e : va_E} {ce : Nat × List Value} {H1 : Heap} {locs1 : List Loc} (w4 : ws.map (fun q => q.1) = ads) (w5 : h.length = ws.length) (w6 : ∀ (k : Nat) (c : Nat × List Value) (q : Nat × va_E), h[k]? = some c → ws[k]? = some q → zC sp ty ads c q.2) (hq : ws[k]? = some (a, e0)) (hc : zC sp ty ads ce e) (w1 : va_P D zcl (ws.set k (a, e)) H1) (w2 : va_D A (ws.set k (a, e))) (w3 : va_S A H0 H1 locs1) : zW sp ty D A H0 ads (h.set k ce) H1 locs1 := by
  have hl := (List.getElem?_eq_some_iff.mp hq).1
  refine ⟨_, w1, w2, w3, ?_, by simp [w5], fun j c q h1 h2 => ?_⟩
  · rw [List.map_set, ← w4]
    refine List.ext_getElem? fun j => ?_
    by_cases e9 : j = k
    · subst e9
      rw [List.getElem?_set_self (by simpa using hl), List.getElem?_map, hq]
      rfl
    · rw [List.getElem?_set_ne (fun z => e9 z.symm)]
  · by_cases e9 : j = k
    · subst e9
      rw [List.getElem?_set_self (by omega)] at h1
      rw [List.getElem?_set_self hl] at h2
      cases h1; cases h2
      exact hc
    · rw [List.getElem?_set_ne (fun z => e9 z.symm)] at h1 h2
      exact w6 j c q h1 h2
theorem zC_mono {ce : Nat × List Value} {e : va_E} (q : List Nat) (hc : zC sp ty ads ce e) : zC sp ty (ads ++ q) ce e := by
  rcases hc with ⟨h1, vs', h2, h3⟩ | hc | ⟨h1, f, h2, h3⟩
  · exact Or.inl ⟨h1, vs', h2, zS_mono q h3⟩
  · exact Or.inr (Or.inl hc)
  · exact Or.inr (Or.inr ⟨h1, f, h2, fun j x hx => zV_mono q (h3 j x hx)⟩)
/-- new cells -/
theorem z_Wapp {ws : va_W} {wn : va_W} {hn : zH} {H1 : Heap} {locs1 : List Loc} (w4 : ws.map (fun q => q.1) = ads) (w5 : h.length = ws.length) (w6 : ∀ (k : Nat) (c : Nat × List Value) (q : Nat × va_E), h[k]? = some c → ws[k]? = some q → zC sp ty ads c q.2) (hl : hn.length = wn.length) (hc : ∀ (k : Nat) (c : Nat × List Value) (q : Nat × va_E), hn[k]? = some c → wn[k]? = some q → zC sp ty (ads ++ wn.map (fun q => q.1)) c q.2) (w1 : va_P D zcl (ws ++ wn) H1) (w2 : va_D A (ws ++ wn)) (w3 : va_S A H0 H1 locs1) : zW sp ty D A H0 (ads ++ wn.map (fun q => q.1)) (h ++ hn) H1 locs1 := by
  refine ⟨_, w1, w2, w3, by rw [List.map_append, w4], by simp [w5, hl], fun k c q h1 h2 => ?_⟩
  by_cases e9 : k < h.length
  · rw [List.getElem?_append_left e9] at h1
    rw [List.getElem?_append_left (by omega)] at h2
    exact zC_mono _ (w6 k c q h1 h2)
  · rw [List.getElem?_append_right (by omega)] at h1
    rw [List.getElem?_append_right (by omega)] at h2
    rw [← w5] at h2
    exact hc _ c q h1 h2
theorem z_in {i : Int32} {n : Nat} (h1 : ¬ i < 0) (h2 : i.toNatClampNeg < n) : vp_in i n := fun q => q.elim h1 (fun q => by omega)
theorem z_arr {t : Nat} {vs : List Value} {e : va_E} (ht : t = 100 ∨ t = 101 ∨ t = 102) (hc : zC sp ty ads (t, vs) e) : ∃ f : Nat → Int32, e = .inl (ty (t - 100), vs.length, .inl f) ∧ ∀ (j : Nat) (x : Value), vs[j]? = some x → x = .int (f j) := by
  rcases hc with ⟨h1, -⟩ | ⟨-, hc⟩ | ⟨h1, -⟩
  · exact absurd h1 (by dsimp only; omega)
  · exact hc
  · exact absurd h1 (by dsimp only; omega)
theorem z_arq {t : Nat} {vs : List Value} {e : va_E} (ht : t = 103 ∨ t = 104) (hc : zC sp ty ads (t, vs) e) : ∃ f : Nat → Option Nat, e = .inl (ty (t - 100), vs.length, .inr (.inr (.inr (.inr f)))) ∧ ∀ (j : Nat) (x : Value), vs[j]? = some x → zV sp ads x (va_rf (f j)) := by
  rcases hc with ⟨h1, -⟩ | ⟨h1, -⟩ | ⟨-, hc⟩
  · exact absurd h1 (by dsimp only; omega)
  · exact absurd h1 (by dsimp only; omega)
  · exact hc
theorem z_obj {t : Nat} {vs : List Value} {e : va_E} (ht : t < 100) (hc : zC sp ty ads (t, vs) e) : ∃ vs', e = .inr (t, vs') ∧ zS sp ads vs vs' := by
  rcases hc with ⟨-, hc⟩ | ⟨h1, -⟩ | ⟨h1, -⟩
  · exact hc
  · exact absurd h1 (by dsimp only; omega)
  · exact absurd h1 (by dsimp only; omega)
theorem z_ald {t : Nat} (ht : t = 100 ∨ t = 101 ∨ t = 102) (hs : zald t nx L st h = some (.inl (pc', L', st', h', dc, ds))) (I : zR sp ty D A H0 nL ads L st h ls str H locs) (kk : zKK p l e R s m args below meth c cells slots Q sp ty D A H0 nL ads pc' L' st' h' dc ds)
    (row : ∀ (ws : va_W) (k a n : Nat) (f : Nat → Int32) (i : Int32) (r : List Value), va_P D zcl ws H → ws[k]? = some (a, .inl (ty (t - 100), n, .inl f)) → vp_in i n → W p l e R s m args below meth c H locs cells slots Q (F0 m nx ls (.int (f i.toNatClampNeg) :: r)) → W p l e R s m args below meth c H locs cells slots Q (F0 m pc ls (.int i :: .ref a :: r))) : W p l e R s m args below meth c H locs cells slots Q (F0 m pc ls str) := by
  obtain ⟨I1, I2, I3⟩ := I
  unfold zald at hs
  split at hs
  · next i a r =>
    split at hs
    · next t' vs ha =>
      split at hs
      · next e1 =>
        subst e1
        split at hs
        · next x hx =>
          split at hs
          · cases hs
          · next hi =>
            obtain ⟨_, _, rfl, hv, _, _, rfl, hw, hr⟩ := I2
            cases (show _ = Value.int _ from hv)
            obtain ⟨ws, b, e, rfl, w0, w1, w2, w3, -⟩ := z_W I3 ha hw
            obtain ⟨f, rfl, hf⟩ := z_arr ht w2
            cases hf _ _ hx
            exact row ws _ b _ f i _ w3 w1 (z_in hi (List.getElem?_eq_some_iff.mp hx).1) (zgo_kk hs kk I1 ⟨_, _, rfl, rfl, hr⟩ I3)
        · cases hs
      · cases hs
    · cases hs
  · cases hs
theorem z_ast {t : Nat} {g : Int32 → Option Int32} (ht : t = 100 ∨ t = 101 ∨ t = 102) (hs : zast t g nx L st h = some (.inl (pc', L', st', h', dc, ds))) (I : zR sp ty D A H0 nL ads L st h ls str H locs) (kk : zKK p l e R s m args below meth c cells slots Q sp ty D A H0 nL ads pc' L' st' h' dc ds)
    (row : ∀ (ws : va_W) (k a n : Nat) (f : Nat → Int32) (i x z : Int32) (r : List Value), g x = some z → va_P D zcl ws H → va_D A ws → va_S A H0 H locs → ws[k]? = some (a, .inl (ty (t - 100), n, .inl f)) → vp_in i n →
      (∀ (H1 : Heap) (locs1 : List Loc), va_P D zcl (ws.set k (a, .inl (ty (t - 100), n, .inl (upd f i.toNatClampNeg z)))) H1 → va_D A (ws.set k (a, .inl (ty (t - 100), n, .inl (upd f i.toNatClampNeg z)))) → va_S A H0 H1 locs1 → W p l e R s m args below meth c H1 locs1 cells slots Q (F0 m nx ls r)) →
      W p l e R s m args below meth c H locs cells slots Q (F0 m pc ls (.int x :: .int i :: .ref a :: r))) : W p l e R s m args below meth c H locs cells slots Q (F0 m pc ls str) := by
  obtain ⟨I1, I2, I3⟩ := I
  unfold zast at hs
  split at hs
  · next x i a r =>
    split at hs
    · next t' vs ha =>
      split at hs
      · next e1 =>
        subst e1
        split at hs
        · cases hs
        · next hi =>
          split at hs
          · next hl =>
            split at hs
            · next z hz =>
              obtain ⟨_, _, rfl, hu, _, _, rfl, hv, _, _, rfl, hw, hr⟩ := I2
              cases (show _ = Value.int _ from hu); cases (show _ = Value.int _ from hv)
              obtain ⟨ws, b, e, rfl, w0, w1, w2, w3, w4, w5, w6, w7, w8⟩ := z_W I3 ha hw
              obtain ⟨f, rfl, hf⟩ := z_arr ht w2
              refine row ws _ b _ f i x z _ hz w3 w4 w5 w1 (z_in hi hl) (fun H1 locs1 g1 g2 g3 => ?_)
              refine zgo_kk hs kk I1 hr (z_Wset w6 w7 w8 w1 (Or.inr (Or.inl ⟨ht, upd f i.toNatClampNeg z, by rw [List.length_set], fun j x hj => ?_⟩)) g1 g2 g3)
              dsimp only at hj
              by_cases e9 : j = i.toNatClampNeg
              · subst e9
                rw [List.getElem?_set_self hl] at hj
                cases hj
                rw [show upd f i.toNatClampNeg z i.toNatClampNeg = z from if_pos rfl]
              · rw [List.getElem?_set_ne (fun z => e9 z.symm)] at hj
                rw [hf j x hj, show upd f i.toNatClampNeg z j = f j from if_neg e9]
            · cases hs
          · cases hs
      · cases hs
    · cases hs
  · cases hs
theorem z_aald (hs : zaald nx L st h = some (.inl (pc', L', st', h', dc, ds))) (I : zR sp ty D A H0 nL ads L st h ls str H locs) (kk : zKK p l e R s m args below meth c cells slots Q sp ty D A H0 nL ads pc' L' st' h' dc ds)
    (row : ∀ (ws : va_W) (t k a n : Nat) (f : Nat → Option Nat) (i : Int32) (r : List Value), (t = 103 ∨ t = 104) → va_P D zcl ws H → ws[k]? = some (a, .inl (ty (t - 100), n, .inr (.inr (.inr (.inr f))))) → vp_in i n → W p l e R s m args below meth c H locs cells slots Q (F0 m nx ls (va_rf (f i.toNatClampNeg) :: r)) → W p l e R s m args below meth c H locs cells slots Q (F0 m pc ls (.int i :: .ref a :: r))) : W p l e R s m args below meth c H locs cells slots Q (F0 m pc ls str) := by
  obtain ⟨I1, I2, I3⟩ := I
  unfold zaald at hs
  split at hs
  · next i a r =>
    split at hs
    · next t vs ha =>
      split at hs
      · next ht =>
        split at hs
        · next x hx =>
          split at hs
          · cases hs
          · next hi =>
            obtain ⟨_, _, rfl, hv, _, _, rfl, hw, hr⟩ := I2
            cases (show _ = Value.int _ from hv)
            obtain ⟨ws, b, e, rfl, w0, w1, w2, w3, -⟩ := z_W I3 ha hw
            obtain ⟨f, rfl, hf⟩ := z_arq ht w2
            exact row ws t _ b _ f i _ ht w3 w1 (z_in hi (List.getElem?_eq_some_iff.mp hx).1) (zgo_kk hs kk I1 ⟨_, _, rfl, hf _ _ hx, hr⟩ I3)
        · cases hs
      · cases hs
    · cases hs
  · cases hs
theorem z_aast (hs : zaast nx L st h = some (.inl (pc', L', st', h', dc, ds))) (I : zR sp ty D A H0 nL ads L st h ls str H locs) (kk : zKK p l e R s m args below meth c cells slots Q sp ty D A H0 nL ads pc' L' st' h' dc ds)
    (row : ∀ (ws : va_W) (k k2 a b n n2 : Nat) (f : Nat → Option Nat) (f2 : Nat → Int32) (i : Int32) (r : List Value), va_P D zcl ws H → va_D A ws → va_S A H0 H locs → ws[k]? = some (a, .inl (ty 3, n, .inr (.inr (.inr (.inr f))))) → ws[k2]? = some (b, .inl (ty 0, n2, .inl f2)) → vp_in i n →
      (∀ (H1 : Heap) (locs1 : List Loc), va_P D zcl (ws.set k (a, .inl (ty 3, n, .inr (.inr (.inr (.inr (va_up f i.toNatClampNeg (some b)))))))) H1 → va_D A (ws.set k (a, .inl (ty 3, n, .inr (.inr (.inr (.inr (va_up f i.toNatClampNeg (some b)))))))) → va_S A H0 H1 locs1 → W p l e R s m args below meth c H1 locs1 cells slots Q (F0 m nx ls r)) →
      W p l e R s m args below meth c H locs cells slots Q (F0 m pc ls (.ref b :: .int i :: .ref a :: r))) : W p l e R s m args below meth c H locs cells slots Q (F0 m pc ls str) := by
  obtain ⟨I1, I2, I3⟩ := I
  unfold zaast at hs
  split at hs
  · next x i a r =>
    split at hs
    · next t vs t' vs' ha hx =>
      split at hs
      · next ht =>
        obtain ⟨rfl, rfl⟩ := ht
        split at hs
        · cases hs
        · next hi =>
          split at hs
          · next hl =>
            obtain ⟨_, _, rfl, hu, _, _, rfl, hv, _, _, rfl, hw, hr⟩ := I2
            cases (show _ = Value.int _ from hv)
            have hu9 := hu
            obtain ⟨b, hb9, rfl⟩ := hu9
            obtain ⟨ws, b1, e, rfl, w0, w1, w2, w3, w4, w5, w6, w7, w8⟩ := z_W I3 ha hw
            obtain ⟨f, rfl, hf⟩ := z_arq (Or.inl rfl) w2
            have hl2 : x < ws.length := by rw [← w7]; exact (List.getElem?_eq_some_iff.mp hx).1
            obtain ⟨q, hq⟩ : ∃ q, ws[x]? = some q := ⟨_, List.getElem?_eq_getElem hl2⟩
            have h1 : ads[x]? = some q.1 := by rw [← w6, List.getElem?_map, hq]; rfl
            cases Option.some.inj (hb9.symm.trans h1)
            obtain ⟨q1, q2⟩ := q
            obtain ⟨f2, rfl, -⟩ := z_arr (Or.inl rfl) (w8 _ _ _ hx hq)
            refine row ws _ _ b1 _ _ _ f f2 i _ w3 w4 w5 w1 hq (z_in hi hl) (fun H1 locs1 g1 g2 g3 => ?_)
            refine zgo_kk hs kk I1 hr (z_Wset w6 w7 w8 w1 (Or.inr (Or.inr ⟨Or.inl rfl, va_up f i.toNatClampNeg (some q1), by simp only [List.length_set], fun j x9 hj => ?_⟩)) g1 g2 g3)
            dsimp only at hj
            by_cases e9 : j = i.toNatClampNeg
            · subst e9
              rw [List.getElem?_set_self hl] at hj
              cases hj
              rw [va_up_self]
              exact hu
            · rw [List.getElem?_set_ne (fun z => e9 z.symm)] at hj
              rw [va_up_ne _ _ e9]
              exact hf j x9 hj
          · cases hs
      · cases hs
    · cases hs
  · cases hs
theorem z_get {f9 k : Nat} (hs : zget zcf f9 k nx L st h = some (.inl (pc', L', st', h', dc, ds))) (I : zR sp ty D A H0 nL ads L st h ls str H locs) (kk : zKK p l e R s m args below meth c cells slots Q sp ty D A H0 nL ads pc' L' st' h' dc ds)
    (row : ∀ (ws : va_W) (j a ci kd : Nat) (vs : List Value) (v : Value) (r : List Value), va_P D zcl ws H → ws[j]? = some (a, .inr (ci, vs)) → (zcf ci)[k]? = some (f9, kd) → vs[k]? = some v → W p l e R s m args below meth c H locs cells slots Q (F0 m nx ls (v :: r)) → W p l e R s m args below meth c H locs cells slots Q (F0 m pc ls (.ref a :: r))) : W p l e R s m args below meth c H locs cells slots Q (F0 m pc ls str) := by
  obtain ⟨I1, I2, I3⟩ := I
  unfold zget at hs
  split at hs
  · next a r =>
    split at hs
    · next t vs ha =>
      split at hs
      · next f' kd hf =>
        split at hs
        · next e1 =>
          subst e1
          split at hs
          · next v hv9 =>
            obtain ⟨_, _, rfl, hw, hr⟩ := I2
            obtain ⟨ws, b, e, rfl, w0, w1, w2, w3, -⟩ := z_W I3 ha hw
            have ht : t < 100 := by
              by_cases q : t < 11
              · omega
              · have : zcf t = [] := zcf_out (by omega)
                rw [this] at hf
                cases hf
            obtain ⟨vs', rfl, h9⟩ := z_obj ht w2
            obtain ⟨v', g1, g2⟩ := zS_at h9 hv9
            exact row ws _ b t kd vs' v' _ w3 w1 hf g1 (zgo_kk hs kk I1 ⟨_, _, rfl, g2, hr⟩ I3)
          · cases hs
        · cases hs
      · cases hs
    · cases hs
  · cases hs
theorem zfdk_V {kd : Nat} {v v' : Value} (h : zfdk kd v = true) (hv : zV sp ads v v') {t9 : FieldType} (ht : zkt kd t9) : narrow t9 v' = v' ∧ fits t9 v' = true := by
  unfold zfdk at h
  split at h
  · cases (show _ = Value.int _ from hv)
    cases (show t9 = .int from ht)
    exact ⟨rfl, rfl⟩
  · next x =>
    cases (show _ = Value.int _ from hv)
    cases (show t9 = .boolean from ht)
    rcases of_decide_eq_true h with rfl | rfl <;> exact ⟨rfl, rfl⟩
  · next x =>
    cases (show _ = Value.int _ from hv)
    cases (show t9 = .byte from ht)
    obtain ⟨h1, h2⟩ := of_decide_eq_true h
    refine ⟨?_, by simp [fits, h1, h2]⟩
    exact zby h1 h2
  · cases (show _ = Value.long _ from hv)
    cases (show t9 = .long from ht)
    exact ⟨rfl, rfl⟩
  · cases (show _ = Value.double _ from hv)
    cases (show t9 = .double from ht)
    exact ⟨rfl, rfl⟩
  · obtain ⟨a, -, rfl⟩ := hv
    rcases (show (∃ n, t9 = .object n) ∨ ∃ t, t9 = .array t from ht) with ⟨n, rfl⟩ | ⟨n, rfl⟩ <;> exact ⟨rfl, rfl⟩
  · cases (show _ = Value.null from hv)
    rcases (show (∃ n, t9 = .object n) ∨ ∃ t, t9 = .array t from ht) with ⟨n, rfl⟩ | ⟨n, rfl⟩ <;> exact ⟨rfl, rfl⟩
  · obtain ⟨-, rfl⟩ := hv
    rcases (show (∃ n, t9 = .object n) ∨ ∃ t, t9 = .array t from ht) with ⟨n, rfl⟩ | ⟨n, rfl⟩ <;> exact ⟨rfl, rfl⟩
  · cases h
theorem z_put {f9 k : Nat} (hs : zput zcf f9 k nx L st h = some (.inl (pc', L', st', h', dc, ds))) (I : zR sp ty D A H0 nL ads L st h ls str H locs) (kk : zKK p l e R s m args below meth c cells slots Q sp ty D A H0 nL ads pc' L' st' h' dc ds)
    (row : ∀ (ws : va_W) (j a ci kd : Nat) (vs : List Value) (v : Value) (r : List Value), va_P D zcl ws H → va_D A ws → va_S A H0 H locs → ws[j]? = some (a, .inr (ci, vs)) → (zcf ci)[k]? = some (f9, kd) → (∀ t9, zkt kd t9 → narrow t9 v = v ∧ fits t9 v = true) → k < vs.length →
      (∀ (H1 : Heap) (locs1 : List Loc), va_P D zcl (ws.set j (a, .inr (ci, vs.set k v))) H1 → va_D A (ws.set j (a, .inr (ci, vs.set k v))) → va_S A H0 H1 locs1 → W p l e R s m args below meth c H1 locs1 cells slots Q (F0 m nx ls r)) → W p l e R s m args below meth c H locs cells slots Q (F0 m pc ls (v :: .ref a :: r))) : W p l e R s m args below meth c H locs cells slots Q (F0 m pc ls str) := by
  obtain ⟨I1, I2, I3⟩ := I
  unfold zput at hs
  split at hs
  · next v a r =>
    split at hs
    · next t vs ha =>
      split at hs
      · next f' kd hf =>
        split at hs
        · next e1 =>
          subst e1
          split at hs
          · next hk9 =>
            split at hs
            · next hl =>
              obtain ⟨v', _, rfl, hv, _, _, rfl, hw, hr⟩ := I2
              obtain ⟨ws, b, e, rfl, w0, w1, w2, w3, w4, w5, w6, w7, w8⟩ := z_W I3 ha hw
              have ht : t < 100 := by
                by_cases q : t < 11
                · omega
                · have : zcf t = [] := zcf_out (by omega)
                  rw [this] at hf
                  cases hf
              obtain ⟨vs', rfl, h9⟩ := z_obj ht w2
              refine row ws _ b t kd vs' v' _ w3 w4 w5 w1 hf (fun t9 g => zfdk_V hk9 hv g) (by rw [zS_len h9]; exact hl) (fun H1 locs1 g1 g2 g3 => ?_)
              exact zgo_kk hs kk I1 hr (z_Wset w6 w7 w8 w1 (Or.inl ⟨ht, _, rfl, zS_set hv h9 k⟩) g1 g2 g3)
            · cases hs
          · cases hs
        · cases hs
      · cases hs
    · cases hs
  · cases hs
theorem z_alen (hSP : zSP xs sp A s) (hs : zalen xs nx L st h = some (.inl (pc', L', st', h', dc, ds))) (I : zR sp ty D A s.heap nL ads L st h ls str H locs) (kk : zKK p l e R s m args below meth c cells slots Q sp ty D A s.heap nL ads pc' L' st' h' dc ds)
    (row : ∀ (ws : va_W) (t k a : Nat) (x : vp_A) (r : List Value), 100 ≤ t → t < 105 → va_P D zcl ws H → ws[k]? = some (a, .inl (ty (t - 100), x)) → W p l e R s m args below meth c H locs cells slots Q (F0 m nx ls (.int (Int32.ofNat x.1) :: r)) → W p l e R s m args below meth c H locs cells slots Q (F0 m pc ls (.ref a :: r)))
    (rowX : ∀ r : List Value, va_S A s.heap H locs → W p l e R s m args below meth c H locs cells slots Q (F0 m nx ls (.int (Int32.ofNat xs.length) :: r)) → W p l e R s m args below meth c H locs cells slots Q (F0 m pc ls (.ref (sp 0) :: r)))
    (rowE : ∀ r : List Value, va_S A s.heap H locs → W p l e R s m args below meth c H locs cells slots Q (F0 m nx ls (.int 0 :: r)) → W p l e R s m args below meth c H locs cells slots Q (F0 m pc ls (.ref (sp 1) :: r))) : W p l e R s m args below meth c H locs cells slots Q (F0 m pc ls str) := by
  obtain ⟨I1, I2, I3⟩ := I
  unfold zalen at hs
  split at hs
  · next a r =>
    split at hs
    · next t vs ha =>
      split at hs
      · next ht =>
        obtain ⟨_, _, rfl, hw, hr⟩ := I2
        obtain ⟨ws, b, e, rfl, w0, w1, w2, w3, -⟩ := z_W I3 ha hw
        rcases w2 with ⟨h1, -⟩ | ⟨h1, f, rfl, -⟩ | ⟨h1, f, rfl, -⟩
        · exact absurd h1 (by dsimp only; omega)
        · exact row ws t _ b (vs.length, .inl f) _ ht (by dsimp only at h1; omega) w3 w1 (zgo_kk hs kk I1 ⟨_, _, rfl, rfl, hr⟩ I3)
        · exact row ws t _ b (vs.length, .inr (.inr (.inr (.inr f)))) _ ht (by dsimp only at h1; omega) w3 w1 (zgo_kk hs kk I1 ⟨_, _, rfl, rfl, hr⟩ I3)
      · cases hs
    · cases hs
  · obtain ⟨_, _, rfl, ⟨-, rfl⟩, hr⟩ := I2
    obtain ⟨ws, w1, w2, w3, -⟩ := id I3
    exact rowX _ w3 (zgo_kk hs kk I1 ⟨_, _, rfl, rfl, hr⟩ I3)
  · obtain ⟨_, _, rfl, ⟨-, rfl⟩, hr⟩ := I2
    obtain ⟨ws, w1, w2, w3, -⟩ := id I3
    exact rowE _ w3 (zgo_kk hs kk I1 ⟨_, _, rfl, rfl, hr⟩ I3)
  · cases hs
theorem z_ialoadX (hs : zialoadX xs nx L st h = some (.inl (pc', L', st', h', dc, ds))) (I : zR sp ty D A s.heap nL ads L st h ls str H locs) (kk : zKK p l e R s m args below meth c cells slots Q sp ty D A s.heap nL ads pc' L' st' h' dc ds)
    (row : ∀ (ws : va_W) (k a n : Nat) (f : Nat → Int32) (i : Int32) (r : List Value), va_P D zcl ws H → ws[k]? = some (a, .inl (ty (100 - 100), n, .inl f)) → vp_in i n → W p l e R s m args below meth c H locs cells slots Q (F0 m nx ls (.int (f i.toNatClampNeg) :: r)) → W p l e R s m args below meth c H locs cells slots Q (F0 m pc ls (.int i :: .ref a :: r)))
    (rowX : ∀ (i : Int32) (r : List Value), va_S A s.heap H locs → vp_in i xs.length → W p l e R s m args below meth c H locs cells slots Q (F0 m nx ls (.int (xs.getD i.toNatClampNeg 0) :: r)) → W p l e R s m args below meth c H locs cells slots Q (F0 m pc ls (.int i :: .ref (sp 0) :: r))) : W p l e R s m args below meth c H locs cells slots Q (F0 m pc ls str) := by
  unfold zialoadX at hs
  split at hs
  · next i r =>
    obtain ⟨I1, I2, I3⟩ := I
    split at hs
    · cases hs
    · next hi =>
      split at hs
      · next x hx =>
        obtain ⟨_, _, rfl, hv, _, _, rfl, ⟨-, rfl⟩, hr⟩ := I2
        cases (show _ = Value.int _ from hv)
        obtain ⟨ws, w1, w2, w3, -⟩ := id I3
        refine rowX i _ w3 (z_in hi (List.getElem?_eq_some_iff.mp hx).1) ?_
        rw [List.getD_eq_getElem?_getD, hx]
        exact zgo_kk hs kk I1 ⟨_, _, rfl, rfl, hr⟩ I3
      · cases hs
  · exact z_ald (Or.inl rfl) hs I kk row
/-- a new object of a class -/
theorem z_new {y c9 idx : Nat} (hX : zX xs sp ty D A y p R s m args meth c) (hc9 : c9 < 11) (hl : zCok (zmo y, idx, c9)) (hdg : decode (zmb y) pc = .ok (.new idx, 3)) (hnx : nx = pc + 3) (hs : znew zcf c9 nx L st h = some (.inl (pc', L', st', h', dc, ds))) (I : zR sp ty D A s.heap nL ads L st h ls str H locs)
    (hcl : cells + dc ≤ R.cells) (hsl : slots + ds ≤ R.slots) (kk : zKK p l e R s m args below meth c cells slots Q sp ty D A s.heap nL ads pc' L' st' h' dc ds) : W p l e R s m args below meth c H locs cells slots Q (F0 m pc ls str) := by
  obtain ⟨hx, hb, hml, hret, hlk, hown, hnm, hts, hK, hA, hSP, -⟩ := hX
  obtain ⟨I1, I2, ws, w1, w2, w3, w4, w5, w6⟩ := I
  obtain ⟨l1, l2, l3⟩ := hl
  obtain ⟨o1, o2, o3, o4, o5, o6⟩ := zc_ok c9 hc9
  cases (show some (Sum.inl (nx, L, Value.ref h.length :: st, h ++ [(c9, (zcf c9).map (fun q => zdf q.2))], 1, (zcf c9).length)) = some (Sum.inl (pc', L', st', h', dc, ds)) from hs)
  subst hnx
  refine va_new (D := D) (ci := c9) (fs := (zcf c9).map (fun q => zdf q.2)) (C := zcn c9) (T := zT c9) (N := (zcf c9).length) hx hb hts o1 (zty c9) o3 hown (hts _ l1) (hts _ l2) (hts _ l3) hK w1 w2 w3 hA o6 (fun j hj => ?_) hcl hsl hdg (fun q H1 g1 g2 g3 => ?_)
  · rw [o5 j hj]
    unfold vp_V
    simp only [List.getD_eq_getElem?_getD, List.getElem?_map, List.getElem?_eq_getElem hj]
    rfl
  · refine kk [q] ls (.ref q :: str) H1 locs ⟨zLR_mono _ I1, ⟨_, _, rfl, ⟨q, ?_, rfl⟩, zS_mono _ I2⟩, z_Wapp (wn := [(q, .inr (c9, (zcf c9).map (fun q => zdf q.2)))]) w4 w5 w6 rfl (fun k c q h1 h2 => ?_) g1 g2 g3⟩
    · have : ads.length = h.length := by rw [← w4, List.length_map, w5]
      rw [← this, List.getElem?_append_right (Nat.le_refl _), Nat.sub_self]
      rfl
    · cases k with
      | zero =>
        cases h1; cases h2
        exact Or.inl ⟨by dsimp only; omega, _, rfl, zdfs _ _ _⟩
      | succ k => simp at h1
/-- a new row of numbers -/
theorem z_newa {y : Nat} {at9 : ArrayType} (hX : zX xs sp ty D A y p R s m args meth c) (hdg : decode (zmb y) pc = .ok (.newarray at9, 2)) (hnx : nx = pc + 2) (hs : znewa (ztag at9) (.int 0) nx L st h = some (.inl (pc', L', st', h', dc, ds))) (I : zR sp ty D A s.heap nL ads L st h ls str H locs)
    (hcl : cells + dc ≤ R.cells) (hsl : slots + ds ≤ R.slots) (kk : zKK p l e R s m args below meth c cells slots Q sp ty D A s.heap nL ads pc' L' st' h' dc ds) : W p l e R s m args below meth c H locs cells slots Q (F0 m pc ls str) := by
  obtain ⟨hx, hb, hml, hret, hlk, hown, hnm, hts, hK, hA, hSP, -⟩ := hX
  obtain ⟨I1, I2, ws, w1, w2, w3, w4, w5, w6⟩ := I
  unfold znewa at hs
  split at hs
  · next n r =>
    split at hs
    · cases hs
    · next hn =>
      split at hs
      · next hN =>
        split at hs
        · cases hs
        · next ht =>
          obtain ⟨_, r9, rfl, hv, hr⟩ := I2
          cases (show _ = Value.int _ from hv)
          cases hs
          subst hnx
          have key : ∀ (t9 : FieldType) (t0 : Nat), newarray.typeOf at9 = t9 → ztag at9 = 100 + t0 → t0 ≤ 2 → (ztys ty)[t0]? = some (ty t0, t9) → defaultValue t9 = .int 0 → componentBytes t9 ≤ 4 → (Jvm.Cond.arrayClass t9) ∈ zB → s.vm.findClass ("[" ++ t9.toString) = some (ty t0) → W p l e R s m args below meth c H locs cells slots Q (F0 m pc ls (.int n :: r9)) := by
            intro t9 t0 e1 e2 e3 e4 e5 e6 e7 e8
            refine va_newaK hx hb (by rw [e1]; exact hts _ e7) (g := F0 m pc ls (.int n :: r9)) rfl hdg rfl hn rfl (by rw [e1]; exact Nat.le_trans (Nat.mul_le_mul hN e6) (by decide)) hcl hsl rfl fun H1 cA f1 z1 o1 hAr hNm => ?_
            rw [e1] at f1 hAr hNm
            have hcA : cA = ty t0 := Option.some.inj (hNm.symm.trans e8)
            subst hcA
            have hk : ∀ (k : Nat) (x : Nat × va_E), ws[k]? = some x → H1[x.1]? = H[x.1]? := fun k x hx => o1 x.1 ((w1 k x hx).lt)
            rw [e2] at kk
            refine kk [H.size] ls (.ref H.size :: r9) H1 locs ⟨zLR_mono _ I1, ⟨_, _, rfl, ⟨H.size, ?_, rfl⟩, zS_mono _ hr⟩, z_Wapp (wn := [(H.size, .inl (ty t0, n.toNatClampNeg, .inl (fun _ => 0)))]) w4 w5 w6 rfl (fun k c q h1 h2 => ?_) ((w1.kept hk).app (fun k x hx => ?_)) (w2.push w1 rfl (hA _ w3.1)) ⟨Nat.le_trans w3.1 (by omega), fun x h1 h2 => (o1 x (Nat.lt_of_lt_of_le h1 w3.1)).trans (w3.2.1 x h1 h2), w3.2.2⟩⟩
            · have : ads.length = h.length := by rw [← w4, List.length_map, w5]
              rw [← this, List.getElem?_append_right (Nat.le_refl _), Nat.sub_self]
              rfl
            · cases k with
              | zero =>
                cases h1; cases h2
                refine Or.inr (Or.inl ⟨by dsimp only; omega, fun _ => 0, by simp, fun j x hj => ?_⟩)
                exact (List.eq_of_mem_replicate (List.mem_of_getElem? hj))
              | succ k => simp at h1
            · have hz : k < 1 := (List.getElem?_eq_some_iff.mp hx).1
              rw [show k = 0 by omega] at hx
              cases hx
              show H1[H.size]? = some (vp_cell _ _)
              rw [vp_cell_i, f1, e5]
          have hk2 := hK.2
          cases at9 <;> first
            | exact key .int 0 rfl rfl (by decide) rfl rfl (by decide) zAi ((hk2 0 _ rfl).2)
            | exact key .boolean 1 rfl rfl (by decide) rfl rfl (by decide) zAz ((hk2 1 _ rfl).2)
            | exact key .byte 2 rfl rfl (by decide) rfl rfl (by decide) zAb ((hk2 2 _ rfl).2)
            | exact absurd rfl ht
      · cases hs
  · cases hs
end ZZ
end
section
/-! The throws, the handlers, and each method's rows. -/
def zEn (E : Nat) : String := ["java/lang/IllegalArgumentException", "java/lang/IndexOutOfBoundsException", "java/lang/IllegalStateException"].getD E ""
def zTn : List String := ["java/lang/RuntimeException", "java/lang/Exception"]
theorem zTn_fit : ∀ n ∈ zTn, Bundle.fit n = true := by decide +kernel
def zTok (q : Nat × Nat × Nat × Nat) : Prop := ∃ (is9 ic : Nat) (tx : String), Jvm.Cond.classLink (zon (zmo q.1)) q.2.2.1 (zEn q.2.2.2) ∈ zB ∧ Jvm.Cond.initialized (zEn q.2.2.2) ∈ zB ∧ (zon (zmo q.1), is9, tx) ∈ zTX ∧ (∀ w ∈ vx_atS (zon (zmo q.1)) ic (zEn q.2.2.2) zTn, w ∈ zB ∨ w ∈ zN2) ∧ decode (zmb q.1) (q.2.1 + 3) = .ok (.dup, 1) ∧
  ((decode (zmb q.1) (q.2.1 + 4) = .ok (.ldc is9, 2) ∧ decode (zmb q.1) (q.2.1 + 6) = .ok (.invokespecial ic, 3) ∧ decode (zmb q.1) (q.2.1 + 9) = .ok (.athrow, 1)) ∨ (decode (zmb q.1) (q.2.1 + 4) = .ok (.ldc_w is9, 3) ∧ decode (zmb q.1) (q.2.1 + 7) = .ok (.invokespecial ic, 3) ∧ decode (zmb q.1) (q.2.1 + 10) = .ok (.athrow, 1))) ∧ Bundle.fit (zEn q.2.2.2) = true
theorem zat_in {l : List Jvm.Cond} (h : l.all (fun w => zN2.contains w || (lw_tbl.contains w && goodWord w)) = true) : ∀ w ∈ l, w ∈ zB ∨ w ∈ zN2 := by
  intro w hw
  have h1 := List.all_eq_true.mp h w hw
  rw [Bool.or_eq_true, Bool.and_eq_true] at h1
  rcases h1 with h1 | h1
  · exact Or.inr (List.contains_iff_mem.mp h1)
  · exact Or.inl (List.mem_filter.mpr ⟨List.contains_iff_mem.mp h1.1, h1.2⟩)
theorem zTw_66 : ∀ w ∈ vx_atS "Scrubward" 66 (zEn 0) zTn, w ∈ zB ∨ w ∈ zN2 := zat_in (by decide +kernel)
theorem zTw_162 : ∀ w ∈ vx_atS "Scrubward" 162 (zEn 2) zTn, w ∈ zB ∨ w ∈ zN2 := zat_in (by decide +kernel)
theorem zTw_235 : ∀ w ∈ vx_atS "Scrubward" 235 (zEn 1) zTn, w ∈ zB ∨ w ∈ zN2 := zat_in (by decide +kernel)
theorem zTs_0 : zTok (53, 11, 62, 0) := ⟨64, 66, "K is not 4 to 10", zb 411 (by decide +kernel) (by decide +kernel), zb 94 (by decide +kernel) (by decide +kernel), by decide +kernel, zTw_66, by decide +kernel, Or.inl ⟨by decide +kernel, by decide +kernel, by decide +kernel⟩, by decide +kernel⟩
theorem zTs_1 : zTok (53, 32, 62, 0) := ⟨69, 66, "R is not 4 to 6", zb 411 (by decide +kernel) (by decide +kernel), zb 94 (by decide +kernel) (by decide +kernel), by decide +kernel, zTw_66, by decide +kernel, Or.inl ⟨by decide +kernel, by decide +kernel, by decide +kernel⟩, by decide +kernel⟩
theorem zTs_2 : zTok (53, 50, 62, 0) := ⟨75, 66, "there are not K columns of data bits", zb 411 (by decide +kernel) (by decide +kernel), zb 94 (by decide +kernel) (by decide +kernel), by decide +kernel, zTw_66, by decide +kernel, Or.inl ⟨by decide +kernel, by decide +kernel, by decide +kernel⟩, by decide +kernel⟩
theorem zTs_3 : zTok (56, 20, 62, 0) := ⟨135, 66, "bits is not a set of bits of a word", zb 411 (by decide +kernel) (by decide +kernel), zb 94 (by decide +kernel) (by decide +kernel), by decide +kernel, zTw_66, by decide +kernel, Or.inl ⟨by decide +kernel, by decide +kernel, by decide +kernel⟩, by decide +kernel⟩
theorem zTs_4 : zTok (57, 15, 62, 0) := ⟨146, 66, "there is no such bit", zb 411 (by decide +kernel) (by decide +kernel), zb 94 (by decide +kernel) (by decide +kernel), by decide +kernel, zTw_66, by decide +kernel, Or.inl ⟨by decide +kernel, by decide +kernel, by decide +kernel⟩, by decide +kernel⟩
theorem zTs_5 : zTok (57, 38, 158, 2) := ⟨160, 162, "there are 24 stuck cells", zb 739 (by decide +kernel) (by decide +kernel), zb 102 (by decide +kernel) (by decide +kernel), by decide +kernel, zTw_162, by decide +kernel, Or.inl ⟨by decide +kernel, by decide +kernel, by decide +kernel⟩, by decide +kernel⟩
theorem zTs_6 : zTok (58, 15, 62, 0) := ⟨146, 66, "there is no such bit", zb 411 (by decide +kernel) (by decide +kernel), zb 94 (by decide +kernel) (by decide +kernel), by decide +kernel, zTw_66, by decide +kernel, Or.inl ⟨by decide +kernel, by decide +kernel, by decide +kernel⟩, by decide +kernel⟩
theorem zTs_7 : zTok (58, 36, 62, 0) := ⟨170, 66, "span is not 1 to 60", zb 411 (by decide +kernel) (by decide +kernel), zb 94 (by decide +kernel) (by decide +kernel), by decide +kernel, zTw_66, by decide +kernel, Or.inl ⟨by decide +kernel, by decide +kernel, by decide +kernel⟩, by decide +kernel⟩
theorem zTs_8 : zTok (58, 59, 158, 2) := ⟨175, 162, "there are 24 weak cells", zb 739 (by decide +kernel) (by decide +kernel), zb 102 (by decide +kernel) (by decide +kernel), by decide +kernel, zTw_162, by decide +kernel, Or.inl ⟨by decide +kernel, by decide +kernel, by decide +kernel⟩, by decide +kernel⟩
theorem zTs_9 : zTok (59, 16, 62, 0) := ⟨180, 66, "times is not 1 to 100", zb 411 (by decide +kernel) (by decide +kernel), zb 94 (by decide +kernel) (by decide +kernel), by decide +kernel, zTw_66, by decide +kernel, Or.inl ⟨by decide +kernel, by decide +kernel, by decide +kernel⟩, by decide +kernel⟩
theorem zTs_10 : zTok (60, 11, 62, 0) := ⟨192, 66, "period is not 1 to 100", zb 411 (by decide +kernel) (by decide +kernel), zb 94 (by decide +kernel) (by decide +kernel), by decide +kernel, zTw_66, by decide +kernel, Or.inl ⟨by decide +kernel, by decide +kernel, by decide +kernel⟩, by decide +kernel⟩
theorem zTs_11 : zTok (60, 32, 62, 0) := ⟨194, 66, "limit is not 2 to 100", zb 411 (by decide +kernel) (by decide +kernel), zb 94 (by decide +kernel) (by decide +kernel), by decide +kernel, zTw_66, by decide +kernel, Or.inl ⟨by decide +kernel, by decide +kernel, by decide +kernel⟩, by decide +kernel⟩
theorem zTs_12 : zTok (60, 52, 62, 0) := ⟨196, 66, "steps is not 0 to 8", zb 411 (by decide +kernel) (by decide +kernel), zb 94 (by decide +kernel) (by decide +kernel), by decide +kernel, zTw_66, by decide +kernel, Or.inl ⟨by decide +kernel, by decide +kernel, by decide +kernel⟩, by decide +kernel⟩
theorem zTs_13 : zTok (61, 19, 158, 2) := ⟨207, 162, "both spares of the bank are used", zb 739 (by decide +kernel) (by decide +kernel), zb 102 (by decide +kernel) (by decide +kernel), by decide +kernel, zTw_162, by decide +kernel, Or.inl ⟨by decide +kernel, by decide +kernel, by decide +kernel⟩, by decide +kernel⟩
theorem zTs_14 : zTok (63, 19, 158, 2) := ⟨221, 162, "the tick would be above 2000", zb 739 (by decide +kernel) (by decide +kernel), zb 102 (by decide +kernel) (by decide +kernel), by decide +kernel, zTw_162, by decide +kernel, Or.inl ⟨by decide +kernel, by decide +kernel, by decide +kernel⟩, by decide +kernel⟩
theorem zTs_15 : zTok (66, 11, 233, 1) := ⟨146, 235, "there is no such bit", zb 491 (by decide +kernel) (by decide +kernel), zb 101 (by decide +kernel) (by decide +kernel), by decide +kernel, zTw_235, by decide +kernel, Or.inl ⟨by decide +kernel, by decide +kernel, by decide +kernel⟩, by decide +kernel⟩
theorem zTs_16 : zTok (68, 15, 62, 0) := ⟨242, 66, "there is no such word", zb 411 (by decide +kernel) (by decide +kernel), zb 94 (by decide +kernel) (by decide +kernel), by decide +kernel, zTw_66, by decide +kernel, Or.inl ⟨by decide +kernel, by decide +kernel, by decide +kernel⟩, by decide +kernel⟩
theorem zTs_17 : zTok (68, 95, 62, 0) := ⟨259, 66, "what is not 0 to 3", zb 411 (by decide +kernel) (by decide +kernel), zb 94 (by decide +kernel) (by decide +kernel), by decide +kernel, zTw_66, by decide +kernel, Or.inr ⟨by decide +kernel, by decide +kernel, by decide +kernel⟩, by decide +kernel⟩
theorem zTs_18 : zTok (69, 10, 62, 0) := ⟨261, 66, "many is not 2 or 3", zb 411 (by decide +kernel) (by decide +kernel), zb 94 (by decide +kernel) (by decide +kernel), by decide +kernel, zTw_66, by decide +kernel, Or.inr ⟨by decide +kernel, by decide +kernel, by decide +kernel⟩, by decide +kernel⟩
theorem zTs_19 : zTok (70, 131, 62, 0) := ⟨269, 66, "what is not 0 to 6", zb 411 (by decide +kernel) (by decide +kernel), zb 94 (by decide +kernel) (by decide +kernel), by decide +kernel, zTw_66, by decide +kernel, Or.inr ⟨by decide +kernel, by decide +kernel, by decide +kernel⟩, by decide +kernel⟩
theorem zTs_20 : zTok (71, 14, 233, 1) := ⟨274, 235, "there is no such line", zb 491 (by decide +kernel) (by decide +kernel), zb 101 (by decide +kernel) (by decide +kernel), by decide +kernel, zTw_235, by decide +kernel, Or.inr ⟨by decide +kernel, by decide +kernel, by decide +kernel⟩, by decide +kernel⟩
theorem zTs_21 : zTok (71, 123, 62, 0) := ⟨288, 66, "what is not 0 to 4", zb 411 (by decide +kernel) (by decide +kernel), zb 94 (by decide +kernel) (by decide +kernel), by decide +kernel, zTw_66, by decide +kernel, Or.inr ⟨by decide +kernel, by decide +kernel, by decide +kernel⟩, by decide +kernel⟩
theorem zTs_22 : zTok (72, 15, 233, 1) := ⟨290, 235, "there is no such entry", zb 491 (by decide +kernel) (by decide +kernel), zb 101 (by decide +kernel) (by decide +kernel), by decide +kernel, zTw_235, by decide +kernel, Or.inr ⟨by decide +kernel, by decide +kernel, by decide +kernel⟩, by decide +kernel⟩
theorem zTs_23 : zTok (72, 88, 62, 0) := ⟨301, 66, "what is not 0 to 2", zb 411 (by decide +kernel) (by decide +kernel), zb 94 (by decide +kernel) (by decide +kernel), by decide +kernel, zTw_66, by decide +kernel, Or.inr ⟨by decide +kernel, by decide +kernel, by decide +kernel⟩, by decide +kernel⟩
theorem zTs_24 : zTok (74, 239, 62, 0) := ⟨324, 66, "what is not 0 to 17", zb 411 (by decide +kernel) (by decide +kernel), zb 94 (by decide +kernel) (by decide +kernel), by decide +kernel, zTw_66, by decide +kernel, Or.inr ⟨by decide +kernel, by decide +kernel, by decide +kernel⟩, by decide +kernel⟩
theorem zTs_25 : zTok (82, 11, 233, 1) := ⟨391, 235, "there is no such address", zb 491 (by decide +kernel) (by decide +kernel), zb 101 (by decide +kernel) (by decide +kernel), by decide +kernel, zTw_235, by decide +kernel, Or.inr ⟨by decide +kernel, by decide +kernel, by decide +kernel⟩, by decide +kernel⟩
theorem zTs_26 : zTok (83, 9, 233, 1) := ⟨393, 235, "there is no such bank", zb 491 (by decide +kernel) (by decide +kernel), zb 101 (by decide +kernel) (by decide +kernel), by decide +kernel, zTw_235, by decide +kernel, Or.inr ⟨by decide +kernel, by decide +kernel, by decide +kernel⟩, by decide +kernel⟩
theorem zTs_27 : zTok (84, 14, 233, 1) := ⟨395, 235, "there is no such row", zb 491 (by decide +kernel) (by decide +kernel), zb 101 (by decide +kernel) (by decide +kernel), by decide +kernel, zTw_235, by decide +kernel, Or.inr ⟨by decide +kernel, by decide +kernel, by decide +kernel⟩, by decide +kernel⟩
theorem zTs_28 : zTok (85, 11, 62, 0) := ⟨397, 66, "ticks is not 1 to 100", zb 411 (by decide +kernel) (by decide +kernel), zb 94 (by decide +kernel) (by decide +kernel), by decide +kernel, zTw_66, by decide +kernel, Or.inr ⟨by decide +kernel, by decide +kernel, by decide +kernel⟩, by decide +kernel⟩
theorem zTs_29 : zTok (86, 15, 62, 0) := ⟨402, 66, "data does not fit into the data bits", zb 411 (by decide +kernel) (by decide +kernel), zb 94 (by decide +kernel) (by decide +kernel), by decide +kernel, zTw_66, by decide +kernel, Or.inr ⟨by decide +kernel, by decide +kernel, by decide +kernel⟩, by decide +kernel⟩
theorem zTs_30 : zTok (87, 8, 158, 2) := ⟨404, 162, "the word is retired", zb 739 (by decide +kernel) (by decide +kernel), zb 102 (by decide +kernel) (by decide +kernel), by decide +kernel, zTw_162, by decide +kernel, Or.inr ⟨by decide +kernel, by decide +kernel, by decide +kernel⟩, by decide +kernel⟩
def zTL : List (Nat × Nat × Nat × Nat) := [(53, 11, 62, 0), (53, 32, 62, 0), (53, 50, 62, 0), (56, 20, 62, 0), (57, 15, 62, 0), (57, 38, 158, 2), (58, 15, 62, 0), (58, 36, 62, 0), (58, 59, 158, 2), (59, 16, 62, 0), (60, 11, 62, 0), (60, 32, 62, 0), (60, 52, 62, 0), (61, 19, 158, 2), (63, 19, 158, 2), (66, 11, 233, 1), (68, 15, 62, 0), (68, 95, 62, 0), (69, 10, 62, 0), (70, 131, 62, 0), (71, 14, 233, 1), (71, 123, 62, 0), (72, 15, 233, 1), (72, 88, 62, 0), (74, 239, 62, 0), (82, 11, 233, 1), (83, 9, 233, 1), (84, 14, 233, 1), (85, 11, 62, 0), (86, 15, 62, 0), (87, 8, 158, 2)]
theorem zTL_ok : ∀ q ∈ zTL, zTok q := List.forall_mem_cons.mpr ⟨zTs_0, List.forall_mem_cons.mpr ⟨zTs_1, List.forall_mem_cons.mpr ⟨zTs_2, List.forall_mem_cons.mpr ⟨zTs_3, List.forall_mem_cons.mpr ⟨zTs_4, List.forall_mem_cons.mpr ⟨zTs_5, List.forall_mem_cons.mpr ⟨zTs_6, List.forall_mem_cons.mpr ⟨zTs_7, List.forall_mem_cons.mpr ⟨zTs_8, List.forall_mem_cons.mpr ⟨zTs_9, List.forall_mem_cons.mpr ⟨zTs_10, List.forall_mem_cons.mpr ⟨zTs_11, List.forall_mem_cons.mpr ⟨zTs_12, List.forall_mem_cons.mpr ⟨zTs_13, List.forall_mem_cons.mpr ⟨zTs_14, List.forall_mem_cons.mpr ⟨zTs_15, List.forall_mem_cons.mpr ⟨zTs_16, List.forall_mem_cons.mpr ⟨zTs_17, List.forall_mem_cons.mpr ⟨zTs_18, List.forall_mem_cons.mpr ⟨zTs_19, List.forall_mem_cons.mpr ⟨zTs_20, List.forall_mem_cons.mpr ⟨zTs_21, List.forall_mem_cons.mpr ⟨zTs_22, List.forall_mem_cons.mpr ⟨zTs_23, List.forall_mem_cons.mpr ⟨zTs_24, List.forall_mem_cons.mpr ⟨zTs_25, List.forall_mem_cons.mpr ⟨zTs_26, List.forall_mem_cons.mpr ⟨zTs_27, List.forall_mem_cons.mpr ⟨zTs_28, List.forall_mem_cons.mpr ⟨zTs_29, List.forall_mem_cons.mpr ⟨zTs_30, fun _ h => absurd h List.not_mem_nil⟩⟩⟩⟩⟩⟩⟩⟩⟩⟩⟩⟩⟩⟩⟩⟩⟩⟩⟩⟩⟩⟩⟩⟩⟩⟩⟩⟩⟩⟩⟩
def zhe (ct : Nat) : Nat := if ct = 19 then 0 else if ct = 24 then 1 else if ct = 26 then 2 else 99
theorem zhe_ok {ct E : Nat} (h : zhe ct = E) (hE : E < 3) : ct ≠ 0 ∧ Jvm.Cond.classLink "ScrubwardLaw" ct (zEn E) ∈ zB := by
  unfold zhe at h
  by_cases h0 : ct = 19
  · subst h0
    rw [if_pos rfl] at h
    subst h
    exact ⟨by decide, zb 705 (by decide +kernel) (by decide +kernel)⟩
  by_cases h1 : ct = 24
  · subst h1
    rw [if_neg (by decide), if_pos rfl] at h
    subst h
    exact ⟨by decide, zb 723 (by decide +kernel) (by decide +kernel)⟩
  by_cases h2 : ct = 26
  · subst h2
    rw [if_neg (by decide), if_neg (by decide), if_pos rfl] at h
    subst h
    exact ⟨by decide, zb 724 (by decide +kernel) (by decide +kernel)⟩
  rw [if_neg h0, if_neg h1, if_neg h2] at h
  omega
theorem zOi1 : Jvm.Cond.instanceMethod Lib.objectInit ∈ zB := zb 114 (by decide +kernel) (by decide +kernel)
theorem zOi2 : Jvm.Cond.code Lib.objectInit ⟨#[0xb1]⟩ 1 none ∈ zB := zb 115 (by decide +kernel) (by decide +kernel)
end
section
/-! One step, whatever the instruction: the rows' check, and the lemma. -/
def zlen (i : Instr) : Nat := match i with
  | .iload _ | .lload _ | .dload _ | .aload _ | .istore _ | .lstore _ | .dstore _ | .astore _ | .bipush _ | .ldc _ | .newarray _ => 2
  | .iinc _ _ | .sipush _ | .ldc_w _ | .ldc2_w _ | .ifCond _ _ | .if_icmp _ _ | .goto _ | .getfield _ | .putfield _ | .getstatic _ | .new _ | .anewarray _ | .checkcast _ | .invokestatic _ | .invokevirtual _ | .invokespecial _ | .if_acmp _ _ | .ifnonnull _ => 3
  | .multianewarray _ _ => 4
  | .invokeinterface _ _ => 5
  | .tableswitch _ _ _ _ | .lookupswitch _ _ => 0
  | _ => 1
def zlk (y : Nat) (i : Instr) (pc k yy n c : Nat) : Bool := match i with
  | .ifCond _ off => decide ((pc : Int) + off = (k : Int))
  | .if_icmp _ off => decide ((pc : Int) + off = (k : Int))
  | .goto off => decide ((pc : Int) + off = (k : Int))
  | .ldc j => decide (k ≠ 0) || decide ((zmo y, j, 5, yy) ∈ zKL)
  | .ldc_w j => decide ((zmo y, j, 5, yy) ∈ zKL)
  | .ldc2_w j => decide ((zmo y, j, k, yy) ∈ zKL)
  | .baload => decide (k = 101 ∨ k = 102)
  | .lookupswitch _ ps => (ps.toList.zip (ps.toList.drop 1)).all (fun (a, next) => decide (a.1 < next.1))
  | .getfield j => decide ((zmo y, j, yy) ∈ zFL)
  | .putfield j => decide ((zmo y, j, yy) ∈ zFL) && (decide ((zFT yy).2.2.2 = false) || (decide ((zmn y).name = "<init>") && decide ((zFT yy).1 = zon (zmo y))))
  | .new j => (decide (k = 9) && decide ((y, pc, j, yy) ∈ zTL) && decide (zmh y = [])) || (decide (k ≠ 9) && decide ((zmo y, j, c) ∈ zCL) && decide (c < 11))
  | .invokestatic j => if k = 12 ∨ k = 13 then decide ((zmo y, j, k) ∈ zXL) else decide (k = 10) || (decide ((zmo y, j, yy) ∈ zSL) && decide (yy < 246) && decide (yy ≠ zlaw) && decide (zmp yy = n))
  | .invokevirtual j => decide ((zmo y, j, yy, c) ∈ zVL) && decide (yy < 246) && decide (yy ≠ zlaw) && decide (zmp yy = n) && decide (c < 11) && decide (zmh yy = [])
  | .invokespecial j => if k = 8 then decide ((zmo y, j) ∈ zOL) else decide ((zmo y, j, yy) ∈ zIL) && decide (yy < 246) && decide (yy ≠ zlaw) && decide (zmp yy = n) && decide (zmh yy = []) && decide (zmr yy = none)
  | .ireturn => decide (k = 0 ∧ zmr y = some .int) || decide (k = 1 ∧ zmr y = some .boolean) || decide (k = 2 ∧ zmr y = some .char)
  | .lreturn => decide (zmr y = some .long)
  | .dreturn => decide (zmr y = some .double)
  | .areturn => (match zmr y with
    | some (.object _) => true
    | some (.array _) => true
    | _ => false)
  | .return_ => decide (zmr y = none)
  | _ => true
def zrok (y : Nat) (r : zRow) : Bool := match decode (zmb y) r.1 with
  | .ok (i, len) => decide (i = r.2.1) && decide (r.2.2.1 = r.1 + len) && (decide (zlen i = len) || decide (zlen i = 0)) && zlk y i r.1 r.2.2.2.1 r.2.2.2.2.1 r.2.2.2.2.2.1 r.2.2.2.2.2.2
  | .error _ => false
theorem zrok_ok {y pc nx k yy n c : Nat} {i : Instr} (h : zrok y (pc, i, nx, k, yy, n, c) = true) : ∃ len, decode (zmb y) pc = .ok (i, len) ∧ nx = pc + len ∧ (zlen i = len ∨ zlen i = 0) ∧ zlk y i pc k yy n c = true := by
  unfold zrok at h
  dsimp only at h
  split at h
  · next i' len he =>
    simp only [Bool.and_eq_true, Bool.or_eq_true, decide_eq_true_eq] at h
    obtain ⟨⟨⟨rfl, h2⟩, h3⟩, h4⟩ := h
    exact ⟨len, he, h2, h3, h4⟩
  · cases h
theorem zrok1 {y pc nx k yy n c : Nat} {i : Instr} (h : zrok y (pc, i, nx, k, yy, n, c) = true) (hz : zlen i ≠ 0) : decode (zmb y) pc = .ok (i, zlen i) ∧ nx = pc + zlen i ∧ zlk y i pc k yy n c = true := by
  obtain ⟨len, h1, h2, h3, h4⟩ := zrok_ok h
  have e : zlen i = len := h3.resolve_right hz
  rw [e]
  exact ⟨h1, h2, h4⟩
section ZY
variable {p : Program} {l : Launch} {e : Env} {R : Room} {s : State} {m : MethodId} {args : Array Value} {below : List Frame} {meth : Method} {c : Code} {H : Heap} {locs : List Loc} {cells slots : Nat} {Q : State → Prop}
variable {xs : List Int32} {sp : Nat → Nat} {ty : Nat → ClassId} {D : va_G} {A : Nat → Prop} {ads : List Nat}
variable {y pc nx k yy n c9 pc' dc ds : Nat} {L L' : zL} {st st' str : List Value} {h h' : zH} {ls : Array Slot}
theorem z_fget {idx f ci kd k : Nat} (hX : zX xs sp ty D A y p R s m args meth c) (hl : zFok (zmo y, idx, f)) (hdg : decode (zmb y) pc = .ok (.getfield idx, 3)) {ws : va_W} {j a : Nat} {vs : List Value} {v : Value} {r : List Value} (w1 : va_P D zcl ws H) (hj : ws[j]? = some (a, .inr (ci, vs))) (hf : (zcf ci)[k]? = some (f, kd)) (hv : vs[k]? = some v)
    (kk : W p l e R s m args below meth c H locs cells slots Q (F0 m (pc + 3) ls (v :: r))) : W p l e R s m args below meth c H locs cells slots Q (F0 m pc ls (.ref a :: r)) := by
  obtain ⟨hx, hb, hml, hret, hlk, hown, hnm, hts, hK, hA, hSP, -⟩ := hX
  have hci : ci < 11 := by
    by_cases q : ci < 11
    · exact q
    · rw [zcf_out (by omega)] at hf
      cases hf
  obtain ⟨o1, o2, o3, o4, o5, o6⟩ := zc_ok ci hci
  have hk : k < (zcf ci).length := (List.getElem?_eq_some_iff.mp hf).1
  have hT : zT ci k = zFT f := by
    unfold zT
    rw [List.getD_eq_getElem?_getD, hf]
    rfl
  unfold zFok at hl
  rw [← hT] at hl
  rcases hl with ⟨ref, q1, q2⟩ | ⟨host, q1, q3⟩
  · exact va_get (D := D) (ci := ci) hx hb hts o1 hown hK w1 j hj o6 k hk (hts _ q1) (fun x h9 => by
      rcases q2 with rfl | q2
      · exact h9
      · exact u_same (hts _ q2) x h9) hv hdg kk
  · exact va_getN (D := D) (ci := ci) hx hb hts o1 hown hK w1 j hj o6 k hk (va_Nw.use rfl (hSP.1 _ q1)) (fun x h9 => h9) hv hdg kk
theorem z_fput {idx f ci kd k : Nat} (hX : zX xs sp ty D A y p R s m args meth c) (hl : zFok (zmo y, idx, f)) (hfin : (zFT f).2.2.2 = false ∨ ((zmn y).name = "<init>" ∧ (zFT f).1 = zon (zmo y))) (hdg : decode (zmb y) pc = .ok (.putfield idx, 3)) {ws : va_W} {j a : Nat} {vs : List Value} {v : Value} {r : List Value} (w1 : va_P D zcl ws H) (w2 : va_D A ws) (w3 : va_S A s.heap H locs) (hj : ws[j]? = some (a, .inr (ci, vs))) (hf : (zcf ci)[k]? = some (f, kd)) (hv : ∀ t9, zkt kd t9 → narrow t9 v = v ∧ fits t9 v = true) (hkl : k < vs.length)
    (kk : ∀ (H1 : Heap) (locs1 : List Loc), va_P D zcl (ws.set j (a, .inr (ci, vs.set k v))) H1 → va_D A (ws.set j (a, .inr (ci, vs.set k v))) → va_S A s.heap H1 locs1 → W p l e R s m args below meth c H1 locs1 cells slots Q (F0 m (pc + 3) ls r)) : W p l e R s m args below meth c H locs cells slots Q (F0 m pc ls (v :: .ref a :: r)) := by
  obtain ⟨hx, hb, hml, hret, hlk, hown, hnm, hts, hK, hA, hSP, -⟩ := hX
  have hci : ci < 11 := by
    by_cases q : ci < 11
    · exact q
    · rw [zcf_out (by omega)] at hf
      cases hf
  obtain ⟨o1, o2, o3, o4, o5, o6⟩ := zc_ok ci hci
  have hk : k < (zcf ci).length := (List.getElem?_eq_some_iff.mp hf).1
  have hT : zT ci k = zFT f := by
    unfold zT
    rw [List.getD_eq_getElem?_getD, hf]
    rfl
  have hkt : zkt kd (zty ci k) := by
    have := o4 k hk
    rw [List.getD_eq_getElem?_getD, hf] at this
    exact zktb_ok this
  obtain ⟨g1, g2⟩ := hv _ hkt
  unfold zFok at hl
  rw [← hT] at hl hfin
  rcases hfin with hfin | ⟨hfn, hfd⟩
  · rcases hl with ⟨ref, q1, q2⟩ | ⟨host, q1, q3⟩
    · exact va_put (D := D) (ci := ci) hx hb hts o1 (zty ci) o3 o2 hown hK w1 w2 w3 j hj o6 k hk (hts _ q1) (fun x h9 => by
        rcases q2 with rfl | q2
        · exact h9
        · exact u_same (hts _ q2) x h9) hfin (o3 k hk) g1 g2 hkl hdg kk
    · exact va_putN (D := D) (ci := ci) hx hb hts o1 (zty ci) o3 o2 hown hK w1 w2 w3 j hj o6 k hk (va_Nw.use rfl (hSP.1 _ q1)) (fun x h9 => h9) hfin (o3 k hk) g1 g2 hkl hdg kk
  · by_cases hff : (zT ci k).2.2.2 = true
    · rcases hl with ⟨ref, q1, q2⟩ | ⟨host, q1, q3⟩
      · exact va_putF (D := D) (ci := ci) hx hb hts o1 (zty ci) o3 o2 hown hK w1 w2 w3 j hj o6 k hk (hts _ q1) (fun x h9 => by
          rcases q2 with rfl | q2
          · exact h9
          · exact u_same (hts _ q2) x h9) hff (by rw [hnm]; exact hfn) hfd (o3 k hk) g1 g2 hkl hdg kk
      · exact absurd hfd q3
    · have hff : (zT ci k).2.2.2 = false := by simpa using hff
      rcases hl with ⟨ref, q1, q2⟩ | ⟨host, q1, q3⟩
      · exact va_put (D := D) (ci := ci) hx hb hts o1 (zty ci) o3 o2 hown hK w1 w2 w3 j hj o6 k hk (hts _ q1) (fun x h9 => by
          rcases q2 with rfl | q2
          · exact h9
          · exact u_same (hts _ q2) x h9) hff (o3 k hk) g1 g2 hkl hdg kk
      · exact va_putN (D := D) (ci := ci) hx hb hts o1 (zty ci) o3 o2 hown hK w1 w2 w3 j hj o6 k hk (va_Nw.use rfl (hSP.1 _ q1)) (fun x h9 => h9) hff (o3 k hk) g1 g2 hkl hdg kk
theorem zcall_ne {q : Nat × zL × List Value × zH × Nat × Nat} : ¬ zcall n yy nx st = some (.inl q) := by
  intro hs
  unfold zcall at hs
  split at hs
  · split at hs <;> cases hs
  · cases hs
theorem zcallV_ne {q : Nat × zL × List Value × zH × Nat × Nat} : ¬ zcallV n c9 yy nx st h = some (.inl q) := by
  intro hs
  unfold zcallV at hs
  split at hs
  · split at hs
    · split at hs
      · split at hs
        · split at hs <;> cases hs
        · cases hs
      · cases hs
    · cases hs
  · cases hs
theorem zcallI_ne {q : Nat × zL × List Value × zH × Nat × Nat} : ¬ zcallI n yy nx st = some (.inl q) := by
  intro hs
  unfold zcallI at hs
  split at hs
  · split at hs
    · split at hs <;> cases hs
    · cases hs
  · cases hs
theorem zirt_ne {q : Nat × zL × List Value × zH × Nat × Nat} : ¬ (match st with
      | [.int v] => if k = 0 ∨ (k = 1 ∧ (v = 0 ∨ v = 1)) ∨ (k = 2 ∧ 0 ≤ v ∧ v ≤ 255) then zret (some (.int v)) else none
      | _ => none) = some (.inl q) := by
  intro hs
  split at hs
  · split at hs <;> cases hs
  · cases hs
theorem zlrt_ne {q : Nat × zL × List Value × zH × Nat × Nat} : ¬ (match st with
      | [.long v] => zret (some (.long v))
      | _ => none) = some (.inl q) := by
  intro hs
  split at hs <;> cases hs
theorem zdrt_ne {q : Nat × zL × List Value × zH × Nat × Nat} : ¬ (match st with
      | [.double v] => zret (some (.double v))
      | _ => none) = some (.inl q) := by
  intro hs
  split at hs <;> cases hs
theorem zart_ne {q : Nat × zL × List Value × zH × Nat × Nat} : ¬ (match st with
      | [.ref v] => zret (some (.ref v))
      | _ => none) = some (.inl q) := by
  intro hs
  split at hs <;> cases hs
theorem zvrt_ne {q : Nat × zL × List Value × zH × Nat × Nat} : ¬ (match st with
      | [] => zret none
      | _ => none) = some (.inl q) := by
  intro hs
  split at hs <;> cases hs
theorem z_mm (f : Int32 → Int32 → Int32) {nL : Nat} {H0 : Heap} (hs : zmm f nx L st h = some (.inl (pc', L', st', h', dc, ds))) (I : zR sp ty D A H0 nL ads L st h ls str H locs) (kk : zKK p l e R s m args below meth c cells slots Q sp ty D A H0 nL ads pc' L' st' h' dc ds)
    (row : ∀ (x y : Int32) (r : List Value), (r.map fun v => v.category).sum ≤ 8 → W p l e R s m args below meth c H locs cells slots Q (F0 m nx ls (.int (f x y) :: r)) → W p l e R s m args below meth c H locs cells slots Q (F0 m pc ls (.int y :: .int x :: r))) : W p l e R s m args below meth c H locs cells slots Q (F0 m pc ls str) := by
  obtain ⟨I1, I2, I3⟩ := I
  unfold zmm at hs
  split at hs
  · split at hs
    · next g =>
      obtain ⟨_, _, rfl, hv, _, _, rfl, hw, hr⟩ := I2
      cases (show _ = Value.int _ from hv); cases (show _ = Value.int _ from hw)
      exact row _ _ _ (by rw [zS_cs hr]; exact g) (zgo_kk hs kk I1 ⟨_, _, rfl, rfl, hr⟩ I3)
    · cases hs
  · cases hs
theorem zkl {o j kd v : Nat} (h : (o, j, kd, v) ∈ zKL) : zKok (o, j, kd, v) := zKL_ok _ h
set_option maxHeartbeats 4000000 in
theorem z_step_ok {i : Instr} (hX : zX xs sp ty D A y p R s m args meth c) (hr : zrok y (pc, i, nx, k, yy, n, c9) = true) (hs : zstep zcf xs pc i nx k yy n c9 L st h = some (.inl (pc', L', st', h', dc, ds))) (I : zR sp ty D A s.heap (zmL y) ads L st h ls str H locs)
    (hcl : cells + dc ≤ R.cells) (hsl : slots + ds ≤ R.slots) (kk : zKK p l e R s m args below meth c cells slots Q sp ty D A s.heap (zmL y) ads pc' L' st' h' dc ds) : W p l e R s m args below meth c H locs cells slots Q (F0 m pc ls str) := by
  have hX0 := hX
  obtain ⟨hx, hb, hml, hret, hlk, hown, hnm, hts, hK, hA, hSP, hRf, hRl⟩ := hX
  have hlsz : c.maxLocals = ls.size := by
    obtain ⟨-, lv, hlv, -⟩ := I.1
    rw [hml, hlv.1]
  cases i with
  | iload j =>
    obtain ⟨hd, rfl, -⟩ := zrok1 hr (Nat.succ_ne_zero _)
    exact z_ldI hs I kk (fun x g w => lv_iload hx hb hd g w)
  | iload_n j =>
    obtain ⟨hd, rfl, -⟩ := zrok1 hr (Nat.succ_ne_zero _)
    exact z_ldI hs I kk (fun x g w => lv_iload_n hx hb hd rfl g w)
  | lload j =>
    obtain ⟨hd, rfl, -⟩ := zrok1 hr (Nat.succ_ne_zero _)
    exact z_ldL hs I kk (fun x g w => lv_lload hx hb hd g w)
  | lload_n j =>
    obtain ⟨hd, rfl, -⟩ := zrok1 hr (Nat.succ_ne_zero _)
    exact z_ldL hs I kk (fun x g w => lv_lload_n hx hb hd rfl g w)
  | dload j =>
    obtain ⟨hd, rfl, -⟩ := zrok1 hr (Nat.succ_ne_zero _)
    exact z_ldD hs I kk (fun x g w => lv_dload hx hb hd g w)
  | aload j =>
    obtain ⟨hd, rfl, -⟩ := zrok1 hr (Nat.succ_ne_zero _)
    exact z_ldA hs I kk (fun x g w => lv_aload hx hb hd g w) (fun g w => lv_aloadN hx hb hd g w)
  | aload_n j =>
    obtain ⟨hd, rfl, -⟩ := zrok1 hr (Nat.succ_ne_zero _)
    exact z_ldA hs I kk (fun x g w => lv_aload_n hx hb hd rfl g w) (fun g w => lv_aload_nN hx hb hd rfl g w)
  | istore j =>
    obtain ⟨hd, rfl, -⟩ := zrok1 hr (Nat.succ_ne_zero _)
    obtain ⟨I1, I2, I3⟩ := I
    have hs : zsI L j (pc + 2) st h = _ := hs
    unfold zsI at hs
    split at hs
    · obtain ⟨_, _, rfl, hv, hr9⟩ := I2
      cases (show _ = Value.int _ from hv)
      exact z_sv1 hs hv I1 hr9 I3 kk (fun lv g1 g2 w => lv_istore hx hb hd g1 g2 rfl w)
    · cases hs
  | istore_n j =>
    obtain ⟨hd, rfl, -⟩ := zrok1 hr (Nat.succ_ne_zero _)
    obtain ⟨I1, I2, I3⟩ := I
    have hs : zsI L j (pc + 1) st h = _ := hs
    unfold zsI at hs
    split at hs
    · obtain ⟨_, _, rfl, hv, hr9⟩ := I2
      cases (show _ = Value.int _ from hv)
      exact z_sv1 hs hv I1 hr9 I3 kk (fun lv g1 g2 w => lv_istore_n hx hb hd rfl g1 g2 rfl w)
    · cases hs
  | astore j =>
    obtain ⟨hd, rfl, -⟩ := zrok1 hr (Nat.succ_ne_zero _)
    obtain ⟨I1, I2, I3⟩ := I
    have hs : zsA L j (pc + 2) st h = _ := hs
    unfold zsA at hs
    split at hs
    · obtain ⟨_, _, rfl, hv, hr9⟩ := I2
      obtain ⟨a, -, rfl⟩ := id hv
      exact z_sv1 hs hv I1 hr9 I3 kk (fun lv g1 g2 w => lv_astore hx hb hd g1 g2 rfl w)
    · obtain ⟨_, _, rfl, hv, hr9⟩ := I2
      obtain ⟨-, rfl⟩ := id hv
      exact z_sv1 hs hv I1 hr9 I3 kk (fun lv g1 g2 w => lv_astore hx hb hd g1 g2 rfl w)
    · cases hs
  | astore_n j =>
    obtain ⟨hd, rfl, -⟩ := zrok1 hr (Nat.succ_ne_zero _)
    obtain ⟨I1, I2, I3⟩ := I
    have hs : zsA L j (pc + 1) st h = _ := hs
    unfold zsA at hs
    split at hs
    · obtain ⟨_, _, rfl, hv, hr9⟩ := I2
      obtain ⟨a, -, rfl⟩ := id hv
      exact z_sv1 hs hv I1 hr9 I3 kk (fun lv g1 g2 w => lv_astore_n hx hb hd rfl g1 g2 rfl w)
    · obtain ⟨_, _, rfl, hv, hr9⟩ := I2
      obtain ⟨-, rfl⟩ := id hv
      exact z_sv1 hs hv I1 hr9 I3 kk (fun lv g1 g2 w => lv_astore_n hx hb hd rfl g1 g2 rfl w)
    · cases hs
  | lstore j =>
    obtain ⟨hd, rfl, -⟩ := zrok1 hr (Nat.succ_ne_zero _)
    obtain ⟨I1, I2, I3⟩ := I
    have hs : zsL L j (pc + 2) st h = _ := hs
    unfold zsL at hs
    split at hs
    · obtain ⟨_, _, rfl, hv, hr9⟩ := I2
      cases (show _ = Value.long _ from hv)
      exact z_sv2 hs hv I1 hr9 I3 kk (fun lv g1 g2 w => lv_lstore hx hb hd g1 g2 rfl w)
    · cases hs
  | lstore_n j =>
    obtain ⟨hd, rfl, -⟩ := zrok1 hr (Nat.succ_ne_zero _)
    obtain ⟨I1, I2, I3⟩ := I
    have hs : zsL L j (pc + 1) st h = _ := hs
    unfold zsL at hs
    split at hs
    · obtain ⟨_, _, rfl, hv, hr9⟩ := I2
      cases (show _ = Value.long _ from hv)
      exact z_sv2 hs hv I1 hr9 I3 kk (fun lv g1 g2 w => lv_lstore_n hx hb hd rfl g1 g2 rfl w)
    · cases hs
  | dstore j =>
    obtain ⟨hd, rfl, -⟩ := zrok1 hr (Nat.succ_ne_zero _)
    obtain ⟨I1, I2, I3⟩ := I
    have hs : zsD L j (pc + 2) st h = _ := hs
    unfold zsD at hs
    split at hs
    · obtain ⟨_, _, rfl, hv, hr9⟩ := I2
      cases (show _ = Value.double _ from hv)
      exact z_sv2 hs hv I1 hr9 I3 kk (fun lv g1 g2 w => lv_dstore hx hb hd g1 g2 rfl w)
    · cases hs
  | iinc j z =>
    obtain ⟨hd, rfl, -⟩ := zrok1 hr (Nat.succ_ne_zero _)
    obtain ⟨I1, I2, I3⟩ := I
    have hs : zinc L j z (pc + 3) st h = _ := hs
    unfold zinc at hs
    split at hs
    · next x hx9 =>
      obtain ⟨h0, lv0, g0, g9⟩ := id I1
      obtain ⟨v', hv, hin⟩ := g9 j _ hx9
      cases (show _ = Value.int _ from hv)
      obtain ⟨L1, e1, e2⟩ : ∃ L1, zst1 (.int (x + Int32.ofInt z)) j L = some L1 ∧ zgo (pc + 3) L1 st h = some (.inl (pc', L', st', h', dc, ds)) := by
        unfold zsv1 at hs
        split at hs
        · next L1 h1 => exact ⟨L1, h1, hs⟩
        · cases hs
      obtain ⟨q1, q2, q3, q4⟩ := zst1_spec e1
      obtain ⟨kx, hkx⟩ := List.getElem?_of_mem hin
      refine lv_iinc (v := x + Int32.ofInt z) hx hb hd g0 hkx rfl (by omega) rfl (fun ls' g => zgo_kk e2 kk ⟨by omega, _, g, fun j2 w hj => ?_⟩ I2 I3)
      by_cases e9 : j2 = j
      · subst e9
        rw [q3] at hj
        cases hj
        exact ⟨_, rfl, List.mem_cons_self⟩
      · obtain ⟨r1, r2⟩ := q4 j2 w e9 hj
        obtain ⟨w', a, b⟩ := g9 j2 w r1
        refine ⟨w', a, List.mem_cons_of_mem _ (List.mem_filter.mpr ⟨b, ?_⟩)⟩
        have hc := zV_cat a
        by_cases e3 : j2 + 1 = j
        · rw [r2 e3] at hc
          simp [e9, hc]
        · simp [e9, e3]
    · cases hs
  | iconst z =>
    obtain ⟨hd, rfl, -⟩ := zrok1 hr (Nat.succ_ne_zero _)
    exact z_pu (v := .int (Int32.ofInt z)) (v' := .int (Int32.ofInt z)) rfl hs I kk (fun w => lv_iconst hx hb hd rfl w)
  | bipush z =>
    obtain ⟨hd, rfl, -⟩ := zrok1 hr (Nat.succ_ne_zero _)
    exact z_pu (v := .int (Int8.ofInt z).toInt32) (v' := .int (Int8.ofInt z).toInt32) rfl hs I kk (fun w => lv_bipush hx hb hd rfl w)
  | sipush z =>
    obtain ⟨hd, rfl, -⟩ := zrok1 hr (Nat.succ_ne_zero _)
    exact z_pu (v := .int (Int16.ofInt z).toInt32) (v' := .int (Int16.ofInt z).toInt32) rfl hs I kk (fun w => lv_sipush hx hb hd rfl w)
  | lconst z =>
    obtain ⟨hd, rfl, -⟩ := zrok1 hr (Nat.succ_ne_zero _)
    exact z_pu (v := .long (Int64.ofNat z)) (v' := .long (Int64.ofNat z)) rfl hs I kk (fun w => lv_lconst hx hb hd rfl w)
  | aconst_null =>
    obtain ⟨hd, rfl, -⟩ := zrok1 hr (Nat.succ_ne_zero _)
    exact z_pu (v := .null) (v' := .null) rfl hs I kk (fun w => lv_null hx hb hd w)
  | ldc j =>
    obtain ⟨hd, rfl, hl⟩ := zrok1 hr (Nat.succ_ne_zero _)
    have hs : (if k = 0 then zpu L (.int (Int32.ofNat yy)) (pc + 2) st h else if k = 2 then zpu L (.retAddr 2) (pc + 2) st h else none) = some (.inl (pc', L', st', h', dc, ds)) := hs
    split at hs
    · next hk0 =>
      subst hk0
      have hl : (decide (0 ≠ 0) || decide ((zmo y, j, 5, yy) ∈ zKL)) = true := hl
      have hl := zkl (of_decide_eq_true (show decide ((zmo y, j, 5, yy) ∈ zKL) = true by simpa using hl))
      exact z_pu (v := .int (Int32.ofNat yy)) (v' := .int (Int32.ofNat yy)) rfl hs I kk (fun w => lv_ldc hx hb hown (hts _ hl) hd w)
    · sorry
  | ldc_w j =>
    obtain ⟨hd, rfl, hl⟩ := zrok1 hr (Nat.succ_ne_zero _)
    have hs : (if k = 0 then zpu L (.int (Int32.ofNat yy)) (pc + 3) st h else none) = some (.inl (pc', L', st', h', dc, ds)) := hs
    split at hs
    · next hk0 =>
      have hl := zkl (of_decide_eq_true (show decide ((zmo y, j, 5, yy) ∈ zKL) = true from hl))
      exact z_pu (v := .int (Int32.ofNat yy)) (v' := .int (Int32.ofNat yy)) rfl hs I kk (fun w => lv_ldcw hx hb hown (hts _ hl) hd w)
    · cases hs
  | ldc2_w j =>
    obtain ⟨hd, rfl, hl⟩ := zrok1 hr (Nat.succ_ne_zero _)
    have hs : (if k = 0 then zpu L (.long (Int64.ofNat yy)) (pc + 3) st h else if k = 1 then zpu L (.double (UInt64.ofNat yy)) (pc + 3) st h else none) = some (.inl (pc', L', st', h', dc, ds)) := hs
    have hl := zkl (of_decide_eq_true (show decide ((zmo y, j, k, yy) ∈ zKL) = true from hl))
    split at hs
    · next hk0 =>
      subst hk0
      exact z_pu (v := .long (Int64.ofNat yy)) (v' := .long (Int64.ofNat yy)) rfl hs I kk (fun w => lv_ldc2 hx hb hown (hts _ hl) hd w)
    · split at hs
      · next hk0 =>
        subst hk0
        exact z_pu (v := .double (UInt64.ofNat yy)) (v' := .double (UInt64.ofNat yy)) rfl hs I kk (fun w => lv_ldc2d hx hb hown (hts _ hl) hd w)
      · cases hs
  | iadd =>
    obtain ⟨hd, rfl, -⟩ := zrok1 hr (Nat.succ_ne_zero _)
    exact z_bin _ hs I kk (fun x y r w => lv_iadd hx hb hd w)
  | isub =>
    obtain ⟨hd, rfl, -⟩ := zrok1 hr (Nat.succ_ne_zero _)
    exact z_bin _ hs I kk (fun x y r w => lv_isub hx hb hd w)
  | imul =>
    obtain ⟨hd, rfl, -⟩ := zrok1 hr (Nat.succ_ne_zero _)
    exact z_bin _ hs I kk (fun x y r w => lv_imul hx hb hd w)
  | iand =>
    obtain ⟨hd, rfl, -⟩ := zrok1 hr (Nat.succ_ne_zero _)
    exact z_bin _ hs I kk (fun x y r w => lv_iand hx hb hd w)
  | ior =>
    obtain ⟨hd, rfl, -⟩ := zrok1 hr (Nat.succ_ne_zero _)
    exact z_bin _ hs I kk (fun x y r w => lv_ior hx hb hd w)
  | ixor =>
    obtain ⟨hd, rfl, -⟩ := zrok1 hr (Nat.succ_ne_zero _)
    exact z_bin _ hs I kk (fun x y r w => lv_ixor hx hb hd w)
  | ishl =>
    obtain ⟨hd, rfl, -⟩ := zrok1 hr (Nat.succ_ne_zero _)
    exact z_bin _ hs I kk (fun x y r w => lv_ishl hx hb hd w)
  | ishr =>
    obtain ⟨hd, rfl, -⟩ := zrok1 hr (Nat.succ_ne_zero _)
    exact z_bin _ hs I kk (fun x y r w => lv_ishr hx hb hd w)
  | iushr =>
    obtain ⟨hd, rfl, -⟩ := zrok1 hr (Nat.succ_ne_zero _)
    exact z_bin _ hs I kk (fun x y r w => lv_iushr hx hb hd rfl w)
  | idiv =>
    obtain ⟨hd, rfl, -⟩ := zrok1 hr (Nat.succ_ne_zero _)
    exact z_div _ hs I kk (fun x y r g w => lv_idiv hx hb hd g w)
  | irem =>
    obtain ⟨hd, rfl, -⟩ := zrok1 hr (Nat.succ_ne_zero _)
    exact z_div _ hs I kk (fun x y r g w => lv_irem hx hb hd g w)
  | ineg =>
    obtain ⟨hd, rfl, -⟩ := zrok1 hr (Nat.succ_ne_zero _)
    exact z_un (fun x => .int (-x)) (fun _ => rfl) hs I kk (fun x r w => lv_ineg hx hb hd w)
  | i2l =>
    obtain ⟨hd, rfl, -⟩ := zrok1 hr (Nat.succ_ne_zero _)
    exact z_un (fun x => .long x.toInt64) (fun _ => rfl) hs I kk (fun x r w => lv_i2l hx hb hd rfl w)
  | i2b =>
    obtain ⟨hd, rfl, -⟩ := zrok1 hr (Nat.succ_ne_zero _)
    exact z_un (fun x => .int x.toInt8.toInt32) (fun _ => rfl) hs I kk (fun x r w => lv_i2b hx hb hd rfl w)
  | i2c =>
    obtain ⟨hd, rfl, -⟩ := zrok1 hr (Nat.succ_ne_zero _)
    exact z_un (fun x => .int (x.toUInt32 % 65536).toInt32) (fun _ => rfl) hs I kk (fun x r w => lv_i2c hx hb hd rfl w)
  | i2d =>
    obtain ⟨hd, rfl, -⟩ := zrok1 hr (Nat.succ_ne_zero _)
    exact z_un (fun x => .double (FP.i2d x)) (fun _ => rfl) hs I kk (fun x r w => lv_i2d hx hb hd w)
  | ladd =>
    obtain ⟨hd, rfl, -⟩ := zrok1 hr (Nat.succ_ne_zero _)
    exact z_binL _ hs I kk (fun x y r w => lv_ladd hx hb hd w)
  | lmul =>
    obtain ⟨hd, rfl, -⟩ := zrok1 hr (Nat.succ_ne_zero _)
    exact z_binL _ hs I kk (fun x y r w => lv_lmul hx hb hd w)
  | ddiv =>
    obtain ⟨hd, rfl, -⟩ := zrok1 hr (Nat.succ_ne_zero _)
    exact z_binD _ hs I kk (fun x y r g w => lv_ddiv hx hb hd g w)
  | dmul =>
    obtain ⟨hd, rfl, -⟩ := zrok1 hr (Nat.succ_ne_zero _)
    exact z_binD _ hs I kk (fun x y r g w => lv_dmul hx hb hd g w)
  | d2l =>
    obtain ⟨hd, rfl, -⟩ := zrok1 hr (Nat.succ_ne_zero _)
    exact z_d2l hs I kk (fun x r w => lv_d2l hx hb hd w)
  | dup =>
    obtain ⟨hd, rfl, -⟩ := zrok1 hr (Nat.succ_ne_zero _)
    exact z_dup hs I kk (fun v r g w => lv_dup hx hb hd g w)
  | pop =>
    obtain ⟨hd, rfl, -⟩ := zrok1 hr (Nat.succ_ne_zero _)
    exact z_pop hs I kk (fun v r g w => lv_pop hx hb hd g w)
  | pop2 =>
    obtain ⟨hd, rfl, -⟩ := zrok1 hr (Nat.succ_ne_zero _)
    exact z_pop2 hs I kk (fun v r g w => lv_pop2_2 hx hb hd g w)
  | dup_x1 =>
    obtain ⟨hd, rfl, -⟩ := zrok1 hr (Nat.succ_ne_zero _)
    exact z_dupx1 hs I kk (fun v w r g g2 k9 => lv_dup_x1 hx hb hd g g2 k9)
  | dup2 =>
    obtain ⟨hd, rfl, -⟩ := zrok1 hr (Nat.succ_ne_zero _)
    exact z_dup2 hs I kk (fun v w r g g2 k9 => lv_dup2_11 hx hb hd g g2 k9)
  | ifCond q off =>
    obtain ⟨hd, rfl, hl⟩ := zrok1 hr (Nat.succ_ne_zero _)
    have ht := of_decide_eq_true (show decide ((pc : Int) + off = (k : Int)) = true from hl)
    obtain ⟨I1, I2, I3⟩ := I
    have hs : zif q k (pc + 3) L st h = _ := hs
    unfold zif at hs
    split at hs
    · obtain ⟨_, _, rfl, hv, hr9⟩ := I2
      cases (show _ = Value.int _ from hv)
      refine z_br hs I1 hr9 I3 kk ?_
      cases q with
      | eq => exact fun a b => lv_if_eq hx hb hd ht a b
      | ne => exact fun a b => lv_if_ne hx hb hd ht a b
      | lt => exact fun a b => lv_if_lt hx hb hd ht a b
      | ge => exact fun a b => lv_if_ge hx hb hd ht a b
      | gt => exact fun a b => lv_if_gt hx hb hd ht a b
      | le => exact fun a b => lv_if_le hx hb hd ht a b
    · cases hs
  | if_icmp q off =>
    obtain ⟨hd, rfl, hl⟩ := zrok1 hr (Nat.succ_ne_zero _)
    have ht := of_decide_eq_true (show decide ((pc : Int) + off = (k : Int)) = true from hl)
    obtain ⟨I1, I2, I3⟩ := I
    have hs : zicmp q k (pc + 3) L st h = _ := hs
    unfold zicmp at hs
    split at hs
    · obtain ⟨_, _, rfl, hv, _, _, rfl, hw, hr9⟩ := I2
      cases (show _ = Value.int _ from hv); cases (show _ = Value.int _ from hw)
      refine z_br hs I1 hr9 I3 kk ?_
      cases q with
      | eq => exact fun a b => lv_icmp_eq hx hb hd ht a b
      | ne => exact fun a b => lv_icmp_ne hx hb hd ht a b
      | lt => exact fun a b => lv_icmp_lt hx hb hd ht a b
      | ge => exact fun a b => lv_icmp_ge hx hb hd ht a b
      | gt => exact fun a b => lv_icmp_gt hx hb hd ht a b
      | le => exact fun a b => lv_icmp_le hx hb hd ht a b
    · cases hs
  | goto off =>
    obtain ⟨hd, rfl, hl⟩ := zrok1 hr (Nat.succ_ne_zero _)
    have ht := of_decide_eq_true (show decide ((pc : Int) + off = (k : Int)) = true from hl)
    exact z_goto hs I kk (fun w => lv_goto hx hb hd ht w)
  | tableswitch d lo hi os =>
    obtain ⟨len, hd, -, -, -⟩ := zrok_ok hr
    obtain ⟨I1, I2, I3⟩ := I
    have hs : ztab pc d lo hi os L st h = _ := hs
    unfold ztab at hs
    split at hs
    · obtain ⟨_, _, rfl, hv, hr9⟩ := I2
      cases (show _ = Value.int _ from hv)
      split at hs
      · next g =>
        obtain ⟨tg, ht, w⟩ := z_off hs I1 hr9 I3 kk
        exact lv_tableOut hx hb hd g ht w
      · next g =>
        split at hs
        · next o ho =>
          obtain ⟨tg, ht, w⟩ := z_off hs I1 hr9 I3 kk
          exact lv_tableIn hx hb hd (fun q => g (Or.inl q)) (fun q => g (Or.inr q)) ho ht w
        · cases hs
    · cases hs
  | lookupswitch d ps =>
    obtain ⟨len, hd, -, -, hl⟩ := zrok_ok hr
    obtain ⟨I1, I2, I3⟩ := I
    have hs : zlook pc d ps L st h = _ := hs
    unfold zlook at hs
    split at hs
    · obtain ⟨_, _, rfl, hv, hr9⟩ := I2
      cases (show _ = Value.int _ from hv)
      obtain ⟨tg, ht, w⟩ := z_off hs I1 hr9 I3 kk
      exact lv_lookup hx hb hd hl rfl ht w
    · cases hs
  | iaload =>
    obtain ⟨hd, rfl, -⟩ := zrok1 hr (Nat.succ_ne_zero _)
    exact z_ialoadX hs I kk (fun ws k a n f i r g1 g2 g3 w => va_iald (D := D) hx hb hK g1 k 0 g2 rfl g3 hd w) (fun i r g1 g2 w => va_sld hx hb hSP.2.2.2.1.1 hSP.2.2.2.1.2.1 hSP.2.2.2.1.2.2 g1 g2 hd w)
  | iastore =>
    obtain ⟨hd, rfl, -⟩ := zrok1 hr (Nat.succ_ne_zero _)
    exact z_ast (g := some) (Or.inl rfl) hs I kk (fun ws k a n f i x z r g0 g1 g2 g3 g4 g5 w => by
      cases g0
      exact va_iast (D := D) hx hb hK g1 g2 g3 k 0 g4 rfl g5 hd w)
  | baload =>
    obtain ⟨hd, rfl, hl⟩ := zrok1 hr (Nat.succ_ne_zero _)
    have hk2 := of_decide_eq_true (show decide (k = 101 ∨ k = 102) = true from hl)
    rcases hk2 with rfl | rfl
    · exact z_ald (t := 101) (Or.inr (Or.inl rfl)) hs I kk (fun ws k a n f i r g1 g2 g3 w => va_zald (D := D) hx hb hK g1 k 1 g2 rfl g3 hd w)
    · exact z_ald (t := 102) (Or.inr (Or.inr rfl)) hs I kk (fun ws k a n f i r g1 g2 g3 w => va_bald (D := D) hx hb hK g1 k 2 g2 rfl g3 hd w)
  | bastore =>
    obtain ⟨hd, rfl, -⟩ := zrok1 hr (Nat.succ_ne_zero _)
    have hs : (if k = 101 then zast 101 (fun x => if x = 0 ∨ x = 1 then some x else none) (pc + 1) L st h else zast 102 (fun x => some x.toInt8.toInt32) (pc + 1) L st h) = some (.inl (pc', L', st', h', dc, ds)) := hs
    split at hs
    · refine z_ast (t := 101) (Or.inr (Or.inl rfl)) hs I kk (fun ws k a n f i x z r g0 g1 g2 g3 g4 g5 w => ?_)
      have g0 : (if x = 0 ∨ x = 1 then some x else none) = some z := g0
      split at g0
      · next q =>
        cases g0
        have e9 : vp_nar .boolean x = x := by rcases q with rfl | rfl <;> rfl
        refine va_zast (D := D) hx hb hK g1 g2 g3 k 1 g4 rfl g5 hd ?_
        rw [e9]
        exact w
      · cases g0
    · refine z_ast (t := 102) (Or.inr (Or.inr rfl)) hs I kk (fun ws k a n f i x z r g0 g1 g2 g3 g4 g5 w => ?_)
      cases g0
      refine va_bast (D := D) hx hb hK g1 g2 g3 k 2 g4 rfl g5 hd ?_
      rw [vp_nar_byte]
      exact w
  | aaload =>
    obtain ⟨hd, rfl, -⟩ := zrok1 hr (Nat.succ_ne_zero _)
    refine z_aald hs I kk (fun ws t k a n f i r ht g1 g2 g3 w => ?_)
    have hlt : i.toNatClampNeg < n := Nat.not_le.mp fun q => g3 (Or.inr q)
    rcases ht with rfl | rfl
    · exact va_aldq (D := D) hx hb hK g1 k 3 g2 rfl g3 hd w
    · exact W.aald (v := va_rf (f i.toNatClampNeg)) (ty := .array .int) hx hb (g1 k _ g2) ((hK.2 4 _ rfl).1 n (fun j => va_rf (f j))) rfl (fun q => by cases q) (by show ¬ (i < 0 ∨ (arrV _ _ _).slots.size ≤ _); rw [arrV_size]; exact g3) (by show (arrV _ _ _).slots[_]? = _; rw [arrV_read _ _ hlt]) rfl rfl hd w
  | arraylength =>
    obtain ⟨hd, rfl, -⟩ := zrok1 hr (Nat.succ_ne_zero _)
    refine z_alen hSP hs I kk (fun ws t k a x r h1 h2 g1 g2 w => ?_) (fun r g w => va_slen hx hb hSP.2.2.2.1.1 hSP.2.2.2.1.2.1 hSP.2.2.2.1.2.2 g hd w) (fun r g w => ?_)
    · obtain ⟨t9, e9⟩ : ∃ t9, (ztys ty)[t - 100]? = some (ty (t - 100), t9) := by
        rcases (show t = 100 ∨ t = 101 ∨ t = 102 ∨ t = 103 ∨ t = 104 by omega) with rfl | rfl | rfl | rfl | rfl <;> exact ⟨_, rfl⟩
      exact va_alen (D := D) hx hb hK g1 k (t - 100) g2 e9 rfl hd w
    · sorry
  | newarray t =>
    obtain ⟨hd, e, -⟩ := zrok1 hr (Nat.succ_ne_zero _)
    exact z_newa hX0 hd e hs I hcl hsl kk
  | getfield j =>
    obtain ⟨hd, rfl, hl⟩ := zrok1 hr (Nat.succ_ne_zero _)
    have hl := zFL_ok _ (of_decide_eq_true (show decide ((zmo y, j, yy) ∈ zFL) = true from hl))
    exact z_get hs I kk (fun ws j a ci kd vs v r g1 g2 g3 g4 w => z_fget hX0 hl hd g1 g2 g3 g4 w)
  | putfield j =>
    obtain ⟨hd, rfl, hl⟩ := zrok1 hr (Nat.succ_ne_zero _)
    have hl : (decide ((zmo y, j, yy) ∈ zFL) && (decide ((zFT yy).2.2.2 = false) || (decide ((zmn y).name = "<init>") && decide ((zFT yy).1 = zon (zmo y))))) = true := hl
    simp only [Bool.and_eq_true, Bool.or_eq_true, decide_eq_true_eq] at hl
    exact z_put hs I kk (fun ws j a ci kd vs v r g1 g2 g3 g4 g5 g6 g7 w => z_fput hX0 (zFL_ok _ hl.1) hl.2 hd g1 g2 g3 g4 g5 g6 g7 w)
  | new j =>
    obtain ⟨hd, e, hl⟩ := zrok1 hr (Nat.succ_ne_zero _)
    have hs : (if k = 9 then (if zcs st ≤ 8 then some (.inr (.inr (.inr yy, 1, 6))) else none) else znew zcf c9 nx L st h) = some (.inl (pc', L', st', h', dc, ds)) := hs
    have hl : ((decide (k = 9) && decide ((y, pc, j, yy) ∈ zTL) && decide (zmh y = [])) || (decide (k ≠ 9) && decide ((zmo y, j, c9) ∈ zCL) && decide (c9 < 11))) = true := hl
    simp only [Bool.and_eq_true, Bool.or_eq_true, decide_eq_true_eq] at hl
    split at hs
    · split at hs <;> cases hs
    · next g =>
      have hl := hl.resolve_left (fun q => g q.1.1)
      exact z_new hX0 hl.2 (zCL_ok _ hl.1.2) hd e hs I hcl hsl kk
  | invokestatic j =>
    obtain ⟨hd, rfl, hl⟩ := zrok1 hr (Nat.succ_ne_zero _)
    have hs : (if k = 10 then zcopy (pc + 3) L st h else if k = 12 then zmm (fun x y => if x < y then y else x) (pc + 3) L st h else if k = 13 then zmm (fun x y => if y < x then y else x) (pc + 3) L st h else zcall n yy (pc + 3) st) = some (.inl (pc', L', st', h', dc, ds)) := hs
    have hl : (if k = 12 ∨ k = 13 then decide ((zmo y, j, k) ∈ zXL) else decide (k = 10) || (decide ((zmo y, j, yy) ∈ zSL) && decide (yy < 246) && decide (yy ≠ zlaw) && decide (zmp yy = n))) = true := hl
    split at hs
    · sorry
    · split at hs
      · next q1 q =>
        subst q
        have hl : zXok (zmo y, j, 12) := zXL_ok _ (of_decide_eq_true hl)
        obtain ⟨l1, l2, l3, l4⟩ := (show Jvm.Cond.methodLink (zon (zmo y)) j Lib.Math.max.name ∈ zB ∧ Jvm.Cond.static Lib.Math.max.name ∈ zB ∧ Jvm.Cond.initialized "java/lang/Math" ∈ zB ∧ Jvm.Cond.code Lib.Math.max.name Lib.Math.max.code 2 (some .int) ∈ zB from hl)
        refine z_mm _ hs I kk (fun x y r g w => va_mmax hx hb hlsz hown (hts _ l1) (hts _ l2) (hts _ l3) (hts _ l4) (by omega) (by omega) (by omega) (by omega) hd w)
      · split at hs
        · next q1 q2 q =>
          subst q
          have hl : zXok (zmo y, j, 13) := zXL_ok _ (of_decide_eq_true hl)
          obtain ⟨l1, l2, l3, l4⟩ := (show Jvm.Cond.methodLink (zon (zmo y)) j Lib.Math.min.name ∈ zB ∧ Jvm.Cond.static Lib.Math.min.name ∈ zB ∧ Jvm.Cond.initialized "java/lang/Math" ∈ zB ∧ Jvm.Cond.code Lib.Math.min.name Lib.Math.min.code 2 (some .int) ∈ zB from hl)
          refine z_mm _ hs I kk (fun x y r g w => va_mmin hx hb hlsz hown (hts _ l1) (hts _ l2) (hts _ l3) (hts _ l4) (by omega) (by omega) (by omega) (by omega) hd w)
        · exact absurd hs zcall_ne
  | invokespecial j =>
    obtain ⟨hd, rfl, hl⟩ := zrok1 hr (Nat.succ_ne_zero _)
    have hs : (if k = 8 then zoi (pc + 3) L st h else zcallI n yy (pc + 3) st) = some (.inl (pc', L', st', h', dc, ds)) := hs
    have hl : (if k = 8 then decide ((zmo y, j) ∈ zOL) else decide ((zmo y, j, yy) ∈ zIL) && decide (yy < 246) && decide (yy ≠ zlaw) && decide (zmp yy = n) && decide (zmh yy = []) && decide (zmr yy = none)) = true := hl
    split at hs
    · next q =>
      rw [if_pos q] at hl
      have hl := zOL_ok _ (of_decide_eq_true hl)
      obtain ⟨I1, I2, I3⟩ := I
      unfold zoi at hs
      split at hs
      · split at hs
        · next g =>
          obtain ⟨_, _, rfl, hv, hr9⟩ := I2
          obtain ⟨a, -, rfl⟩ := id hv
          exact W.objInit hx hb hown (hts _ hl) (hts _ zOi1) (hts _ zOi2) (g := F0 m pc ls _) rfl hlsz.symm rfl hd (by omega) (by show 2 * 0 + _ + 12 ≤ _; rw [zS_cs hr9]; omega) (zgo_kk hs kk I1 hr9 I3)
        · cases hs
      · cases hs
    · exact absurd hs zcallI_ne
  | invokevirtual j => exact absurd hs zcallV_ne
  | invokeinterface j q => exact absurd hs zcallV_ne
  | aastore =>
    obtain ⟨hd, rfl, -⟩ := zrok1 hr (Nat.succ_ne_zero _)
    sorry
  | anewarray j => sorry
  | multianewarray j q => sorry
  | ireturn => exact absurd hs zirt_ne
  | lreturn => exact absurd hs zlrt_ne
  | dreturn => exact absurd hs zdrt_ne
  | areturn => exact absurd hs zart_ne
  | return_ => exact absurd hs zvrt_ne
  | _ => exact absurd hs (by intro q; cases (show none = some _ from q))
end ZY
end
