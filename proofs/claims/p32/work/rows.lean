section
theorem zwide9 : True := by
  have _ := @Jvm.Free.Multi.fill_facts
  trivial
end
section
/-! ===== BEGIN words of one list among another's, by their places ===== -/
theorem goodIn_r {big : List Cond} (ws : List Cond) (ps : List Nat) (hp : ws = ps.filterMap (fun i => big[i]?)) (h : ws.all goodWord = true) : GoodIn big ws := by
  intro w hw
  have h1 := List.all_eq_true.mp h w hw
  rw [hp] at hw
  obtain ⟨i, -, hi⟩ := List.mem_filterMap.mp hw
  have hm : w ∈ big := by first | exact List.mem_of_getElem? hi | exact List.getElem?_mem hi
  exact ⟨hm, good_of_word h1⟩
theorem goodIn_app {big a b : List Cond} (ha : GoodIn big a) (hb : GoodIn big b) : GoodIn big (a ++ b) := fun w h => (List.mem_append.mp h).elim (ha w) (hb w)
theorem goodIn_ca {big a b : List Cond} {c : Cond} (ha : GoodIn big (c :: a)) (hb : GoodIn big b) : GoodIn big (c :: (a ++ b)) := fun w h => (List.mem_cons.mp h).elim (fun e => ha w (List.mem_cons.mpr (Or.inl e))) (fun h => (List.mem_append.mp h).elim (fun h => ha w (List.mem_cons.mpr (Or.inr h))) (hb w))
theorem goodIn_sub {big ws : List Cond} (hm : ∀ w ∈ ws, w ∈ big) (h : ws.all goodWord = true) : GoodIn big ws := fun w hw => ⟨hm w hw, good_of_word (List.all_eq_true.mp h w hw)⟩
/-! ===== END ===== -/
/-! ===== BEGIN exceptions that leave a method, and their catching by the caller (launches without stack traces) ===== -/
section VXA
/-! The laws vx_back, vx_callV, vx_callS, vx_callSW, vx_throw0, vx_throwS follow proofs of the library, with one case more: JvmDerived/Free/Laws.lean (Back.of_free), Shelf42/LK1.lean (callV, callS), Shelf/KitTraced.lean (throwNew0V, throwNewS). -/
/-- where a method has thrown q: the class by its name, the cell, what was written, the world -/
def vx_T (XC : String → State → State → Prop) (st : State) (q : Addr) (t : State) (mc ms : Nat) (free : Addr → Prop) : Prop :=
  ∃ (E : String) (ce : Cell) (L : List Loc), XC E st t ∧ t.heap[q]? = some ce ∧ ce.vm = .none ∧ st.vm.findClass E = some ce.cls ∧ st.WarmedH t.vm ∧ st.sameButNew ({ t with vm := st.vm } : State) L mc ms ∧ ∀ z ∈ L, free z.base
def vx_Q (Qc : Array Value → State → Outcome → State → Prop) (XC : String → State → State → Prop) (mc ms : Nat) (free : Addr → Prop) : Array Value → State → Outcome → State → Prop := fun a st o t =>
  (Qc a st o t ∧ ∃ L, FrameEnd st o t L mc ms ∧ ∀ q ∈ L, free q.base) ∨ ∃ q, o = .threw q ∧ vx_T XC st q t mc ms free
/-- a callee that returns or throws -/
def vx_Met (l : Launch) (y : MethodName) (ws : List Cond) (rm : Room) (Pc : Array Value → State → Prop) (Qc : Array Value → State → Outcome → State → Prop) (XC : String → State → State → Prop) (mc ms : Nat) (free : Addr → Prop) : Prop :=
  MetFree l y (headSpec ws rm) Pc (fun _ _ _ _ _ => True) (vx_Q Qc XC mc ms free)
def vx_Post (XC : String → State → State → Prop) (mc ms : Nat) (free : Addr → Prop) : Pt → Array Value → Addr → Pt → Prop := fun A a q B =>
  ∃ (g : JFrame) (mk : MethodId) (t : State) (L : List Loc) (E : String) (ce : Cell), B.U.heap = t.heap ∧ B.U.vm = t.vm ∧ XC E (A.U.calling g mk a) t ∧ t.heap[q]? = some ce ∧ ce.vm = .none ∧ A.U.vm.findClass E = some ce.cls ∧ B.locs = A.locs ++ L ∧ (∀ z ∈ L, free z.base) ∧ B.cells = A.cells + mc ∧ B.slots = A.slots + ms
def vx_Back (l : Launch) (R : Room) (p : Program) (e : Env) (below : List Frame) (s : State) (sargs : Array Value) (y : MethodName) (len W9 : Nat)
    (Pre : Pt → Array Value → Prop) (Post : Pt → Array Value → Option Value → Pt → Prop) (PostX : Pt → Array Value → Addr → Pt → Prop) : Prop :=
  ∀ (m : MethodId) (meth : Method) (c : Code) (A : Pt) (g : JFrame) (ig : Instr) (mk : MethodId) (a : Array Value),
    Stand p l e R s m sargs below meth c A.U A.locs A.cells A.slots → g.method = m → g.locals.size = c.maxLocals → decode c.code g.pc = .ok (ig, len) →
    2 * g.monitorRoom + (g.stack.map fun v => v.category).sum ≤ W9 → A.U.methodNamed? y = some mk → Pre A a →
    (∃ (v : Option Value) (B : Pt), Stand p l e R s m sargs below meth c B.U B.locs B.cells B.slots ∧ Post A a v B ∧
      Steps p.tables e below (doInvoke e (A.U.setTop g) [] mk a).1 (B.U.setTop { g with pc := g.pc + len, stack := v.toList ++ g.stack })) ∨
    (∃ (q : Addr) (B : Pt), Stand p l e R s m sargs below meth c B.U B.locs B.cells B.slots ∧ PostX A a q B ∧
      Steps p.tables e below (doInvoke e (A.U.setTop g) [] mk a).1 ((B.U.setTop g).pushFrame (.throwing q)))
section Payer
variable {l : Launch} {R : Room} {p : Program} {e : Env} {below : List Frame} {s : State} {sargs : Array Value} {y : MethodName} {len W9 : Nat}
theorem vx_back {ws : List Cond} {rm : Room} {Pc : Array Value → State → Prop} {Qc : Array Value → State → Outcome → State → Prop} {XC : String → State → State → Prop} {mc ms : Nat} {free : Addr → Prop} {bytes : ByteArray} {maxL : Nat} {ret : Option FieldType}
    (hM : vx_Met l y ws rm Pc Qc XC mc ms free) (hblind : FrameBlind Pc) (hrc : rm.cells = mc) (hrs : rm.slots = ms)
    (hframes : rm.frames + 1 ≤ R.frames) (hlocals : W9 + (maxL + 11) + rm.locals ≤ R.locals)
    (hws : ∀ w ∈ ws, ∀ a' U, s.WarmedH U.vm → w.before a' U = true) (hcode : Cond.code y bytes maxL ret ∈ ws) (hinit : ∀ a' U, s.WarmedH U.vm → (Cond.initialized y.cls).before a' U = true) :
    vx_Back l R p e below s sargs y len W9 (PreOf R mc ms Pc) (PostOf Qc mc ms free) (vx_Post XC mc ms free) := by
  intro m meth c A g ig mk a X hg hsize hdg hW hn hp
  have h1 : (headSpec ws rm).pre.before a A.U = true := atoms_intro fun w hw => hws w hw _ _ X.warmed
  have h2 : (Cond.code y bytes maxL ret).before a A.U = true := hws _ hcode _ _ X.warmed
  have h3 : (Cond.initialized y.cls).before a A.U = true := hinit _ _ X.warmed
  have h4 : A.cells + (headSpec ws rm).room.cells ≤ R.cells := by rw [show (headSpec ws rm).room.cells = mc from hrc]; exact hp.1
  have h5 : A.slots + (headSpec ws rm).room.slots ≤ R.slots := by rw [show (headSpec ws rm).room.slots = ms from hrs]; exact hp.2.1
  have hPc : Pc a (A.U.calling g mk a) := hblind _ _ _ _ hp.2.2
  obtain ⟨U, Ls, c0, s0⟩ := A
  dsimp only [Pt.U, Pt.locs, Pt.cells, Pt.slots] at h1 h2 h3 h4 h5 X hn hPc ⊢
  obtain ⟨methY, cY, hmY, hcY, -, hlY, -, -, -, -⟩ := Cond.code_spec hn h2
  obtain ⟨kY, hkY, -⟩ := className_of_methodNamed hn
  have hinitY : kY.init = .initialized := Cond.initialized_spec (findClass_of_methodNamed hn) hkY h3
  have h : At U g.method c below := by rw [hg]; exact X.here
  have hlocals9 : W9 + (maxL + 11) + (headSpec ws rm).room.locals ≤ R.locals := hlocals
  have happ : (headSpec ws rm).appliesLoose y e.platform (U.calling g mk a) = true :=
    Spec.appliesLoose_calling (g := g) h hdg hn hkY hinitY
      (X.room_calling (g := g) (R' := (headSpec ws rm).room) hsize hmY hcY hframes (by rw [hlY]; omega) h4 h5) h1
  obtain ⟨mid, hmid⟩ := h.above
  have hfr : (U.setTop g).frames = (.java g :: mid) ++ below := by rw [State.frames_setTop' g h.top, hmid]; rfl
  obtain ⟨o, s₂, hsteps, -, hend, hq⟩ := Steps.callFree hM p X.admits X.cas X.clock (acts := []) hfr happ hPc trivial
  have hq' : vx_Q Qc XC mc ms free a (U.calling g mk a) o s₂ := hq
  rw [State.frames_setTop' g h.top] at hend
  obtain ⟨g₀, hg0⟩ := Option.isSome_iff_exists.mp h.top
  obtain ⟨r, hr⟩ := State.topJava?_eq_some.mp hg0
  have hr' : (({ U with heap := s₂.heap, slotsUsed := s₂.slotsUsed } : State).setVm s₂.vm).frames = .java g₀ :: r := hr
  rcases hq' with ⟨hqc, L, hfe, hL⟩ | ⟨q, rfl, E, ce, L, hx, hce, hcv, hcl, hW₂, hsm, hL⟩
  · obtain ⟨⟨v, rfl⟩, hW₂, e2, q2, q3, q4, q5, q6⟩ := id hfe
    have e3 : s₂ = ({ (U.calling g mk a).setFrames s₂.frames with heap := s₂.heap, slotsUsed := s₂.slotsUsed } : State).setVm s₂.vm := by
      have : s₂ = ({ s₂ with vm := (U.calling g mk a).vm } : State).setVm s₂.vm := rfl
      rw [e2] at this
      exact this
    obtain ⟨c₂, i₂, len₂, hc₂, hd₂, hf₂⟩ := hend
    have hW' : U.WarmedH s₂.vm := hW₂
    have hcc : c₂ = c := by
      have h1 : s₂.code? g.method = U.code? g.method := by
        rw [State.code?_eq, State.code?_eq, hW'.alike.method?]
      exact Option.some.inj (hc₂.symm.trans (h1.trans h.code))
    subst hcc
    have hlen : len₂ = len := by rw [hdg] at hd₂; cases hd₂; rfl
    subst hlen
    have hs₂ : s₂ = (({ U with heap := s₂.heap, slotsUsed := s₂.slotsUsed } : State).setVm s₂.vm).setTop { g with pc := g.pc + len₂, stack := v.toList ++ g.stack } := by
      refine e3.trans ?_
      rw [hf₂, State.calling_eq h.top, State.setFrames_setFrames, State.setTop_of_frames _ hr', hr]
      rfl
    have hsame : U.sameButNew ({ U with heap := s₂.heap, slotsUsed := s₂.slotsUsed } : State) L mc ms := by
      refine ⟨?_, q2, q3, q4, q5, q6⟩
      obtain ⟨t, ht, -⟩ := State.frames_cons hr
      show ({ U with heap := s₂.heap, slotsUsed := s₂.slotsUsed } : State) = { U.setFrames U.frames with heap := s₂.heap, slotsUsed := s₂.slotsUsed }
      rw [State.setFrames_self ht]
    subst hg
    refine Or.inl ⟨v, ⟨(({ U with heap := s₂.heap, slotsUsed := s₂.slotsUsed } : State).setVm s₂.vm), Ls ++ L, c0 + mc, s0 + ms⟩,
      ⟨X.admits, X.cas, X.clock, X.frames, X.room, X.hears, X.method, X.code, (X.here.setHeapUsed s₂.heap s₂.slotsUsed).setVm hW'.alike, X.tail, State.WarmedH.trans X.warmed hW', X.limits, X.bytes, X.same.trans (hsame.setVm s.vm)⟩,
      ⟨g, mk, s₂, L, rfl, rfl, hqc, rfl, hL, rfl, rfl⟩, ?_⟩
    show Steps p.tables e below _ ((({ U with heap := s₂.heap, slotsUsed := s₂.slotsUsed } : State).setVm s₂.vm).setTop { g with pc := g.pc + len₂, stack := v.toList ++ g.stack })
    rw [← hs₂]
    exact hsteps
  · obtain ⟨e2, q2, q3, q4, q5, q6⟩ := id hsm
    have e3 : s₂ = ({ (U.calling g mk a).setFrames s₂.frames with heap := s₂.heap, slotsUsed := s₂.slotsUsed } : State).setVm s₂.vm := by
      have : s₂ = ({ s₂ with vm := (U.calling g mk a).vm } : State).setVm s₂.vm := rfl
      rw [e2] at this
      exact this
    have hf₂ : s₂.frames = .throwing q :: .java g :: U.frames.tail := hend
    have hW' : U.WarmedH s₂.vm := hW₂
    have hs₂ : s₂ = ((({ U with heap := s₂.heap, slotsUsed := s₂.slotsUsed } : State).setVm s₂.vm).setTop g).pushFrame (.throwing q) := by
      refine e3.trans ?_
      rw [hf₂, State.calling_eq h.top, State.setFrames_setFrames, State.pushFrame, State.frames_setTop _ hr', State.setTop_of_frames _ hr', State.setFrames_setFrames, hr]
      rfl
    have hsame : U.sameButNew ({ U with heap := s₂.heap, slotsUsed := s₂.slotsUsed } : State) L mc ms := by
      refine ⟨?_, q2, q3, q4, q5, q6⟩
      obtain ⟨t, ht, -⟩ := State.frames_cons hr
      show ({ U with heap := s₂.heap, slotsUsed := s₂.slotsUsed } : State) = { U.setFrames U.frames with heap := s₂.heap, slotsUsed := s₂.slotsUsed }
      rw [State.setFrames_self ht]
    subst hg
    refine Or.inr ⟨q, ⟨(({ U with heap := s₂.heap, slotsUsed := s₂.slotsUsed } : State).setVm s₂.vm), Ls ++ L, c0 + mc, s0 + ms⟩,
      ⟨X.admits, X.cas, X.clock, X.frames, X.room, X.hears, X.method, X.code, (X.here.setHeapUsed s₂.heap s₂.slotsUsed).setVm hW'.alike, X.tail, State.WarmedH.trans X.warmed hW', X.limits, X.bytes, X.same.trans (hsame.setVm s.vm)⟩,
      ⟨g, mk, s₂, L, E, ce, rfl, rfl, hx, hce, hcv, hcl, rfl, hL, rfl, rfl⟩, ?_⟩
    show Steps p.tables e below _ (((({ U with heap := s₂.heap, slotsUsed := s₂.slotsUsed } : State).setVm s₂.vm).setTop g).pushFrame (.throwing q))
    rw [← hs₂]
    exact hsteps
end Payer
section Calls
variable {p : Program} {l : Launch} {e : Env} {R : Room} {s : State} {m : MethodId} {args : Array Value} {below : List Frame} {meth : Method} {c : Code} {T : State} {locs : List Loc} {cells slots : Nat}
theorem vx_callV (X : Stand p l e R s m args below meth c T locs cells slots) (hexec : p.tables.exec = Jvm.exec) {own C : String} {index : Nat} {y : MethodName} {bytes : ByteArray} {maxL : Nat} {ret : Option FieldType}
    (hown : s.vm.findClass own = some m.cls) (hlink : (Cond.methodLink own index y).before args s = true) (hinst : (Cond.instanceMethod y).before args s = true) (hsel : (Cond.selects C y y).before args s = true)
    (hcode : (Cond.code y bytes maxL ret).before args s = true) (hy : y.cls ≠ "java/lang/invoke/MethodHandle" ∧ y.cls ≠ "java/lang/invoke/VarHandle")
    {W9 : Nat} {Pre : Pt → Array Value → Prop} {Post : Pt → Array Value → Option Value → Pt → Prop} {PostX : Pt → Array Value → Addr → Pt → Prop} (hK : vx_Back l R p e below s args y 3 W9 Pre Post PostX)
    {b : Addr} {cellB : Cell} (hcell : T.heap[b]? = some cellB) (hobj : cellB.vm.isStatics = false) (hcls : s.vm.findClass C = some cellB.cls)
    {g : JFrame} (hg : g.method = m) (hsize : g.locals.size = c.maxLocals) {argsL rest : List Value} (hlen : ∀ sig, parseMethodDescriptor y.desc = some sig → argsL.length = sig.parameters.length)
    (hstack : g.stack = argsL.reverse ++ .ref b :: rest) (hW : 2 * g.monitorRoom + (rest.map fun v => v.category).sum ≤ W9) (hdg : decode c.code g.pc = .ok (.invokevirtual index, 3))
    (hpre : ∀ vm₁, s.WarmedH vm₁ → Pre ⟨T.setVm vm₁, locs, cells, slots⟩ (Value.ref b :: argsL).toArray) :
    (∃ (v : Option Value) (vm₁ : Vm) (B : Pt), s.WarmedH vm₁ ∧ Stand p l e R s m args below meth c B.U B.locs B.cells B.slots ∧ Post ⟨T.setVm vm₁, locs, cells, slots⟩ (Value.ref b :: argsL).toArray v B ∧
      ∀ target, Steps p.tables e below (B.U.setTop { g with pc := g.pc + 3, stack := v.toList ++ rest }) target → Steps p.tables e below (T.setTop g) target) ∨
    (∃ (q : Addr) (vm₁ : Vm) (B : Pt), s.WarmedH vm₁ ∧ Stand p l e R s m args below meth c B.U B.locs B.cells B.slots ∧ PostX ⟨T.setVm vm₁, locs, cells, slots⟩ (Value.ref b :: argsL).toArray q B ∧
      Steps p.tables e below (T.setTop g) ((B.U.setTop { g with stack := rest }).pushFrame (.throwing q))) := by
  obtain ⟨mk, methM, hnamed, hmethM, hstM, habM⟩ := Cond.instanceMethod_spec hinst
  obtain ⟨methM', cM, hmethM', -, -, -, -, -, -, hsigM⟩ := Cond.code_spec hnamed hcode
  cases hmethM.symm.trans hmethM'
  obtain ⟨c2, r2, m2, q1, q2, q3, q4, kP, hkP, hkPi⟩ := Cond.selects_spec hsel
  cases hcls.symm.trans q1
  cases (State.methodFound?_of_named hnamed hy).symm.trans q2
  cases hnamed.symm.trans q3
  have hselP : selectMethod e.platform s.vm cellB.cls mk = .method mk := by rw [Launch.admits_selectMethod X.admits]; exact q4
  obtain ⟨vm₁, X₁, hstep₁⟩ := X.invokevirtual hexec hown hlink hnamed hmethM hstM hkP hkPi hy (a := b) (cell := cellB) hcell
    (fun z h => by rw [h] at hobj; cases hobj) hselP hmethM habM hkP hkPi (g := g) hg (argsL := argsL) (rest := rest) (hlen _ hsigM) hstack hdg
  rcases hK m meth c ⟨T.setVm vm₁, locs, cells, slots⟩ { g with stack := rest } (.invokevirtual index) mk (Value.ref b :: argsL).toArray X₁ hg hsize hdg hW (X₁.named hnamed) (hpre vm₁ X₁.warmed) with ⟨v, B, X', hpost, hsteps⟩ | ⟨q, B, X', hpost, hsteps⟩
  · exact Or.inl ⟨v, vm₁, B, X₁.warmed, X', hpost, fun target h => hstep₁ _ fun acts => by rw [doInvoke_state]; exact hsteps.trans h⟩
  · exact Or.inr ⟨q, vm₁, B, X₁.warmed, X', hpost, hstep₁ _ fun acts => by rw [doInvoke_state]; exact hsteps⟩
theorem vx_callS (X : Stand p l e R s m args below meth c T locs cells slots) (hexec : p.tables.exec = Jvm.exec) {own : String} {index : Nat} {y : MethodName} {bytes : ByteArray} {maxL : Nat} {ret : Option FieldType}
    (hown : s.vm.findClass own = some m.cls) (hlink : (Cond.methodLink own index y).before args s = true) (hstat : (Cond.static y).before args s = true) (hinit : (Cond.initialized y.cls).before args s = true)
    (hcode : (Cond.code y bytes maxL ret).before args s = true) (hy : y.cls ≠ "java/lang/invoke/MethodHandle" ∧ y.cls ≠ "java/lang/invoke/VarHandle")
    {W9 : Nat} {Pre : Pt → Array Value → Prop} {Post : Pt → Array Value → Option Value → Pt → Prop} {PostX : Pt → Array Value → Addr → Pt → Prop} (hK : vx_Back l R p e below s args y 3 W9 Pre Post PostX)
    {g : JFrame} (hg : g.method = m) (hsize : g.locals.size = c.maxLocals) {argsL rest : List Value} (hlen : ∀ sig, parseMethodDescriptor y.desc = some sig → argsL.length = sig.parameters.length)
    (hstack : g.stack = argsL.reverse ++ rest) (hW : 2 * g.monitorRoom + (rest.map fun v => v.category).sum ≤ W9) (hdg : decode c.code g.pc = .ok (.invokestatic index, 3))
    (hpre : ∀ vm₁, s.WarmedH vm₁ → Pre ⟨T.setVm vm₁, locs, cells, slots⟩ argsL.toArray) :
    (∃ (v : Option Value) (vm₁ : Vm) (B : Pt), s.WarmedH vm₁ ∧ Stand p l e R s m args below meth c B.U B.locs B.cells B.slots ∧ Post ⟨T.setVm vm₁, locs, cells, slots⟩ argsL.toArray v B ∧
      ∀ target, Steps p.tables e below (B.U.setTop { g with pc := g.pc + 3, stack := v.toList ++ rest }) target → Steps p.tables e below (T.setTop g) target) ∨
    (∃ (q : Addr) (vm₁ : Vm) (B : Pt), s.WarmedH vm₁ ∧ Stand p l e R s m args below meth c B.U B.locs B.cells B.slots ∧ PostX ⟨T.setVm vm₁, locs, cells, slots⟩ argsL.toArray q B ∧
      Steps p.tables e below (T.setTop g) ((B.U.setTop { g with stack := rest }).pushFrame (.throwing q))) := by
  obtain ⟨mk, hnamed⟩ := Cond.code_named hcode
  obtain ⟨methM, cM, hmethM, -, -, -, -, -, -, hsigM⟩ := Cond.code_spec hnamed hcode
  have hstatic : methM.isStatic = true := Cond.static_spec hnamed hmethM hstat
  obtain ⟨kP, hkP, -⟩ := className_of_methodNamed hnamed
  have hinitP : kP.init = .initialized := Cond.initialized_spec (findClass_of_methodNamed hnamed) hkP hinit
  obtain ⟨vm₁, X₁, hstep₁⟩ := X.invokestatic hexec hown hlink hnamed hmethM hstatic hkP hinitP hy (g := g) hg (argsL := argsL) (rest := rest) (hlen _ hsigM) hstack hdg
  rcases hK m meth c ⟨T.setVm vm₁, locs, cells, slots⟩ { g with stack := rest } (.invokestatic index) mk argsL.toArray X₁ hg hsize hdg hW (X₁.named hnamed) (hpre vm₁ X₁.warmed) with ⟨v, B, X', hpost, hsteps⟩ | ⟨q, B, X', hpost, hsteps⟩
  · exact Or.inl ⟨v, vm₁, B, X₁.warmed, X', hpost, fun target h => hstep₁ _ fun acts => by rw [doInvoke_state]; exact hsteps.trans h⟩
  · exact Or.inr ⟨q, vm₁, B, X₁.warmed, X', hpost, hstep₁ _ fun acts => by rw [doInvoke_state]; exact hsteps⟩
end Calls
theorem vx_cls {s : State} {T : State} {vm₁ : Vm} {E : String} {k : ClassId} (hW : s.WarmedH vm₁) (h : (T.setVm vm₁).vm.findClass E = some k) : s.vm.findClass E = some k := by
  have h1 : vm₁.findClass E = some k := h
  rw [hW.alike.findClass] at h1
  exact h1
/-- the method's frame g, with q thrown over it -/
def vx_W (p : Program) (l : Launch) (e : Env) (R : Room) (s : State) (m : MethodId) (args : Array Value) (below : List Frame) (meth : Method) (c : Code) (H : Heap) (locs : List Loc) (cells slots : Nat) (Q : State → Prop) (g : JFrame) (q : Addr) : Prop :=
  ∀ T : State, T.heap = H → Stand p l e R s m args below meth c T locs cells slots → ∃ t, Steps p.tables e below ((T.setTop g).pushFrame (.throwing q)) t ∧ Q t
def vx_Run (p : Program) (l : Launch) (e : Env) (R : Room) (s : State) (m : MethodId) (args : Array Value) (below : List Frame) (meth : Method) (c : Code) (H : Heap) (locs : List Loc) (cells slots mc ms : Nat) (g : JFrame) (rest : List Value) (Qa : State → Outcome → State → Prop) (XC : String → State → State → Prop) (free : Addr → Prop) : Prop :=
  ∀ T : State, T.heap = H → Stand p l e R s m args below meth c T locs cells slots →
    (∃ (v : Option Value) (st₀ t T' : State) (L : List Loc), st₀.heap = H ∧ Stand p l e R s m args below meth c T' (locs ++ L) (cells + mc) (slots + ms) ∧ (∀ q ∈ L, free q.base) ∧ T'.heap = t.heap ∧ T'.vm = t.vm ∧ Qa st₀ (.returned v) t ∧
      Goes p e below T g T' { g with pc := g.pc + 3, stack := v.toList ++ rest }) ∨
    (∃ (q : Addr) (st₀ t T' : State) (L : List Loc) (E : String) (ce : Cell), st₀.heap = H ∧ Stand p l e R s m args below meth c T' (locs ++ L) (cells + mc) (slots + ms) ∧ (∀ z ∈ L, free z.base) ∧ T'.heap = t.heap ∧ T'.vm = t.vm ∧ XC E st₀ t ∧ t.heap[q]? = some ce ∧ ce.vm = .none ∧ s.vm.findClass E = some ce.cls ∧
      Steps p.tables e below (T.setTop g) ((T'.setTop { g with stack := rest }).pushFrame (.throwing q)))
def vx_X {S : Type} (px : S → Prop) (B : String → S → State → Prop) (A : Nat → Prop) : String → State → State → Prop := fun E st t => ∃ u : S, px u ∧ B E u t ∧ va_F A st t
section Runs
variable {p : Program} {l : Launch} {e : Env} {R : Room} {s : State} {m : MethodId} {args : Array Value} {below : List Frame} {meth : Method} {c : Code} {H : Heap} {locs : List Loc} {cells slots : Nat}
variable {y : MethodName} {bytes cc : ByteArray} {maxL nL mc ms n index : Nat} {ret : Option FieldType} {ws : List Cond} {rm : Room} {Pc : Array Value → State → Prop} {Qc : Array Value → State → Outcome → State → Prop} {XC : String → State → State → Prop} {free : Addr → Prop} {Ts : List Cond} {own C : String} {b : Addr} {As rest : List Value} {g : JFrame}
theorem vx_callBack (cb : CallB R s args own index y bytes maxL ret ws rm mc ms n) (hM : vx_Met l y ws rm Pc Qc XC mc ms free) (hbl : FrameBlind Pc) : vx_Back l R p e below s args y 3 8 (PreOf R mc ms Pc) (PostOf Qc mc ms free) (vx_Post XC mc ms free) := by
  obtain ⟨hrc, hrs, hfr, hlo, hws, hcw, -, hini, -⟩ := cb
  exact vx_back (bytes := bytes) (maxL := maxL) (ret := ret) hM hbl hrc hrs hfr hlo hws hcw (fun a' U hW => word_at hW (Or.inl (by first | rfl | simp [Cond.onTables, Cond.keeps, Cond.steady])) hini)
theorem vx_runV (S : CallFix p m c cc nL s args Ts own) (hM : vx_Met l y ws rm Pc Qc XC mc ms free) (cw : CallW R s args own C index y bytes maxL ret ws rm mc ms n) (hp : PreV s H C b Pc As)
    (hg : g.method = m) (hn : As.length = n) (hsize : g.locals.size = nL) (hstack : g.stack = As.reverse ++ .ref b :: rest) (hW : 2 * g.monitorRoom + (rest.map fun v => v.category).sum ≤ 8) (hdg : decode cc g.pc = .ok (.invokevirtual index, 3)) (hf : cells + mc ≤ R.cells ∧ slots + ms ≤ R.slots) :
    vx_Run p l e R s m args below meth c H locs cells slots mc ms g rest (Qc (Value.ref b :: As).toArray) XC free := by
  have hK : vx_Back l R p e below s args y 3 8 (PreOf R mc ms Pc) (PostOf Qc mc ms free) (vx_Post XC mc ms free) := vx_callBack cw.1 hM hp.1
  obtain ⟨⟨-, -, -, -, -, -, hcode, -, hy, hlen, hl⟩, hin, hse⟩ := cw
  obtain ⟨hx, hb, hml, ho, -⟩ := S
  obtain ⟨-, ⟨cellB, hcB, hoB, hclB⟩, hPc⟩ := hp
  intro T hT X
  rcases vx_callV X hx (C := C) (bytes := bytes) (maxL := maxL) (ret := ret) ho hl hin hse hcode hy hK (by rw [hT]; exact hcB) hoB hclB hg (hsize.trans hml.symm) (argsL := As) (rest := rest) (fun sig h => hn.trans (hlen sig h)) hstack hW (by rw [hb]; exact hdg)
    (fun vm₁ hW₁ => ⟨hf.1, hf.2, hPc (T.setVm vm₁) hT hW₁⟩) with ⟨v, vm₁, ⟨U', l2, c2, s2⟩, hW₁, X', ⟨g', mk, t, L, e1, e2, hq, h1, hL, h2, h3⟩, st⟩ | ⟨q, vm₁, ⟨U', l2, c2, s2⟩, hW₁, X', ⟨g', mk, t, L, E, ce, e1, e2, hq, hce, hcv, hcl, h1, hL, h2, h3⟩, st⟩
  · dsimp only [Pt.U, Pt.locs, Pt.cells, Pt.slots] at X' e1 e2 h1 h2 h3 st
    subst h1; subst h2; subst h3
    exact Or.inl ⟨v, (T.setVm vm₁).calling g' mk (Value.ref b :: As).toArray, t, U', L, hT, X', hL, e1, e2, hq, st⟩
  · dsimp only [Pt.U, Pt.locs, Pt.cells, Pt.slots] at X' e1 e2 h1 h2 h3 st hcl
    subst h1; subst h2; subst h3
    exact Or.inr ⟨q, (T.setVm vm₁).calling g' mk (Value.ref b :: As).toArray, t, U', L, E, ce, hT, X', hL, e1, e2, hq, hce, hcv, vx_cls hW₁ hcl, st⟩
theorem vx_runS (S : CallFix p m c cc nL s args Ts own) (hM : vx_Met l y ws rm Pc Qc XC mc ms free) (cw : CallB R s args own index y bytes maxL ret ws rm mc ms n ∧ (Cond.static y).before args s = true) (hp : PreS s H Pc As)
    (hg : g.method = m) (hn : As.length = n) (hsize : g.locals.size = nL) (hstack : g.stack = As.reverse ++ rest) (hW : 2 * g.monitorRoom + (rest.map fun v => v.category).sum ≤ 8) (hdg : decode cc g.pc = .ok (.invokestatic index, 3)) (hf : cells + mc ≤ R.cells ∧ slots + ms ≤ R.slots) :
    vx_Run p l e R s m args below meth c H locs cells slots mc ms g rest (Qc As.toArray) XC free := by
  have hK : vx_Back l R p e below s args y 3 8 (PreOf R mc ms Pc) (PostOf Qc mc ms free) (vx_Post XC mc ms free) := vx_callBack cw.1 hM hp.1
  obtain ⟨⟨-, -, -, -, -, -, hcode, hini, hy, hlen, hl⟩, hstt⟩ := cw
  obtain ⟨hx, hb, hml, ho, -⟩ := S
  intro T hT X
  rcases vx_callS X hx (bytes := bytes) (maxL := maxL) (ret := ret) ho hl hstt hini hcode hy hK hg (hsize.trans hml.symm) (argsL := As) (rest := rest) (fun sig h => hn.trans (hlen sig h)) hstack hW (by rw [hb]; exact hdg)
    (fun vm₁ hW₁ => ⟨hf.1, hf.2, hp.2 (T.setVm vm₁) hT hW₁⟩) with ⟨v, vm₁, ⟨U', l2, c2, s2⟩, hW₁, X', ⟨g', mk, t, L, e1, e2, hq, h1, hL, h2, h3⟩, st⟩ | ⟨q, vm₁, ⟨U', l2, c2, s2⟩, hW₁, X', ⟨g', mk, t, L, E, ce, e1, e2, hq, hce, hcv, hcl, h1, hL, h2, h3⟩, st⟩
  · dsimp only [Pt.U, Pt.locs, Pt.cells, Pt.slots] at X' e1 e2 h1 h2 h3 st
    subst h1; subst h2; subst h3
    exact Or.inl ⟨v, (T.setVm vm₁).calling g' mk As.toArray, t, U', L, hT, X', hL, e1, e2, hq, st⟩
  · dsimp only [Pt.U, Pt.locs, Pt.cells, Pt.slots] at X' e1 e2 h1 h2 h3 st hcl
    subst h1; subst h2; subst h3
    exact Or.inr ⟨q, (T.setVm vm₁).calling g' mk As.toArray, t, U', L, E, ce, hT, X', hL, e1, e2, hq, hce, hcv, vx_cls hW₁ hcl, st⟩
end Runs
section Rows
variable {p : Program} {l : Launch} {e : Env} {R : Room} {s : State} {m : MethodId} {args : Array Value} {below : List Frame} {meth : Method} {c : Code} {H : Heap} {locs : List Loc} {cells slots : Nat} {Q : State → Prop}
variable {mc ms : Nat} {free : Addr → Prop} {A0 A1 : Nat → Prop} {H0 : Heap} {a : Array Value} {pc : Nat} {ls : Array Slot} {st0 rest : List Value}
theorem vx_keep {st₀ t T' : State} {L : List Loc} (h0 : st₀.heap = H) (e1 : T'.heap = t.heap) (hS : va_S A0 H0 H locs) (hA : ∀ q, q < H.size → A1 q → A0 q) (hf : ∀ q, free q → A0 q) (hL : ∀ q ∈ L, free q.base) (hF : va_F A1 st₀ t) :
    H.size ≤ T'.heap.size ∧ (∀ q : Nat, q < H.size → ¬ A1 q → T'.heap[q]? = H[q]?) ∧ va_S A0 H0 T'.heap (locs ++ L) := by
  obtain ⟨hz, hk⟩ := hF
  rw [h0] at hz hk
  exact ⟨by rw [e1]; exact hz, fun q h1 h2 => by rw [e1]; exact hk q h1 h2,
    ⟨Nat.le_trans hS.1 (by rw [e1]; exact hz), fun q h1 h2 => by rw [e1, hk q (Nat.lt_of_lt_of_le h1 hS.1) (fun z => h2 (hA q (Nat.lt_of_lt_of_le h1 hS.1) z))]; exact hS.2.1 q h1 h2, fun q hq => by
      rcases List.mem_append.mp hq with h | h
      · exact hS.2.2 q h
      · exact hf _ (hL q h)⟩⟩
theorem vx_calli {S SX : Type} {post : Int32 → S → Prop} {px : SX → Prop} {B : S → State → Prop} {BX : String → SX → State → Prop} {AX : Nat → Prop} (hr : vx_Run p l e R s m args below meth c H locs cells slots mc ms (F0 m pc ls st0) rest (va_Qi post B A1 a) (vx_X px BX AX) free) (hS : va_S A0 H0 H locs) (hA : ∀ q, q < H.size → A1 q → A0 q) (hf : ∀ q, free q → A0 q) (hAX : ∀ q, q < H.size → AX q → A0 q)
    (kx : ∀ (E : String) (ce : Cell) (q9 : Addr) (u : SX) (t : State) (H1 : Heap) (locs1 : List Loc), t.heap = H1 → s.vm.Alike t.vm → px u → BX E u t → H.size ≤ H1.size → (∀ q : Nat, q < H.size → ¬ AX q → H1[q]? = H[q]?) → va_S A0 H0 H1 locs1 → H1[q9]? = some ce → ce.vm = .none → s.vm.findClass E = some ce.cls → vx_W p l e R s m args below meth c H1 locs1 (cells + mc) (slots + ms) Q (F0 m pc ls rest) q9)
    (kk : ∀ (r : Int32) (u : S) (t : State) (H1 : Heap) (locs1 : List Loc), t.heap = H1 → s.vm.Alike t.vm → post r u → B u t → H.size ≤ H1.size → (∀ q : Nat, q < H.size → ¬ A1 q → H1[q]? = H[q]?) → va_S A0 H0 H1 locs1 → W p l e R s m args below meth c H1 locs1 (cells + mc) (slots + ms) Q (F0 m (pc + 3) ls (.int r :: rest))) : W p l e R s m args below meth c H locs cells slots Q (F0 m pc ls st0) := by
  intro T hT X
  rcases hr T hT X with ⟨v, st₀, t, T', L, h0, X', hL, e1, e2, ⟨⟨r, u, hv, hp, hb⟩, hF⟩, st⟩ | ⟨q, st₀, t, T', L, E, ce, h0, X', hL, e1, e2, ⟨u, hp, hb, hF⟩, hce, hcv, hcl, st⟩
  · cases hv
    obtain ⟨k1, k2, k3⟩ := vx_keep h0 e1 hS hA hf hL hF
    obtain ⟨t2, a1, b1⟩ := kk r u t T'.heap (locs ++ L) e1.symm (by rw [← e2]; exact X'.warmed.alike) hp hb k1 k2 k3 T' rfl X'
    exact ⟨t2, st t2 a1, b1⟩
  · obtain ⟨k1, k2, k3⟩ := vx_keep h0 e1 hS hAX hf hL hF
    obtain ⟨t2, a1, b1⟩ := kx E ce q u t T'.heap (locs ++ L) e1.symm (by rw [← e2]; exact X'.warmed.alike) hp hb k1 k2 k3 (by rw [e1]; exact hce) hcv hcl T' rfl X'
    exact ⟨t2, st.trans a1, b1⟩
theorem vx_calll {S SX : Type} {post : Int64 → S → Prop} {px : SX → Prop} {B : S → State → Prop} {BX : String → SX → State → Prop} {AX : Nat → Prop} (hr : vx_Run p l e R s m args below meth c H locs cells slots mc ms (F0 m pc ls st0) rest (va_Ql post B A1 a) (vx_X px BX AX) free) (hS : va_S A0 H0 H locs) (hA : ∀ q, q < H.size → A1 q → A0 q) (hf : ∀ q, free q → A0 q) (hAX : ∀ q, q < H.size → AX q → A0 q)
    (kx : ∀ (E : String) (ce : Cell) (q9 : Addr) (u : SX) (t : State) (H1 : Heap) (locs1 : List Loc), t.heap = H1 → s.vm.Alike t.vm → px u → BX E u t → H.size ≤ H1.size → (∀ q : Nat, q < H.size → ¬ AX q → H1[q]? = H[q]?) → va_S A0 H0 H1 locs1 → H1[q9]? = some ce → ce.vm = .none → s.vm.findClass E = some ce.cls → vx_W p l e R s m args below meth c H1 locs1 (cells + mc) (slots + ms) Q (F0 m pc ls rest) q9)
    (kk : ∀ (r : Int64) (u : S) (t : State) (H1 : Heap) (locs1 : List Loc), t.heap = H1 → s.vm.Alike t.vm → post r u → B u t → H.size ≤ H1.size → (∀ q : Nat, q < H.size → ¬ A1 q → H1[q]? = H[q]?) → va_S A0 H0 H1 locs1 → W p l e R s m args below meth c H1 locs1 (cells + mc) (slots + ms) Q (F0 m (pc + 3) ls (.long r :: rest))) : W p l e R s m args below meth c H locs cells slots Q (F0 m pc ls st0) := by
  intro T hT X
  rcases hr T hT X with ⟨v, st₀, t, T', L, h0, X', hL, e1, e2, ⟨⟨r, u, hv, hp, hb⟩, hF⟩, st⟩ | ⟨q, st₀, t, T', L, E, ce, h0, X', hL, e1, e2, ⟨u, hp, hb, hF⟩, hce, hcv, hcl, st⟩
  · cases hv
    obtain ⟨k1, k2, k3⟩ := vx_keep h0 e1 hS hA hf hL hF
    obtain ⟨t2, a1, b1⟩ := kk r u t T'.heap (locs ++ L) e1.symm (by rw [← e2]; exact X'.warmed.alike) hp hb k1 k2 k3 T' rfl X'
    exact ⟨t2, st t2 a1, b1⟩
  · obtain ⟨k1, k2, k3⟩ := vx_keep h0 e1 hS hAX hf hL hF
    obtain ⟨t2, a1, b1⟩ := kx E ce q u t T'.heap (locs ++ L) e1.symm (by rw [← e2]; exact X'.warmed.alike) hp hb k1 k2 k3 (by rw [e1]; exact hce) hcv hcl T' rfl X'
    exact ⟨t2, st.trans a1, b1⟩
theorem vx_callf {S SX : Type} {post : UInt32 → S → Prop} {px : SX → Prop} {B : S → State → Prop} {BX : String → SX → State → Prop} {AX : Nat → Prop} (hr : vx_Run p l e R s m args below meth c H locs cells slots mc ms (F0 m pc ls st0) rest (va_Qf post B A1 a) (vx_X px BX AX) free) (hS : va_S A0 H0 H locs) (hA : ∀ q, q < H.size → A1 q → A0 q) (hf : ∀ q, free q → A0 q) (hAX : ∀ q, q < H.size → AX q → A0 q)
    (kx : ∀ (E : String) (ce : Cell) (q9 : Addr) (u : SX) (t : State) (H1 : Heap) (locs1 : List Loc), t.heap = H1 → s.vm.Alike t.vm → px u → BX E u t → H.size ≤ H1.size → (∀ q : Nat, q < H.size → ¬ AX q → H1[q]? = H[q]?) → va_S A0 H0 H1 locs1 → H1[q9]? = some ce → ce.vm = .none → s.vm.findClass E = some ce.cls → vx_W p l e R s m args below meth c H1 locs1 (cells + mc) (slots + ms) Q (F0 m pc ls rest) q9)
    (kk : ∀ (r : UInt32) (u : S) (t : State) (H1 : Heap) (locs1 : List Loc), t.heap = H1 → s.vm.Alike t.vm → post r u → B u t → H.size ≤ H1.size → (∀ q : Nat, q < H.size → ¬ A1 q → H1[q]? = H[q]?) → va_S A0 H0 H1 locs1 → W p l e R s m args below meth c H1 locs1 (cells + mc) (slots + ms) Q (F0 m (pc + 3) ls (.float r :: rest))) : W p l e R s m args below meth c H locs cells slots Q (F0 m pc ls st0) := by
  intro T hT X
  rcases hr T hT X with ⟨v, st₀, t, T', L, h0, X', hL, e1, e2, ⟨⟨r, u, hv, hp, hb⟩, hF⟩, st⟩ | ⟨q, st₀, t, T', L, E, ce, h0, X', hL, e1, e2, ⟨u, hp, hb, hF⟩, hce, hcv, hcl, st⟩
  · cases hv
    obtain ⟨k1, k2, k3⟩ := vx_keep h0 e1 hS hA hf hL hF
    obtain ⟨t2, a1, b1⟩ := kk r u t T'.heap (locs ++ L) e1.symm (by rw [← e2]; exact X'.warmed.alike) hp hb k1 k2 k3 T' rfl X'
    exact ⟨t2, st t2 a1, b1⟩
  · obtain ⟨k1, k2, k3⟩ := vx_keep h0 e1 hS hAX hf hL hF
    obtain ⟨t2, a1, b1⟩ := kx E ce q u t T'.heap (locs ++ L) e1.symm (by rw [← e2]; exact X'.warmed.alike) hp hb k1 k2 k3 (by rw [e1]; exact hce) hcv hcl T' rfl X'
    exact ⟨t2, st.trans a1, b1⟩
theorem vx_calld {S SX : Type} {post : UInt64 → S → Prop} {px : SX → Prop} {B : S → State → Prop} {BX : String → SX → State → Prop} {AX : Nat → Prop} (hr : vx_Run p l e R s m args below meth c H locs cells slots mc ms (F0 m pc ls st0) rest (va_Qd post B A1 a) (vx_X px BX AX) free) (hS : va_S A0 H0 H locs) (hA : ∀ q, q < H.size → A1 q → A0 q) (hf : ∀ q, free q → A0 q) (hAX : ∀ q, q < H.size → AX q → A0 q)
    (kx : ∀ (E : String) (ce : Cell) (q9 : Addr) (u : SX) (t : State) (H1 : Heap) (locs1 : List Loc), t.heap = H1 → s.vm.Alike t.vm → px u → BX E u t → H.size ≤ H1.size → (∀ q : Nat, q < H.size → ¬ AX q → H1[q]? = H[q]?) → va_S A0 H0 H1 locs1 → H1[q9]? = some ce → ce.vm = .none → s.vm.findClass E = some ce.cls → vx_W p l e R s m args below meth c H1 locs1 (cells + mc) (slots + ms) Q (F0 m pc ls rest) q9)
    (kk : ∀ (r : UInt64) (u : S) (t : State) (H1 : Heap) (locs1 : List Loc), t.heap = H1 → s.vm.Alike t.vm → post r u → B u t → H.size ≤ H1.size → (∀ q : Nat, q < H.size → ¬ A1 q → H1[q]? = H[q]?) → va_S A0 H0 H1 locs1 → W p l e R s m args below meth c H1 locs1 (cells + mc) (slots + ms) Q (F0 m (pc + 3) ls (.double r :: rest))) : W p l e R s m args below meth c H locs cells slots Q (F0 m pc ls st0) := by
  intro T hT X
  rcases hr T hT X with ⟨v, st₀, t, T', L, h0, X', hL, e1, e2, ⟨⟨r, u, hv, hp, hb⟩, hF⟩, st⟩ | ⟨q, st₀, t, T', L, E, ce, h0, X', hL, e1, e2, ⟨u, hp, hb, hF⟩, hce, hcv, hcl, st⟩
  · cases hv
    obtain ⟨k1, k2, k3⟩ := vx_keep h0 e1 hS hA hf hL hF
    obtain ⟨t2, a1, b1⟩ := kk r u t T'.heap (locs ++ L) e1.symm (by rw [← e2]; exact X'.warmed.alike) hp hb k1 k2 k3 T' rfl X'
    exact ⟨t2, st t2 a1, b1⟩
  · obtain ⟨k1, k2, k3⟩ := vx_keep h0 e1 hS hAX hf hL hF
    obtain ⟨t2, a1, b1⟩ := kx E ce q u t T'.heap (locs ++ L) e1.symm (by rw [← e2]; exact X'.warmed.alike) hp hb k1 k2 k3 (by rw [e1]; exact hce) hcv hcl T' rfl X'
    exact ⟨t2, st.trans a1, b1⟩
theorem vx_callv {S SX : Type} {post : S → Prop} {px : SX → Prop} {B : S → State → Prop} {BX : String → SX → State → Prop} {AX : Nat → Prop} (hr : vx_Run p l e R s m args below meth c H locs cells slots mc ms (F0 m pc ls st0) rest (va_Qv post B A1 a) (vx_X px BX AX) free) (hS : va_S A0 H0 H locs) (hA : ∀ q, q < H.size → A1 q → A0 q) (hf : ∀ q, free q → A0 q) (hAX : ∀ q, q < H.size → AX q → A0 q)
    (kx : ∀ (E : String) (ce : Cell) (q9 : Addr) (u : SX) (t : State) (H1 : Heap) (locs1 : List Loc), t.heap = H1 → s.vm.Alike t.vm → px u → BX E u t → H.size ≤ H1.size → (∀ q : Nat, q < H.size → ¬ AX q → H1[q]? = H[q]?) → va_S A0 H0 H1 locs1 → H1[q9]? = some ce → ce.vm = .none → s.vm.findClass E = some ce.cls → vx_W p l e R s m args below meth c H1 locs1 (cells + mc) (slots + ms) Q (F0 m pc ls rest) q9)
    (kk : ∀ (u : S) (t : State) (H1 : Heap) (locs1 : List Loc), t.heap = H1 → s.vm.Alike t.vm → post u → B u t → H.size ≤ H1.size → (∀ q : Nat, q < H.size → ¬ A1 q → H1[q]? = H[q]?) → va_S A0 H0 H1 locs1 → W p l e R s m args below meth c H1 locs1 (cells + mc) (slots + ms) Q (F0 m (pc + 3) ls (rest))) : W p l e R s m args below meth c H locs cells slots Q (F0 m pc ls st0) := by
  intro T hT X
  rcases hr T hT X with ⟨v, st₀, t, T', L, h0, X', hL, e1, e2, ⟨⟨u, hv, hp, hb⟩, hF⟩, st⟩ | ⟨q, st₀, t, T', L, E, ce, h0, X', hL, e1, e2, ⟨u, hp, hb, hF⟩, hce, hcv, hcl, st⟩
  · cases hv
    obtain ⟨k1, k2, k3⟩ := vx_keep h0 e1 hS hA hf hL hF
    obtain ⟨t2, a1, b1⟩ := kk u t T'.heap (locs ++ L) e1.symm (by rw [← e2]; exact X'.warmed.alike) hp hb k1 k2 k3 T' rfl X'
    exact ⟨t2, st t2 a1, b1⟩
  · obtain ⟨k1, k2, k3⟩ := vx_keep h0 e1 hS hAX hf hL hF
    obtain ⟨t2, a1, b1⟩ := kx E ce q u t T'.heap (locs ++ L) e1.symm (by rw [← e2]; exact X'.warmed.alike) hp hb k1 k2 k3 (by rw [e1]; exact hce) hcv hcl T' rfl X'
    exact ⟨t2, st.trans a1, b1⟩
/-- caught by the row x of this method's table; the rows ahead don't take it -/
theorem vx_catch {own name : String} {E : String} {ce : Cell} {q : Addr} (hown : s.vm.findClass own = some m.cls) (pre : List ExceptionTableEntry) (x : ExceptionTableEntry) (suf : List ExceptionTableEntry) (hsplit : c.exceptionTable.toList = pre ++ x :: suf)
    (hpass : ∀ z ∈ pre, covers z pc = false ∨ (z.catchType ≠ 0 ∧ ∃ nm : String, (Cond.classLink own z.catchType nm).before args s = true ∧ va_Nc E nm s)) (hx : covers x pc = true) (h0 : x.catchType ≠ 0)
    (hlink : (Cond.classLink own x.catchType name).before args s = true) (hcast : (Cond.castable E name).before args s = true) (hcell : H[q]? = some ce) (hv : ce.vm = .none) (hcl : s.vm.findClass E = some ce.cls)
    (kk : W p l e R s m args below meth c H locs cells slots Q (F0 m x.handlerPc ls [.ref q])) : vx_W p l e R s m args below meth c H locs cells slots Q (F0 m pc ls rest) q := by
  intro T hT X
  have hpl : e.platform.magicAccessors = ({} : Platform).magicAccessors := by rw [X.admits.platform]
  obtain ⟨c3, c4, hc3, hc4, hasg⟩ := Cond.castable_spec hcast
  cases Option.some.inj (hc3.symm.trans hcl)
  obtain ⟨c5, hc5, hcl5⟩ := Cond.classLink_spec hown hlink e.platform hpl
  cases Option.some.inj (hc4.symm.trans hc5)
  obtain ⟨vm', X', st⟩ := X.thenCaughtThrough q (g := F0 m pc ls rest) rfl (Steps.refl _) (by rw [hT]; exact hcell) (by rw [hv]; rfl) (by obtain ⟨k9, h9, -⟩ := Vm.findClass_spec hcl; exact ⟨k9, h9⟩) pre x suf hsplit
    (fun z hz => by
      rcases hpass z hz with h | ⟨hz0, nm, hl1, hn1⟩
      · exact Or.inl h
      · obtain ⟨c6, hc6, hcl6⟩ := Cond.classLink_spec hown hl1 e.platform hpl
        obtain ⟨a8, b8, h1, h2, h3⟩ := hn1
        cases Option.some.inj (h1.symm.trans hcl)
        cases Option.some.inj (h2.symm.trans hc6)
        exact Or.inr ⟨hz0, _, hcl6, h3⟩) hx (Or.inr ⟨h0, c4, hcl5, hasg⟩)
  obtain ⟨t, a1, b1⟩ := kk (T.setVm vm') hT X'
  exact ⟨t, st.trans a1, b1⟩
end Rows
section Ends
variable {p : Program} {l : Launch} {e : Env} {R : Room} {s : State} {m : MethodId} {args : Array Value} {below : List Frame} {meth : Method} {c : Code} {H : Heap} {locs : List Loc} {cells slots : Nat} {Q : State → Prop}
variable {mc ms : Nat} {free : Addr → Prop} {A0 A1 : Nat → Prop} {H0 : Heap} {a : Array Value} {ls : Array Slot} {st0 rest : List Value}
variable {Qc : Array Value → State → Outcome → State → Prop} {XC : String → State → State → Prop}
/-- what a body that may throw owes at its end -/
def vx_MQ (below : List Frame) (Qc : Array Value → State → Outcome → State → Prop) (XC : String → State → State → Prop) (a : Array Value) (s : State) (mc ms : Nat) (free : Addr → Prop) : State → Prop := fun t =>
  ∃ o, t.status = .running ∧ Ended t below o ∧ vx_Q Qc XC mc ms free a s o t
theorem vx_ret {g : JFrame} {mc ms : Nat} (k : W p l e R s m args below meth c H locs cells slots (MQ below Qc args s mc ms free) g) : W p l e R s m args below meth c H locs cells slots (vx_MQ below Qc XC args s mc ms free) g := by
  intro T hT X
  obtain ⟨t, a1, o, b1, b2, b3, b4⟩ := k T hT X
  exact ⟨t, a1, o, b1, b2, Or.inl ⟨b3, b4⟩⟩
/-- not caught here: it goes on to the caller -/
theorem vx_widen {g : JFrame} {q : Addr} {k n : Nat} (h1 : cells ≤ k) (h2 : slots ≤ n) (kk : vx_W p l e R s m args below meth c H locs k n Q g q) : vx_W p l e R s m args below meth c H locs cells slots Q g q := fun T hT X => kk T hT (stand_widen X h1 h2)
theorem vx_out {pc : Nat} {E : String} {ce : Cell} {q : Addr} {mc ms : Nat} (hout : ∀ x ∈ c.exceptionTable.toList, covers x pc = false) (hlocks : meth.locks = false) (hcell : H[q]? = some ce) (hv : ce.vm = .none) (hcl : s.vm.findClass E = some ce.cls)
    (hx : ∀ t : State, t.heap = H → s.vm.Alike t.vm → XC E s t) (hf : ∀ z ∈ locs, free z.base) (hc : cells ≤ mc) (hs : slots ≤ ms) :
    vx_W p l e R s m args below meth c H locs cells slots (vx_MQ below Qc XC args s mc ms free) (F0 m pc ls rest) q := by
  intro T hT X
  obtain ⟨st1, hrun, hend, hW, hsm⟩ := X.leaveThrown q (g := F0 m pc ls rest) rfl rfl rfl hout hlocks
  have hcell9 : (T.setFrames (.throwing q :: below)).heap[q]? = some ce := by
    show T.heap[q]? = some ce
    rw [hT]; exact hcell
  exact ⟨_, st1, .threw q, hrun, hend, Or.inr ⟨q, rfl, E, ce, locs, hx _ hT hW.alike, hcell9, hv, hcl, hW, hsm.mono hc hs, hf⟩⟩
theorem vx_frame {U : State} {k n : Nat} (h : s.sameButNew ({ U with vm := s.vm } : State) locs k n) : s.heap.size ≤ U.heap.size ∧ ∀ q : Nat, q < s.heap.size → (∀ z ∈ locs, z.base ≠ q) → U.heap[q]? = s.heap[q]? := by
  obtain ⟨-, h2, -, -, -, h6⟩ := h
  refine ⟨h2, fun q hq hz => ?_⟩
  obtain ⟨c9, e1, e2, e3, e4⟩ := h6 q _ (Array.getElem?_eq_getElem hq)
  have hs : c9.slots = (s.heap[q]).slots := Array.ext_getElem? fun i => e4 i fun hm => hz _ hm rfl
  have h9 : c9 = s.heap[q] := by
    rw [hs] at e2
    exact e2
  have e5 : U.heap[q]? = some c9 := e1
  rw [e5, h9, Array.getElem?_eq_getElem hq]
/-- the words of a throw but the four that speak of the heap -/
def vx_no (w : Cond) : Bool := decide (w ≠ .isRef (.static Bundle.tN "UNASSIGNED_STACK" Bundle.steD)) && decide (w ≠ .isRef (.static Bundle.tN "SUPPRESSED_SENTINEL" Bundle.listD)) && decide (w ≠ .laysStatic Bundle.tN "UNASSIGNED_STACK" Bundle.steD) && decide (w ≠ .laysStatic Bundle.tN "SUPPRESSED_SENTINEL" Bundle.listD)
def vx_at0 (own : String) (ic : Nat) (X : String) (names : List String) : List Cond := (Bundle.ownAtoms0 own ic X names).filter vx_no
def vx_atS (own : String) (ic : Nat) (X : String) (names : List String) : List Cond := (Bundle.ownAtoms own ic X names).filter vx_no
/-- a word that the tables alone decide, or a good one -/
def vx_ot (w : Cond) : Bool := w.onTables || goodWord w
theorem vx_ot_at {args a' : Array Value} {s U : State} {w : Cond} (hW : s.WarmedH U.vm) (hvm : s.vm = U.vm) (hg : vx_ot w = true) (h : w.before args s = true) : w.before a' U = true := by
  simp only [vx_ot, Bool.or_eq_true] at hg
  rcases hg with hg | hg
  · exact va_tabs hg hvm h
  · exact word_at hW (good_of_word hg) h
/-- a list's words: the good ones out of the method's own list, the others by premises of their own -/
theorem vx_hat {args : Array Value} {s : State} {L B : List Cond} (h1 : ∀ w ∈ L.filter goodWord, w.before args s = true) (h2 : ∀ w ∈ L.filter (fun w => !goodWord w), w ∈ B) (h3 : ∀ w ∈ B, w.before args s = true) : ∀ w ∈ L, w.before args s = true := by
  intro w hw
  by_cases g : goodWord w = true
  · exact h1 w (List.mem_filter.mpr ⟨hw, g⟩)
  · refine h3 w (h2 w (List.mem_filter.mpr ⟨hw, ?_⟩))
    show (!goodWord w) = true
    cases hgw : goodWord w
    · rfl
    · exact absurd hgw g
theorem vx_c {args : Array Value} {s : State} {w : Cond} {B : List Cond} (h : w.before args s = true) (t : ∀ w ∈ B, w.before args s = true) : ∀ w' ∈ w :: B, w'.before args s = true := fun w' h' => (List.mem_cons.mp h').elim (fun e => by rw [e]; exact h) (t w')
theorem vx_n {args : Array Value} {s : State} : ∀ w ∈ ([] : List Cond), w.before args s = true := fun _ h => nomatch h
theorem vx_own {args : Array Value} {s : State} {L : List Cond} (h1 : ∀ w ∈ L.filter vx_no, w.before args s = true)
    (hU : (Cond.isRef (.static Bundle.tN "UNASSIGNED_STACK" Bundle.steD)).before args s = true) (hN : (Cond.isRef (.static Bundle.tN "SUPPRESSED_SENTINEL" Bundle.listD)).before args s = true)
    (lU : (Cond.laysStatic Bundle.tN "UNASSIGNED_STACK" Bundle.steD).before args s = true) (lN : (Cond.laysStatic Bundle.tN "SUPPRESSED_SENTINEL" Bundle.listD).before args s = true) : ∀ w ∈ L, w.before args s = true := by
  intro w hw
  by_cases e1 : w = .isRef (.static Bundle.tN "UNASSIGNED_STACK" Bundle.steD)
  · rw [e1]; exact hU
  · by_cases e2 : w = .isRef (.static Bundle.tN "SUPPRESSED_SENTINEL" Bundle.listD)
    · rw [e2]; exact hN
    · by_cases e3 : w = .laysStatic Bundle.tN "UNASSIGNED_STACK" Bundle.steD
      · rw [e3]; exact lU
      · by_cases e4 : w = .laysStatic Bundle.tN "SUPPRESSED_SENTINEL" Bundle.listD
        · rw [e4]; exact lN
        · exact h1 w (List.mem_filter.mpr ⟨hw, by unfold vx_no; rw [decide_eq_true e1, decide_eq_true e2, decide_eq_true e3, decide_eq_true e4]; rfl⟩)
/-- where a static field lies, its class's statics cell in H -/
def vx_L (C n d : String) (A : Nat → Prop) (U : State) (H : Heap) : Prop := ∃ (c : ClassId) (k : Class) (i : Nat) (f : Field) (a : Nat) (cell : Cell), U.vm.findClass C = some c ∧ U.fieldFound? C n d = some (c, k, i, f) ∧ f.isStatic = true ∧ k.statics = some a ∧ H[a]? = some cell ∧ cell.vm.isStatics = true ∧ cell.cls = c ∧ f.slot < cell.slots.size ∧ k.staticTypes[f.slot]? = some f.type ∧ ¬ A a
theorem vx_L.moved {C n d : String} {A : Nat → Prop} {u U : State} {H : Heap} (hvm : u.vm.Alike U.vm) (h : vx_L C n d A u H) : vx_L C n d A U H := by
  obtain ⟨c, k, i, f, a, cell, h1, h2, h3, h4, h5, h6, h7, h8, h9, h10⟩ := h
  obtain ⟨k', hi', he⟩ := State.fieldFound?_setVm hvm h2
  exact ⟨c, k', i, f, a, cell, by rw [hvm.findClass]; exact h1, hi', h3, by rw [he]; exact h4, h5, h6, h7, h8, by rw [he]; exact h9, h10⟩
theorem vx_L.kept {C n d : String} {A : Nat → Prop} {U : State} {H H1 : Heap} (h : vx_L C n d A U H) (hq : ∀ a : Nat, a < H.size → ¬ A a → H1[a]? = H[a]?) : vx_L C n d A U H1 := by
  obtain ⟨c, k, i, f, a, cell, h1, h2, h3, h4, h5, h6, h7, h8, h9, h10⟩ := h
  exact ⟨c, k, i, f, a, cell, h1, h2, h3, h4, by rw [hq a (Array.getElem?_eq_some_iff.mp h5).1 h10]; exact h5, h6, h7, h8, h9, h10⟩
theorem vx_L.narrow {C n d : String} {A B : Nat → Prop} {U : State} {H : Heap} (h : vx_L C n d A U H) (hAB : ∀ q, B q → A q) : vx_L C n d B U H := by
  obtain ⟨c, k, i, f, a, cell, h1, h2, h3, h4, h5, h6, h7, h8, h9, h10⟩ := h
  exact ⟨c, k, i, f, a, cell, h1, h2, h3, h4, h5, h6, h7, h8, h9, fun z => h10 (hAB _ z)⟩
theorem vx_L.word {C n d : String} {A : Nat → Prop} {s : State} {args : Array Value} (h : vx_L C n d A s s.heap) : (Cond.laysStatic C n d).before args s = true := by
  obtain ⟨c, k, i, f, a, cell, h1, h2, h3, h4, h5, h6, h7, h8, h9, -⟩ := h
  show (Cond.laysStatic C n d).holds args s none s [] = true
  exact Cond.laysStatic_of h1 h2 h3 h4 h5 h6 h7 h8 h9
/-- .. and what it holds: null or some reference -/
def vx_Zq (C n d : String) (A : Nat → Prop) (U : State) (H : Heap) : Prop := va_Zq C n d A U H ∧ vx_L C n d A U H
theorem vx_Zq.moved {C n d : String} {A : Nat → Prop} {u U : State} {H : Heap} (hvm : u.vm.Alike U.vm) (h : vx_Zq C n d A u H) : vx_Zq C n d A U H := ⟨va_Zq.moved hvm h.1, vx_L.moved hvm h.2⟩
theorem vx_Zq.kept {C n d : String} {A : Nat → Prop} {U : State} {H H1 : Heap} (h : vx_Zq C n d A U H) (hq : ∀ a : Nat, a < H.size → ¬ A a → H1[a]? = H[a]?) : vx_Zq C n d A U H1 := ⟨va_Zq.kept h.1 hq, vx_L.kept h.2 hq⟩
theorem vx_Zq.narrow {C n d : String} {A B : Nat → Prop} {U : State} {H : Heap} (h : vx_Zq C n d A U H) (hAB : ∀ q, B q → A q) : vx_Zq C n d B U H := ⟨va_Zq.narrow h.1 hAB, vx_L.narrow h.2 hAB⟩
theorem vx_Zqof {args : Array Value} {s : State} {C n d : String} {A : Nat → Prop} (hl : (Cond.laysStatic C n d).before args s = true) (hini : (Cond.initialized C).before args s = true) (h : (Cond.isRef (.static C n d)).before args s = true) (hA : ∀ a : Nat, a < s.heap.size → ¬ A a) : vx_Zq C n d A s s.heap := by
  refine ⟨va_Zqof hl hini h hA, ?_⟩
  obtain ⟨c, k, i, f, a, cell, h1, h2, h3, h4, h5, h6, h7, h8, h9⟩ := Cond.laysStatic_spec hl
  exact ⟨c, k, i, f, a, cell, h1, h2, h3, h4, h5, h6, h7, h8, h9, hA a (Array.getElem?_eq_some_iff.mp h5).1⟩
theorem vx_isRef {C n d : String} {v : Value} {A : Nat → Prop} {s : State} {args : Array Value} (h : va_Z C n d v A s s.heap) (hv : v.isRef = true) : (Cond.isRef (.static C n d)).before args s = true := by
  obtain ⟨cf, kf, fi, f, a, cell, h1, h2, h3, h4, h5, h6, h7, -⟩ := h
  have he : (Term.static C n d).eval args s none [] s = some v := by
    simp [Term.eval, State.fieldNamed?, h1, h2, h4, h5, h6, h7]
  simp only [Cond.before, Cond.holds, Cond.value, he]
  cases v <;> simp_all [Value.isRef]
theorem vx_isRefq {C n d : String} {A : Nat → Prop} {s : State} {args : Array Value} (h : va_Zq C n d A s s.heap) : (Cond.isRef (.static C n d)).before args s = true := by
  rcases h with h | ⟨t, h⟩
  · exact vx_isRef h rfl
  · exact vx_isRef h rfl
/-- the same frame, seen from here: as if the method were called anew in this heap -/
theorem vx_rebase {T : State} (X : Stand p l e R s m args below meth c T locs cells slots) {R' : Room} (hf : R'.frames ≤ R.frames) (hl : R'.locals ≤ R.locals) (hc : cells + R'.cells ≤ R.cells) (hs : slots + R'.slots ≤ R.slots) :
    Stand p l e R' ((T.setVm s.vm).setFrames (.invoking m args :: below)) m args below meth c T [] 0 0 := by
  have htop : (T.setVm s.vm).topJava?.isSome := X.here.top
  have hF : ((T.setVm s.vm).setFrames (.invoking m args :: below)).frames = .invoking m args :: below := State.frames_setFrames _ (State.cur_lt_of_top htop)
  obtain ⟨g₀, hg0⟩ := Option.isSome_iff_exists.mp htop
  obtain ⟨r, hr⟩ := State.topJava?_eq_some.mp hg0
  have hl9 : e.platform.stackLimits (T.setVm s.vm).me = e.platform.stackLimits s.me := X.limits
  have hb9 : (T.setVm s.vm).me.stackBytes = s.me.stackBytes := X.bytes
  refine ⟨X.admits, X.cas, X.clock, hF, ?_, X.hears, X.method, X.code, X.here, X.tail, X.warmed, ?_, ?_, ?_⟩
  · have h := X.room
    have hU : ((T.setVm s.vm).setFrames (.invoking m args :: below)).localsInUse = s.localsInUse := by
      rw [State.localsInUse_invoking hF (meth := meth) (c := c) X.method X.code, State.localsInUse_invoking X.frames X.method X.code]
    simp only [State.hasRoom, Bool.and_eq_true, decide_eq_true_eq] at h ⊢
    obtain ⟨⟨⟨⟨h1, h2, h3, h4, h5, h6⟩, h7⟩, h8⟩, h9⟩ := h
    rw [X.frames, List.length_cons] at h2 h3
    have q1 := X.heapSize
    have q2 := X.used
    simp only [hF, hU, List.length_cons, State.stackLimits_setFrames, State.stackBytes_setFrames, hl9, hb9]
    refine ⟨⟨⟨⟨by omega, by omega, by omega, by omega, by omega, h6⟩, ?_⟩, ?_⟩, X.book⟩
    · show T.heap.size + R'.cells ≤ e.platform.maxCells
      omega
    · show T.slotsUsed + R'.slots ≤ e.platform.maxSlots
      omega
  · rw [State.stackLimits_setFrames]; rfl
  · rw [State.stackBytes_setFrames]; rfl
  · refine ⟨?_, Nat.le_refl _, Nat.le_refl _, ?_, ?_, fun a c9 h9 => ⟨c9, h9, rfl, rfl, fun _ _ => rfl⟩⟩
    · obtain ⟨t, ht, -⟩ := State.frames_cons hr
      show T.setVm s.vm = { ((T.setVm s.vm).setFrames (.invoking m args :: below)).setFrames (T.setVm s.vm).frames with heap := T.heap, slotsUsed := T.slotsUsed }
      rw [State.setFrames_setFrames, State.setFrames_self ht]
      rfl
    · show T.slotsUsed = T.slotsUsed + ((T.heap.toList.drop T.heap.size).map (·.slots.size)).sum
      rw [List.drop_eq_nil_of_le (Nat.le_of_eq Array.length_toList)]
      rfl
    · show ((T.heap.toList.drop T.heap.size).map (·.slots.size)).sum ≤ 0
      rw [List.drop_eq_nil_of_le (Nat.le_of_eq Array.length_toList)]
      exact Nat.le_refl _
/-- 'throw new E()': new; dup; invokespecial; athrow -/
theorem vx_throw0 {cc : ByteArray} {pc : Nat} (hexec : p.tables.exec = Jvm.exec) (hb : c.code = cc) (hl : l.stackTraces = false) {own cls : String} {names : List String} {ik ic mc ms : Nat} {A : Nat → Prop}
    (hown : s.vm.findClass own = some m.cls) (hcls : Bundle.fit cls = true) (hnames : ∀ n ∈ names, Bundle.fit n = true)
    (hk : (Cond.classLink own ik cls).before args s = true) (hini : (Cond.initialized cls).before args s = true) (hat : ∀ w ∈ vx_at0 own ic cls names, w.before args s = true)
    (hgood : ∀ w ∈ Cond.classLink own ik cls :: Cond.initialized cls :: vx_at0 own ic cls names, vx_ot w = true)
    (hU : vx_Zq Bundle.tN "UNASSIGNED_STACK" Bundle.steD A s s.heap) (hN : vx_Zq Bundle.tN "SUPPRESSED_SENTINEL" Bundle.listD A s s.heap) (hS : va_S A s.heap H locs) (hsize : ls.size = c.maxLocals)
    (d0 : decode cc pc = .ok (.new ik, 3)) (d3 : decode cc (pc + 3) = .ok (.dup, 1)) (d4 : decode cc (pc + 4) = .ok (.invokespecial ic, 3)) (d7 : decode cc (pc + 7) = .ok (.athrow, 1))
    (hout : ∀ x ∈ c.exceptionTable.toList, covers x (pc + 7) = false)
    (hRframes : names.length + 3 < R.frames) (hRlocals : (rest.map fun v => v.category).sum + (13 * (names.length + 1) + 42) ≤ R.locals) (hRcells : cells + 1 ≤ R.cells) (hRslots : slots + 6 ≤ R.slots) (hlocks : meth.locks = false)
    (hx : ∀ t : State, s.vm.Alike t.vm → H.size ≤ t.heap.size → (∀ q : Nat, q < H.size → t.heap[q]? = H[q]?) → XC cls s t)
    (hf : ∀ z ∈ locs, free z.base) (hc : cells + 1 ≤ mc) (hs : slots + 6 ≤ ms) :
    W p l e R s m args below meth c H locs cells slots (vx_MQ below Qc XC args s mc ms free) (F0 m pc ls rest) := by
  intro T hT X
  have htr : e.platform.stackTraces = false := (show e.platform.stackTraces = l.stackTraces by rw [X.admits.platform]).trans hl
  have Y := vx_rebase X (R' := { frames := R.frames, locals := R.locals, cells := 1, slots := 6 }) (Nat.le_refl _) (Nat.le_refl _) hRcells hRslots
  obtain ⟨s', hA⟩ : ∃ z, z = (T.setVm s.vm).setFrames (.invoking m args :: below) := ⟨_, rfl⟩
  rw [← hA] at Y
  have hvm : s'.vm = s.vm := by rw [hA]; rfl
  have hhp : s'.heap = H := by rw [hA]; exact hT
  have hW0 : s.WarmedH s'.vm := by rw [hvm]; exact State.WarmedH.refl s
  have hat' : ∀ w ∈ vx_at0 own ic cls names, w.before args s' = true := fun w hw => vx_ot_at hW0 hvm.symm (hgood w (List.mem_cons_of_mem _ (List.mem_cons_of_mem _ hw))) (hat w hw)
  have hk' : (Cond.classLink own ik cls).before args s' = true := vx_ot_at hW0 hvm.symm (hgood _ List.mem_cons_self) hk
  have hini' : (Cond.initialized cls).before args s' = true := vx_ot_at hW0 hvm.symm (hgood _ (List.mem_cons_of_mem _ List.mem_cons_self)) hini
  have hU' : vx_Zq Bundle.tN "UNASSIGNED_STACK" Bundle.steD A s' s'.heap := by rw [hhp]; exact vx_Zq.moved hW0.alike (hU.kept hS.2.1)
  have hN' : vx_Zq Bundle.tN "SUPPRESSED_SENTINEL" Bundle.listD A s' s'.heap := by rw [hhp]; exact vx_Zq.moved hW0.alike (hN.kept hS.2.1)
  have h : ∀ w ∈ Bundle.ownAtoms0 own ic cls names, w.before args s' = true := vx_own hat' (vx_isRefq hU'.1) (vx_isRefq hN'.1) hU'.2.word hN'.2.word
  have hown' : s'.vm.findClass own = some m.cls := by rw [hvm]; exact hown
  have hins : (Cond.instantiable cls 6).before args s' = true := h _ (by simp [Bundle.ownAtoms0])
  obtain ⟨vm₁, cX, kX, hfX, hkX, -, -, X₁, st1⟩ := Y.newCold hexec (own := own) (C := cls) (index := ik) (n := 6) hown' hk' hins hini'
    (g := F0 m pc ls rest) rfl (by rw [hb]; exact d0) (Nat.le_refl _) (Nat.le_refl _)
  generalize hT1 : (T.setVm vm₁).pushCell { cls := cX, slots := kX.instanceTypes.map defaultValue, vm := .none } = T1 at X₁ st1
  have hcat : (Value.ref T.heap.size).category = 1 := rfl
  have hcellA : T1.heap[T.heap.size]? = some (freshCell cX kX) := by rw [← hT1]; exact State.heap_pushCell_size _ _
  have d3' : decode c.code (pc + 3) = .ok (.dup, 1) := by rw [hb]; exact d3
  obtain ⟨U, hsteps, hrun, hend, hW, hsame, ce, hce, hO⟩ := X₁.ctorThrow0 hexec htr (own := own) (cls := cls) (names := names) (ic := ic) hown' hcls hnames h (fun x hx => nomatch hx) hfX hkX hcellA (by rw [hhp, hT]; exact Nat.le_refl _)
    (g := { method := m, pc := pc + 4, locals := ls, stack := .ref T.heap.size :: .ref T.heap.size :: rest, locked := none }) rfl hsize rfl rfl (rest := rest) rfl
    (by rw [hb]; exact d4) (by rw [hb]; exact d7) hout hRframes (by simp only [List.map_cons, List.sum_cons, hcat]; omega) hlocks
  obtain ⟨f1, f2⟩ := vx_frame hsame
  rw [hhp] at f1 f2
  have hWs : s.WarmedH U.vm := State.WarmedH.trans hW0 hW
  have hcl : s.vm.findClass cls = some ce.cls := by
    have h9 := hO.cls
    rw [hvm] at h9
    exact h9
  have hall : s.sameButNew ({ U with vm := s.vm } : State) locs mc ms := by
    subst hA
    obtain ⟨e1, e2⟩ := hsame
    rw [State.setFrames_setFrames] at e1
    have h2 : (T.setVm s.vm).sameButNew ({ U with vm := s.vm } : State) [] (0 + 1) (0 + 6) := ⟨e1, e2⟩
    have h3 := X.same.trans h2
    rw [List.append_nil] at h3
    exact h3.mono hc hs
  refine ⟨U, ?_, .threw T.heap.size, hrun, hend, Or.inr ⟨T.heap.size, rfl, cls, ce, locs, hx U hWs.alike f1 (fun q hq => f2 q hq (fun z hz => nomatch hz)), hce, hO.vm, hcl, hWs, hall, hf⟩⟩
  refine st1 _ ?_
  show Steps p.tables e below (T1.setTop { method := m, pc := pc + 3, locals := ls, stack := .ref T.heap.size :: rest, locked := none }) _
  jvm_step X₁.here [X₁.here.top, hexec, d3', Value.category]
  exact hsteps
/-- 'throw new E("text")': new; dup; ldc; invokespecial; athrow -/
theorem vx_throwS {cc : ByteArray} {pc : Nat} (hexec : p.tables.exec = Jvm.exec) (hb : c.code = cc) (hl : l.stackTraces = false) {own cls text : String} {names : List String} {ik is ic mc ms sa : Nat} {A : Nat → Prop}
    (hown : s.vm.findClass own = some m.cls) (hcls : Bundle.fit cls = true) (hnames : ∀ n ∈ names, Bundle.fit n = true)
    (hk : (Cond.classLink own ik cls).before args s = true) (hini : (Cond.initialized cls).before args s = true) (hstr : vk_R own is text sa s) (hat : ∀ w ∈ vx_atS own ic cls names, w.before args s = true)
    (hgood : ∀ w ∈ Cond.classLink own ik cls :: Cond.initialized cls :: vx_atS own ic cls names, vx_ot w = true)
    (hU : vx_Zq Bundle.tN "UNASSIGNED_STACK" Bundle.steD A s s.heap) (hN : vx_Zq Bundle.tN "SUPPRESSED_SENTINEL" Bundle.listD A s s.heap) (hS : va_S A s.heap H locs) (hsize : ls.size = c.maxLocals)
    (d0 : decode cc pc = .ok (.new ik, 3)) (d3 : decode cc (pc + 3) = .ok (.dup, 1)) (d4 : decode cc (pc + 4) = .ok (.ldc is, 2)) (d6 : decode cc (pc + 6) = .ok (.invokespecial ic, 3)) (d9 : decode cc (pc + 9) = .ok (.athrow, 1))
    (hout : ∀ x ∈ c.exceptionTable.toList, covers x (pc + 9) = false)
    (hRframes : names.length + 3 < R.frames) (hRlocals : (rest.map fun v => v.category).sum + (13 * (names.length + 1) + 43) ≤ R.locals) (hRcells : cells + 1 ≤ R.cells) (hRslots : slots + 6 ≤ R.slots) (hlocks : meth.locks = false)
    (hx : ∀ t : State, s.vm.Alike t.vm → H.size ≤ t.heap.size → (∀ q : Nat, q < H.size → t.heap[q]? = H[q]?) → XC cls s t)
    (hf : ∀ z ∈ locs, free z.base) (hc : cells + 1 ≤ mc) (hs : slots + 6 ≤ ms) :
    W p l e R s m args below meth c H locs cells slots (vx_MQ below Qc XC args s mc ms free) (F0 m pc ls rest) := by
  intro T hT X
  have htr : e.platform.stackTraces = false := (show e.platform.stackTraces = l.stackTraces by rw [X.admits.platform]).trans hl
  have Y := vx_rebase X (R' := { frames := R.frames, locals := R.locals, cells := 1, slots := 6 }) (Nat.le_refl _) (Nat.le_refl _) hRcells hRslots
  obtain ⟨s', hA⟩ : ∃ z, z = (T.setVm s.vm).setFrames (.invoking m args :: below) := ⟨_, rfl⟩
  rw [← hA] at Y
  have hvm : s'.vm = s.vm := by rw [hA]; rfl
  have hhp : s'.heap = H := by rw [hA]; exact hT
  have hW0 : s.WarmedH s'.vm := by rw [hvm]; exact State.WarmedH.refl s
  have hat' : ∀ w ∈ vx_atS own ic cls names, w.before args s' = true := fun w hw => vx_ot_at hW0 hvm.symm (hgood w (List.mem_cons_of_mem _ (List.mem_cons_of_mem _ hw))) (hat w hw)
  have hk' : (Cond.classLink own ik cls).before args s' = true := vx_ot_at hW0 hvm.symm (hgood _ List.mem_cons_self) hk
  have hini' : (Cond.initialized cls).before args s' = true := vx_ot_at hW0 hvm.symm (hgood _ (List.mem_cons_of_mem _ List.mem_cons_self)) hini
  have hU' : vx_Zq Bundle.tN "UNASSIGNED_STACK" Bundle.steD A s' s'.heap := by rw [hhp]; exact vx_Zq.moved hW0.alike (hU.kept hS.2.1)
  have hN' : vx_Zq Bundle.tN "SUPPRESSED_SENTINEL" Bundle.listD A s' s'.heap := by rw [hhp]; exact vx_Zq.moved hW0.alike (hN.kept hS.2.1)
  have h : ∀ w ∈ Bundle.ownAtoms own ic cls names, w.before args s' = true := vx_own hat' (vx_isRefq hU'.1) (vx_isRefq hN'.1) hU'.2.word hN'.2.word
  have hown' : s'.vm.findClass own = some m.cls := by rw [hvm]; exact hown
  have hins : (Cond.instantiable cls 6).before args s' = true := h _ (by simp [Bundle.ownAtoms])
  obtain ⟨vm₁, cX, kX, hfX, hkX, -, -, X₁, st1⟩ := Y.newCold hexec (own := own) (C := cls) (index := ik) (n := 6) hown' hk' hins hini'
    (g := F0 m pc ls rest) rfl (by rw [hb]; exact d0) (Nat.le_refl _) (Nat.le_refl _)
  generalize hT1 : (T.setVm vm₁).pushCell { cls := cX, slots := kX.instanceTypes.map defaultValue, vm := .none } = T1 at X₁ st1
  have hcat : (Value.ref T.heap.size).category = 1 := rfl
  have hcellA : T1.heap[T.heap.size]? = some (freshCell cX kX) := by rw [← hT1]; exact State.heap_pushCell_size _ _
  have d3' : decode c.code (pc + 3) = .ok (.dup, 1) := by rw [hb]; exact d3
  have d4' : decode c.code (pc + 4) = .ok (.ldc is, 2) := by rw [hb]; exact d4
  have hstr' : vk_R own is text sa s' := vk_R.warm hW0 hstr
  obtain ⟨U, hsteps, hrun, hend, hW, hsame, ce, hce, hO⟩ := X₁.ctorThrowS hexec htr (own := own) (cls := cls) (names := names) (ic := ic) hown' hcls hnames h (fun x hx => nomatch hx) hfX hkX hcellA (by rw [hhp, hT]; exact Nat.le_refl _) (msg := .ref sa) rfl
    (g := { method := m, pc := pc + 6, locals := ls, stack := .ref sa :: .ref T.heap.size :: .ref T.heap.size :: rest, locked := none }) rfl hsize rfl rfl (rest := rest) rfl
    (by rw [hb]; exact d6) (by rw [hb]; exact d9) hout hRframes (by simp only [List.map_cons, List.sum_cons, hcat]; omega) hlocks
  obtain ⟨f1, f2⟩ := vx_frame hsame
  rw [hhp] at f1 f2
  have hWs : s.WarmedH U.vm := State.WarmedH.trans hW0 hW
  have hcl : s.vm.findClass cls = some ce.cls := by
    have h9 := hO.cls
    rw [hvm] at h9
    exact h9
  have hall : s.sameButNew ({ U with vm := s.vm } : State) locs mc ms := by
    subst hA
    obtain ⟨e1, e2⟩ := hsame
    rw [State.setFrames_setFrames] at e1
    have h2 : (T.setVm s.vm).sameButNew ({ U with vm := s.vm } : State) [] (0 + 1) (0 + 6) := ⟨e1, e2⟩
    have h3 := X.same.trans h2
    rw [List.append_nil] at h3
    exact h3.mono hc hs
  refine ⟨U, ?_, .threw T.heap.size, hrun, hend, Or.inr ⟨T.heap.size, rfl, cls, ce, locs, hx U hWs.alike f1 (fun q hq => f2 q hq (fun z hz => nomatch hz)), hce, hO.vm, hcl, hWs, hall, hf⟩⟩
  refine st1 _ ?_
  show Steps p.tables e below (T1.setTop { method := m, pc := pc + 3, locals := ls, stack := .ref T.heap.size :: rest, locked := none }) _
  jvm_step X₁.here [X₁.here.top, hexec, d3', Value.category]
  exact X₁.ldcString hexec (own := own) (text := text) (index := is) (a := sa) hown' hstr'.1 hstr'.2
    (g := { method := m, pc := pc + 4, locals := ls, stack := .ref T.heap.size :: .ref T.heap.size :: rest, locked := none }) rfl d4' _ hsteps
/-- 'throw new E("text")', the text by a wide index -/
theorem vx_throwSW {cc : ByteArray} {pc : Nat} (hexec : p.tables.exec = Jvm.exec) (hb : c.code = cc) (hl : l.stackTraces = false) {own cls text : String} {names : List String} {ik is ic mc ms sa : Nat} {A : Nat → Prop}
    (hown : s.vm.findClass own = some m.cls) (hcls : Bundle.fit cls = true) (hnames : ∀ n ∈ names, Bundle.fit n = true)
    (hk : (Cond.classLink own ik cls).before args s = true) (hini : (Cond.initialized cls).before args s = true) (hstr : vk_R own is text sa s) (hat : ∀ w ∈ vx_atS own ic cls names, w.before args s = true)
    (hgood : ∀ w ∈ Cond.classLink own ik cls :: Cond.initialized cls :: vx_atS own ic cls names, vx_ot w = true)
    (hU : vx_Zq Bundle.tN "UNASSIGNED_STACK" Bundle.steD A s s.heap) (hN : vx_Zq Bundle.tN "SUPPRESSED_SENTINEL" Bundle.listD A s s.heap) (hS : va_S A s.heap H locs) (hsize : ls.size = c.maxLocals)
    (d0 : decode cc pc = .ok (.new ik, 3)) (d3 : decode cc (pc + 3) = .ok (.dup, 1)) (d4 : decode cc (pc + 4) = .ok (.ldc_w is, 3)) (d7 : decode cc (pc + 7) = .ok (.invokespecial ic, 3)) (d10 : decode cc (pc + 10) = .ok (.athrow, 1))
    (hout : ∀ x ∈ c.exceptionTable.toList, covers x (pc + 10) = false)
    (hRframes : names.length + 3 < R.frames) (hRlocals : (rest.map fun v => v.category).sum + (13 * (names.length + 1) + 43) ≤ R.locals) (hRcells : cells + 1 ≤ R.cells) (hRslots : slots + 6 ≤ R.slots) (hlocks : meth.locks = false)
    (hx : ∀ t : State, s.vm.Alike t.vm → H.size ≤ t.heap.size → (∀ q : Nat, q < H.size → t.heap[q]? = H[q]?) → XC cls s t)
    (hf : ∀ z ∈ locs, free z.base) (hc : cells + 1 ≤ mc) (hs : slots + 6 ≤ ms) :
    W p l e R s m args below meth c H locs cells slots (vx_MQ below Qc XC args s mc ms free) (F0 m pc ls rest) := by
  intro T hT X
  have htr : e.platform.stackTraces = false := (show e.platform.stackTraces = l.stackTraces by rw [X.admits.platform]).trans hl
  have Y := vx_rebase X (R' := { frames := R.frames, locals := R.locals, cells := 1, slots := 6 }) (Nat.le_refl _) (Nat.le_refl _) hRcells hRslots
  obtain ⟨s', hA⟩ : ∃ z, z = (T.setVm s.vm).setFrames (.invoking m args :: below) := ⟨_, rfl⟩
  rw [← hA] at Y
  have hvm : s'.vm = s.vm := by rw [hA]; rfl
  have hhp : s'.heap = H := by rw [hA]; exact hT
  have hW0 : s.WarmedH s'.vm := by rw [hvm]; exact State.WarmedH.refl s
  have hat' : ∀ w ∈ vx_atS own ic cls names, w.before args s' = true := fun w hw => vx_ot_at hW0 hvm.symm (hgood w (List.mem_cons_of_mem _ (List.mem_cons_of_mem _ hw))) (hat w hw)
  have hk' : (Cond.classLink own ik cls).before args s' = true := vx_ot_at hW0 hvm.symm (hgood _ List.mem_cons_self) hk
  have hini' : (Cond.initialized cls).before args s' = true := vx_ot_at hW0 hvm.symm (hgood _ (List.mem_cons_of_mem _ List.mem_cons_self)) hini
  have hU' : vx_Zq Bundle.tN "UNASSIGNED_STACK" Bundle.steD A s' s'.heap := by rw [hhp]; exact vx_Zq.moved hW0.alike (hU.kept hS.2.1)
  have hN' : vx_Zq Bundle.tN "SUPPRESSED_SENTINEL" Bundle.listD A s' s'.heap := by rw [hhp]; exact vx_Zq.moved hW0.alike (hN.kept hS.2.1)
  have h : ∀ w ∈ Bundle.ownAtoms own ic cls names, w.before args s' = true := vx_own hat' (vx_isRefq hU'.1) (vx_isRefq hN'.1) hU'.2.word hN'.2.word
  have hown' : s'.vm.findClass own = some m.cls := by rw [hvm]; exact hown
  have hins : (Cond.instantiable cls 6).before args s' = true := h _ (by simp [Bundle.ownAtoms])
  obtain ⟨vm₁, cX, kX, hfX, hkX, -, -, X₁, st1⟩ := Y.newCold hexec (own := own) (C := cls) (index := ik) (n := 6) hown' hk' hins hini'
    (g := F0 m pc ls rest) rfl (by rw [hb]; exact d0) (Nat.le_refl _) (Nat.le_refl _)
  generalize hT1 : (T.setVm vm₁).pushCell { cls := cX, slots := kX.instanceTypes.map defaultValue, vm := .none } = T1 at X₁ st1
  have hcat : (Value.ref T.heap.size).category = 1 := rfl
  have hcellA : T1.heap[T.heap.size]? = some (freshCell cX kX) := by rw [← hT1]; exact State.heap_pushCell_size _ _
  have d3' : decode c.code (pc + 3) = .ok (.dup, 1) := by rw [hb]; exact d3
  have d4' : decode c.code (pc + 4) = .ok (.ldc_w is, 3) := by rw [hb]; exact d4
  have hstr' : vk_R own is text sa s' := vk_R.warm hW0 hstr
  obtain ⟨U, hsteps, hrun, hend, hW, hsame, ce, hce, hO⟩ := X₁.ctorThrowS hexec htr (own := own) (cls := cls) (names := names) (ic := ic) hown' hcls hnames h (fun x hx => nomatch hx) hfX hkX hcellA (by rw [hhp, hT]; exact Nat.le_refl _) (msg := .ref sa) rfl
    (g := { method := m, pc := pc + 7, locals := ls, stack := .ref sa :: .ref T.heap.size :: .ref T.heap.size :: rest, locked := none }) rfl hsize rfl rfl (rest := rest) rfl
    (by rw [hb]; exact d7) (by rw [hb]; exact d10) hout hRframes (by simp only [List.map_cons, List.sum_cons, hcat]; omega) hlocks
  obtain ⟨f1, f2⟩ := vx_frame hsame
  rw [hhp] at f1 f2
  have hWs : s.WarmedH U.vm := State.WarmedH.trans hW0 hW
  have hcl : s.vm.findClass cls = some ce.cls := by
    have h9 := hO.cls
    rw [hvm] at h9
    exact h9
  have hall : s.sameButNew ({ U with vm := s.vm } : State) locs mc ms := by
    subst hA
    obtain ⟨e1, e2⟩ := hsame
    rw [State.setFrames_setFrames] at e1
    have h2 : (T.setVm s.vm).sameButNew ({ U with vm := s.vm } : State) [] (0 + 1) (0 + 6) := ⟨e1, e2⟩
    have h3 := X.same.trans h2
    rw [List.append_nil] at h3
    exact h3.mono hc hs
  refine ⟨U, ?_, .threw T.heap.size, hrun, hend, Or.inr ⟨T.heap.size, rfl, cls, ce, locs, hx U hWs.alike f1 (fun q hq => f2 q hq (fun z hz => nomatch hz)), hce, hO.vm, hcl, hWs, hall, hf⟩⟩
  refine st1 _ ?_
  show Steps p.tables e below (T1.setTop { method := m, pc := pc + 3, locals := ls, stack := .ref T.heap.size :: rest, locked := none }) _
  jvm_step X₁.here [X₁.here.top, hexec, d3', Value.category]
  exact X₁.ldcStringW hexec (own := own) (text := text) (index := is) (a := sa) hown' hstr'.1 hstr'.2
    (g := { method := m, pc := pc + 4, locals := ls, stack := .ref T.heap.size :: .ref T.heap.size :: rest, locked := none }) rfl d4' _ hsteps
end Ends
section Bodies
variable {l : Launch}
theorem vx_ofW {y : MethodName} {ws ws' : List Cond} {rm : Room} {Pc : Array Value → State → Prop} {Qc : Array Value → State → Outcome → State → Prop} {XC : String → State → State → Prop} {mc ms : Nat} {free : Addr → Prop} {cc : ByteArray} {maxL : Nat} {ret : Option FieldType}
    (hy : plainName y.cls = true) (hw : ws = Cond.code y cc maxL ret :: ws')
    (body : ∀ p e s m args below meth c s₁, BodyLoose p l y (headSpec ws rm) cc maxL ret e s m args below meth c s₁ → c.maxLocals = maxL → (∀ x ∈ c.exceptionTable.toList, False) → Pc args s →
      W p l e (headSpec ws rm).room s m args below meth c s.heap [] 0 0 (vx_MQ below Qc XC args s mc ms free) (entryFrame m args maxL)) : vx_Met l y ws rm Pc Qc XC mc ms free := by
  refine MetFree.of_bodyS (code := cc) (maxLocals := maxL) (ret := ret) hy ?_ ?_
  · intro args s m h hn
    obtain ⟨meth, c, h1, h2, h3, h4, h5, h6, -, -⟩ := Cond.code_spec hn (atoms_spec (ws := ws) h _ (by rw [hw]; exact List.mem_cons_self))
    exact ⟨meth, c, h1, h2, h3, h4, h5, h6⟩
  · intro p e s m args below meth c s₁ B hml hP _
    have hh0 : s₁.heap = s.heap := by rw [B.state]; rfl
    have ht : ∀ x ∈ c.exceptionTable.toList, False := by
      obtain ⟨meth9, c9, h1, h2, -, -, -, -, h7, -⟩ := Cond.code_spec B.named (atoms_spec (ws := ws) B.pre _ (by rw [hw]; exact List.mem_cons_self))
      cases Option.some.inj (h1.symm.trans B.method)
      cases Option.some.inj (h2.symm.trans (Stand.of_body B).code)
      intro x hx
      rw [Array.isEmpty_iff.mp h7] at hx
      cases hx
    obtain ⟨t, a1, o, b1, b2, b3⟩ := body p e s m args below meth c s₁ B hml ht hP s₁ hh0 (Stand.of_body B)
    exact ⟨t, o, a1, b1, b2, b3⟩
/-- the table of a body with handlers -/
theorem vx_table {p : Program} {x y : MethodName} {S : Spec} {cc bytes : ByteArray} {maxL maxL' : Nat} {ret ret' : Option FieldType} {e : Env} {s s₁ : State} {m : MethodId} {args : Array Value} {below : List Frame} {meth : Method} {c : Code} {hh : List (Nat × Nat × Nat × Nat)}
    (B : BodyLoose p l y S cc maxL ret e s m args below meth c s₁) (h : (Cond.codeWith y bytes maxL' ret' hh).before args s = true) : c.exceptionTable.toList = tableOf hh := by
  obtain ⟨m9, meth9, c9, hn9, h1, h2, -, -, h6, -⟩ := Cond.codeWith_spec h
  cases Option.some.inj (hn9.symm.trans B.named)
  cases Option.some.inj (h1.symm.trans B.method)
  cases Option.some.inj (h2.symm.trans (Stand.of_body B).code)
  rw [← h6, table_eq]
end Bodies
end VXA
/-! ===== END ===== -/
/-! ===== BEGIN a static call of a method with an exception table ===== -/
section VXS
variable {p : Program} {l : Launch} {e : Env} {R : Room} {s : State} {m : MethodId} {args : Array Value} {below : List Frame} {meth : Method} {c : Code} {T : State} {H : Heap} {locs : List Loc} {cells slots : Nat}
abbrev vx_CSW (R : Room) (s : State) (args : Array Value) (own : String) (index : Nat) (y : MethodName) (bytes : ByteArray) (maxL : Nat) (ret : Option FieldType) (hh : List (Nat × Nat × Nat × Nat)) (ws : List Cond) (rm : Room) (mc ms n : Nat) : Prop :=
  (rm.cells = mc ∧ rm.slots = ms ∧ rm.frames + 1 ≤ R.frames ∧ 8 + (maxL + 11) + rm.locals ≤ R.locals ∧ (∀ w ∈ ws, ∀ (a' : Array Value) (U : State), s.WarmedH U.vm → w.before a' U = true) ∧ Cond.codeWith y bytes maxL ret hh ∈ ws) ∧
  (Cond.codeWith y bytes maxL ret hh).before args s = true ∧ (Cond.initialized y.cls).before args s = true ∧ (y.cls ≠ "java/lang/invoke/MethodHandle" ∧ y.cls ≠ "java/lang/invoke/VarHandle") ∧
  (∀ sig, parseMethodDescriptor y.desc = some sig → n = sig.parameters.length) ∧ (Cond.methodLink own index y).before args s = true ∧ (Cond.static y).before args s = true
theorem vx_cwSW {own : String} {index maxL mc ms : Nat} {y : MethodName} {bytes : ByteArray} {ret : Option FieldType} {hh : List (Nat × Nat × Nat × Nat)} {Ts ws ws' : List Cond} {rm : Room} (n : Nat) (ht : ∀ w ∈ Ts, w.before args s = true) (hT : GoodIn Ts (va_wsS own index y ws)) (hw : ws = Cond.codeWith y bytes maxL ret hh :: ws') (hrc : rm.cells = mc) (hrs : rm.slots = ms)
    (hd : y.cls ≠ "java/lang/invoke/MethodHandle" ∧ y.cls ≠ "java/lang/invoke/VarHandle" ∧ (parseMethodDescriptor y.desc).map (fun d => d.parameters.length) = some n) (hR : rm.frames + 1 ≤ R.frames ∧ 8 + (maxL + 11) + rm.locals ≤ R.locals) :
    vx_CSW R s args own index y bytes maxL ret hh ws rm mc ms n := by
  have ok : ∀ w ∈ va_wsS own index y ws, w.before args s = true := fun w h => ht w (hT w h).1
  have hG : GoodIn Ts ws := fun w h => hT w (by unfold va_wsS; exact List.mem_append_right _ h)
  have hc : Cond.codeWith y bytes maxL ret hh ∈ ws := by rw [hw]; exact List.mem_cons_self
  refine ⟨⟨hrc, hrs, hR.1, hR.2, pay_in ht hG, hc⟩, ht _ (hG _ hc).1, ok _ (by simp [va_wsS]), ⟨hd.1, hd.2.1⟩, fun sig h => ?_, ok _ (by simp [va_wsS]), ok _ (by simp [va_wsS])⟩
  have h2 := hd.2.2
  rw [h] at h2
  exact (Option.some.inj h2).symm
theorem vx_callSW (X : Stand p l e R s m args below meth c T locs cells slots) (hexec : p.tables.exec = Jvm.exec) {own : String} {index : Nat} {y : MethodName} {bytes : ByteArray} {maxL : Nat} {ret : Option FieldType} {hh : List (Nat × Nat × Nat × Nat)}
    (hown : s.vm.findClass own = some m.cls) (hlink : (Cond.methodLink own index y).before args s = true) (hstat : (Cond.static y).before args s = true) (hinit : (Cond.initialized y.cls).before args s = true)
    (hcode : (Cond.codeWith y bytes maxL ret hh).before args s = true) (hy : y.cls ≠ "java/lang/invoke/MethodHandle" ∧ y.cls ≠ "java/lang/invoke/VarHandle")
    {W9 : Nat} {Pre : Pt → Array Value → Prop} {Post : Pt → Array Value → Option Value → Pt → Prop} (hK : Back l R p e below s args y 3 W9 Pre Post)
    {g : JFrame} (hg : g.method = m) (hsize : g.locals.size = c.maxLocals) {argsL rest : List Value} (hlen : ∀ sig, parseMethodDescriptor y.desc = some sig → argsL.length = sig.parameters.length)
    (hstack : g.stack = argsL.reverse ++ rest) (hW : 2 * g.monitorRoom + (rest.map fun v => v.category).sum ≤ W9) (hdg : decode c.code g.pc = .ok (.invokestatic index, 3))
    (hpre : ∀ vm₁, s.WarmedH vm₁ → Pre ⟨T.setVm vm₁, locs, cells, slots⟩ argsL.toArray) :
    ∃ (v : Option Value) (vm₁ : Vm) (B : Pt), s.WarmedH vm₁ ∧ Stand p l e R s m args below meth c B.U B.locs B.cells B.slots ∧ Post ⟨T.setVm vm₁, locs, cells, slots⟩ argsL.toArray v B ∧
      ∀ target, Steps p.tables e below (B.U.setTop { g with pc := g.pc + 3, stack := v.toList ++ rest }) target → Steps p.tables e below (T.setTop g) target := by
  obtain ⟨mk, methM, cM, hnamed, hmethM, -, -, -, -, -, -, hsigM⟩ := Cond.codeWith_spec hcode
  have hstatic : methM.isStatic = true := Cond.static_spec hnamed hmethM hstat
  obtain ⟨kP, hkP, -⟩ := className_of_methodNamed hnamed
  have hinitP : kP.init = .initialized := Cond.initialized_spec (findClass_of_methodNamed hnamed) hkP hinit
  obtain ⟨vm₁, X₁, hstep₁⟩ := X.invokestatic hexec hown hlink hnamed hmethM hstatic hkP hinitP hy (g := g) hg (argsL := argsL) (rest := rest) (hlen _ hsigM) hstack hdg
  obtain ⟨v, B, X', hpost, hsteps⟩ := hK m meth c ⟨T.setVm vm₁, locs, cells, slots⟩ { g with stack := rest } (.invokestatic index) mk argsL.toArray X₁ hg hsize hdg hW (X₁.named hnamed) (hpre vm₁ X₁.warmed)
  exact ⟨v, vm₁, B, X₁.warmed, X', hpost, fun target h => hstep₁ _ fun acts => by rw [doInvoke_state]; exact hsteps.trans h⟩
theorem vx_runSW {y : MethodName} {bytes cc : ByteArray} {maxL nL mc ms n index : Nat} {ret : Option FieldType} {hh : List (Nat × Nat × Nat × Nat)} {ws : List Cond} {rm : Room} {Pc : Array Value → State → Prop} {Qc : Array Value → State → Outcome → State → Prop} {free : Addr → Prop} {Ts : List Cond} {own : String} {As rest : List Value} {g : JFrame}
    (S : CallFix p m c cc nL s args Ts own) (hM : Met l y ws rm Pc Qc mc ms free) (cw : vx_CSW R s args own index y bytes maxL ret hh ws rm mc ms n) (hp : PreS s H Pc As)
    (hg : g.method = m) (hn : As.length = n) (hsize : g.locals.size = nL) (hstack : g.stack = As.reverse ++ rest) (hW : 2 * g.monitorRoom + (rest.map fun v => v.category).sum ≤ 8) (hdg : decode cc g.pc = .ok (.invokestatic index, 3)) (hf : cells + mc ≤ R.cells ∧ slots + ms ≤ R.slots) :
    va_Run p l e R s m args below meth c H locs cells slots mc ms g rest (Qc As.toArray) (free) := by
  obtain ⟨⟨hrc, hrs, hfr, hlo, hws, hcw⟩, hcode, hini, hy, hlen, hl, hstt⟩ := cw
  have hK : Back l R p e below s args y 3 8 (PreOf R mc ms Pc) (PostOf Qc mc ms free) := va_backW (hh := hh) (bytes := bytes) (maxL := maxL) (ret := ret) hM hp.1 hrc hrs hfr hlo hws hcw (fun a' U hW => word_at hW (Or.inl (by first | rfl | simp [Cond.onTables, Cond.keeps, Cond.steady])) hini)
  obtain ⟨hx, hb, hml, ho, -⟩ := S
  intro T hT X
  obtain ⟨v, vm₁, ⟨U', l2, c2, s2⟩, hW₁, X', ⟨g', mk, t, L, e1, e2, hq, h1, hL, h2, h3⟩, st⟩ := vx_callSW X hx (hh := hh) (bytes := bytes) (maxL := maxL) (ret := ret) ho hl hstt hini hcode hy hK hg (hsize.trans hml.symm) (argsL := As) (rest := rest) (fun sig h => hn.trans (hlen sig h)) hstack hW (by rw [hb]; exact hdg)
    (fun vm₁ hW₁ => ⟨hf.1, hf.2, hp.2 (T.setVm vm₁) hT hW₁⟩)
  dsimp only [Pt.U, Pt.locs, Pt.cells, Pt.slots] at X' e1 e2 h1 h2 h3 st
  subst h1; subst h2; subst h3
  exact ⟨v, (T.setVm vm₁).calling g' mk As.toArray, t, U', L, hT, X', hL, e1, e2, hq, st⟩
/-- not caught here, past rows that name other classes: it goes on to the caller -/
theorem vx_outP {p : Program} {l : Launch} {e : Env} {R : Room} {s : State} {m : MethodId} {args : Array Value} {below : List Frame} {meth : Method} {c : Code} {H : Heap} {locs : List Loc} {cells slots : Nat} {free : Addr → Prop} {ls : Array Slot} {rest : List Value} {Qc : Array Value → State → Outcome → State → Prop} {XC : String → State → State → Prop}
    {pc : Nat} {own E : String} {ce : Cell} {q : Addr} {mc ms : Nat} (hown : s.vm.findClass own = some m.cls) (hlocks : meth.locks = false)
    (hpass : ∀ z ∈ c.exceptionTable.toList, covers z pc = false ∨ (z.catchType ≠ 0 ∧ ∃ nm : String, (Cond.classLink own z.catchType nm).before args s = true ∧ va_Nc E nm s)) (hcell : H[q]? = some ce) (hv : ce.vm = .none) (hcl : s.vm.findClass E = some ce.cls)
    (hx : ∀ t : State, t.heap = H → s.vm.Alike t.vm → XC E s t) (hf : ∀ z ∈ locs, free z.base) (hc : cells ≤ mc) (hs : slots ≤ ms) :
    vx_W p l e R s m args below meth c H locs cells slots (vx_MQ below Qc XC args s mc ms free) (F0 m pc ls rest) q := by
  intro T hT X
  have hpl : e.platform.magicAccessors = ({} : Platform).magicAccessors := by rw [X.admits.platform]
  obtain ⟨vm', hW', X', st⟩ := X.outThrough hlocks q (g := F0 m pc ls rest) rfl rfl rfl (cell := ce) (by rw [hT]; exact hcell) (by rw [hv]; rfl)
    (by obtain ⟨k9, h9, -⟩ := Vm.findClass_spec hcl; exact ⟨k9, h9⟩) (fun z hz => by
      rcases hpass z hz with h | ⟨hz0, nm, hl1, hn1⟩
      · exact Or.inl h
      · obtain ⟨c6, hc6, hcl6⟩ := Cond.classLink_spec hown hl1 e.platform hpl
        obtain ⟨a8, b8, h1, h2, h3⟩ := hn1
        cases Option.some.inj (h1.symm.trans hcl)
        cases Option.some.inj (h2.symm.trans hc6)
        exact Or.inr ⟨hz0, _, hcl6, h3⟩)
  obtain ⟨g₀, hfr⟩ := X'.frames_eq
  have hcell9 : ((T.setVm vm').setFrames (.throwing q :: below)).heap[q]? = some ce := by
    show T.heap[q]? = some ce
    rw [hT]; exact hcell
  have hend : Ended ((T.setVm vm').setFrames (.throwing q :: below)) below (.threw q) := State.frames_setFrames _ (State.cur_lt_of_frames hfr)
  refine ⟨(T.setVm vm').setFrames (.throwing q :: below), ?_, .threw q, X'.here.running, hend, Or.inr ⟨q, rfl, E, ce, locs, hx _ hT (X'.ends _).1.alike, hcell9, hv, hcl, (X'.ends _).1, (X'.ends _).2.mono hc hs, hf⟩⟩
  rw [X.pushThrowing_eq]
  exact st
/-- a thing of a world lies in the heap -/
theorem vx_lt {D : va_G} {cl : List vw_C} {ws : va_W} {H1 : Heap} (h : va_P D cl ws H1) {k : Nat} {q : Nat × va_E} (hk : ws[k]? = some q) : q.1 < H1.size := (h k q hk).lt
end VXS
/-! ===== END ===== -/
/-! ===== BEGIN methods with a table of their own: called by a name, returning or throwing ===== -/
section VXH
/-! vx_backW, vx_callVX, vx_callSX, vx_callVW, vx_runVW, vx_runVX, vx_runSX, vx_ofWH follow the same proofs as their sisters above (Free/Laws.lean, Shelf42/LK1.lean); vx_outP calls Shelf42/NT130.lean (outThrough). -/
section
variable {l : Launch} {R : Room} {p : Program} {e : Env} {below : List Frame} {s : State} {sargs : Array Value} {y : MethodName} {len W9 : Nat}
theorem vx_backW {ws : List Cond} {rm : Room} {Pc : Array Value → State → Prop} {Qc : Array Value → State → Outcome → State → Prop} {XC : String → State → State → Prop} {mc ms : Nat} {free : Addr → Prop} {bytes : ByteArray} {maxL : Nat} {ret : Option FieldType} {hh : List (Nat × Nat × Nat × Nat)}
    (hM : vx_Met l y ws rm Pc Qc XC mc ms free) (hblind : FrameBlind Pc) (hrc : rm.cells = mc) (hrs : rm.slots = ms)
    (hframes : rm.frames + 1 ≤ R.frames) (hlocals : W9 + (maxL + 11) + rm.locals ≤ R.locals)
    (hws : ∀ w ∈ ws, ∀ a' U, s.WarmedH U.vm → w.before a' U = true) (hcode : Cond.codeWith y bytes maxL ret hh ∈ ws) (hinit : ∀ a' U, s.WarmedH U.vm → (Cond.initialized y.cls).before a' U = true) :
    vx_Back l R p e below s sargs y len W9 (PreOf R mc ms Pc) (PostOf Qc mc ms free) (vx_Post XC mc ms free) := by
  intro m meth c A g ig mk a X hg hsize hdg hW hn hp
  have h1 : (headSpec ws rm).pre.before a A.U = true := atoms_intro fun w hw => hws w hw _ _ X.warmed
  have h2 : (Cond.codeWith y bytes maxL ret hh).before a A.U = true := hws _ hcode _ _ X.warmed
  have h3 : (Cond.initialized y.cls).before a A.U = true := hinit _ _ X.warmed
  have h4 : A.cells + (headSpec ws rm).room.cells ≤ R.cells := by rw [show (headSpec ws rm).room.cells = mc from hrc]; exact hp.1
  have h5 : A.slots + (headSpec ws rm).room.slots ≤ R.slots := by rw [show (headSpec ws rm).room.slots = ms from hrs]; exact hp.2.1
  have hPc : Pc a (A.U.calling g mk a) := hblind _ _ _ _ hp.2.2
  obtain ⟨U, Ls, c0, s0⟩ := A
  dsimp only [Pt.U, Pt.locs, Pt.cells, Pt.slots] at h1 h2 h3 h4 h5 X hn hPc ⊢
  obtain ⟨m9, methY, cY, hn9, hmY, hcY, -, hlY, -⟩ := Cond.codeWith_spec h2
  cases Option.some.inj (hn9.symm.trans hn)
  obtain ⟨kY, hkY, -⟩ := className_of_methodNamed hn
  have hinitY : kY.init = .initialized := Cond.initialized_spec (findClass_of_methodNamed hn) hkY h3
  have h : At U g.method c below := by rw [hg]; exact X.here
  have hlocals9 : W9 + (maxL + 11) + (headSpec ws rm).room.locals ≤ R.locals := hlocals
  have happ : (headSpec ws rm).appliesLoose y e.platform (U.calling g mk a) = true :=
    Spec.appliesLoose_calling (g := g) h hdg hn hkY hinitY
      (X.room_calling (g := g) (R' := (headSpec ws rm).room) hsize hmY hcY hframes (by rw [hlY]; omega) h4 h5) h1
  obtain ⟨mid, hmid⟩ := h.above
  have hfr : (U.setTop g).frames = (.java g :: mid) ++ below := by rw [State.frames_setTop' g h.top, hmid]; rfl
  obtain ⟨o, s₂, hsteps, -, hend, hq⟩ := Steps.callFree hM p X.admits X.cas X.clock (acts := []) hfr happ hPc trivial
  have hq' : vx_Q Qc XC mc ms free a (U.calling g mk a) o s₂ := hq
  rw [State.frames_setTop' g h.top] at hend
  obtain ⟨g₀, hg0⟩ := Option.isSome_iff_exists.mp h.top
  obtain ⟨r, hr⟩ := State.topJava?_eq_some.mp hg0
  have hr' : (({ U with heap := s₂.heap, slotsUsed := s₂.slotsUsed } : State).setVm s₂.vm).frames = .java g₀ :: r := hr
  rcases hq' with ⟨hqc, L, hfe, hL⟩ | ⟨q, rfl, E, ce, L, hx, hce, hcv, hcl, hW₂, hsm, hL⟩
  · obtain ⟨⟨v, rfl⟩, hW₂, e2, q2, q3, q4, q5, q6⟩ := id hfe
    have e3 : s₂ = ({ (U.calling g mk a).setFrames s₂.frames with heap := s₂.heap, slotsUsed := s₂.slotsUsed } : State).setVm s₂.vm := by
      have : s₂ = ({ s₂ with vm := (U.calling g mk a).vm } : State).setVm s₂.vm := rfl
      rw [e2] at this
      exact this
    obtain ⟨c₂, i₂, len₂, hc₂, hd₂, hf₂⟩ := hend
    have hW' : U.WarmedH s₂.vm := hW₂
    have hcc : c₂ = c := by
      have h1 : s₂.code? g.method = U.code? g.method := by
        rw [State.code?_eq, State.code?_eq, hW'.alike.method?]
      exact Option.some.inj (hc₂.symm.trans (h1.trans h.code))
    subst hcc
    have hlen : len₂ = len := by rw [hdg] at hd₂; cases hd₂; rfl
    subst hlen
    have hs₂ : s₂ = (({ U with heap := s₂.heap, slotsUsed := s₂.slotsUsed } : State).setVm s₂.vm).setTop { g with pc := g.pc + len₂, stack := v.toList ++ g.stack } := by
      refine e3.trans ?_
      rw [hf₂, State.calling_eq h.top, State.setFrames_setFrames, State.setTop_of_frames _ hr', hr]
      rfl
    have hsame : U.sameButNew ({ U with heap := s₂.heap, slotsUsed := s₂.slotsUsed } : State) L mc ms := by
      refine ⟨?_, q2, q3, q4, q5, q6⟩
      obtain ⟨t, ht, -⟩ := State.frames_cons hr
      show ({ U with heap := s₂.heap, slotsUsed := s₂.slotsUsed } : State) = { U.setFrames U.frames with heap := s₂.heap, slotsUsed := s₂.slotsUsed }
      rw [State.setFrames_self ht]
    subst hg
    refine Or.inl ⟨v, ⟨(({ U with heap := s₂.heap, slotsUsed := s₂.slotsUsed } : State).setVm s₂.vm), Ls ++ L, c0 + mc, s0 + ms⟩,
      ⟨X.admits, X.cas, X.clock, X.frames, X.room, X.hears, X.method, X.code, (X.here.setHeapUsed s₂.heap s₂.slotsUsed).setVm hW'.alike, X.tail, State.WarmedH.trans X.warmed hW', X.limits, X.bytes, X.same.trans (hsame.setVm s.vm)⟩,
      ⟨g, mk, s₂, L, rfl, rfl, hqc, rfl, hL, rfl, rfl⟩, ?_⟩
    show Steps p.tables e below _ ((({ U with heap := s₂.heap, slotsUsed := s₂.slotsUsed } : State).setVm s₂.vm).setTop { g with pc := g.pc + len₂, stack := v.toList ++ g.stack })
    rw [← hs₂]
    exact hsteps
  · obtain ⟨e2, q2, q3, q4, q5, q6⟩ := id hsm
    have e3 : s₂ = ({ (U.calling g mk a).setFrames s₂.frames with heap := s₂.heap, slotsUsed := s₂.slotsUsed } : State).setVm s₂.vm := by
      have : s₂ = ({ s₂ with vm := (U.calling g mk a).vm } : State).setVm s₂.vm := rfl
      rw [e2] at this
      exact this
    have hf₂ : s₂.frames = .throwing q :: .java g :: U.frames.tail := hend
    have hW' : U.WarmedH s₂.vm := hW₂
    have hs₂ : s₂ = ((({ U with heap := s₂.heap, slotsUsed := s₂.slotsUsed } : State).setVm s₂.vm).setTop g).pushFrame (.throwing q) := by
      refine e3.trans ?_
      rw [hf₂, State.calling_eq h.top, State.setFrames_setFrames, State.pushFrame, State.frames_setTop _ hr', State.setTop_of_frames _ hr', State.setFrames_setFrames, hr]
      rfl
    have hsame : U.sameButNew ({ U with heap := s₂.heap, slotsUsed := s₂.slotsUsed } : State) L mc ms := by
      refine ⟨?_, q2, q3, q4, q5, q6⟩
      obtain ⟨t, ht, -⟩ := State.frames_cons hr
      show ({ U with heap := s₂.heap, slotsUsed := s₂.slotsUsed } : State) = { U.setFrames U.frames with heap := s₂.heap, slotsUsed := s₂.slotsUsed }
      rw [State.setFrames_self ht]
    subst hg
    refine Or.inr ⟨q, ⟨(({ U with heap := s₂.heap, slotsUsed := s₂.slotsUsed } : State).setVm s₂.vm), Ls ++ L, c0 + mc, s0 + ms⟩,
      ⟨X.admits, X.cas, X.clock, X.frames, X.room, X.hears, X.method, X.code, (X.here.setHeapUsed s₂.heap s₂.slotsUsed).setVm hW'.alike, X.tail, State.WarmedH.trans X.warmed hW', X.limits, X.bytes, X.same.trans (hsame.setVm s.vm)⟩,
      ⟨g, mk, s₂, L, E, ce, rfl, rfl, hx, hce, hcv, hcl, rfl, hL, rfl, rfl⟩, ?_⟩
    show Steps p.tables e below _ (((({ U with heap := s₂.heap, slotsUsed := s₂.slotsUsed } : State).setVm s₂.vm).setTop g).pushFrame (.throwing q))
    rw [← hs₂]
    exact hsteps
end
variable {p : Program} {l : Launch} {e : Env} {R : Room} {s : State} {m : MethodId} {args : Array Value} {below : List Frame} {meth : Method} {c : Code} {T : State} {H : Heap} {locs : List Loc} {cells slots : Nat}
theorem vx_callVX (X : Stand p l e R s m args below meth c T locs cells slots) (hexec : p.tables.exec = Jvm.exec) {own C : String} {index : Nat} {y : MethodName} {bytes : ByteArray} {maxL : Nat} {ret : Option FieldType} {hh : List (Nat × Nat × Nat × Nat)}
    (hown : s.vm.findClass own = some m.cls) (hlink : (Cond.methodLink own index y).before args s = true) (hinst : (Cond.instanceMethod y).before args s = true) (hsel : (Cond.selects C y y).before args s = true)
    (hcode : (Cond.codeWith y bytes maxL ret hh).before args s = true) (hy : y.cls ≠ "java/lang/invoke/MethodHandle" ∧ y.cls ≠ "java/lang/invoke/VarHandle")
    {W9 : Nat} {Pre : Pt → Array Value → Prop} {Post : Pt → Array Value → Option Value → Pt → Prop} {PostX : Pt → Array Value → Addr → Pt → Prop} (hK : vx_Back l R p e below s args y 3 W9 Pre Post PostX)
    {b : Addr} {cellB : Cell} (hcell : T.heap[b]? = some cellB) (hobj : cellB.vm.isStatics = false) (hcls : s.vm.findClass C = some cellB.cls)
    {g : JFrame} (hg : g.method = m) (hsize : g.locals.size = c.maxLocals) {argsL rest : List Value} (hlen : ∀ sig, parseMethodDescriptor y.desc = some sig → argsL.length = sig.parameters.length)
    (hstack : g.stack = argsL.reverse ++ .ref b :: rest) (hW : 2 * g.monitorRoom + (rest.map fun v => v.category).sum ≤ W9) (hdg : decode c.code g.pc = .ok (.invokevirtual index, 3))
    (hpre : ∀ vm₁, s.WarmedH vm₁ → Pre ⟨T.setVm vm₁, locs, cells, slots⟩ (Value.ref b :: argsL).toArray) :
    (∃ (v : Option Value) (vm₁ : Vm) (B : Pt), s.WarmedH vm₁ ∧ Stand p l e R s m args below meth c B.U B.locs B.cells B.slots ∧ Post ⟨T.setVm vm₁, locs, cells, slots⟩ (Value.ref b :: argsL).toArray v B ∧
      ∀ target, Steps p.tables e below (B.U.setTop { g with pc := g.pc + 3, stack := v.toList ++ rest }) target → Steps p.tables e below (T.setTop g) target) ∨
    (∃ (q : Addr) (vm₁ : Vm) (B : Pt), s.WarmedH vm₁ ∧ Stand p l e R s m args below meth c B.U B.locs B.cells B.slots ∧ PostX ⟨T.setVm vm₁, locs, cells, slots⟩ (Value.ref b :: argsL).toArray q B ∧
      Steps p.tables e below (T.setTop g) ((B.U.setTop { g with stack := rest }).pushFrame (.throwing q))) := by
  obtain ⟨mk, methM, hnamed, hmethM, hstM, habM⟩ := Cond.instanceMethod_spec hinst
  obtain ⟨m8, methM', cM, hn8, hmethM', -, -, -, -, -, -, hsigM⟩ := Cond.codeWith_spec hcode
  cases Option.some.inj (hn8.symm.trans hnamed)
  cases hmethM.symm.trans hmethM'
  obtain ⟨c2, r2, m2, q1, q2, q3, q4, kP, hkP, hkPi⟩ := Cond.selects_spec hsel
  cases hcls.symm.trans q1
  cases (State.methodFound?_of_named hnamed hy).symm.trans q2
  cases hnamed.symm.trans q3
  have hselP : selectMethod e.platform s.vm cellB.cls mk = .method mk := by rw [Launch.admits_selectMethod X.admits]; exact q4
  obtain ⟨vm₁, X₁, hstep₁⟩ := X.invokevirtual hexec hown hlink hnamed hmethM hstM hkP hkPi hy (a := b) (cell := cellB) hcell
    (fun z h => by rw [h] at hobj; cases hobj) hselP hmethM habM hkP hkPi (g := g) hg (argsL := argsL) (rest := rest) (hlen _ hsigM) hstack hdg
  rcases hK m meth c ⟨T.setVm vm₁, locs, cells, slots⟩ { g with stack := rest } (.invokevirtual index) mk (Value.ref b :: argsL).toArray X₁ hg hsize hdg hW (X₁.named hnamed) (hpre vm₁ X₁.warmed) with ⟨v, B, X', hpost, hsteps⟩ | ⟨q, B, X', hpost, hsteps⟩
  · exact Or.inl ⟨v, vm₁, B, X₁.warmed, X', hpost, fun target h => hstep₁ _ fun acts => by rw [doInvoke_state]; exact hsteps.trans h⟩
  · exact Or.inr ⟨q, vm₁, B, X₁.warmed, X', hpost, hstep₁ _ fun acts => by rw [doInvoke_state]; exact hsteps⟩
theorem vx_callSX (X : Stand p l e R s m args below meth c T locs cells slots) (hexec : p.tables.exec = Jvm.exec) {own : String} {index : Nat} {y : MethodName} {bytes : ByteArray} {maxL : Nat} {ret : Option FieldType} {hh : List (Nat × Nat × Nat × Nat)}
    (hown : s.vm.findClass own = some m.cls) (hlink : (Cond.methodLink own index y).before args s = true) (hstat : (Cond.static y).before args s = true) (hinit : (Cond.initialized y.cls).before args s = true)
    (hcode : (Cond.codeWith y bytes maxL ret hh).before args s = true) (hy : y.cls ≠ "java/lang/invoke/MethodHandle" ∧ y.cls ≠ "java/lang/invoke/VarHandle")
    {W9 : Nat} {Pre : Pt → Array Value → Prop} {Post : Pt → Array Value → Option Value → Pt → Prop} {PostX : Pt → Array Value → Addr → Pt → Prop} (hK : vx_Back l R p e below s args y 3 W9 Pre Post PostX)
    {g : JFrame} (hg : g.method = m) (hsize : g.locals.size = c.maxLocals) {argsL rest : List Value} (hlen : ∀ sig, parseMethodDescriptor y.desc = some sig → argsL.length = sig.parameters.length)
    (hstack : g.stack = argsL.reverse ++ rest) (hW : 2 * g.monitorRoom + (rest.map fun v => v.category).sum ≤ W9) (hdg : decode c.code g.pc = .ok (.invokestatic index, 3))
    (hpre : ∀ vm₁, s.WarmedH vm₁ → Pre ⟨T.setVm vm₁, locs, cells, slots⟩ argsL.toArray) :
    (∃ (v : Option Value) (vm₁ : Vm) (B : Pt), s.WarmedH vm₁ ∧ Stand p l e R s m args below meth c B.U B.locs B.cells B.slots ∧ Post ⟨T.setVm vm₁, locs, cells, slots⟩ argsL.toArray v B ∧
      ∀ target, Steps p.tables e below (B.U.setTop { g with pc := g.pc + 3, stack := v.toList ++ rest }) target → Steps p.tables e below (T.setTop g) target) ∨
    (∃ (q : Addr) (vm₁ : Vm) (B : Pt), s.WarmedH vm₁ ∧ Stand p l e R s m args below meth c B.U B.locs B.cells B.slots ∧ PostX ⟨T.setVm vm₁, locs, cells, slots⟩ argsL.toArray q B ∧
      Steps p.tables e below (T.setTop g) ((B.U.setTop { g with stack := rest }).pushFrame (.throwing q))) := by
  obtain ⟨mk, methM, cM, hnamed, hmethM, -, -, -, -, -, -, hsigM⟩ := Cond.codeWith_spec hcode
  have hstatic : methM.isStatic = true := Cond.static_spec hnamed hmethM hstat
  obtain ⟨kP, hkP, -⟩ := className_of_methodNamed hnamed
  have hinitP : kP.init = .initialized := Cond.initialized_spec (findClass_of_methodNamed hnamed) hkP hinit
  obtain ⟨vm₁, X₁, hstep₁⟩ := X.invokestatic hexec hown hlink hnamed hmethM hstatic hkP hinitP hy (g := g) hg (argsL := argsL) (rest := rest) (hlen _ hsigM) hstack hdg
  rcases hK m meth c ⟨T.setVm vm₁, locs, cells, slots⟩ { g with stack := rest } (.invokestatic index) mk argsL.toArray X₁ hg hsize hdg hW (X₁.named hnamed) (hpre vm₁ X₁.warmed) with ⟨v, B, X', hpost, hsteps⟩ | ⟨q, B, X', hpost, hsteps⟩
  · exact Or.inl ⟨v, vm₁, B, X₁.warmed, X', hpost, fun target h => hstep₁ _ fun acts => by rw [doInvoke_state]; exact hsteps.trans h⟩
  · exact Or.inr ⟨q, vm₁, B, X₁.warmed, X', hpost, hstep₁ _ fun acts => by rw [doInvoke_state]; exact hsteps⟩
theorem vx_callVW (X : Stand p l e R s m args below meth c T locs cells slots) (hexec : p.tables.exec = Jvm.exec) {own C : String} {index : Nat} {y : MethodName} {bytes : ByteArray} {maxL : Nat} {ret : Option FieldType} {hh : List (Nat × Nat × Nat × Nat)}
    (hown : s.vm.findClass own = some m.cls) (hlink : (Cond.methodLink own index y).before args s = true) (hinst : (Cond.instanceMethod y).before args s = true) (hsel : (Cond.selects C y y).before args s = true)
    (hcode : (Cond.codeWith y bytes maxL ret hh).before args s = true) (hy : y.cls ≠ "java/lang/invoke/MethodHandle" ∧ y.cls ≠ "java/lang/invoke/VarHandle")
    {W9 : Nat} {Pre : Pt → Array Value → Prop} {Post : Pt → Array Value → Option Value → Pt → Prop} (hK : Back l R p e below s args y 3 W9 Pre Post)
    {b : Addr} {cellB : Cell} (hcell : T.heap[b]? = some cellB) (hobj : cellB.vm.isStatics = false) (hcls : s.vm.findClass C = some cellB.cls)
    {g : JFrame} (hg : g.method = m) (hsize : g.locals.size = c.maxLocals) {argsL rest : List Value} (hlen : ∀ sig, parseMethodDescriptor y.desc = some sig → argsL.length = sig.parameters.length)
    (hstack : g.stack = argsL.reverse ++ .ref b :: rest) (hW : 2 * g.monitorRoom + (rest.map fun v => v.category).sum ≤ W9) (hdg : decode c.code g.pc = .ok (.invokevirtual index, 3))
    (hpre : ∀ vm₁, s.WarmedH vm₁ → Pre ⟨T.setVm vm₁, locs, cells, slots⟩ (Value.ref b :: argsL).toArray) :
    ∃ (v : Option Value) (vm₁ : Vm) (B : Pt), s.WarmedH vm₁ ∧ Stand p l e R s m args below meth c B.U B.locs B.cells B.slots ∧ Post ⟨T.setVm vm₁, locs, cells, slots⟩ (Value.ref b :: argsL).toArray v B ∧
      ∀ target, Steps p.tables e below (B.U.setTop { g with pc := g.pc + 3, stack := v.toList ++ rest }) target → Steps p.tables e below (T.setTop g) target := by
  obtain ⟨mk, methM, hnamed, hmethM, hstM, habM⟩ := Cond.instanceMethod_spec hinst
  obtain ⟨m8, methM', cM, hn8, hmethM', -, -, -, -, -, -, hsigM⟩ := Cond.codeWith_spec hcode
  cases Option.some.inj (hn8.symm.trans hnamed)
  cases hmethM.symm.trans hmethM'
  obtain ⟨c2, r2, m2, q1, q2, q3, q4, kP, hkP, hkPi⟩ := Cond.selects_spec hsel
  cases hcls.symm.trans q1
  cases (State.methodFound?_of_named hnamed hy).symm.trans q2
  cases hnamed.symm.trans q3
  have hselP : selectMethod e.platform s.vm cellB.cls mk = .method mk := by rw [Launch.admits_selectMethod X.admits]; exact q4
  obtain ⟨vm₁, X₁, hstep₁⟩ := X.invokevirtual hexec hown hlink hnamed hmethM hstM hkP hkPi hy (a := b) (cell := cellB) hcell
    (fun z h => by rw [h] at hobj; cases hobj) hselP hmethM habM hkP hkPi (g := g) hg (argsL := argsL) (rest := rest) (hlen _ hsigM) hstack hdg
  obtain ⟨v, B, X', hpost, hsteps⟩ := hK m meth c ⟨T.setVm vm₁, locs, cells, slots⟩ { g with stack := rest } (.invokevirtual index) mk (Value.ref b :: argsL).toArray X₁ hg hsize hdg hW (X₁.named hnamed) (hpre vm₁ X₁.warmed)
  exact ⟨v, vm₁, B, X₁.warmed, X', hpost, fun target h => hstep₁ _ fun acts => by rw [doInvoke_state]; exact hsteps.trans h⟩
abbrev vx_CVW (R : Room) (s : State) (args : Array Value) (own C : String) (index : Nat) (y : MethodName) (bytes : ByteArray) (maxL : Nat) (ret : Option FieldType) (hh : List (Nat × Nat × Nat × Nat)) (ws : List Cond) (rm : Room) (mc ms n : Nat) : Prop :=
  (rm.cells = mc ∧ rm.slots = ms ∧ rm.frames + 1 ≤ R.frames ∧ 8 + (maxL + 11) + rm.locals ≤ R.locals ∧ (∀ w ∈ ws, ∀ (a' : Array Value) (U : State), s.WarmedH U.vm → w.before a' U = true) ∧ Cond.codeWith y bytes maxL ret hh ∈ ws) ∧
  (Cond.codeWith y bytes maxL ret hh).before args s = true ∧ (Cond.initialized y.cls).before args s = true ∧ (y.cls ≠ "java/lang/invoke/MethodHandle" ∧ y.cls ≠ "java/lang/invoke/VarHandle") ∧
  (∀ sig, parseMethodDescriptor y.desc = some sig → n = sig.parameters.length) ∧ (Cond.methodLink own index y).before args s = true ∧ (Cond.instanceMethod y).before args s = true ∧ (Cond.selects C y y).before args s = true
theorem vx_cwVW {own C : String} {index maxL mc ms : Nat} {y : MethodName} {bytes : ByteArray} {ret : Option FieldType} {hh : List (Nat × Nat × Nat × Nat)} {Ts ws ws' : List Cond} {rm : Room} (n : Nat) (ht : ∀ w ∈ Ts, w.before args s = true) (hT : GoodIn Ts (wsV own index C y ws)) (hw : ws = Cond.codeWith y bytes maxL ret hh :: ws') (hrc : rm.cells = mc) (hrs : rm.slots = ms)
    (hd : y.cls = C ∧ y.cls ≠ "java/lang/invoke/MethodHandle" ∧ y.cls ≠ "java/lang/invoke/VarHandle" ∧ (parseMethodDescriptor y.desc).map (fun d => d.parameters.length) = some n) (hR : rm.frames + 1 ≤ R.frames ∧ 8 + (maxL + 11) + rm.locals ≤ R.locals) :
    vx_CVW R s args own C index y bytes maxL ret hh ws rm mc ms n := by
  obtain ⟨hC, hd⟩ := hd
  subst hC
  have ok : ∀ w ∈ wsV own index y.cls y ws, w.before args s = true := fun w h => ht w (hT w h).1
  have hG : GoodIn Ts ws := fun w h => hT w (by unfold wsV; exact List.mem_append_right _ h)
  have hc : Cond.codeWith y bytes maxL ret hh ∈ ws := by rw [hw]; exact List.mem_cons_self
  refine ⟨⟨hrc, hrs, hR.1, hR.2, pay_in ht hG, hc⟩, ht _ (hG _ hc).1, ok _ (by simp [wsV]), ⟨hd.1, hd.2.1⟩, fun sig h => ?_, ok _ (by simp [wsV]), ok _ (by simp [wsV]), ok _ (by simp [wsV])⟩
  have h2 := hd.2.2
  rw [h] at h2
  exact (Option.some.inj h2).symm
theorem vx_runVW {y : MethodName} {bytes cc : ByteArray} {maxL nL mc ms n index : Nat} {ret : Option FieldType} {hh : List (Nat × Nat × Nat × Nat)} {ws : List Cond} {rm : Room} {Pc : Array Value → State → Prop} {Qc : Array Value → State → Outcome → State → Prop} {free : Addr → Prop} {Ts : List Cond} {own C : String} {b : Addr} {As rest : List Value} {g : JFrame}
    (S : CallFix p m c cc nL s args Ts own) (hM : Met l y ws rm Pc Qc mc ms free) (cw : vx_CVW R s args own C index y bytes maxL ret hh ws rm mc ms n) (hp : PreV s H C b Pc As)
    (hg : g.method = m) (hn : As.length = n) (hsize : g.locals.size = nL) (hstack : g.stack = As.reverse ++ .ref b :: rest) (hW : 2 * g.monitorRoom + (rest.map fun v => v.category).sum ≤ 8) (hdg : decode cc g.pc = .ok (.invokevirtual index, 3)) (hf : cells + mc ≤ R.cells ∧ slots + ms ≤ R.slots) :
    va_Run p l e R s m args below meth c H locs cells slots mc ms g rest (Qc (Value.ref b :: As).toArray) free := by
  obtain ⟨⟨hrc, hrs, hfr, hlo, hws, hcw⟩, hcode, hini, hy, hlen, hl, hin, hse⟩ := cw
  have hK : Back l R p e below s args y 3 8 (PreOf R mc ms Pc) (PostOf Qc mc ms free) := va_backW (hh := hh) (bytes := bytes) (maxL := maxL) (ret := ret) hM hp.1 hrc hrs hfr hlo hws hcw (fun a' U hW => word_at hW (Or.inl (by first | rfl | simp [Cond.onTables, Cond.keeps, Cond.steady])) hini)
  obtain ⟨hx, hb, hml, ho, -⟩ := S
  obtain ⟨-, ⟨cellB, hcB, hoB, hclB⟩, hPc⟩ := hp
  intro T hT X
  obtain ⟨v, vm₁, ⟨U', l2, c2, s2⟩, hW₁, X', ⟨g', mk, t, L, e1, e2, hq, h1, hL, h2, h3⟩, st⟩ := vx_callVW X hx (C := C) (hh := hh) (bytes := bytes) (maxL := maxL) (ret := ret) ho hl hin hse hcode hy hK (by rw [hT]; exact hcB) hoB hclB hg (hsize.trans hml.symm) (argsL := As) (rest := rest) (fun sig h => hn.trans (hlen sig h)) hstack hW (by rw [hb]; exact hdg)
    (fun vm₁ hW₁ => ⟨hf.1, hf.2, hPc (T.setVm vm₁) hT hW₁⟩)
  dsimp only [Pt.U, Pt.locs, Pt.cells, Pt.slots] at X' e1 e2 h1 h2 h3 st
  subst h1; subst h2; subst h3
  exact ⟨v, (T.setVm vm₁).calling g' mk (Value.ref b :: As).toArray, t, U', L, hT, X', hL, e1, e2, hq, st⟩
section
variable {y : MethodName} {bytes cc : ByteArray} {maxL nL mc ms n index : Nat} {ret : Option FieldType} {ws : List Cond} {rm : Room} {Pc : Array Value → State → Prop} {Qc : Array Value → State → Outcome → State → Prop} {XC : String → State → State → Prop} {free : Addr → Prop} {Ts : List Cond} {own C : String} {b : Addr} {As rest : List Value} {g : JFrame}
theorem vx_runVX {hh : List (Nat × Nat × Nat × Nat)} (S : CallFix p m c cc nL s args Ts own) (hM : vx_Met l y ws rm Pc Qc XC mc ms free) (cw : vx_CVW R s args own C index y bytes maxL ret hh ws rm mc ms n) (hp : PreV s H C b Pc As)
    (hg : g.method = m) (hn : As.length = n) (hsize : g.locals.size = nL) (hstack : g.stack = As.reverse ++ .ref b :: rest) (hW : 2 * g.monitorRoom + (rest.map fun v => v.category).sum ≤ 8) (hdg : decode cc g.pc = .ok (.invokevirtual index, 3)) (hf : cells + mc ≤ R.cells ∧ slots + ms ≤ R.slots) :
    vx_Run p l e R s m args below meth c H locs cells slots mc ms g rest (Qc (Value.ref b :: As).toArray) XC free := by
  obtain ⟨⟨hrc, hrs, hfr, hlo, hws, hcw⟩, hcode, hini, hy, hlen, hl, hin, hse⟩ := cw
  have hK : vx_Back l R p e below s args y 3 8 (PreOf R mc ms Pc) (PostOf Qc mc ms free) (vx_Post XC mc ms free) := vx_backW (hh := hh) (bytes := bytes) (maxL := maxL) (ret := ret) hM hp.1 hrc hrs hfr hlo hws hcw (fun a' U hW => word_at hW (Or.inl (by first | rfl | simp [Cond.onTables, Cond.keeps, Cond.steady])) hini)
  obtain ⟨hx, hb, hml, ho, -⟩ := S
  obtain ⟨-, ⟨cellB, hcB, hoB, hclB⟩, hPc⟩ := hp
  intro T hT X
  rcases vx_callVX X hx (C := C) (hh := hh) (bytes := bytes) (maxL := maxL) (ret := ret) ho hl hin hse hcode hy hK (by rw [hT]; exact hcB) hoB hclB hg (hsize.trans hml.symm) (argsL := As) (rest := rest) (fun sig h => hn.trans (hlen sig h)) hstack hW (by rw [hb]; exact hdg)
    (fun vm₁ hW₁ => ⟨hf.1, hf.2, hPc (T.setVm vm₁) hT hW₁⟩) with ⟨v, vm₁, ⟨U', l2, c2, s2⟩, hW₁, X', ⟨g', mk, t, L, e1, e2, hq, h1, hL, h2, h3⟩, st⟩ | ⟨q, vm₁, ⟨U', l2, c2, s2⟩, hW₁, X', ⟨g', mk, t, L, E, ce, e1, e2, hq, hce, hcv, hcl, h1, hL, h2, h3⟩, st⟩
  · dsimp only [Pt.U, Pt.locs, Pt.cells, Pt.slots] at X' e1 e2 h1 h2 h3 st
    subst h1; subst h2; subst h3
    exact Or.inl ⟨v, (T.setVm vm₁).calling g' mk (Value.ref b :: As).toArray, t, U', L, hT, X', hL, e1, e2, hq, st⟩
  · dsimp only [Pt.U, Pt.locs, Pt.cells, Pt.slots] at X' e1 e2 h1 h2 h3 st hcl
    subst h1; subst h2; subst h3
    exact Or.inr ⟨q, (T.setVm vm₁).calling g' mk (Value.ref b :: As).toArray, t, U', L, E, ce, hT, X', hL, e1, e2, hq, hce, hcv, vx_cls hW₁ hcl, st⟩
theorem vx_runSX {hh : List (Nat × Nat × Nat × Nat)} (S : CallFix p m c cc nL s args Ts own) (hM : vx_Met l y ws rm Pc Qc XC mc ms free) (cw : vx_CSW R s args own index y bytes maxL ret hh ws rm mc ms n) (hp : PreS s H Pc As)
    (hg : g.method = m) (hn : As.length = n) (hsize : g.locals.size = nL) (hstack : g.stack = As.reverse ++ rest) (hW : 2 * g.monitorRoom + (rest.map fun v => v.category).sum ≤ 8) (hdg : decode cc g.pc = .ok (.invokestatic index, 3)) (hf : cells + mc ≤ R.cells ∧ slots + ms ≤ R.slots) :
    vx_Run p l e R s m args below meth c H locs cells slots mc ms g rest (Qc As.toArray) XC free := by
  obtain ⟨⟨hrc, hrs, hfr, hlo, hws, hcw⟩, hcode, hini, hy, hlen, hl, hstt⟩ := cw
  have hK : vx_Back l R p e below s args y 3 8 (PreOf R mc ms Pc) (PostOf Qc mc ms free) (vx_Post XC mc ms free) := vx_backW (hh := hh) (bytes := bytes) (maxL := maxL) (ret := ret) hM hp.1 hrc hrs hfr hlo hws hcw (fun a' U hW => word_at hW (Or.inl (by first | rfl | simp [Cond.onTables, Cond.keeps, Cond.steady])) hini)
  obtain ⟨hx, hb, hml, ho, -⟩ := S
  intro T hT X
  rcases vx_callSX X hx (hh := hh) (bytes := bytes) (maxL := maxL) (ret := ret) ho hl hstt hini hcode hy hK hg (hsize.trans hml.symm) (argsL := As) (rest := rest) (fun sig h => hn.trans (hlen sig h)) hstack hW (by rw [hb]; exact hdg)
    (fun vm₁ hW₁ => ⟨hf.1, hf.2, hp.2 (T.setVm vm₁) hT hW₁⟩) with ⟨v, vm₁, ⟨U', l2, c2, s2⟩, hW₁, X', ⟨g', mk, t, L, e1, e2, hq, h1, hL, h2, h3⟩, st⟩ | ⟨q, vm₁, ⟨U', l2, c2, s2⟩, hW₁, X', ⟨g', mk, t, L, E, ce, e1, e2, hq, hce, hcv, hcl, h1, hL, h2, h3⟩, st⟩
  · dsimp only [Pt.U, Pt.locs, Pt.cells, Pt.slots] at X' e1 e2 h1 h2 h3 st
    subst h1; subst h2; subst h3
    exact Or.inl ⟨v, (T.setVm vm₁).calling g' mk As.toArray, t, U', L, hT, X', hL, e1, e2, hq, st⟩
  · dsimp only [Pt.U, Pt.locs, Pt.cells, Pt.slots] at X' e1 e2 h1 h2 h3 st hcl
    subst h1; subst h2; subst h3
    exact Or.inr ⟨q, (T.setVm vm₁).calling g' mk As.toArray, t, U', L, E, ce, hT, X', hL, e1, e2, hq, hce, hcv, vx_cls hW₁ hcl, st⟩
end
end VXH
theorem vx_ofWH {l : Launch} {y : MethodName} {ws ws' : List Cond} {rm : Room} {Pc : Array Value → State → Prop} {Qc : Array Value → State → Outcome → State → Prop} {XC : String → State → State → Prop} {mc ms : Nat} {free : Addr → Prop} {cc : ByteArray} {maxL : Nat} {ret : Option FieldType} {hh : List (Nat × Nat × Nat × Nat)}
    (hy : plainName y.cls = true) (hw : ws = Cond.codeWith y cc maxL ret hh :: ws')
    (body : ∀ p e s m args below meth c s₁, BodyLoose p l y (headSpec ws rm) cc maxL ret e s m args below meth c s₁ → c.maxLocals = maxL → Pc args s →
      W p l e (headSpec ws rm).room s m args below meth c s.heap [] 0 0 (vx_MQ below Qc XC args s mc ms free) (entryFrame m args maxL)) : vx_Met l y ws rm Pc Qc XC mc ms free := by
  refine MetFree.of_bodyS (code := cc) (maxLocals := maxL) (ret := ret) hy ?_ ?_
  · intro args s m h hn
    obtain ⟨m9, meth, c, hn9, h1, h2, h3, h4, -, h5, h6, -⟩ := Cond.codeWith_spec (atoms_spec (ws := ws) h _ (by rw [hw]; exact List.mem_cons_self))
    cases hn.symm.trans hn9
    exact ⟨meth, c, h1, h2, h3, h4, h5, h6⟩
  · intro p e s m args below meth c s₁ B hml hP _
    have hh0 : s₁.heap = s.heap := by rw [B.state]; rfl
    obtain ⟨t, a1, o, b1, b2, b3⟩ := body p e s m args below meth c s₁ B hml hP s₁ hh0 (Stand.of_body B)
    exact ⟨t, o, a1, b1, b2, b3⟩
/-! ===== END ===== -/
/-! ===== BEGIN what the machine throws by itself, no traces kept ===== -/
section VXM
set_option maxHeartbeats 1000000 in
/-- the machine throws cls with the message text, no traces kept: from its note over the frame g to 'throwing' over the same frame (follows the proofs of Stand.vmThrowsMessage, Shelf/KitTracedVmS.lean, and Stand.throwsMessageColdBareV, StandMessageColdV.lean, without the step out of the frame) -/
theorem vx_vmAt {p : Program} {l : Launch} {e : Env} {R : Room} {s : State} {m₀ : MethodId} {args : Array Value} {below : List Frame} {meth : Method} {c : Code} {W : State} {locs : List Loc} {cells slots : Nat}
    (X : Stand p l e R s m₀ args below meth c W locs cells slots) (hexec : p.tables.exec = Jvm.exec) (htr : e.platform.stackTraces = false) {cls : String} {names : List String} {text : String}
    (hcls : Bundle.fit cls = true) (hnames : ∀ n ∈ names, Bundle.fit n = true) (hsoe : (cls == "java/lang/StackOverflowError") = false) (hoom : (cls == "java/lang/OutOfMemoryError") = false)
    (h : ∀ a ∈ Bundle.messageArmAtoms cls names, a.before args s = true)
    (hlocs : ∀ x ∈ locs, ∀ cell, s.heap[x.base]? = some cell → cell.vm.isStatics = false)
    (htext : (text == notModelled) = false) (hlimit : ¬ (stringBytes (stringToUtf16 text)).size > e.platform.arrayLengthLimit) (hheap : ¬ (stringBytes (stringToUtf16 text)).size * componentBytes .byte > e.platform.maxHeapBytes)
    {g : JFrame} (hg : g.method = m₀) (hsize : g.locals.size = c.maxLocals)
    (hRframes : names.length + 4 < R.frames) (hRlocals : 2 * g.monitorRoom + (g.stack.map fun v => v.category).sum + 10240 ≤ R.locals) (hshort : 13 * names.length + 55 ≤ 10240)
    (hRcells : cells + 3 ≤ R.cells) (hRslots : slots + ((stringBytes (stringToUtf16 text)).size + 4 + 6) ≤ R.slots) (hlocks : meth.locks = false) :
    ∃ (S : State) (q : Addr) (ce : Cell), (∀ target, Steps p.tables e below ((S.setTop g).pushFrame (.throwing q)) target → Steps p.tables e below ((W.setTop g).pushFrame (.throwNew cls (some text) none)) target) ∧
      Stand p l e R s m₀ args below meth c S locs (cells + 3) (slots + ((stringBytes (stringToUtf16 text)).size + 4 + 6)) ∧ S.heap[q]? = some ce ∧ s.vm.findClass cls = some ce.cls ∧ ce.vm = .none := by
  have howns : e.platform.frameOwnsMonitors = true := by rw [X.admits.platform]
  have hfin : e.platform.finalization = false := by rw [X.admits.platform]
  have hpl : e.platform.magicAccessors = ({} : Platform).magicAccessors := by rw [X.admits.platform]
  have a : ∀ x, x ∈ Bundle.messageArmAtoms cls names → x.holds args s none s [] = true := fun x hx => h x hx
  obtain ⟨T, Z0, L, -, Y⟩ := ThrowableC.of_atoms (args := args) howns hfin hpl (fun x hx => h x (by simp [Bundle.messageArmAtoms, hx]))
  obtain ⟨Z, M, LZ, LM, hnZ⟩ := Init0T.ofS_atoms (args := args) hpl L Y (fun x hx => h x (by simp [Bundle.messageArmAtoms, hx]))
  obtain ⟨P1, Ps, hlen, L1, hL, hP1m, hlink1, hlink⟩ := Bundle.chainS (args := args) hpl hnZ names cls hcls hnames (fun x hx => h x (by simp [Bundle.messageArmAtoms, hx]))
  obtain ⟨Zs, LZs, hn4, hfitv, hfitc⟩ := StringT.of_atoms (args := args) (fun x hx => h x (by simp [Bundle.messageArmAtoms, hx]))
  have hfound : s.vm.findClass cls = some P1.m.cls := findClass_of_methodNamed hP1m
  obtain ⟨c1, kX, hc1, hk, hord, -, -, hn6⟩ := Cond.instantiable_spec (a (.instantiable cls 6) (by simp [Bundle.messageArmAtoms]))
  cases Option.some.inj (hc1.symm.trans hfound)
  have hinit := Cond.initialized_spec hfound hk (a (.initialized cls) (by simp [Bundle.messageArmAtoms]))
  have hctor : kX.findMethod "<init>" "(Ljava/lang/String;)V" = some P1.m.idx := findMethod_of_methodNamed hP1m hk
  have hsel0 : selectMethod e.platform s.vm P1.m.cls T.fill0 = .method T.fill0 := by
    obtain ⟨c2, r2, m2, q1, q2, q3, q4, -⟩ := Cond.selects_spec (a (.selects cls Bundle.tFill0 Bundle.tFill0) (by simp [Bundle.messageArmAtoms]))
    cases Option.some.inj (q1.symm.trans hfound)
    cases Option.some.inj (q2.symm.trans (State.methodFound?_of_named Y.fill0 (by decide)))
    cases Option.some.inj (q3.symm.trans Y.fill0)
    rw [Launch.admits_selectMethod X.admits]; exact q4
  have hselF : selectMethod e.platform s.vm P1.m.cls T.fill = .method T.fill := by
    obtain ⟨c2, r2, m2, q1, q2, q3, q4, -⟩ := Cond.selects_spec (a (.selects cls Bundle.tFill Bundle.tFill) (by simp [Bundle.messageArmAtoms]))
    cases Option.some.inj (q1.symm.trans hfound)
    cases Option.some.inj (q2.symm.trans (State.methodFound?_of_named Y.fill (by decide)))
    cases Option.some.inj (q3.symm.trans Y.fill)
    rw [Launch.admits_selectMethod X.admits]; exact q4
  obtain ⟨cellS0, hcS0, hiss⟩ := Y.statics
  obtain ⟨u0, hu0⟩ := Cond.staticRefV Y.unassigned L.unassignedStatic L.statics hcS0 hiss (a (.isRef (.static Bundle.tN "UNASSIGNED_STACK" Bundle.steD)) (by simp [Bundle.messageArmAtoms]))
  obtain ⟨sen, hsen⟩ := Cond.staticRefV Y.sentinel L.sentinelStatic L.statics hcS0 hiss (a (.isRef (.static Bundle.tN "SUPPRESSED_SENTINEL" Bundle.listD)) (by simp [Bundle.messageArmAtoms]))
  obtain ⟨ci198, i198, fB, hk198, hg198, ha198, hsB, -, hnB, htB, hffB⟩ := Cond.ownField (t := .object "java/lang/Object") Y.found L.cls (by decide +kernel) (a (.fieldLink Bundle.tN 198 Bundle.tN "backtrace" "Ljava/lang/Object;") (by simp [Bundle.messageArmAtoms])) (a (.lays Bundle.tN Bundle.tN "backtrace" "Ljava/lang/Object;") (by simp [Bundle.messageArmAtoms])) e.platform hpl
  obtain ⟨cellS, hcS', heS, -, hkeep⟩ := X.same.2.2.2.2.2 T.aS cellS0 hcS0
  have hcellS : W.heap[T.aS]? = some cellS := hcS'
  have hout' : ∀ i, (⟨T.aS, i⟩ : Loc) ∉ locs := fun i hmem => by
    have := hlocs _ hmem cellS0 hcS0
    rw [hiss] at this; cases this
  have hknownS : cellS.vm ≠ .unknown := by
    rw [heS]; intro hu
    rw [show cellS0.vm = .unknown from hu] at hiss
    cases hiss
  have hvU : cellS.slots[T.fUnassigned.slot]? = some u0.v := by rw [hkeep _ (hout' _)]; exact hu0
  have hvSen : cellS.slots[T.fSentinel.slot]? = some sen.v := by rw [hkeep _ (hout' _)]; exact hsen
  obtain ⟨iM, hffM⟩ := Y.msg
  obtain ⟨tyC, dC, hdC, hdnC⟩ := Cond.laysAt hfound hk Y.cause (a (.lays cls Bundle.tN "cause" "Ljava/lang/Throwable;") (by simp [Bundle.messageArmAtoms]))
  obtain ⟨tyS, dS, hdS, hdnS⟩ := Cond.laysAt hfound hk Y.stack (a (.lays cls Bundle.tN "stackTrace" Bundle.steD) (by simp [Bundle.messageArmAtoms]))
  obtain ⟨tyP, dP, hdP, hdnP⟩ := Cond.laysAt hfound hk Y.supp (a (.lays cls Bundle.tN "suppressedExceptions" Bundle.listD) (by simp [Bundle.messageArmAtoms]))
  obtain ⟨tyM, dM, hdM, hdnM⟩ := Cond.laysAt hfound hk hffM (a (.lays cls Bundle.tN "detailMessage" "Ljava/lang/String;") (by simp [Bundle.messageArmAtoms]))
  obtain ⟨tyB, dB, hdB, hdnB⟩ := Cond.laysAt hfound hk hffB (a (.lays cls Bundle.tN "backtrace" "Ljava/lang/Object;") (by simp [Bundle.messageArmAtoms]))
  have bC := Cond.laysApart hdB hdC hdnB hdnC (by rw [hnB, Y.causeName]; decide)
  have bS := Cond.laysApart hdB hdS hdnB hdnS (by rw [hnB, Y.stackName]; decide)
  have bP := Cond.laysApart hdB hdP hdnB hdnP (by rw [hnB, Y.suppName]; decide)
  have hbk : ((preparedCellV T.toThrowableT (freshCell P1.m.cls kX) (W.heap.size + 2) u0 sen).withEntry W.cur).slots[fB.slot]? = some .null := by
    have := fresh_default (c := P1.m.cls) tyB
    rw [htB] at this
    simpa [preparedCellV, Cell.setSlot, Cell.withEntry, Array.getElem?_setIfInBounds, bC, bS, bP, bC.symm, bS.symm, bP.symm, defaultValue] using this
  have tkC := Takes.of_laid (v := .ref (W.heap.size + 2)) hk hord tyC (by rw [Y.causeType]; rfl)
  have tkS := Takes.of_laid (v := u0.v) hk hord tyS (by rw [Y.stackType]; exact fits_refV_array _ u0)
  have tkP := Takes.of_laid (v := sen.v) hk hord tyP (by rw [Y.suppType]; exact fits_refV_object _ sen)
  have tkM := Takes.of_laid (v := .ref (W.heap.size + 1)) hk hord tyM (by rw [Y.msgType]; rfl)
  have hskip : SkipFacts T e.platform s (fun u => u) u0 ((preparedCellV T.toThrowableT (freshCell P1.m.cls kX) (W.heap.size + 2) u0 sen).withEntry W.cur) := ⟨{ ci198 := ci198, i198 := i198, fBack := fB }, ⟨hk198, hg198, ha198, hsB⟩, hbk, fun _ _ => rfl⟩
  have h0 : At W g.method c below := by rw [hg]; exact X.here
  obtain ⟨hbeyond, hfreeW⟩ := X.vmMayThrow hsize (.throwNew cls (some text) none) (fun f hf => by cases hf) rfl hRlocals
  have hfr' : W.frames.length + Ps.length + 4 < (e.platform.stackLimits W.me).1 := by have := X.framesAbove hRframes; omega
  have hwd' : (stackUse (.java g :: W.frames.tail)).2 + 13 * Ps.length + 55 ≤ (e.platform.stackLimits W.me).2 := by have := X.stackAbove hsize (K := 13 * Ps.length + 55) (by omega); omega
  have hslots : W.slotsUsed + (stringBytes (stringToUtf16 text)).size + Zs.kS.instanceTypes.size + kX.instanceTypes.size ≤ e.platform.maxSlots := by
    have := X.slotsAbove hRslots
    rw [hn4, hn6]
    omega
  obtain ⟨vm', hW', st⟩ := Steps.vmThrowsMessageColdByV p (s₀ := s) (S := W) (g := g) h0 hexec T L Z LZ M LM X.warmed (t := W.cur) rfl Zs LZs P1 L1 Ps hL hlink1 hlink hsoe hoom hfound hk hinit hord hctor
    (Launch.admits_hotImplicitExceptions X.admits) hbeyond hfreeW htext hlimit hheap (X.cellsAbove hRcells) hslots (hfitv _) (hfitc _)
    (Nn := fun u => u) heapOnly_id (fun _ _ => rfl) (fun _ => rfl) (fun u x y => setCell_twice _ _ _ _) (fun _ => Nat.le_refl _) (cN := ((preparedCellV T.toThrowableT (freshCell P1.m.cls kX) (W.heap.size + 2) u0 sen).withEntry W.cur))
    hsel0 hcellS hknownS hvU tkS (fun _ hu => hu) (fun _ hu => hu) rfl rfl rfl (by simp [preparedCellV, Cell.setSlot, Cell.withEntry]) hskip (fun _ _ hA hW _ hroom _ hrest => L.nativeOff p htr hA hW hroom hrest) hselF hvSen tkC tkP tkM Y.objLocals rfl hfr' hwd'
  rw [plainBareV_eq T.toThrowableT (W.heap.size + 2) u0 sen (.ref (W.heap.size + 1)) W.cur rfl rfl] at st
  obtain ⟨-, -, w3, w4, -, -, -⟩ := withThrown_facts e.platform W Zs text P1.m.cls kX
  have X3 := ((X.pushed (bytesOf Zs.cB (stringToUtf16 text))).pushed (stringAt Zs.cS Zs.kS Zs.fv Zs.fc (stringToUtf16 text) W.heap.size)).pushed (freshCell P1.m.cls kX)
  rw [← withString_eq] at X3
  have X4 := X3.noted hW'
  have ha : (W.heap.size + 2) < ((withThrown W Zs text P1.m.cls kX).setVm vm').heap.size := by show _ < (withThrown W Zs text P1.m.cls kX).heap.size; rw [w3]; omega
  have hcell : ((withThrown W Zs text P1.m.cls kX).setVm vm').heap[(W.heap.size + 2)]? = some (freshCell P1.m.cls kX) := w4
  have X5 := ((((X4.stored hcell T.fCause.slot (.ref (W.heap.size + 2))).storedAgain ha T.fStack.slot u0.v).storedAgain ha T.fSupp.slot sen.v).storedAgain ha T.fStack.slot u0.v).storedAgain ha T.fMsg.slot (.ref (W.heap.size + 1))
  obtain ⟨g₁, hfrM⟩ := X5.frames_eq
  have hU : ((((withThrown W Zs text P1.m.cls kX).setVm vm').setCell (W.heap.size + 2) (plainBareV T.toThrowableT (freshCell P1.m.cls kX) (W.heap.size + 2) u0 sen (.ref (W.heap.size + 1)))).setTop g).pushFrame (.throwing (W.heap.size + 2)) = (((withThrown W Zs text P1.m.cls kX).setVm vm').setCell (W.heap.size + 2) (plainBareV T.toThrowableT (freshCell P1.m.cls kX) (W.heap.size + 2) u0 sen (.ref (W.heap.size + 1)))).setFrames (.throwing (W.heap.size + 2) :: .java g :: below) := by
    rw [State.pushFrame, State.frames_setTop _ hfrM, State.setTop_of_frames _ hfrM, State.setFrames_setFrames]
  have b1 : (bytesOf Zs.cB (stringToUtf16 text)).slots.size = (stringBytes (stringToUtf16 text)).size := by
    rw [(Cell.writeAll_facts _ _).2.2]; simp [bytes0]
  have b2 : (stringAt Zs.cS Zs.kS Zs.fv Zs.fc (stringToUtf16 text) W.heap.size).slots.size = 4 := by simp [string0, Cell.setSlot, hn4]
  have b3 : (freshCell P1.m.cls kX).slots.size = 6 := by simp [hn6]
  rw [b1, b2, b3] at X5
  have e9 : slots + (stringBytes (stringToUtf16 text)).size + 4 + 6 = slots + ((stringBytes (stringToUtf16 text)).size + 4 + 6) := by omega
  rw [e9] at X5
  simp only [List.append_assoc, List.cons_append, List.nil_append] at X5
  refine ⟨((withThrown W Zs text P1.m.cls kX).setVm vm').setCell (W.heap.size + 2) (plainBareV T.toThrowableT (freshCell P1.m.cls kX) (W.heap.size + 2) u0 sen (.ref (W.heap.size + 1))), W.heap.size + 2, _, fun target ht => st _ (by rw [X.tail, ← hU]; exact ht),
    X5.forget (fun y hy => ?_), heapAt_setCell_self _ ha, hfound, rfl⟩
  simp only [List.mem_cons, List.not_mem_nil, or_false] at hy
  have hge : s.heap.size ≤ W.heap.size := X.same.2.1
  rcases hy with rfl | rfl | rfl | rfl | rfl <;> exact Nat.le_trans hge (Nat.le_add_right _ 2)
set_option maxHeartbeats 1000000 in
/-- the machine throws NullPointerException, no traces kept: from its note over the frame g to 'throwing' over the same frame (follows the proof of Stand.vmThrowsNpe, Shelf42/KT2.lean; throwsNpeColdBareVAt, Shelf42/NT91.lean, called) -/
theorem vx_npeAt {p : Program} {l : Launch} {e : Env} {R : Room} {s : State} {m₀ : MethodId} {args : Array Value} {below : List Frame} {meth : Method} {c : Code} {W : State} {locs : List Loc} {cells slots : Nat}
    (X : Stand p l e R s m₀ args below meth c W locs cells slots) (hexec : p.tables.exec = Jvm.exec) (htr : e.platform.stackTraces = false) {n : Nat}
    (h : ∀ a ∈ Bundle.npeArmAtoms n, a.before args s = true)
    (hlocs : ∀ x ∈ locs, ∀ cell, s.heap[x.base]? = some cell → cell.vm.isStatics = false)
    {g : JFrame} (hg : g.method = m₀) (hsize : g.locals.size = c.maxLocals)
    (hRframes : 7 < R.frames) (hRlocals : 2 * g.monitorRoom + (g.stack.map fun v => v.category).sum + 10240 ≤ R.locals)
    (hRcells : cells + 1 ≤ R.cells) (hRslots : slots + n ≤ R.slots) (hlocks : meth.locks = false) :
    ∃ (S : State) (q : Addr) (ce : Cell), (∀ target, Steps p.tables e below ((S.setTop g).pushFrame (.throwing q)) target → Steps p.tables e below ((W.setTop g).pushFrame (.throwNew "java/lang/NullPointerException" none none)) target) ∧
      Stand p l e R s m₀ args below meth c S locs (cells + 1) (slots + n) ∧ S.heap[q]? = some ce ∧ s.vm.findClass "java/lang/NullPointerException" = some ce.cls ∧ ce.vm = .none := by
  have howns : e.platform.frameOwnsMonitors = true := by rw [X.admits.platform]
  have hfin : e.platform.finalization = false := by rw [X.admits.platform]
  have hpl : e.platform.magicAccessors = ({} : Platform).magicAccessors := by rw [X.admits.platform]
  have hpl2 : e.platform.arrayCloneIsPublic = true := by rw [X.admits.platform]
  have a' : ∀ x, x ∈ Bundle.npeArmAtoms n → x.holds args s none s [] = true := fun x hx => h x hx
  obtain ⟨T, Z, L, LZ, Y⟩ := ThrowableC.of_atoms (args := args) howns hfin hpl (fun x hx => h x (by simp [Bundle.npeArmAtoms, hx]))
  obtain ⟨N, LN, hcN, hnNF, hordN, hffS⟩ := NpeC.of_atoms (args := args) hpl hpl2 L Y (fun x hx => h x (by simp [Bundle.npeArmAtoms, hx]))
  obtain ⟨P1, L1, hP1m, hP1s⟩ := PassC.of_atoms (args := args) (s := s) hpl (X := Bundle.nN) (Y := Bundle.rN) (by decide) (by decide) LibCode.NullPointerException.Init0.at_0 LibCode.NullPointerException.Init0.at_1 LibCode.NullPointerException.Init0.at_4 (fun x hx => h x (by simp [Bundle.npeArmAtoms, hx]))
  obtain ⟨PR, LR, hPRm, hPRs⟩ := PassC.of_atoms (args := args) (s := s) hpl (X := Bundle.rN) (Y := Bundle.eN) (by decide) (by decide) LibCode.RuntimeException.Init0.at_0 LibCode.RuntimeException.Init0.at_1 LibCode.RuntimeException.Init0.at_4 (fun x hx => h x (by simp [Bundle.npeArmAtoms, hx]))
  obtain ⟨PE, LEx, hPEm, hPEs⟩ := PassC.of_atoms (args := args) (s := s) hpl (X := Bundle.eN) (Y := Bundle.tN) (by decide) (by decide) LibCode.Exception.Init0.at_0 LibCode.Exception.Init0.at_1 LibCode.Exception.Init0.at_4 (fun x hx => h x (by simp [Bundle.npeArmAtoms, hx]))
  have hfound : s.vm.findClass Bundle.nN = some P1.m.cls := findClass_of_methodNamed hP1m
  have ecls : N.cN = P1.m.cls := Option.some.inj (hcN.symm.trans hfound)
  have hk : s.vm.classes[P1.m.cls]? = some N.kN := by rw [← ecls]; exact LN.cls
  have hinit := Cond.initialized_spec hfound hk (a' (.initialized Bundle.nN) (by simp [Bundle.npeArmAtoms]))
  have hctor : N.kN.findMethod "<init>" "()V" = some P1.m.idx := findMethod_of_methodNamed hP1m hk
  obtain ⟨c1, k1, hc1, hk1, -, -, -, hn⟩ := Cond.instantiable_spec (a' (.instantiable Bundle.nN n) (by simp [Bundle.npeArmAtoms]))
  cases Option.some.inj (hc1.symm.trans hfound)
  cases Option.some.inj (hk1.symm.trans hk)
  have hfsz : (freshCell P1.m.cls N.kN).slots.size = n := by simp [hn]
  have hlink1 : P1.sup = PR.m := Option.some.inj (hP1s.symm.trans hPRm)
  have hlinkR : PR.sup = PE.m := Option.some.inj (hPRs.symm.trans hPEm)
  have hlinkE : PE.sup = Z.m T.toThrowableT := Option.some.inj (hPEs.symm.trans Y.init0)
  have hLs : ∀ P, P ∈ [PR, PE] → P.Links0 e.platform s := fun P hP => by
    simp only [List.mem_cons, List.not_mem_nil, or_false] at hP
    rcases hP with rfl | rfl
    · exact LR
    · exact LEx
  have hsel0 : selectMethod e.platform s.vm P1.m.cls T.fill0 = .method T.fill0 := by
    obtain ⟨c2, r2, m2, q1, q2, q3, q4, -⟩ := Cond.selects_spec (a' (.selects Bundle.nN Bundle.tFill0 Bundle.tFill0) (by simp [Bundle.npeArmAtoms]))
    cases Option.some.inj (q1.symm.trans hfound)
    cases Option.some.inj (q2.symm.trans (State.methodFound?_of_named Y.fill0 (by decide)))
    cases Option.some.inj (q3.symm.trans Y.fill0)
    rw [Launch.admits_selectMethod X.admits]; exact q4
  have hselF : selectMethod e.platform s.vm P1.m.cls T.fill = .method N.fill := by
    obtain ⟨c2, r2, m2, q1, q2, q3, q4, -⟩ := Cond.selects_spec (a' (.selects Bundle.nN Bundle.tFill Bundle.nFill) (by simp [Bundle.npeArmAtoms]))
    cases Option.some.inj (q1.symm.trans hfound)
    cases Option.some.inj (q2.symm.trans (State.methodFound?_of_named Y.fill (by decide)))
    cases Option.some.inj (q3.symm.trans hnNF)
    rw [Launch.admits_selectMethod X.admits]; exact q4
  obtain ⟨cellS0, hcS0, hiss⟩ := Y.statics
  obtain ⟨u0, hu0⟩ := Cond.staticRefV Y.unassigned L.unassignedStatic L.statics hcS0 hiss (a' (.isRef (.static Bundle.tN "UNASSIGNED_STACK" Bundle.steD)) (by simp [Bundle.npeArmAtoms]))
  obtain ⟨sen, hsen⟩ := Cond.staticRefV Y.sentinel L.sentinelStatic L.statics hcS0 hiss (a' (.isRef (.static Bundle.tN "SUPPRESSED_SENTINEL" Bundle.listD)) (by simp [Bundle.npeArmAtoms]))
  obtain ⟨ci198, i198, fB, hk198, hg198, ha198, hsB, -, hnB, htB, hffB⟩ := Cond.ownField (t := .object "java/lang/Object") Y.found L.cls (by decide +kernel) (a' (.fieldLink Bundle.tN 198 Bundle.tN "backtrace" Bundle.objD) (by simp [Bundle.npeArmAtoms])) (a' (.lays Bundle.tN Bundle.tN "backtrace" Bundle.objD) (by simp [Bundle.npeArmAtoms])) e.platform hpl
  obtain ⟨cellS, hcS', heS, -, hkeep⟩ := X.same.2.2.2.2.2 T.aS cellS0 hcS0
  have hcellS : W.heap[T.aS]? = some cellS := hcS'
  have hout' : ∀ i, (⟨T.aS, i⟩ : Loc) ∉ locs := fun i hmem => by
    have := hlocs _ hmem cellS0 hcS0
    rw [hiss] at this; cases this
  have hknownS : cellS.vm ≠ .unknown := by
    rw [heS]; intro hu
    rw [show cellS0.vm = .unknown from hu] at hiss
    cases hiss
  have hvU : cellS.slots[T.fUnassigned.slot]? = some u0.v := by rw [hkeep _ (hout' _)]; exact hu0
  have hvSen : cellS.slots[T.fSentinel.slot]? = some sen.v := by rw [hkeep _ (hout' _)]; exact hsen
  obtain ⟨tyC, dC, hdC, hdnC⟩ := Cond.laysAt hfound hk Y.cause (a' (.lays Bundle.nN Bundle.tN "cause" "Ljava/lang/Throwable;") (by simp [Bundle.npeArmAtoms]))
  obtain ⟨tyS, dS, hdS, hdnS⟩ := Cond.laysAt hfound hk Y.stack (a' (.lays Bundle.nN Bundle.tN "stackTrace" Bundle.steD) (by simp [Bundle.npeArmAtoms]))
  obtain ⟨tyP, dP, hdP, hdnP⟩ := Cond.laysAt hfound hk Y.supp (a' (.lays Bundle.nN Bundle.tN "suppressedExceptions" Bundle.listD) (by simp [Bundle.npeArmAtoms]))
  obtain ⟨tyX, dX, hdX, hdnX⟩ := Cond.laysAt hfound hk hffS (a' (.lays Bundle.nN Bundle.nN "extendedMessageState" "I") (by simp [Bundle.npeArmAtoms, Bundle.npeAtoms]))
  obtain ⟨hnX, htX⟩ := State.fieldFound?_type hffS (t := .int) (by decide +kernel)
  have xC := Cond.laysApart hdC hdX hdnC hdnX (by rw [hnX, Y.causeName]; decide)
  have xS := Cond.laysApart hdS hdX hdnS hdnX (by rw [hnX, Y.stackName]; decide)
  have xP := Cond.laysApart hdP hdX hdnP hdnX (by rw [hnX, Y.suppName]; decide)
  have hv0 : (freshCell P1.m.cls N.kN).slots[N.fState.slot]? = some (.int 0) := by
    have := fresh_default (c := P1.m.cls) tyX
    rw [htX] at this; exact this
  obtain ⟨tyB, dB, hdB, hdnB⟩ := Cond.laysAt hfound hk hffB (a' (.lays Bundle.nN Bundle.tN "backtrace" Bundle.objD) (by simp [Bundle.npeArmAtoms]))
  have bC := Cond.laysApart hdB hdC hdnB hdnC (by rw [hnB, Y.causeName]; decide)
  have bS := Cond.laysApart hdB hdS hdnB hdnS (by rw [hnB, Y.stackName]; decide)
  have bP := Cond.laysApart hdB hdP hdnB hdnP (by rw [hnB, Y.suppName]; decide)
  have bX := Cond.laysApart hdB hdX hdnB hdnX (by rw [hnB, hnX]; decide)
  have hbk : ((npeCell N.toNpeT (preparedCellV T.toThrowableT (freshCell P1.m.cls N.kN) W.heap.size u0 sen) W.cur).withEntry W.cur).slots[fB.slot]? = some .null := by
    have := fresh_default (c := P1.m.cls) tyB
    rw [htB] at this
    simpa [npeCell, preparedCellV, Cell.setSlot, Cell.withEntry, Array.getElem?_setIfInBounds, bC, bS, bP, bX, bC.symm, bS.symm, bP.symm, bX.symm, defaultValue] using this
  have tkC := Takes.of_laid (v := .ref W.heap.size) hk hordN tyC (by rw [Y.causeType]; rfl)
  have tkS := Takes.of_laid (v := u0.v) hk hordN tyS (by rw [Y.stackType]; exact fits_refV_array _ u0)
  have tkP := Takes.of_laid (v := sen.v) hk hordN tyP (by rw [Y.suppType]; exact fits_refV_object _ sen)
  have tkX := Takes.of_laid (v := .int 1) hk hordN tyX (by rw [htX]; rfl)
  have hskip : SkipFacts T e.platform s (fun u => u) u0 ((npeCell N.toNpeT (preparedCellV T.toThrowableT (freshCell P1.m.cls N.kN) W.heap.size u0 sen) W.cur).withEntry W.cur) := ⟨{ ci198 := ci198, i198 := i198, fBack := fB }, ⟨hk198, hg198, ha198, hsB⟩, hbk, fun _ _ => rfl⟩
  obtain ⟨vm', X3, st, -⟩ := X.throwsNpeColdBareVAt hexec hg hsize T L Z LZ N LN P1 L1 [PR, PE] hLs hlink1 ⟨hlinkR, hlinkE, trivial⟩ hfound hk hinit hordN hctor hsel0 hselF hcellS hknownS hvU hvSen
    hv0 xC xS xP tkC tkS tkP tkX Y.objLocals hskip (fun _ _ hA hW _ hroom _ hrest => L.nativeOff p htr hA hW hroom hrest) (by simpa using hRframes) hRlocals (by simp) hRcells (by rw [hn]; exact hRslots)
  have hlt : W.heap.size < ((W.pushCell (freshCell P1.m.cls N.kN)).setVm vm').heap.size := by
    show W.heap.size < (W.pushCell (freshCell P1.m.cls N.kN)).heap.size
    rw [State.heap_size_pushCell]; omega
  rw [hfsz] at X3
  obtain ⟨g₁, hfrM⟩ := X3.frames_eq
  have hU : ((((W.pushCell (freshCell P1.m.cls N.kN)).setVm vm').setCell W.heap.size (npeBareV T.toThrowableT N.toNpeT (freshCell P1.m.cls N.kN) W.heap.size u0 sen)).setTop g).pushFrame (.throwing W.heap.size) = (((W.pushCell (freshCell P1.m.cls N.kN)).setVm vm').setCell W.heap.size (npeBareV T.toThrowableT N.toNpeT (freshCell P1.m.cls N.kN) W.heap.size u0 sen)).setFrames (.throwing W.heap.size :: .java g :: below) := by
    rw [State.pushFrame, State.frames_setTop _ hfrM, State.setTop_of_frames _ hfrM, State.setFrames_setFrames]
  refine ⟨_, W.heap.size, _, fun target ht => st.trans (by rw [← hU]; exact ht), X3.forget (fun y hy => ?_), heapAt_setCell_self _ hlt, hfound, rfl⟩
  simp only [List.mem_cons, List.not_mem_nil, or_false] at hy
  have hge : s.heap.size ≤ W.heap.size := X.same.2.1
  rcases hy with rfl | rfl | rfl | rfl | rfl <;> exact hge
/-- the words of a machine's NullPointerException, but the four that speak of the heap -/
def vx_atN (n : Nat) : List Cond := (Bundle.npeArmAtoms n).filter vx_no
/-- the words of a machine's throw with a message, but the four that speak of the heap -/
def vx_atM (X : String) (names : List String) : List Cond := (Bundle.messageArmAtoms X names).filter vx_no
section
variable {p : Program} {l : Launch} {e : Env} {R : Room} {s : State} {m : MethodId} {args : Array Value} {below : List Frame} {meth : Method} {c : Code} {H : Heap} {locs : List Loc} {cells slots : Nat}
/-- a frame seen from a rebased start, seen from the first start again -/
theorem vx_back9 {T S : State} {R' : Room} {k n : Nat} (X : Stand p l e R s m args below meth c T locs cells slots) (Y : Stand p l e R' ((T.setVm s.vm).setFrames (.invoking m args :: below)) m args below meth c T [] 0 0) (Z : Stand p l e R' ((T.setVm s.vm).setFrames (.invoking m args :: below)) m args below meth c S [] k n) :
    Stand p l e R s m args below meth c S locs (cells + k) (slots + n) := by
  have hW0 : s.WarmedH ((T.setVm s.vm).setFrames (.invoking m args :: below)).vm := State.WarmedH.refl s
  refine { admits := X.admits, cas := X.cas, clock := X.clock, frames := X.frames, room := X.room, hears := X.hears, method := X.method, code := X.code, here := Z.here, tail := Z.tail, warmed := State.WarmedH.trans hW0 Z.warmed, limits := Z.limits.trans (Y.limits.symm.trans X.limits), bytes := Z.bytes.trans (Y.bytes.symm.trans X.bytes), same := ?_ }
  obtain ⟨e1, e2⟩ := Z.same
  rw [State.setFrames_setFrames] at e1
  have h2 : (T.setVm s.vm).sameButNew (S.setVm s.vm) [] k n := ⟨e1, e2⟩
  have h3 := X.same.trans h2
  rw [List.append_nil] at h3
  exact h3
/-- from the machine's note that E is thrown here with this text -/
def vx_Note (p : Program) (l : Launch) (e : Env) (R : Room) (s : State) (m : MethodId) (args : Array Value) (below : List Frame) (meth : Method) (c : Code) (H : Heap) (locs : List Loc) (cells slots : Nat) (Q : State → Prop) (g : JFrame) (E text : String) : Prop :=
  ∀ T : State, T.heap = H → Stand p l e R s m args below meth c T locs cells slots → ∃ t, Steps p.tables e below ((T.setTop g).pushFrame (.throwNew E (some text) none)) t ∧ Q t
theorem vx_vm {pc : Nat} {ls : Array Slot} {rest : List Value} {Q : State → Prop} (hexec : p.tables.exec = Jvm.exec) (hl : l.stackTraces = false) {cls text : String} {names : List String} {nb : Nat} {A : Nat → Prop}
    (hcls : Bundle.fit cls = true) (hnames : ∀ n ∈ names, Bundle.fit n = true) (hsoe : (cls == "java/lang/StackOverflowError") = false) (hoom : (cls == "java/lang/OutOfMemoryError") = false)
    (hat : ∀ w ∈ vx_atM cls names, w.before args s = true) (hgood : ∀ w ∈ vx_atM cls names, vx_ot w = true)
    (hU : vx_Zq Bundle.tN "UNASSIGNED_STACK" Bundle.steD A s s.heap) (hN : vx_Zq Bundle.tN "SUPPRESSED_SENTINEL" Bundle.listD A s s.heap) (hS : va_S A s.heap H locs) (hsize : ls.size = c.maxLocals)
    (htext : (text == notModelled) = false) (hnb : (stringBytes (stringToUtf16 text)).size ≤ nb) (hnb1 : nb ≤ 1000)
    (hRframes : names.length + 4 < R.frames) (hRlocals : (rest.map fun v => v.category).sum + 10240 ≤ R.locals) (hshort : 13 * names.length + 55 ≤ 10240) (hRcells : cells + 3 ≤ R.cells) (hRslots : slots + (nb + 10) ≤ R.slots) (hlocks : meth.locks = false)
    (k : ∀ (H1 : Heap) (q9 : Addr) (ce : Cell), H.size ≤ H1.size → (∀ q : Nat, q < H.size → H1[q]? = H[q]?) → va_S A s.heap H1 locs → H1[q9]? = some ce → ce.vm = .none → s.vm.findClass cls = some ce.cls → vx_W p l e R s m args below meth c H1 locs (cells + 3) (slots + (nb + 10)) Q (F0 m pc ls rest) q9) :
    vx_Note p l e R s m args below meth c H locs cells slots Q (F0 m pc ls rest) cls text := by
  intro T hT X
  have htr : e.platform.stackTraces = false := (show e.platform.stackTraces = l.stackTraces by rw [X.admits.platform]).trans hl
  have Y := vx_rebase X (R' := { frames := R.frames, locals := R.locals, cells := 3, slots := nb + 10 }) (Nat.le_refl _) (Nat.le_refl _) hRcells hRslots
  have hhp : ((T.setVm s.vm).setFrames (.invoking m args :: below)).heap = H := hT
  have hW0 : s.WarmedH ((T.setVm s.vm).setFrames (.invoking m args :: below)).vm := State.WarmedH.refl s
  have hat' : ∀ w ∈ vx_atM cls names, w.before args ((T.setVm s.vm).setFrames (.invoking m args :: below)) = true := fun w hw => vx_ot_at hW0 rfl (hgood w hw) (hat w hw)
  have hU' : vx_Zq Bundle.tN "UNASSIGNED_STACK" Bundle.steD A ((T.setVm s.vm).setFrames (.invoking m args :: below)) ((T.setVm s.vm).setFrames (.invoking m args :: below)).heap := by rw [hhp]; exact vx_Zq.moved hW0.alike (hU.kept hS.2.1)
  have hN' : vx_Zq Bundle.tN "SUPPRESSED_SENTINEL" Bundle.listD A ((T.setVm s.vm).setFrames (.invoking m args :: below)) ((T.setVm s.vm).setFrames (.invoking m args :: below)).heap := by rw [hhp]; exact vx_Zq.moved hW0.alike (hN.kept hS.2.1)
  obtain ⟨S, q, ce, st, Z, hce, hcl', hv⟩ := vx_vmAt Y hexec htr (cls := cls) (names := names) (text := text) hcls hnames hsoe hoom (vx_own hat' (vx_isRefq hU'.1) (vx_isRefq hN'.1) hU'.2.word hN'.2.word) (fun x hx => nomatch hx) htext
    (by rw [Launch.admits_arrayLengthLimit X.admits]; omega) (by rw [Launch.admits_maxHeapBytes X.admits]; simp only [componentBytes]; omega)
    (g := F0 m pc ls rest) rfl hsize hRframes (by show 2 * 0 + (rest.map fun v => v.category).sum + 10240 ≤ R.locals; omega) hshort (by show 0 + 3 ≤ 3; omega) (by show 0 + (_ + 4 + 6) ≤ nb + 10; omega) hlocks
  obtain ⟨f1, f2⟩ := vx_frame Z.same
  have f1' : H.size ≤ S.heap.size := by rw [← hT]; exact f1
  have f2' : ∀ q : Nat, q < H.size → S.heap[q]? = H[q]? := fun q hq => by
    rw [← hT]
    exact f2 q (by rw [← hT] at hq; exact hq) (fun z hz => nomatch hz)
  have X5 := vx_back9 X Y Z
  have X6 : Stand p l e R s m args below meth c S locs (cells + 3) (slots + (nb + 10)) := { X5 with same := X5.same.mono (by omega) (by omega) }
  obtain ⟨t, a1, b1⟩ := k S.heap q ce f1' f2' ⟨Nat.le_trans hS.1 f1', fun q h1 h2 => (f2' q (Nat.lt_of_lt_of_le h1 hS.1)).trans (hS.2.1 q h1 h2), hS.2.2⟩ hce hv hcl' S rfl X6
  exact ⟨t, st t a1, b1⟩
/-- from the machine's note that NullPointerException is thrown here -/
def vx_NoteN (p : Program) (l : Launch) (e : Env) (R : Room) (s : State) (m : MethodId) (args : Array Value) (below : List Frame) (meth : Method) (c : Code) (H : Heap) (locs : List Loc) (cells slots : Nat) (Q : State → Prop) (g : JFrame) : Prop :=
  ∀ T : State, T.heap = H → Stand p l e R s m args below meth c T locs cells slots → ∃ t, Steps p.tables e below ((T.setTop g).pushFrame (.throwNew "java/lang/NullPointerException" none none)) t ∧ Q t
theorem vx_npe {pc : Nat} {ls : Array Slot} {rest : List Value} {Q : State → Prop} (hexec : p.tables.exec = Jvm.exec) (hl : l.stackTraces = false) {nb : Nat} {A : Nat → Prop}
    (hat : ∀ w ∈ vx_atN nb, w.before args s = true) (hgood : ∀ w ∈ vx_atN nb, vx_ot w = true)
    (hU : vx_Zq Bundle.tN "UNASSIGNED_STACK" Bundle.steD A s s.heap) (hN : vx_Zq Bundle.tN "SUPPRESSED_SENTINEL" Bundle.listD A s s.heap) (hS : va_S A s.heap H locs) (hsize : ls.size = c.maxLocals)
    (hRframes : 7 < R.frames) (hRlocals : (rest.map fun v => v.category).sum + 10240 ≤ R.locals) (hRcells : cells + 1 ≤ R.cells) (hRslots : slots + nb ≤ R.slots) (hlocks : meth.locks = false)
    (k : ∀ (H1 : Heap) (q9 : Addr) (ce : Cell), H.size ≤ H1.size → (∀ q : Nat, q < H.size → H1[q]? = H[q]?) → va_S A s.heap H1 locs → H1[q9]? = some ce → ce.vm = .none → s.vm.findClass "java/lang/NullPointerException" = some ce.cls → vx_W p l e R s m args below meth c H1 locs (cells + 1) (slots + nb) Q (F0 m pc ls rest) q9) :
    vx_NoteN p l e R s m args below meth c H locs cells slots Q (F0 m pc ls rest) := by
  intro T hT X
  have htr : e.platform.stackTraces = false := (show e.platform.stackTraces = l.stackTraces by rw [X.admits.platform]).trans hl
  have Y := vx_rebase X (R' := { frames := R.frames, locals := R.locals, cells := 1, slots := nb }) (Nat.le_refl _) (Nat.le_refl _) hRcells hRslots
  have hhp : ((T.setVm s.vm).setFrames (.invoking m args :: below)).heap = H := hT
  have hW0 : s.WarmedH ((T.setVm s.vm).setFrames (.invoking m args :: below)).vm := State.WarmedH.refl s
  have hat' : ∀ w ∈ vx_atN nb, w.before args ((T.setVm s.vm).setFrames (.invoking m args :: below)) = true := fun w hw => vx_ot_at hW0 rfl (hgood w hw) (hat w hw)
  have hU' : vx_Zq Bundle.tN "UNASSIGNED_STACK" Bundle.steD A ((T.setVm s.vm).setFrames (.invoking m args :: below)) ((T.setVm s.vm).setFrames (.invoking m args :: below)).heap := by rw [hhp]; exact vx_Zq.moved hW0.alike (hU.kept hS.2.1)
  have hN' : vx_Zq Bundle.tN "SUPPRESSED_SENTINEL" Bundle.listD A ((T.setVm s.vm).setFrames (.invoking m args :: below)) ((T.setVm s.vm).setFrames (.invoking m args :: below)).heap := by rw [hhp]; exact vx_Zq.moved hW0.alike (hN.kept hS.2.1)
  obtain ⟨S, q, ce, st, Z, hce, hcl', hv⟩ := vx_npeAt Y hexec htr (n := nb) (vx_own hat' (vx_isRefq hU'.1) (vx_isRefq hN'.1) hU'.2.word hN'.2.word) (fun x hx => nomatch hx)
    (g := F0 m pc ls rest) rfl hsize hRframes (by show 2 * 0 + (rest.map fun v => v.category).sum + 10240 ≤ R.locals; omega) (by show 0 + 1 ≤ 1; omega) (by show 0 + nb ≤ nb; omega) hlocks
  obtain ⟨f1, f2⟩ := vx_frame Z.same
  have f1' : H.size ≤ S.heap.size := by rw [← hT]; exact f1
  have f2' : ∀ q : Nat, q < H.size → S.heap[q]? = H[q]? := fun q hq => by
    rw [← hT]
    exact f2 q (by rw [← hT] at hq; exact hq) (fun z hz => nomatch hz)
  have X5 := vx_back9 X Y Z
  have X6 : Stand p l e R s m args below meth c S locs (cells + 1) (slots + nb) := { X5 with same := X5.same.mono (by omega) (by omega) }
  obtain ⟨t, a1, b1⟩ := k S.heap q ce f1' f2' ⟨Nat.le_trans hS.1 f1', fun q h1 h2 => (f2' q (Nat.lt_of_lt_of_le h1 hS.1)).trans (hS.2.1 q h1 h2), hS.2.2⟩ hce hv hcl' S rfl X6
  exact ⟨t, st t a1, b1⟩
variable {Q : State → Prop} {cc : ByteArray} {pc : Nat} {ls : Array Slot} {rest : List Value}
theorem vx_idivZ (hexec : p.tables.exec = Jvm.exec) (hb : c.code = cc) {a b : Int32} (h0 : b = 0) (d : decode cc pc = .ok (.idiv, 1)) (k : vx_Note p l e R s m args below meth c H locs cells slots Q (F0 m pc ls rest) "java/lang/ArithmeticException" "/ by zero") :
    W p l e R s m args below meth c H locs cells slots Q (F0 m pc ls (.int b :: .int a :: rest)) := by
  intro T hT X
  obtain ⟨t, st, q⟩ := k T hT X
  exact ⟨t, X.idivZero hexec (g := F0 m pc ls (.int b :: .int a :: rest)) rfl (a := a) (rest := rest) (by rw [h0]) (by rw [hb]; exact d) t st, q⟩
theorem vx_iremZ (hexec : p.tables.exec = Jvm.exec) (hb : c.code = cc) {a b : Int32} (h0 : b = 0) (d : decode cc pc = .ok (.irem, 1)) (k : vx_Note p l e R s m args below meth c H locs cells slots Q (F0 m pc ls rest) "java/lang/ArithmeticException" "/ by zero") :
    W p l e R s m args below meth c H locs cells slots Q (F0 m pc ls (.int b :: .int a :: rest)) := by
  intro T hT X
  obtain ⟨t, st, q⟩ := k T hT X
  exact ⟨t, X.iremZero hexec (g := F0 m pc ls (.int b :: .int a :: rest)) rfl (a := a) (rest := rest) (by rw [h0]) (by rw [hb]; exact d) t st, q⟩
theorem vx_ldivZ (hexec : p.tables.exec = Jvm.exec) (hb : c.code = cc) {a b : Int64} (h0 : b = 0) (d : decode cc pc = .ok (.ldiv, 1)) (k : vx_Note p l e R s m args below meth c H locs cells slots Q (F0 m pc ls rest) "java/lang/ArithmeticException" "/ by zero") :
    W p l e R s m args below meth c H locs cells slots Q (F0 m pc ls (.long b :: .long a :: rest)) := by
  intro T hT X
  obtain ⟨t, st, q⟩ := k T hT X
  exact ⟨t, X.ldivZero hexec (g := F0 m pc ls (.long b :: .long a :: rest)) rfl (a := a) (rest := rest) (by rw [h0]) (by rw [hb]; exact d) t st, q⟩
theorem vx_lremZ (hexec : p.tables.exec = Jvm.exec) (hb : c.code = cc) {a b : Int64} (h0 : b = 0) (d : decode cc pc = .ok (.lrem, 1)) (k : vx_Note p l e R s m args below meth c H locs cells slots Q (F0 m pc ls rest) "java/lang/ArithmeticException" "/ by zero") :
    W p l e R s m args below meth c H locs cells slots Q (F0 m pc ls (.long b :: .long a :: rest)) := by
  intro T hT X
  obtain ⟨t, st, q⟩ := k T hT X
  exact ⟨t, X.lremZero hexec (g := F0 m pc ls (.long b :: .long a :: rest)) rfl (a := a) (rest := rest) (by rw [h0]) (by rw [hb]; exact d) t st, q⟩
theorem vx_ialdZ {D : va_G} {cl : List vw_C} {ws : va_W} {tys : List (ClassId × FieldType)} {a : Nat} (hexec : p.tables.exec = Jvm.exec) (hb : c.code = cc) (hK : va_K D cl tys s) (hP : va_P D cl ws H) (q0 t0 : Nat) {cA : ClassId} {n : Nat} {f : Nat → Int32} (ha : ws[q0]? = some (a, .inl (cA, n, .inl f))) (ht : tys[t0]? = some (cA, .int)) {i : Int32} (hout : ¬ vp_in i n) (hdg : decode cc pc = .ok (.iaload, 1))
    (k : ∀ tx : String, tx = (toString "Index " ++ toString i ++ toString " out of bounds for length " ++ toString n : String) → vx_Note p l e R s m args below meth c H locs cells slots Q (F0 m pc ls rest) "java/lang/ArrayIndexOutOfBoundsException" tx) : W p l e R s m args below meth c H locs cells slots Q (F0 m pc ls (.int i :: .ref a :: rest)) := by
  intro T hT X
  obtain ⟨t, st, q⟩ := k _ rfl T hT X
  refine ⟨t, ?_, q⟩
  have h1 := X.ialoadOut hexec (by rw [hT]; exact hP q0 _ ha) ((hK.2 t0 _ ht).1 n (fun j => .int (f j))) (j := i) (by show (i < 0 ∨ (arrV _ _ _).slots.size ≤ _); rw [arrV_size]; exact Classical.byContradiction hout) (g := F0 m pc ls (.int i :: .ref a :: rest)) rfl (rest := rest) rfl (by rw [hb]; exact hdg) t
  simp only [arrV_size] at h1
  exact h1 st
theorem vx_iastZ {D : va_G} {cl : List vw_C} {ws : va_W} {tys : List (ClassId × FieldType)} {a : Nat} (hexec : p.tables.exec = Jvm.exec) (hb : c.code = cc) (hK : va_K D cl tys s) (hP : va_P D cl ws H) (q0 t0 : Nat) {cA : ClassId} {n : Nat} {f : Nat → Int32} (ha : ws[q0]? = some (a, .inl (cA, n, .inl f))) (ht : tys[t0]? = some (cA, .int)) {i : Int32} {x : Int32} (hout : ¬ vp_in i n) (hdg : decode cc pc = .ok (.iastore, 1))
    (k : ∀ tx : String, tx = (toString "Index " ++ toString i ++ toString " out of bounds for length " ++ toString n : String) → vx_Note p l e R s m args below meth c H locs cells slots Q (F0 m pc ls rest) "java/lang/ArrayIndexOutOfBoundsException" tx) : W p l e R s m args below meth c H locs cells slots Q (F0 m pc ls (.int x :: .int i :: .ref a :: rest)) := by
  intro T hT X
  obtain ⟨t, st, q⟩ := k _ rfl T hT X
  refine ⟨t, ?_, q⟩
  have h1 := X.iastoreOut hexec (by rw [hT]; exact hP q0 _ ha) ((hK.2 t0 _ ht).1 n (fun j => .int (f j))) (j := i) (by show (i < 0 ∨ (arrV _ _ _).slots.size ≤ _); rw [arrV_size]; exact Classical.byContradiction hout) (g := F0 m pc ls (.int x :: .int i :: .ref a :: rest)) rfl (rest := rest) rfl (by rw [hb]; exact hdg) t
  simp only [arrV_size] at h1
  exact h1 st
theorem vx_baldZ {D : va_G} {cl : List vw_C} {ws : va_W} {tys : List (ClassId × FieldType)} {a : Nat} (hexec : p.tables.exec = Jvm.exec) (hb : c.code = cc) (hK : va_K D cl tys s) (hP : va_P D cl ws H) (q0 t0 : Nat) {cA : ClassId} {n : Nat} {f : Nat → Int32} (ha : ws[q0]? = some (a, .inl (cA, n, .inl f))) (ht : tys[t0]? = some (cA, .byte)) {i : Int32} (hout : ¬ vp_in i n) (hdg : decode cc pc = .ok (.baload, 1))
    (k : ∀ tx : String, tx = (toString "Index " ++ toString i ++ toString " out of bounds for length " ++ toString n : String) → vx_Note p l e R s m args below meth c H locs cells slots Q (F0 m pc ls rest) "java/lang/ArrayIndexOutOfBoundsException" tx) : W p l e R s m args below meth c H locs cells slots Q (F0 m pc ls (.int i :: .ref a :: rest)) := by
  intro T hT X
  obtain ⟨t, st, q⟩ := k _ rfl T hT X
  refine ⟨t, ?_, q⟩
  have h1 := X.baloadOut hexec (by rw [hT]; exact hP q0 _ ha) ((hK.2 t0 _ ht).1 n (fun j => .int (f j))) (j := i) (by show (i < 0 ∨ (arrV _ _ _).slots.size ≤ _); rw [arrV_size]; exact Classical.byContradiction hout) (g := F0 m pc ls (.int i :: .ref a :: rest)) rfl (rest := rest) rfl (by rw [hb]; exact hdg) t
  simp only [arrV_size] at h1
  exact h1 st
theorem vx_bastZ {D : va_G} {cl : List vw_C} {ws : va_W} {tys : List (ClassId × FieldType)} {a : Nat} (hexec : p.tables.exec = Jvm.exec) (hb : c.code = cc) (hK : va_K D cl tys s) (hP : va_P D cl ws H) (q0 t0 : Nat) {cA : ClassId} {n : Nat} {f : Nat → Int32} (ha : ws[q0]? = some (a, .inl (cA, n, .inl f))) (ht : tys[t0]? = some (cA, .byte)) {i : Int32} {x : Int32} (hout : ¬ vp_in i n) (hdg : decode cc pc = .ok (.bastore, 1))
    (k : ∀ tx : String, tx = (toString "Index " ++ toString i ++ toString " out of bounds for length " ++ toString n : String) → vx_Note p l e R s m args below meth c H locs cells slots Q (F0 m pc ls rest) "java/lang/ArrayIndexOutOfBoundsException" tx) : W p l e R s m args below meth c H locs cells slots Q (F0 m pc ls (.int x :: .int i :: .ref a :: rest)) := by
  intro T hT X
  obtain ⟨t, st, q⟩ := k _ rfl T hT X
  refine ⟨t, ?_, q⟩
  have h1 := X.bastoreOut hexec (by rw [hT]; exact hP q0 _ ha) ((hK.2 t0 _ ht).1 n (fun j => .int (f j))) (j := i) (by show (i < 0 ∨ (arrV _ _ _).slots.size ≤ _); rw [arrV_size]; exact Classical.byContradiction hout) (g := F0 m pc ls (.int x :: .int i :: .ref a :: rest)) rfl (rest := rest) rfl (by rw [hb]; exact hdg) t
  simp only [arrV_size] at h1
  exact h1 st
theorem vx_zaldZ {D : va_G} {cl : List vw_C} {ws : va_W} {tys : List (ClassId × FieldType)} {a : Nat} (hexec : p.tables.exec = Jvm.exec) (hb : c.code = cc) (hK : va_K D cl tys s) (hP : va_P D cl ws H) (q0 t0 : Nat) {cA : ClassId} {n : Nat} {f : Nat → Int32} (ha : ws[q0]? = some (a, .inl (cA, n, .inl f))) (ht : tys[t0]? = some (cA, .boolean)) {i : Int32} (hout : ¬ vp_in i n) (hdg : decode cc pc = .ok (.baload, 1))
    (k : ∀ tx : String, tx = (toString "Index " ++ toString i ++ toString " out of bounds for length " ++ toString n : String) → vx_Note p l e R s m args below meth c H locs cells slots Q (F0 m pc ls rest) "java/lang/ArrayIndexOutOfBoundsException" tx) : W p l e R s m args below meth c H locs cells slots Q (F0 m pc ls (.int i :: .ref a :: rest)) := by
  intro T hT X
  obtain ⟨t, st, q⟩ := k _ rfl T hT X
  refine ⟨t, ?_, q⟩
  have h1 := X.baloadOut hexec (by rw [hT]; exact hP q0 _ ha) ((hK.2 t0 _ ht).1 n (fun j => .int (f j))) (j := i) (by show (i < 0 ∨ (arrV _ _ _).slots.size ≤ _); rw [arrV_size]; exact Classical.byContradiction hout) (g := F0 m pc ls (.int i :: .ref a :: rest)) rfl (rest := rest) rfl (by rw [hb]; exact hdg) t
  simp only [arrV_size] at h1
  exact h1 st
theorem vx_zastZ {D : va_G} {cl : List vw_C} {ws : va_W} {tys : List (ClassId × FieldType)} {a : Nat} (hexec : p.tables.exec = Jvm.exec) (hb : c.code = cc) (hK : va_K D cl tys s) (hP : va_P D cl ws H) (q0 t0 : Nat) {cA : ClassId} {n : Nat} {f : Nat → Int32} (ha : ws[q0]? = some (a, .inl (cA, n, .inl f))) (ht : tys[t0]? = some (cA, .boolean)) {i : Int32} {x : Int32} (hout : ¬ vp_in i n) (hdg : decode cc pc = .ok (.bastore, 1))
    (k : ∀ tx : String, tx = (toString "Index " ++ toString i ++ toString " out of bounds for length " ++ toString n : String) → vx_Note p l e R s m args below meth c H locs cells slots Q (F0 m pc ls rest) "java/lang/ArrayIndexOutOfBoundsException" tx) : W p l e R s m args below meth c H locs cells slots Q (F0 m pc ls (.int x :: .int i :: .ref a :: rest)) := by
  intro T hT X
  obtain ⟨t, st, q⟩ := k _ rfl T hT X
  refine ⟨t, ?_, q⟩
  have h1 := X.bastoreOut hexec (by rw [hT]; exact hP q0 _ ha) ((hK.2 t0 _ ht).1 n (fun j => .int (f j))) (j := i) (by show (i < 0 ∨ (arrV _ _ _).slots.size ≤ _); rw [arrV_size]; exact Classical.byContradiction hout) (g := F0 m pc ls (.int x :: .int i :: .ref a :: rest)) rfl (rest := rest) rfl (by rw [hb]; exact hdg) t
  simp only [arrV_size] at h1
  exact h1 st
theorem vx_caldZ {D : va_G} {cl : List vw_C} {ws : va_W} {tys : List (ClassId × FieldType)} {a : Nat} (hexec : p.tables.exec = Jvm.exec) (hb : c.code = cc) (hK : va_K D cl tys s) (hP : va_P D cl ws H) (q0 t0 : Nat) {cA : ClassId} {n : Nat} {f : Nat → Int32} (ha : ws[q0]? = some (a, .inl (cA, n, .inl f))) (ht : tys[t0]? = some (cA, .char)) {i : Int32} (hout : ¬ vp_in i n) (hdg : decode cc pc = .ok (.caload, 1))
    (k : ∀ tx : String, tx = (toString "Index " ++ toString i ++ toString " out of bounds for length " ++ toString n : String) → vx_Note p l e R s m args below meth c H locs cells slots Q (F0 m pc ls rest) "java/lang/ArrayIndexOutOfBoundsException" tx) : W p l e R s m args below meth c H locs cells slots Q (F0 m pc ls (.int i :: .ref a :: rest)) := by
  intro T hT X
  obtain ⟨t, st, q⟩ := k _ rfl T hT X
  refine ⟨t, ?_, q⟩
  have h1 := X.caloadOut hexec (by rw [hT]; exact hP q0 _ ha) ((hK.2 t0 _ ht).1 n (fun j => .int (f j))) (j := i) (by show (i < 0 ∨ (arrV _ _ _).slots.size ≤ _); rw [arrV_size]; exact Classical.byContradiction hout) (g := F0 m pc ls (.int i :: .ref a :: rest)) rfl (rest := rest) rfl (by rw [hb]; exact hdg) t
  simp only [arrV_size] at h1
  exact h1 st
theorem vx_castZ {D : va_G} {cl : List vw_C} {ws : va_W} {tys : List (ClassId × FieldType)} {a : Nat} (hexec : p.tables.exec = Jvm.exec) (hb : c.code = cc) (hK : va_K D cl tys s) (hP : va_P D cl ws H) (q0 t0 : Nat) {cA : ClassId} {n : Nat} {f : Nat → Int32} (ha : ws[q0]? = some (a, .inl (cA, n, .inl f))) (ht : tys[t0]? = some (cA, .char)) {i : Int32} {x : Int32} (hout : ¬ vp_in i n) (hdg : decode cc pc = .ok (.castore, 1))
    (k : ∀ tx : String, tx = (toString "Index " ++ toString i ++ toString " out of bounds for length " ++ toString n : String) → vx_Note p l e R s m args below meth c H locs cells slots Q (F0 m pc ls rest) "java/lang/ArrayIndexOutOfBoundsException" tx) : W p l e R s m args below meth c H locs cells slots Q (F0 m pc ls (.int x :: .int i :: .ref a :: rest)) := by
  intro T hT X
  obtain ⟨t, st, q⟩ := k _ rfl T hT X
  refine ⟨t, ?_, q⟩
  have h1 := X.castoreOut hexec (by rw [hT]; exact hP q0 _ ha) ((hK.2 t0 _ ht).1 n (fun j => .int (f j))) (j := i) (by show (i < 0 ∨ (arrV _ _ _).slots.size ≤ _); rw [arrV_size]; exact Classical.byContradiction hout) (g := F0 m pc ls (.int x :: .int i :: .ref a :: rest)) rfl (rest := rest) rfl (by rw [hb]; exact hdg) t
  simp only [arrV_size] at h1
  exact h1 st
theorem vx_saldZ {D : va_G} {cl : List vw_C} {ws : va_W} {tys : List (ClassId × FieldType)} {a : Nat} (hexec : p.tables.exec = Jvm.exec) (hb : c.code = cc) (hK : va_K D cl tys s) (hP : va_P D cl ws H) (q0 t0 : Nat) {cA : ClassId} {n : Nat} {f : Nat → Int32} (ha : ws[q0]? = some (a, .inl (cA, n, .inl f))) (ht : tys[t0]? = some (cA, .short)) {i : Int32} (hout : ¬ vp_in i n) (hdg : decode cc pc = .ok (.saload, 1))
    (k : ∀ tx : String, tx = (toString "Index " ++ toString i ++ toString " out of bounds for length " ++ toString n : String) → vx_Note p l e R s m args below meth c H locs cells slots Q (F0 m pc ls rest) "java/lang/ArrayIndexOutOfBoundsException" tx) : W p l e R s m args below meth c H locs cells slots Q (F0 m pc ls (.int i :: .ref a :: rest)) := by
  intro T hT X
  obtain ⟨t, st, q⟩ := k _ rfl T hT X
  refine ⟨t, ?_, q⟩
  have h1 := X.saloadOut hexec (by rw [hT]; exact hP q0 _ ha) ((hK.2 t0 _ ht).1 n (fun j => .int (f j))) (j := i) (by show (i < 0 ∨ (arrV _ _ _).slots.size ≤ _); rw [arrV_size]; exact Classical.byContradiction hout) (g := F0 m pc ls (.int i :: .ref a :: rest)) rfl (rest := rest) rfl (by rw [hb]; exact hdg) t
  simp only [arrV_size] at h1
  exact h1 st
theorem vx_sastZ {D : va_G} {cl : List vw_C} {ws : va_W} {tys : List (ClassId × FieldType)} {a : Nat} (hexec : p.tables.exec = Jvm.exec) (hb : c.code = cc) (hK : va_K D cl tys s) (hP : va_P D cl ws H) (q0 t0 : Nat) {cA : ClassId} {n : Nat} {f : Nat → Int32} (ha : ws[q0]? = some (a, .inl (cA, n, .inl f))) (ht : tys[t0]? = some (cA, .short)) {i : Int32} {x : Int32} (hout : ¬ vp_in i n) (hdg : decode cc pc = .ok (.sastore, 1))
    (k : ∀ tx : String, tx = (toString "Index " ++ toString i ++ toString " out of bounds for length " ++ toString n : String) → vx_Note p l e R s m args below meth c H locs cells slots Q (F0 m pc ls rest) "java/lang/ArrayIndexOutOfBoundsException" tx) : W p l e R s m args below meth c H locs cells slots Q (F0 m pc ls (.int x :: .int i :: .ref a :: rest)) := by
  intro T hT X
  obtain ⟨t, st, q⟩ := k _ rfl T hT X
  refine ⟨t, ?_, q⟩
  have h1 := X.sastoreOut hexec (by rw [hT]; exact hP q0 _ ha) ((hK.2 t0 _ ht).1 n (fun j => .int (f j))) (j := i) (by show (i < 0 ∨ (arrV _ _ _).slots.size ≤ _); rw [arrV_size]; exact Classical.byContradiction hout) (g := F0 m pc ls (.int x :: .int i :: .ref a :: rest)) rfl (rest := rest) rfl (by rw [hb]; exact hdg) t
  simp only [arrV_size] at h1
  exact h1 st
theorem vx_laldZ {D : va_G} {cl : List vw_C} {ws : va_W} {tys : List (ClassId × FieldType)} {a : Nat} (hexec : p.tables.exec = Jvm.exec) (hb : c.code = cc) (hK : va_K D cl tys s) (hP : va_P D cl ws H) (q0 t0 : Nat) {cA : ClassId} {n : Nat} {f : Nat → Int64} (ha : ws[q0]? = some (a, .inl (cA, n, .inr (.inl f)))) (ht : tys[t0]? = some (cA, .long)) {i : Int32} (hout : ¬ vp_in i n) (hdg : decode cc pc = .ok (.laload, 1))
    (k : ∀ tx : String, tx = (toString "Index " ++ toString i ++ toString " out of bounds for length " ++ toString n : String) → vx_Note p l e R s m args below meth c H locs cells slots Q (F0 m pc ls rest) "java/lang/ArrayIndexOutOfBoundsException" tx) : W p l e R s m args below meth c H locs cells slots Q (F0 m pc ls (.int i :: .ref a :: rest)) := by
  intro T hT X
  obtain ⟨t, st, q⟩ := k _ rfl T hT X
  refine ⟨t, ?_, q⟩
  have h1 := X.laloadOut hexec (by rw [hT]; exact hP q0 _ ha) ((hK.2 t0 _ ht).1 n (fun j => .long (f j))) (j := i) (by show (i < 0 ∨ (arrV _ _ _).slots.size ≤ _); rw [arrV_size]; exact Classical.byContradiction hout) (g := F0 m pc ls (.int i :: .ref a :: rest)) rfl (rest := rest) rfl (by rw [hb]; exact hdg) t
  simp only [arrV_size] at h1
  exact h1 st
theorem vx_lastZ {D : va_G} {cl : List vw_C} {ws : va_W} {tys : List (ClassId × FieldType)} {a : Nat} (hexec : p.tables.exec = Jvm.exec) (hb : c.code = cc) (hK : va_K D cl tys s) (hP : va_P D cl ws H) (q0 t0 : Nat) {cA : ClassId} {n : Nat} {f : Nat → Int64} (ha : ws[q0]? = some (a, .inl (cA, n, .inr (.inl f)))) (ht : tys[t0]? = some (cA, .long)) {i : Int32} {x : Int64} (hout : ¬ vp_in i n) (hdg : decode cc pc = .ok (.lastore, 1))
    (k : ∀ tx : String, tx = (toString "Index " ++ toString i ++ toString " out of bounds for length " ++ toString n : String) → vx_Note p l e R s m args below meth c H locs cells slots Q (F0 m pc ls rest) "java/lang/ArrayIndexOutOfBoundsException" tx) : W p l e R s m args below meth c H locs cells slots Q (F0 m pc ls (.long x :: .int i :: .ref a :: rest)) := by
  intro T hT X
  obtain ⟨t, st, q⟩ := k _ rfl T hT X
  refine ⟨t, ?_, q⟩
  have h1 := X.lastoreOut hexec (by rw [hT]; exact hP q0 _ ha) ((hK.2 t0 _ ht).1 n (fun j => .long (f j))) (j := i) (by show (i < 0 ∨ (arrV _ _ _).slots.size ≤ _); rw [arrV_size]; exact Classical.byContradiction hout) (g := F0 m pc ls (.long x :: .int i :: .ref a :: rest)) rfl (rest := rest) rfl (by rw [hb]; exact hdg) t
  simp only [arrV_size] at h1
  exact h1 st
theorem vx_faldZ {D : va_G} {cl : List vw_C} {ws : va_W} {tys : List (ClassId × FieldType)} {a : Nat} (hexec : p.tables.exec = Jvm.exec) (hb : c.code = cc) (hK : va_K D cl tys s) (hP : va_P D cl ws H) (q0 t0 : Nat) {cA : ClassId} {n : Nat} {f : Nat → UInt32} (ha : ws[q0]? = some (a, .inl (cA, n, .inr (.inr (.inl f))))) (ht : tys[t0]? = some (cA, .float)) {i : Int32} (hout : ¬ vp_in i n) (hdg : decode cc pc = .ok (.faload, 1))
    (k : ∀ tx : String, tx = (toString "Index " ++ toString i ++ toString " out of bounds for length " ++ toString n : String) → vx_Note p l e R s m args below meth c H locs cells slots Q (F0 m pc ls rest) "java/lang/ArrayIndexOutOfBoundsException" tx) : W p l e R s m args below meth c H locs cells slots Q (F0 m pc ls (.int i :: .ref a :: rest)) := by
  intro T hT X
  obtain ⟨t, st, q⟩ := k _ rfl T hT X
  refine ⟨t, ?_, q⟩
  have h1 := X.faloadOut hexec (by rw [hT]; exact hP q0 _ ha) ((hK.2 t0 _ ht).1 n (fun j => .float (f j))) (j := i) (by show (i < 0 ∨ (arrV _ _ _).slots.size ≤ _); rw [arrV_size]; exact Classical.byContradiction hout) (g := F0 m pc ls (.int i :: .ref a :: rest)) rfl (rest := rest) rfl (by rw [hb]; exact hdg) t
  simp only [arrV_size] at h1
  exact h1 st
theorem vx_fastZ {D : va_G} {cl : List vw_C} {ws : va_W} {tys : List (ClassId × FieldType)} {a : Nat} (hexec : p.tables.exec = Jvm.exec) (hb : c.code = cc) (hK : va_K D cl tys s) (hP : va_P D cl ws H) (q0 t0 : Nat) {cA : ClassId} {n : Nat} {f : Nat → UInt32} (ha : ws[q0]? = some (a, .inl (cA, n, .inr (.inr (.inl f))))) (ht : tys[t0]? = some (cA, .float)) {i : Int32} {x : UInt32} (hout : ¬ vp_in i n) (hdg : decode cc pc = .ok (.fastore, 1))
    (k : ∀ tx : String, tx = (toString "Index " ++ toString i ++ toString " out of bounds for length " ++ toString n : String) → vx_Note p l e R s m args below meth c H locs cells slots Q (F0 m pc ls rest) "java/lang/ArrayIndexOutOfBoundsException" tx) : W p l e R s m args below meth c H locs cells slots Q (F0 m pc ls (.float x :: .int i :: .ref a :: rest)) := by
  intro T hT X
  obtain ⟨t, st, q⟩ := k _ rfl T hT X
  refine ⟨t, ?_, q⟩
  have h1 := X.fastoreOut hexec (by rw [hT]; exact hP q0 _ ha) ((hK.2 t0 _ ht).1 n (fun j => .float (f j))) (j := i) (by show (i < 0 ∨ (arrV _ _ _).slots.size ≤ _); rw [arrV_size]; exact Classical.byContradiction hout) (g := F0 m pc ls (.float x :: .int i :: .ref a :: rest)) rfl (rest := rest) rfl (by rw [hb]; exact hdg) t
  simp only [arrV_size] at h1
  exact h1 st
theorem vx_daldZ {D : va_G} {cl : List vw_C} {ws : va_W} {tys : List (ClassId × FieldType)} {a : Nat} (hexec : p.tables.exec = Jvm.exec) (hb : c.code = cc) (hK : va_K D cl tys s) (hP : va_P D cl ws H) (q0 t0 : Nat) {cA : ClassId} {n : Nat} {f : Nat → UInt64} (ha : ws[q0]? = some (a, .inl (cA, n, .inr (.inr (.inr (.inl f)))))) (ht : tys[t0]? = some (cA, .double)) {i : Int32} (hout : ¬ vp_in i n) (hdg : decode cc pc = .ok (.daload, 1))
    (k : ∀ tx : String, tx = (toString "Index " ++ toString i ++ toString " out of bounds for length " ++ toString n : String) → vx_Note p l e R s m args below meth c H locs cells slots Q (F0 m pc ls rest) "java/lang/ArrayIndexOutOfBoundsException" tx) : W p l e R s m args below meth c H locs cells slots Q (F0 m pc ls (.int i :: .ref a :: rest)) := by
  intro T hT X
  obtain ⟨t, st, q⟩ := k _ rfl T hT X
  refine ⟨t, ?_, q⟩
  have h1 := X.daloadOut hexec (by rw [hT]; exact hP q0 _ ha) ((hK.2 t0 _ ht).1 n (fun j => .double (f j))) (j := i) (by show (i < 0 ∨ (arrV _ _ _).slots.size ≤ _); rw [arrV_size]; exact Classical.byContradiction hout) (g := F0 m pc ls (.int i :: .ref a :: rest)) rfl (rest := rest) rfl (by rw [hb]; exact hdg) t
  simp only [arrV_size] at h1
  exact h1 st
theorem vx_dastZ {D : va_G} {cl : List vw_C} {ws : va_W} {tys : List (ClassId × FieldType)} {a : Nat} (hexec : p.tables.exec = Jvm.exec) (hb : c.code = cc) (hK : va_K D cl tys s) (hP : va_P D cl ws H) (q0 t0 : Nat) {cA : ClassId} {n : Nat} {f : Nat → UInt64} (ha : ws[q0]? = some (a, .inl (cA, n, .inr (.inr (.inr (.inl f)))))) (ht : tys[t0]? = some (cA, .double)) {i : Int32} {x : UInt64} (hout : ¬ vp_in i n) (hdg : decode cc pc = .ok (.dastore, 1))
    (k : ∀ tx : String, tx = (toString "Index " ++ toString i ++ toString " out of bounds for length " ++ toString n : String) → vx_Note p l e R s m args below meth c H locs cells slots Q (F0 m pc ls rest) "java/lang/ArrayIndexOutOfBoundsException" tx) : W p l e R s m args below meth c H locs cells slots Q (F0 m pc ls (.double x :: .int i :: .ref a :: rest)) := by
  intro T hT X
  obtain ⟨t, st, q⟩ := k _ rfl T hT X
  refine ⟨t, ?_, q⟩
  have h1 := X.dastoreOut hexec (by rw [hT]; exact hP q0 _ ha) ((hK.2 t0 _ ht).1 n (fun j => .double (f j))) (j := i) (by show (i < 0 ∨ (arrV _ _ _).slots.size ≤ _); rw [arrV_size]; exact Classical.byContradiction hout) (g := F0 m pc ls (.double x :: .int i :: .ref a :: rest)) rfl (rest := rest) rfl (by rw [hb]; exact hdg) t
  simp only [arrV_size] at h1
  exact h1 st
theorem vx_arraylengthN (hexec : p.tables.exec = Jvm.exec) (hb : c.code = cc) (hdg : decode cc pc = .ok (.arraylength, 1)) (k : vx_NoteN p l e R s m args below meth c H locs cells slots Q (F0 m pc ls rest)) : W p l e R s m args below meth c H locs cells slots Q (F0 m pc ls (.null :: rest)) := by
  intro T hT X
  obtain ⟨t, st, q⟩ := k T hT X
  exact ⟨t, X.arraylengthNull hexec (g := F0 m pc ls (.null :: rest)) rfl (rest := rest) rfl (by rw [hb]; exact hdg) t st, q⟩
theorem vx_ialoadN (hexec : p.tables.exec = Jvm.exec) (hb : c.code = cc) {i : Int32} (hdg : decode cc pc = .ok (.iaload, 1)) (k : vx_NoteN p l e R s m args below meth c H locs cells slots Q (F0 m pc ls rest)) : W p l e R s m args below meth c H locs cells slots Q (F0 m pc ls (.int i :: .null :: rest)) := by
  intro T hT X
  obtain ⟨t, st, q⟩ := k T hT X
  exact ⟨t, X.ialoadNull hexec (g := F0 m pc ls (.int i :: .null :: rest)) rfl (rest := rest) rfl (by rw [hb]; exact hdg) t st, q⟩
theorem vx_laloadN (hexec : p.tables.exec = Jvm.exec) (hb : c.code = cc) {i : Int32} (hdg : decode cc pc = .ok (.laload, 1)) (k : vx_NoteN p l e R s m args below meth c H locs cells slots Q (F0 m pc ls rest)) : W p l e R s m args below meth c H locs cells slots Q (F0 m pc ls (.int i :: .null :: rest)) := by
  intro T hT X
  obtain ⟨t, st, q⟩ := k T hT X
  exact ⟨t, X.laloadNull hexec (g := F0 m pc ls (.int i :: .null :: rest)) rfl (rest := rest) rfl (by rw [hb]; exact hdg) t st, q⟩
theorem vx_faloadN (hexec : p.tables.exec = Jvm.exec) (hb : c.code = cc) {i : Int32} (hdg : decode cc pc = .ok (.faload, 1)) (k : vx_NoteN p l e R s m args below meth c H locs cells slots Q (F0 m pc ls rest)) : W p l e R s m args below meth c H locs cells slots Q (F0 m pc ls (.int i :: .null :: rest)) := by
  intro T hT X
  obtain ⟨t, st, q⟩ := k T hT X
  exact ⟨t, X.faloadNull hexec (g := F0 m pc ls (.int i :: .null :: rest)) rfl (rest := rest) rfl (by rw [hb]; exact hdg) t st, q⟩
theorem vx_daloadN (hexec : p.tables.exec = Jvm.exec) (hb : c.code = cc) {i : Int32} (hdg : decode cc pc = .ok (.daload, 1)) (k : vx_NoteN p l e R s m args below meth c H locs cells slots Q (F0 m pc ls rest)) : W p l e R s m args below meth c H locs cells slots Q (F0 m pc ls (.int i :: .null :: rest)) := by
  intro T hT X
  obtain ⟨t, st, q⟩ := k T hT X
  exact ⟨t, X.daloadNull hexec (g := F0 m pc ls (.int i :: .null :: rest)) rfl (rest := rest) rfl (by rw [hb]; exact hdg) t st, q⟩
theorem vx_aaloadN (hexec : p.tables.exec = Jvm.exec) (hb : c.code = cc) {i : Int32} (hdg : decode cc pc = .ok (.aaload, 1)) (k : vx_NoteN p l e R s m args below meth c H locs cells slots Q (F0 m pc ls rest)) : W p l e R s m args below meth c H locs cells slots Q (F0 m pc ls (.int i :: .null :: rest)) := by
  intro T hT X
  obtain ⟨t, st, q⟩ := k T hT X
  exact ⟨t, X.aaloadNull hexec (g := F0 m pc ls (.int i :: .null :: rest)) rfl (rest := rest) rfl (by rw [hb]; exact hdg) t st, q⟩
theorem vx_baloadN (hexec : p.tables.exec = Jvm.exec) (hb : c.code = cc) {i : Int32} (hdg : decode cc pc = .ok (.baload, 1)) (k : vx_NoteN p l e R s m args below meth c H locs cells slots Q (F0 m pc ls rest)) : W p l e R s m args below meth c H locs cells slots Q (F0 m pc ls (.int i :: .null :: rest)) := by
  intro T hT X
  obtain ⟨t, st, q⟩ := k T hT X
  exact ⟨t, X.baloadNull hexec (g := F0 m pc ls (.int i :: .null :: rest)) rfl (rest := rest) rfl (by rw [hb]; exact hdg) t st, q⟩
theorem vx_caloadN (hexec : p.tables.exec = Jvm.exec) (hb : c.code = cc) {i : Int32} (hdg : decode cc pc = .ok (.caload, 1)) (k : vx_NoteN p l e R s m args below meth c H locs cells slots Q (F0 m pc ls rest)) : W p l e R s m args below meth c H locs cells slots Q (F0 m pc ls (.int i :: .null :: rest)) := by
  intro T hT X
  obtain ⟨t, st, q⟩ := k T hT X
  exact ⟨t, X.caloadNull hexec (g := F0 m pc ls (.int i :: .null :: rest)) rfl (rest := rest) rfl (by rw [hb]; exact hdg) t st, q⟩
theorem vx_saloadN (hexec : p.tables.exec = Jvm.exec) (hb : c.code = cc) {i : Int32} (hdg : decode cc pc = .ok (.saload, 1)) (k : vx_NoteN p l e R s m args below meth c H locs cells slots Q (F0 m pc ls rest)) : W p l e R s m args below meth c H locs cells slots Q (F0 m pc ls (.int i :: .null :: rest)) := by
  intro T hT X
  obtain ⟨t, st, q⟩ := k T hT X
  exact ⟨t, X.saloadNull hexec (g := F0 m pc ls (.int i :: .null :: rest)) rfl (rest := rest) rfl (by rw [hb]; exact hdg) t st, q⟩
theorem vx_iastoreN (hexec : p.tables.exec = Jvm.exec) (hb : c.code = cc) {x : Int32} {i : Int32} (hdg : decode cc pc = .ok (.iastore, 1)) (k : vx_NoteN p l e R s m args below meth c H locs cells slots Q (F0 m pc ls rest)) : W p l e R s m args below meth c H locs cells slots Q (F0 m pc ls (.int x :: .int i :: .null :: rest)) := by
  intro T hT X
  obtain ⟨t, st, q⟩ := k T hT X
  exact ⟨t, X.iastoreNull hexec (g := F0 m pc ls (.int x :: .int i :: .null :: rest)) rfl (rest := rest) rfl (by rw [hb]; exact hdg) t st, q⟩
theorem vx_lastoreN (hexec : p.tables.exec = Jvm.exec) (hb : c.code = cc) {x : Int64} {i : Int32} (hdg : decode cc pc = .ok (.lastore, 1)) (k : vx_NoteN p l e R s m args below meth c H locs cells slots Q (F0 m pc ls rest)) : W p l e R s m args below meth c H locs cells slots Q (F0 m pc ls (.long x :: .int i :: .null :: rest)) := by
  intro T hT X
  obtain ⟨t, st, q⟩ := k T hT X
  exact ⟨t, X.lastoreNull hexec (g := F0 m pc ls (.long x :: .int i :: .null :: rest)) rfl (rest := rest) rfl (by rw [hb]; exact hdg) t st, q⟩
theorem vx_fastoreN (hexec : p.tables.exec = Jvm.exec) (hb : c.code = cc) {x : UInt32} {i : Int32} (hdg : decode cc pc = .ok (.fastore, 1)) (k : vx_NoteN p l e R s m args below meth c H locs cells slots Q (F0 m pc ls rest)) : W p l e R s m args below meth c H locs cells slots Q (F0 m pc ls (.float x :: .int i :: .null :: rest)) := by
  intro T hT X
  obtain ⟨t, st, q⟩ := k T hT X
  exact ⟨t, X.fastoreNull hexec (g := F0 m pc ls (.float x :: .int i :: .null :: rest)) rfl (rest := rest) rfl (by rw [hb]; exact hdg) t st, q⟩
theorem vx_dastoreN (hexec : p.tables.exec = Jvm.exec) (hb : c.code = cc) {x : UInt64} {i : Int32} (hdg : decode cc pc = .ok (.dastore, 1)) (k : vx_NoteN p l e R s m args below meth c H locs cells slots Q (F0 m pc ls rest)) : W p l e R s m args below meth c H locs cells slots Q (F0 m pc ls (.double x :: .int i :: .null :: rest)) := by
  intro T hT X
  obtain ⟨t, st, q⟩ := k T hT X
  exact ⟨t, X.dastoreNull hexec (g := F0 m pc ls (.double x :: .int i :: .null :: rest)) rfl (rest := rest) rfl (by rw [hb]; exact hdg) t st, q⟩
theorem vx_bastoreN (hexec : p.tables.exec = Jvm.exec) (hb : c.code = cc) {x : Int32} {i : Int32} (hdg : decode cc pc = .ok (.bastore, 1)) (k : vx_NoteN p l e R s m args below meth c H locs cells slots Q (F0 m pc ls rest)) : W p l e R s m args below meth c H locs cells slots Q (F0 m pc ls (.int x :: .int i :: .null :: rest)) := by
  intro T hT X
  obtain ⟨t, st, q⟩ := k T hT X
  exact ⟨t, X.bastoreNull hexec (g := F0 m pc ls (.int x :: .int i :: .null :: rest)) rfl (rest := rest) rfl (by rw [hb]; exact hdg) t st, q⟩
theorem vx_castoreN (hexec : p.tables.exec = Jvm.exec) (hb : c.code = cc) {x : Int32} {i : Int32} (hdg : decode cc pc = .ok (.castore, 1)) (k : vx_NoteN p l e R s m args below meth c H locs cells slots Q (F0 m pc ls rest)) : W p l e R s m args below meth c H locs cells slots Q (F0 m pc ls (.int x :: .int i :: .null :: rest)) := by
  intro T hT X
  obtain ⟨t, st, q⟩ := k T hT X
  exact ⟨t, X.castoreNull hexec (g := F0 m pc ls (.int x :: .int i :: .null :: rest)) rfl (rest := rest) rfl (by rw [hb]; exact hdg) t st, q⟩
theorem vx_sastoreN (hexec : p.tables.exec = Jvm.exec) (hb : c.code = cc) {x : Int32} {i : Int32} (hdg : decode cc pc = .ok (.sastore, 1)) (k : vx_NoteN p l e R s m args below meth c H locs cells slots Q (F0 m pc ls rest)) : W p l e R s m args below meth c H locs cells slots Q (F0 m pc ls (.int x :: .int i :: .null :: rest)) := by
  intro T hT X
  obtain ⟨t, st, q⟩ := k T hT X
  exact ⟨t, X.sastoreNull hexec (g := F0 m pc ls (.int x :: .int i :: .null :: rest)) rfl (rest := rest) rfl (by rw [hb]; exact hdg) t st, q⟩
theorem vx_invokeN {own C : String} {index maxL : Nat} {y : MethodName} {bytes : ByteArray} {ret : Option FieldType} (hexec : p.tables.exec = Jvm.exec) (hb : c.code = cc) (hown : s.vm.findClass own = some m.cls) (hlink : (Cond.methodLink own index y).before args s = true) (hinst : (Cond.instanceMethod y).before args s = true) (hcode : (Cond.code y bytes maxL ret).before args s = true) (hsel : (Cond.selects C y y).before args s = true)
    (hx : y.cls ≠ "java/lang/invoke/MethodHandle" ∧ y.cls ≠ "java/lang/invoke/VarHandle") {As : List Value} (hlen : (parseMethodDescriptor y.desc).map (fun d => d.parameters.length) = some As.length) (hdg : decode cc pc = .ok (.invokevirtual index, 3))
    (k : vx_NoteN p l e R s m args below meth c H locs cells slots Q (F0 m pc ls rest)) {st0 : List Value} (hst : st0 = As.reverse ++ .null :: rest) : W p l e R s m args below meth c H locs cells slots Q (F0 m pc ls st0) := by
  intro T hT X
  obtain ⟨r0, r, hn, hrm, hstR, hsigR⟩ := va_Decl.of hinst hcode
  obtain ⟨c2, r2, m2, q1, q2, q3, q4, kP, hkP, hkPi⟩ := Cond.selects_spec hsel
  cases hn.symm.trans q3
  have hl9 : As.length = r.sig.parameters.length := by
    rw [hsigR] at hlen
    exact (Option.some.inj hlen).symm
  obtain ⟨vm', X1, st1⟩ := X.invokevirtualNull hexec hown hlink hn hrm hstR hkP hkPi hx (g := F0 m pc ls st0) rfl (argsL := As) (rest := rest) hl9 hst (by rw [hb]; exact hdg)
  obtain ⟨t, st, q⟩ := k (T.setVm vm') hT X1
  exact ⟨t, st1 t st, q⟩
theorem vx_newarrayZ {atype : ArrayType} (hexec : p.tables.exec = Jvm.exec) (hb : c.code = cc) {n : Int32} (h0 : n < 0) (hdg : decode cc pc = .ok (.newarray atype, 2)) (k : ∀ tx : String, tx = toString n → vx_Note p l e R s m args below meth c H locs cells slots Q (F0 m pc ls rest) "java/lang/NegativeArraySizeException" tx) : W p l e R s m args below meth c H locs cells slots Q (F0 m pc ls (.int n :: rest)) := by
  intro T hT X
  obtain ⟨t, st, q⟩ := k _ rfl T hT X
  exact ⟨t, X.newarrayNegative hexec (g := F0 m pc ls (.int n :: rest)) rfl h0 (rest := rest) rfl (by rw [hb]; exact hdg) t st, q⟩
end
end VXM
/-! ===== END ===== -/
/-! ===== BEGIN an exception as an object: made, kept, thrown later (no traces kept) ===== -/
section VXK
variable {p : Program} {l : Launch} {e : Env} {R : Room} {s : State} {m₀ : MethodId} {args : Array Value} {below : List Frame} {meth : Method} {c : Code} {W : State} {locs : List Loc} {cells slots : Nat}
set_option maxHeartbeats 1000000 in
theorem vx_ctorMadeS (X : Stand p l e R s m₀ args below meth c W locs cells slots) (hexec : p.tables.exec = Jvm.exec) (htr : e.platform.stackTraces = false) {own cls : String} {names : List String} {ic : Nat}
    (hown : s.vm.findClass own = some m₀.cls) (hcls : Bundle.fit cls = true) (hnames : ∀ n ∈ names, Bundle.fit n = true)
    (h : ∀ a ∈ Bundle.ownAtoms own ic cls names, a.before args s = true)
    (hlocs : ∀ x ∈ locs, ∀ cell, s.heap[x.base]? = some cell → cell.vm.isStatics = false)
    {a : Addr} {cX : ClassId} {kX : Class} (hfoundX : s.vm.findClass cls = some cX) (hkX : s.vm.classes[cX]? = some kX) (hcell : W.heap[a]? = some (freshCell cX kX)) (hnew : s.heap.size ≤ a)
    {msg : Value} (hmsg : msg.isRef = true)
    {g : JFrame} (hg : g.method = m₀) (hsize : g.locals.size = c.maxLocals) {rest : List Value} (hstack : g.stack = msg :: .ref a :: .ref a :: rest)
    (hd6 : decode c.code g.pc = .ok (.invokespecial ic, 3))
    (hRframes : names.length + 3 < R.frames) (hRlocals : 2 * g.monitorRoom + ((Value.ref a :: rest).map fun v => v.category).sum + (13 * (names.length + 1) + 42) ≤ R.locals) :
    ∃ (V : State) (ce : Cell) (L : List Loc), Stand p l e R s m₀ args below meth c (V.setCell a ce) (locs ++ L) cells slots ∧ (∀ y ∈ L, y.base = a) ∧ a < V.heap.size ∧ ce.cls = cX ∧ ce.vm = .none ∧
      ∀ target, Steps p.tables e below ((V.setCell a ce).setTop { g with stack := .ref a :: rest, pc := g.pc + 3 }) target → Steps p.tables e below (W.setTop g) target := by
  have howns : e.platform.frameOwnsMonitors = true := by rw [X.admits.platform]
  have hfin : e.platform.finalization = false := by rw [X.admits.platform]
  have hpl : e.platform.magicAccessors = ({} : Platform).magicAccessors := by rw [X.admits.platform]
  have a' : ∀ x, x ∈ Bundle.ownAtoms own ic cls names → x.holds args s none s [] = true := fun x hx => h x hx
  obtain ⟨T, Z0, L, -, Y⟩ := ThrowableC.of_atoms (args := args) howns hfin hpl (fun x hx => h x (by simp [Bundle.ownAtoms, hx]))
  obtain ⟨Z, M, LZ, LM, hnZ⟩ := Init0T.ofS_atoms (args := args) hpl L Y (fun x hx => h x (by simp [Bundle.ownAtoms, hx]))
  obtain ⟨P1, Ps, hlen, L1, hL, hP1m, hlink1, hlink⟩ := Bundle.chainS (args := args) hpl hnZ names cls hcls hnames (fun x hx => h x (by simp [Bundle.ownAtoms, hx]))
  have hfound : s.vm.findClass cls = some P1.m.cls := findClass_of_methodNamed hP1m
  cases Option.some.inj (hfoundX.symm.trans hfound)
  obtain ⟨c1, kX', hc1, hk, hord, -, -, hn6⟩ := Cond.instantiable_spec (a' (.instantiable cls 6) (by simp [Bundle.ownAtoms]))
  cases Option.some.inj (hc1.symm.trans hfound)
  cases Option.some.inj (hkX.symm.trans hk)
  have hsel0 : selectMethod e.platform s.vm P1.m.cls T.fill0 = .method T.fill0 := by
    obtain ⟨c2, r2, m2, q1, q2, q3, q4, -⟩ := Cond.selects_spec (a' (.selects cls Bundle.tFill0 Bundle.tFill0) (by simp [Bundle.ownAtoms]))
    cases Option.some.inj (q1.symm.trans hfound)
    cases Option.some.inj (q2.symm.trans (State.methodFound?_of_named Y.fill0 (by decide)))
    cases Option.some.inj (q3.symm.trans Y.fill0)
    rw [Launch.admits_selectMethod X.admits]; exact q4
  have hselF : selectMethod e.platform s.vm P1.m.cls T.fill = .method T.fill := by
    obtain ⟨c2, r2, m2, q1, q2, q3, q4, -⟩ := Cond.selects_spec (a' (.selects cls Bundle.tFill Bundle.tFill) (by simp [Bundle.ownAtoms]))
    cases Option.some.inj (q1.symm.trans hfound)
    cases Option.some.inj (q2.symm.trans (State.methodFound?_of_named Y.fill (by decide)))
    cases Option.some.inj (q3.symm.trans Y.fill)
    rw [Launch.admits_selectMethod X.admits]; exact q4
  obtain ⟨cellS0, hcS0, hiss⟩ := Y.statics
  obtain ⟨u0, hu0⟩ := Cond.staticRefV Y.unassigned L.unassignedStatic L.statics hcS0 hiss (a' (.isRef (.static Bundle.tN "UNASSIGNED_STACK" Bundle.steD)) (by simp [Bundle.ownAtoms]))
  obtain ⟨sen, hsen⟩ := Cond.staticRefV Y.sentinel L.sentinelStatic L.statics hcS0 hiss (a' (.isRef (.static Bundle.tN "SUPPRESSED_SENTINEL" Bundle.listD)) (by simp [Bundle.ownAtoms]))
  obtain ⟨ci198, i198, fB, hk198, hg198, ha198, hsB, -, hnB, htB, hffB⟩ := Cond.ownField (t := .object "java/lang/Object") Y.found L.cls (by decide +kernel) (a' (.fieldLink Bundle.tN 198 Bundle.tN "backtrace" "Ljava/lang/Object;") (by simp [Bundle.ownAtoms])) (a' (.lays Bundle.tN Bundle.tN "backtrace" "Ljava/lang/Object;") (by simp [Bundle.ownAtoms])) e.platform hpl
  obtain ⟨cellS, hcS', heS, -, hkeep⟩ := X.same.2.2.2.2.2 T.aS cellS0 hcS0
  have hcellS : W.heap[T.aS]? = some cellS := hcS'
  have hout' : ∀ i, (⟨T.aS, i⟩ : Loc) ∉ locs := fun i hmem => by
    have := hlocs _ hmem cellS0 hcS0
    rw [hiss] at this; cases this
  have hknownS : cellS.vm ≠ .unknown := by
    rw [heS]; intro hu
    rw [show cellS0.vm = .unknown from hu] at hiss
    cases hiss
  have hneS : T.aS ≠ a := Nat.ne_of_lt (Nat.lt_of_lt_of_le (Array.getElem?_eq_some_iff.mp hcS0).1 hnew)
  obtain ⟨iM, hffM⟩ := Y.msg
  obtain ⟨tyC, dC, hdC, hdnC⟩ := Cond.laysAt hfound hk Y.cause (a' (.lays cls Bundle.tN "cause" "Ljava/lang/Throwable;") (by simp [Bundle.ownAtoms]))
  obtain ⟨tyS, dS, hdS, hdnS⟩ := Cond.laysAt hfound hk Y.stack (a' (.lays cls Bundle.tN "stackTrace" Bundle.steD) (by simp [Bundle.ownAtoms]))
  obtain ⟨tyP, dP, hdP, hdnP⟩ := Cond.laysAt hfound hk Y.supp (a' (.lays cls Bundle.tN "suppressedExceptions" Bundle.listD) (by simp [Bundle.ownAtoms]))
  obtain ⟨tyM, dM, hdM, hdnM⟩ := Cond.laysAt hfound hk hffM (a' (.lays cls Bundle.tN "detailMessage" "Ljava/lang/String;") (by simp [Bundle.ownAtoms]))
  obtain ⟨tyB, dB, hdB, hdnB⟩ := Cond.laysAt hfound hk hffB (a' (.lays cls Bundle.tN "backtrace" "Ljava/lang/Object;") (by simp [Bundle.ownAtoms]))
  have bC := Cond.laysApart hdB hdC hdnB hdnC (by rw [hnB, Y.causeName]; decide)
  have bS := Cond.laysApart hdB hdS hdnB hdnS (by rw [hnB, Y.stackName]; decide)
  have bP := Cond.laysApart hdB hdP hdnB hdnP (by rw [hnB, Y.suppName]; decide)
  have hskip : SkipFacts T e.platform s (fun u => u) u0 ((preparedCellV T.toThrowableT (freshCell P1.m.cls kX) a u0 sen).withEntry W.cur) :=
    ⟨{ ci198 := ci198, i198 := i198, fBack := fB }, ⟨hk198, hg198, ha198, hsB⟩, by
      have := fresh_default (c := P1.m.cls) tyB
      rw [htB] at this
      simpa [preparedCellV, Cell.setSlot, Cell.withEntry, Array.getElem?_setIfInBounds, bC, bS, bP, bC.symm, bS.symm, bP.symm, defaultValue] using this, fun _ _ => rfl⟩
  obtain ⟨tm, methC, cdC, kC, vm₁, hnC, -, -, -, -, -, -, -, hW₁, st1⟩ := Steps.initColdS (tb := p.tables) (e := e) (below := below) (s := s) (U := W) X.here hexec X.warmed hpl hown (t := Bundle.initS cls) rfl rfl (Bundle.fit_spec hcls).2
    (a' (.methodLink own ic (Bundle.initS cls)) (by simp [Bundle.ownAtoms])) (h (.instanceMethod (Bundle.initS cls)) (by cases names <;> simp [Bundle.ownAtoms, Bundle.chainSAtoms, Bundle.passSAtoms])) (bytes := Bundle.six) (maxL := 2) (h (.code (Bundle.initS cls) Bundle.six 2 none) (by cases names <;> simp [Bundle.ownAtoms, Bundle.chainSAtoms, Bundle.passSAtoms]))
    (f := g) hg (a := a) (msg := msg) (rest := .ref a :: rest) hstack hd6
  cases Option.some.inj (hnC.symm.trans hP1m)
  have X₁ := X.noted hW₁
  obtain ⟨vm₂, X₂, st2⟩ := X₁.ctorMessageOffV hexec (g := { g with stack := .ref a :: rest }) hg hsize T L Z LZ M LM (P1 :: Ps)
    (fun P hP => by rcases List.mem_cons.mp hP with rfl | hP; exact L1; exact hL P hP) ⟨hlink1, hlink⟩ (u0 := u0) (sen := sen) (self := a) hmsg (cell := freshCell P1.m.cls kX) (cellS := cellS)
    hcell (fun _ => by simp) (by simp) rfl rfl hsel0 hselF hcellS hneS hknownS (by rw [hkeep _ (hout' _)]; exact hu0) (by rw [hkeep _ (hout' _)]; exact hsen)
    (Takes.of_laid hk hord tyC (by rw [Y.causeType]; rfl)) (Takes.of_laid hk hord tyS (by rw [Y.stackType]; exact fits_refV_array _ u0)) (Takes.of_laid hk hord tyP (by rw [Y.suppType]; exact fits_refV_object _ sen))
    (Takes.of_laid hk hord tyM (by rw [Y.msgType]; exact fits_refV_object _ ⟨msg, hmsg⟩)) Y.objLocals hskip htr [] hd6
    (by simp only [List.length_cons, hlen]; omega) (by simp only [List.length_cons, hlen]; exact hRlocals)
  have hlt : a < ((W.setVm vm₁).setVm vm₂).heap.size := (Array.getElem?_eq_some_iff.mp hcell).1
  refine ⟨(W.setVm vm₁).setVm vm₂, _, _, X₂, fun y hy => ?_, hlt, rfl, rfl, fun target hwalk => st1 _ (fun acts => ?_)⟩
  · simp only [List.mem_cons, List.not_mem_nil, or_false] at hy
    rcases hy with rfl | rfl | rfl | rfl | rfl <;> rfl
  · rw [doInvoke_state]
    exact st2 _ hwalk
set_option maxHeartbeats 1000000 in
theorem vx_ctorMade0 (X : Stand p l e R s m₀ args below meth c W locs cells slots) (hexec : p.tables.exec = Jvm.exec) (htr : e.platform.stackTraces = false) {own cls : String} {names : List String} {ic : Nat}
    (hown : s.vm.findClass own = some m₀.cls) (hcls : Bundle.fit cls = true) (hnames : ∀ n ∈ names, Bundle.fit n = true)
    (h : ∀ a ∈ Bundle.ownAtoms0 own ic cls names, a.before args s = true)
    (hlocs : ∀ x ∈ locs, ∀ cell, s.heap[x.base]? = some cell → cell.vm.isStatics = false)
    {a : Addr} {cX : ClassId} {kX : Class} (hfoundX : s.vm.findClass cls = some cX) (hkX : s.vm.classes[cX]? = some kX) (hcell : W.heap[a]? = some (freshCell cX kX)) (hnew : s.heap.size ≤ a)
    {g : JFrame} (hg : g.method = m₀) (hsize : g.locals.size = c.maxLocals) {rest : List Value} (hstack : g.stack = .ref a :: .ref a :: rest)
    (hd6 : decode c.code g.pc = .ok (.invokespecial ic, 3))
    (hRframes : names.length + 3 < R.frames) (hRlocals : 2 * g.monitorRoom + ((Value.ref a :: rest).map fun v => v.category).sum + (13 * (names.length + 1) + 41) ≤ R.locals) :
    ∃ (V : State) (ce : Cell) (L : List Loc), Stand p l e R s m₀ args below meth c (V.setCell a ce) (locs ++ L) cells slots ∧ (∀ y ∈ L, y.base = a) ∧ a < V.heap.size ∧ ce.cls = cX ∧ ce.vm = .none ∧
      ∀ target, Steps p.tables e below ((V.setCell a ce).setTop { g with stack := .ref a :: rest, pc := g.pc + 3 }) target → Steps p.tables e below (W.setTop g) target := by
  have howns : e.platform.frameOwnsMonitors = true := by rw [X.admits.platform]
  have hfin : e.platform.finalization = false := by rw [X.admits.platform]
  have hpl : e.platform.magicAccessors = ({} : Platform).magicAccessors := by rw [X.admits.platform]
  have a' : ∀ x, x ∈ Bundle.ownAtoms0 own ic cls names → x.holds args s none s [] = true := fun x hx => h x hx
  obtain ⟨T, Z, L, LZ, Y⟩ := ThrowableC.of_atoms (args := args) howns hfin hpl (fun x hx => h x (by simp [Bundle.ownAtoms0, hx]))
  obtain ⟨P1, Ps, hlen, L1, hL, hP1m, hlink1, hlink⟩ := Bundle.chain0 (args := args) hpl Y.init0 names cls hcls hnames (fun x hx => h x (by simp [Bundle.ownAtoms0, hx]))
  have hfound : s.vm.findClass cls = some P1.m.cls := findClass_of_methodNamed hP1m
  cases Option.some.inj (hfoundX.symm.trans hfound)
  obtain ⟨c1, kX', hc1, hk, hord, -, -, hn6⟩ := Cond.instantiable_spec (a' (.instantiable cls 6) (by simp [Bundle.ownAtoms0]))
  cases Option.some.inj (hc1.symm.trans hfound)
  cases Option.some.inj (hkX.symm.trans hk)
  have hsel0 : selectMethod e.platform s.vm P1.m.cls T.fill0 = .method T.fill0 := by
    obtain ⟨c2, r2, m2, q1, q2, q3, q4, -⟩ := Cond.selects_spec (a' (.selects cls Bundle.tFill0 Bundle.tFill0) (by simp [Bundle.ownAtoms0]))
    cases Option.some.inj (q1.symm.trans hfound)
    cases Option.some.inj (q2.symm.trans (State.methodFound?_of_named Y.fill0 (by decide)))
    cases Option.some.inj (q3.symm.trans Y.fill0)
    rw [Launch.admits_selectMethod X.admits]; exact q4
  have hselF : selectMethod e.platform s.vm P1.m.cls T.fill = .method T.fill := by
    obtain ⟨c2, r2, m2, q1, q2, q3, q4, -⟩ := Cond.selects_spec (a' (.selects cls Bundle.tFill Bundle.tFill) (by simp [Bundle.ownAtoms0]))
    cases Option.some.inj (q1.symm.trans hfound)
    cases Option.some.inj (q2.symm.trans (State.methodFound?_of_named Y.fill (by decide)))
    cases Option.some.inj (q3.symm.trans Y.fill)
    rw [Launch.admits_selectMethod X.admits]; exact q4
  obtain ⟨cellS0, hcS0, hiss⟩ := Y.statics
  obtain ⟨u0, hu0⟩ := Cond.staticRefV Y.unassigned L.unassignedStatic L.statics hcS0 hiss (a' (.isRef (.static Bundle.tN "UNASSIGNED_STACK" Bundle.steD)) (by simp [Bundle.ownAtoms0]))
  obtain ⟨sen, hsen⟩ := Cond.staticRefV Y.sentinel L.sentinelStatic L.statics hcS0 hiss (a' (.isRef (.static Bundle.tN "SUPPRESSED_SENTINEL" Bundle.listD)) (by simp [Bundle.ownAtoms0]))
  obtain ⟨ci198, i198, fB, hk198, hg198, ha198, hsB, -, hnB, htB, hffB⟩ := Cond.ownField (t := .object "java/lang/Object") Y.found L.cls (by decide +kernel) (a' (.fieldLink Bundle.tN 198 Bundle.tN "backtrace" "Ljava/lang/Object;") (by simp [Bundle.ownAtoms0])) (a' (.lays Bundle.tN Bundle.tN "backtrace" "Ljava/lang/Object;") (by simp [Bundle.ownAtoms0])) e.platform hpl
  obtain ⟨cellS, hcS', heS, -, hkeep⟩ := X.same.2.2.2.2.2 T.aS cellS0 hcS0
  have hcellS : W.heap[T.aS]? = some cellS := hcS'
  have hout' : ∀ i, (⟨T.aS, i⟩ : Loc) ∉ locs := fun i hmem => by
    have := hlocs _ hmem cellS0 hcS0
    rw [hiss] at this; cases this
  have hknownS : cellS.vm ≠ .unknown := by
    rw [heS]; intro hu
    rw [show cellS0.vm = .unknown from hu] at hiss
    cases hiss
  have hneS : T.aS ≠ a := Nat.ne_of_lt (Nat.lt_of_lt_of_le (Array.getElem?_eq_some_iff.mp hcS0).1 hnew)
  obtain ⟨iM, hffM⟩ := Y.msg
  obtain ⟨tyC, dC, hdC, hdnC⟩ := Cond.laysAt hfound hk Y.cause (a' (.lays cls Bundle.tN "cause" "Ljava/lang/Throwable;") (by simp [Bundle.ownAtoms0]))
  obtain ⟨tyS, dS, hdS, hdnS⟩ := Cond.laysAt hfound hk Y.stack (a' (.lays cls Bundle.tN "stackTrace" Bundle.steD) (by simp [Bundle.ownAtoms0]))
  obtain ⟨tyP, dP, hdP, hdnP⟩ := Cond.laysAt hfound hk Y.supp (a' (.lays cls Bundle.tN "suppressedExceptions" Bundle.listD) (by simp [Bundle.ownAtoms0]))
  obtain ⟨tyM, dM, hdM, hdnM⟩ := Cond.laysAt hfound hk hffM (a' (.lays cls Bundle.tN "detailMessage" "Ljava/lang/String;") (by simp [Bundle.ownAtoms0]))
  obtain ⟨tyB, dB, hdB, hdnB⟩ := Cond.laysAt hfound hk hffB (a' (.lays cls Bundle.tN "backtrace" "Ljava/lang/Object;") (by simp [Bundle.ownAtoms0]))
  have bC := Cond.laysApart hdB hdC hdnB hdnC (by rw [hnB, Y.causeName]; decide)
  have bS := Cond.laysApart hdB hdS hdnB hdnS (by rw [hnB, Y.stackName]; decide)
  have bP := Cond.laysApart hdB hdP hdnB hdnP (by rw [hnB, Y.suppName]; decide)
  have hskip : SkipFacts T e.platform s (fun u => u) u0 ((preparedCellV T.toThrowableT (freshCell P1.m.cls kX) a u0 sen).withEntry W.cur) :=
    ⟨{ ci198 := ci198, i198 := i198, fBack := fB }, ⟨hk198, hg198, ha198, hsB⟩, by
      have := fresh_default (c := P1.m.cls) tyB
      rw [htB] at this
      simpa [preparedCellV, Cell.setSlot, Cell.withEntry, Array.getElem?_setIfInBounds, bC, bS, bP, bC.symm, bS.symm, bP.symm, defaultValue] using this, fun _ _ => rfl⟩
  obtain ⟨tm, methC, cdC, kC, vm₁, hnC, -, -, -, -, -, -, -, hW₁, st1⟩ := Steps.initCold (tb := p.tables) (e := e) (below := below) (s := s) (U := W) X.here hexec X.warmed hpl hown (t := Bundle.init0 cls) rfl rfl (Bundle.fit_spec hcls).2
    (a' (.methodLink own ic (Bundle.init0 cls)) (by simp [Bundle.ownAtoms0])) (h (.instanceMethod (Bundle.init0 cls)) (by cases names <;> simp [Bundle.ownAtoms0, Bundle.chain0Atoms, Bundle.passAtoms])) (bytes := Bundle.five) (maxL := 1) (h (.code (Bundle.init0 cls) Bundle.five 1 none) (by cases names <;> simp [Bundle.ownAtoms0, Bundle.chain0Atoms, Bundle.passAtoms]))
    (f := g) hg (a := a) (rest := .ref a :: rest) hstack hd6
  cases Option.some.inj (hnC.symm.trans hP1m)
  have X₁ := X.noted hW₁
  obtain ⟨vm₂, X₂, st2⟩ := X₁.ctorPlainOffV hexec (g := { g with stack := .ref a :: rest }) hg hsize T L Z LZ (P1 :: Ps)
    (fun P hP => by rcases List.mem_cons.mp hP with rfl | hP; exact L1; exact hL P hP) ⟨hlink1, hlink⟩ (u0 := u0) (sen := sen) (self := a) (cell := freshCell P1.m.cls kX) (cellS := cellS)
    hcell (fun _ => by simp) (by simp) rfl rfl hsel0 hselF hcellS hneS hknownS (by rw [hkeep _ (hout' _)]; exact hu0) (by rw [hkeep _ (hout' _)]; exact hsen)
    (Takes.of_laid hk hord tyC (by rw [Y.causeType]; rfl)) (Takes.of_laid hk hord tyS (by rw [Y.stackType]; exact fits_refV_array _ u0)) (Takes.of_laid hk hord tyP (by rw [Y.suppType]; exact fits_refV_object _ sen)) Y.objLocals hskip htr [] hd6
    (by simp only [List.length_cons, hlen]; omega) (by simp only [List.length_cons, hlen]; exact hRlocals)
  have hlt : a < ((W.setVm vm₁).setVm vm₂).heap.size := (Array.getElem?_eq_some_iff.mp hcell).1
  refine ⟨(W.setVm vm₁).setVm vm₂, _, _, X₂, fun y hy => ?_, hlt, rfl, rfl, fun target hwalk => st1 _ (fun acts => ?_)⟩
  · simp only [List.mem_cons, List.not_mem_nil, or_false] at hy
    rcases hy with rfl | rfl | rfl | rfl <;> rfl
  · rw [doInvoke_state]
    exact st2 _ hwalk
end VXK
section VXK2
variable {p : Program} {l : Launch} {e : Env} {R : Room} {s : State} {m : MethodId} {args : Array Value} {below : List Frame} {meth : Method} {c : Code} {H : Heap} {locs : List Loc} {cells slots : Nat} {Q : State → Prop}
variable {ls : Array Slot} {rest : List Value} {D : va_G} {cl : List vw_C} {tys : List (ClassId × FieldType)} {ws : va_W}
/-- 'new E("text")' that isn't thrown at once: the object goes on the stack -/
theorem vx_makeS {cc : ByteArray} {pc : Nat} (hexec : p.tables.exec = Jvm.exec) (hb : c.code = cc) (hl : l.stackTraces = false) {own cls text : String} {names : List String} {ik is ic sa ci : Nat} {A : Nat → Prop} {T0 : u_T}
    (hown : s.vm.findClass own = some m.cls) (hcls : Bundle.fit cls = true) (hnames : ∀ n ∈ names, Bundle.fit n = true)
    (hk : (Cond.classLink own ik cls).before args s = true) (hini : (Cond.initialized cls).before args s = true) (hstr : vk_R own is text sa s) (hat : ∀ w ∈ vx_atS own ic cls names, w.before args s = true)
    (hgood : ∀ w ∈ Cond.classLink own ik cls :: Cond.initialized cls :: vx_atS own ic cls names, vx_ot w = true)
    (hU : vx_Zq Bundle.tN "UNASSIGNED_STACK" Bundle.steD A s s.heap) (hN : vx_Zq Bundle.tN "SUPPRESSED_SENTINEL" Bundle.listD A s s.heap) (hS : va_S A s.heap H locs) (hsize : ls.size = c.maxLocals)
    (d0 : decode cc pc = .ok (.new ik, 3)) (d3 : decode cc (pc + 3) = .ok (.dup, 1)) (d4 : decode cc (pc + 4) = .ok (.ldc is, 2)) (d6 : decode cc (pc + 6) = .ok (.invokespecial ic, 3))
    (hK : va_K D cl tys s) (hP : va_P D cl ws H) (hD : va_D A ws) (hA : ∀ q, s.heap.size ≤ q → A q) (hc : cl[ci]? = some (cls, T0, 0))
    (hRframes : names.length + 3 < R.frames) (hRlocals : (rest.map fun v => v.category).sum + (13 * (names.length + 1) + 43) ≤ R.locals) (hRcells : cells + 1 ≤ R.cells) (hRslots : slots + 6 ≤ R.slots)
    (kk : ∀ (q : Nat) (H1 : Heap), va_P D cl (ws ++ [(q, .inr (ci, []))]) H1 → va_D A (ws ++ [(q, .inr (ci, []))]) → va_S A s.heap H1 locs → W p l e R s m args below meth c H1 locs (cells + 1) (slots + 6) Q (F0 m (pc + 9) ls (.ref q :: rest))) :
    W p l e R s m args below meth c H locs cells slots Q (F0 m pc ls rest) := by
  intro T hT X
  subst hT
  have htr : e.platform.stackTraces = false := (show e.platform.stackTraces = l.stackTraces by rw [X.admits.platform]).trans hl
  have Y := vx_rebase X (R' := { frames := R.frames, locals := R.locals, cells := 1, slots := 6 }) (Nat.le_refl _) (Nat.le_refl _) hRcells hRslots
  obtain ⟨s', hA'⟩ : ∃ z, z = (T.setVm s.vm).setFrames (.invoking m args :: below) := ⟨_, rfl⟩
  rw [← hA'] at Y
  have hvm : s'.vm = s.vm := by rw [hA']; rfl
  have hhp : s'.heap = T.heap := by rw [hA']; rfl
  have hW0 : s.WarmedH s'.vm := by rw [hvm]; exact State.WarmedH.refl s
  have hat' : ∀ w ∈ vx_atS own ic cls names, w.before args s' = true := fun w hw => vx_ot_at hW0 hvm.symm (hgood w (List.mem_cons_of_mem _ (List.mem_cons_of_mem _ hw))) (hat w hw)
  have hk' : (Cond.classLink own ik cls).before args s' = true := vx_ot_at hW0 hvm.symm (hgood _ List.mem_cons_self) hk
  have hini' : (Cond.initialized cls).before args s' = true := vx_ot_at hW0 hvm.symm (hgood _ (List.mem_cons_of_mem _ List.mem_cons_self)) hini
  have hU' : vx_Zq Bundle.tN "UNASSIGNED_STACK" Bundle.steD A s' s'.heap := by rw [hhp]; exact vx_Zq.moved hW0.alike (hU.kept hS.2.1)
  have hN' : vx_Zq Bundle.tN "SUPPRESSED_SENTINEL" Bundle.listD A s' s'.heap := by rw [hhp]; exact vx_Zq.moved hW0.alike (hN.kept hS.2.1)
  have h : ∀ w ∈ Bundle.ownAtoms own ic cls names, w.before args s' = true := vx_own hat' (vx_isRefq hU'.1) (vx_isRefq hN'.1) hU'.2.word hN'.2.word
  have hown' : s'.vm.findClass own = some m.cls := by rw [hvm]; exact hown
  have hins : (Cond.instantiable cls 6).before args s' = true := h _ (by simp [Bundle.ownAtoms])
  obtain ⟨vm₁, cX, kX, hfX, hkX, -, -, X₁, st1⟩ := Y.newCold hexec (own := own) (C := cls) (index := ik) (n := 6) hown' hk' hins hini'
    (g := F0 m pc ls rest) rfl (by rw [hb]; exact d0) (Nat.le_refl _) (Nat.le_refl _)
  generalize hT1 : (T.setVm vm₁).pushCell { cls := cX, slots := kX.instanceTypes.map defaultValue, vm := .none } = T1 at X₁ st1
  have hcat : (Value.ref T.heap.size).category = 1 := rfl
  have hcellA : T1.heap[T.heap.size]? = some (freshCell cX kX) := by rw [← hT1]; exact State.heap_pushCell_size _ _
  have d3' : decode c.code (pc + 3) = .ok (.dup, 1) := by rw [hb]; exact d3
  have d4' : decode c.code (pc + 4) = .ok (.ldc is, 2) := by rw [hb]; exact d4
  have hstr' : vk_R own is text sa s' := vk_R.warm hW0 hstr
  obtain ⟨V, ce, L, Z, hL, hlt, hcl9, hvm9, st⟩ := vx_ctorMadeS X₁ hexec htr (own := own) (cls := cls) (names := names) (ic := ic) hown' hcls hnames h (fun x hx => nomatch hx) hfX hkX hcellA (by rw [hhp]; exact Nat.le_refl _) (msg := .ref sa) rfl
    (g := { method := m, pc := pc + 6, locals := ls, stack := .ref sa :: .ref T.heap.size :: .ref T.heap.size :: rest, locked := none }) rfl hsize (rest := rest) rfl
    (by rw [hb]; exact d6) hRframes (by simp only [List.map_cons, List.sum_cons, hcat]; omega)
  have Z0 := Stand.forget (locs := []) Z (fun y hy => by rw [hL y hy, hhp]; exact Nat.le_refl _)
  obtain ⟨f1, f2⟩ := vx_frame Z0.same
  rw [hhp] at f1 f2
  have hcid : ce.cls = D.1 ci := by
    rw [hcl9]
    have h1 := (hK.1 ci _ hc).2.1
    rw [hvm] at hfX
    exact Option.some.inj (hfX.symm.trans h1)
  have hh : (V.setCell T.heap.size ce).heap[T.heap.size]? = some ce := heapAt_setCell_self (s := V) ce hlt
  subst hA'
  have X5 := vx_back9 X Y Z0
  have X6 : Stand p l e R s m args below meth c (V.setCell T.heap.size ce) locs (cells + 1) (slots + 6) := { X5 with same := X5.same.mono (by omega) (by omega) }
  have hk9 : ∀ (k : Nat) (x : Nat × va_E), ws[k]? = some x → (V.setCell T.heap.size ce).heap[x.1]? = T.heap[x.1]? := fun k x hx => f2 x.1 ((hP k x hx).lt) (fun z hz => nomatch hz)
  obtain ⟨t, a1, b1⟩ := kk T.heap.size (V.setCell T.heap.size ce).heap ((hP.kept hk9).app (fun k x hx => by
      have hz : k < 1 := (List.getElem?_eq_some_iff.mp hx).1
      rw [show k = 0 by omega] at hx
      cases hx
      exact ⟨_, hc, ce, hh, hcid, hvm9, fun k hk => absurd hk (Nat.not_lt_zero k)⟩)) (hD.push hP rfl (hA _ hS.1)) ⟨Nat.le_trans hS.1 f1, fun q h1 h2 => (f2 q (Nat.lt_of_lt_of_le h1 hS.1) (fun z hz => nomatch hz)).trans (hS.2.1 q h1 h2), hS.2.2⟩ _ rfl X6
  refine ⟨t, st1 _ ?_, b1⟩
  show Steps p.tables e below (T1.setTop { method := m, pc := pc + 3, locals := ls, stack := .ref T.heap.size :: rest, locked := none }) _
  jvm_step X₁.here [X₁.here.top, hexec, d3', Value.category]
  exact X₁.ldcString hexec (own := own) (text := text) (index := is) (a := sa) hown' hstr'.1 hstr'.2
    (g := { method := m, pc := pc + 4, locals := ls, stack := .ref T.heap.size :: .ref T.heap.size :: rest, locked := none }) rfl d4' _ (st _ a1)
/-- 'new E()' that isn't thrown at once: the object goes on the stack -/
theorem vx_make0 {cc : ByteArray} {pc : Nat} (hexec : p.tables.exec = Jvm.exec) (hb : c.code = cc) (hl : l.stackTraces = false) {own cls : String} {names : List String} {ik ic ci : Nat} {A : Nat → Prop} {T0 : u_T}
    (hown : s.vm.findClass own = some m.cls) (hcls : Bundle.fit cls = true) (hnames : ∀ n ∈ names, Bundle.fit n = true)
    (hk : (Cond.classLink own ik cls).before args s = true) (hini : (Cond.initialized cls).before args s = true) (hat : ∀ w ∈ vx_at0 own ic cls names, w.before args s = true)
    (hgood : ∀ w ∈ Cond.classLink own ik cls :: Cond.initialized cls :: vx_at0 own ic cls names, vx_ot w = true)
    (hU : vx_Zq Bundle.tN "UNASSIGNED_STACK" Bundle.steD A s s.heap) (hN : vx_Zq Bundle.tN "SUPPRESSED_SENTINEL" Bundle.listD A s s.heap) (hS : va_S A s.heap H locs) (hsize : ls.size = c.maxLocals)
    (d0 : decode cc pc = .ok (.new ik, 3)) (d3 : decode cc (pc + 3) = .ok (.dup, 1)) (d4 : decode cc (pc + 4) = .ok (.invokespecial ic, 3))
    (hK : va_K D cl tys s) (hP : va_P D cl ws H) (hD : va_D A ws) (hA : ∀ q, s.heap.size ≤ q → A q) (hc : cl[ci]? = some (cls, T0, 0))
    (hRframes : names.length + 3 < R.frames) (hRlocals : (rest.map fun v => v.category).sum + (13 * (names.length + 1) + 42) ≤ R.locals) (hRcells : cells + 1 ≤ R.cells) (hRslots : slots + 6 ≤ R.slots)
    (kk : ∀ (q : Nat) (H1 : Heap), va_P D cl (ws ++ [(q, .inr (ci, []))]) H1 → va_D A (ws ++ [(q, .inr (ci, []))]) → va_S A s.heap H1 locs → W p l e R s m args below meth c H1 locs (cells + 1) (slots + 6) Q (F0 m (pc + 7) ls (.ref q :: rest))) :
    W p l e R s m args below meth c H locs cells slots Q (F0 m pc ls rest) := by
  intro T hT X
  subst hT
  have htr : e.platform.stackTraces = false := (show e.platform.stackTraces = l.stackTraces by rw [X.admits.platform]).trans hl
  have Y := vx_rebase X (R' := { frames := R.frames, locals := R.locals, cells := 1, slots := 6 }) (Nat.le_refl _) (Nat.le_refl _) hRcells hRslots
  obtain ⟨s', hA'⟩ : ∃ z, z = (T.setVm s.vm).setFrames (.invoking m args :: below) := ⟨_, rfl⟩
  rw [← hA'] at Y
  have hvm : s'.vm = s.vm := by rw [hA']; rfl
  have hhp : s'.heap = T.heap := by rw [hA']; rfl
  have hW0 : s.WarmedH s'.vm := by rw [hvm]; exact State.WarmedH.refl s
  have hat' : ∀ w ∈ vx_at0 own ic cls names, w.before args s' = true := fun w hw => vx_ot_at hW0 hvm.symm (hgood w (List.mem_cons_of_mem _ (List.mem_cons_of_mem _ hw))) (hat w hw)
  have hk' : (Cond.classLink own ik cls).before args s' = true := vx_ot_at hW0 hvm.symm (hgood _ List.mem_cons_self) hk
  have hini' : (Cond.initialized cls).before args s' = true := vx_ot_at hW0 hvm.symm (hgood _ (List.mem_cons_of_mem _ List.mem_cons_self)) hini
  have hU' : vx_Zq Bundle.tN "UNASSIGNED_STACK" Bundle.steD A s' s'.heap := by rw [hhp]; exact vx_Zq.moved hW0.alike (hU.kept hS.2.1)
  have hN' : vx_Zq Bundle.tN "SUPPRESSED_SENTINEL" Bundle.listD A s' s'.heap := by rw [hhp]; exact vx_Zq.moved hW0.alike (hN.kept hS.2.1)
  have h : ∀ w ∈ Bundle.ownAtoms0 own ic cls names, w.before args s' = true := vx_own hat' (vx_isRefq hU'.1) (vx_isRefq hN'.1) hU'.2.word hN'.2.word
  have hown' : s'.vm.findClass own = some m.cls := by rw [hvm]; exact hown
  have hins : (Cond.instantiable cls 6).before args s' = true := h _ (by simp [Bundle.ownAtoms0])
  obtain ⟨vm₁, cX, kX, hfX, hkX, -, -, X₁, st1⟩ := Y.newCold hexec (own := own) (C := cls) (index := ik) (n := 6) hown' hk' hins hini'
    (g := F0 m pc ls rest) rfl (by rw [hb]; exact d0) (Nat.le_refl _) (Nat.le_refl _)
  generalize hT1 : (T.setVm vm₁).pushCell { cls := cX, slots := kX.instanceTypes.map defaultValue, vm := .none } = T1 at X₁ st1
  have hcat : (Value.ref T.heap.size).category = 1 := rfl
  have hcellA : T1.heap[T.heap.size]? = some (freshCell cX kX) := by rw [← hT1]; exact State.heap_pushCell_size _ _
  have d3' : decode c.code (pc + 3) = .ok (.dup, 1) := by rw [hb]; exact d3
  obtain ⟨V, ce, L, Z, hL, hlt, hcl9, hvm9, st⟩ := vx_ctorMade0 X₁ hexec htr (own := own) (cls := cls) (names := names) (ic := ic) hown' hcls hnames h (fun x hx => nomatch hx) hfX hkX hcellA (by rw [hhp]; exact Nat.le_refl _)
    (g := { method := m, pc := pc + 4, locals := ls, stack := .ref T.heap.size :: .ref T.heap.size :: rest, locked := none }) rfl hsize (rest := rest) rfl
    (by rw [hb]; exact d4) hRframes (by simp only [List.map_cons, List.sum_cons, hcat]; omega)
  have Z0 := Stand.forget (locs := []) Z (fun y hy => by rw [hL y hy, hhp]; exact Nat.le_refl _)
  obtain ⟨f1, f2⟩ := vx_frame Z0.same
  rw [hhp] at f1 f2
  have hcid : ce.cls = D.1 ci := by
    rw [hcl9]
    have h1 := (hK.1 ci _ hc).2.1
    rw [hvm] at hfX
    exact Option.some.inj (hfX.symm.trans h1)
  have hh : (V.setCell T.heap.size ce).heap[T.heap.size]? = some ce := heapAt_setCell_self (s := V) ce hlt
  subst hA'
  have X5 := vx_back9 X Y Z0
  have X6 : Stand p l e R s m args below meth c (V.setCell T.heap.size ce) locs (cells + 1) (slots + 6) := { X5 with same := X5.same.mono (by omega) (by omega) }
  have hk9 : ∀ (k : Nat) (x : Nat × va_E), ws[k]? = some x → (V.setCell T.heap.size ce).heap[x.1]? = T.heap[x.1]? := fun k x hx => f2 x.1 ((hP k x hx).lt) (fun z hz => nomatch hz)
  obtain ⟨t, a1, b1⟩ := kk T.heap.size (V.setCell T.heap.size ce).heap ((hP.kept hk9).app (fun k x hx => by
      have hz : k < 1 := (List.getElem?_eq_some_iff.mp hx).1
      rw [show k = 0 by omega] at hx
      cases hx
      exact ⟨_, hc, ce, hh, hcid, hvm9, fun k hk => absurd hk (Nat.not_lt_zero k)⟩)) (hD.push hP rfl (hA _ hS.1)) ⟨Nat.le_trans hS.1 f1, fun q h1 h2 => (f2 q (Nat.lt_of_lt_of_le h1 hS.1) (fun z hz => nomatch hz)).trans (hS.2.1 q h1 h2), hS.2.2⟩ _ rfl X6
  refine ⟨t, st1 _ ?_, b1⟩
  show Steps p.tables e below (T1.setTop { method := m, pc := pc + 3, locals := ls, stack := .ref T.heap.size :: rest, locked := none }) _
  jvm_step X₁.here [X₁.here.top, hexec, d3', Value.category]
  exact st _ a1
/-- 'throw x' of an object that was made before -/
theorem vx_athrow {cc : ByteArray} {pc : Nat} (hexec : p.tables.exec = Jvm.exec) (hb : c.code = cc) {q : Addr} (hdg : decode cc pc = .ok (.athrow, 1)) (k : vx_W p l e R s m args below meth c H locs cells slots Q (F0 m pc ls rest) q) : W p l e R s m args below meth c H locs cells slots Q (F0 m pc ls (.ref q :: rest)) := by
  intro T hT X
  obtain ⟨t, st, hq⟩ := k T hT X
  refine ⟨t, ?_, hq⟩
  have hdg' : decode c.code pc = .ok (.athrow, 1) := by rw [hb]; exact hdg
  jvm_step X.here [X.here.top, hexec, hdg', athrow.wp_sem]
  exact st
end VXK2
/-! ===== END ===== -/
/-! ===== BEGIN a constructor that throws (launches without stack traces) ===== -/
section VXIA
variable {p : Program} {l : Launch} {e : Env} {R : Room} {s : State} {m : MethodId} {args : Array Value} {below : List Frame} {meth : Method} {c : Code} {T : State} {locs : List Loc} {cells slots : Nat}
theorem vx_callI (X : Stand p l e R s m args below meth c T locs cells slots) (hexec : p.tables.exec = Jvm.exec) {own : String} {index : Nat} {y : MethodName} {bytes : ByteArray} {maxL : Nat}
    (hown : s.vm.findClass own = some m.cls) (hy1 : y.name = "<init>") (hlink : (Cond.methodLink own index y).before args s = true) (hinst : (Cond.instanceMethod y).before args s = true)
    (hcode : (Cond.code y bytes maxL none).before args s = true) (hy : y.cls ≠ "java/lang/invoke/MethodHandle" ∧ y.cls ≠ "java/lang/invoke/VarHandle")
    {W9 : Nat} {Pre : Pt → Array Value → Prop} {Post : Pt → Array Value → Option Value → Pt → Prop} {PostX : Pt → Array Value → Addr → Pt → Prop} (hK : vx_Back l R p e below s args y 3 W9 Pre Post PostX)
    {g : JFrame} (hg : g.method = m) (hsize : g.locals.size = c.maxLocals) {a : Addr} {argsL rest : List Value} (hlen : ∀ sig, parseMethodDescriptor y.desc = some sig → argsL.length = sig.parameters.length)
    (hstack : g.stack = argsL.reverse ++ .ref a :: rest) (hW : 2 * g.monitorRoom + (rest.map fun v => v.category).sum ≤ W9) (hdg : decode c.code g.pc = .ok (.invokespecial index, 3))
    (hpre : ∀ vm₁, s.WarmedH vm₁ → Pre ⟨T.setVm vm₁, locs, cells, slots⟩ (Value.ref a :: argsL).toArray) :
    (∃ (v : Option Value) (vm₁ : Vm) (B : Pt), s.WarmedH vm₁ ∧ Stand p l e R s m args below meth c B.U B.locs B.cells B.slots ∧ Post ⟨T.setVm vm₁, locs, cells, slots⟩ (Value.ref a :: argsL).toArray v B ∧
      ∀ target, Steps p.tables e below (B.U.setTop { g with pc := g.pc + 3, stack := v.toList ++ rest }) target → Steps p.tables e below (T.setTop g) target) ∨
    (∃ (q : Addr) (vm₁ : Vm) (B : Pt), s.WarmedH vm₁ ∧ Stand p l e R s m args below meth c B.U B.locs B.cells B.slots ∧ PostX ⟨T.setVm vm₁, locs, cells, slots⟩ (Value.ref a :: argsL).toArray q B ∧
      Steps p.tables e below (T.setTop g) ((B.U.setTop { g with stack := rest }).pushFrame (.throwing q))) := by
  subst hg
  have hpl : e.platform.magicAccessors = ({} : Platform).magicAccessors := by rw [X.admits.platform]
  obtain ⟨mk, methM, cM, kP, vm₁, hnamed, hmethM, hcodeM, -, hlocalsM, -, hkP, -, hW₁, hstep₁⟩ := Steps.initColdArgs (e := e) X.here hexec X.warmed hpl hown hy1 hy hlink hinst hcode (f := g) rfl hlen hstack hdg
  have X₁ := X.noted hW₁
  rcases hK g.method meth c ⟨T.setVm vm₁, locs, cells, slots⟩ { g with stack := rest } (.invokespecial index) mk (Value.ref a :: argsL).toArray X₁ rfl hsize hdg hW (X₁.named hnamed) (hpre vm₁ X₁.warmed) with ⟨v, B, X', hpost, hsteps⟩ | ⟨q, B, X', hpost, hsteps⟩
  · exact Or.inl ⟨v, vm₁, B, X₁.warmed, X', hpost, fun target h => hstep₁ _ fun acts => by rw [doInvoke_state]; exact hsteps.trans h⟩
  · exact Or.inr ⟨q, vm₁, B, X₁.warmed, X', hpost, hstep₁ _ fun acts => by rw [doInvoke_state]; exact hsteps⟩
end VXIA
section VXIB
variable {p : Program} {l : Launch} {e : Env} {R : Room} {s : State} {m : MethodId} {args : Array Value} {below : List Frame} {meth : Method} {c : Code} {H : Heap} {locs : List Loc} {cells slots : Nat}
variable {y : MethodName} {bytes cc : ByteArray} {maxL nL mc ms n index : Nat} {ret : Option FieldType} {ws : List Cond} {rm : Room} {Pc : Array Value → State → Prop} {Qc : Array Value → State → Outcome → State → Prop} {XC : String → State → State → Prop} {free : Addr → Prop} {Ts : List Cond} {own C : String} {b : Addr} {As rest : List Value} {g : JFrame}
theorem vx_runI (S : CallFix p m c cc nL s args Ts own) (hM : vx_Met l y ws rm Pc Qc XC mc ms free) (cw : CallB R s args own index y bytes maxL none ws rm mc ms n ∧ y.name = "<init>" ∧ (Cond.instanceMethod y).before args s = true) (hp : PreS s H Pc (.ref b :: As))
    (hg : g.method = m) (hn : As.length = n) (hsize : g.locals.size = nL) (hstack : g.stack = As.reverse ++ .ref b :: rest) (hW : 2 * g.monitorRoom + (rest.map fun v => v.category).sum ≤ 8) (hdg : decode cc g.pc = .ok (.invokespecial index, 3)) (hf : cells + mc ≤ R.cells ∧ slots + ms ≤ R.slots) :
    vx_Run p l e R s m args below meth c H locs cells slots mc ms g rest (Qc (Value.ref b :: As).toArray) XC free := by
  have hK : vx_Back l R p e below s args y 3 8 (PreOf R mc ms Pc) (PostOf Qc mc ms free) (vx_Post XC mc ms free) := vx_callBack cw.1 hM hp.1
  obtain ⟨⟨-, -, -, -, -, -, hcode, -, hy, hlen, hl⟩, hy1, hin⟩ := cw
  obtain ⟨hx, hb, hml, ho, -⟩ := S
  have hPc := hp.2
  intro T hT X
  rcases vx_callI X hx (bytes := bytes) (maxL := maxL) ho hy1 hl hin hcode hy hK hg (hsize.trans hml.symm) (a := b) (argsL := As) (rest := rest) (fun sig h => hn.trans (hlen sig h)) hstack hW (by rw [hb]; exact hdg)
    (fun vm₁ hW₁ => ⟨hf.1, hf.2, hPc (T.setVm vm₁) hT hW₁⟩) with ⟨v, vm₁, ⟨U', l2, c2, s2⟩, hW₁, X', ⟨g', mk, t, L, e1, e2, hq, h1, hL, h2, h3⟩, st⟩ | ⟨q, vm₁, ⟨U', l2, c2, s2⟩, hW₁, X', ⟨g', mk, t, L, E, ce, e1, e2, hq, hce, hcv, hcl, h1, hL, h2, h3⟩, st⟩
  · dsimp only [Pt.U, Pt.locs, Pt.cells, Pt.slots] at X' e1 e2 h1 h2 h3 st
    subst h1; subst h2; subst h3
    exact Or.inl ⟨v, (T.setVm vm₁).calling g' mk (Value.ref b :: As).toArray, t, U', L, hT, X', hL, e1, e2, hq, st⟩
  · dsimp only [Pt.U, Pt.locs, Pt.cells, Pt.slots] at X' e1 e2 h1 h2 h3 st hcl
    subst h1; subst h2; subst h3
    exact Or.inr ⟨q, (T.setVm vm₁).calling g' mk (Value.ref b :: As).toArray, t, U', L, E, ce, hT, X', hL, e1, e2, hq, hce, hcv, vx_cls hW₁ hcl, st⟩
end VXIB
/-! ===== END ===== -/
/-! ===== BEGIN a private constructor of a nest mate that throws ===== -/
section VXIC
variable {p : Program} {l : Launch} {e : Env} {R : Room} {s : State} {m : MethodId} {args : Array Value} {below : List Frame} {meth : Method} {c : Code} {T : State} {locs : List Loc} {cells slots : Nat}
theorem vx_callIN (X : Stand p l e R s m args below meth c T locs cells slots) (hexec : p.tables.exec = Jvm.exec) {own : String} {index : Nat} {host : String} {y : MethodName} {bytes : ByteArray} {maxL : Nat}
    (hown : s.vm.findClass own = some m.cls) (hy1 : y.name = "<init>") (hlink : (Cond.methodLinkNest own index y host).before args s = true) (hinst : (Cond.instanceMethod y).before args s = true)
    (hcode : (Cond.code y bytes maxL none).before args s = true) (hy : y.cls ≠ "java/lang/invoke/MethodHandle" ∧ y.cls ≠ "java/lang/invoke/VarHandle")
    {W9 : Nat} {Pre : Pt → Array Value → Prop} {Post : Pt → Array Value → Option Value → Pt → Prop} {PostX : Pt → Array Value → Addr → Pt → Prop} (hK : vx_Back l R p e below s args y 3 W9 Pre Post PostX)
    {g : JFrame} (hg : g.method = m) (hsize : g.locals.size = c.maxLocals) {a : Addr} {argsL rest : List Value} (hlen : ∀ sig, parseMethodDescriptor y.desc = some sig → argsL.length = sig.parameters.length)
    (hstack : g.stack = argsL.reverse ++ .ref a :: rest) (hW : 2 * g.monitorRoom + (rest.map fun v => v.category).sum ≤ W9) (hdg : decode c.code g.pc = .ok (.invokespecial index, 3))
    (hpre : ∀ vm₁, s.WarmedH vm₁ → Pre ⟨T.setVm vm₁, locs, cells, slots⟩ (Value.ref a :: argsL).toArray) :
    (∃ (v : Option Value) (vm₁ : Vm) (B : Pt), s.WarmedH vm₁ ∧ Stand p l e R s m args below meth c B.U B.locs B.cells B.slots ∧ Post ⟨T.setVm vm₁, locs, cells, slots⟩ (Value.ref a :: argsL).toArray v B ∧
      ∀ target, Steps p.tables e below (B.U.setTop { g with pc := g.pc + 3, stack := v.toList ++ rest }) target → Steps p.tables e below (T.setTop g) target) ∨
    (∃ (q : Addr) (vm₁ : Vm) (B : Pt), s.WarmedH vm₁ ∧ Stand p l e R s m args below meth c B.U B.locs B.cells B.slots ∧ PostX ⟨T.setVm vm₁, locs, cells, slots⟩ (Value.ref a :: argsL).toArray q B ∧
      Steps p.tables e below (T.setTop g) ((B.U.setTop { g with stack := rest }).pushFrame (.throwing q))) := by
  subst hg
  have hpl : e.platform.magicAccessors = ({} : Platform).magicAccessors := by rw [X.admits.platform]
  obtain ⟨mk, methM, cM, kP, vm₁, hnamed, hmethM, hcodeM, -, hlocalsM, -, hkP, -, hW₁, hstep₁⟩ := Steps.initColdArgsNest (e := e) X.here hexec X.warmed hpl hown hy1 hy hlink hinst hcode (f := g) rfl hlen hstack hdg
  have X₁ := X.noted hW₁
  rcases hK g.method meth c ⟨T.setVm vm₁, locs, cells, slots⟩ { g with stack := rest } (.invokespecial index) mk (Value.ref a :: argsL).toArray X₁ rfl hsize hdg hW (X₁.named hnamed) (hpre vm₁ X₁.warmed) with ⟨v, B, X', hpost, hsteps⟩ | ⟨q, B, X', hpost, hsteps⟩
  · exact Or.inl ⟨v, vm₁, B, X₁.warmed, X', hpost, fun target h => hstep₁ _ fun acts => by rw [doInvoke_state]; exact hsteps.trans h⟩
  · exact Or.inr ⟨q, vm₁, B, X₁.warmed, X', hpost, hstep₁ _ fun acts => by rw [doInvoke_state]; exact hsteps⟩
end VXIC
section VXID
variable {p : Program} {l : Launch} {e : Env} {R : Room} {s : State} {m : MethodId} {args : Array Value} {below : List Frame} {meth : Method} {c : Code} {H : Heap} {locs : List Loc} {cells slots : Nat}
theorem vx_runIN {y : MethodName} {bytes cc : ByteArray} {maxL nL mc ms n index : Nat} {ws : List Cond} {rm : Room} {Pc : Array Value → State → Prop} {Qc : Array Value → State → Outcome → State → Prop} {XC : String → State → State → Prop} {free : Addr → Prop} {Ts : List Cond} {own host : String} {b : Addr} {As rest : List Value} {g : JFrame}
    (S : CallFix p m c cc nL s args Ts own) (hM : vx_Met l y ws rm Pc Qc XC mc ms free) (cw : va_CN R s args own index y host bytes maxL none ws rm mc ms n ∧ y.name = "<init>" ∧ (Cond.instanceMethod y).before args s = true) (hp : PreS s H Pc (.ref b :: As))
    (hg : g.method = m) (hn : As.length = n) (hsize : g.locals.size = nL) (hstack : g.stack = As.reverse ++ .ref b :: rest) (hW : 2 * g.monitorRoom + (rest.map fun v => v.category).sum ≤ 8) (hdg : decode cc g.pc = .ok (.invokespecial index, 3)) (hf : cells + mc ≤ R.cells ∧ slots + ms ≤ R.slots) :
    vx_Run p l e R s m args below meth c H locs cells slots mc ms g rest (Qc (Value.ref b :: As).toArray) XC free := by
  obtain ⟨⟨⟨hrc, hrs, hfr, hlo, hws, hcw⟩, hcode, hini, hy, hlen, hl⟩, hx1, hx2⟩ := cw
  have hK : vx_Back l R p e below s args y 3 8 (PreOf R mc ms Pc) (PostOf Qc mc ms free) (vx_Post XC mc ms free) := vx_back (bytes := bytes) (maxL := maxL) (ret := none) hM hp.1 hrc hrs hfr hlo hws hcw (fun a' U hW => word_at hW (Or.inl (by first | rfl | simp [Cond.onTables, Cond.keeps, Cond.steady])) hini)
  obtain ⟨hx, hb, hml, ho, -⟩ := S
  have hPc := hp.2
  intro T hT X
  rcases vx_callIN X hx (bytes := bytes) (maxL := maxL) ho hx1 hl hx2 hcode hy hK hg (hsize.trans hml.symm) (a := b) (argsL := As) (rest := rest) (fun sig h => hn.trans (hlen sig h)) hstack hW (by rw [hb]; exact hdg)
    (fun vm₁ hW₁ => ⟨hf.1, hf.2, hPc (T.setVm vm₁) hT hW₁⟩) with ⟨v, vm₁, ⟨U', l2, c2, s2⟩, hW₁, X', ⟨g', mk, t, L, e1, e2, hq, h1, hL, h2, h3⟩, st⟩ | ⟨q, vm₁, ⟨U', l2, c2, s2⟩, hW₁, X', ⟨g', mk, t, L, E, ce, e1, e2, hq, hce, hcv, hcl, h1, hL, h2, h3⟩, st⟩
  · dsimp only [Pt.U, Pt.locs, Pt.cells, Pt.slots] at X' e1 e2 h1 h2 h3 st
    subst h1; subst h2; subst h3
    exact Or.inl ⟨v, (T.setVm vm₁).calling g' mk (Value.ref b :: As).toArray, t, U', L, hT, X', hL, e1, e2, hq, st⟩
  · dsimp only [Pt.U, Pt.locs, Pt.cells, Pt.slots] at X' e1 e2 h1 h2 h3 st hcl
    subst h1; subst h2; subst h3
    exact Or.inr ⟨q, (T.setVm vm₁).calling g' mk (Value.ref b :: As).toArray, t, U', L, E, ce, hT, X', hL, e1, e2, hq, hce, hcv, vx_cls hW₁ hcl, st⟩
end VXID
/-! ===== END ===== -/
/-! ===== BEGIN a method of a class above, found by the receiver, that may throw (follows va_callVU, va_runU of this kit) ===== -/
section
variable {p : Program} {l : Launch} {e : Env} {R : Room} {s : State} {m : MethodId} {args : Array Value} {below : List Frame} {meth : Method} {c : Code} {H : Heap} {locs : List Loc} {cells slots : Nat}
theorem vx_callVU {T : State} {locs : List Loc} {cells slots : Nat} (X : Stand p l e R s m args below meth c T locs cells slots) (hexec : p.tables.exec = Jvm.exec) {own C owner : String} {index : Nat} {x y : MethodName} {bytes : ByteArray} {maxL : Nat} {ret : Option FieldType}
    (hown : s.vm.findClass own = some m.cls) (hlink : (Cond.methodLink own index x).before args s = true) (hsame : (Cond.sameMethod x.cls owner x.name x.desc).before args s = true)
    (hd0 : va_Decl s ⟨owner, x.name, x.desc⟩) (howner : owner ≠ "java/lang/invoke/MethodHandle" ∧ owner ≠ "java/lang/invoke/VarHandle")
    (hsel : (Cond.selects C x y).before args s = true) (hinst : (Cond.instanceMethod y).before args s = true) (hcode : (Cond.code y bytes maxL ret).before args s = true)
    {W : Nat} {Pre : Pt → Array Value → Prop} {Post : Pt → Array Value → Option Value → Pt → Prop} {PostX : Pt → Array Value → Addr → Pt → Prop} (hK : vx_Back l R p e below s args y 3 W Pre Post PostX)
    {b : Addr} {cellB : Cell} (hcell : T.heap[b]? = some cellB) (hobj : cellB.vm.isStatics = false) (hcls : s.vm.findClass C = some cellB.cls)
    {g : JFrame} (hg : g.method = m) (hsize : g.locals.size = c.maxLocals) {argsL rest : List Value} (hlen : ∀ sig, parseMethodDescriptor x.desc = some sig → argsL.length = sig.parameters.length)
    (hstack : g.stack = argsL.reverse ++ .ref b :: rest) (hW : 2 * g.monitorRoom + (rest.map fun v => v.category).sum ≤ W) (hdg : decode c.code g.pc = .ok (.invokevirtual index, 3))
    (hpre : ∀ vm₁, s.WarmedH vm₁ → Pre ⟨T.setVm vm₁, locs, cells, slots⟩ (Value.ref b :: argsL).toArray) :
    (∃ (v : Option Value) (vm₁ : Vm) (B : Pt), s.WarmedH vm₁ ∧ Stand p l e R s m args below meth c B.U B.locs B.cells B.slots ∧ Post ⟨T.setVm vm₁, locs, cells, slots⟩ (Value.ref b :: argsL).toArray v B ∧
      ∀ target, Steps p.tables e below (B.U.setTop { g with pc := g.pc + 3, stack := v.toList ++ rest }) target → Steps p.tables e below (T.setTop g) target) ∨
    (∃ (q : Addr) (vm₁ : Vm) (B : Pt), s.WarmedH vm₁ ∧ Stand p l e R s m args below meth c B.U B.locs B.cells B.slots ∧ PostX ⟨T.setVm vm₁, locs, cells, slots⟩ (Value.ref b :: argsL).toArray q B ∧
      Steps p.tables e below (T.setTop g) ((B.U.setTop { g with stack := rest }).pushFrame (.throwing q))) := by
  obtain ⟨r0, r, hn, hrm, hstR, hsigR⟩ := hd0
  obtain ⟨cn, ck, r1, hcn, hck, hni, hf, hn1⟩ := Cond.sameMethod_found hsame
  cases hn.symm.trans hn1
  obtain ⟨mk, methM, hnamed, hmethM, -, habM⟩ := Cond.instanceMethod_spec hinst
  obtain ⟨c2, r2, m2, q1, q2, q3, q4, kP, hkP, hkPi⟩ := Cond.selects_spec hsel
  cases hcls.symm.trans q1
  cases hf.symm.trans q2
  cases hnamed.symm.trans q3
  have hselP : selectMethod e.platform s.vm cellB.cls r0 = .method mk := by rw [Launch.admits_selectMethod X.admits]; exact q4
  obtain ⟨vm₁, X₁, hstep₁⟩ := X.invokevirtualUp hexec hown hlink hsame howner hn hrm hstR (a := b) (cell := cellB) hcell
    (fun z h => by rw [h] at hobj; cases hobj) hselP hmethM habM hkP hkPi (g := g) hg (argsL := argsL) (rest := rest) (hlen _ hsigR) hstack hdg
  rcases hK m meth c ⟨T.setVm vm₁, locs, cells, slots⟩ { g with stack := rest } (.invokevirtual index) mk (Value.ref b :: argsL).toArray X₁ hg hsize hdg hW (X₁.named hnamed) (hpre vm₁ X₁.warmed) with ⟨v, B, X', hpost, hsteps⟩ | ⟨q, B, X', hpost, hsteps⟩
  · exact Or.inl ⟨v, vm₁, B, X₁.warmed, X', hpost, fun target h => hstep₁ _ fun acts => by rw [doInvoke_state]; exact hsteps.trans h⟩
  · exact Or.inr ⟨q, vm₁, B, X₁.warmed, X', hpost, hstep₁ _ fun acts => by rw [doInvoke_state]; exact hsteps⟩
theorem vx_runU {x y : MethodName} {bytes cc : ByteArray} {maxL nL mc ms n index : Nat} {ret : Option FieldType} {ws : List Cond} {rm : Room} {Pc : Array Value → State → Prop} {Qc : Array Value → State → Outcome → State → Prop} {XC : String → State → State → Prop} {free : Addr → Prop} {Ts : List Cond} {own C owner : String} {b : Addr} {As rest : List Value} {g : JFrame}
    (S : CallFix p m c cc nL s args Ts own) (hM : vx_Met l y ws rm Pc Qc XC mc ms free) (cw : va_CU R s args own C owner index x y bytes maxL ret ws rm mc ms n) (hp : PreV s H C b Pc As)
    (hg : g.method = m) (hn : As.length = n) (hsize : g.locals.size = nL) (hstack : g.stack = As.reverse ++ .ref b :: rest) (hW : 2 * g.monitorRoom + (rest.map fun v => v.category).sum ≤ 8) (hdg : decode cc g.pc = .ok (.invokevirtual index, 3)) (hf : cells + mc ≤ R.cells ∧ slots + ms ≤ R.slots) :
    vx_Run p l e R s m args below meth c H locs cells slots mc ms g rest (Qc (Value.ref b :: As).toArray) XC free := by
  obtain ⟨hrc, hrs, hfr, hlo, hws, hcw⟩ := cw.back
  have hini := cw.init
  have hK : vx_Back l R p e below s args y 3 8 (PreOf R mc ms Pc) (PostOf Qc mc ms free) (vx_Post XC mc ms free) := vx_back (bytes := bytes) (maxL := maxL) (ret := ret) hM hp.1 hrc hrs hfr hlo hws hcw (fun a' U hW => word_at hW (Or.inl (by first | rfl | simp [Cond.onTables, Cond.keeps, Cond.steady])) hini)
  obtain ⟨hx, hb, hml, ho, -⟩ := S
  obtain ⟨-, ⟨cellB, hcB, hoB, hclB⟩, hPc⟩ := hp
  intro T hT X
  rcases vx_callVU X hx (C := C) (owner := owner) (bytes := bytes) (maxL := maxL) (ret := ret) ho cw.link cw.same cw.decl cw.notMH cw.sel cw.inst cw.code hK (by rw [hT]; exact hcB) hoB hclB hg (hsize.trans hml.symm) (argsL := As) (rest := rest) (fun sig h => hn.trans (cw.len sig h)) hstack hW (by rw [hb]; exact hdg)
    (fun vm₁ hW₁ => ⟨hf.1, hf.2, hPc (T.setVm vm₁) hT hW₁⟩) with ⟨v, vm₁, ⟨U', l2, c2, s2⟩, hW₁, X', ⟨g', mk, t, L, e1, e2, hq, h1, hL, h2, h3⟩, st⟩ | ⟨q, vm₁, ⟨U', l2, c2, s2⟩, hW₁, X', ⟨g', mk, t, L, E, ce, e1, e2, hq, hce, hcv, hcl, h1, hL, h2, h3⟩, st⟩
  · dsimp only [Pt.U, Pt.locs, Pt.cells, Pt.slots] at X' e1 e2 h1 h2 h3 st
    subst h1; subst h2; subst h3
    exact Or.inl ⟨v, (T.setVm vm₁).calling g' mk (Value.ref b :: As).toArray, t, U', L, hT, X', hL, e1, e2, hq, st⟩
  · dsimp only [Pt.U, Pt.locs, Pt.cells, Pt.slots] at X' e1 e2 h1 h2 h3 st hcl
    subst h1; subst h2; subst h3
    exact Or.inr ⟨q, (T.setVm vm₁).calling g' mk (Value.ref b :: As).toArray, t, U', L, E, ce, hT, X', hL, e1, e2, hq, hce, hcv, vx_cls hW₁ hcl, st⟩
end
/-! ===== END ===== -/
/-! ===== BEGIN super.m(..) that may throw (follows va_callSU, va_runSU) ===== -/
section
variable {p : Program} {l : Launch} {e : Env} {R : Room} {s : State} {m : MethodId} {args : Array Value} {below : List Frame} {meth : Method} {c : Code} {H : Heap} {locs : List Loc} {cells slots : Nat}
theorem vx_callSU {T : State} {locs : List Loc} {cells slots : Nat} (X : Stand p l e R s m args below meth c T locs cells slots) (hexec : p.tables.exec = Jvm.exec) {own : String} {index : Nat} {y : MethodName} {bytes : ByteArray} {maxL : Nat} {ret : Option FieldType}
    (hown : s.vm.findClass own = some m.cls) (hlink : (Cond.methodLink own index y).before args s = true) (hsame : (Cond.sameMethod y.cls y.cls y.name y.desc).before args s = true) (hsup : (Cond.superclass own y.cls).before args s = true)
    (hinst : (Cond.instanceMethod y).before args s = true) (hcode : (Cond.code y bytes maxL ret).before args s = true) (hno : y.name ≠ "<init>")
    {W : Nat} {Pre : Pt → Array Value → Prop} {Post : Pt → Array Value → Option Value → Pt → Prop} {PostX : Pt → Array Value → Addr → Pt → Prop} (hK : vx_Back l R p e below s args y 3 W Pre Post PostX)
    {b : Addr} {cellB : Cell} {kB : Class} (hcell : T.heap[b]? = some cellB) (hobj : cellB.vm.isStatics = false) (hkB : s.vm.classes[cellB.cls]? = some kB)
    {g : JFrame} (hg : g.method = m) (hsize : g.locals.size = c.maxLocals) {argsL rest : List Value} (hlen : ∀ sig, parseMethodDescriptor y.desc = some sig → argsL.length = sig.parameters.length)
    (hstack : g.stack = argsL.reverse ++ .ref b :: rest) (hW : 2 * g.monitorRoom + (rest.map fun v => v.category).sum ≤ W) (hdg : decode c.code g.pc = .ok (.invokespecial index, 3))
    (hpre : ∀ vm₁, s.WarmedH vm₁ → Pre ⟨T.setVm vm₁, locs, cells, slots⟩ (Value.ref b :: argsL).toArray) :
    (∃ (v : Option Value) (vm₁ : Vm) (B : Pt), s.WarmedH vm₁ ∧ Stand p l e R s m args below meth c B.U B.locs B.cells B.slots ∧ Post ⟨T.setVm vm₁, locs, cells, slots⟩ (Value.ref b :: argsL).toArray v B ∧
      ∀ target, Steps p.tables e below (B.U.setTop { g with pc := g.pc + 3, stack := v.toList ++ rest }) target → Steps p.tables e below (T.setTop g) target) ∨
    (∃ (q : Addr) (vm₁ : Vm) (B : Pt), s.WarmedH vm₁ ∧ Stand p l e R s m args below meth c B.U B.locs B.cells B.slots ∧ PostX ⟨T.setVm vm₁, locs, cells, slots⟩ (Value.ref b :: argsL).toArray q B ∧
      Steps p.tables e below (T.setTop g) ((B.U.setTop { g with stack := rest }).pushFrame (.throwing q))) := by
  obtain ⟨mk, methM, hnamed, hmethM, hstM, habM⟩ := Cond.instanceMethod_spec hinst
  obtain ⟨methM', cM, hmethM', -, -, -, -, -, -, hsigM⟩ := Cond.code_spec hnamed hcode
  cases hmethM.symm.trans hmethM'
  obtain ⟨ps, dk, kp, hps, hdk, hkp, hsuper, -, -, hnid⟩ := Cond.superclass_spec hown hsup
  have hn : s.methodNamed? ⟨y.cls, y.name, y.desc⟩ = some mk := hnamed
  have hpm : ps = mk.cls := Option.some.inj (hps.symm.trans (findClass_of_methodNamed hnamed))
  have hsub : s.vm.isSubclass ps mk.cls = true := by rw [hpm]; simp [Vm.isSubclass, Vm.isSubclassAux]
  obtain ⟨vm₁, X₁, hstep₁⟩ := X.invokespecialUp hexec hown hlink hsame hn hmethM hstM habM hno hdk hnid hps hsuper hsub (a := b) (cell := cellB) hcell
    (fun z h => by rw [h] at hobj; cases hobj) hkB (g := g) hg (argsL := argsL) (rest := rest) (hlen _ hsigM) hstack hdg
  rcases hK m meth c ⟨T.setVm vm₁, locs, cells, slots⟩ { g with stack := rest } (.invokespecial index) mk (Value.ref b :: argsL).toArray X₁ hg hsize hdg hW (X₁.named hnamed) (hpre vm₁ X₁.warmed) with ⟨v, B, X', hpost, hsteps⟩ | ⟨q, B, X', hpost, hsteps⟩
  · exact Or.inl ⟨v, vm₁, B, X₁.warmed, X', hpost, fun target h => hstep₁ _ (by rw [doInvoke_state]; exact hsteps.trans h)⟩
  · exact Or.inr ⟨q, vm₁, B, X₁.warmed, X', hpost, hstep₁ _ (by rw [doInvoke_state]; exact hsteps)⟩
theorem vx_runSU {y : MethodName} {bytes cc : ByteArray} {maxL nL mc ms n index : Nat} {ret : Option FieldType} {ws : List Cond} {rm : Room} {Pc : Array Value → State → Prop} {Qc : Array Value → State → Outcome → State → Prop} {XC : String → State → State → Prop} {free : Addr → Prop} {Ts : List Cond} {own C : String} {cC : ClassId} {b : Addr} {As rest : List Value} {g : JFrame}
    (hat : ClassAt s C cC) (S : CallFix p m c cc nL s args Ts own) (hM : vx_Met l y ws rm Pc Qc XC mc ms free) (cw : va_CS R s args own index y bytes maxL ret ws rm mc ms n) (hp : PreV s H C b Pc As)
    (hg : g.method = m) (hn : As.length = n) (hsize : g.locals.size = nL) (hstack : g.stack = As.reverse ++ .ref b :: rest) (hW : 2 * g.monitorRoom + (rest.map fun v => v.category).sum ≤ 8) (hdg : decode cc g.pc = .ok (.invokespecial index, 3)) (hf : cells + mc ≤ R.cells ∧ slots + ms ≤ R.slots) :
    vx_Run p l e R s m args below meth c H locs cells slots mc ms g rest (Qc (Value.ref b :: As).toArray) XC free := by
  obtain ⟨⟨hrc, hrs, hfr, hlo, hws, hcw⟩, hl1, hl2, hl3, hl4, hini, hcode, hno, hlen⟩ := cw
  have hK : vx_Back l R p e below s args y 3 8 (PreOf R mc ms Pc) (PostOf Qc mc ms free) (vx_Post XC mc ms free) := vx_back (bytes := bytes) (maxL := maxL) (ret := ret) hM hp.1 hrc hrs hfr hlo hws hcw (fun a' U hW => word_at hW (Or.inl (by first | rfl | simp [Cond.onTables, Cond.keeps, Cond.steady])) hini)
  obtain ⟨hx, hb, hml, ho, -⟩ := S
  obtain ⟨-, ⟨cellB, hcB, hoB, hclB⟩, hPc⟩ := hp
  obtain ⟨hfc, kB, hkB, -⟩ := hat
  cases hfc.symm.trans hclB
  intro T hT X
  rcases vx_callSU X hx (bytes := bytes) (maxL := maxL) (ret := ret) ho hl1 hl2 hl3 hl4 hcode hno hK (by rw [hT]; exact hcB) hoB hkB hg (hsize.trans hml.symm) (argsL := As) (rest := rest) (fun sig h => hn.trans (hlen sig h)) hstack hW (by rw [hb]; exact hdg)
    (fun vm₁ hW₁ => ⟨hf.1, hf.2, hPc (T.setVm vm₁) hT hW₁⟩) with ⟨v, vm₁, ⟨U', l2, c2, s2⟩, hW₁, X', ⟨g', mk, t, L, e1, e2, hq, h1, hL, h2, h3⟩, st⟩ | ⟨q, vm₁, ⟨U', l2, c2, s2⟩, hW₁, X', ⟨g', mk, t, L, E, ce, e1, e2, hq, hce, hcv, hcl, h1, hL, h2, h3⟩, st⟩
  · dsimp only [Pt.U, Pt.locs, Pt.cells, Pt.slots] at X' e1 e2 h1 h2 h3 st
    subst h1; subst h2; subst h3
    exact Or.inl ⟨v, (T.setVm vm₁).calling g' mk (Value.ref b :: As).toArray, t, U', L, hT, X', hL, e1, e2, hq, st⟩
  · dsimp only [Pt.U, Pt.locs, Pt.cells, Pt.slots] at X' e1 e2 h1 h2 h3 st hcl
    subst h1; subst h2; subst h3
    exact Or.inr ⟨q, (T.setVm vm₁).calling g' mk (Value.ref b :: As).toArray, t, U', L, E, ce, hT, X', hL, e1, e2, hq, hce, hcv, vx_cls hW₁ hcl, st⟩
end
/-! ===== END ===== -/
/-! ===== BEGIN a private method of a nest mate that may throw (follows va_callVN, va_callSN, va_runVN, va_runSN) ===== -/
section
variable {p : Program} {l : Launch} {e : Env} {R : Room} {s : State} {m : MethodId} {args : Array Value} {below : List Frame} {meth : Method} {c : Code} {H : Heap} {locs : List Loc} {cells slots : Nat}
variable {T : State}
theorem vx_callVN (X : Stand p l e R s m args below meth c T locs cells slots) (hexec : p.tables.exec = Jvm.exec) {own C : String} {index : Nat} {host : String} {y : MethodName} {bytes : ByteArray} {maxL : Nat} {ret : Option FieldType}
    (hown : s.vm.findClass own = some m.cls) (hlink : (Cond.methodLinkNest own index y host).before args s = true) (hinst : (Cond.instanceMethod y).before args s = true) (hsel : (Cond.selects C y y).before args s = true)
    (hcode : (Cond.code y bytes maxL ret).before args s = true) (hy : y.cls ≠ "java/lang/invoke/MethodHandle" ∧ y.cls ≠ "java/lang/invoke/VarHandle")
    {W : Nat} {Pre : Pt → Array Value → Prop} {Post : Pt → Array Value → Option Value → Pt → Prop} {PostX : Pt → Array Value → Addr → Pt → Prop} (hK : vx_Back l R p e below s args y 3 W Pre Post PostX)
    {b : Addr} {cellB : Cell} (hcell : T.heap[b]? = some cellB) (hobj : cellB.vm.isStatics = false) (hcls : s.vm.findClass C = some cellB.cls)
    {g : JFrame} (hg : g.method = m) (hsize : g.locals.size = c.maxLocals) {argsL rest : List Value} (hlen : ∀ sig, parseMethodDescriptor y.desc = some sig → argsL.length = sig.parameters.length)
    (hstack : g.stack = argsL.reverse ++ .ref b :: rest) (hW : 2 * g.monitorRoom + (rest.map fun v => v.category).sum ≤ W) (hdg : decode c.code g.pc = .ok (.invokevirtual index, 3))
    (hpre : ∀ vm₁, s.WarmedH vm₁ → Pre ⟨T.setVm vm₁, locs, cells, slots⟩ (Value.ref b :: argsL).toArray) :
    (∃ (v : Option Value) (vm₁ : Vm) (B : Pt), s.WarmedH vm₁ ∧ Stand p l e R s m args below meth c B.U B.locs B.cells B.slots ∧ Post ⟨T.setVm vm₁, locs, cells, slots⟩ (Value.ref b :: argsL).toArray v B ∧
      ∀ target, Steps p.tables e below (B.U.setTop { g with pc := g.pc + 3, stack := v.toList ++ rest }) target → Steps p.tables e below (T.setTop g) target) ∨
    (∃ (q : Addr) (vm₁ : Vm) (B : Pt), s.WarmedH vm₁ ∧ Stand p l e R s m args below meth c B.U B.locs B.cells B.slots ∧ PostX ⟨T.setVm vm₁, locs, cells, slots⟩ (Value.ref b :: argsL).toArray q B ∧
      Steps p.tables e below (T.setTop g) ((B.U.setTop { g with stack := rest }).pushFrame (.throwing q))) := by
  obtain ⟨mk, methM, hnamed, hmethM, hstM, habM⟩ := Cond.instanceMethod_spec hinst
  obtain ⟨methM', cM, hmethM', -, -, -, -, -, -, hsigM⟩ := Cond.code_spec hnamed hcode
  cases hmethM.symm.trans hmethM'
  obtain ⟨c2, r2, m2, q1, q2, q3, q4, kP, hkP, hkPi⟩ := Cond.selects_spec hsel
  cases hcls.symm.trans q1
  cases (State.methodFound?_of_named hnamed hy).symm.trans q2
  cases hnamed.symm.trans q3
  have hselP : selectMethod e.platform s.vm cellB.cls mk = .method mk := by rw [Launch.admits_selectMethod X.admits]; exact q4
  obtain ⟨vm₁, X₁, hstep₁⟩ := X.invokevirtualNest hexec hown hlink hnamed hmethM hstM hkP hkPi hy (a := b) (cell := cellB) hcell
    (fun z h => by rw [h] at hobj; cases hobj) hselP hmethM habM hkP hkPi (g := g) hg (argsL := argsL) (rest := rest) (hlen _ hsigM) hstack hdg
  rcases hK m meth c ⟨T.setVm vm₁, locs, cells, slots⟩ { g with stack := rest } (.invokevirtual index) mk (Value.ref b :: argsL).toArray X₁ hg hsize hdg hW (X₁.named hnamed) (hpre vm₁ X₁.warmed) with ⟨v, B, X', hpost, hsteps⟩ | ⟨q, B, X', hpost, hsteps⟩
  · exact Or.inl ⟨v, vm₁, B, X₁.warmed, X', hpost, fun target h => hstep₁ _ fun acts => by rw [doInvoke_state]; exact hsteps.trans h⟩
  · exact Or.inr ⟨q, vm₁, B, X₁.warmed, X', hpost, hstep₁ _ fun acts => by rw [doInvoke_state]; exact hsteps⟩
theorem vx_callSN (X : Stand p l e R s m args below meth c T locs cells slots) (hexec : p.tables.exec = Jvm.exec) {own : String} {index : Nat} {host : String} {y : MethodName} {bytes : ByteArray} {maxL : Nat} {ret : Option FieldType}
    (hown : s.vm.findClass own = some m.cls) (hlink : (Cond.methodLinkNest own index y host).before args s = true) (hstat : (Cond.static y).before args s = true) (hinit : (Cond.initialized y.cls).before args s = true)
    (hcode : (Cond.code y bytes maxL ret).before args s = true) (hy : y.cls ≠ "java/lang/invoke/MethodHandle" ∧ y.cls ≠ "java/lang/invoke/VarHandle")
    {W : Nat} {Pre : Pt → Array Value → Prop} {Post : Pt → Array Value → Option Value → Pt → Prop} {PostX : Pt → Array Value → Addr → Pt → Prop} (hK : vx_Back l R p e below s args y 3 W Pre Post PostX)
    {g : JFrame} (hg : g.method = m) (hsize : g.locals.size = c.maxLocals) {argsL rest : List Value} (hlen : ∀ sig, parseMethodDescriptor y.desc = some sig → argsL.length = sig.parameters.length)
    (hstack : g.stack = argsL.reverse ++ rest) (hW : 2 * g.monitorRoom + (rest.map fun v => v.category).sum ≤ W) (hdg : decode c.code g.pc = .ok (.invokestatic index, 3))
    (hpre : ∀ vm₁, s.WarmedH vm₁ → Pre ⟨T.setVm vm₁, locs, cells, slots⟩ argsL.toArray) :
    (∃ (v : Option Value) (vm₁ : Vm) (B : Pt), s.WarmedH vm₁ ∧ Stand p l e R s m args below meth c B.U B.locs B.cells B.slots ∧ Post ⟨T.setVm vm₁, locs, cells, slots⟩ argsL.toArray v B ∧
      ∀ target, Steps p.tables e below (B.U.setTop { g with pc := g.pc + 3, stack := v.toList ++ rest }) target → Steps p.tables e below (T.setTop g) target) ∨
    (∃ (q : Addr) (vm₁ : Vm) (B : Pt), s.WarmedH vm₁ ∧ Stand p l e R s m args below meth c B.U B.locs B.cells B.slots ∧ PostX ⟨T.setVm vm₁, locs, cells, slots⟩ argsL.toArray q B ∧
      Steps p.tables e below (T.setTop g) ((B.U.setTop { g with stack := rest }).pushFrame (.throwing q))) := by
  obtain ⟨mk, hnamed⟩ := Cond.code_named hcode
  obtain ⟨methM, cM, hmethM, -, -, -, -, -, -, hsigM⟩ := Cond.code_spec hnamed hcode
  have hstatic : methM.isStatic = true := Cond.static_spec hnamed hmethM hstat
  obtain ⟨kP, hkP, -⟩ := className_of_methodNamed hnamed
  have hinitP : kP.init = .initialized := Cond.initialized_spec (findClass_of_methodNamed hnamed) hkP hinit
  obtain ⟨vm₁, X₁, hstep₁⟩ := X.invokestaticNest hexec hown hlink hnamed hmethM hstatic hkP hinitP hy (g := g) hg (argsL := argsL) (rest := rest) (hlen _ hsigM) hstack hdg
  rcases hK m meth c ⟨T.setVm vm₁, locs, cells, slots⟩ { g with stack := rest } (.invokestatic index) mk argsL.toArray X₁ hg hsize hdg hW (X₁.named hnamed) (hpre vm₁ X₁.warmed) with ⟨v, B, X', hpost, hsteps⟩ | ⟨q, B, X', hpost, hsteps⟩
  · exact Or.inl ⟨v, vm₁, B, X₁.warmed, X', hpost, fun target h => hstep₁ _ fun acts => by rw [doInvoke_state]; exact hsteps.trans h⟩
  · exact Or.inr ⟨q, vm₁, B, X₁.warmed, X', hpost, hstep₁ _ fun acts => by rw [doInvoke_state]; exact hsteps⟩
theorem vx_runVN {y : MethodName} {bytes cc : ByteArray} {maxL nL mc ms n index : Nat} {ret : Option FieldType} {ws : List Cond} {rm : Room} {Pc : Array Value → State → Prop} {Qc : Array Value → State → Outcome → State → Prop} {XC : String → State → State → Prop} {free : Addr → Prop} {Ts : List Cond} {own C host : String} {b : Addr} {As rest : List Value} {g : JFrame}
    (S : CallFix p m c cc nL s args Ts own) (hM : vx_Met l y ws rm Pc Qc XC mc ms free) (cw : va_CN R s args own index y host bytes maxL ret ws rm mc ms n ∧ (Cond.instanceMethod y).before args s = true ∧ (Cond.selects C y y).before args s = true) (hp : PreV s H C b Pc As)
    (hg : g.method = m) (hn : As.length = n) (hsize : g.locals.size = nL) (hstack : g.stack = As.reverse ++ .ref b :: rest) (hW : 2 * g.monitorRoom + (rest.map fun v => v.category).sum ≤ 8) (hdg : decode cc g.pc = .ok (.invokevirtual index, 3)) (hf : cells + mc ≤ R.cells ∧ slots + ms ≤ R.slots) :
    vx_Run p l e R s m args below meth c H locs cells slots mc ms g rest (Qc (Value.ref b :: As).toArray) XC free := by
  obtain ⟨⟨⟨hrc, hrs, hfr, hlo, hws, hcw⟩, hcode, hini, hy, hlen, hl⟩, hx1, hx2⟩ := cw
  have hK : vx_Back l R p e below s args y 3 8 (PreOf R mc ms Pc) (PostOf Qc mc ms free) (vx_Post XC mc ms free) := vx_back (bytes := bytes) (maxL := maxL) (ret := ret) hM hp.1 hrc hrs hfr hlo hws hcw (fun a' U hW => word_at hW (Or.inl (by first | rfl | simp [Cond.onTables, Cond.keeps, Cond.steady])) hini)
  obtain ⟨hx, hb, hml, ho, -⟩ := S
  obtain ⟨-, ⟨cellB, hcB, hoB, hclB⟩, hPc⟩ := hp
  intro T hT X
  rcases vx_callVN X hx (C := C) (bytes := bytes) (maxL := maxL) (ret := ret) ho hl hx1 hx2 hcode hy hK (by rw [hT]; exact hcB) hoB hclB hg (hsize.trans hml.symm) (argsL := As) (rest := rest) (fun sig h => hn.trans (hlen sig h)) hstack hW (by rw [hb]; exact hdg)
    (fun vm₁ hW₁ => ⟨hf.1, hf.2, hPc (T.setVm vm₁) hT hW₁⟩) with ⟨v, vm₁, ⟨U', l2, c2, s2⟩, hW₁, X', ⟨g', mk, t, L, e1, e2, hq, h1, hL, h2, h3⟩, st⟩ | ⟨q, vm₁, ⟨U', l2, c2, s2⟩, hW₁, X', ⟨g', mk, t, L, E, ce, e1, e2, hq, hce, hcv, hcl, h1, hL, h2, h3⟩, st⟩
  · dsimp only [Pt.U, Pt.locs, Pt.cells, Pt.slots] at X' e1 e2 h1 h2 h3 st
    subst h1; subst h2; subst h3
    exact Or.inl ⟨v, (T.setVm vm₁).calling g' mk (Value.ref b :: As).toArray, t, U', L, hT, X', hL, e1, e2, hq, st⟩
  · dsimp only [Pt.U, Pt.locs, Pt.cells, Pt.slots] at X' e1 e2 h1 h2 h3 st hcl
    subst h1; subst h2; subst h3
    exact Or.inr ⟨q, (T.setVm vm₁).calling g' mk (Value.ref b :: As).toArray, t, U', L, E, ce, hT, X', hL, e1, e2, hq, hce, hcv, vx_cls hW₁ hcl, st⟩
theorem vx_runSN {y : MethodName} {bytes cc : ByteArray} {maxL nL mc ms n index : Nat} {ret : Option FieldType} {ws : List Cond} {rm : Room} {Pc : Array Value → State → Prop} {Qc : Array Value → State → Outcome → State → Prop} {XC : String → State → State → Prop} {free : Addr → Prop} {Ts : List Cond} {own host : String} {As rest : List Value} {g : JFrame}
    (S : CallFix p m c cc nL s args Ts own) (hM : vx_Met l y ws rm Pc Qc XC mc ms free) (cw : va_CN R s args own index y host bytes maxL ret ws rm mc ms n ∧ (Cond.static y).before args s = true ∧ True) (hp : PreS s H Pc As)
    (hg : g.method = m) (hn : As.length = n) (hsize : g.locals.size = nL) (hstack : g.stack = As.reverse ++ rest) (hW : 2 * g.monitorRoom + (rest.map fun v => v.category).sum ≤ 8) (hdg : decode cc g.pc = .ok (.invokestatic index, 3)) (hf : cells + mc ≤ R.cells ∧ slots + ms ≤ R.slots) :
    vx_Run p l e R s m args below meth c H locs cells slots mc ms g rest (Qc As.toArray) XC free := by
  obtain ⟨⟨⟨hrc, hrs, hfr, hlo, hws, hcw⟩, hcode, hini, hy, hlen, hl⟩, hx1, hx2⟩ := cw
  have hK : vx_Back l R p e below s args y 3 8 (PreOf R mc ms Pc) (PostOf Qc mc ms free) (vx_Post XC mc ms free) := vx_back (bytes := bytes) (maxL := maxL) (ret := ret) hM hp.1 hrc hrs hfr hlo hws hcw (fun a' U hW => word_at hW (Or.inl (by first | rfl | simp [Cond.onTables, Cond.keeps, Cond.steady])) hini)
  obtain ⟨hx, hb, hml, ho, -⟩ := S
  have hPc := hp.2
  intro T hT X
  rcases vx_callSN X hx (bytes := bytes) (maxL := maxL) (ret := ret) ho hl hx1 hini hcode hy hK hg (hsize.trans hml.symm) (argsL := As) (rest := rest) (fun sig h => hn.trans (hlen sig h)) hstack hW (by rw [hb]; exact hdg)
    (fun vm₁ hW₁ => ⟨hf.1, hf.2, hPc (T.setVm vm₁) hT hW₁⟩) with ⟨v, vm₁, ⟨U', l2, c2, s2⟩, hW₁, X', ⟨g', mk, t, L, e1, e2, hq, h1, hL, h2, h3⟩, st⟩ | ⟨q, vm₁, ⟨U', l2, c2, s2⟩, hW₁, X', ⟨g', mk, t, L, E, ce, e1, e2, hq, hce, hcv, hcl, h1, hL, h2, h3⟩, st⟩
  · dsimp only [Pt.U, Pt.locs, Pt.cells, Pt.slots] at X' e1 e2 h1 h2 h3 st
    subst h1; subst h2; subst h3
    exact Or.inl ⟨v, (T.setVm vm₁).calling g' mk As.toArray, t, U', L, hT, X', hL, e1, e2, hq, st⟩
  · dsimp only [Pt.U, Pt.locs, Pt.cells, Pt.slots] at X' e1 e2 h1 h2 h3 st hcl
    subst h1; subst h2; subst h3
    exact Or.inr ⟨q, (T.setVm vm₁).calling g' mk As.toArray, t, U', L, E, ce, hT, X', hL, e1, e2, hq, hce, hcv, vx_cls hW₁ hcl, st⟩
end
/-! ===== END ===== -/
/-! ===== BEGIN calls by an interface of methods that may throw (vx_callIF, vx_runF follow va_callIF, va_runF of this kit) ===== -/
section
variable {p : Program} {l : Launch} {e : Env} {R : Room} {s : State} {m : MethodId} {args : Array Value} {below : List Frame} {meth : Method} {c : Code} {H : Heap} {locs : List Loc} {cells slots : Nat} {Q : State → Prop}
variable {mc ms : Nat} {free : Addr → Prop} {A0 A1 : Nat → Prop} {H0 : Heap} {a : Array Value} {pc : Nat} {ls : Array Slot} {st0 rest : List Value}
def vx_Run5 (p : Program) (l : Launch) (e : Env) (R : Room) (s : State) (m : MethodId) (args : Array Value) (below : List Frame) (meth : Method) (c : Code) (H : Heap) (locs : List Loc) (cells slots mc ms : Nat) (g : JFrame) (rest : List Value) (Qa : State → Outcome → State → Prop) (XC : String → State → State → Prop) (free : Addr → Prop) : Prop :=
  ∀ T : State, T.heap = H → Stand p l e R s m args below meth c T locs cells slots →
    (∃ (v : Option Value) (st₀ t T' : State) (L : List Loc), st₀.heap = H ∧ Stand p l e R s m args below meth c T' (locs ++ L) (cells + mc) (slots + ms) ∧ (∀ q ∈ L, free q.base) ∧ T'.heap = t.heap ∧ T'.vm = t.vm ∧ Qa st₀ (.returned v) t ∧
      Goes p e below T g T' { g with pc := g.pc + 5, stack := v.toList ++ rest }) ∨
    (∃ (q : Addr) (st₀ t T' : State) (L : List Loc) (E : String) (ce : Cell), st₀.heap = H ∧ Stand p l e R s m args below meth c T' (locs ++ L) (cells + mc) (slots + ms) ∧ (∀ z ∈ L, free z.base) ∧ T'.heap = t.heap ∧ T'.vm = t.vm ∧ XC E st₀ t ∧ t.heap[q]? = some ce ∧ ce.vm = .none ∧ s.vm.findClass E = some ce.cls ∧
      Steps p.tables e below (T.setTop g) ((T'.setTop { g with stack := rest }).pushFrame (.throwing q)))
theorem vx_callIF {T : State} (X : Stand p l e R s m args below meth c T locs cells slots) (hexec : p.tables.exec = Jvm.exec) {own C : String} {index count : Nat} {x y : MethodName} {bytes : ByteArray} {maxL : Nat} {ret : Option FieldType}
    (hown : s.vm.findClass own = some m.cls) (hlink : (Cond.methodLink own index x).before args s = true) (hdecl : (Cond.declares x).before args s = true) (hface : (Cond.interfaceMethod x.cls x.cls x.name x.desc).before args s = true)
    (hsel : (Cond.selects C x y).before args s = true) (hinst : (Cond.instanceMethod y).before args s = true) (hpub : (Cond.publicMethod y).before args s = true) (hunh : (Cond.unhidden C x.name x.desc).before args s = true)
    (hcast : (Cond.castable C x.cls).before args s = true) (hcode : (Cond.code y bytes maxL ret).before args s = true) (hx : x.cls ≠ "java/lang/invoke/MethodHandle" ∧ x.cls ≠ "java/lang/invoke/VarHandle")
    {W9 : Nat} {Pre : Pt → Array Value → Prop} {Post : Pt → Array Value → Option Value → Pt → Prop} {PostX : Pt → Array Value → Addr → Pt → Prop} (hK : vx_Back l R p e below s args y 5 W9 Pre Post PostX)
    {b : Addr} {cellB : Cell} {kB : Class} (hcell : T.heap[b]? = some cellB) (hobj : cellB.vm.isStatics = false) (hcls : s.vm.findClass C = some cellB.cls) (hkB : s.vm.classes[cellB.cls]? = some kB)
    {g : JFrame} (hg : g.method = m) (hsize : g.locals.size = c.maxLocals) {argsL rest : List Value} (hlen : ∀ sig, parseMethodDescriptor x.desc = some sig → argsL.length = sig.parameters.length)
    (hstack : g.stack = argsL.reverse ++ .ref b :: rest) (hW : 2 * g.monitorRoom + (rest.map fun v => v.category).sum ≤ W9) (hdg : decode c.code g.pc = .ok (.invokeinterface index count, 5))
    (hpre : ∀ vm₁, s.WarmedH vm₁ → Pre ⟨T.setVm vm₁, locs, cells, slots⟩ (Value.ref b :: argsL).toArray) :
    (∃ (v : Option Value) (vm₁ : Vm) (B : Pt), s.WarmedH vm₁ ∧ Stand p l e R s m args below meth c B.U B.locs B.cells B.slots ∧ Post ⟨T.setVm vm₁, locs, cells, slots⟩ (Value.ref b :: argsL).toArray v B ∧
      ∀ target, Steps p.tables e below (B.U.setTop { g with pc := g.pc + 5, stack := v.toList ++ rest }) target → Steps p.tables e below (T.setTop g) target) ∨
    (∃ (q : Addr) (vm₁ : Vm) (B : Pt), s.WarmedH vm₁ ∧ Stand p l e R s m args below meth c B.U B.locs B.cells B.slots ∧ PostX ⟨T.setVm vm₁, locs, cells, slots⟩ (Value.ref b :: argsL).toArray q B ∧
      Steps p.tables e below (T.setTop g) ((B.U.setTop { g with stack := rest }).pushFrame (.throwing q))) := by
  obtain ⟨r0, r, hn, hrm, hstR, hsigR⟩ := Cond.declares_spec hdecl
  obtain ⟨cL, kL, r1, hcL, hkL, hiL, hfoundL, hn1⟩ := Cond.interfaceMethod_spec hface
  cases hn.symm.trans hn1
  have hr0cls : r0.cls = cL := Option.some.inj ((findClass_of_methodNamed hn).symm.trans hcL)
  obtain ⟨hnameR, hdescR⟩ := name_of_methodNamed hn hrm
  obtain ⟨mk, methM, hnamed, hmethM, -, habM⟩ := Cond.instanceMethod_spec hinst
  obtain ⟨c2, r2, m2, q1, q2, q3, q4, -⟩ := Cond.selects_spec hsel
  cases hcls.symm.trans q1
  cases hfoundL.symm.trans q2
  cases hnamed.symm.trans q3
  have hselP : selectMethod e.platform s.vm cellB.cls r0 = .method mk := by rw [Launch.admits_selectMethod X.admits]; exact q4
  have hpubM : hasFlag methM.accessFlags Acc.public_ = true := Cond.publicMethod_spec hnamed hmethM hpub
  have hway : ((cellB.cls :: s.vm.superclasses cellB.cls).any fun k => (declaredIn s.vm r.name r.desc k).any fun (_, z) => z.isPrivate || z.isStatic) = false := by
    rw [hnameR, hdescR]; exact Cond.unhidden_spec hcls hunh
  obtain ⟨c3, t3, w1, w2, w3⟩ := Cond.castable_spec hcast
  cases hcls.symm.trans w1
  cases hcL.symm.trans w2
  obtain ⟨vm₁, X₁, hstep₁⟩ := X.invokeinterface hexec hown hlink hn hrm hstR (by rw [hr0cls]; exact hkL) hiL hx (a := b) (cell := cellB) (kcell := kB) hcell
    (fun z h => by rw [h] at hobj; cases hobj) hkB (by rw [hr0cls]; exact w3) hselP hmethM hway hpubM habM (g := g) hg (argsL := argsL) (rest := rest) (hlen _ hsigR) hstack hdg
  rcases hK m meth c ⟨T.setVm vm₁, locs, cells, slots⟩ { g with stack := rest } (.invokeinterface index count) mk (Value.ref b :: argsL).toArray X₁ hg hsize hdg hW (X₁.named hnamed) (hpre vm₁ X₁.warmed) with ⟨v, B, X', hpost, hsteps⟩ | ⟨q, B, X', hpost, hsteps⟩
  · exact Or.inl ⟨v, vm₁, B, X₁.warmed, X', hpost, fun target h => hstep₁ _ fun acts => by rw [doInvoke_state]; exact hsteps.trans h⟩
  · exact Or.inr ⟨q, vm₁, B, X₁.warmed, X', hpost, hstep₁ _ fun acts => by rw [doInvoke_state]; exact hsteps⟩
theorem vx_runF {x y : MethodName} {bytes cc : ByteArray} {maxL nL mc ms n index count : Nat} {ret : Option FieldType} {ws : List Cond} {rm : Room} {Pc : Array Value → State → Prop} {Qc : Array Value → State → Outcome → State → Prop} {XC : String → State → State → Prop} {free : Addr → Prop} {Ts : List Cond} {own C : String} {cC : ClassId} {b : Addr} {As rest : List Value} {g : JFrame}
    (hat : ClassAt s C cC) (S : CallFix p m c cc nL s args Ts own) (hM : vx_Met l y ws rm Pc Qc XC mc ms free) (cw : va_CI R s args own C index x y bytes maxL ret ws rm mc ms n) (hp : PreV s H C b Pc As)
    (hg : g.method = m) (hn : As.length = n) (hsize : g.locals.size = nL) (hstack : g.stack = As.reverse ++ .ref b :: rest) (hW : 2 * g.monitorRoom + (rest.map fun v => v.category).sum ≤ 8) (hdg : decode cc g.pc = .ok (.invokeinterface index count, 5)) (hf : cells + mc ≤ R.cells ∧ slots + ms ≤ R.slots) :
    vx_Run5 p l e R s m args below meth c H locs cells slots mc ms g rest (Qc (Value.ref b :: As).toArray) XC free := by
  obtain ⟨hrc, hrs, hfr, hlo, hws, hcw⟩ := cw.back
  have hini := cw.init
  have hK : vx_Back l R p e below s args y 5 8 (PreOf R mc ms Pc) (PostOf Qc mc ms free) (vx_Post XC mc ms free) := vx_back (bytes := bytes) (maxL := maxL) (ret := ret) hM hp.1 hrc hrs hfr hlo hws hcw (fun a' U hW => word_at hW (Or.inl (by first | rfl | simp [Cond.onTables, Cond.keeps, Cond.steady])) hini)
  obtain ⟨hx, hb, hml, ho, -⟩ := S
  obtain ⟨-, ⟨cellB, hcB, hoB, hclB⟩, hPc⟩ := hp
  obtain ⟨hfc, kB, hkB, -⟩ := hat
  cases hfc.symm.trans hclB
  intro T hT X
  rcases vx_callIF X hx (C := C) (bytes := bytes) (maxL := maxL) (ret := ret) ho cw.link cw.decl cw.face cw.sel cw.inst cw.pub cw.unh cw.cast cw.code cw.notMH hK (by rw [hT]; exact hcB) hoB hclB hkB hg (hsize.trans hml.symm) (argsL := As) (rest := rest) (fun sig h => hn.trans (cw.len sig h)) hstack hW (by rw [hb]; exact hdg)
    (fun vm₁ hW₁ => ⟨hf.1, hf.2, hPc (T.setVm vm₁) hT hW₁⟩) with ⟨v, vm₁, ⟨U', l2, c2, s2⟩, hW₁, X', ⟨g', mk, t, L, e1, e2, hq, h1, hL, h2, h3⟩, st⟩ | ⟨q, vm₁, ⟨U', l2, c2, s2⟩, hW₁, X', ⟨g', mk, t, L, E, ce, e1, e2, hq, hce, hcv, hcl, h1, hL, h2, h3⟩, st⟩
  · dsimp only [Pt.U, Pt.locs, Pt.cells, Pt.slots] at X' e1 e2 h1 h2 h3 st
    subst h1; subst h2; subst h3
    exact Or.inl ⟨v, (T.setVm vm₁).calling g' mk (Value.ref b :: As).toArray, t, U', L, hT, X', hL, e1, e2, hq, st⟩
  · dsimp only [Pt.U, Pt.locs, Pt.cells, Pt.slots] at X' e1 e2 h1 h2 h3 st hcl
    subst h1; subst h2; subst h3
    exact Or.inr ⟨q, (T.setVm vm₁).calling g' mk (Value.ref b :: As).toArray, t, U', L, E, ce, hT, X', hL, e1, e2, hq, hce, hcv, vx_cls hW₁ hcl, st⟩
theorem vx_callFv {S SX : Type} {post : S → Prop} {px : SX → Prop} {B : S → State → Prop} {BX : String → SX → State → Prop} {AX : Nat → Prop} (hr : vx_Run5 p l e R s m args below meth c H locs cells slots mc ms (F0 m pc ls st0) rest (va_Qv post B A1 a) (vx_X px BX AX) free) (hS : va_S A0 H0 H locs) (hA : ∀ q, q < H.size → A1 q → A0 q) (hf : ∀ q, free q → A0 q) (hAX : ∀ q, q < H.size → AX q → A0 q)
    (kx : ∀ (E : String) (ce : Cell) (q9 : Addr) (u : SX) (t : State) (H1 : Heap) (locs1 : List Loc), t.heap = H1 → s.vm.Alike t.vm → px u → BX E u t → H.size ≤ H1.size → (∀ q : Nat, q < H.size → ¬ AX q → H1[q]? = H[q]?) → va_S A0 H0 H1 locs1 → H1[q9]? = some ce → ce.vm = .none → s.vm.findClass E = some ce.cls → vx_W p l e R s m args below meth c H1 locs1 (cells + mc) (slots + ms) Q (F0 m pc ls rest) q9)
    (kk : ∀ (u : S) (t : State) (H1 : Heap) (locs1 : List Loc), t.heap = H1 → s.vm.Alike t.vm → post u → B u t → H.size ≤ H1.size → (∀ q : Nat, q < H.size → ¬ A1 q → H1[q]? = H[q]?) → va_S A0 H0 H1 locs1 → W p l e R s m args below meth c H1 locs1 (cells + mc) (slots + ms) Q (F0 m (pc + 5) ls (rest))) : W p l e R s m args below meth c H locs cells slots Q (F0 m pc ls st0) := by
  intro T hT X
  rcases hr T hT X with ⟨v, st₀, t, T', L, h0, X', hL, e1, e2, ⟨⟨u, hv, hp, hb⟩, hF⟩, st⟩ | ⟨q, st₀, t, T', L, E, ce, h0, X', hL, e1, e2, ⟨u, hp, hb, hF⟩, hce, hcv, hcl, st⟩
  · cases hv
    obtain ⟨k1, k2, k3⟩ := vx_keep h0 e1 hS hA hf hL hF
    obtain ⟨t2, a1, b1⟩ := kk u t T'.heap (locs ++ L) e1.symm (by rw [← e2]; exact X'.warmed.alike) hp hb k1 k2 k3 T' rfl X'
    exact ⟨t2, st t2 a1, b1⟩
  · obtain ⟨k1, k2, k3⟩ := vx_keep h0 e1 hS hAX hf hL hF
    obtain ⟨t2, a1, b1⟩ := kx E ce q u t T'.heap (locs ++ L) e1.symm (by rw [← e2]; exact X'.warmed.alike) hp hb k1 k2 k3 (by rw [e1]; exact hce) hcv hcl T' rfl X'
    exact ⟨t2, st.trans a1, b1⟩
theorem vx_callFi {S SX : Type} {post : Int32 → S → Prop} {px : SX → Prop} {B : S → State → Prop} {BX : String → SX → State → Prop} {AX : Nat → Prop} (hr : vx_Run5 p l e R s m args below meth c H locs cells slots mc ms (F0 m pc ls st0) rest (va_Qi post B A1 a) (vx_X px BX AX) free) (hS : va_S A0 H0 H locs) (hA : ∀ q, q < H.size → A1 q → A0 q) (hf : ∀ q, free q → A0 q) (hAX : ∀ q, q < H.size → AX q → A0 q)
    (kx : ∀ (E : String) (ce : Cell) (q9 : Addr) (u : SX) (t : State) (H1 : Heap) (locs1 : List Loc), t.heap = H1 → s.vm.Alike t.vm → px u → BX E u t → H.size ≤ H1.size → (∀ q : Nat, q < H.size → ¬ AX q → H1[q]? = H[q]?) → va_S A0 H0 H1 locs1 → H1[q9]? = some ce → ce.vm = .none → s.vm.findClass E = some ce.cls → vx_W p l e R s m args below meth c H1 locs1 (cells + mc) (slots + ms) Q (F0 m pc ls rest) q9)
    (kk : ∀ (r : Int32) (u : S) (t : State) (H1 : Heap) (locs1 : List Loc), t.heap = H1 → s.vm.Alike t.vm → post r u → B u t → H.size ≤ H1.size → (∀ q : Nat, q < H.size → ¬ A1 q → H1[q]? = H[q]?) → va_S A0 H0 H1 locs1 → W p l e R s m args below meth c H1 locs1 (cells + mc) (slots + ms) Q (F0 m (pc + 5) ls (.int r :: rest))) : W p l e R s m args below meth c H locs cells slots Q (F0 m pc ls st0) := by
  intro T hT X
  rcases hr T hT X with ⟨v, st₀, t, T', L, h0, X', hL, e1, e2, ⟨⟨r, u, hv, hp, hb⟩, hF⟩, st⟩ | ⟨q, st₀, t, T', L, E, ce, h0, X', hL, e1, e2, ⟨u, hp, hb, hF⟩, hce, hcv, hcl, st⟩
  · cases hv
    obtain ⟨k1, k2, k3⟩ := vx_keep h0 e1 hS hA hf hL hF
    obtain ⟨t2, a1, b1⟩ := kk r u t T'.heap (locs ++ L) e1.symm (by rw [← e2]; exact X'.warmed.alike) hp hb k1 k2 k3 T' rfl X'
    exact ⟨t2, st t2 a1, b1⟩
  · obtain ⟨k1, k2, k3⟩ := vx_keep h0 e1 hS hAX hf hL hF
    obtain ⟨t2, a1, b1⟩ := kx E ce q u t T'.heap (locs ++ L) e1.symm (by rw [← e2]; exact X'.warmed.alike) hp hb k1 k2 k3 (by rw [e1]; exact hce) hcv hcl T' rfl X'
    exact ⟨t2, st.trans a1, b1⟩
theorem vx_callFl {S SX : Type} {post : Int64 → S → Prop} {px : SX → Prop} {B : S → State → Prop} {BX : String → SX → State → Prop} {AX : Nat → Prop} (hr : vx_Run5 p l e R s m args below meth c H locs cells slots mc ms (F0 m pc ls st0) rest (va_Ql post B A1 a) (vx_X px BX AX) free) (hS : va_S A0 H0 H locs) (hA : ∀ q, q < H.size → A1 q → A0 q) (hf : ∀ q, free q → A0 q) (hAX : ∀ q, q < H.size → AX q → A0 q)
    (kx : ∀ (E : String) (ce : Cell) (q9 : Addr) (u : SX) (t : State) (H1 : Heap) (locs1 : List Loc), t.heap = H1 → s.vm.Alike t.vm → px u → BX E u t → H.size ≤ H1.size → (∀ q : Nat, q < H.size → ¬ AX q → H1[q]? = H[q]?) → va_S A0 H0 H1 locs1 → H1[q9]? = some ce → ce.vm = .none → s.vm.findClass E = some ce.cls → vx_W p l e R s m args below meth c H1 locs1 (cells + mc) (slots + ms) Q (F0 m pc ls rest) q9)
    (kk : ∀ (r : Int64) (u : S) (t : State) (H1 : Heap) (locs1 : List Loc), t.heap = H1 → s.vm.Alike t.vm → post r u → B u t → H.size ≤ H1.size → (∀ q : Nat, q < H.size → ¬ A1 q → H1[q]? = H[q]?) → va_S A0 H0 H1 locs1 → W p l e R s m args below meth c H1 locs1 (cells + mc) (slots + ms) Q (F0 m (pc + 5) ls (.long r :: rest))) : W p l e R s m args below meth c H locs cells slots Q (F0 m pc ls st0) := by
  intro T hT X
  rcases hr T hT X with ⟨v, st₀, t, T', L, h0, X', hL, e1, e2, ⟨⟨r, u, hv, hp, hb⟩, hF⟩, st⟩ | ⟨q, st₀, t, T', L, E, ce, h0, X', hL, e1, e2, ⟨u, hp, hb, hF⟩, hce, hcv, hcl, st⟩
  · cases hv
    obtain ⟨k1, k2, k3⟩ := vx_keep h0 e1 hS hA hf hL hF
    obtain ⟨t2, a1, b1⟩ := kk r u t T'.heap (locs ++ L) e1.symm (by rw [← e2]; exact X'.warmed.alike) hp hb k1 k2 k3 T' rfl X'
    exact ⟨t2, st t2 a1, b1⟩
  · obtain ⟨k1, k2, k3⟩ := vx_keep h0 e1 hS hAX hf hL hF
    obtain ⟨t2, a1, b1⟩ := kx E ce q u t T'.heap (locs ++ L) e1.symm (by rw [← e2]; exact X'.warmed.alike) hp hb k1 k2 k3 (by rw [e1]; exact hce) hcv hcl T' rfl X'
    exact ⟨t2, st.trans a1, b1⟩
theorem vx_callFf {S SX : Type} {post : UInt32 → S → Prop} {px : SX → Prop} {B : S → State → Prop} {BX : String → SX → State → Prop} {AX : Nat → Prop} (hr : vx_Run5 p l e R s m args below meth c H locs cells slots mc ms (F0 m pc ls st0) rest (va_Qf post B A1 a) (vx_X px BX AX) free) (hS : va_S A0 H0 H locs) (hA : ∀ q, q < H.size → A1 q → A0 q) (hf : ∀ q, free q → A0 q) (hAX : ∀ q, q < H.size → AX q → A0 q)
    (kx : ∀ (E : String) (ce : Cell) (q9 : Addr) (u : SX) (t : State) (H1 : Heap) (locs1 : List Loc), t.heap = H1 → s.vm.Alike t.vm → px u → BX E u t → H.size ≤ H1.size → (∀ q : Nat, q < H.size → ¬ AX q → H1[q]? = H[q]?) → va_S A0 H0 H1 locs1 → H1[q9]? = some ce → ce.vm = .none → s.vm.findClass E = some ce.cls → vx_W p l e R s m args below meth c H1 locs1 (cells + mc) (slots + ms) Q (F0 m pc ls rest) q9)
    (kk : ∀ (r : UInt32) (u : S) (t : State) (H1 : Heap) (locs1 : List Loc), t.heap = H1 → s.vm.Alike t.vm → post r u → B u t → H.size ≤ H1.size → (∀ q : Nat, q < H.size → ¬ A1 q → H1[q]? = H[q]?) → va_S A0 H0 H1 locs1 → W p l e R s m args below meth c H1 locs1 (cells + mc) (slots + ms) Q (F0 m (pc + 5) ls (.float r :: rest))) : W p l e R s m args below meth c H locs cells slots Q (F0 m pc ls st0) := by
  intro T hT X
  rcases hr T hT X with ⟨v, st₀, t, T', L, h0, X', hL, e1, e2, ⟨⟨r, u, hv, hp, hb⟩, hF⟩, st⟩ | ⟨q, st₀, t, T', L, E, ce, h0, X', hL, e1, e2, ⟨u, hp, hb, hF⟩, hce, hcv, hcl, st⟩
  · cases hv
    obtain ⟨k1, k2, k3⟩ := vx_keep h0 e1 hS hA hf hL hF
    obtain ⟨t2, a1, b1⟩ := kk r u t T'.heap (locs ++ L) e1.symm (by rw [← e2]; exact X'.warmed.alike) hp hb k1 k2 k3 T' rfl X'
    exact ⟨t2, st t2 a1, b1⟩
  · obtain ⟨k1, k2, k3⟩ := vx_keep h0 e1 hS hAX hf hL hF
    obtain ⟨t2, a1, b1⟩ := kx E ce q u t T'.heap (locs ++ L) e1.symm (by rw [← e2]; exact X'.warmed.alike) hp hb k1 k2 k3 (by rw [e1]; exact hce) hcv hcl T' rfl X'
    exact ⟨t2, st.trans a1, b1⟩
theorem vx_callFd {S SX : Type} {post : UInt64 → S → Prop} {px : SX → Prop} {B : S → State → Prop} {BX : String → SX → State → Prop} {AX : Nat → Prop} (hr : vx_Run5 p l e R s m args below meth c H locs cells slots mc ms (F0 m pc ls st0) rest (va_Qd post B A1 a) (vx_X px BX AX) free) (hS : va_S A0 H0 H locs) (hA : ∀ q, q < H.size → A1 q → A0 q) (hf : ∀ q, free q → A0 q) (hAX : ∀ q, q < H.size → AX q → A0 q)
    (kx : ∀ (E : String) (ce : Cell) (q9 : Addr) (u : SX) (t : State) (H1 : Heap) (locs1 : List Loc), t.heap = H1 → s.vm.Alike t.vm → px u → BX E u t → H.size ≤ H1.size → (∀ q : Nat, q < H.size → ¬ AX q → H1[q]? = H[q]?) → va_S A0 H0 H1 locs1 → H1[q9]? = some ce → ce.vm = .none → s.vm.findClass E = some ce.cls → vx_W p l e R s m args below meth c H1 locs1 (cells + mc) (slots + ms) Q (F0 m pc ls rest) q9)
    (kk : ∀ (r : UInt64) (u : S) (t : State) (H1 : Heap) (locs1 : List Loc), t.heap = H1 → s.vm.Alike t.vm → post r u → B u t → H.size ≤ H1.size → (∀ q : Nat, q < H.size → ¬ A1 q → H1[q]? = H[q]?) → va_S A0 H0 H1 locs1 → W p l e R s m args below meth c H1 locs1 (cells + mc) (slots + ms) Q (F0 m (pc + 5) ls (.double r :: rest))) : W p l e R s m args below meth c H locs cells slots Q (F0 m pc ls st0) := by
  intro T hT X
  rcases hr T hT X with ⟨v, st₀, t, T', L, h0, X', hL, e1, e2, ⟨⟨r, u, hv, hp, hb⟩, hF⟩, st⟩ | ⟨q, st₀, t, T', L, E, ce, h0, X', hL, e1, e2, ⟨u, hp, hb, hF⟩, hce, hcv, hcl, st⟩
  · cases hv
    obtain ⟨k1, k2, k3⟩ := vx_keep h0 e1 hS hA hf hL hF
    obtain ⟨t2, a1, b1⟩ := kk r u t T'.heap (locs ++ L) e1.symm (by rw [← e2]; exact X'.warmed.alike) hp hb k1 k2 k3 T' rfl X'
    exact ⟨t2, st t2 a1, b1⟩
  · obtain ⟨k1, k2, k3⟩ := vx_keep h0 e1 hS hAX hf hL hF
    obtain ⟨t2, a1, b1⟩ := kx E ce q u t T'.heap (locs ++ L) e1.symm (by rw [← e2]; exact X'.warmed.alike) hp hb k1 k2 k3 (by rw [e1]; exact hce) hcv hcl T' rfl X'
    exact ⟨t2, st.trans a1, b1⟩
end
/-! ===== END ===== -/
/-! ===== BEGIN by an interface, a method with a table of its own that may throw (follows va_callIFW, va_runFW) ===== -/
section
variable {p : Program} {l : Launch} {e : Env} {R : Room} {s : State} {m : MethodId} {args : Array Value} {below : List Frame} {meth : Method} {c : Code} {H : Heap} {locs : List Loc} {cells slots : Nat}
theorem vx_callIFW {T : State} (X : Stand p l e R s m args below meth c T locs cells slots) (hexec : p.tables.exec = Jvm.exec) {own C : String} {index count : Nat} {x y : MethodName} {bytes : ByteArray} {maxL : Nat} {ret : Option FieldType} {hh : List (Nat × Nat × Nat × Nat)}
    (hown : s.vm.findClass own = some m.cls) (hlink : (Cond.methodLink own index x).before args s = true) (hdecl : (Cond.declares x).before args s = true) (hface : (Cond.interfaceMethod x.cls x.cls x.name x.desc).before args s = true)
    (hsel : (Cond.selects C x y).before args s = true) (hinst : (Cond.instanceMethod y).before args s = true) (hpub : (Cond.publicMethod y).before args s = true) (hunh : (Cond.unhidden C x.name x.desc).before args s = true)
    (hcast : (Cond.castable C x.cls).before args s = true) (hcode : (Cond.codeWith y bytes maxL ret hh).before args s = true) (hx : x.cls ≠ "java/lang/invoke/MethodHandle" ∧ x.cls ≠ "java/lang/invoke/VarHandle")
    {W : Nat} {Pre : Pt → Array Value → Prop} {Post : Pt → Array Value → Option Value → Pt → Prop} {PostX : Pt → Array Value → Addr → Pt → Prop} (hK : vx_Back l R p e below s args y 5 W Pre Post PostX)
    {b : Addr} {cellB : Cell} {kB : Class} (hcell : T.heap[b]? = some cellB) (hobj : cellB.vm.isStatics = false) (hcls : s.vm.findClass C = some cellB.cls) (hkB : s.vm.classes[cellB.cls]? = some kB)
    {g : JFrame} (hg : g.method = m) (hsize : g.locals.size = c.maxLocals) {argsL rest : List Value} (hlen : ∀ sig, parseMethodDescriptor x.desc = some sig → argsL.length = sig.parameters.length)
    (hstack : g.stack = argsL.reverse ++ .ref b :: rest) (hW : 2 * g.monitorRoom + (rest.map fun v => v.category).sum ≤ W) (hdg : decode c.code g.pc = .ok (.invokeinterface index count, 5))
    (hpre : ∀ vm₁, s.WarmedH vm₁ → Pre ⟨T.setVm vm₁, locs, cells, slots⟩ (Value.ref b :: argsL).toArray) :
    (∃ (v : Option Value) (vm₁ : Vm) (B : Pt), s.WarmedH vm₁ ∧ Stand p l e R s m args below meth c B.U B.locs B.cells B.slots ∧ Post ⟨T.setVm vm₁, locs, cells, slots⟩ (Value.ref b :: argsL).toArray v B ∧
      ∀ target, Steps p.tables e below (B.U.setTop { g with pc := g.pc + 5, stack := v.toList ++ rest }) target → Steps p.tables e below (T.setTop g) target) ∨
    (∃ (q : Addr) (vm₁ : Vm) (B : Pt), s.WarmedH vm₁ ∧ Stand p l e R s m args below meth c B.U B.locs B.cells B.slots ∧ PostX ⟨T.setVm vm₁, locs, cells, slots⟩ (Value.ref b :: argsL).toArray q B ∧
      Steps p.tables e below (T.setTop g) ((B.U.setTop { g with stack := rest }).pushFrame (.throwing q))) := by
  obtain ⟨r0, r, hn, hrm, hstR, hsigR⟩ := Cond.declares_spec hdecl
  obtain ⟨cL, kL, r1, hcL, hkL, hiL, hfoundL, hn1⟩ := Cond.interfaceMethod_spec hface
  cases hn.symm.trans hn1
  have hr0cls : r0.cls = cL := Option.some.inj ((findClass_of_methodNamed hn).symm.trans hcL)
  obtain ⟨hnameR, hdescR⟩ := name_of_methodNamed hn hrm
  obtain ⟨mk, methM, hnamed, hmethM, -, habM⟩ := Cond.instanceMethod_spec hinst
  obtain ⟨c2, r2, m2, q1, q2, q3, q4, -⟩ := Cond.selects_spec hsel
  cases hcls.symm.trans q1
  cases hfoundL.symm.trans q2
  cases hnamed.symm.trans q3
  have hselP : selectMethod e.platform s.vm cellB.cls r0 = .method mk := by rw [Launch.admits_selectMethod X.admits]; exact q4
  have hpubM : hasFlag methM.accessFlags Acc.public_ = true := Cond.publicMethod_spec hnamed hmethM hpub
  have hway : ((cellB.cls :: s.vm.superclasses cellB.cls).any fun k => (declaredIn s.vm r.name r.desc k).any fun (_, z) => z.isPrivate || z.isStatic) = false := by
    rw [hnameR, hdescR]; exact Cond.unhidden_spec hcls hunh
  obtain ⟨c3, t3, w1, w2, w3⟩ := Cond.castable_spec hcast
  cases hcls.symm.trans w1
  cases hcL.symm.trans w2
  obtain ⟨vm₁, X₁, hstep₁⟩ := X.invokeinterface hexec hown hlink hn hrm hstR (by rw [hr0cls]; exact hkL) hiL hx (a := b) (cell := cellB) (kcell := kB) hcell
    (fun z h => by rw [h] at hobj; cases hobj) hkB (by rw [hr0cls]; exact w3) hselP hmethM hway hpubM habM (g := g) hg (argsL := argsL) (rest := rest) (hlen _ hsigR) hstack hdg
  rcases hK m meth c ⟨T.setVm vm₁, locs, cells, slots⟩ { g with stack := rest } (.invokeinterface index count) mk (Value.ref b :: argsL).toArray X₁ hg hsize hdg hW (X₁.named hnamed) (hpre vm₁ X₁.warmed) with ⟨v, B, X', hpost, hsteps⟩ | ⟨q, B, X', hpost, hsteps⟩
  · exact Or.inl ⟨v, vm₁, B, X₁.warmed, X', hpost, fun target h => hstep₁ _ fun acts => by rw [doInvoke_state]; exact hsteps.trans h⟩
  · exact Or.inr ⟨q, vm₁, B, X₁.warmed, X', hpost, hstep₁ _ fun acts => by rw [doInvoke_state]; exact hsteps⟩
theorem vx_runFW {x y : MethodName} {bytes cc : ByteArray} {maxL nL mc ms n index count : Nat} {ret : Option FieldType} {hh : List (Nat × Nat × Nat × Nat)} {ws : List Cond} {rm : Room} {Pc : Array Value → State → Prop} {Qc : Array Value → State → Outcome → State → Prop} {XC : String → State → State → Prop} {free : Addr → Prop} {Ts : List Cond} {own C : String} {cC : ClassId} {b : Addr} {As rest : List Value} {g : JFrame}
    (hat : ClassAt s C cC) (S : CallFix p m c cc nL s args Ts own) (hM : vx_Met l y ws rm Pc Qc XC mc ms free) (cw : va_CIW R s args own C index x y bytes maxL ret hh ws rm mc ms n) (hp : PreV s H C b Pc As)
    (hg : g.method = m) (hn : As.length = n) (hsize : g.locals.size = nL) (hstack : g.stack = As.reverse ++ .ref b :: rest) (hW : 2 * g.monitorRoom + (rest.map fun v => v.category).sum ≤ 8) (hdg : decode cc g.pc = .ok (.invokeinterface index count, 5)) (hf : cells + mc ≤ R.cells ∧ slots + ms ≤ R.slots) :
    vx_Run5 p l e R s m args below meth c H locs cells slots mc ms g rest (Qc (Value.ref b :: As).toArray) XC free := by
  obtain ⟨hrc, hrs, hfr, hlo, hws, hcw⟩ := cw.back
  have hini := cw.init
  have hK : vx_Back l R p e below s args y 5 8 (PreOf R mc ms Pc) (PostOf Qc mc ms free) (vx_Post XC mc ms free) := vx_backW (hh := hh) (bytes := bytes) (maxL := maxL) (ret := ret) hM hp.1 hrc hrs hfr hlo hws hcw (fun a' U hW => word_at hW (Or.inl (by first | rfl | simp [Cond.onTables, Cond.keeps, Cond.steady])) hini)
  obtain ⟨hx, hb, hml, ho, -⟩ := S
  obtain ⟨-, ⟨cellB, hcB, hoB, hclB⟩, hPc⟩ := hp
  obtain ⟨hfc, kB, hkB, -⟩ := hat
  cases hfc.symm.trans hclB
  intro T hT X
  rcases vx_callIFW X hx (C := C) (hh := hh) (bytes := bytes) (maxL := maxL) (ret := ret) ho cw.link cw.decl cw.face cw.sel cw.inst cw.pub cw.unh cw.cast cw.code cw.notMH hK (by rw [hT]; exact hcB) hoB hclB hkB hg (hsize.trans hml.symm) (argsL := As) (rest := rest) (fun sig h => hn.trans (cw.len sig h)) hstack hW (by rw [hb]; exact hdg)
    (fun vm₁ hW₁ => ⟨hf.1, hf.2, hPc (T.setVm vm₁) hT hW₁⟩) with ⟨v, vm₁, ⟨U', l2, c2, s2⟩, hW₁, X', ⟨g', mk, t, L, e1, e2, hq, h1, hL, h2, h3⟩, st⟩ | ⟨q, vm₁, ⟨U', l2, c2, s2⟩, hW₁, X', ⟨g', mk, t, L, E, ce, e1, e2, hq, hce, hcv, hcl, h1, hL, h2, h3⟩, st⟩
  · dsimp only [Pt.U, Pt.locs, Pt.cells, Pt.slots] at X' e1 e2 h1 h2 h3 st
    subst h1; subst h2; subst h3
    exact Or.inl ⟨v, (T.setVm vm₁).calling g' mk (Value.ref b :: As).toArray, t, U', L, hT, X', hL, e1, e2, hq, st⟩
  · dsimp only [Pt.U, Pt.locs, Pt.cells, Pt.slots] at X' e1 e2 h1 h2 h3 st hcl
    subst h1; subst h2; subst h3
    exact Or.inr ⟨q, (T.setVm vm₁).calling g' mk (Value.ref b :: As).toArray, t, U', L, E, ce, hT, X', hL, e1, e2, hq, hce, hcv, vx_cls hW₁ hcl, st⟩
end
/-! ===== END ===== -/
/-! ===== BEGIN .. of methods that hand back an object of the pool ===== -/
section
variable {p : Program} {l : Launch} {e : Env} {R : Room} {s : State} {m : MethodId} {args : Array Value} {below : List Frame} {meth : Method} {c : Code} {H : Heap} {locs : List Loc} {cells slots : Nat} {Q : State → Prop}
variable {mc ms : Nat} {free : Addr → Prop} {A0 A1 : Nat → Prop} {H0 : Heap} {a : Array Value} {pc : Nat} {ls : Array Slot} {st0 rest : List Value}
theorem vx_callq {S SX : Type} {post : Option Nat → S → Prop} {px : SX → Prop} {B : S → State → Prop} {BX : String → SX → State → Prop} {AX : Nat → Prop} (hr : vx_Run p l e R s m args below meth c H locs cells slots mc ms (F0 m pc ls st0) rest (va_Qq post B A1 a) (vx_X px BX AX) free) (hS : va_S A0 H0 H locs) (hA : ∀ q, q < H.size → A1 q → A0 q) (hf : ∀ q, free q → A0 q) (hAX : ∀ q, q < H.size → AX q → A0 q)
    (kx : ∀ (E : String) (ce : Cell) (q9 : Addr) (u : SX) (t : State) (H1 : Heap) (locs1 : List Loc), t.heap = H1 → s.vm.Alike t.vm → px u → BX E u t → H.size ≤ H1.size → (∀ q : Nat, q < H.size → ¬ AX q → H1[q]? = H[q]?) → va_S A0 H0 H1 locs1 → H1[q9]? = some ce → ce.vm = .none → s.vm.findClass E = some ce.cls → vx_W p l e R s m args below meth c H1 locs1 (cells + mc) (slots + ms) Q (F0 m pc ls rest) q9)
    (kk : ∀ (r : Option Nat) (u : S) (t : State) (H1 : Heap) (locs1 : List Loc), t.heap = H1 → s.vm.Alike t.vm → post r u → B u t → H.size ≤ H1.size → (∀ q : Nat, q < H.size → ¬ A1 q → H1[q]? = H[q]?) → va_S A0 H0 H1 locs1 → W p l e R s m args below meth c H1 locs1 (cells + mc) (slots + ms) Q (F0 m (pc + 3) ls (va_rf r :: rest))) : W p l e R s m args below meth c H locs cells slots Q (F0 m pc ls st0) := by
  intro T hT X
  rcases hr T hT X with ⟨v, st₀, t, T', L, h0, X', hL, e1, e2, ⟨⟨r, u, hv, hp, hb⟩, hF⟩, st⟩ | ⟨q, st₀, t, T', L, E, ce, h0, X', hL, e1, e2, ⟨u, hp, hb, hF⟩, hce, hcv, hcl, st⟩
  · cases hv
    obtain ⟨k1, k2, k3⟩ := vx_keep h0 e1 hS hA hf hL hF
    obtain ⟨t2, a1, b1⟩ := kk r u t T'.heap (locs ++ L) e1.symm (by rw [← e2]; exact X'.warmed.alike) hp hb k1 k2 k3 T' rfl X'
    exact ⟨t2, st t2 a1, b1⟩
  · obtain ⟨k1, k2, k3⟩ := vx_keep h0 e1 hS hAX hf hL hF
    obtain ⟨t2, a1, b1⟩ := kx E ce q u t T'.heap (locs ++ L) e1.symm (by rw [← e2]; exact X'.warmed.alike) hp hb k1 k2 k3 (by rw [e1]; exact hce) hcv hcl T' rfl X'
    exact ⟨t2, st.trans a1, b1⟩
end
/-! ===== END ===== -/
/-! ===== BEGIN .. a constant ===== -/
section
variable {p : Program} {l : Launch} {e : Env} {R : Room} {s : State} {m : MethodId} {args : Array Value} {below : List Frame} {meth : Method} {c : Code} {H : Heap} {locs : List Loc} {cells slots : Nat} {Q : State → Prop}
variable {mc ms : Nat} {free : Addr → Prop} {A0 A1 : Nat → Prop} {H0 : Heap} {a : Array Value} {pc : Nat} {ls : Array Slot} {st0 rest : List Value}
theorem vx_calle {ad : Nat → Nat} {S SX : Type} {post : Option Nat → S → Prop} {px : SX → Prop} {B : S → State → Prop} {BX : String → SX → State → Prop} {AX : Nat → Prop} (hr : vx_Run p l e R s m args below meth c H locs cells slots mc ms (F0 m pc ls st0) rest (va_Qe ad post B A1 a) (vx_X px BX AX) free) (hS : va_S A0 H0 H locs) (hA : ∀ q, q < H.size → A1 q → A0 q) (hf : ∀ q, free q → A0 q) (hAX : ∀ q, q < H.size → AX q → A0 q)
    (kx : ∀ (E : String) (ce : Cell) (q9 : Addr) (u : SX) (t : State) (H1 : Heap) (locs1 : List Loc), t.heap = H1 → s.vm.Alike t.vm → px u → BX E u t → H.size ≤ H1.size → (∀ q : Nat, q < H.size → ¬ AX q → H1[q]? = H[q]?) → va_S A0 H0 H1 locs1 → H1[q9]? = some ce → ce.vm = .none → s.vm.findClass E = some ce.cls → vx_W p l e R s m args below meth c H1 locs1 (cells + mc) (slots + ms) Q (F0 m pc ls rest) q9)
    (kk : ∀ (r : Option Nat) (u : S) (t : State) (H1 : Heap) (locs1 : List Loc), t.heap = H1 → s.vm.Alike t.vm → post r u → B u t → H.size ≤ H1.size → (∀ q : Nat, q < H.size → ¬ A1 q → H1[q]? = H[q]?) → va_S A0 H0 H1 locs1 → W p l e R s m args below meth c H1 locs1 (cells + mc) (slots + ms) Q (F0 m (pc + 3) ls (va_re ad r :: rest))) : W p l e R s m args below meth c H locs cells slots Q (F0 m pc ls st0) := by
  intro T hT X
  rcases hr T hT X with ⟨v, st₀, t, T', L, h0, X', hL, e1, e2, ⟨⟨r, u, hv, hp, hb⟩, hF⟩, st⟩ | ⟨q, st₀, t, T', L, E, ce, h0, X', hL, e1, e2, ⟨u, hp, hb, hF⟩, hce, hcv, hcl, st⟩
  · cases hv
    obtain ⟨k1, k2, k3⟩ := vx_keep h0 e1 hS hA hf hL hF
    obtain ⟨t2, a1, b1⟩ := kk r u t T'.heap (locs ++ L) e1.symm (by rw [← e2]; exact X'.warmed.alike) hp hb k1 k2 k3 T' rfl X'
    exact ⟨t2, st t2 a1, b1⟩
  · obtain ⟨k1, k2, k3⟩ := vx_keep h0 e1 hS hAX hf hL hF
    obtain ⟨t2, a1, b1⟩ := kx E ce q u t T'.heap (locs ++ L) e1.symm (by rw [← e2]; exact X'.warmed.alike) hp hb k1 k2 k3 (by rw [e1]; exact hce) hcv hcl T' rfl X'
    exact ⟨t2, st.trans a1, b1⟩
end
/-! ===== END ===== -/
/-! ===== BEGIN .. by an interface, an object ===== -/
section
variable {p : Program} {l : Launch} {e : Env} {R : Room} {s : State} {m : MethodId} {args : Array Value} {below : List Frame} {meth : Method} {c : Code} {H : Heap} {locs : List Loc} {cells slots : Nat} {Q : State → Prop}
variable {mc ms : Nat} {free : Addr → Prop} {A0 A1 : Nat → Prop} {H0 : Heap} {a : Array Value} {pc : Nat} {ls : Array Slot} {st0 rest : List Value}
theorem vx_callFq {S SX : Type} {post : Option Nat → S → Prop} {px : SX → Prop} {B : S → State → Prop} {BX : String → SX → State → Prop} {AX : Nat → Prop} (hr : vx_Run5 p l e R s m args below meth c H locs cells slots mc ms (F0 m pc ls st0) rest (va_Qq post B A1 a) (vx_X px BX AX) free) (hS : va_S A0 H0 H locs) (hA : ∀ q, q < H.size → A1 q → A0 q) (hf : ∀ q, free q → A0 q) (hAX : ∀ q, q < H.size → AX q → A0 q)
    (kx : ∀ (E : String) (ce : Cell) (q9 : Addr) (u : SX) (t : State) (H1 : Heap) (locs1 : List Loc), t.heap = H1 → s.vm.Alike t.vm → px u → BX E u t → H.size ≤ H1.size → (∀ q : Nat, q < H.size → ¬ AX q → H1[q]? = H[q]?) → va_S A0 H0 H1 locs1 → H1[q9]? = some ce → ce.vm = .none → s.vm.findClass E = some ce.cls → vx_W p l e R s m args below meth c H1 locs1 (cells + mc) (slots + ms) Q (F0 m pc ls rest) q9)
    (kk : ∀ (r : Option Nat) (u : S) (t : State) (H1 : Heap) (locs1 : List Loc), t.heap = H1 → s.vm.Alike t.vm → post r u → B u t → H.size ≤ H1.size → (∀ q : Nat, q < H.size → ¬ A1 q → H1[q]? = H[q]?) → va_S A0 H0 H1 locs1 → W p l e R s m args below meth c H1 locs1 (cells + mc) (slots + ms) Q (F0 m (pc + 5) ls (va_rf r :: rest))) : W p l e R s m args below meth c H locs cells slots Q (F0 m pc ls st0) := by
  intro T hT X
  rcases hr T hT X with ⟨v, st₀, t, T', L, h0, X', hL, e1, e2, ⟨⟨r, u, hv, hp, hb⟩, hF⟩, st⟩ | ⟨q, st₀, t, T', L, E, ce, h0, X', hL, e1, e2, ⟨u, hp, hb, hF⟩, hce, hcv, hcl, st⟩
  · cases hv
    obtain ⟨k1, k2, k3⟩ := vx_keep h0 e1 hS hA hf hL hF
    obtain ⟨t2, a1, b1⟩ := kk r u t T'.heap (locs ++ L) e1.symm (by rw [← e2]; exact X'.warmed.alike) hp hb k1 k2 k3 T' rfl X'
    exact ⟨t2, st t2 a1, b1⟩
  · obtain ⟨k1, k2, k3⟩ := vx_keep h0 e1 hS hAX hf hL hF
    obtain ⟨t2, a1, b1⟩ := kx E ce q u t T'.heap (locs ++ L) e1.symm (by rw [← e2]; exact X'.warmed.alike) hp hb k1 k2 k3 (by rw [e1]; exact hce) hcv hcl T' rfl X'
    exact ⟨t2, st.trans a1, b1⟩
end
/-! ===== END ===== -/
/-! ===== BEGIN .. by an interface, a constant ===== -/
section
variable {p : Program} {l : Launch} {e : Env} {R : Room} {s : State} {m : MethodId} {args : Array Value} {below : List Frame} {meth : Method} {c : Code} {H : Heap} {locs : List Loc} {cells slots : Nat} {Q : State → Prop}
variable {mc ms : Nat} {free : Addr → Prop} {A0 A1 : Nat → Prop} {H0 : Heap} {a : Array Value} {pc : Nat} {ls : Array Slot} {st0 rest : List Value}
theorem vx_callFe {ad : Nat → Nat} {S SX : Type} {post : Option Nat → S → Prop} {px : SX → Prop} {B : S → State → Prop} {BX : String → SX → State → Prop} {AX : Nat → Prop} (hr : vx_Run5 p l e R s m args below meth c H locs cells slots mc ms (F0 m pc ls st0) rest (va_Qe ad post B A1 a) (vx_X px BX AX) free) (hS : va_S A0 H0 H locs) (hA : ∀ q, q < H.size → A1 q → A0 q) (hf : ∀ q, free q → A0 q) (hAX : ∀ q, q < H.size → AX q → A0 q)
    (kx : ∀ (E : String) (ce : Cell) (q9 : Addr) (u : SX) (t : State) (H1 : Heap) (locs1 : List Loc), t.heap = H1 → s.vm.Alike t.vm → px u → BX E u t → H.size ≤ H1.size → (∀ q : Nat, q < H.size → ¬ AX q → H1[q]? = H[q]?) → va_S A0 H0 H1 locs1 → H1[q9]? = some ce → ce.vm = .none → s.vm.findClass E = some ce.cls → vx_W p l e R s m args below meth c H1 locs1 (cells + mc) (slots + ms) Q (F0 m pc ls rest) q9)
    (kk : ∀ (r : Option Nat) (u : S) (t : State) (H1 : Heap) (locs1 : List Loc), t.heap = H1 → s.vm.Alike t.vm → post r u → B u t → H.size ≤ H1.size → (∀ q : Nat, q < H.size → ¬ A1 q → H1[q]? = H[q]?) → va_S A0 H0 H1 locs1 → W p l e R s m args below meth c H1 locs1 (cells + mc) (slots + ms) Q (F0 m (pc + 5) ls (va_re ad r :: rest))) : W p l e R s m args below meth c H locs cells slots Q (F0 m pc ls st0) := by
  intro T hT X
  rcases hr T hT X with ⟨v, st₀, t, T', L, h0, X', hL, e1, e2, ⟨⟨r, u, hv, hp, hb⟩, hF⟩, st⟩ | ⟨q, st₀, t, T', L, E, ce, h0, X', hL, e1, e2, ⟨u, hp, hb, hF⟩, hce, hcv, hcl, st⟩
  · cases hv
    obtain ⟨k1, k2, k3⟩ := vx_keep h0 e1 hS hA hf hL hF
    obtain ⟨t2, a1, b1⟩ := kk r u t T'.heap (locs ++ L) e1.symm (by rw [← e2]; exact X'.warmed.alike) hp hb k1 k2 k3 T' rfl X'
    exact ⟨t2, st t2 a1, b1⟩
  · obtain ⟨k1, k2, k3⟩ := vx_keep h0 e1 hS hAX hf hL hF
    obtain ⟨t2, a1, b1⟩ := kx E ce q u t T'.heap (locs ++ L) e1.symm (by rw [← e2]; exact X'.warmed.alike) hp hb k1 k2 k3 (by rw [e1]; exact hce) hcv hcl T' rfl X'
    exact ⟨t2, st.trans a1, b1⟩
end
/-! ===== END ===== -/
/-! ===== BEGIN what the machine throws by itself: null at a field, at athrow ===== -/
section VXM2
variable {p : Program} {l : Launch} {e : Env} {R : Room} {s : State} {m : MethodId} {args : Array Value} {below : List Frame} {meth : Method} {c : Code} {H : Heap} {locs : List Loc} {cells slots : Nat}
variable {Q : State → Prop} {cc : ByteArray} {pc : Nat} {ls : Array Slot} {rest : List Value}
theorem vx_getfN {D cl tys} {own ref C : String} {T : u_T} {N ci index : Nat} {Ts : List Cond} (hexec : p.tables.exec = Jvm.exec) (hb : c.code = cc) (hts : ∀ w ∈ Ts, w.before args s = true) (hin : ∀ w ∈ u_ws C T N, w ∈ Ts) (hown : s.vm.findClass own = some m.cls) (hK : va_K D cl tys s) (hc : cl[ci]? = some (C, T, N)) (k : Nat) (hk : k < N) (hlink : (Cond.fieldLink own index ref (T k).2.1 (T k).2.2.1).before args s = true) (hsame : ∀ x, s.fieldFound? (T k).1 (T k).2.1 (T k).2.2.1 = some x → s.fieldFound? ref (T k).2.1 (T k).2.2.1 = some x) (hdg : decode cc pc = .ok (.getfield index, 3)) (kk : vx_NoteN p l e R s m args below meth c H locs cells slots Q (F0 m pc ls rest)) : W p l e R s m args below meth c H locs cells slots Q (F0 m pc ls (.null :: rest)) := by
  obtain ⟨hS, hfc, kC, hkC, -⟩ := hK.1 ci _ hc
  obtain ⟨cf, kf, fi, f, hi, -⟩ := hS k hk
  intro U hU X
  obtain ⟨vm', X1, st1⟩ := X.getfieldNull hexec hown hlink (hsame _ hi) (u_facts hfc hkC (u_lays hts hin hk) hi).1 (g := F0 m pc ls (.null :: rest)) rfl (rest := rest) rfl (by rw [hb]; exact hdg)
  obtain ⟨t, st, q⟩ := kk (U.setVm vm') hU X1
  exact ⟨t, st1 t st, q⟩
theorem vx_getfNN {D cl tys} {own ref C host : String} {T : u_T} {N ci index : Nat} {Ts : List Cond} (hexec : p.tables.exec = Jvm.exec) (hb : c.code = cc) (hts : ∀ w ∈ Ts, w.before args s = true) (hin : ∀ w ∈ u_ws C T N, w ∈ Ts) (hown : s.vm.findClass own = some m.cls) (hK : va_K D cl tys s) (hc : cl[ci]? = some (C, T, N)) (k : Nat) (hk : k < N) (hlink : (Cond.fieldLinkNest own index ref (T k).2.1 (T k).2.2.1 host).before args s = true) (hsame : ∀ x, s.fieldFound? (T k).1 (T k).2.1 (T k).2.2.1 = some x → s.fieldFound? ref (T k).2.1 (T k).2.2.1 = some x) (hdg : decode cc pc = .ok (.getfield index, 3)) (kk : vx_NoteN p l e R s m args below meth c H locs cells slots Q (F0 m pc ls rest)) : W p l e R s m args below meth c H locs cells slots Q (F0 m pc ls (.null :: rest)) := by
  obtain ⟨hS, hfc, kC, hkC, -⟩ := hK.1 ci _ hc
  obtain ⟨cf, kf, fi, f, hi, -⟩ := hS k hk
  intro U hU X
  obtain ⟨vm', X1, st1⟩ := X.getfieldNullNest hexec hown hlink (hsame _ hi) (u_facts hfc hkC (u_lays hts hin hk) hi).1 (g := F0 m pc ls (.null :: rest)) rfl (rest := rest) rfl (by rw [hb]; exact hdg)
  obtain ⟨t, st, q⟩ := kk (U.setVm vm') hU X1
  exact ⟨t, st1 t st, q⟩
theorem vx_putfN {D cl tys} {own ref C : String} {T : u_T} {N ci index : Nat} {Ts : List Cond} (hexec : p.tables.exec = Jvm.exec) (hb : c.code = cc) (hts : ∀ w ∈ Ts, w.before args s = true) (hin : ∀ w ∈ u_ws C T N, w ∈ Ts) (hown : s.vm.findClass own = some m.cls) (hK : va_K D cl tys s) (hc : cl[ci]? = some (C, T, N)) (k : Nat) (hk : k < N) (hlink : (Cond.fieldLink own index ref (T k).2.1 (T k).2.2.1).before args s = true) (hsame : ∀ x, s.fieldFound? (T k).1 (T k).2.1 (T k).2.2.1 = some x → s.fieldFound? ref (T k).2.1 (T k).2.2.1 = some x) (hfin : (T k).2.2.2 = false) {v : Value} (hdg : decode cc pc = .ok (.putfield index, 3)) (kk : vx_NoteN p l e R s m args below meth c H locs cells slots Q (F0 m pc ls rest)) : W p l e R s m args below meth c H locs cells slots Q (F0 m pc ls (v :: .null :: rest)) := by
  obtain ⟨hS, hfc, kC, hkC, -⟩ := hK.1 ci _ hc
  obtain ⟨cf, kf, fi, f, hi, -⟩ := hS k hk
  have hlay := hts _ (hin _ (u_in_lay hk))
  unfold u_lay at hlay
  rw [if_neg (by rw [hfin]; decide)] at hlay
  obtain ⟨c9, k9, cf9, kf9, fi9, f9, -, -, hi9, hst9, hnf9, -⟩ := Cond.lays_spec hlay
  cases hi.symm.trans hi9
  intro U hU X
  obtain ⟨vm', X1, st1⟩ := X.putfieldNull hexec hown hlink (hsame _ hi) hst9 hnf9 (g := F0 m pc ls (v :: .null :: rest)) rfl (v := v) (rest := rest) rfl (by rw [hb]; exact hdg)
  obtain ⟨t, st, q⟩ := kk (U.setVm vm') hU X1
  exact ⟨t, st1 t st, q⟩
theorem vx_putfNN {D cl tys} {own ref C host : String} {T : u_T} {N ci index : Nat} {Ts : List Cond} (hexec : p.tables.exec = Jvm.exec) (hb : c.code = cc) (hts : ∀ w ∈ Ts, w.before args s = true) (hin : ∀ w ∈ u_ws C T N, w ∈ Ts) (hown : s.vm.findClass own = some m.cls) (hK : va_K D cl tys s) (hc : cl[ci]? = some (C, T, N)) (k : Nat) (hk : k < N) (hlink : (Cond.fieldLinkNest own index ref (T k).2.1 (T k).2.2.1 host).before args s = true) (hsame : ∀ x, s.fieldFound? (T k).1 (T k).2.1 (T k).2.2.1 = some x → s.fieldFound? ref (T k).2.1 (T k).2.2.1 = some x) (hfin : (T k).2.2.2 = false) {v : Value} (hdg : decode cc pc = .ok (.putfield index, 3)) (kk : vx_NoteN p l e R s m args below meth c H locs cells slots Q (F0 m pc ls rest)) : W p l e R s m args below meth c H locs cells slots Q (F0 m pc ls (v :: .null :: rest)) := by
  obtain ⟨hS, hfc, kC, hkC, -⟩ := hK.1 ci _ hc
  obtain ⟨cf, kf, fi, f, hi, -⟩ := hS k hk
  have hlay := hts _ (hin _ (u_in_lay hk))
  unfold u_lay at hlay
  rw [if_neg (by rw [hfin]; decide)] at hlay
  obtain ⟨c9, k9, cf9, kf9, fi9, f9, -, -, hi9, hst9, hnf9, -⟩ := Cond.lays_spec hlay
  cases hi.symm.trans hi9
  intro U hU X
  obtain ⟨vm', X1, st1⟩ := X.putfieldNullNest hexec hown hlink (hsame _ hi) hst9 hnf9 (g := F0 m pc ls (v :: .null :: rest)) rfl (v := v) (rest := rest) rfl (by rw [hb]; exact hdg)
  obtain ⟨t, st, q⟩ := kk (U.setVm vm') hU X1
  exact ⟨t, st1 t st, q⟩
theorem vx_athrowN (hexec : p.tables.exec = Jvm.exec) (hb : c.code = cc) (hdg : decode cc pc = .ok (.athrow, 1)) (k : vx_NoteN p l e R s m args below meth c H locs cells slots Q (F0 m pc ls rest)) : W p l e R s m args below meth c H locs cells slots Q (F0 m pc ls (.null :: rest)) := by
  intro T hT X
  obtain ⟨t, st, q⟩ := k T hT X
  exact ⟨t, X.athrowNull hexec (g := F0 m pc ls (.null :: rest)) rfl (rest := rest) rfl (by rw [hb]; exact hdg) t st, q⟩
end VXM2
/-! ===== END ===== -/

-- ===== PART A: goes FIRST, ahead of the names: the tables' words, and 'selects' of the private methods out of them =====
/-- a private method of a class that the tables say can be made, by its rows of tables_1 -/
def lw_okq (q : MethodName × Nat) : Prop := (q.1.cls ≠ "java/lang/invoke/MethodHandle" ∧ q.1.cls ≠ "java/lang/invoke/VarHandle") ∧ Cond.instantiable q.1.cls q.2 ∈ tables_1 ∧ Cond.privateMethod q.1 ∈ tables_1 ∧ Cond.instanceMethod q.1 ∈ tables_1
theorem lw_p0 : lw_okq (⟨"Scrubward$Code", "makeDataColumns", "()V"⟩, 5) := ⟨⟨by decide +kernel, by decide +kernel⟩, List.mem_of_getElem? (i := 23) (by decide +kernel), List.mem_of_getElem? (i := 183) (by decide +kernel), List.mem_of_getElem? (i := 184) (by decide +kernel)⟩
theorem lw_p1 : lw_okq (⟨"Scrubward$Memory", "asStuck", "(II)I"⟩, 12) := ⟨⟨by decide +kernel, by decide +kernel⟩, List.mem_of_getElem? (i := 60) (by decide +kernel), List.mem_of_getElem? (i := 225) (by decide +kernel), List.mem_of_getElem? (i := 226) (by decide +kernel)⟩
theorem lw_p2 : lw_okq (⟨"java/lang/Throwable", "fillInStackTrace", "(I)Ljava/lang/Throwable;"⟩, 6) := ⟨⟨by decide +kernel, by decide +kernel⟩, List.mem_of_getElem? (i := 313) (by decide +kernel), List.mem_of_getElem? (i := 311) (by decide +kernel), List.mem_of_getElem? (i := 312) (by decide +kernel)⟩
theorem lw_p3 : lw_okq (⟨"Scrubward", "checkData", "(I)V"⟩, 12) := ⟨⟨by decide +kernel, by decide +kernel⟩, List.mem_of_getElem? (i := 15) (by decide +kernel), List.mem_of_getElem? (i := 343) (by decide +kernel), List.mem_of_getElem? (i := 344) (by decide +kernel)⟩
theorem lw_p4 : lw_okq (⟨"Scrubward", "checkNotRetired", "(I)V"⟩, 12) := ⟨⟨by decide +kernel, by decide +kernel⟩, List.mem_of_getElem? (i := 15) (by decide +kernel), List.mem_of_getElem? (i := 367) (by decide +kernel), List.mem_of_getElem? (i := 368) (by decide +kernel)⟩
theorem lw_p5 : lw_okq (⟨"Scrubward", "isRetired", "(I)Z"⟩, 12) := ⟨⟨by decide +kernel, by decide +kernel⟩, List.mem_of_getElem? (i := 15) (by decide +kernel), List.mem_of_getElem? (i := 371) (by decide +kernel), List.mem_of_getElem? (i := 372) (by decide +kernel)⟩
theorem lw_p6 : lw_okq (⟨"Scrubward", "store", "(II)V"⟩, 12) := ⟨⟨by decide +kernel, by decide +kernel⟩, List.mem_of_getElem? (i := 15) (by decide +kernel), List.mem_of_getElem? (i := 392) (by decide +kernel), List.mem_of_getElem? (i := 393) (by decide +kernel)⟩
theorem lw_p7 : lw_okq (⟨"Scrubward", "lineAt", "(I)I"⟩, 12) := ⟨⟨by decide +kernel, by decide +kernel⟩, List.mem_of_getElem? (i := 15) (by decide +kernel), List.mem_of_getElem? (i := 396) (by decide +kernel), List.mem_of_getElem? (i := 397) (by decide +kernel)⟩
theorem lw_p8 : lw_okq (⟨"Scrubward$Memory", "turnDrawnBit", "(I)V"⟩, 12) := ⟨⟨by decide +kernel, by decide +kernel⟩, List.mem_of_getElem? (i := 60) (by decide +kernel), List.mem_of_getElem? (i := 404) (by decide +kernel), List.mem_of_getElem? (i := 405) (by decide +kernel)⟩
theorem lw_p9 : lw_okq (⟨"Scrubward$Memory", "draw", "()I"⟩, 12) := ⟨⟨by decide +kernel, by decide +kernel⟩, List.mem_of_getElem? (i := 60) (by decide +kernel), List.mem_of_getElem? (i := 408) (by decide +kernel), List.mem_of_getElem? (i := 409) (by decide +kernel)⟩
theorem lw_p10 : lw_okq (⟨"Scrubward", "replace", "(II)V"⟩, 12) := ⟨⟨by decide +kernel, by decide +kernel⟩, List.mem_of_getElem? (i := 15) (by decide +kernel), List.mem_of_getElem? (i := 412) (by decide +kernel), List.mem_of_getElem? (i := 413) (by decide +kernel)⟩
theorem lw_p11 : lw_okq (⟨"Scrubward", "cellAt", "(I)I"⟩, 12) := ⟨⟨by decide +kernel, by decide +kernel⟩, List.mem_of_getElem? (i := 15) (by decide +kernel), List.mem_of_getElem? (i := 416) (by decide +kernel), List.mem_of_getElem? (i := 417) (by decide +kernel)⟩
theorem lw_p12 : lw_okq (⟨"Scrubward", "wordAt", "(I)I"⟩, 12) := ⟨⟨by decide +kernel, by decide +kernel⟩, List.mem_of_getElem? (i := 15) (by decide +kernel), List.mem_of_getElem? (i := 432) (by decide +kernel), List.mem_of_getElem? (i := 433) (by decide +kernel)⟩
theorem lw_p13 : lw_okq (⟨"Scrubward", "dataAt", "(I)I"⟩, 12) := ⟨⟨by decide +kernel, by decide +kernel⟩, List.mem_of_getElem? (i := 15) (by decide +kernel), List.mem_of_getElem? (i := 440) (by decide +kernel), List.mem_of_getElem? (i := 441) (by decide +kernel)⟩
theorem lw_p14 : lw_okq (⟨"Scrubward", "isPoisoned", "(I)Z"⟩, 12) := ⟨⟨by decide +kernel, by decide +kernel⟩, List.mem_of_getElem? (i := 15) (by decide +kernel), List.mem_of_getElem? (i := 444) (by decide +kernel), List.mem_of_getElem? (i := 445) (by decide +kernel)⟩
theorem lw_p15 : lw_okq (⟨"Scrubward", "report", "(IZ)V"⟩, 12) := ⟨⟨by decide +kernel, by decide +kernel⟩, List.mem_of_getElem? (i := 15) (by decide +kernel), List.mem_of_getElem? (i := 457) (by decide +kernel), List.mem_of_getElem? (i := 458) (by decide +kernel)⟩
def lw_privs_1 : List (MethodName × Nat) := [(⟨"Scrubward$Code", "makeDataColumns", "()V"⟩, 5), (⟨"Scrubward$Memory", "asStuck", "(II)I"⟩, 12), (⟨"java/lang/Throwable", "fillInStackTrace", "(I)Ljava/lang/Throwable;"⟩, 6), (⟨"Scrubward", "checkData", "(I)V"⟩, 12), (⟨"Scrubward", "checkNotRetired", "(I)V"⟩, 12), (⟨"Scrubward", "isRetired", "(I)Z"⟩, 12), (⟨"Scrubward", "store", "(II)V"⟩, 12), (⟨"Scrubward", "lineAt", "(I)I"⟩, 12), (⟨"Scrubward$Memory", "turnDrawnBit", "(I)V"⟩, 12), (⟨"Scrubward$Memory", "draw", "()I"⟩, 12), (⟨"Scrubward", "replace", "(II)V"⟩, 12), (⟨"Scrubward", "cellAt", "(I)I"⟩, 12), (⟨"Scrubward", "wordAt", "(I)I"⟩, 12), (⟨"Scrubward", "dataAt", "(I)I"⟩, 12), (⟨"Scrubward", "isPoisoned", "(I)Z"⟩, 12), (⟨"Scrubward", "report", "(IZ)V"⟩, 12)]
theorem lw_r1 : ∀ q ∈ lw_privs_1, lw_okq q := List.forall_mem_cons.mpr ⟨lw_p0, List.forall_mem_cons.mpr ⟨lw_p1, List.forall_mem_cons.mpr ⟨lw_p2, List.forall_mem_cons.mpr ⟨lw_p3, List.forall_mem_cons.mpr ⟨lw_p4, List.forall_mem_cons.mpr ⟨lw_p5, List.forall_mem_cons.mpr ⟨lw_p6, List.forall_mem_cons.mpr ⟨lw_p7, List.forall_mem_cons.mpr ⟨lw_p8, List.forall_mem_cons.mpr ⟨lw_p9, List.forall_mem_cons.mpr ⟨lw_p10, List.forall_mem_cons.mpr ⟨lw_p11, List.forall_mem_cons.mpr ⟨lw_p12, List.forall_mem_cons.mpr ⟨lw_p13, List.forall_mem_cons.mpr ⟨lw_p14, List.forall_mem_cons.mpr ⟨lw_p15, fun _ h => absurd h List.not_mem_nil⟩⟩⟩⟩⟩⟩⟩⟩⟩⟩⟩⟩⟩⟩⟩⟩
theorem lw_p16 : lw_okq (⟨"Scrubward", "readTwin", "(I)I"⟩, 12) := ⟨⟨by decide +kernel, by decide +kernel⟩, List.mem_of_getElem? (i := 15) (by decide +kernel), List.mem_of_getElem? (i := 470) (by decide +kernel), List.mem_of_getElem? (i := 471) (by decide +kernel)⟩
theorem lw_p17 : lw_okq (⟨"Scrubward$Memory", "isRefreshedAt", "(I)Z"⟩, 12) := ⟨⟨by decide +kernel, by decide +kernel⟩, List.mem_of_getElem? (i := 60) (by decide +kernel), List.mem_of_getElem? (i := 537) (by decide +kernel), List.mem_of_getElem? (i := 538) (by decide +kernel)⟩
theorem lw_p18 : lw_okq (⟨"Scrubward", "scrubSteps", "()V"⟩, 12) := ⟨⟨by decide +kernel, by decide +kernel⟩, List.mem_of_getElem? (i := 15) (by decide +kernel), List.mem_of_getElem? (i := 541) (by decide +kernel), List.mem_of_getElem? (i := 542) (by decide +kernel)⟩
theorem lw_p19 : lw_okq (⟨"Scrubward", "uncleanIn", "(I)I"⟩, 12) := ⟨⟨by decide +kernel, by decide +kernel⟩, List.mem_of_getElem? (i := 15) (by decide +kernel), List.mem_of_getElem? (i := 562) (by decide +kernel), List.mem_of_getElem? (i := 563) (by decide +kernel)⟩
theorem lw_p20 : lw_okq (⟨"Scrubward", "stuckIn", "(I)I"⟩, 12) := ⟨⟨by decide +kernel, by decide +kernel⟩, List.mem_of_getElem? (i := 15) (by decide +kernel), List.mem_of_getElem? (i := 570) (by decide +kernel), List.mem_of_getElem? (i := 571) (by decide +kernel)⟩
theorem lw_p21 : lw_okq (⟨"Scrubward$Memory", "isLeakable", "(II)Z"⟩, 12) := ⟨⟨by decide +kernel, by decide +kernel⟩, List.mem_of_getElem? (i := 60) (by decide +kernel), List.mem_of_getElem? (i := 586) (by decide +kernel), List.mem_of_getElem? (i := 587) (by decide +kernel)⟩
theorem lw_p22 : lw_okq (⟨"Scrubward$Memory", "isOverWithin", "(II)Z"⟩, 12) := ⟨⟨by decide +kernel, by decide +kernel⟩, List.mem_of_getElem? (i := 60) (by decide +kernel), List.mem_of_getElem? (i := 590) (by decide +kernel), List.mem_of_getElem? (i := 591) (by decide +kernel)⟩
theorem lw_p23 : lw_okq (⟨"Scrubward", "rowsHaveOwnLines", "()Z"⟩, 12) := ⟨⟨by decide +kernel, by decide +kernel⟩, List.mem_of_getElem? (i := 15) (by decide +kernel), List.mem_of_getElem? (i := 610) (by decide +kernel), List.mem_of_getElem? (i := 611) (by decide +kernel)⟩
theorem lw_p24 : lw_okq (⟨"Scrubward", "rowOn", "(II)I"⟩, 12) := ⟨⟨by decide +kernel, by decide +kernel⟩, List.mem_of_getElem? (i := 15) (by decide +kernel), List.mem_of_getElem? (i := 614) (by decide +kernel), List.mem_of_getElem? (i := 615) (by decide +kernel)⟩
theorem lw_p25 : lw_okq (⟨"Scrubward$Code", "oneIfMended", "(I)I"⟩, 5) := ⟨⟨by decide +kernel, by decide +kernel⟩, List.mem_of_getElem? (i := 23) (by decide +kernel), List.mem_of_getElem? (i := 641) (by decide +kernel), List.mem_of_getElem? (i := 642) (by decide +kernel)⟩
theorem lw_p26 : lw_okq (⟨"Scrubward$Code", "thirdBits", "(II)I"⟩, 5) := ⟨⟨by decide +kernel, by decide +kernel⟩, List.mem_of_getElem? (i := 23) (by decide +kernel), List.mem_of_getElem? (i := 645) (by decide +kernel), List.mem_of_getElem? (i := 646) (by decide +kernel)⟩
theorem lw_p27 : lw_okq (⟨"Scrubward", "mixBank", "(JI)J"⟩, 12) := ⟨⟨by decide +kernel, by decide +kernel⟩, List.mem_of_getElem? (i := 15) (by decide +kernel), List.mem_of_getElem? (i := 649) (by decide +kernel), List.mem_of_getElem? (i := 650) (by decide +kernel)⟩
theorem lw_p28 : lw_okq (⟨"Scrubward$Log", "guiltyCell", "(I)I"⟩, 6) := ⟨⟨by decide +kernel, by decide +kernel⟩, List.mem_of_getElem? (i := 140) (by decide +kernel), List.mem_of_getElem? (i := 661) (by decide +kernel), List.mem_of_getElem? (i := 662) (by decide +kernel)⟩
theorem lw_p29 : lw_okq (⟨"Scrubward$Log", "isMendedIn", "(II)Z"⟩, 6) := ⟨⟨by decide +kernel, by decide +kernel⟩, List.mem_of_getElem? (i := 140) (by decide +kernel), List.mem_of_getElem? (i := 666) (by decide +kernel), List.mem_of_getElem? (i := 667) (by decide +kernel)⟩
theorem lw_p30 : lw_okq (⟨"Scrubward$Log", "isToldAgain", "(I)Z"⟩, 6) := ⟨⟨by decide +kernel, by decide +kernel⟩, List.mem_of_getElem? (i := 140) (by decide +kernel), List.mem_of_getElem? (i := 670) (by decide +kernel), List.mem_of_getElem? (i := 671) (by decide +kernel)⟩
theorem lw_p31 : lw_okq (⟨"Scrubward$Log", "isGuilty", "(III)Z"⟩, 6) := ⟨⟨by decide +kernel, by decide +kernel⟩, List.mem_of_getElem? (i := 140) (by decide +kernel), List.mem_of_getElem? (i := 674) (by decide +kernel), List.mem_of_getElem? (i := 675) (by decide +kernel)⟩
def lw_privs_2 : List (MethodName × Nat) := [(⟨"Scrubward", "readTwin", "(I)I"⟩, 12), (⟨"Scrubward$Memory", "isRefreshedAt", "(I)Z"⟩, 12), (⟨"Scrubward", "scrubSteps", "()V"⟩, 12), (⟨"Scrubward", "uncleanIn", "(I)I"⟩, 12), (⟨"Scrubward", "stuckIn", "(I)I"⟩, 12), (⟨"Scrubward$Memory", "isLeakable", "(II)Z"⟩, 12), (⟨"Scrubward$Memory", "isOverWithin", "(II)Z"⟩, 12), (⟨"Scrubward", "rowsHaveOwnLines", "()Z"⟩, 12), (⟨"Scrubward", "rowOn", "(II)I"⟩, 12), (⟨"Scrubward$Code", "oneIfMended", "(I)I"⟩, 5), (⟨"Scrubward$Code", "thirdBits", "(II)I"⟩, 5), (⟨"Scrubward", "mixBank", "(JI)J"⟩, 12), (⟨"Scrubward$Log", "guiltyCell", "(I)I"⟩, 6), (⟨"Scrubward$Log", "isMendedIn", "(II)Z"⟩, 6), (⟨"Scrubward$Log", "isToldAgain", "(I)Z"⟩, 6), (⟨"Scrubward$Log", "isGuilty", "(III)Z"⟩, 6)]
theorem lw_r2 : ∀ q ∈ lw_privs_2, lw_okq q := List.forall_mem_cons.mpr ⟨lw_p16, List.forall_mem_cons.mpr ⟨lw_p17, List.forall_mem_cons.mpr ⟨lw_p18, List.forall_mem_cons.mpr ⟨lw_p19, List.forall_mem_cons.mpr ⟨lw_p20, List.forall_mem_cons.mpr ⟨lw_p21, List.forall_mem_cons.mpr ⟨lw_p22, List.forall_mem_cons.mpr ⟨lw_p23, List.forall_mem_cons.mpr ⟨lw_p24, List.forall_mem_cons.mpr ⟨lw_p25, List.forall_mem_cons.mpr ⟨lw_p26, List.forall_mem_cons.mpr ⟨lw_p27, List.forall_mem_cons.mpr ⟨lw_p28, List.forall_mem_cons.mpr ⟨lw_p29, List.forall_mem_cons.mpr ⟨lw_p30, List.forall_mem_cons.mpr ⟨lw_p31, fun _ h => absurd h List.not_mem_nil⟩⟩⟩⟩⟩⟩⟩⟩⟩⟩⟩⟩⟩⟩⟩⟩
def lw_privs : List (MethodName × Nat) := lw_privs_1 ++ (lw_privs_2)
def lw_tbl : List Cond := k2_sels lw_privs ++ tables_1
theorem lw_privs_ok : ∀ q ∈ lw_privs, lw_okq q := by
  show ∀ q ∈ lw_privs_1 ++ (lw_privs_2), lw_okq q
  exact List.forall_mem_append.mpr ⟨lw_r1, lw_r2⟩
/-- the streams that the claim lets the run draw from -/
abbrev lw_cs : List Choice := [Jvm.Choice.named "NaN.bits"]
theorem lw_bits : nanBits ∈ lw_cs := by first | decide | exact List.mem_cons_self | simp [lw_cs, nanBits]
-- ===== end of PART A; then your names; then what follows =====
end
section
/-! The tables: written by a program (wip/gen) out of the claim's own texts. -/
def zdf (k : Nat) : Value := match k with
  | 3 => .long 0
  | 4 => .double 0
  | 5 => .null
  | _ => .int 0
/-- a word that follows from the tables: a private method is selected whatever the object's class -/
def zN3 : List Jvm.Cond := []
def zB : List Jvm.Cond := lw_tbl.filter goodWord ++ zN3
theorem zb {w : Jvm.Cond} (i : Nat) (h : lw_tbl[i]? = some w) (g : goodWord w = true) : w ∈ zB := List.mem_append_left _ (List.mem_filter.mpr ⟨List.mem_of_getElem? h, g⟩)
theorem zB_gw {w : Jvm.Cond} (h : w ∈ zB) : goodWord w = true := (List.mem_append.mp h).elim (fun h => (List.mem_filter.mp h).2) (fun h => List.all_eq_true.mp (show zN3.all goodWord = true by decide +kernel) w h)
def zon (o : Nat) : String := ["Scrubward$Code", "Scrubward$Faults", "Scrubward$Ints", "Scrubward$Log", "Scrubward$Memory", "Scrubward", "ScrubwardLaw", "java/lang/Integer"].getD o ""
def zcn (c : Nat) : String := ["Scrubward$Code", "Scrubward$Faults", "Scrubward$Ints", "Scrubward$Log", "Scrubward$Memory", "Scrubward"].getD c ""
def zFT (f : Nat) : String × String × String × Bool := [("Scrubward$Code", "columns", "LScrubward$Ints;", true), ("Scrubward$Code", "turns", "LScrubward$Ints;", true), ("Scrubward$Code", "dataBits", "I", false), ("Scrubward$Code", "checkBits", "I", false), ("Scrubward$Code", "width", "I", false), ("Scrubward$Faults", "cells", "LScrubward$Ints;", true), ("Scrubward$Faults", "masks", "LScrubward$Ints;", true), ("Scrubward$Faults", "values", "LScrubward$Ints;", true), ("Scrubward$Faults", "count", "I", false), ("Scrubward$Ints", "items", "[I", true), ("Scrubward$Log", "addresses", "LScrubward$Ints;", true), ("Scrubward$Log", "bits", "LScrubward$Ints;", true), ("Scrubward$Log", "ticks", "LScrubward$Ints;", true), ("Scrubward$Log", "count", "I", false), ("Scrubward$Log", "mendedEver", "I", false), ("Scrubward$Log", "badEver", "I", false), ("Scrubward$Memory", "words", "LScrubward$Ints;", true), ("Scrubward$Memory", "counts", "LScrubward$Ints;", true), ("Scrubward$Memory", "freshAt", "LScrubward$Ints;", true), ("Scrubward$Memory", "leaked", "LScrubward$Ints;", true), ("Scrubward$Memory", "stuck", "LScrubward$Faults;", true), ("Scrubward$Memory", "weak", "LScrubward$Faults;", true), ("Scrubward$Memory", "width", "I", false), ("Scrubward$Memory", "tick", "I", false), ("Scrubward$Memory", "period", "I", false), ("Scrubward$Memory", "limit", "I", false), ("Scrubward$Memory", "nextDrawn", "I", false), ("Scrubward$Memory", "drawnEver", "I", false), ("Scrubward", "coder", "LScrubward$Code;", true), ("Scrubward", "memory", "LScrubward$Memory;", true), ("Scrubward", "log", "LScrubward$Log;", true), ("Scrubward", "lineOfRow", "LScrubward$Ints;", true), ("Scrubward", "sparesUsed", "LScrubward$Ints;", true), ("Scrubward", "poisoned", "LScrubward$Ints;", true), ("Scrubward", "retired", "LScrubward$Ints;", true), ("Scrubward", "steps", "I", false), ("Scrubward", "demandOn", "Z", false), ("Scrubward", "mirrorOn", "Z", false), ("Scrubward", "patrolAt", "I", false), ("Scrubward", "refused", "I", false)].getD f ("", "", "", false)
def zcf (c : Nat) : List (Nat × Nat) := ([[(0, 5), (1, 5), (2, 0), (3, 0), (4, 0)], [(5, 5), (6, 5), (7, 5), (8, 0)], [(9, 5)], [(10, 5), (11, 5), (12, 5), (13, 0), (14, 0), (15, 0)], [(16, 5), (17, 5), (18, 5), (19, 5), (20, 5), (21, 5), (22, 0), (23, 0), (24, 0), (25, 0), (26, 0), (27, 0)], [(28, 5), (29, 5), (30, 5), (31, 5), (32, 5), (33, 5), (34, 5), (35, 0), (36, 1), (37, 1), (38, 0), (39, 0)]] : List (List (Nat × Nat))).getD c []
def zT (c : Nat) : u_T := fun k => zFT ((zcf c).getD k (0, 0)).1
def zcl : List vw_C := [(zcn 0, zT 0, 5), (zcn 1, zT 1, 4), (zcn 2, zT 2, 1), (zcn 3, zT 3, 6), (zcn 4, zT 4, 12), (zcn 5, zT 5, 12)]
def zmn (y : Nat) : MethodName := ([⟨"Scrubward$Code", "<init>", "()V"⟩, ⟨"Scrubward$Code", "words", "()I"⟩, ⟨"Scrubward$Code", "words", "()I"⟩, ⟨"Scrubward$Code", "make", "(II)V"⟩, ⟨"Scrubward$Code", "makeDataColumns", "()V"⟩, ⟨"Scrubward$Code", "words", "()I"⟩, ⟨"Scrubward$Code", "dataMask", "()I"⟩, ⟨"Scrubward$Code", "hasBit", "(I)Z"⟩, ⟨"Scrubward$Code", "syndromeOf", "(I)I"⟩, ⟨"Scrubward$Code", "turnOf", "(I)I"⟩, ⟨"Scrubward$Code", "isClean", "(I)Z"⟩, ⟨"Scrubward$Code", "verdictOf", "(I)I"⟩, ⟨"Scrubward$Code", "bitOf", "(I)I"⟩, ⟨"Scrubward$Code", "dataOf", "(I)I"⟩, ⟨"Scrubward$Code", "wordOf", "(I)I"⟩, ⟨"Scrubward$Code", "wronglyMended", "(I)I"⟩, ⟨"Scrubward$Code", "thirdBits", "(II)I"⟩, ⟨"Scrubward$Code", "oneIfMended", "(I)I"⟩, ⟨"Scrubward$Code", "isInOrder", "()Z"⟩, ⟨"Scrubward$Faults", "<init>", "()V"⟩, ⟨"Scrubward$Faults", "isFull", "()Z"⟩, ⟨"Scrubward$Faults", "add", "(III)V"⟩, ⟨"Scrubward$Faults", "keepBitsBelow", "(I)V"⟩, ⟨"Scrubward$Faults", "countIn", "(II)I"⟩, ⟨"Scrubward$Ints", "<init>", "(I)V"⟩, ⟨"Scrubward$Ints", "get", "(I)I"⟩, ⟨"Scrubward$Ints", "set", "(II)V"⟩, ⟨"Scrubward$Ints", "fill", "(I)V"⟩, ⟨"Scrubward$Ints", "sum", "()I"⟩, ⟨"Scrubward$Log", "<init>", "()V"⟩, ⟨"Scrubward$Code", "words", "()I"⟩, ⟨"Scrubward$Log", "add", "(III)V"⟩, ⟨"Scrubward$Log", "guiltyOf", "(II)I"⟩, ⟨"Scrubward$Log", "isGuilty", "(III)Z"⟩, ⟨"Scrubward$Log", "suspectOf", "(IIII)I"⟩, ⟨"Scrubward$Log", "guiltyCell", "(I)I"⟩, ⟨"Scrubward$Log", "isToldAgain", "(I)Z"⟩, ⟨"Scrubward$Log", "isMendedIn", "(II)Z"⟩, ⟨"Scrubward$Log", "isInOrder", "()Z"⟩, ⟨"Scrubward$Memory", "<init>", "()V"⟩, ⟨"Scrubward$Memory", "wipe", "(I)V"⟩, ⟨"Scrubward$Memory", "put", "(II)V"⟩, ⟨"Scrubward$Memory", "asStuck", "(II)I"⟩, ⟨"Scrubward$Memory", "open", "(I)V"⟩, ⟨"Scrubward$Memory", "turnDrawnBit", "(I)V"⟩, ⟨"Scrubward$Memory", "draw", "()I"⟩, ⟨"Scrubward$Memory", "beginTick", "()V"⟩, ⟨"Scrubward$Memory", "isRefreshedAt", "(I)Z"⟩, ⟨"Scrubward$Memory", "leaksWithin", "(I)I"⟩, ⟨"Scrubward$Memory", "isLeakable", "(II)Z"⟩, ⟨"Scrubward$Memory", "isOverWithin", "(II)Z"⟩, ⟨"Scrubward$Memory", "isInOrder", "()Z"⟩, ⟨"Scrubward", "<init>", "()V"⟩, ⟨"Scrubward$Code", "words", "()I"⟩, ⟨"Scrubward", "write", "(II)I"⟩, ⟨"Scrubward", "read", "(I)I"⟩, ⟨"Scrubward", "ray", "(II)I"⟩, ⟨"Scrubward", "stick", "(IIZ)I"⟩, ⟨"Scrubward", "weak", "(III)I"⟩, ⟨"Scrubward", "hammer", "(III)I"⟩, ⟨"Scrubward", "run", "(IIIZZ)I"⟩, ⟨"Scrubward$Code", "words", "()I"⟩, ⟨"Scrubward$Code", "words", "()I"⟩, ⟨"Scrubward", "pass", "(I)I"⟩, ⟨"Scrubward$Code", "words", "()I"⟩, ⟨"Scrubward$Code", "words", "()I"⟩, ⟨"Scrubward", "column", "(I)I"⟩, ⟨"Scrubward$Code", "words", "()I"⟩, ⟨"Scrubward$Code", "words", "()I"⟩, ⟨"Scrubward", "fooled", "(I)I"⟩, ⟨"Scrubward", "ofWord", "(II)I"⟩, ⟨"Scrubward", "ofLine", "(III)I"⟩, ⟨"Scrubward", "ofEntry", "(II)I"⟩, ⟨"Scrubward", "blame", "(IZ)I"⟩, ⟨"Scrubward", "board", "(I)I"⟩, ⟨"Scrubward", "health", "(I)D"⟩, ⟨"Scrubward$Code", "words", "()I"⟩, ⟨"Scrubward", "wouldRead", "(I)I"⟩, ⟨"Scrubward", "wouldSpare", "(I)I"⟩, ⟨"Scrubward", "wouldLeak", "(I)I"⟩, ⟨"Scrubward", "isSound", "()Z"⟩, ⟨"Scrubward", "digest", "()J"⟩, ⟨"Scrubward", "checkAddress", "(I)V"⟩, ⟨"Scrubward", "checkBank", "(I)V"⟩, ⟨"Scrubward", "checkRow", "(II)V"⟩, ⟨"Scrubward", "checkTicks", "(I)V"⟩, ⟨"Scrubward", "checkData", "(I)V"⟩, ⟨"Scrubward", "checkNotRetired", "(I)V"⟩, ⟨"Scrubward", "firstAddress", "(II)I"⟩, ⟨"Scrubward", "twinOf", "(I)I"⟩, ⟨"Scrubward", "lineAt", "(I)I"⟩, ⟨"Scrubward", "cellAt", "(I)I"⟩, ⟨"Scrubward", "wordAt", "(I)I"⟩, ⟨"Scrubward", "rowOn", "(II)I"⟩, ⟨"Scrubward", "rowsHaveOwnLines", "()Z"⟩, ⟨"Scrubward", "isPoisoned", "(I)Z"⟩, ⟨"Scrubward", "isRetired", "(I)Z"⟩, ⟨"Scrubward", "dataAt", "(I)I"⟩, ⟨"Scrubward$Code", "words", "()I"⟩, ⟨"Scrubward", "stuckIn", "(I)I"⟩, ⟨"Scrubward", "uncleanIn", "(I)I"⟩, ⟨"Scrubward", "store", "(II)V"⟩, ⟨"Scrubward", "replace", "(II)V"⟩, ⟨"Scrubward", "report", "(IZ)V"⟩, ⟨"Scrubward", "readTwin", "(I)I"⟩, ⟨"Scrubward", "scrubSteps", "()V"⟩, ⟨"Scrubward$Code", "words", "()I"⟩, ⟨"Scrubward", "mix", "(JJ)J"⟩, ⟨"Scrubward", "mixBank", "(JI)J"⟩, ⟨"Scrubward$Code", "words", "()I"⟩, ⟨"Scrubward$Code", "words", "()I"⟩, ⟨"Scrubward$Code", "words", "()I"⟩, ⟨"Scrubward$Code", "words", "()I"⟩, ⟨"Scrubward$Code", "words", "()I"⟩, ⟨"Scrubward$Code", "words", "()I"⟩, ⟨"Scrubward$Code", "words", "()I"⟩, ⟨"Scrubward$Code", "words", "()I"⟩, ⟨"Scrubward$Code", "words", "()I"⟩, ⟨"Scrubward$Code", "words", "()I"⟩, ⟨"Scrubward$Code", "words", "()I"⟩, ⟨"Scrubward$Code", "words", "()I"⟩, ⟨"Scrubward$Code", "words", "()I"⟩, ⟨"Scrubward$Code", "words", "()I"⟩, ⟨"Scrubward$Code", "words", "()I"⟩, ⟨"Scrubward$Code", "words", "()I"⟩, ⟨"Scrubward$Code", "words", "()I"⟩, ⟨"Scrubward$Code", "words", "()I"⟩, ⟨"Scrubward$Code", "words", "()I"⟩, ⟨"Scrubward$Code", "words", "()I"⟩, ⟨"Scrubward$Code", "words", "()I"⟩, ⟨"Scrubward$Code", "words", "()I"⟩, ⟨"Scrubward$Code", "words", "()I"⟩, ⟨"Scrubward$Code", "words", "()I"⟩, ⟨"Scrubward$Code", "words", "()I"⟩, ⟨"Scrubward$Code", "words", "()I"⟩, ⟨"Scrubward$Code", "words", "()I"⟩, ⟨"Scrubward$Code", "words", "()I"⟩, ⟨"Scrubward$Code", "words", "()I"⟩, ⟨"Scrubward$Code", "words", "()I"⟩, ⟨"Scrubward$Code", "words", "()I"⟩, ⟨"Scrubward$Code", "words", "()I"⟩, ⟨"Scrubward$Code", "words", "()I"⟩, ⟨"Scrubward$Code", "words", "()I"⟩, ⟨"Scrubward$Code", "words", "()I"⟩, ⟨"Scrubward$Code", "words", "()I"⟩, ⟨"Scrubward$Code", "words", "()I"⟩, ⟨"Scrubward$Code", "words", "()I"⟩, ⟨"Scrubward$Code", "words", "()I"⟩, ⟨"Scrubward$Code", "words", "()I"⟩, ⟨"Scrubward$Code", "words", "()I"⟩, ⟨"Scrubward$Code", "words", "()I"⟩, ⟨"Scrubward$Code", "words", "()I"⟩, ⟨"Scrubward$Code", "words", "()I"⟩, ⟨"Scrubward$Code", "words", "()I"⟩, ⟨"Scrubward$Code", "words", "()I"⟩, ⟨"Scrubward$Code", "words", "()I"⟩, ⟨"Scrubward$Code", "words", "()I"⟩, ⟨"Scrubward$Code", "words", "()I"⟩, ⟨"Scrubward$Code", "words", "()I"⟩, ⟨"Scrubward$Code", "words", "()I"⟩, ⟨"Scrubward$Code", "words", "()I"⟩, ⟨"Scrubward$Code", "words", "()I"⟩, ⟨"Scrubward$Code", "words", "()I"⟩, ⟨"Scrubward$Code", "words", "()I"⟩, ⟨"Scrubward$Code", "words", "()I"⟩, ⟨"Scrubward$Code", "words", "()I"⟩, ⟨"Scrubward$Code", "words", "()I"⟩, ⟨"Scrubward$Code", "words", "()I"⟩, ⟨"Scrubward$Code", "words", "()I"⟩, ⟨"Scrubward$Code", "words", "()I"⟩, ⟨"Scrubward$Code", "words", "()I"⟩, ⟨"Scrubward$Code", "words", "()I"⟩, ⟨"Scrubward$Code", "words", "()I"⟩, ⟨"Scrubward$Code", "words", "()I"⟩, ⟨"Scrubward$Code", "words", "()I"⟩, ⟨"Scrubward$Code", "words", "()I"⟩, ⟨"Scrubward$Code", "words", "()I"⟩, ⟨"Scrubward$Code", "words", "()I"⟩, ⟨"Scrubward$Code", "words", "()I"⟩, ⟨"Scrubward$Code", "words", "()I"⟩, ⟨"Scrubward$Code", "words", "()I"⟩, ⟨"Scrubward$Code", "words", "()I"⟩, ⟨"Scrubward$Code", "words", "()I"⟩, ⟨"Scrubward$Code", "words", "()I"⟩, ⟨"Scrubward$Code", "words", "()I"⟩, ⟨"Scrubward$Code", "words", "()I"⟩, ⟨"Scrubward$Code", "words", "()I"⟩, ⟨"Scrubward$Code", "words", "()I"⟩, ⟨"Scrubward$Code", "words", "()I"⟩, ⟨"Scrubward$Code", "words", "()I"⟩, ⟨"Scrubward$Code", "words", "()I"⟩, ⟨"Scrubward$Code", "words", "()I"⟩, ⟨"Scrubward$Code", "words", "()I"⟩, ⟨"Scrubward$Code", "words", "()I"⟩, ⟨"Scrubward$Code", "words", "()I"⟩, ⟨"Scrubward$Code", "words", "()I"⟩, ⟨"Scrubward$Code", "words", "()I"⟩, ⟨"Scrubward$Code", "words", "()I"⟩, ⟨"Scrubward$Code", "words", "()I"⟩, ⟨"Scrubward$Code", "words", "()I"⟩, ⟨"Scrubward$Code", "words", "()I"⟩, ⟨"Scrubward$Code", "words", "()I"⟩, ⟨"Scrubward$Code", "words", "()I"⟩, ⟨"Scrubward$Code", "words", "()I"⟩, ⟨"Scrubward$Code", "words", "()I"⟩, ⟨"Scrubward$Code", "words", "()I"⟩, ⟨"Scrubward$Code", "words", "()I"⟩, ⟨"Scrubward$Code", "words", "()I"⟩, ⟨"Scrubward$Code", "words", "()I"⟩, ⟨"Scrubward$Code", "words", "()I"⟩, ⟨"Scrubward$Code", "words", "()I"⟩, ⟨"Scrubward$Code", "words", "()I"⟩, ⟨"Scrubward$Code", "words", "()I"⟩, ⟨"Scrubward$Code", "words", "()I"⟩, ⟨"ScrubwardLaw", "law", "([I)Z"⟩, ⟨"Scrubward$Code", "words", "()I"⟩, ⟨"Scrubward$Code", "words", "()I"⟩, ⟨"Scrubward$Code", "words", "()I"⟩, ⟨"Scrubward$Code", "words", "()I"⟩, ⟨"Scrubward$Code", "words", "()I"⟩, ⟨"Scrubward$Code", "words", "()I"⟩, ⟨"Scrubward$Code", "words", "()I"⟩, ⟨"Scrubward$Code", "words", "()I"⟩, ⟨"Scrubward$Code", "words", "()I"⟩, ⟨"Scrubward$Code", "words", "()I"⟩, ⟨"Scrubward$Code", "words", "()I"⟩, ⟨"Scrubward$Code", "words", "()I"⟩, ⟨"Scrubward$Code", "words", "()I"⟩, ⟨"Scrubward$Code", "words", "()I"⟩, ⟨"java/lang/Integer", "bitCount", "(I)I"⟩, ⟨"Scrubward$Code", "words", "()I"⟩, ⟨"Scrubward$Code", "words", "()I"⟩, ⟨"Scrubward$Code", "words", "()I"⟩, ⟨"Scrubward$Code", "words", "()I"⟩, ⟨"Scrubward$Code", "words", "()I"⟩, ⟨"Scrubward$Code", "words", "()I"⟩, ⟨"Scrubward$Code", "words", "()I"⟩, ⟨"Scrubward$Code", "words", "()I"⟩, ⟨"Scrubward$Code", "words", "()I"⟩, ⟨"Scrubward$Code", "words", "()I"⟩, ⟨"Scrubward$Code", "words", "()I"⟩, ⟨"Scrubward$Code", "words", "()I"⟩, ⟨"Scrubward$Code", "words", "()I"⟩, ⟨"Scrubward$Code", "words", "()I"⟩, ⟨"Scrubward$Code", "words", "()I"⟩, ⟨"Scrubward$Code", "words", "()I"⟩, ⟨"Scrubward$Code", "words", "()I"⟩, ⟨"ScrubwardLaw", "below", "(II)I"⟩, ⟨"ScrubwardLaw", "cell", "([II)I"⟩, ⟨"ScrubwardLaw", "drawn", "([III)I"⟩] : List MethodName).getD y ⟨"", "", ""⟩
def zmb (y : Nat) : ByteArray := ([prog_2_method_1_code, prog_2_method_6_code, prog_2_method_6_code, prog_2_method_4_code, prog_2_method_5_code, prog_2_method_6_code, prog_2_method_7_code, prog_2_method_8_code, prog_2_method_9_code, prog_2_method_10_code, prog_2_method_11_code, prog_2_method_12_code, prog_2_method_13_code, prog_2_method_14_code, prog_2_method_15_code, prog_2_method_16_code, prog_2_method_17_code, prog_2_method_18_code, prog_2_method_19_code, prog_3_method_1_code, prog_3_method_2_code, prog_3_method_3_code, prog_3_method_4_code, prog_3_method_5_code, prog_4_method_1_code, prog_4_method_2_code, prog_4_method_3_code, prog_4_method_4_code, prog_4_method_5_code, prog_5_method_1_code, prog_2_method_6_code, prog_5_method_3_code, prog_5_method_4_code, prog_5_method_5_code, prog_5_method_6_code, prog_5_method_7_code, prog_5_method_8_code, prog_5_method_9_code, prog_5_method_10_code, prog_6_method_1_code, prog_6_method_2_code, prog_6_method_3_code, prog_6_method_4_code, prog_6_method_5_code, prog_6_method_6_code, prog_6_method_7_code, prog_6_method_8_code, prog_6_method_9_code, prog_6_method_10_code, prog_6_method_11_code, prog_6_method_12_code, prog_6_method_13_code, prog_1_method_1_code, prog_2_method_6_code, prog_1_method_3_code, prog_1_method_4_code, prog_1_method_5_code, prog_1_method_6_code, prog_1_method_7_code, prog_1_method_8_code, prog_1_method_9_code, prog_2_method_6_code, prog_2_method_6_code, prog_1_method_12_code, prog_2_method_6_code, prog_2_method_6_code, prog_1_method_15_code, prog_2_method_6_code, prog_2_method_6_code, prog_1_method_18_code, prog_1_method_19_code, prog_1_method_20_code, prog_1_method_21_code, prog_1_method_22_code, prog_1_method_23_code, prog_1_method_24_code, prog_2_method_6_code, prog_1_method_26_code, prog_1_method_27_code, prog_1_method_28_code, prog_1_method_29_code, prog_1_method_30_code, prog_1_method_31_code, prog_1_method_32_code, prog_1_method_33_code, prog_1_method_34_code, prog_1_method_35_code, prog_1_method_36_code, prog_1_method_37_code, prog_1_method_38_code, prog_1_method_39_code, prog_1_method_40_code, prog_1_method_41_code, prog_1_method_42_code, prog_1_method_43_code, prog_1_method_44_code, prog_1_method_45_code, prog_1_method_46_code, prog_2_method_6_code, prog_1_method_48_code, prog_1_method_49_code, prog_1_method_50_code, prog_1_method_51_code, prog_1_method_52_code, prog_1_method_53_code, prog_1_method_54_code, prog_2_method_6_code, prog_1_method_56_code, prog_1_method_57_code, prog_2_method_6_code, prog_2_method_6_code, prog_2_method_6_code, prog_2_method_6_code, prog_2_method_6_code, prog_2_method_6_code, prog_2_method_6_code, prog_2_method_6_code, prog_2_method_6_code, prog_2_method_6_code, prog_2_method_6_code, prog_2_method_6_code, prog_2_method_6_code, prog_2_method_6_code, prog_2_method_6_code, prog_2_method_6_code, prog_2_method_6_code, prog_2_method_6_code, prog_2_method_6_code, prog_2_method_6_code, prog_2_method_6_code, prog_2_method_6_code, prog_2_method_6_code, prog_2_method_6_code, prog_2_method_6_code, prog_2_method_6_code, prog_2_method_6_code, prog_2_method_6_code, prog_2_method_6_code, prog_2_method_6_code, prog_2_method_6_code, prog_2_method_6_code, prog_2_method_6_code, prog_2_method_6_code, prog_2_method_6_code, prog_2_method_6_code, prog_2_method_6_code, prog_2_method_6_code, prog_2_method_6_code, prog_2_method_6_code, prog_2_method_6_code, prog_2_method_6_code, prog_2_method_6_code, prog_2_method_6_code, prog_2_method_6_code, prog_2_method_6_code, prog_2_method_6_code, prog_2_method_6_code, prog_2_method_6_code, prog_2_method_6_code, prog_2_method_6_code, prog_2_method_6_code, prog_2_method_6_code, prog_2_method_6_code, prog_2_method_6_code, prog_2_method_6_code, prog_2_method_6_code, prog_2_method_6_code, prog_2_method_6_code, prog_2_method_6_code, prog_2_method_6_code, prog_2_method_6_code, prog_2_method_6_code, prog_2_method_6_code, prog_2_method_6_code, prog_2_method_6_code, prog_2_method_6_code, prog_2_method_6_code, prog_2_method_6_code, prog_2_method_6_code, prog_2_method_6_code, prog_2_method_6_code, prog_2_method_6_code, prog_2_method_6_code, prog_2_method_6_code, prog_2_method_6_code, prog_2_method_6_code, prog_2_method_6_code, prog_2_method_6_code, prog_2_method_6_code, prog_2_method_6_code, prog_2_method_6_code, prog_2_method_6_code, prog_2_method_6_code, prog_2_method_6_code, prog_2_method_6_code, prog_2_method_6_code, prog_2_method_6_code, prog_2_method_6_code, prog_2_method_6_code, prog_2_method_6_code, prog_2_method_6_code, prog_2_method_6_code, prog_2_method_6_code, prog_2_method_6_code, prog_2_method_6_code, prog_2_method_6_code, prog_2_method_6_code, prog_2_method_6_code, prog_2_method_6_code, prog_2_method_6_code, prog_2_method_6_code, prog_2_method_6_code, prog_2_method_6_code, prog_2_method_6_code, code, prog_2_method_6_code, prog_2_method_6_code, prog_2_method_6_code, prog_2_method_6_code, prog_2_method_6_code, prog_2_method_6_code, prog_2_method_6_code, prog_2_method_6_code, prog_2_method_6_code, prog_2_method_6_code, prog_2_method_6_code, prog_2_method_6_code, prog_2_method_6_code, prog_2_method_6_code, prog_13_method_49_code, prog_2_method_6_code, prog_2_method_6_code, prog_2_method_6_code, prog_2_method_6_code, prog_2_method_6_code, prog_2_method_6_code, prog_2_method_6_code, prog_2_method_6_code, prog_2_method_6_code, prog_2_method_6_code, prog_2_method_6_code, prog_2_method_6_code, prog_2_method_6_code, prog_2_method_6_code, prog_2_method_6_code, prog_2_method_6_code, prog_2_method_6_code, method_2_code, method_3_code, method_4_code] : List ByteArray).getD y ⟨#[]⟩
def zmL (y : Nat) : Nat := ([1, 1, 1, 4, 4, 1, 1, 2, 4, 2, 2, 3, 1, 3, 2, 6, 5, 2, 3, 1, 1, 4, 4, 5, 2, 2, 3, 3, 3, 1, 1, 4, 5, 8, 4, 6, 3, 3, 1, 1, 3, 3, 6, 4, 5, 2, 3, 2, 7, 4, 5, 3, 2, 1, 4, 3, 3, 4, 4, 6, 7, 1, 1, 3, 1, 1, 2, 1, 1, 2, 4, 5, 3, 5, 2, 5, 1, 4, 9, 2, 1, 5, 1, 1, 2, 1, 2, 2, 2, 1, 2, 2, 2, 4, 2, 2, 2, 2, 1, 2, 4, 3, 3, 5, 4, 4, 1, 4, 8, 1, 1, 1, 1, 1, 1, 1, 1, 1, 1, 1, 1, 1, 1, 1, 1, 1, 1, 1, 1, 1, 1, 1, 1, 1, 1, 1, 1, 1, 1, 1, 1, 1, 1, 1, 1, 1, 1, 1, 1, 1, 1, 1, 1, 1, 1, 1, 1, 1, 1, 1, 1, 1, 1, 1, 1, 1, 1, 1, 1, 1, 1, 1, 1, 1, 1, 1, 1, 1, 1, 1, 1, 1, 1, 1, 1, 1, 1, 1, 1, 1, 1, 1, 1, 1, 1, 1, 1, 1, 1, 1, 1, 1, 1, 1, 1, 1, 1, 1, 1, 1, 1, 1, 1, 1, 8, 1, 1, 1, 1, 1, 1, 1, 1, 1, 1, 1, 1, 1, 1, 1, 1, 1, 1, 1, 1, 1, 1, 1, 1, 1, 1, 1, 1, 1, 1, 1, 1, 2, 2, 3] : List Nat).getD y 0
def zmr (y : Nat) : Option FieldType := ([(Option.none : Option Jvm.ClassFile.FieldType), (Option.some Jvm.ClassFile.FieldType.int), (Option.some Jvm.ClassFile.FieldType.int), (Option.none : Option Jvm.ClassFile.FieldType), (Option.none : Option Jvm.ClassFile.FieldType), (Option.some Jvm.ClassFile.FieldType.int), (Option.some Jvm.ClassFile.FieldType.int), (Option.some Jvm.ClassFile.FieldType.boolean), (Option.some Jvm.ClassFile.FieldType.int), (Option.some Jvm.ClassFile.FieldType.int), (Option.some Jvm.ClassFile.FieldType.boolean), (Option.some Jvm.ClassFile.FieldType.int), (Option.some Jvm.ClassFile.FieldType.int), (Option.some Jvm.ClassFile.FieldType.int), (Option.some Jvm.ClassFile.FieldType.int), (Option.some Jvm.ClassFile.FieldType.int), (Option.some Jvm.ClassFile.FieldType.int), (Option.some Jvm.ClassFile.FieldType.int), (Option.some Jvm.ClassFile.FieldType.boolean), (Option.none : Option Jvm.ClassFile.FieldType), (Option.some Jvm.ClassFile.FieldType.boolean), (Option.none : Option Jvm.ClassFile.FieldType), (Option.none : Option Jvm.ClassFile.FieldType), (Option.some Jvm.ClassFile.FieldType.int), (Option.none : Option Jvm.ClassFile.FieldType), (Option.some Jvm.ClassFile.FieldType.int), (Option.none : Option Jvm.ClassFile.FieldType), (Option.none : Option Jvm.ClassFile.FieldType), (Option.some Jvm.ClassFile.FieldType.int), (Option.none : Option Jvm.ClassFile.FieldType), (Option.some Jvm.ClassFile.FieldType.int), (Option.none : Option Jvm.ClassFile.FieldType), (Option.some Jvm.ClassFile.FieldType.int), (Option.some Jvm.ClassFile.FieldType.boolean), (Option.some Jvm.ClassFile.FieldType.int), (Option.some Jvm.ClassFile.FieldType.int), (Option.some Jvm.ClassFile.FieldType.boolean), (Option.some Jvm.ClassFile.FieldType.boolean), (Option.some Jvm.ClassFile.FieldType.boolean), (Option.none : Option Jvm.ClassFile.FieldType), (Option.none : Option Jvm.ClassFile.FieldType), (Option.none : Option Jvm.ClassFile.FieldType), (Option.some Jvm.ClassFile.FieldType.int), (Option.none : Option Jvm.ClassFile.FieldType), (Option.none : Option Jvm.ClassFile.FieldType), (Option.some Jvm.ClassFile.FieldType.int), (Option.none : Option Jvm.ClassFile.FieldType), (Option.some Jvm.ClassFile.FieldType.boolean), (Option.some Jvm.ClassFile.FieldType.int), (Option.some Jvm.ClassFile.FieldType.boolean), (Option.some Jvm.ClassFile.FieldType.boolean), (Option.some Jvm.ClassFile.FieldType.boolean), (Option.none : Option Jvm.ClassFile.FieldType), (Option.some Jvm.ClassFile.FieldType.int), (Option.some Jvm.ClassFile.FieldType.int), (Option.some Jvm.ClassFile.FieldType.int), (Option.some Jvm.ClassFile.FieldType.int), (Option.some Jvm.ClassFile.FieldType.int), (Option.some Jvm.ClassFile.FieldType.int), (Option.some Jvm.ClassFile.FieldType.int), (Option.some Jvm.ClassFile.FieldType.int), (Option.some Jvm.ClassFile.FieldType.int), (Option.some Jvm.ClassFile.FieldType.int), (Option.some Jvm.ClassFile.FieldType.int), (Option.some Jvm.ClassFile.FieldType.int), (Option.some Jvm.ClassFile.FieldType.int), (Option.some Jvm.ClassFile.FieldType.int), (Option.some Jvm.ClassFile.FieldType.int), (Option.some Jvm.ClassFile.FieldType.int), (Option.some Jvm.ClassFile.FieldType.int), (Option.some Jvm.ClassFile.FieldType.int), (Option.some Jvm.ClassFile.FieldType.int), (Option.some Jvm.ClassFile.FieldType.int), (Option.some Jvm.ClassFile.FieldType.int), (Option.some Jvm.ClassFile.FieldType.int), (Option.some Jvm.ClassFile.FieldType.double), (Option.some Jvm.ClassFile.FieldType.int), (Option.some Jvm.ClassFile.FieldType.int), (Option.some Jvm.ClassFile.FieldType.int), (Option.some Jvm.ClassFile.FieldType.int), (Option.some Jvm.ClassFile.FieldType.boolean), (Option.some Jvm.ClassFile.FieldType.long), (Option.none : Option Jvm.ClassFile.FieldType), (Option.none : Option Jvm.ClassFile.FieldType), (Option.none : Option Jvm.ClassFile.FieldType), (Option.none : Option Jvm.ClassFile.FieldType), (Option.none : Option Jvm.ClassFile.FieldType), (Option.none : Option Jvm.ClassFile.FieldType), (Option.some Jvm.ClassFile.FieldType.int), (Option.some Jvm.ClassFile.FieldType.int), (Option.some Jvm.ClassFile.FieldType.int), (Option.some Jvm.ClassFile.FieldType.int), (Option.some Jvm.ClassFile.FieldType.int), (Option.some Jvm.ClassFile.FieldType.int), (Option.some Jvm.ClassFile.FieldType.boolean), (Option.some Jvm.ClassFile.FieldType.boolean), (Option.some Jvm.ClassFile.FieldType.boolean), (Option.some Jvm.ClassFile.FieldType.int), (Option.some Jvm.ClassFile.FieldType.int), (Option.some Jvm.ClassFile.FieldType.int), (Option.some Jvm.ClassFile.FieldType.int), (Option.none : Option Jvm.ClassFile.FieldType), (Option.none : Option Jvm.ClassFile.FieldType), (Option.none : Option Jvm.ClassFile.FieldType), (Option.some Jvm.ClassFile.FieldType.int), (Option.none : Option Jvm.ClassFile.FieldType), (Option.some Jvm.ClassFile.FieldType.int), (Option.some Jvm.ClassFile.FieldType.long), (Option.some Jvm.ClassFile.FieldType.long), (Option.some Jvm.ClassFile.FieldType.int), (Option.some Jvm.ClassFile.FieldType.int), (Option.some Jvm.ClassFile.FieldType.int), (Option.some Jvm.ClassFile.FieldType.int), (Option.some Jvm.ClassFile.FieldType.int), (Option.some Jvm.ClassFile.FieldType.int), (Option.some Jvm.ClassFile.FieldType.int), (Option.some Jvm.ClassFile.FieldType.int), (Option.some Jvm.ClassFile.FieldType.int), (Option.some Jvm.ClassFile.FieldType.int), (Option.some Jvm.ClassFile.FieldType.int), (Option.some Jvm.ClassFile.FieldType.int), (Option.some Jvm.ClassFile.FieldType.int), (Option.some Jvm.ClassFile.FieldType.int), (Option.some Jvm.ClassFile.FieldType.int), (Option.some Jvm.ClassFile.FieldType.int), (Option.some Jvm.ClassFile.FieldType.int), (Option.some Jvm.ClassFile.FieldType.int), (Option.some Jvm.ClassFile.FieldType.int), (Option.some Jvm.ClassFile.FieldType.int), (Option.some Jvm.ClassFile.FieldType.int), (Option.some Jvm.ClassFile.FieldType.int), (Option.some Jvm.ClassFile.FieldType.int), (Option.some Jvm.ClassFile.FieldType.int), (Option.some Jvm.ClassFile.FieldType.int), (Option.some Jvm.ClassFile.FieldType.int), (Option.some Jvm.ClassFile.FieldType.int), (Option.some Jvm.ClassFile.FieldType.int), (Option.some Jvm.ClassFile.FieldType.int), (Option.some Jvm.ClassFile.FieldType.int), (Option.some Jvm.ClassFile.FieldType.int), (Option.some Jvm.ClassFile.FieldType.int), (Option.some Jvm.ClassFile.FieldType.int), (Option.some Jvm.ClassFile.FieldType.int), (Option.some Jvm.ClassFile.FieldType.int), (Option.some Jvm.ClassFile.FieldType.int), (Option.some Jvm.ClassFile.FieldType.int), (Option.some Jvm.ClassFile.FieldType.int), (Option.some Jvm.ClassFile.FieldType.int), (Option.some Jvm.ClassFile.FieldType.int), (Option.some Jvm.ClassFile.FieldType.int), (Option.some Jvm.ClassFile.FieldType.int), (Option.some Jvm.ClassFile.FieldType.int), (Option.some Jvm.ClassFile.FieldType.int), (Option.some Jvm.ClassFile.FieldType.int), (Option.some Jvm.ClassFile.FieldType.int), (Option.some Jvm.ClassFile.FieldType.int), (Option.some Jvm.ClassFile.FieldType.int), (Option.some Jvm.ClassFile.FieldType.int), (Option.some Jvm.ClassFile.FieldType.int), (Option.some Jvm.ClassFile.FieldType.int), (Option.some Jvm.ClassFile.FieldType.int), (Option.some Jvm.ClassFile.FieldType.int), (Option.some Jvm.ClassFile.FieldType.int), (Option.some Jvm.ClassFile.FieldType.int), (Option.some Jvm.ClassFile.FieldType.int), (Option.some Jvm.ClassFile.FieldType.int), (Option.some Jvm.ClassFile.FieldType.int), (Option.some Jvm.ClassFile.FieldType.int), (Option.some Jvm.ClassFile.FieldType.int), (Option.some Jvm.ClassFile.FieldType.int), (Option.some Jvm.ClassFile.FieldType.int), (Option.some Jvm.ClassFile.FieldType.int), (Option.some Jvm.ClassFile.FieldType.int), (Option.some Jvm.ClassFile.FieldType.int), (Option.some Jvm.ClassFile.FieldType.int), (Option.some Jvm.ClassFile.FieldType.int), (Option.some Jvm.ClassFile.FieldType.int), (Option.some Jvm.ClassFile.FieldType.int), (Option.some Jvm.ClassFile.FieldType.int), (Option.some Jvm.ClassFile.FieldType.int), (Option.some Jvm.ClassFile.FieldType.int), (Option.some Jvm.ClassFile.FieldType.int), (Option.some Jvm.ClassFile.FieldType.int), (Option.some Jvm.ClassFile.FieldType.int), (Option.some Jvm.ClassFile.FieldType.int), (Option.some Jvm.ClassFile.FieldType.int), (Option.some Jvm.ClassFile.FieldType.int), (Option.some Jvm.ClassFile.FieldType.int), (Option.some Jvm.ClassFile.FieldType.int), (Option.some Jvm.ClassFile.FieldType.int), (Option.some Jvm.ClassFile.FieldType.int), (Option.some Jvm.ClassFile.FieldType.int), (Option.some Jvm.ClassFile.FieldType.int), (Option.some Jvm.ClassFile.FieldType.int), (Option.some Jvm.ClassFile.FieldType.int), (Option.some Jvm.ClassFile.FieldType.int), (Option.some Jvm.ClassFile.FieldType.int), (Option.some Jvm.ClassFile.FieldType.int), (Option.some Jvm.ClassFile.FieldType.int), (Option.some Jvm.ClassFile.FieldType.int), (Option.some Jvm.ClassFile.FieldType.int), (Option.some Jvm.ClassFile.FieldType.int), (Option.some Jvm.ClassFile.FieldType.int), (Option.some Jvm.ClassFile.FieldType.int), (Option.some Jvm.ClassFile.FieldType.int), (Option.some Jvm.ClassFile.FieldType.int), (Option.some Jvm.ClassFile.FieldType.int), (Option.some Jvm.ClassFile.FieldType.int), (Option.some Jvm.ClassFile.FieldType.int), (Option.some Jvm.ClassFile.FieldType.int), (Option.some Jvm.ClassFile.FieldType.int), (Option.some Jvm.ClassFile.FieldType.int), (Option.some Jvm.ClassFile.FieldType.int), (Option.some Jvm.ClassFile.FieldType.int), (Option.some Jvm.ClassFile.FieldType.boolean), (Option.some Jvm.ClassFile.FieldType.int), (Option.some Jvm.ClassFile.FieldType.int), (Option.some Jvm.ClassFile.FieldType.int), (Option.some Jvm.ClassFile.FieldType.int), (Option.some Jvm.ClassFile.FieldType.int), (Option.some Jvm.ClassFile.FieldType.int), (Option.some Jvm.ClassFile.FieldType.int), (Option.some Jvm.ClassFile.FieldType.int), (Option.some Jvm.ClassFile.FieldType.int), (Option.some Jvm.ClassFile.FieldType.int), (Option.some Jvm.ClassFile.FieldType.int), (Option.some Jvm.ClassFile.FieldType.int), (Option.some Jvm.ClassFile.FieldType.int), (Option.some Jvm.ClassFile.FieldType.int), (Option.some Jvm.ClassFile.FieldType.int), (Option.some Jvm.ClassFile.FieldType.int), (Option.some Jvm.ClassFile.FieldType.int), (Option.some Jvm.ClassFile.FieldType.int), (Option.some Jvm.ClassFile.FieldType.int), (Option.some Jvm.ClassFile.FieldType.int), (Option.some Jvm.ClassFile.FieldType.int), (Option.some Jvm.ClassFile.FieldType.int), (Option.some Jvm.ClassFile.FieldType.int), (Option.some Jvm.ClassFile.FieldType.int), (Option.some Jvm.ClassFile.FieldType.int), (Option.some Jvm.ClassFile.FieldType.int), (Option.some Jvm.ClassFile.FieldType.int), (Option.some Jvm.ClassFile.FieldType.int), (Option.some Jvm.ClassFile.FieldType.int), (Option.some Jvm.ClassFile.FieldType.int), (Option.some Jvm.ClassFile.FieldType.int), (Option.some Jvm.ClassFile.FieldType.int), (Option.some Jvm.ClassFile.FieldType.int), (Option.some Jvm.ClassFile.FieldType.int), (Option.some Jvm.ClassFile.FieldType.int)] : List (Option FieldType)).getD y none
def zmh (y : Nat) : List (Nat × Nat × Nat × Nat) := ([[], [], [], [], [], [], [], [], [], [], [], [], [], [], [], [], [], [], [], [], [], [], [], [], [], [], [], [], [], [], [], [], [], [], [], [], [], [], [], [], [], [], [], [], [], [], [], [], [], [], [], [], [], [], [], [], [], [], [], [], [], [], [], [], [], [], [], [], [], [], [], [], [], [], [], [], [], [], [], [], [], [], [], [], [], [], [], [], [], [], [], [], [], [], [], [], [], [], [], [], [], [], [], [], [], [], [], [], [], [], [], [], [], [], [], [], [], [], [], [], [], [], [], [], [], [], [], [], [], [], [], [], [], [], [], [], [], [], [], [], [], [], [], [], [], [], [], [], [], [], [], [], [], [], [], [], [], [], [], [], [], [], [], [], [], [], [], [], [], [], [], [], [], [], [], [], [], [], [], [], [], [], [], [], [], [], [], [], [], [], [], [], [], [], [], [], [], [], [], [], [], [], [], [], [], [], [], [], [], [], [], [], [], [], [], [], [], [], [], [], [], [], [], [], [], [], [], [], [], [], [], [], [], [], [], [], [], [], [], [], [], [], [], [], [], [], [], [], [], []] : List (List (Nat × Nat × Nat × Nat))).getD y []
def zmo (y : Nat) : Nat := ([0, 0, 0, 0, 0, 0, 0, 0, 0, 0, 0, 0, 0, 0, 0, 0, 0, 0, 0, 1, 1, 1, 1, 1, 2, 2, 2, 2, 2, 3, 0, 3, 3, 3, 3, 3, 3, 3, 3, 4, 4, 4, 4, 4, 4, 4, 4, 4, 4, 4, 4, 4, 5, 0, 5, 5, 5, 5, 5, 5, 5, 0, 0, 5, 0, 0, 5, 0, 0, 5, 5, 5, 5, 5, 5, 5, 0, 5, 5, 5, 5, 5, 5, 5, 5, 5, 5, 5, 5, 5, 5, 5, 5, 5, 5, 5, 5, 5, 0, 5, 5, 5, 5, 5, 5, 5, 0, 5, 5, 0, 0, 0, 0, 0, 0, 0, 0, 0, 0, 0, 0, 0, 0, 0, 0, 0, 0, 0, 0, 0, 0, 0, 0, 0, 0, 0, 0, 0, 0, 0, 0, 0, 0, 0, 0, 0, 0, 0, 0, 0, 0, 0, 0, 0, 0, 0, 0, 0, 0, 0, 0, 0, 0, 0, 0, 0, 0, 0, 0, 0, 0, 0, 0, 0, 0, 0, 0, 0, 0, 0, 0, 0, 0, 0, 0, 0, 0, 0, 0, 0, 0, 0, 0, 0, 0, 0, 0, 0, 0, 0, 0, 0, 0, 0, 0, 0, 0, 0, 0, 0, 0, 0, 0, 0, 6, 0, 0, 0, 0, 0, 0, 0, 0, 0, 0, 0, 0, 0, 0, 7, 0, 0, 0, 0, 0, 0, 0, 0, 0, 0, 0, 0, 0, 0, 0, 0, 0, 6, 6, 6] : List Nat).getD y 0
def zmp (y : Nat) : Nat := ([0, 0, 0, 2, 0, 0, 0, 1, 1, 1, 1, 1, 1, 1, 1, 1, 2, 1, 0, 0, 0, 3, 1, 2, 1, 1, 2, 1, 0, 0, 0, 3, 2, 3, 4, 1, 1, 2, 0, 0, 1, 2, 2, 1, 1, 0, 0, 1, 1, 2, 2, 0, 0, 0, 2, 1, 2, 3, 3, 3, 5, 0, 0, 1, 0, 0, 1, 0, 0, 1, 2, 3, 2, 2, 1, 1, 0, 1, 1, 1, 0, 0, 1, 1, 2, 1, 1, 1, 2, 1, 1, 1, 1, 2, 0, 1, 1, 1, 0, 1, 1, 2, 2, 2, 1, 0, 0, 2, 2, 0, 0, 0, 0, 0, 0, 0, 0, 0, 0, 0, 0, 0, 0, 0, 0, 0, 0, 0, 0, 0, 0, 0, 0, 0, 0, 0, 0, 0, 0, 0, 0, 0, 0, 0, 0, 0, 0, 0, 0, 0, 0, 0, 0, 0, 0, 0, 0, 0, 0, 0, 0, 0, 0, 0, 0, 0, 0, 0, 0, 0, 0, 0, 0, 0, 0, 0, 0, 0, 0, 0, 0, 0, 0, 0, 0, 0, 0, 0, 0, 0, 0, 0, 0, 0, 0, 0, 0, 0, 0, 0, 0, 0, 0, 0, 0, 0, 0, 0, 0, 0, 0, 0, 0, 0, 1, 0, 0, 0, 0, 0, 0, 0, 0, 0, 0, 0, 0, 0, 0, 1, 0, 0, 0, 0, 0, 0, 0, 0, 0, 0, 0, 0, 0, 0, 0, 0, 0, 2, 2, 3] : List Nat).getD y 0
def zNF : List (String × Nat × String × String × String × String) := [("Scrubward$Memory", 69, "Scrubward$Faults", "count", "I", "Scrubward"), ("Scrubward$Memory", 72, "Scrubward$Faults", "cells", "LScrubward$Ints;", "Scrubward"), ("Scrubward$Memory", 79, "Scrubward$Faults", "masks", "LScrubward$Ints;", "Scrubward"), ("Scrubward$Memory", 82, "Scrubward$Faults", "values", "LScrubward$Ints;", "Scrubward"), ("Scrubward", 55, "Scrubward$Code", "width", "I", "Scrubward"), ("Scrubward", 148, "Scrubward$Memory", "stuck", "LScrubward$Faults;", "Scrubward"), ("Scrubward", 167, "Scrubward$Faults", "count", "I", "Scrubward"), ("Scrubward", 172, "Scrubward$Memory", "weak", "LScrubward$Faults;", "Scrubward"), ("Scrubward", 186, "Scrubward$Memory", "counts", "LScrubward$Ints;", "Scrubward"), ("Scrubward", 201, "Scrubward$Memory", "period", "I", "Scrubward"), ("Scrubward", 204, "Scrubward$Memory", "limit", "I", "Scrubward"), ("Scrubward", 218, "Scrubward$Memory", "tick", "I", "Scrubward"), ("Scrubward", 229, "Scrubward$Log", "count", "I", "Scrubward"), ("Scrubward", 236, "Scrubward$Code", "columns", "LScrubward$Ints;", "Scrubward"), ("Scrubward", 279, "Scrubward$Memory", "freshAt", "LScrubward$Ints;", "Scrubward"), ("Scrubward", 292, "Scrubward$Log", "addresses", "LScrubward$Ints;", "Scrubward"), ("Scrubward", 295, "Scrubward$Log", "bits", "LScrubward$Ints;", "Scrubward"), ("Scrubward", 298, "Scrubward$Log", "ticks", "LScrubward$Ints;", "Scrubward"), ("Scrubward", 306, "Scrubward$Code", "dataBits", "I", "Scrubward"), ("Scrubward", 309, "Scrubward$Code", "checkBits", "I", "Scrubward"), ("Scrubward", 315, "Scrubward$Log", "mendedEver", "I", "Scrubward"), ("Scrubward", 318, "Scrubward$Log", "badEver", "I", "Scrubward"), ("Scrubward", 321, "Scrubward$Memory", "drawnEver", "I", "Scrubward"), ("Scrubward", 406, "Scrubward$Memory", "words", "LScrubward$Ints;", "Scrubward")]
def zNM : List (String × Nat × MethodName × String) := [("Scrubward$Memory", 31, ⟨"Scrubward$Faults", "<init>", "()V"⟩, "Scrubward"), ("Scrubward", 11, ⟨"Scrubward$Code", "<init>", "()V"⟩, "Scrubward"), ("Scrubward", 18, ⟨"Scrubward$Memory", "<init>", "()V"⟩, "Scrubward"), ("Scrubward", 25, ⟨"Scrubward$Log", "<init>", "()V"⟩, "Scrubward")]
def zN : List Jvm.Cond := zNF.map (fun q => .fieldLinkNest q.1 q.2.1 q.2.2.1 q.2.2.2.1 q.2.2.2.2.1 q.2.2.2.2.2) ++ zNM.map (fun q => .methodLinkNest q.1 q.2.1 q.2.2.1 q.2.2.2)
theorem zNF_in {a : String} {i : Nat} {b n d h : String} (k : Nat) (e : zNF[k]? = some (a, i, b, n, d, h)) : (.fieldLinkNest a i b n d h : Jvm.Cond) ∈ zN := List.mem_append_left _ (List.mem_map.mpr ⟨_, List.mem_of_getElem? e, rfl⟩)
theorem zNM_in {a : String} {i : Nat} {x : MethodName} {h : String} (k : Nat) (e : zNM[k]? = some (a, i, x, h)) : (.methodLinkNest a i x h : Jvm.Cond) ∈ zN := List.mem_append_right _ (List.mem_map.mpr ⟨_, List.mem_of_getElem? e, rfl⟩)
theorem zN_warm {s U : State} (hW : s.WarmedH U.vm) (h : ∀ w ∈ zN, va_Nw w s) : ∀ w ∈ zN, va_Nw w U := by
  intro w hw
  have hs := h w hw
  rcases List.mem_append.mp hw with q | q
  · obtain ⟨x, -, rfl⟩ := List.mem_map.mp q
    exact va_Nw.warmF hW hs
  · obtain ⟨x, -, rfl⟩ := List.mem_map.mp q
    exact va_Nw.warmM hW hs
def zFok (q : Nat × Nat × Nat) : Prop := (∃ ref, Jvm.Cond.fieldLink (zon q.1) q.2.1 ref (zFT q.2.2).2.1 (zFT q.2.2).2.2.1 ∈ zB ∧ (ref = (zFT q.2.2).1 ∨ Jvm.Cond.sameField ref (zFT q.2.2).1 (zFT q.2.2).2.1 (zFT q.2.2).2.2.1 ∈ zB)) ∨ ∃ host, Jvm.Cond.fieldLinkNest (zon q.1) q.2.1 (zFT q.2.2).1 (zFT q.2.2).2.1 (zFT q.2.2).2.2.1 host ∈ zN ∧ (zFT q.2.2).1 ≠ zon q.1
def zSok (q : Nat × Nat × Nat) : Prop := Jvm.Cond.methodLink (zon q.1) q.2.1 (zmn q.2.2) ∈ zB ∧ Jvm.Cond.static (zmn q.2.2) ∈ zB
def zVok (q : Nat × Nat × Nat × Nat) : Prop := Jvm.Cond.methodLink (zon q.1) q.2.1 (zmn q.2.2.1) ∈ zB ∧ Jvm.Cond.instanceMethod (zmn q.2.2.1) ∈ zB ∧ Jvm.Cond.selects (zcn q.2.2.2) (zmn q.2.2.1) (zmn q.2.2.1) ∈ zB
def zIok (q : Nat × Nat × Nat) : Prop := (Jvm.Cond.methodLink (zon q.1) q.2.1 (zmn q.2.2) ∈ zB ∨ ∃ host, Jvm.Cond.methodLinkNest (zon q.1) q.2.1 (zmn q.2.2) host ∈ zN) ∧ Jvm.Cond.instanceMethod (zmn q.2.2) ∈ zB ∧ (zmn q.2.2).name = "<init>"
def zCok (q : Nat × Nat × Nat) : Prop := Jvm.Cond.classLink (zon q.1) q.2.1 (zcn q.2.2) ∈ zB ∧ Jvm.Cond.instantiable (zcn q.2.2) (zcf q.2.2).length ∈ zB ∧ Jvm.Cond.initialized (zcn q.2.2) ∈ zB
def zKok (q : Nat × Nat × Nat × Nat) : Prop := (match q.2.2.1 with
  | 0 => Jvm.Cond.constantLong (zon q.1) q.2.1 (Int64.ofNat q.2.2.2)
  | 1 => Jvm.Cond.constantDouble (zon q.1) q.2.1 (UInt64.ofNat q.2.2.2)
  | _ => Jvm.Cond.constant (zon q.1) q.2.1 (Int32.ofNat q.2.2.2)) ∈ zB
def zXok (q : Nat × Nat × Nat) : Prop := if q.2.2 = 12 then Jvm.Cond.methodLink (zon q.1) q.2.1 Lib.Math.max.name ∈ zB ∧ Jvm.Cond.static Lib.Math.max.name ∈ zB ∧ Jvm.Cond.initialized "java/lang/Math" ∈ zB ∧ Jvm.Cond.code Lib.Math.max.name Lib.Math.max.code 2 (some .int) ∈ zB else Jvm.Cond.methodLink (zon q.1) q.2.1 Lib.Math.min.name ∈ zB ∧ Jvm.Cond.static Lib.Math.min.name ∈ zB ∧ Jvm.Cond.initialized "java/lang/Math" ∈ zB ∧ Jvm.Cond.code Lib.Math.min.name Lib.Math.min.code 2 (some .int) ∈ zB
def zUok (q : Nat × Nat × Nat × Nat) : Prop := ∃ (x : MethodName) (owner : String), Jvm.Cond.methodLink (zon q.1) q.2.1 x ∈ zB ∧ Jvm.Cond.sameMethod x.cls owner x.name x.desc ∈ zB ∧ (∃ (b : ByteArray) (mL : Nat) (rt : Option FieldType), Jvm.Cond.code ⟨owner, x.name, x.desc⟩ b mL rt ∈ zB) ∧ Jvm.Cond.instanceMethod ⟨owner, x.name, x.desc⟩ ∈ zB ∧ Jvm.Cond.selects (zcn q.2.2.2) x (zmn q.2.2.1) ∈ zB ∧ Jvm.Cond.instanceMethod (zmn q.2.2.1) ∈ zB ∧ owner ≠ "java/lang/invoke/MethodHandle" ∧ owner ≠ "java/lang/invoke/VarHandle" ∧ (parseMethodDescriptor x.desc).map (fun d => d.parameters.length) = some (zmp q.2.2.1)
def zGok (q : Nat × Nat × Nat × Nat) : Prop := Jvm.Cond.methodLink (zon q.1) q.2.1 (zmn q.2.2.1) ∈ zB ∧ Jvm.Cond.sameMethod (zmn q.2.2.1).cls (zmn q.2.2.1).cls (zmn q.2.2.1).name (zmn q.2.2.1).desc ∈ zB ∧ Jvm.Cond.superclass (zon q.1) (zmn q.2.2.1).cls ∈ zB ∧ Jvm.Cond.instanceMethod (zmn q.2.2.1) ∈ zB ∧ (zmn q.2.2.1).name ≠ "<init>"
def zOok (q : Nat × Nat) : Prop := Jvm.Cond.methodLink (zon q.1) q.2 Lib.objectInit ∈ zB
end
section
theorem zbd {k i j : Nat} {w : Jvm.Cond} {L : List (Nat × Jvm.Cond)} (h : L.all (fun q => decide ((lw_tbl.drop k)[q.1]? = some q.2) && goodWord q.2) = true) (e : L[j]? = some (i, w)) : w ∈ zB := by
  have z := List.all_eq_true.mp h _ (List.mem_of_getElem? e)
  simp only [Bool.and_eq_true, decide_eq_true_eq] at z
  exact List.mem_append_left _ (List.mem_filter.mpr ⟨List.mem_of_mem_drop (List.mem_of_getElem? z.1), z.2⟩)
def zwb0 : List (Nat × Jvm.Cond) := [(0, (.selects "Scrubward$Code" ⟨"Scrubward$Code", "makeDataColumns", "()V"⟩ ⟨"Scrubward$Code", "makeDataColumns", "()V"⟩ : Jvm.Cond)), (1, (.selects "Scrubward$Memory" ⟨"Scrubward$Memory", "asStuck", "(II)I"⟩ ⟨"Scrubward$Memory", "asStuck", "(II)I"⟩ : Jvm.Cond)), (3, (.selects "Scrubward" ⟨"Scrubward", "checkData", "(I)V"⟩ ⟨"Scrubward", "checkData", "(I)V"⟩ : Jvm.Cond)), (4, (.selects "Scrubward" ⟨"Scrubward", "checkNotRetired", "(I)V"⟩ ⟨"Scrubward", "checkNotRetired", "(I)V"⟩ : Jvm.Cond)), (5, (.selects "Scrubward" ⟨"Scrubward", "isRetired", "(I)Z"⟩ ⟨"Scrubward", "isRetired", "(I)Z"⟩ : Jvm.Cond)), (6, (.selects "Scrubward" ⟨"Scrubward", "store", "(II)V"⟩ ⟨"Scrubward", "store", "(II)V"⟩ : Jvm.Cond)), (7, (.selects "Scrubward" ⟨"Scrubward", "lineAt", "(I)I"⟩ ⟨"Scrubward", "lineAt", "(I)I"⟩ : Jvm.Cond)), (8, (.selects "Scrubward$Memory" ⟨"Scrubward$Memory", "turnDrawnBit", "(I)V"⟩ ⟨"Scrubward$Memory", "turnDrawnBit", "(I)V"⟩ : Jvm.Cond)), (9, (.selects "Scrubward$Memory" ⟨"Scrubward$Memory", "draw", "()I"⟩ ⟨"Scrubward$Memory", "draw", "()I"⟩ : Jvm.Cond)), (10, (.selects "Scrubward" ⟨"Scrubward", "replace", "(II)V"⟩ ⟨"Scrubward", "replace", "(II)V"⟩ : Jvm.Cond)), (11, (.selects "Scrubward" ⟨"Scrubward", "cellAt", "(I)I"⟩ ⟨"Scrubward", "cellAt", "(I)I"⟩ : Jvm.Cond)), (12, (.selects "Scrubward" ⟨"Scrubward", "wordAt", "(I)I"⟩ ⟨"Scrubward", "wordAt", "(I)I"⟩ : Jvm.Cond)), (13, (.selects "Scrubward" ⟨"Scrubward", "dataAt", "(I)I"⟩ ⟨"Scrubward", "dataAt", "(I)I"⟩ : Jvm.Cond)), (14, (.selects "Scrubward" ⟨"Scrubward", "isPoisoned", "(I)Z"⟩ ⟨"Scrubward", "isPoisoned", "(I)Z"⟩ : Jvm.Cond)), (15, (.selects "Scrubward" ⟨"Scrubward", "report", "(IZ)V"⟩ ⟨"Scrubward", "report", "(IZ)V"⟩ : Jvm.Cond)), (16, (.selects "Scrubward" ⟨"Scrubward", "readTwin", "(I)I"⟩ ⟨"Scrubward", "readTwin", "(I)I"⟩ : Jvm.Cond)), (17, (.selects "Scrubward$Memory" ⟨"Scrubward$Memory", "isRefreshedAt", "(I)Z"⟩ ⟨"Scrubward$Memory", "isRefreshedAt", "(I)Z"⟩ : Jvm.Cond)), (18, (.selects "Scrubward" ⟨"Scrubward", "scrubSteps", "()V"⟩ ⟨"Scrubward", "scrubSteps", "()V"⟩ : Jvm.Cond)), (19, (.selects "Scrubward" ⟨"Scrubward", "uncleanIn", "(I)I"⟩ ⟨"Scrubward", "uncleanIn", "(I)I"⟩ : Jvm.Cond)), (20, (.selects "Scrubward" ⟨"Scrubward", "stuckIn", "(I)I"⟩ ⟨"Scrubward", "stuckIn", "(I)I"⟩ : Jvm.Cond)), (21, (.selects "Scrubward$Memory" ⟨"Scrubward$Memory", "isLeakable", "(II)Z"⟩ ⟨"Scrubward$Memory", "isLeakable", "(II)Z"⟩ : Jvm.Cond)), (22, (.selects "Scrubward$Memory" ⟨"Scrubward$Memory", "isOverWithin", "(II)Z"⟩ ⟨"Scrubward$Memory", "isOverWithin", "(II)Z"⟩ : Jvm.Cond)), (23, (.selects "Scrubward" ⟨"Scrubward", "rowsHaveOwnLines", "()Z"⟩ ⟨"Scrubward", "rowsHaveOwnLines", "()Z"⟩ : Jvm.Cond)), (24, (.selects "Scrubward" ⟨"Scrubward", "rowOn", "(II)I"⟩ ⟨"Scrubward", "rowOn", "(II)I"⟩ : Jvm.Cond)), (25, (.selects "Scrubward$Code" ⟨"Scrubward$Code", "oneIfMended", "(I)I"⟩ ⟨"Scrubward$Code", "oneIfMended", "(I)I"⟩ : Jvm.Cond)), (26, (.selects "Scrubward$Code" ⟨"Scrubward$Code", "thirdBits", "(II)I"⟩ ⟨"Scrubward$Code", "thirdBits", "(II)I"⟩ : Jvm.Cond)), (27, (.selects "Scrubward" ⟨"Scrubward", "mixBank", "(JI)J"⟩ ⟨"Scrubward", "mixBank", "(JI)J"⟩ : Jvm.Cond)), (28, (.selects "Scrubward$Log" ⟨"Scrubward$Log", "guiltyCell", "(I)I"⟩ ⟨"Scrubward$Log", "guiltyCell", "(I)I"⟩ : Jvm.Cond)), (29, (.selects "Scrubward$Log" ⟨"Scrubward$Log", "isMendedIn", "(II)Z"⟩ ⟨"Scrubward$Log", "isMendedIn", "(II)Z"⟩ : Jvm.Cond)), (30, (.selects "Scrubward$Log" ⟨"Scrubward$Log", "isToldAgain", "(I)Z"⟩ ⟨"Scrubward$Log", "isToldAgain", "(I)Z"⟩ : Jvm.Cond)), (31, (.selects "Scrubward$Log" ⟨"Scrubward$Log", "isGuilty", "(III)Z"⟩ ⟨"Scrubward$Log", "isGuilty", "(III)Z"⟩ : Jvm.Cond)), (32, (.initialized "ScrubwardLaw" : Jvm.Cond)), (33, (.initialized "Scrubward" : Jvm.Cond)), (34, (.initialized "Scrubward$Code" : Jvm.Cond)), (35, (.initialized "Scrubward$Ints" : Jvm.Cond)), (36, (.initialized "Scrubward$Memory" : Jvm.Cond)), (37, (.initialized "Scrubward$Faults" : Jvm.Cond)), (38, (.initialized "Scrubward$Log" : Jvm.Cond)), (39, (.initialized "java/lang/Integer" : Jvm.Cond))]
theorem zwb0_ok : zwb0.all (fun q => decide ((lw_tbl.drop 0)[q.1]? = some q.2) && goodWord q.2) = true := by decide +kernel
theorem zw0 : (.selects "Scrubward$Code" ⟨"Scrubward$Code", "makeDataColumns", "()V"⟩ ⟨"Scrubward$Code", "makeDataColumns", "()V"⟩ : Jvm.Cond) ∈ zB := zbd (j := 0) zwb0_ok rfl
theorem zw1 : (.selects "Scrubward$Memory" ⟨"Scrubward$Memory", "asStuck", "(II)I"⟩ ⟨"Scrubward$Memory", "asStuck", "(II)I"⟩ : Jvm.Cond) ∈ zB := zbd (j := 1) zwb0_ok rfl
theorem zw3 : (.selects "Scrubward" ⟨"Scrubward", "checkData", "(I)V"⟩ ⟨"Scrubward", "checkData", "(I)V"⟩ : Jvm.Cond) ∈ zB := zbd (j := 2) zwb0_ok rfl
theorem zw4 : (.selects "Scrubward" ⟨"Scrubward", "checkNotRetired", "(I)V"⟩ ⟨"Scrubward", "checkNotRetired", "(I)V"⟩ : Jvm.Cond) ∈ zB := zbd (j := 3) zwb0_ok rfl
theorem zw5 : (.selects "Scrubward" ⟨"Scrubward", "isRetired", "(I)Z"⟩ ⟨"Scrubward", "isRetired", "(I)Z"⟩ : Jvm.Cond) ∈ zB := zbd (j := 4) zwb0_ok rfl
theorem zw6 : (.selects "Scrubward" ⟨"Scrubward", "store", "(II)V"⟩ ⟨"Scrubward", "store", "(II)V"⟩ : Jvm.Cond) ∈ zB := zbd (j := 5) zwb0_ok rfl
theorem zw7 : (.selects "Scrubward" ⟨"Scrubward", "lineAt", "(I)I"⟩ ⟨"Scrubward", "lineAt", "(I)I"⟩ : Jvm.Cond) ∈ zB := zbd (j := 6) zwb0_ok rfl
theorem zw8 : (.selects "Scrubward$Memory" ⟨"Scrubward$Memory", "turnDrawnBit", "(I)V"⟩ ⟨"Scrubward$Memory", "turnDrawnBit", "(I)V"⟩ : Jvm.Cond) ∈ zB := zbd (j := 7) zwb0_ok rfl
theorem zw9 : (.selects "Scrubward$Memory" ⟨"Scrubward$Memory", "draw", "()I"⟩ ⟨"Scrubward$Memory", "draw", "()I"⟩ : Jvm.Cond) ∈ zB := zbd (j := 8) zwb0_ok rfl
theorem zw10 : (.selects "Scrubward" ⟨"Scrubward", "replace", "(II)V"⟩ ⟨"Scrubward", "replace", "(II)V"⟩ : Jvm.Cond) ∈ zB := zbd (j := 9) zwb0_ok rfl
theorem zw11 : (.selects "Scrubward" ⟨"Scrubward", "cellAt", "(I)I"⟩ ⟨"Scrubward", "cellAt", "(I)I"⟩ : Jvm.Cond) ∈ zB := zbd (j := 10) zwb0_ok rfl
theorem zw12 : (.selects "Scrubward" ⟨"Scrubward", "wordAt", "(I)I"⟩ ⟨"Scrubward", "wordAt", "(I)I"⟩ : Jvm.Cond) ∈ zB := zbd (j := 11) zwb0_ok rfl
theorem zw13 : (.selects "Scrubward" ⟨"Scrubward", "dataAt", "(I)I"⟩ ⟨"Scrubward", "dataAt", "(I)I"⟩ : Jvm.Cond) ∈ zB := zbd (j := 12) zwb0_ok rfl
theorem zw14 : (.selects "Scrubward" ⟨"Scrubward", "isPoisoned", "(I)Z"⟩ ⟨"Scrubward", "isPoisoned", "(I)Z"⟩ : Jvm.Cond) ∈ zB := zbd (j := 13) zwb0_ok rfl
theorem zw15 : (.selects "Scrubward" ⟨"Scrubward", "report", "(IZ)V"⟩ ⟨"Scrubward", "report", "(IZ)V"⟩ : Jvm.Cond) ∈ zB := zbd (j := 14) zwb0_ok rfl
theorem zw16 : (.selects "Scrubward" ⟨"Scrubward", "readTwin", "(I)I"⟩ ⟨"Scrubward", "readTwin", "(I)I"⟩ : Jvm.Cond) ∈ zB := zbd (j := 15) zwb0_ok rfl
theorem zw17 : (.selects "Scrubward$Memory" ⟨"Scrubward$Memory", "isRefreshedAt", "(I)Z"⟩ ⟨"Scrubward$Memory", "isRefreshedAt", "(I)Z"⟩ : Jvm.Cond) ∈ zB := zbd (j := 16) zwb0_ok rfl
theorem zw18 : (.selects "Scrubward" ⟨"Scrubward", "scrubSteps", "()V"⟩ ⟨"Scrubward", "scrubSteps", "()V"⟩ : Jvm.Cond) ∈ zB := zbd (j := 17) zwb0_ok rfl
theorem zw19 : (.selects "Scrubward" ⟨"Scrubward", "uncleanIn", "(I)I"⟩ ⟨"Scrubward", "uncleanIn", "(I)I"⟩ : Jvm.Cond) ∈ zB := zbd (j := 18) zwb0_ok rfl
theorem zw20 : (.selects "Scrubward" ⟨"Scrubward", "stuckIn", "(I)I"⟩ ⟨"Scrubward", "stuckIn", "(I)I"⟩ : Jvm.Cond) ∈ zB := zbd (j := 19) zwb0_ok rfl
theorem zw21 : (.selects "Scrubward$Memory" ⟨"Scrubward$Memory", "isLeakable", "(II)Z"⟩ ⟨"Scrubward$Memory", "isLeakable", "(II)Z"⟩ : Jvm.Cond) ∈ zB := zbd (j := 20) zwb0_ok rfl
theorem zw22 : (.selects "Scrubward$Memory" ⟨"Scrubward$Memory", "isOverWithin", "(II)Z"⟩ ⟨"Scrubward$Memory", "isOverWithin", "(II)Z"⟩ : Jvm.Cond) ∈ zB := zbd (j := 21) zwb0_ok rfl
theorem zw23 : (.selects "Scrubward" ⟨"Scrubward", "rowsHaveOwnLines", "()Z"⟩ ⟨"Scrubward", "rowsHaveOwnLines", "()Z"⟩ : Jvm.Cond) ∈ zB := zbd (j := 22) zwb0_ok rfl
theorem zw24 : (.selects "Scrubward" ⟨"Scrubward", "rowOn", "(II)I"⟩ ⟨"Scrubward", "rowOn", "(II)I"⟩ : Jvm.Cond) ∈ zB := zbd (j := 23) zwb0_ok rfl
theorem zw25 : (.selects "Scrubward$Code" ⟨"Scrubward$Code", "oneIfMended", "(I)I"⟩ ⟨"Scrubward$Code", "oneIfMended", "(I)I"⟩ : Jvm.Cond) ∈ zB := zbd (j := 24) zwb0_ok rfl
theorem zw26 : (.selects "Scrubward$Code" ⟨"Scrubward$Code", "thirdBits", "(II)I"⟩ ⟨"Scrubward$Code", "thirdBits", "(II)I"⟩ : Jvm.Cond) ∈ zB := zbd (j := 25) zwb0_ok rfl
theorem zw27 : (.selects "Scrubward" ⟨"Scrubward", "mixBank", "(JI)J"⟩ ⟨"Scrubward", "mixBank", "(JI)J"⟩ : Jvm.Cond) ∈ zB := zbd (j := 26) zwb0_ok rfl
theorem zw28 : (.selects "Scrubward$Log" ⟨"Scrubward$Log", "guiltyCell", "(I)I"⟩ ⟨"Scrubward$Log", "guiltyCell", "(I)I"⟩ : Jvm.Cond) ∈ zB := zbd (j := 27) zwb0_ok rfl
theorem zw29 : (.selects "Scrubward$Log" ⟨"Scrubward$Log", "isMendedIn", "(II)Z"⟩ ⟨"Scrubward$Log", "isMendedIn", "(II)Z"⟩ : Jvm.Cond) ∈ zB := zbd (j := 28) zwb0_ok rfl
theorem zw30 : (.selects "Scrubward$Log" ⟨"Scrubward$Log", "isToldAgain", "(I)Z"⟩ ⟨"Scrubward$Log", "isToldAgain", "(I)Z"⟩ : Jvm.Cond) ∈ zB := zbd (j := 29) zwb0_ok rfl
theorem zw31 : (.selects "Scrubward$Log" ⟨"Scrubward$Log", "isGuilty", "(III)Z"⟩ ⟨"Scrubward$Log", "isGuilty", "(III)Z"⟩ : Jvm.Cond) ∈ zB := zbd (j := 30) zwb0_ok rfl
theorem zw32 : (.initialized "ScrubwardLaw" : Jvm.Cond) ∈ zB := zbd (j := 31) zwb0_ok rfl
theorem zw33 : (.initialized "Scrubward" : Jvm.Cond) ∈ zB := zbd (j := 32) zwb0_ok rfl
theorem zw34 : (.initialized "Scrubward$Code" : Jvm.Cond) ∈ zB := zbd (j := 33) zwb0_ok rfl
theorem zw35 : (.initialized "Scrubward$Ints" : Jvm.Cond) ∈ zB := zbd (j := 34) zwb0_ok rfl
theorem zw36 : (.initialized "Scrubward$Memory" : Jvm.Cond) ∈ zB := zbd (j := 35) zwb0_ok rfl
theorem zw37 : (.initialized "Scrubward$Faults" : Jvm.Cond) ∈ zB := zbd (j := 36) zwb0_ok rfl
theorem zw38 : (.initialized "Scrubward$Log" : Jvm.Cond) ∈ zB := zbd (j := 37) zwb0_ok rfl
theorem zw39 : (.initialized "java/lang/Integer" : Jvm.Cond) ∈ zB := zbd (j := 38) zwb0_ok rfl
def zwb1 : List (Nat × Jvm.Cond) := [(6, (.classLink "ScrubwardLaw" 19 "Scrubward" : Jvm.Cond)), (7, (.instantiable "Scrubward" 12 : Jvm.Cond)), (8, (.methodLink "ScrubwardLaw" 21 ⟨"Scrubward", "<init>", "()V"⟩ : Jvm.Cond)), (9, (.instanceMethod ⟨"Scrubward", "<init>", "()V"⟩ : Jvm.Cond)), (10, (.code ⟨"Scrubward", "<init>", "()V"⟩ prog_1_method_1_code 2 (Option.none : Option Jvm.ClassFile.FieldType) : Jvm.Cond)), (11, (.methodLink "Scrubward" 3 ⟨"java/lang/Object", "<init>", "()V"⟩ : Jvm.Cond)), (14, (.classLink "Scrubward" 9 "Scrubward$Code" : Jvm.Cond)), (15, (.instantiable "Scrubward$Code" 5 : Jvm.Cond)), (17, (.instanceMethod ⟨"Scrubward$Code", "<init>", "()V"⟩ : Jvm.Cond)), (18, (.code ⟨"Scrubward$Code", "<init>", "()V"⟩ prog_2_method_1_code 1 (Option.none : Option Jvm.ClassFile.FieldType) : Jvm.Cond)), (19, (.methodLink "Scrubward$Code" 3 ⟨"java/lang/Object", "<init>", "()V"⟩ : Jvm.Cond)), (20, (.classLink "Scrubward$Code" 9 "Scrubward$Ints" : Jvm.Cond)), (21, (.instantiable "Scrubward$Ints" 1 : Jvm.Cond)), (22, (.methodLink "Scrubward$Code" 11 ⟨"Scrubward$Ints", "<init>", "(I)V"⟩ : Jvm.Cond)), (23, (.instanceMethod ⟨"Scrubward$Ints", "<init>", "(I)V"⟩ : Jvm.Cond)), (24, (.code ⟨"Scrubward$Ints", "<init>", "(I)V"⟩ prog_4_method_1_code 2 (Option.none : Option Jvm.ClassFile.FieldType) : Jvm.Cond)), (25, (.methodLink "Scrubward$Ints" 1 ⟨"java/lang/Object", "<init>", "()V"⟩ : Jvm.Cond)), (26, (.fieldLink "Scrubward$Ints" 7 "Scrubward$Ints" "items" "[I" : Jvm.Cond)), (27, (.laysFinal "Scrubward$Ints" "Scrubward$Ints" "items" "[I" : Jvm.Cond)), (30, (.arrayClass Jvm.ClassFile.FieldType.int : Jvm.Cond)), (31, (.fieldLink "Scrubward$Code" 14 "Scrubward$Code" "columns" "LScrubward$Ints;" : Jvm.Cond)), (33, (.fieldLink "Scrubward$Code" 20 "Scrubward$Code" "turns" "LScrubward$Ints;" : Jvm.Cond)), (34, (.fieldLink "Scrubward$Code" 33 "Scrubward$Code" "dataBits" "I" : Jvm.Cond)), (36, (.fieldLink "Scrubward$Code" 37 "Scrubward$Code" "checkBits" "I" : Jvm.Cond)), (39, (.fieldLink "Scrubward$Code" 40 "Scrubward$Code" "width" "I" : Jvm.Cond))]
theorem zwb1_ok : zwb1.all (fun q => decide ((lw_tbl.drop 40)[q.1]? = some q.2) && goodWord q.2) = true := by decide +kernel
theorem zw46 : (.classLink "ScrubwardLaw" 19 "Scrubward" : Jvm.Cond) ∈ zB := zbd (j := 0) zwb1_ok rfl
theorem zw47 : (.instantiable "Scrubward" 12 : Jvm.Cond) ∈ zB := zbd (j := 1) zwb1_ok rfl
theorem zw48 : (.methodLink "ScrubwardLaw" 21 ⟨"Scrubward", "<init>", "()V"⟩ : Jvm.Cond) ∈ zB := zbd (j := 2) zwb1_ok rfl
theorem zw49 : (.instanceMethod ⟨"Scrubward", "<init>", "()V"⟩ : Jvm.Cond) ∈ zB := zbd (j := 3) zwb1_ok rfl
theorem zw50 : (.code ⟨"Scrubward", "<init>", "()V"⟩ prog_1_method_1_code 2 (Option.none : Option Jvm.ClassFile.FieldType) : Jvm.Cond) ∈ zB := zbd (j := 4) zwb1_ok rfl
theorem zw51 : (.methodLink "Scrubward" 3 ⟨"java/lang/Object", "<init>", "()V"⟩ : Jvm.Cond) ∈ zB := zbd (j := 5) zwb1_ok rfl
theorem zw54 : (.classLink "Scrubward" 9 "Scrubward$Code" : Jvm.Cond) ∈ zB := zbd (j := 6) zwb1_ok rfl
theorem zw55 : (.instantiable "Scrubward$Code" 5 : Jvm.Cond) ∈ zB := zbd (j := 7) zwb1_ok rfl
theorem zw57 : (.instanceMethod ⟨"Scrubward$Code", "<init>", "()V"⟩ : Jvm.Cond) ∈ zB := zbd (j := 8) zwb1_ok rfl
theorem zw58 : (.code ⟨"Scrubward$Code", "<init>", "()V"⟩ prog_2_method_1_code 1 (Option.none : Option Jvm.ClassFile.FieldType) : Jvm.Cond) ∈ zB := zbd (j := 9) zwb1_ok rfl
theorem zw59 : (.methodLink "Scrubward$Code" 3 ⟨"java/lang/Object", "<init>", "()V"⟩ : Jvm.Cond) ∈ zB := zbd (j := 10) zwb1_ok rfl
theorem zw60 : (.classLink "Scrubward$Code" 9 "Scrubward$Ints" : Jvm.Cond) ∈ zB := zbd (j := 11) zwb1_ok rfl
theorem zw61 : (.instantiable "Scrubward$Ints" 1 : Jvm.Cond) ∈ zB := zbd (j := 12) zwb1_ok rfl
theorem zw62 : (.methodLink "Scrubward$Code" 11 ⟨"Scrubward$Ints", "<init>", "(I)V"⟩ : Jvm.Cond) ∈ zB := zbd (j := 13) zwb1_ok rfl
theorem zw63 : (.instanceMethod ⟨"Scrubward$Ints", "<init>", "(I)V"⟩ : Jvm.Cond) ∈ zB := zbd (j := 14) zwb1_ok rfl
theorem zw64 : (.code ⟨"Scrubward$Ints", "<init>", "(I)V"⟩ prog_4_method_1_code 2 (Option.none : Option Jvm.ClassFile.FieldType) : Jvm.Cond) ∈ zB := zbd (j := 15) zwb1_ok rfl
theorem zw65 : (.methodLink "Scrubward$Ints" 1 ⟨"java/lang/Object", "<init>", "()V"⟩ : Jvm.Cond) ∈ zB := zbd (j := 16) zwb1_ok rfl
theorem zw66 : (.fieldLink "Scrubward$Ints" 7 "Scrubward$Ints" "items" "[I" : Jvm.Cond) ∈ zB := zbd (j := 17) zwb1_ok rfl
theorem zw67 : (.laysFinal "Scrubward$Ints" "Scrubward$Ints" "items" "[I" : Jvm.Cond) ∈ zB := zbd (j := 18) zwb1_ok rfl
theorem zw70 : (.arrayClass Jvm.ClassFile.FieldType.int : Jvm.Cond) ∈ zB := zbd (j := 19) zwb1_ok rfl
theorem zw71 : (.fieldLink "Scrubward$Code" 14 "Scrubward$Code" "columns" "LScrubward$Ints;" : Jvm.Cond) ∈ zB := zbd (j := 20) zwb1_ok rfl
theorem zw73 : (.fieldLink "Scrubward$Code" 20 "Scrubward$Code" "turns" "LScrubward$Ints;" : Jvm.Cond) ∈ zB := zbd (j := 21) zwb1_ok rfl
theorem zw74 : (.fieldLink "Scrubward$Code" 33 "Scrubward$Code" "dataBits" "I" : Jvm.Cond) ∈ zB := zbd (j := 22) zwb1_ok rfl
theorem zw76 : (.fieldLink "Scrubward$Code" 37 "Scrubward$Code" "checkBits" "I" : Jvm.Cond) ∈ zB := zbd (j := 23) zwb1_ok rfl
theorem zw79 : (.fieldLink "Scrubward$Code" 40 "Scrubward$Code" "width" "I" : Jvm.Cond) ∈ zB := zbd (j := 24) zwb1_ok rfl
def zwb2 : List (Nat × Jvm.Cond) := [(0, (.laysFinal "Scrubward$Code" "Scrubward$Code" "columns" "LScrubward$Ints;" : Jvm.Cond)), (2, (.laysFinal "Scrubward$Code" "Scrubward$Code" "turns" "LScrubward$Ints;" : Jvm.Cond)), (4, (.lays "Scrubward$Code" "Scrubward$Code" "dataBits" "I" : Jvm.Cond)), (6, (.lays "Scrubward$Code" "Scrubward$Code" "checkBits" "I" : Jvm.Cond)), (8, (.lays "Scrubward$Code" "Scrubward$Code" "width" "I" : Jvm.Cond)), (11, (.classLink "Scrubward" 16 "Scrubward$Memory" : Jvm.Cond)), (12, (.instantiable "Scrubward$Memory" 12 : Jvm.Cond)), (14, (.instanceMethod ⟨"Scrubward$Memory", "<init>", "()V"⟩ : Jvm.Cond)), (15, (.code ⟨"Scrubward$Memory", "<init>", "()V"⟩ prog_6_method_1_code 1 (Option.none : Option Jvm.ClassFile.FieldType) : Jvm.Cond)), (16, (.methodLink "Scrubward$Memory" 3 ⟨"java/lang/Object", "<init>", "()V"⟩ : Jvm.Cond)), (17, (.classLink "Scrubward$Memory" 9 "Scrubward$Ints" : Jvm.Cond)), (18, (.methodLink "Scrubward$Memory" 11 ⟨"Scrubward$Ints", "<init>", "(I)V"⟩ : Jvm.Cond)), (19, (.classLink "Scrubward$Memory" 29 "Scrubward$Faults" : Jvm.Cond)), (20, (.instantiable "Scrubward$Faults" 4 : Jvm.Cond)), (22, (.instanceMethod ⟨"Scrubward$Faults", "<init>", "()V"⟩ : Jvm.Cond)), (23, (.code ⟨"Scrubward$Faults", "<init>", "()V"⟩ prog_3_method_1_code 1 (Option.none : Option Jvm.ClassFile.FieldType) : Jvm.Cond)), (24, (.methodLink "Scrubward$Faults" 3 ⟨"java/lang/Object", "<init>", "()V"⟩ : Jvm.Cond)), (25, (.classLink "Scrubward$Faults" 9 "Scrubward$Ints" : Jvm.Cond)), (26, (.methodLink "Scrubward$Faults" 11 ⟨"Scrubward$Ints", "<init>", "(I)V"⟩ : Jvm.Cond)), (27, (.fieldLink "Scrubward$Faults" 14 "Scrubward$Faults" "cells" "LScrubward$Ints;" : Jvm.Cond)), (29, (.fieldLink "Scrubward$Faults" 20 "Scrubward$Faults" "masks" "LScrubward$Ints;" : Jvm.Cond)), (31, (.fieldLink "Scrubward$Faults" 23 "Scrubward$Faults" "values" "LScrubward$Ints;" : Jvm.Cond)), (33, (.fieldLink "Scrubward$Faults" 26 "Scrubward$Faults" "count" "I" : Jvm.Cond)), (36, (.laysFinal "Scrubward$Faults" "Scrubward$Faults" "cells" "LScrubward$Ints;" : Jvm.Cond)), (38, (.laysFinal "Scrubward$Faults" "Scrubward$Faults" "masks" "LScrubward$Ints;" : Jvm.Cond))]
theorem zwb2_ok : zwb2.all (fun q => decide ((lw_tbl.drop 80)[q.1]? = some q.2) && goodWord q.2) = true := by decide +kernel
theorem zw80 : (.laysFinal "Scrubward$Code" "Scrubward$Code" "columns" "LScrubward$Ints;" : Jvm.Cond) ∈ zB := zbd (j := 0) zwb2_ok rfl
theorem zw82 : (.laysFinal "Scrubward$Code" "Scrubward$Code" "turns" "LScrubward$Ints;" : Jvm.Cond) ∈ zB := zbd (j := 1) zwb2_ok rfl
theorem zw84 : (.lays "Scrubward$Code" "Scrubward$Code" "dataBits" "I" : Jvm.Cond) ∈ zB := zbd (j := 2) zwb2_ok rfl
theorem zw86 : (.lays "Scrubward$Code" "Scrubward$Code" "checkBits" "I" : Jvm.Cond) ∈ zB := zbd (j := 3) zwb2_ok rfl
theorem zw88 : (.lays "Scrubward$Code" "Scrubward$Code" "width" "I" : Jvm.Cond) ∈ zB := zbd (j := 4) zwb2_ok rfl
theorem zw91 : (.classLink "Scrubward" 16 "Scrubward$Memory" : Jvm.Cond) ∈ zB := zbd (j := 5) zwb2_ok rfl
theorem zw92 : (.instantiable "Scrubward$Memory" 12 : Jvm.Cond) ∈ zB := zbd (j := 6) zwb2_ok rfl
theorem zw94 : (.instanceMethod ⟨"Scrubward$Memory", "<init>", "()V"⟩ : Jvm.Cond) ∈ zB := zbd (j := 7) zwb2_ok rfl
theorem zw95 : (.code ⟨"Scrubward$Memory", "<init>", "()V"⟩ prog_6_method_1_code 1 (Option.none : Option Jvm.ClassFile.FieldType) : Jvm.Cond) ∈ zB := zbd (j := 8) zwb2_ok rfl
theorem zw96 : (.methodLink "Scrubward$Memory" 3 ⟨"java/lang/Object", "<init>", "()V"⟩ : Jvm.Cond) ∈ zB := zbd (j := 9) zwb2_ok rfl
theorem zw97 : (.classLink "Scrubward$Memory" 9 "Scrubward$Ints" : Jvm.Cond) ∈ zB := zbd (j := 10) zwb2_ok rfl
theorem zw98 : (.methodLink "Scrubward$Memory" 11 ⟨"Scrubward$Ints", "<init>", "(I)V"⟩ : Jvm.Cond) ∈ zB := zbd (j := 11) zwb2_ok rfl
theorem zw99 : (.classLink "Scrubward$Memory" 29 "Scrubward$Faults" : Jvm.Cond) ∈ zB := zbd (j := 12) zwb2_ok rfl
theorem zw100 : (.instantiable "Scrubward$Faults" 4 : Jvm.Cond) ∈ zB := zbd (j := 13) zwb2_ok rfl
theorem zw102 : (.instanceMethod ⟨"Scrubward$Faults", "<init>", "()V"⟩ : Jvm.Cond) ∈ zB := zbd (j := 14) zwb2_ok rfl
theorem zw103 : (.code ⟨"Scrubward$Faults", "<init>", "()V"⟩ prog_3_method_1_code 1 (Option.none : Option Jvm.ClassFile.FieldType) : Jvm.Cond) ∈ zB := zbd (j := 15) zwb2_ok rfl
theorem zw104 : (.methodLink "Scrubward$Faults" 3 ⟨"java/lang/Object", "<init>", "()V"⟩ : Jvm.Cond) ∈ zB := zbd (j := 16) zwb2_ok rfl
theorem zw105 : (.classLink "Scrubward$Faults" 9 "Scrubward$Ints" : Jvm.Cond) ∈ zB := zbd (j := 17) zwb2_ok rfl
theorem zw106 : (.methodLink "Scrubward$Faults" 11 ⟨"Scrubward$Ints", "<init>", "(I)V"⟩ : Jvm.Cond) ∈ zB := zbd (j := 18) zwb2_ok rfl
theorem zw107 : (.fieldLink "Scrubward$Faults" 14 "Scrubward$Faults" "cells" "LScrubward$Ints;" : Jvm.Cond) ∈ zB := zbd (j := 19) zwb2_ok rfl
theorem zw109 : (.fieldLink "Scrubward$Faults" 20 "Scrubward$Faults" "masks" "LScrubward$Ints;" : Jvm.Cond) ∈ zB := zbd (j := 20) zwb2_ok rfl
theorem zw111 : (.fieldLink "Scrubward$Faults" 23 "Scrubward$Faults" "values" "LScrubward$Ints;" : Jvm.Cond) ∈ zB := zbd (j := 21) zwb2_ok rfl
theorem zw113 : (.fieldLink "Scrubward$Faults" 26 "Scrubward$Faults" "count" "I" : Jvm.Cond) ∈ zB := zbd (j := 22) zwb2_ok rfl
theorem zw116 : (.laysFinal "Scrubward$Faults" "Scrubward$Faults" "cells" "LScrubward$Ints;" : Jvm.Cond) ∈ zB := zbd (j := 23) zwb2_ok rfl
theorem zw118 : (.laysFinal "Scrubward$Faults" "Scrubward$Faults" "masks" "LScrubward$Ints;" : Jvm.Cond) ∈ zB := zbd (j := 24) zwb2_ok rfl
def zwb3 : List (Nat × Jvm.Cond) := [(0, (.laysFinal "Scrubward$Faults" "Scrubward$Faults" "values" "LScrubward$Ints;" : Jvm.Cond)), (2, (.lays "Scrubward$Faults" "Scrubward$Faults" "count" "I" : Jvm.Cond)), (5, (.fieldLink "Scrubward$Memory" 14 "Scrubward$Memory" "words" "LScrubward$Ints;" : Jvm.Cond)), (7, (.fieldLink "Scrubward$Memory" 20 "Scrubward$Memory" "counts" "LScrubward$Ints;" : Jvm.Cond)), (9, (.fieldLink "Scrubward$Memory" 23 "Scrubward$Memory" "freshAt" "LScrubward$Ints;" : Jvm.Cond)), (11, (.fieldLink "Scrubward$Memory" 26 "Scrubward$Memory" "leaked" "LScrubward$Ints;" : Jvm.Cond)), (12, (.fieldLink "Scrubward$Memory" 32 "Scrubward$Memory" "stuck" "LScrubward$Faults;" : Jvm.Cond)), (14, (.fieldLink "Scrubward$Memory" 36 "Scrubward$Memory" "weak" "LScrubward$Faults;" : Jvm.Cond)), (16, (.fieldLink "Scrubward$Memory" 49 "Scrubward$Memory" "width" "I" : Jvm.Cond)), (17, (.fieldLink "Scrubward$Memory" 85 "Scrubward$Memory" "tick" "I" : Jvm.Cond)), (19, (.fieldLink "Scrubward$Memory" 39 "Scrubward$Memory" "period" "I" : Jvm.Cond)), (21, (.fieldLink "Scrubward$Memory" 43 "Scrubward$Memory" "limit" "I" : Jvm.Cond)), (23, (.fieldLink "Scrubward$Memory" 46 "Scrubward$Memory" "nextDrawn" "I" : Jvm.Cond)), (24, (.fieldLink "Scrubward$Memory" 95 "Scrubward$Memory" "drawnEver" "I" : Jvm.Cond)), (26, (.laysFinal "Scrubward$Memory" "Scrubward$Memory" "words" "LScrubward$Ints;" : Jvm.Cond)), (28, (.laysFinal "Scrubward$Memory" "Scrubward$Memory" "counts" "LScrubward$Ints;" : Jvm.Cond)), (30, (.laysFinal "Scrubward$Memory" "Scrubward$Memory" "freshAt" "LScrubward$Ints;" : Jvm.Cond)), (32, (.laysFinal "Scrubward$Memory" "Scrubward$Memory" "leaked" "LScrubward$Ints;" : Jvm.Cond)), (34, (.laysFinal "Scrubward$Memory" "Scrubward$Memory" "stuck" "LScrubward$Faults;" : Jvm.Cond)), (36, (.laysFinal "Scrubward$Memory" "Scrubward$Memory" "weak" "LScrubward$Faults;" : Jvm.Cond)), (38, (.lays "Scrubward$Memory" "Scrubward$Memory" "width" "I" : Jvm.Cond))]
theorem zwb3_ok : zwb3.all (fun q => decide ((lw_tbl.drop 120)[q.1]? = some q.2) && goodWord q.2) = true := by decide +kernel
theorem zw120 : (.laysFinal "Scrubward$Faults" "Scrubward$Faults" "values" "LScrubward$Ints;" : Jvm.Cond) ∈ zB := zbd (j := 0) zwb3_ok rfl
theorem zw122 : (.lays "Scrubward$Faults" "Scrubward$Faults" "count" "I" : Jvm.Cond) ∈ zB := zbd (j := 1) zwb3_ok rfl
theorem zw125 : (.fieldLink "Scrubward$Memory" 14 "Scrubward$Memory" "words" "LScrubward$Ints;" : Jvm.Cond) ∈ zB := zbd (j := 2) zwb3_ok rfl
theorem zw127 : (.fieldLink "Scrubward$Memory" 20 "Scrubward$Memory" "counts" "LScrubward$Ints;" : Jvm.Cond) ∈ zB := zbd (j := 3) zwb3_ok rfl
theorem zw129 : (.fieldLink "Scrubward$Memory" 23 "Scrubward$Memory" "freshAt" "LScrubward$Ints;" : Jvm.Cond) ∈ zB := zbd (j := 4) zwb3_ok rfl
theorem zw131 : (.fieldLink "Scrubward$Memory" 26 "Scrubward$Memory" "leaked" "LScrubward$Ints;" : Jvm.Cond) ∈ zB := zbd (j := 5) zwb3_ok rfl
theorem zw132 : (.fieldLink "Scrubward$Memory" 32 "Scrubward$Memory" "stuck" "LScrubward$Faults;" : Jvm.Cond) ∈ zB := zbd (j := 6) zwb3_ok rfl
theorem zw134 : (.fieldLink "Scrubward$Memory" 36 "Scrubward$Memory" "weak" "LScrubward$Faults;" : Jvm.Cond) ∈ zB := zbd (j := 7) zwb3_ok rfl
theorem zw136 : (.fieldLink "Scrubward$Memory" 49 "Scrubward$Memory" "width" "I" : Jvm.Cond) ∈ zB := zbd (j := 8) zwb3_ok rfl
theorem zw137 : (.fieldLink "Scrubward$Memory" 85 "Scrubward$Memory" "tick" "I" : Jvm.Cond) ∈ zB := zbd (j := 9) zwb3_ok rfl
theorem zw139 : (.fieldLink "Scrubward$Memory" 39 "Scrubward$Memory" "period" "I" : Jvm.Cond) ∈ zB := zbd (j := 10) zwb3_ok rfl
theorem zw141 : (.fieldLink "Scrubward$Memory" 43 "Scrubward$Memory" "limit" "I" : Jvm.Cond) ∈ zB := zbd (j := 11) zwb3_ok rfl
theorem zw143 : (.fieldLink "Scrubward$Memory" 46 "Scrubward$Memory" "nextDrawn" "I" : Jvm.Cond) ∈ zB := zbd (j := 12) zwb3_ok rfl
theorem zw144 : (.fieldLink "Scrubward$Memory" 95 "Scrubward$Memory" "drawnEver" "I" : Jvm.Cond) ∈ zB := zbd (j := 13) zwb3_ok rfl
theorem zw146 : (.laysFinal "Scrubward$Memory" "Scrubward$Memory" "words" "LScrubward$Ints;" : Jvm.Cond) ∈ zB := zbd (j := 14) zwb3_ok rfl
theorem zw148 : (.laysFinal "Scrubward$Memory" "Scrubward$Memory" "counts" "LScrubward$Ints;" : Jvm.Cond) ∈ zB := zbd (j := 15) zwb3_ok rfl
theorem zw150 : (.laysFinal "Scrubward$Memory" "Scrubward$Memory" "freshAt" "LScrubward$Ints;" : Jvm.Cond) ∈ zB := zbd (j := 16) zwb3_ok rfl
theorem zw152 : (.laysFinal "Scrubward$Memory" "Scrubward$Memory" "leaked" "LScrubward$Ints;" : Jvm.Cond) ∈ zB := zbd (j := 17) zwb3_ok rfl
theorem zw154 : (.laysFinal "Scrubward$Memory" "Scrubward$Memory" "stuck" "LScrubward$Faults;" : Jvm.Cond) ∈ zB := zbd (j := 18) zwb3_ok rfl
theorem zw156 : (.laysFinal "Scrubward$Memory" "Scrubward$Memory" "weak" "LScrubward$Faults;" : Jvm.Cond) ∈ zB := zbd (j := 19) zwb3_ok rfl
theorem zw158 : (.lays "Scrubward$Memory" "Scrubward$Memory" "width" "I" : Jvm.Cond) ∈ zB := zbd (j := 20) zwb3_ok rfl
def zwb4 : List (Nat × Jvm.Cond) := [(0, (.lays "Scrubward$Memory" "Scrubward$Memory" "tick" "I" : Jvm.Cond)), (2, (.lays "Scrubward$Memory" "Scrubward$Memory" "period" "I" : Jvm.Cond)), (4, (.lays "Scrubward$Memory" "Scrubward$Memory" "limit" "I" : Jvm.Cond)), (6, (.lays "Scrubward$Memory" "Scrubward$Memory" "nextDrawn" "I" : Jvm.Cond)), (8, (.lays "Scrubward$Memory" "Scrubward$Memory" "drawnEver" "I" : Jvm.Cond)), (11, (.classLink "Scrubward" 23 "Scrubward$Log" : Jvm.Cond)), (12, (.instantiable "Scrubward$Log" 6 : Jvm.Cond)), (14, (.instanceMethod ⟨"Scrubward$Log", "<init>", "()V"⟩ : Jvm.Cond)), (15, (.code ⟨"Scrubward$Log", "<init>", "()V"⟩ prog_5_method_1_code 1 (Option.none : Option Jvm.ClassFile.FieldType) : Jvm.Cond)), (16, (.methodLink "Scrubward$Log" 3 ⟨"java/lang/Object", "<init>", "()V"⟩ : Jvm.Cond)), (17, (.classLink "Scrubward$Log" 9 "Scrubward$Ints" : Jvm.Cond)), (18, (.methodLink "Scrubward$Log" 11 ⟨"Scrubward$Ints", "<init>", "(I)V"⟩ : Jvm.Cond)), (19, (.fieldLink "Scrubward$Log" 14 "Scrubward$Log" "addresses" "LScrubward$Ints;" : Jvm.Cond)), (21, (.fieldLink "Scrubward$Log" 20 "Scrubward$Log" "bits" "LScrubward$Ints;" : Jvm.Cond)), (23, (.fieldLink "Scrubward$Log" 23 "Scrubward$Log" "ticks" "LScrubward$Ints;" : Jvm.Cond)), (25, (.fieldLink "Scrubward$Log" 26 "Scrubward$Log" "count" "I" : Jvm.Cond)), (27, (.fieldLink "Scrubward$Log" 33 "Scrubward$Log" "mendedEver" "I" : Jvm.Cond)), (29, (.fieldLink "Scrubward$Log" 30 "Scrubward$Log" "badEver" "I" : Jvm.Cond)), (31, (.laysFinal "Scrubward$Log" "Scrubward$Log" "addresses" "LScrubward$Ints;" : Jvm.Cond)), (33, (.laysFinal "Scrubward$Log" "Scrubward$Log" "bits" "LScrubward$Ints;" : Jvm.Cond)), (35, (.laysFinal "Scrubward$Log" "Scrubward$Log" "ticks" "LScrubward$Ints;" : Jvm.Cond)), (37, (.lays "Scrubward$Log" "Scrubward$Log" "count" "I" : Jvm.Cond)), (39, (.lays "Scrubward$Log" "Scrubward$Log" "mendedEver" "I" : Jvm.Cond))]
theorem zwb4_ok : zwb4.all (fun q => decide ((lw_tbl.drop 160)[q.1]? = some q.2) && goodWord q.2) = true := by decide +kernel
theorem zw160 : (.lays "Scrubward$Memory" "Scrubward$Memory" "tick" "I" : Jvm.Cond) ∈ zB := zbd (j := 0) zwb4_ok rfl
theorem zw162 : (.lays "Scrubward$Memory" "Scrubward$Memory" "period" "I" : Jvm.Cond) ∈ zB := zbd (j := 1) zwb4_ok rfl
theorem zw164 : (.lays "Scrubward$Memory" "Scrubward$Memory" "limit" "I" : Jvm.Cond) ∈ zB := zbd (j := 2) zwb4_ok rfl
theorem zw166 : (.lays "Scrubward$Memory" "Scrubward$Memory" "nextDrawn" "I" : Jvm.Cond) ∈ zB := zbd (j := 3) zwb4_ok rfl
theorem zw168 : (.lays "Scrubward$Memory" "Scrubward$Memory" "drawnEver" "I" : Jvm.Cond) ∈ zB := zbd (j := 4) zwb4_ok rfl
theorem zw171 : (.classLink "Scrubward" 23 "Scrubward$Log" : Jvm.Cond) ∈ zB := zbd (j := 5) zwb4_ok rfl
theorem zw172 : (.instantiable "Scrubward$Log" 6 : Jvm.Cond) ∈ zB := zbd (j := 6) zwb4_ok rfl
theorem zw174 : (.instanceMethod ⟨"Scrubward$Log", "<init>", "()V"⟩ : Jvm.Cond) ∈ zB := zbd (j := 7) zwb4_ok rfl
theorem zw175 : (.code ⟨"Scrubward$Log", "<init>", "()V"⟩ prog_5_method_1_code 1 (Option.none : Option Jvm.ClassFile.FieldType) : Jvm.Cond) ∈ zB := zbd (j := 8) zwb4_ok rfl
theorem zw176 : (.methodLink "Scrubward$Log" 3 ⟨"java/lang/Object", "<init>", "()V"⟩ : Jvm.Cond) ∈ zB := zbd (j := 9) zwb4_ok rfl
theorem zw177 : (.classLink "Scrubward$Log" 9 "Scrubward$Ints" : Jvm.Cond) ∈ zB := zbd (j := 10) zwb4_ok rfl
theorem zw178 : (.methodLink "Scrubward$Log" 11 ⟨"Scrubward$Ints", "<init>", "(I)V"⟩ : Jvm.Cond) ∈ zB := zbd (j := 11) zwb4_ok rfl
theorem zw179 : (.fieldLink "Scrubward$Log" 14 "Scrubward$Log" "addresses" "LScrubward$Ints;" : Jvm.Cond) ∈ zB := zbd (j := 12) zwb4_ok rfl
theorem zw181 : (.fieldLink "Scrubward$Log" 20 "Scrubward$Log" "bits" "LScrubward$Ints;" : Jvm.Cond) ∈ zB := zbd (j := 13) zwb4_ok rfl
theorem zw183 : (.fieldLink "Scrubward$Log" 23 "Scrubward$Log" "ticks" "LScrubward$Ints;" : Jvm.Cond) ∈ zB := zbd (j := 14) zwb4_ok rfl
theorem zw185 : (.fieldLink "Scrubward$Log" 26 "Scrubward$Log" "count" "I" : Jvm.Cond) ∈ zB := zbd (j := 15) zwb4_ok rfl
theorem zw187 : (.fieldLink "Scrubward$Log" 33 "Scrubward$Log" "mendedEver" "I" : Jvm.Cond) ∈ zB := zbd (j := 16) zwb4_ok rfl
theorem zw189 : (.fieldLink "Scrubward$Log" 30 "Scrubward$Log" "badEver" "I" : Jvm.Cond) ∈ zB := zbd (j := 17) zwb4_ok rfl
theorem zw191 : (.laysFinal "Scrubward$Log" "Scrubward$Log" "addresses" "LScrubward$Ints;" : Jvm.Cond) ∈ zB := zbd (j := 18) zwb4_ok rfl
theorem zw193 : (.laysFinal "Scrubward$Log" "Scrubward$Log" "bits" "LScrubward$Ints;" : Jvm.Cond) ∈ zB := zbd (j := 19) zwb4_ok rfl
theorem zw195 : (.laysFinal "Scrubward$Log" "Scrubward$Log" "ticks" "LScrubward$Ints;" : Jvm.Cond) ∈ zB := zbd (j := 20) zwb4_ok rfl
theorem zw197 : (.lays "Scrubward$Log" "Scrubward$Log" "count" "I" : Jvm.Cond) ∈ zB := zbd (j := 21) zwb4_ok rfl
theorem zw199 : (.lays "Scrubward$Log" "Scrubward$Log" "mendedEver" "I" : Jvm.Cond) ∈ zB := zbd (j := 22) zwb4_ok rfl
def zwb5 : List (Nat × Jvm.Cond) := [(1, (.lays "Scrubward$Log" "Scrubward$Log" "badEver" "I" : Jvm.Cond)), (4, (.classLink "Scrubward" 30 "Scrubward$Ints" : Jvm.Cond)), (5, (.methodLink "Scrubward" 32 ⟨"Scrubward$Ints", "<init>", "(I)V"⟩ : Jvm.Cond)), (6, (.methodLink "Scrubward" 48 ⟨"Scrubward$Ints", "set", "(II)V"⟩ : Jvm.Cond)), (7, (.instanceMethod ⟨"Scrubward$Ints", "set", "(II)V"⟩ : Jvm.Cond)), (8, (.selects "Scrubward$Ints" ⟨"Scrubward$Ints", "set", "(II)V"⟩ ⟨"Scrubward$Ints", "set", "(II)V"⟩ : Jvm.Cond)), (9, (.code ⟨"Scrubward$Ints", "set", "(II)V"⟩ prog_4_method_3_code 3 (Option.none : Option Jvm.ClassFile.FieldType) : Jvm.Cond)), (10, (.methodLink "Scrubward" 52 ⟨"Scrubward$Code", "make", "(II)V"⟩ : Jvm.Cond)), (11, (.instanceMethod ⟨"Scrubward$Code", "make", "(II)V"⟩ : Jvm.Cond)), (12, (.selects "Scrubward$Code" ⟨"Scrubward$Code", "make", "(II)V"⟩ ⟨"Scrubward$Code", "make", "(II)V"⟩ : Jvm.Cond)), (13, (.code ⟨"Scrubward$Code", "make", "(II)V"⟩ prog_2_method_4_code 4 (Option.none : Option Jvm.ClassFile.FieldType) : Jvm.Cond)), (14, (.methodLink "Scrubward$Code" 43 ⟨"Scrubward$Code", "makeDataColumns", "()V"⟩ : Jvm.Cond)), (16, (.instanceMethod ⟨"Scrubward$Code", "makeDataColumns", "()V"⟩ : Jvm.Cond)), (17, (.code ⟨"Scrubward$Code", "makeDataColumns", "()V"⟩ prog_2_method_5_code 4 (Option.none : Option Jvm.ClassFile.FieldType) : Jvm.Cond)), (18, (.methodLink "Scrubward$Code" 23 ⟨"java/lang/Integer", "bitCount", "(I)I"⟩ : Jvm.Cond)), (19, (.static ⟨"java/lang/Integer", "bitCount", "(I)I"⟩ : Jvm.Cond)), (20, (.code ⟨"java/lang/Integer", "bitCount", "(I)I"⟩ prog_13_method_49_code 1 (Option.some Jvm.ClassFile.FieldType.int) : Jvm.Cond)), (21, (.constant "java/lang/Integer" 265 1431655765 : Jvm.Cond)), (22, (.constant "java/lang/Integer" 266 858993459 : Jvm.Cond)), (23, (.constant "java/lang/Integer" 267 252645135 : Jvm.Cond)), (24, (.methodLink "Scrubward$Code" 46 ⟨"Scrubward$Ints", "set", "(II)V"⟩ : Jvm.Cond)), (25, (.methodLink "Scrubward$Code" 50 ⟨"Scrubward$Ints", "fill", "(I)V"⟩ : Jvm.Cond)), (26, (.instanceMethod ⟨"Scrubward$Ints", "fill", "(I)V"⟩ : Jvm.Cond)), (27, (.selects "Scrubward$Ints" ⟨"Scrubward$Ints", "fill", "(I)V"⟩ ⟨"Scrubward$Ints", "fill", "(I)V"⟩ : Jvm.Cond)), (28, (.code ⟨"Scrubward$Ints", "fill", "(I)V"⟩ prog_4_method_4_code 3 (Option.none : Option Jvm.ClassFile.FieldType) : Jvm.Cond)), (29, (.methodLink "Scrubward$Code" 53 ⟨"Scrubward$Ints", "get", "(I)I"⟩ : Jvm.Cond)), (30, (.instanceMethod ⟨"Scrubward$Ints", "get", "(I)I"⟩ : Jvm.Cond)), (31, (.selects "Scrubward$Ints" ⟨"Scrubward$Ints", "get", "(I)I"⟩ ⟨"Scrubward$Ints", "get", "(I)I"⟩ : Jvm.Cond)), (32, (.code ⟨"Scrubward$Ints", "get", "(I)I"⟩ prog_4_method_2_code 2 (Option.some Jvm.ClassFile.FieldType.int) : Jvm.Cond)), (33, (.methodLink "Scrubward" 59 ⟨"Scrubward$Memory", "wipe", "(I)V"⟩ : Jvm.Cond)), (34, (.instanceMethod ⟨"Scrubward$Memory", "wipe", "(I)V"⟩ : Jvm.Cond)), (35, (.selects "Scrubward$Memory" ⟨"Scrubward$Memory", "wipe", "(I)V"⟩ ⟨"Scrubward$Memory", "wipe", "(I)V"⟩ : Jvm.Cond)), (36, (.code ⟨"Scrubward$Memory", "wipe", "(I)V"⟩ prog_6_method_2_code 3 (Option.none : Option Jvm.ClassFile.FieldType) : Jvm.Cond)), (37, (.methodLink "Scrubward$Memory" 52 ⟨"Scrubward$Faults", "keepBitsBelow", "(I)V"⟩ : Jvm.Cond)), (38, (.instanceMethod ⟨"Scrubward$Faults", "keepBitsBelow", "(I)V"⟩ : Jvm.Cond)), (39, (.selects "Scrubward$Faults" ⟨"Scrubward$Faults", "keepBitsBelow", "(I)V"⟩ ⟨"Scrubward$Faults", "keepBitsBelow", "(I)V"⟩ : Jvm.Cond))]
theorem zwb5_ok : zwb5.all (fun q => decide ((lw_tbl.drop 200)[q.1]? = some q.2) && goodWord q.2) = true := by decide +kernel
theorem zw201 : (.lays "Scrubward$Log" "Scrubward$Log" "badEver" "I" : Jvm.Cond) ∈ zB := zbd (j := 0) zwb5_ok rfl
theorem zw204 : (.classLink "Scrubward" 30 "Scrubward$Ints" : Jvm.Cond) ∈ zB := zbd (j := 1) zwb5_ok rfl
theorem zw205 : (.methodLink "Scrubward" 32 ⟨"Scrubward$Ints", "<init>", "(I)V"⟩ : Jvm.Cond) ∈ zB := zbd (j := 2) zwb5_ok rfl
theorem zw206 : (.methodLink "Scrubward" 48 ⟨"Scrubward$Ints", "set", "(II)V"⟩ : Jvm.Cond) ∈ zB := zbd (j := 3) zwb5_ok rfl
theorem zw207 : (.instanceMethod ⟨"Scrubward$Ints", "set", "(II)V"⟩ : Jvm.Cond) ∈ zB := zbd (j := 4) zwb5_ok rfl
theorem zw208 : (.selects "Scrubward$Ints" ⟨"Scrubward$Ints", "set", "(II)V"⟩ ⟨"Scrubward$Ints", "set", "(II)V"⟩ : Jvm.Cond) ∈ zB := zbd (j := 5) zwb5_ok rfl
theorem zw209 : (.code ⟨"Scrubward$Ints", "set", "(II)V"⟩ prog_4_method_3_code 3 (Option.none : Option Jvm.ClassFile.FieldType) : Jvm.Cond) ∈ zB := zbd (j := 6) zwb5_ok rfl
theorem zw210 : (.methodLink "Scrubward" 52 ⟨"Scrubward$Code", "make", "(II)V"⟩ : Jvm.Cond) ∈ zB := zbd (j := 7) zwb5_ok rfl
theorem zw211 : (.instanceMethod ⟨"Scrubward$Code", "make", "(II)V"⟩ : Jvm.Cond) ∈ zB := zbd (j := 8) zwb5_ok rfl
theorem zw212 : (.selects "Scrubward$Code" ⟨"Scrubward$Code", "make", "(II)V"⟩ ⟨"Scrubward$Code", "make", "(II)V"⟩ : Jvm.Cond) ∈ zB := zbd (j := 9) zwb5_ok rfl
theorem zw213 : (.code ⟨"Scrubward$Code", "make", "(II)V"⟩ prog_2_method_4_code 4 (Option.none : Option Jvm.ClassFile.FieldType) : Jvm.Cond) ∈ zB := zbd (j := 10) zwb5_ok rfl
theorem zw214 : (.methodLink "Scrubward$Code" 43 ⟨"Scrubward$Code", "makeDataColumns", "()V"⟩ : Jvm.Cond) ∈ zB := zbd (j := 11) zwb5_ok rfl
theorem zw216 : (.instanceMethod ⟨"Scrubward$Code", "makeDataColumns", "()V"⟩ : Jvm.Cond) ∈ zB := zbd (j := 12) zwb5_ok rfl
theorem zw217 : (.code ⟨"Scrubward$Code", "makeDataColumns", "()V"⟩ prog_2_method_5_code 4 (Option.none : Option Jvm.ClassFile.FieldType) : Jvm.Cond) ∈ zB := zbd (j := 13) zwb5_ok rfl
theorem zw218 : (.methodLink "Scrubward$Code" 23 ⟨"java/lang/Integer", "bitCount", "(I)I"⟩ : Jvm.Cond) ∈ zB := zbd (j := 14) zwb5_ok rfl
theorem zw219 : (.static ⟨"java/lang/Integer", "bitCount", "(I)I"⟩ : Jvm.Cond) ∈ zB := zbd (j := 15) zwb5_ok rfl
theorem zw220 : (.code ⟨"java/lang/Integer", "bitCount", "(I)I"⟩ prog_13_method_49_code 1 (Option.some Jvm.ClassFile.FieldType.int) : Jvm.Cond) ∈ zB := zbd (j := 16) zwb5_ok rfl
theorem zw221 : (.constant "java/lang/Integer" 265 1431655765 : Jvm.Cond) ∈ zB := zbd (j := 17) zwb5_ok rfl
theorem zw222 : (.constant "java/lang/Integer" 266 858993459 : Jvm.Cond) ∈ zB := zbd (j := 18) zwb5_ok rfl
theorem zw223 : (.constant "java/lang/Integer" 267 252645135 : Jvm.Cond) ∈ zB := zbd (j := 19) zwb5_ok rfl
theorem zw224 : (.methodLink "Scrubward$Code" 46 ⟨"Scrubward$Ints", "set", "(II)V"⟩ : Jvm.Cond) ∈ zB := zbd (j := 20) zwb5_ok rfl
theorem zw225 : (.methodLink "Scrubward$Code" 50 ⟨"Scrubward$Ints", "fill", "(I)V"⟩ : Jvm.Cond) ∈ zB := zbd (j := 21) zwb5_ok rfl
theorem zw226 : (.instanceMethod ⟨"Scrubward$Ints", "fill", "(I)V"⟩ : Jvm.Cond) ∈ zB := zbd (j := 22) zwb5_ok rfl
theorem zw227 : (.selects "Scrubward$Ints" ⟨"Scrubward$Ints", "fill", "(I)V"⟩ ⟨"Scrubward$Ints", "fill", "(I)V"⟩ : Jvm.Cond) ∈ zB := zbd (j := 23) zwb5_ok rfl
theorem zw228 : (.code ⟨"Scrubward$Ints", "fill", "(I)V"⟩ prog_4_method_4_code 3 (Option.none : Option Jvm.ClassFile.FieldType) : Jvm.Cond) ∈ zB := zbd (j := 24) zwb5_ok rfl
theorem zw229 : (.methodLink "Scrubward$Code" 53 ⟨"Scrubward$Ints", "get", "(I)I"⟩ : Jvm.Cond) ∈ zB := zbd (j := 25) zwb5_ok rfl
theorem zw230 : (.instanceMethod ⟨"Scrubward$Ints", "get", "(I)I"⟩ : Jvm.Cond) ∈ zB := zbd (j := 26) zwb5_ok rfl
theorem zw231 : (.selects "Scrubward$Ints" ⟨"Scrubward$Ints", "get", "(I)I"⟩ ⟨"Scrubward$Ints", "get", "(I)I"⟩ : Jvm.Cond) ∈ zB := zbd (j := 27) zwb5_ok rfl
theorem zw232 : (.code ⟨"Scrubward$Ints", "get", "(I)I"⟩ prog_4_method_2_code 2 (Option.some Jvm.ClassFile.FieldType.int) : Jvm.Cond) ∈ zB := zbd (j := 28) zwb5_ok rfl
theorem zw233 : (.methodLink "Scrubward" 59 ⟨"Scrubward$Memory", "wipe", "(I)V"⟩ : Jvm.Cond) ∈ zB := zbd (j := 29) zwb5_ok rfl
theorem zw234 : (.instanceMethod ⟨"Scrubward$Memory", "wipe", "(I)V"⟩ : Jvm.Cond) ∈ zB := zbd (j := 30) zwb5_ok rfl
theorem zw235 : (.selects "Scrubward$Memory" ⟨"Scrubward$Memory", "wipe", "(I)V"⟩ ⟨"Scrubward$Memory", "wipe", "(I)V"⟩ : Jvm.Cond) ∈ zB := zbd (j := 31) zwb5_ok rfl
theorem zw236 : (.code ⟨"Scrubward$Memory", "wipe", "(I)V"⟩ prog_6_method_2_code 3 (Option.none : Option Jvm.ClassFile.FieldType) : Jvm.Cond) ∈ zB := zbd (j := 32) zwb5_ok rfl
theorem zw237 : (.methodLink "Scrubward$Memory" 52 ⟨"Scrubward$Faults", "keepBitsBelow", "(I)V"⟩ : Jvm.Cond) ∈ zB := zbd (j := 33) zwb5_ok rfl
theorem zw238 : (.instanceMethod ⟨"Scrubward$Faults", "keepBitsBelow", "(I)V"⟩ : Jvm.Cond) ∈ zB := zbd (j := 34) zwb5_ok rfl
theorem zw239 : (.selects "Scrubward$Faults" ⟨"Scrubward$Faults", "keepBitsBelow", "(I)V"⟩ ⟨"Scrubward$Faults", "keepBitsBelow", "(I)V"⟩ : Jvm.Cond) ∈ zB := zbd (j := 35) zwb5_ok rfl
def zwb6 : List (Nat × Jvm.Cond) := [(0, (.code ⟨"Scrubward$Faults", "keepBitsBelow", "(I)V"⟩ prog_3_method_4_code 4 (Option.none : Option Jvm.ClassFile.FieldType) : Jvm.Cond)), (1, (.methodLink "Scrubward$Faults" 38 ⟨"Scrubward$Ints", "get", "(I)I"⟩ : Jvm.Cond)), (2, (.methodLink "Scrubward$Faults" 42 ⟨"Scrubward$Faults", "add", "(III)V"⟩ : Jvm.Cond)), (3, (.instanceMethod ⟨"Scrubward$Faults", "add", "(III)V"⟩ : Jvm.Cond)), (4, (.selects "Scrubward$Faults" ⟨"Scrubward$Faults", "add", "(III)V"⟩ ⟨"Scrubward$Faults", "add", "(III)V"⟩ : Jvm.Cond)), (5, (.code ⟨"Scrubward$Faults", "add", "(III)V"⟩ prog_3_method_3_code 4 (Option.none : Option Jvm.ClassFile.FieldType) : Jvm.Cond)), (6, (.methodLink "Scrubward$Faults" 30 ⟨"Scrubward$Faults", "isFull", "()Z"⟩ : Jvm.Cond)), (7, (.instanceMethod ⟨"Scrubward$Faults", "isFull", "()Z"⟩ : Jvm.Cond)), (8, (.selects "Scrubward$Faults" ⟨"Scrubward$Faults", "isFull", "()Z"⟩ ⟨"Scrubward$Faults", "isFull", "()Z"⟩ : Jvm.Cond)), (9, (.code ⟨"Scrubward$Faults", "isFull", "()Z"⟩ prog_3_method_2_code 1 (Option.some Jvm.ClassFile.FieldType.boolean) : Jvm.Cond)), (10, (.methodLink "Scrubward$Faults" 34 ⟨"Scrubward$Ints", "set", "(II)V"⟩ : Jvm.Cond)), (11, (.methodLink "Scrubward$Memory" 55 ⟨"Scrubward$Ints", "fill", "(I)V"⟩ : Jvm.Cond)), (12, (.methodLink "Scrubward$Memory" 58 ⟨"Scrubward$Memory", "put", "(II)V"⟩ : Jvm.Cond)), (13, (.instanceMethod ⟨"Scrubward$Memory", "put", "(II)V"⟩ : Jvm.Cond)), (14, (.selects "Scrubward$Memory" ⟨"Scrubward$Memory", "put", "(II)V"⟩ ⟨"Scrubward$Memory", "put", "(II)V"⟩ : Jvm.Cond)), (15, (.code ⟨"Scrubward$Memory", "put", "(II)V"⟩ prog_6_method_3_code 3 (Option.none : Option Jvm.ClassFile.FieldType) : Jvm.Cond)), (16, (.methodLink "Scrubward$Memory" 62 ⟨"Scrubward$Memory", "asStuck", "(II)I"⟩ : Jvm.Cond)), (18, (.instanceMethod ⟨"Scrubward$Memory", "asStuck", "(II)I"⟩ : Jvm.Cond)), (19, (.code ⟨"Scrubward$Memory", "asStuck", "(II)I"⟩ prog_6_method_4_code 6 (Option.some Jvm.ClassFile.FieldType.int) : Jvm.Cond)), (20, (.methodLink "Scrubward$Memory" 75 ⟨"Scrubward$Ints", "get", "(I)I"⟩ : Jvm.Cond)), (21, (.methodLink "Scrubward$Memory" 66 ⟨"Scrubward$Ints", "set", "(II)V"⟩ : Jvm.Cond)), (22, (.fieldLink "Scrubward" 12 "Scrubward" "coder" "LScrubward$Code;" : Jvm.Cond)), (23, (.fieldLink "Scrubward" 19 "Scrubward" "memory" "LScrubward$Memory;" : Jvm.Cond)), (24, (.fieldLink "Scrubward" 26 "Scrubward" "log" "LScrubward$Log;" : Jvm.Cond)), (25, (.fieldLink "Scrubward" 35 "Scrubward" "lineOfRow" "LScrubward$Ints;" : Jvm.Cond)), (26, (.fieldLink "Scrubward" 39 "Scrubward" "sparesUsed" "LScrubward$Ints;" : Jvm.Cond)), (27, (.fieldLink "Scrubward" 42 "Scrubward" "poisoned" "LScrubward$Ints;" : Jvm.Cond)), (28, (.fieldLink "Scrubward" 45 "Scrubward" "retired" "LScrubward$Ints;" : Jvm.Cond)), (29, (.fieldLink "Scrubward" 198 "Scrubward" "steps" "I" : Jvm.Cond)), (30, (.fieldLink "Scrubward" 121 "Scrubward" "demandOn" "Z" : Jvm.Cond)), (31, (.fieldLink "Scrubward" 98 "Scrubward" "mirrorOn" "Z" : Jvm.Cond)), (32, (.fieldLink "Scrubward" 312 "Scrubward" "patrolAt" "I" : Jvm.Cond)), (33, (.fieldLink "Scrubward" 230 "Scrubward" "refused" "I" : Jvm.Cond)), (34, (.laysFinal "Scrubward" "Scrubward" "coder" "LScrubward$Code;" : Jvm.Cond)), (36, (.laysFinal "Scrubward" "Scrubward" "memory" "LScrubward$Memory;" : Jvm.Cond)), (38, (.laysFinal "Scrubward" "Scrubward" "log" "LScrubward$Log;" : Jvm.Cond))]
theorem zwb6_ok : zwb6.all (fun q => decide ((lw_tbl.drop 240)[q.1]? = some q.2) && goodWord q.2) = true := by decide +kernel
theorem zw240 : (.code ⟨"Scrubward$Faults", "keepBitsBelow", "(I)V"⟩ prog_3_method_4_code 4 (Option.none : Option Jvm.ClassFile.FieldType) : Jvm.Cond) ∈ zB := zbd (j := 0) zwb6_ok rfl
theorem zw241 : (.methodLink "Scrubward$Faults" 38 ⟨"Scrubward$Ints", "get", "(I)I"⟩ : Jvm.Cond) ∈ zB := zbd (j := 1) zwb6_ok rfl
theorem zw242 : (.methodLink "Scrubward$Faults" 42 ⟨"Scrubward$Faults", "add", "(III)V"⟩ : Jvm.Cond) ∈ zB := zbd (j := 2) zwb6_ok rfl
theorem zw243 : (.instanceMethod ⟨"Scrubward$Faults", "add", "(III)V"⟩ : Jvm.Cond) ∈ zB := zbd (j := 3) zwb6_ok rfl
theorem zw244 : (.selects "Scrubward$Faults" ⟨"Scrubward$Faults", "add", "(III)V"⟩ ⟨"Scrubward$Faults", "add", "(III)V"⟩ : Jvm.Cond) ∈ zB := zbd (j := 4) zwb6_ok rfl
theorem zw245 : (.code ⟨"Scrubward$Faults", "add", "(III)V"⟩ prog_3_method_3_code 4 (Option.none : Option Jvm.ClassFile.FieldType) : Jvm.Cond) ∈ zB := zbd (j := 5) zwb6_ok rfl
theorem zw246 : (.methodLink "Scrubward$Faults" 30 ⟨"Scrubward$Faults", "isFull", "()Z"⟩ : Jvm.Cond) ∈ zB := zbd (j := 6) zwb6_ok rfl
theorem zw247 : (.instanceMethod ⟨"Scrubward$Faults", "isFull", "()Z"⟩ : Jvm.Cond) ∈ zB := zbd (j := 7) zwb6_ok rfl
theorem zw248 : (.selects "Scrubward$Faults" ⟨"Scrubward$Faults", "isFull", "()Z"⟩ ⟨"Scrubward$Faults", "isFull", "()Z"⟩ : Jvm.Cond) ∈ zB := zbd (j := 8) zwb6_ok rfl
theorem zw249 : (.code ⟨"Scrubward$Faults", "isFull", "()Z"⟩ prog_3_method_2_code 1 (Option.some Jvm.ClassFile.FieldType.boolean) : Jvm.Cond) ∈ zB := zbd (j := 9) zwb6_ok rfl
theorem zw250 : (.methodLink "Scrubward$Faults" 34 ⟨"Scrubward$Ints", "set", "(II)V"⟩ : Jvm.Cond) ∈ zB := zbd (j := 10) zwb6_ok rfl
theorem zw251 : (.methodLink "Scrubward$Memory" 55 ⟨"Scrubward$Ints", "fill", "(I)V"⟩ : Jvm.Cond) ∈ zB := zbd (j := 11) zwb6_ok rfl
theorem zw252 : (.methodLink "Scrubward$Memory" 58 ⟨"Scrubward$Memory", "put", "(II)V"⟩ : Jvm.Cond) ∈ zB := zbd (j := 12) zwb6_ok rfl
theorem zw253 : (.instanceMethod ⟨"Scrubward$Memory", "put", "(II)V"⟩ : Jvm.Cond) ∈ zB := zbd (j := 13) zwb6_ok rfl
theorem zw254 : (.selects "Scrubward$Memory" ⟨"Scrubward$Memory", "put", "(II)V"⟩ ⟨"Scrubward$Memory", "put", "(II)V"⟩ : Jvm.Cond) ∈ zB := zbd (j := 14) zwb6_ok rfl
theorem zw255 : (.code ⟨"Scrubward$Memory", "put", "(II)V"⟩ prog_6_method_3_code 3 (Option.none : Option Jvm.ClassFile.FieldType) : Jvm.Cond) ∈ zB := zbd (j := 15) zwb6_ok rfl
theorem zw256 : (.methodLink "Scrubward$Memory" 62 ⟨"Scrubward$Memory", "asStuck", "(II)I"⟩ : Jvm.Cond) ∈ zB := zbd (j := 16) zwb6_ok rfl
theorem zw258 : (.instanceMethod ⟨"Scrubward$Memory", "asStuck", "(II)I"⟩ : Jvm.Cond) ∈ zB := zbd (j := 17) zwb6_ok rfl
theorem zw259 : (.code ⟨"Scrubward$Memory", "asStuck", "(II)I"⟩ prog_6_method_4_code 6 (Option.some Jvm.ClassFile.FieldType.int) : Jvm.Cond) ∈ zB := zbd (j := 18) zwb6_ok rfl
theorem zw260 : (.methodLink "Scrubward$Memory" 75 ⟨"Scrubward$Ints", "get", "(I)I"⟩ : Jvm.Cond) ∈ zB := zbd (j := 19) zwb6_ok rfl
theorem zw261 : (.methodLink "Scrubward$Memory" 66 ⟨"Scrubward$Ints", "set", "(II)V"⟩ : Jvm.Cond) ∈ zB := zbd (j := 20) zwb6_ok rfl
theorem zw262 : (.fieldLink "Scrubward" 12 "Scrubward" "coder" "LScrubward$Code;" : Jvm.Cond) ∈ zB := zbd (j := 21) zwb6_ok rfl
theorem zw263 : (.fieldLink "Scrubward" 19 "Scrubward" "memory" "LScrubward$Memory;" : Jvm.Cond) ∈ zB := zbd (j := 22) zwb6_ok rfl
theorem zw264 : (.fieldLink "Scrubward" 26 "Scrubward" "log" "LScrubward$Log;" : Jvm.Cond) ∈ zB := zbd (j := 23) zwb6_ok rfl
theorem zw265 : (.fieldLink "Scrubward" 35 "Scrubward" "lineOfRow" "LScrubward$Ints;" : Jvm.Cond) ∈ zB := zbd (j := 24) zwb6_ok rfl
theorem zw266 : (.fieldLink "Scrubward" 39 "Scrubward" "sparesUsed" "LScrubward$Ints;" : Jvm.Cond) ∈ zB := zbd (j := 25) zwb6_ok rfl
theorem zw267 : (.fieldLink "Scrubward" 42 "Scrubward" "poisoned" "LScrubward$Ints;" : Jvm.Cond) ∈ zB := zbd (j := 26) zwb6_ok rfl
theorem zw268 : (.fieldLink "Scrubward" 45 "Scrubward" "retired" "LScrubward$Ints;" : Jvm.Cond) ∈ zB := zbd (j := 27) zwb6_ok rfl
theorem zw269 : (.fieldLink "Scrubward" 198 "Scrubward" "steps" "I" : Jvm.Cond) ∈ zB := zbd (j := 28) zwb6_ok rfl
theorem zw270 : (.fieldLink "Scrubward" 121 "Scrubward" "demandOn" "Z" : Jvm.Cond) ∈ zB := zbd (j := 29) zwb6_ok rfl
theorem zw271 : (.fieldLink "Scrubward" 98 "Scrubward" "mirrorOn" "Z" : Jvm.Cond) ∈ zB := zbd (j := 30) zwb6_ok rfl
theorem zw272 : (.fieldLink "Scrubward" 312 "Scrubward" "patrolAt" "I" : Jvm.Cond) ∈ zB := zbd (j := 31) zwb6_ok rfl
theorem zw273 : (.fieldLink "Scrubward" 230 "Scrubward" "refused" "I" : Jvm.Cond) ∈ zB := zbd (j := 32) zwb6_ok rfl
theorem zw274 : (.laysFinal "Scrubward" "Scrubward" "coder" "LScrubward$Code;" : Jvm.Cond) ∈ zB := zbd (j := 33) zwb6_ok rfl
theorem zw276 : (.laysFinal "Scrubward" "Scrubward" "memory" "LScrubward$Memory;" : Jvm.Cond) ∈ zB := zbd (j := 34) zwb6_ok rfl
theorem zw278 : (.laysFinal "Scrubward" "Scrubward" "log" "LScrubward$Log;" : Jvm.Cond) ∈ zB := zbd (j := 35) zwb6_ok rfl
def zwb7 : List (Nat × Jvm.Cond) := [(0, (.laysFinal "Scrubward" "Scrubward" "lineOfRow" "LScrubward$Ints;" : Jvm.Cond)), (2, (.laysFinal "Scrubward" "Scrubward" "sparesUsed" "LScrubward$Ints;" : Jvm.Cond)), (4, (.laysFinal "Scrubward" "Scrubward" "poisoned" "LScrubward$Ints;" : Jvm.Cond)), (6, (.laysFinal "Scrubward" "Scrubward" "retired" "LScrubward$Ints;" : Jvm.Cond)), (8, (.lays "Scrubward" "Scrubward" "steps" "I" : Jvm.Cond)), (10, (.lays "Scrubward" "Scrubward" "demandOn" "Z" : Jvm.Cond)), (12, (.lays "Scrubward" "Scrubward" "mirrorOn" "Z" : Jvm.Cond)), (14, (.lays "Scrubward" "Scrubward" "patrolAt" "I" : Jvm.Cond)), (16, (.lays "Scrubward" "Scrubward" "refused" "I" : Jvm.Cond)), (19, (.methodLink "ScrubwardLaw" 30 ⟨"Scrubward", "write", "(II)I"⟩ : Jvm.Cond)), (20, (.instanceMethod ⟨"Scrubward", "write", "(II)I"⟩ : Jvm.Cond)), (21, (.selects "Scrubward" ⟨"Scrubward", "write", "(II)I"⟩ ⟨"Scrubward", "write", "(II)I"⟩ : Jvm.Cond)), (22, (.code ⟨"Scrubward", "write", "(II)I"⟩ prog_1_method_3_code 4 (Option.some Jvm.ClassFile.FieldType.int) : Jvm.Cond)), (23, (.methodLink "Scrubward" 83 ⟨"Scrubward", "checkAddress", "(I)V"⟩ : Jvm.Cond)), (24, (.static ⟨"Scrubward", "checkAddress", "(I)V"⟩ : Jvm.Cond)), (25, (.code ⟨"Scrubward", "checkAddress", "(I)V"⟩ prog_1_method_31_code 1 (Option.none : Option Jvm.ClassFile.FieldType) : Jvm.Cond))]
theorem zwb7_ok : zwb7.all (fun q => decide ((lw_tbl.drop 280)[q.1]? = some q.2) && goodWord q.2) = true := by decide +kernel
theorem zw280 : (.laysFinal "Scrubward" "Scrubward" "lineOfRow" "LScrubward$Ints;" : Jvm.Cond) ∈ zB := zbd (j := 0) zwb7_ok rfl
theorem zw282 : (.laysFinal "Scrubward" "Scrubward" "sparesUsed" "LScrubward$Ints;" : Jvm.Cond) ∈ zB := zbd (j := 1) zwb7_ok rfl
theorem zw284 : (.laysFinal "Scrubward" "Scrubward" "poisoned" "LScrubward$Ints;" : Jvm.Cond) ∈ zB := zbd (j := 2) zwb7_ok rfl
theorem zw286 : (.laysFinal "Scrubward" "Scrubward" "retired" "LScrubward$Ints;" : Jvm.Cond) ∈ zB := zbd (j := 3) zwb7_ok rfl
theorem zw288 : (.lays "Scrubward" "Scrubward" "steps" "I" : Jvm.Cond) ∈ zB := zbd (j := 4) zwb7_ok rfl
theorem zw290 : (.lays "Scrubward" "Scrubward" "demandOn" "Z" : Jvm.Cond) ∈ zB := zbd (j := 5) zwb7_ok rfl
theorem zw292 : (.lays "Scrubward" "Scrubward" "mirrorOn" "Z" : Jvm.Cond) ∈ zB := zbd (j := 6) zwb7_ok rfl
theorem zw294 : (.lays "Scrubward" "Scrubward" "patrolAt" "I" : Jvm.Cond) ∈ zB := zbd (j := 7) zwb7_ok rfl
theorem zw296 : (.lays "Scrubward" "Scrubward" "refused" "I" : Jvm.Cond) ∈ zB := zbd (j := 8) zwb7_ok rfl
theorem zw299 : (.methodLink "ScrubwardLaw" 30 ⟨"Scrubward", "write", "(II)I"⟩ : Jvm.Cond) ∈ zB := zbd (j := 9) zwb7_ok rfl
theorem zw300 : (.instanceMethod ⟨"Scrubward", "write", "(II)I"⟩ : Jvm.Cond) ∈ zB := zbd (j := 10) zwb7_ok rfl
theorem zw301 : (.selects "Scrubward" ⟨"Scrubward", "write", "(II)I"⟩ ⟨"Scrubward", "write", "(II)I"⟩ : Jvm.Cond) ∈ zB := zbd (j := 11) zwb7_ok rfl
theorem zw302 : (.code ⟨"Scrubward", "write", "(II)I"⟩ prog_1_method_3_code 4 (Option.some Jvm.ClassFile.FieldType.int) : Jvm.Cond) ∈ zB := zbd (j := 12) zwb7_ok rfl
theorem zw303 : (.methodLink "Scrubward" 83 ⟨"Scrubward", "checkAddress", "(I)V"⟩ : Jvm.Cond) ∈ zB := zbd (j := 13) zwb7_ok rfl
theorem zw304 : (.static ⟨"Scrubward", "checkAddress", "(I)V"⟩ : Jvm.Cond) ∈ zB := zbd (j := 14) zwb7_ok rfl
theorem zw305 : (.code ⟨"Scrubward", "checkAddress", "(I)V"⟩ prog_1_method_31_code 1 (Option.none : Option Jvm.ClassFile.FieldType) : Jvm.Cond) ∈ zB := zbd (j := 15) zwb7_ok rfl
def zwb9 : List (Nat × Jvm.Cond) := [(14, (.methodLink "Scrubward" 86 ⟨"Scrubward", "checkData", "(I)V"⟩ : Jvm.Cond)), (16, (.instanceMethod ⟨"Scrubward", "checkData", "(I)V"⟩ : Jvm.Cond)), (17, (.code ⟨"Scrubward", "checkData", "(I)V"⟩ prog_1_method_35_code 2 (Option.none : Option Jvm.ClassFile.FieldType) : Jvm.Cond)), (18, (.methodLink "Scrubward" 399 ⟨"Scrubward$Code", "dataMask", "()I"⟩ : Jvm.Cond)), (19, (.instanceMethod ⟨"Scrubward$Code", "dataMask", "()I"⟩ : Jvm.Cond)), (20, (.selects "Scrubward$Code" ⟨"Scrubward$Code", "dataMask", "()I"⟩ ⟨"Scrubward$Code", "dataMask", "()I"⟩ : Jvm.Cond)), (21, (.code ⟨"Scrubward$Code", "dataMask", "()I"⟩ prog_2_method_7_code 1 (Option.some Jvm.ClassFile.FieldType.int) : Jvm.Cond)), (38, (.methodLink "Scrubward" 89 ⟨"Scrubward", "checkNotRetired", "(I)V"⟩ : Jvm.Cond))]
theorem zwb9_ok : zwb9.all (fun q => decide ((lw_tbl.drop 360)[q.1]? = some q.2) && goodWord q.2) = true := by decide +kernel
theorem zw374 : (.methodLink "Scrubward" 86 ⟨"Scrubward", "checkData", "(I)V"⟩ : Jvm.Cond) ∈ zB := zbd (j := 0) zwb9_ok rfl
theorem zw376 : (.instanceMethod ⟨"Scrubward", "checkData", "(I)V"⟩ : Jvm.Cond) ∈ zB := zbd (j := 1) zwb9_ok rfl
theorem zw377 : (.code ⟨"Scrubward", "checkData", "(I)V"⟩ prog_1_method_35_code 2 (Option.none : Option Jvm.ClassFile.FieldType) : Jvm.Cond) ∈ zB := zbd (j := 2) zwb9_ok rfl
theorem zw378 : (.methodLink "Scrubward" 399 ⟨"Scrubward$Code", "dataMask", "()I"⟩ : Jvm.Cond) ∈ zB := zbd (j := 3) zwb9_ok rfl
theorem zw379 : (.instanceMethod ⟨"Scrubward$Code", "dataMask", "()I"⟩ : Jvm.Cond) ∈ zB := zbd (j := 4) zwb9_ok rfl
theorem zw380 : (.selects "Scrubward$Code" ⟨"Scrubward$Code", "dataMask", "()I"⟩ ⟨"Scrubward$Code", "dataMask", "()I"⟩ : Jvm.Cond) ∈ zB := zbd (j := 5) zwb9_ok rfl
theorem zw381 : (.code ⟨"Scrubward$Code", "dataMask", "()I"⟩ prog_2_method_7_code 1 (Option.some Jvm.ClassFile.FieldType.int) : Jvm.Cond) ∈ zB := zbd (j := 6) zwb9_ok rfl
theorem zw398 : (.methodLink "Scrubward" 89 ⟨"Scrubward", "checkNotRetired", "(I)V"⟩ : Jvm.Cond) ∈ zB := zbd (j := 7) zwb9_ok rfl
def zwb10 : List (Nat × Jvm.Cond) := [(0, (.instanceMethod ⟨"Scrubward", "checkNotRetired", "(I)V"⟩ : Jvm.Cond)), (1, (.code ⟨"Scrubward", "checkNotRetired", "(I)V"⟩ prog_1_method_36_code 2 (Option.none : Option Jvm.ClassFile.FieldType) : Jvm.Cond)), (2, (.methodLink "Scrubward" 102 ⟨"Scrubward", "isRetired", "(I)Z"⟩ : Jvm.Cond)), (4, (.instanceMethod ⟨"Scrubward", "isRetired", "(I)Z"⟩ : Jvm.Cond)), (5, (.code ⟨"Scrubward", "isRetired", "(I)Z"⟩ prog_1_method_45_code 2 (Option.some Jvm.ClassFile.FieldType.boolean) : Jvm.Cond)), (6, (.methodLink "Scrubward" 189 ⟨"Scrubward$Ints", "get", "(I)I"⟩ : Jvm.Cond)), (23, (.methodLink "Scrubward" 92 ⟨"Scrubward", "store", "(II)V"⟩ : Jvm.Cond)), (25, (.instanceMethod ⟨"Scrubward", "store", "(II)V"⟩ : Jvm.Cond)), (26, (.code ⟨"Scrubward", "store", "(II)V"⟩ prog_1_method_50_code 3 (Option.none : Option Jvm.ClassFile.FieldType) : Jvm.Cond)), (27, (.methodLink "Scrubward" 109 ⟨"Scrubward", "lineAt", "(I)I"⟩ : Jvm.Cond)), (29, (.instanceMethod ⟨"Scrubward", "lineAt", "(I)I"⟩ : Jvm.Cond)), (30, (.code ⟨"Scrubward", "lineAt", "(I)I"⟩ prog_1_method_39_code 2 (Option.some Jvm.ClassFile.FieldType.int) : Jvm.Cond)), (31, (.methodLink "Scrubward" 112 ⟨"Scrubward$Memory", "open", "(I)V"⟩ : Jvm.Cond)), (32, (.instanceMethod ⟨"Scrubward$Memory", "open", "(I)V"⟩ : Jvm.Cond)), (33, (.selects "Scrubward$Memory" ⟨"Scrubward$Memory", "open", "(I)V"⟩ ⟨"Scrubward$Memory", "open", "(I)V"⟩ : Jvm.Cond)), (34, (.code ⟨"Scrubward$Memory", "open", "(I)V"⟩ prog_6_method_5_code 4 (Option.none : Option Jvm.ClassFile.FieldType) : Jvm.Cond)), (35, (.methodLink "Scrubward$Memory" 88 ⟨"Scrubward$Memory", "turnDrawnBit", "(I)V"⟩ : Jvm.Cond)), (37, (.instanceMethod ⟨"Scrubward$Memory", "turnDrawnBit", "(I)V"⟩ : Jvm.Cond)), (38, (.code ⟨"Scrubward$Memory", "turnDrawnBit", "(I)V"⟩ prog_6_method_6_code 5 (Option.none : Option Jvm.ClassFile.FieldType) : Jvm.Cond)), (39, (.methodLink "Scrubward$Memory" 91 ⟨"Scrubward$Memory", "draw", "()I"⟩ : Jvm.Cond))]
theorem zwb10_ok : zwb10.all (fun q => decide ((lw_tbl.drop 400)[q.1]? = some q.2) && goodWord q.2) = true := by decide +kernel
theorem zw400 : (.instanceMethod ⟨"Scrubward", "checkNotRetired", "(I)V"⟩ : Jvm.Cond) ∈ zB := zbd (j := 0) zwb10_ok rfl
theorem zw401 : (.code ⟨"Scrubward", "checkNotRetired", "(I)V"⟩ prog_1_method_36_code 2 (Option.none : Option Jvm.ClassFile.FieldType) : Jvm.Cond) ∈ zB := zbd (j := 1) zwb10_ok rfl
theorem zw402 : (.methodLink "Scrubward" 102 ⟨"Scrubward", "isRetired", "(I)Z"⟩ : Jvm.Cond) ∈ zB := zbd (j := 2) zwb10_ok rfl
theorem zw404 : (.instanceMethod ⟨"Scrubward", "isRetired", "(I)Z"⟩ : Jvm.Cond) ∈ zB := zbd (j := 3) zwb10_ok rfl
theorem zw405 : (.code ⟨"Scrubward", "isRetired", "(I)Z"⟩ prog_1_method_45_code 2 (Option.some Jvm.ClassFile.FieldType.boolean) : Jvm.Cond) ∈ zB := zbd (j := 4) zwb10_ok rfl
theorem zw406 : (.methodLink "Scrubward" 189 ⟨"Scrubward$Ints", "get", "(I)I"⟩ : Jvm.Cond) ∈ zB := zbd (j := 5) zwb10_ok rfl
theorem zw423 : (.methodLink "Scrubward" 92 ⟨"Scrubward", "store", "(II)V"⟩ : Jvm.Cond) ∈ zB := zbd (j := 6) zwb10_ok rfl
theorem zw425 : (.instanceMethod ⟨"Scrubward", "store", "(II)V"⟩ : Jvm.Cond) ∈ zB := zbd (j := 7) zwb10_ok rfl
theorem zw426 : (.code ⟨"Scrubward", "store", "(II)V"⟩ prog_1_method_50_code 3 (Option.none : Option Jvm.ClassFile.FieldType) : Jvm.Cond) ∈ zB := zbd (j := 8) zwb10_ok rfl
theorem zw427 : (.methodLink "Scrubward" 109 ⟨"Scrubward", "lineAt", "(I)I"⟩ : Jvm.Cond) ∈ zB := zbd (j := 9) zwb10_ok rfl
theorem zw429 : (.instanceMethod ⟨"Scrubward", "lineAt", "(I)I"⟩ : Jvm.Cond) ∈ zB := zbd (j := 10) zwb10_ok rfl
theorem zw430 : (.code ⟨"Scrubward", "lineAt", "(I)I"⟩ prog_1_method_39_code 2 (Option.some Jvm.ClassFile.FieldType.int) : Jvm.Cond) ∈ zB := zbd (j := 11) zwb10_ok rfl
theorem zw431 : (.methodLink "Scrubward" 112 ⟨"Scrubward$Memory", "open", "(I)V"⟩ : Jvm.Cond) ∈ zB := zbd (j := 12) zwb10_ok rfl
theorem zw432 : (.instanceMethod ⟨"Scrubward$Memory", "open", "(I)V"⟩ : Jvm.Cond) ∈ zB := zbd (j := 13) zwb10_ok rfl
theorem zw433 : (.selects "Scrubward$Memory" ⟨"Scrubward$Memory", "open", "(I)V"⟩ ⟨"Scrubward$Memory", "open", "(I)V"⟩ : Jvm.Cond) ∈ zB := zbd (j := 14) zwb10_ok rfl
theorem zw434 : (.code ⟨"Scrubward$Memory", "open", "(I)V"⟩ prog_6_method_5_code 4 (Option.none : Option Jvm.ClassFile.FieldType) : Jvm.Cond) ∈ zB := zbd (j := 15) zwb10_ok rfl
theorem zw435 : (.methodLink "Scrubward$Memory" 88 ⟨"Scrubward$Memory", "turnDrawnBit", "(I)V"⟩ : Jvm.Cond) ∈ zB := zbd (j := 16) zwb10_ok rfl
theorem zw437 : (.instanceMethod ⟨"Scrubward$Memory", "turnDrawnBit", "(I)V"⟩ : Jvm.Cond) ∈ zB := zbd (j := 17) zwb10_ok rfl
theorem zw438 : (.code ⟨"Scrubward$Memory", "turnDrawnBit", "(I)V"⟩ prog_6_method_6_code 5 (Option.none : Option Jvm.ClassFile.FieldType) : Jvm.Cond) ∈ zB := zbd (j := 18) zwb10_ok rfl
theorem zw439 : (.methodLink "Scrubward$Memory" 91 ⟨"Scrubward$Memory", "draw", "()I"⟩ : Jvm.Cond) ∈ zB := zbd (j := 19) zwb10_ok rfl
def zwb11 : List (Nat × Jvm.Cond) := [(1, (.instanceMethod ⟨"Scrubward$Memory", "draw", "()I"⟩ : Jvm.Cond)), (2, (.code ⟨"Scrubward$Memory", "draw", "()I"⟩ prog_6_method_7_code 2 (Option.some Jvm.ClassFile.FieldType.int) : Jvm.Cond)), (3, (.methodLink "Scrubward" 408 ⟨"Scrubward", "replace", "(II)V"⟩ : Jvm.Cond)), (5, (.instanceMethod ⟨"Scrubward", "replace", "(II)V"⟩ : Jvm.Cond)), (6, (.code ⟨"Scrubward", "replace", "(II)V"⟩ prog_1_method_51_code 3 (Option.none : Option Jvm.ClassFile.FieldType) : Jvm.Cond)), (7, (.methodLink "Scrubward" 137 ⟨"Scrubward", "cellAt", "(I)I"⟩ : Jvm.Cond)), (9, (.instanceMethod ⟨"Scrubward", "cellAt", "(I)I"⟩ : Jvm.Cond)), (10, (.code ⟨"Scrubward", "cellAt", "(I)I"⟩ prog_1_method_40_code 2 (Option.some Jvm.ClassFile.FieldType.int) : Jvm.Cond)), (11, (.methodLink "Scrubward" 239 ⟨"Scrubward$Code", "wordOf", "(I)I"⟩ : Jvm.Cond)), (12, (.instanceMethod ⟨"Scrubward$Code", "wordOf", "(I)I"⟩ : Jvm.Cond)), (13, (.selects "Scrubward$Code" ⟨"Scrubward$Code", "wordOf", "(I)I"⟩ ⟨"Scrubward$Code", "wordOf", "(I)I"⟩ : Jvm.Cond))]
theorem zwb11_ok : zwb11.all (fun q => decide ((lw_tbl.drop 440)[q.1]? = some q.2) && goodWord q.2) = true := by decide +kernel
theorem zw441 : (.instanceMethod ⟨"Scrubward$Memory", "draw", "()I"⟩ : Jvm.Cond) ∈ zB := zbd (j := 0) zwb11_ok rfl
theorem zw442 : (.code ⟨"Scrubward$Memory", "draw", "()I"⟩ prog_6_method_7_code 2 (Option.some Jvm.ClassFile.FieldType.int) : Jvm.Cond) ∈ zB := zbd (j := 1) zwb11_ok rfl
theorem zw443 : (.methodLink "Scrubward" 408 ⟨"Scrubward", "replace", "(II)V"⟩ : Jvm.Cond) ∈ zB := zbd (j := 2) zwb11_ok rfl
theorem zw445 : (.instanceMethod ⟨"Scrubward", "replace", "(II)V"⟩ : Jvm.Cond) ∈ zB := zbd (j := 3) zwb11_ok rfl
theorem zw446 : (.code ⟨"Scrubward", "replace", "(II)V"⟩ prog_1_method_51_code 3 (Option.none : Option Jvm.ClassFile.FieldType) : Jvm.Cond) ∈ zB := zbd (j := 4) zwb11_ok rfl
theorem zw447 : (.methodLink "Scrubward" 137 ⟨"Scrubward", "cellAt", "(I)I"⟩ : Jvm.Cond) ∈ zB := zbd (j := 5) zwb11_ok rfl
theorem zw449 : (.instanceMethod ⟨"Scrubward", "cellAt", "(I)I"⟩ : Jvm.Cond) ∈ zB := zbd (j := 6) zwb11_ok rfl
theorem zw450 : (.code ⟨"Scrubward", "cellAt", "(I)I"⟩ prog_1_method_40_code 2 (Option.some Jvm.ClassFile.FieldType.int) : Jvm.Cond) ∈ zB := zbd (j := 7) zwb11_ok rfl
theorem zw451 : (.methodLink "Scrubward" 239 ⟨"Scrubward$Code", "wordOf", "(I)I"⟩ : Jvm.Cond) ∈ zB := zbd (j := 8) zwb11_ok rfl
theorem zw452 : (.instanceMethod ⟨"Scrubward$Code", "wordOf", "(I)I"⟩ : Jvm.Cond) ∈ zB := zbd (j := 9) zwb11_ok rfl
theorem zw453 : (.selects "Scrubward$Code" ⟨"Scrubward$Code", "wordOf", "(I)I"⟩ ⟨"Scrubward$Code", "wordOf", "(I)I"⟩ : Jvm.Cond) ∈ zB := zbd (j := 10) zwb11_ok rfl
end
section
def zwc11 : List (Nat × Jvm.Cond) := [(14, (.code ⟨"Scrubward$Code", "wordOf", "(I)I"⟩ prog_2_method_15_code 2 (Option.some Jvm.ClassFile.FieldType.int) : Jvm.Cond)), (15, (.methodLink "Scrubward$Code" 56 ⟨"Scrubward$Code", "syndromeOf", "(I)I"⟩ : Jvm.Cond)), (16, (.instanceMethod ⟨"Scrubward$Code", "syndromeOf", "(I)I"⟩ : Jvm.Cond)), (17, (.selects "Scrubward$Code" ⟨"Scrubward$Code", "syndromeOf", "(I)I"⟩ ⟨"Scrubward$Code", "syndromeOf", "(I)I"⟩ : Jvm.Cond)), (18, (.code ⟨"Scrubward$Code", "syndromeOf", "(I)I"⟩ prog_2_method_9_code 4 (Option.some Jvm.ClassFile.FieldType.int) : Jvm.Cond)), (19, (.methodLink "Scrubward" 140 ⟨"Scrubward$Memory", "put", "(II)V"⟩ : Jvm.Cond)), (20, (.methodLink "Scrubward" 95 ⟨"Scrubward", "twinOf", "(I)I"⟩ : Jvm.Cond)), (21, (.static ⟨"Scrubward", "twinOf", "(I)I"⟩ : Jvm.Cond)), (22, (.code ⟨"Scrubward", "twinOf", "(I)I"⟩ prog_1_method_38_code 1 (Option.some Jvm.ClassFile.FieldType.int) : Jvm.Cond)), (23, (.methodLink "Scrubward" 106 ⟨"Scrubward", "wordAt", "(I)I"⟩ : Jvm.Cond)), (25, (.instanceMethod ⟨"Scrubward", "wordAt", "(I)I"⟩ : Jvm.Cond)), (26, (.code ⟨"Scrubward", "wordAt", "(I)I"⟩ prog_1_method_41_code 2 (Option.some Jvm.ClassFile.FieldType.int) : Jvm.Cond)), (27, (.methodLink "ScrubwardLaw" 51 ⟨"Scrubward", "read", "(I)I"⟩ : Jvm.Cond)), (28, (.instanceMethod ⟨"Scrubward", "read", "(I)I"⟩ : Jvm.Cond)), (29, (.selects "Scrubward" ⟨"Scrubward", "read", "(I)I"⟩ ⟨"Scrubward", "read", "(I)I"⟩ : Jvm.Cond)), (30, (.code ⟨"Scrubward", "read", "(I)I"⟩ prog_1_method_4_code 3 (Option.some Jvm.ClassFile.FieldType.int) : Jvm.Cond)), (31, (.methodLink "Scrubward" 115 ⟨"Scrubward", "dataAt", "(I)I"⟩ : Jvm.Cond)), (33, (.instanceMethod ⟨"Scrubward", "dataAt", "(I)I"⟩ : Jvm.Cond)), (34, (.code ⟨"Scrubward", "dataAt", "(I)I"⟩ prog_1_method_46_code 2 (Option.some Jvm.ClassFile.FieldType.int) : Jvm.Cond)), (35, (.methodLink "Scrubward" 118 ⟨"Scrubward", "isPoisoned", "(I)Z"⟩ : Jvm.Cond)), (37, (.instanceMethod ⟨"Scrubward", "isPoisoned", "(I)Z"⟩ : Jvm.Cond)), (38, (.code ⟨"Scrubward", "isPoisoned", "(I)Z"⟩ prog_1_method_44_code 2 (Option.some Jvm.ClassFile.FieldType.boolean) : Jvm.Cond)), (39, (.methodLink "Scrubward" 256 ⟨"Scrubward$Code", "dataOf", "(I)I"⟩ : Jvm.Cond))]
theorem zwc11_ok : zwc11.all (fun q => decide ((lw_tbl.drop 440)[q.1]? = some q.2) && goodWord q.2) = true := by decide +kernel
theorem zw454 : (.code ⟨"Scrubward$Code", "wordOf", "(I)I"⟩ prog_2_method_15_code 2 (Option.some Jvm.ClassFile.FieldType.int) : Jvm.Cond) ∈ zB := zbd (j := 0) zwc11_ok rfl
theorem zw455 : (.methodLink "Scrubward$Code" 56 ⟨"Scrubward$Code", "syndromeOf", "(I)I"⟩ : Jvm.Cond) ∈ zB := zbd (j := 1) zwc11_ok rfl
theorem zw456 : (.instanceMethod ⟨"Scrubward$Code", "syndromeOf", "(I)I"⟩ : Jvm.Cond) ∈ zB := zbd (j := 2) zwc11_ok rfl
theorem zw457 : (.selects "Scrubward$Code" ⟨"Scrubward$Code", "syndromeOf", "(I)I"⟩ ⟨"Scrubward$Code", "syndromeOf", "(I)I"⟩ : Jvm.Cond) ∈ zB := zbd (j := 3) zwc11_ok rfl
theorem zw458 : (.code ⟨"Scrubward$Code", "syndromeOf", "(I)I"⟩ prog_2_method_9_code 4 (Option.some Jvm.ClassFile.FieldType.int) : Jvm.Cond) ∈ zB := zbd (j := 4) zwc11_ok rfl
theorem zw459 : (.methodLink "Scrubward" 140 ⟨"Scrubward$Memory", "put", "(II)V"⟩ : Jvm.Cond) ∈ zB := zbd (j := 5) zwc11_ok rfl
theorem zw460 : (.methodLink "Scrubward" 95 ⟨"Scrubward", "twinOf", "(I)I"⟩ : Jvm.Cond) ∈ zB := zbd (j := 6) zwc11_ok rfl
theorem zw461 : (.static ⟨"Scrubward", "twinOf", "(I)I"⟩ : Jvm.Cond) ∈ zB := zbd (j := 7) zwc11_ok rfl
theorem zw462 : (.code ⟨"Scrubward", "twinOf", "(I)I"⟩ prog_1_method_38_code 1 (Option.some Jvm.ClassFile.FieldType.int) : Jvm.Cond) ∈ zB := zbd (j := 8) zwc11_ok rfl
theorem zw463 : (.methodLink "Scrubward" 106 ⟨"Scrubward", "wordAt", "(I)I"⟩ : Jvm.Cond) ∈ zB := zbd (j := 9) zwc11_ok rfl
theorem zw465 : (.instanceMethod ⟨"Scrubward", "wordAt", "(I)I"⟩ : Jvm.Cond) ∈ zB := zbd (j := 10) zwc11_ok rfl
theorem zw466 : (.code ⟨"Scrubward", "wordAt", "(I)I"⟩ prog_1_method_41_code 2 (Option.some Jvm.ClassFile.FieldType.int) : Jvm.Cond) ∈ zB := zbd (j := 11) zwc11_ok rfl
theorem zw467 : (.methodLink "ScrubwardLaw" 51 ⟨"Scrubward", "read", "(I)I"⟩ : Jvm.Cond) ∈ zB := zbd (j := 12) zwc11_ok rfl
theorem zw468 : (.instanceMethod ⟨"Scrubward", "read", "(I)I"⟩ : Jvm.Cond) ∈ zB := zbd (j := 13) zwc11_ok rfl
theorem zw469 : (.selects "Scrubward" ⟨"Scrubward", "read", "(I)I"⟩ ⟨"Scrubward", "read", "(I)I"⟩ : Jvm.Cond) ∈ zB := zbd (j := 14) zwc11_ok rfl
theorem zw470 : (.code ⟨"Scrubward", "read", "(I)I"⟩ prog_1_method_4_code 3 (Option.some Jvm.ClassFile.FieldType.int) : Jvm.Cond) ∈ zB := zbd (j := 15) zwc11_ok rfl
theorem zw471 : (.methodLink "Scrubward" 115 ⟨"Scrubward", "dataAt", "(I)I"⟩ : Jvm.Cond) ∈ zB := zbd (j := 16) zwc11_ok rfl
theorem zw473 : (.instanceMethod ⟨"Scrubward", "dataAt", "(I)I"⟩ : Jvm.Cond) ∈ zB := zbd (j := 17) zwc11_ok rfl
theorem zw474 : (.code ⟨"Scrubward", "dataAt", "(I)I"⟩ prog_1_method_46_code 2 (Option.some Jvm.ClassFile.FieldType.int) : Jvm.Cond) ∈ zB := zbd (j := 18) zwc11_ok rfl
theorem zw475 : (.methodLink "Scrubward" 118 ⟨"Scrubward", "isPoisoned", "(I)Z"⟩ : Jvm.Cond) ∈ zB := zbd (j := 19) zwc11_ok rfl
theorem zw477 : (.instanceMethod ⟨"Scrubward", "isPoisoned", "(I)Z"⟩ : Jvm.Cond) ∈ zB := zbd (j := 20) zwc11_ok rfl
theorem zw478 : (.code ⟨"Scrubward", "isPoisoned", "(I)Z"⟩ prog_1_method_44_code 2 (Option.some Jvm.ClassFile.FieldType.boolean) : Jvm.Cond) ∈ zB := zbd (j := 21) zwc11_ok rfl
theorem zw479 : (.methodLink "Scrubward" 256 ⟨"Scrubward$Code", "dataOf", "(I)I"⟩ : Jvm.Cond) ∈ zB := zbd (j := 22) zwc11_ok rfl
def zwc12 : List (Nat × Jvm.Cond) := [(0, (.instanceMethod ⟨"Scrubward$Code", "dataOf", "(I)I"⟩ : Jvm.Cond)), (1, (.selects "Scrubward$Code" ⟨"Scrubward$Code", "dataOf", "(I)I"⟩ ⟨"Scrubward$Code", "dataOf", "(I)I"⟩ : Jvm.Cond)), (2, (.code ⟨"Scrubward$Code", "dataOf", "(I)I"⟩ prog_2_method_14_code 3 (Option.some Jvm.ClassFile.FieldType.int) : Jvm.Cond)), (3, (.methodLink "Scrubward$Code" 59 ⟨"Scrubward$Code", "turnOf", "(I)I"⟩ : Jvm.Cond)), (4, (.instanceMethod ⟨"Scrubward$Code", "turnOf", "(I)I"⟩ : Jvm.Cond)), (5, (.selects "Scrubward$Code" ⟨"Scrubward$Code", "turnOf", "(I)I"⟩ ⟨"Scrubward$Code", "turnOf", "(I)I"⟩ : Jvm.Cond)), (6, (.code ⟨"Scrubward$Code", "turnOf", "(I)I"⟩ prog_2_method_10_code 2 (Option.some Jvm.ClassFile.FieldType.int) : Jvm.Cond)), (7, (.methodLink "Scrubward$Code" 62 ⟨"Scrubward$Code", "dataMask", "()I"⟩ : Jvm.Cond)), (8, (.methodLink "Scrubward" 124 ⟨"Scrubward", "report", "(IZ)V"⟩ : Jvm.Cond)), (10, (.instanceMethod ⟨"Scrubward", "report", "(IZ)V"⟩ : Jvm.Cond)), (11, (.code ⟨"Scrubward", "report", "(IZ)V"⟩ prog_1_method_52_code 5 (Option.none : Option Jvm.ClassFile.FieldType) : Jvm.Cond)), (12, (.methodLink "Scrubward" 250 ⟨"Scrubward$Code", "turnOf", "(I)I"⟩ : Jvm.Cond)), (13, (.methodLink "Scrubward" 253 ⟨"Scrubward$Code", "bitOf", "(I)I"⟩ : Jvm.Cond)), (14, (.static ⟨"Scrubward$Code", "bitOf", "(I)I"⟩ : Jvm.Cond)), (15, (.code ⟨"Scrubward$Code", "bitOf", "(I)I"⟩ prog_2_method_13_code 1 (Option.some Jvm.ClassFile.FieldType.int) : Jvm.Cond)), (16, (.methodLink "Scrubward" 411 ⟨"Scrubward$Log", "add", "(III)V"⟩ : Jvm.Cond)), (17, (.instanceMethod ⟨"Scrubward$Log", "add", "(III)V"⟩ : Jvm.Cond)), (18, (.selects "Scrubward$Log" ⟨"Scrubward$Log", "add", "(III)V"⟩ ⟨"Scrubward$Log", "add", "(III)V"⟩ : Jvm.Cond)), (19, (.code ⟨"Scrubward$Log", "add", "(III)V"⟩ prog_5_method_3_code 4 (Option.none : Option Jvm.ClassFile.FieldType) : Jvm.Cond)), (20, (.methodLink "Scrubward$Log" 36 ⟨"Scrubward$Ints", "set", "(II)V"⟩ : Jvm.Cond)), (21, (.methodLink "Scrubward" 128 ⟨"Scrubward", "readTwin", "(I)I"⟩ : Jvm.Cond)), (23, (.instanceMethod ⟨"Scrubward", "readTwin", "(I)I"⟩ : Jvm.Cond)), (24, (.code ⟨"Scrubward", "readTwin", "(I)I"⟩ prog_1_method_53_code 4 (Option.some Jvm.ClassFile.FieldType.int) : Jvm.Cond)), (25, (.methodLink "ScrubwardLaw" 33 ⟨"Scrubward", "ray", "(II)I"⟩ : Jvm.Cond)), (26, (.instanceMethod ⟨"Scrubward", "ray", "(II)I"⟩ : Jvm.Cond)), (27, (.selects "Scrubward" ⟨"Scrubward", "ray", "(II)I"⟩ ⟨"Scrubward", "ray", "(II)I"⟩ : Jvm.Cond)), (28, (.code ⟨"Scrubward", "ray", "(II)I"⟩ prog_1_method_5_code 3 (Option.some Jvm.ClassFile.FieldType.int) : Jvm.Cond)), (29, (.methodLink "Scrubward" 131 ⟨"Scrubward$Code", "words", "()I"⟩ : Jvm.Cond)), (30, (.instanceMethod ⟨"Scrubward$Code", "words", "()I"⟩ : Jvm.Cond)), (31, (.selects "Scrubward$Code" ⟨"Scrubward$Code", "words", "()I"⟩ ⟨"Scrubward$Code", "words", "()I"⟩ : Jvm.Cond)), (32, (.code ⟨"Scrubward$Code", "words", "()I"⟩ prog_2_method_6_code 1 (Option.some Jvm.ClassFile.FieldType.int) : Jvm.Cond)), (34, (.methodLink "ScrubwardLaw" 40 ⟨"Scrubward", "stick", "(IIZ)I"⟩ : Jvm.Cond)), (35, (.instanceMethod ⟨"Scrubward", "stick", "(IIZ)I"⟩ : Jvm.Cond)), (36, (.selects "Scrubward" ⟨"Scrubward", "stick", "(IIZ)I"⟩ ⟨"Scrubward", "stick", "(IIZ)I"⟩ : Jvm.Cond)), (37, (.code ⟨"Scrubward", "stick", "(IIZ)I"⟩ prog_1_method_6_code 4 (Option.some Jvm.ClassFile.FieldType.int) : Jvm.Cond)), (38, (.methodLink "Scrubward" 143 ⟨"Scrubward$Code", "hasBit", "(I)Z"⟩ : Jvm.Cond)), (39, (.instanceMethod ⟨"Scrubward$Code", "hasBit", "(I)Z"⟩ : Jvm.Cond))]
theorem zwc12_ok : zwc12.all (fun q => decide ((lw_tbl.drop 480)[q.1]? = some q.2) && goodWord q.2) = true := by decide +kernel
theorem zw480 : (.instanceMethod ⟨"Scrubward$Code", "dataOf", "(I)I"⟩ : Jvm.Cond) ∈ zB := zbd (j := 0) zwc12_ok rfl
theorem zw481 : (.selects "Scrubward$Code" ⟨"Scrubward$Code", "dataOf", "(I)I"⟩ ⟨"Scrubward$Code", "dataOf", "(I)I"⟩ : Jvm.Cond) ∈ zB := zbd (j := 1) zwc12_ok rfl
theorem zw482 : (.code ⟨"Scrubward$Code", "dataOf", "(I)I"⟩ prog_2_method_14_code 3 (Option.some Jvm.ClassFile.FieldType.int) : Jvm.Cond) ∈ zB := zbd (j := 2) zwc12_ok rfl
theorem zw483 : (.methodLink "Scrubward$Code" 59 ⟨"Scrubward$Code", "turnOf", "(I)I"⟩ : Jvm.Cond) ∈ zB := zbd (j := 3) zwc12_ok rfl
theorem zw484 : (.instanceMethod ⟨"Scrubward$Code", "turnOf", "(I)I"⟩ : Jvm.Cond) ∈ zB := zbd (j := 4) zwc12_ok rfl
theorem zw485 : (.selects "Scrubward$Code" ⟨"Scrubward$Code", "turnOf", "(I)I"⟩ ⟨"Scrubward$Code", "turnOf", "(I)I"⟩ : Jvm.Cond) ∈ zB := zbd (j := 5) zwc12_ok rfl
theorem zw486 : (.code ⟨"Scrubward$Code", "turnOf", "(I)I"⟩ prog_2_method_10_code 2 (Option.some Jvm.ClassFile.FieldType.int) : Jvm.Cond) ∈ zB := zbd (j := 6) zwc12_ok rfl
theorem zw487 : (.methodLink "Scrubward$Code" 62 ⟨"Scrubward$Code", "dataMask", "()I"⟩ : Jvm.Cond) ∈ zB := zbd (j := 7) zwc12_ok rfl
theorem zw488 : (.methodLink "Scrubward" 124 ⟨"Scrubward", "report", "(IZ)V"⟩ : Jvm.Cond) ∈ zB := zbd (j := 8) zwc12_ok rfl
theorem zw490 : (.instanceMethod ⟨"Scrubward", "report", "(IZ)V"⟩ : Jvm.Cond) ∈ zB := zbd (j := 9) zwc12_ok rfl
theorem zw491 : (.code ⟨"Scrubward", "report", "(IZ)V"⟩ prog_1_method_52_code 5 (Option.none : Option Jvm.ClassFile.FieldType) : Jvm.Cond) ∈ zB := zbd (j := 10) zwc12_ok rfl
theorem zw492 : (.methodLink "Scrubward" 250 ⟨"Scrubward$Code", "turnOf", "(I)I"⟩ : Jvm.Cond) ∈ zB := zbd (j := 11) zwc12_ok rfl
theorem zw493 : (.methodLink "Scrubward" 253 ⟨"Scrubward$Code", "bitOf", "(I)I"⟩ : Jvm.Cond) ∈ zB := zbd (j := 12) zwc12_ok rfl
theorem zw494 : (.static ⟨"Scrubward$Code", "bitOf", "(I)I"⟩ : Jvm.Cond) ∈ zB := zbd (j := 13) zwc12_ok rfl
theorem zw495 : (.code ⟨"Scrubward$Code", "bitOf", "(I)I"⟩ prog_2_method_13_code 1 (Option.some Jvm.ClassFile.FieldType.int) : Jvm.Cond) ∈ zB := zbd (j := 14) zwc12_ok rfl
theorem zw496 : (.methodLink "Scrubward" 411 ⟨"Scrubward$Log", "add", "(III)V"⟩ : Jvm.Cond) ∈ zB := zbd (j := 15) zwc12_ok rfl
theorem zw497 : (.instanceMethod ⟨"Scrubward$Log", "add", "(III)V"⟩ : Jvm.Cond) ∈ zB := zbd (j := 16) zwc12_ok rfl
theorem zw498 : (.selects "Scrubward$Log" ⟨"Scrubward$Log", "add", "(III)V"⟩ ⟨"Scrubward$Log", "add", "(III)V"⟩ : Jvm.Cond) ∈ zB := zbd (j := 17) zwc12_ok rfl
theorem zw499 : (.code ⟨"Scrubward$Log", "add", "(III)V"⟩ prog_5_method_3_code 4 (Option.none : Option Jvm.ClassFile.FieldType) : Jvm.Cond) ∈ zB := zbd (j := 18) zwc12_ok rfl
theorem zw500 : (.methodLink "Scrubward$Log" 36 ⟨"Scrubward$Ints", "set", "(II)V"⟩ : Jvm.Cond) ∈ zB := zbd (j := 19) zwc12_ok rfl
theorem zw501 : (.methodLink "Scrubward" 128 ⟨"Scrubward", "readTwin", "(I)I"⟩ : Jvm.Cond) ∈ zB := zbd (j := 20) zwc12_ok rfl
theorem zw503 : (.instanceMethod ⟨"Scrubward", "readTwin", "(I)I"⟩ : Jvm.Cond) ∈ zB := zbd (j := 21) zwc12_ok rfl
theorem zw504 : (.code ⟨"Scrubward", "readTwin", "(I)I"⟩ prog_1_method_53_code 4 (Option.some Jvm.ClassFile.FieldType.int) : Jvm.Cond) ∈ zB := zbd (j := 22) zwc12_ok rfl
theorem zw505 : (.methodLink "ScrubwardLaw" 33 ⟨"Scrubward", "ray", "(II)I"⟩ : Jvm.Cond) ∈ zB := zbd (j := 23) zwc12_ok rfl
theorem zw506 : (.instanceMethod ⟨"Scrubward", "ray", "(II)I"⟩ : Jvm.Cond) ∈ zB := zbd (j := 24) zwc12_ok rfl
theorem zw507 : (.selects "Scrubward" ⟨"Scrubward", "ray", "(II)I"⟩ ⟨"Scrubward", "ray", "(II)I"⟩ : Jvm.Cond) ∈ zB := zbd (j := 25) zwc12_ok rfl
theorem zw508 : (.code ⟨"Scrubward", "ray", "(II)I"⟩ prog_1_method_5_code 3 (Option.some Jvm.ClassFile.FieldType.int) : Jvm.Cond) ∈ zB := zbd (j := 26) zwc12_ok rfl
theorem zw509 : (.methodLink "Scrubward" 131 ⟨"Scrubward$Code", "words", "()I"⟩ : Jvm.Cond) ∈ zB := zbd (j := 27) zwc12_ok rfl
theorem zw510 : (.instanceMethod ⟨"Scrubward$Code", "words", "()I"⟩ : Jvm.Cond) ∈ zB := zbd (j := 28) zwc12_ok rfl
theorem zw511 : (.selects "Scrubward$Code" ⟨"Scrubward$Code", "words", "()I"⟩ ⟨"Scrubward$Code", "words", "()I"⟩ : Jvm.Cond) ∈ zB := zbd (j := 29) zwc12_ok rfl
theorem zw512 : (.code ⟨"Scrubward$Code", "words", "()I"⟩ prog_2_method_6_code 1 (Option.some Jvm.ClassFile.FieldType.int) : Jvm.Cond) ∈ zB := zbd (j := 30) zwc12_ok rfl
theorem zw514 : (.methodLink "ScrubwardLaw" 40 ⟨"Scrubward", "stick", "(IIZ)I"⟩ : Jvm.Cond) ∈ zB := zbd (j := 31) zwc12_ok rfl
theorem zw515 : (.instanceMethod ⟨"Scrubward", "stick", "(IIZ)I"⟩ : Jvm.Cond) ∈ zB := zbd (j := 32) zwc12_ok rfl
theorem zw516 : (.selects "Scrubward" ⟨"Scrubward", "stick", "(IIZ)I"⟩ ⟨"Scrubward", "stick", "(IIZ)I"⟩ : Jvm.Cond) ∈ zB := zbd (j := 33) zwc12_ok rfl
theorem zw517 : (.code ⟨"Scrubward", "stick", "(IIZ)I"⟩ prog_1_method_6_code 4 (Option.some Jvm.ClassFile.FieldType.int) : Jvm.Cond) ∈ zB := zbd (j := 34) zwc12_ok rfl
theorem zw518 : (.methodLink "Scrubward" 143 ⟨"Scrubward$Code", "hasBit", "(I)Z"⟩ : Jvm.Cond) ∈ zB := zbd (j := 35) zwc12_ok rfl
theorem zw519 : (.instanceMethod ⟨"Scrubward$Code", "hasBit", "(I)Z"⟩ : Jvm.Cond) ∈ zB := zbd (j := 36) zwc12_ok rfl
def zwc13 : List (Nat × Jvm.Cond) := [(0, (.selects "Scrubward$Code" ⟨"Scrubward$Code", "hasBit", "(I)Z"⟩ ⟨"Scrubward$Code", "hasBit", "(I)Z"⟩ : Jvm.Cond)), (1, (.code ⟨"Scrubward$Code", "hasBit", "(I)Z"⟩ prog_2_method_8_code 2 (Option.some Jvm.ClassFile.FieldType.boolean) : Jvm.Cond)), (3, (.methodLink "Scrubward" 152 ⟨"Scrubward$Faults", "isFull", "()Z"⟩ : Jvm.Cond)), (5, (.methodLink "Scrubward" 163 ⟨"Scrubward$Faults", "add", "(III)V"⟩ : Jvm.Cond)), (6, (.methodLink "ScrubwardLaw" 44 ⟨"Scrubward", "weak", "(III)I"⟩ : Jvm.Cond)), (7, (.instanceMethod ⟨"Scrubward", "weak", "(III)I"⟩ : Jvm.Cond)), (8, (.selects "Scrubward" ⟨"Scrubward", "weak", "(III)I"⟩ ⟨"Scrubward", "weak", "(III)I"⟩ : Jvm.Cond)), (9, (.code ⟨"Scrubward", "weak", "(III)I"⟩ prog_1_method_7_code 4 (Option.some Jvm.ClassFile.FieldType.int) : Jvm.Cond)), (12, (.methodLink "ScrubwardLaw" 48 ⟨"Scrubward", "hammer", "(III)I"⟩ : Jvm.Cond)), (13, (.instanceMethod ⟨"Scrubward", "hammer", "(III)I"⟩ : Jvm.Cond)), (14, (.selects "Scrubward" ⟨"Scrubward", "hammer", "(III)I"⟩ ⟨"Scrubward", "hammer", "(III)I"⟩ : Jvm.Cond)), (15, (.code ⟨"Scrubward", "hammer", "(III)I"⟩ prog_1_method_8_code 6 (Option.some Jvm.ClassFile.FieldType.int) : Jvm.Cond)), (16, (.methodLink "Scrubward" 177 ⟨"Scrubward", "checkRow", "(II)V"⟩ : Jvm.Cond)), (17, (.static ⟨"Scrubward", "checkRow", "(II)V"⟩ : Jvm.Cond)), (18, (.code ⟨"Scrubward", "checkRow", "(II)V"⟩ prog_1_method_33_code 2 (Option.none : Option Jvm.ClassFile.FieldType) : Jvm.Cond)), (19, (.methodLink "Scrubward" 271 ⟨"Scrubward", "checkBank", "(I)V"⟩ : Jvm.Cond)), (20, (.static ⟨"Scrubward", "checkBank", "(I)V"⟩ : Jvm.Cond)), (21, (.code ⟨"Scrubward", "checkBank", "(I)V"⟩ prog_1_method_32_code 1 (Option.none : Option Jvm.ClassFile.FieldType) : Jvm.Cond)), (25, (.methodLink "Scrubward" 182 ⟨"Scrubward", "firstAddress", "(II)I"⟩ : Jvm.Cond)), (26, (.static ⟨"Scrubward", "firstAddress", "(II)I"⟩ : Jvm.Cond)), (27, (.code ⟨"Scrubward", "firstAddress", "(II)I"⟩ prog_1_method_37_code 2 (Option.some Jvm.ClassFile.FieldType.int) : Jvm.Cond)), (28, (.methodLink "ScrubwardLaw" 26 ⟨"Scrubward", "run", "(IIIZZ)I"⟩ : Jvm.Cond)), (29, (.instanceMethod ⟨"Scrubward", "run", "(IIIZZ)I"⟩ : Jvm.Cond)), (30, (.selects "Scrubward" ⟨"Scrubward", "run", "(IIIZZ)I"⟩ ⟨"Scrubward", "run", "(IIIZZ)I"⟩ : Jvm.Cond)), (31, (.code ⟨"Scrubward", "run", "(IIIZZ)I"⟩ prog_1_method_9_code 7 (Option.some Jvm.ClassFile.FieldType.int) : Jvm.Cond)), (35, (.methodLink "ScrubwardLaw" 54 ⟨"Scrubward", "pass", "(I)I"⟩ : Jvm.Cond)), (36, (.instanceMethod ⟨"Scrubward", "pass", "(I)I"⟩ : Jvm.Cond)), (37, (.selects "Scrubward" ⟨"Scrubward", "pass", "(I)I"⟩ ⟨"Scrubward", "pass", "(I)I"⟩ : Jvm.Cond)), (38, (.code ⟨"Scrubward", "pass", "(I)I"⟩ prog_1_method_12_code 3 (Option.some Jvm.ClassFile.FieldType.int) : Jvm.Cond)), (39, (.methodLink "Scrubward" 215 ⟨"Scrubward", "checkTicks", "(I)V"⟩ : Jvm.Cond))]
theorem zwc13_ok : zwc13.all (fun q => decide ((lw_tbl.drop 520)[q.1]? = some q.2) && goodWord q.2) = true := by decide +kernel
theorem zw520 : (.selects "Scrubward$Code" ⟨"Scrubward$Code", "hasBit", "(I)Z"⟩ ⟨"Scrubward$Code", "hasBit", "(I)Z"⟩ : Jvm.Cond) ∈ zB := zbd (j := 0) zwc13_ok rfl
theorem zw521 : (.code ⟨"Scrubward$Code", "hasBit", "(I)Z"⟩ prog_2_method_8_code 2 (Option.some Jvm.ClassFile.FieldType.boolean) : Jvm.Cond) ∈ zB := zbd (j := 1) zwc13_ok rfl
theorem zw523 : (.methodLink "Scrubward" 152 ⟨"Scrubward$Faults", "isFull", "()Z"⟩ : Jvm.Cond) ∈ zB := zbd (j := 2) zwc13_ok rfl
theorem zw525 : (.methodLink "Scrubward" 163 ⟨"Scrubward$Faults", "add", "(III)V"⟩ : Jvm.Cond) ∈ zB := zbd (j := 3) zwc13_ok rfl
theorem zw526 : (.methodLink "ScrubwardLaw" 44 ⟨"Scrubward", "weak", "(III)I"⟩ : Jvm.Cond) ∈ zB := zbd (j := 4) zwc13_ok rfl
theorem zw527 : (.instanceMethod ⟨"Scrubward", "weak", "(III)I"⟩ : Jvm.Cond) ∈ zB := zbd (j := 5) zwc13_ok rfl
theorem zw528 : (.selects "Scrubward" ⟨"Scrubward", "weak", "(III)I"⟩ ⟨"Scrubward", "weak", "(III)I"⟩ : Jvm.Cond) ∈ zB := zbd (j := 6) zwc13_ok rfl
theorem zw529 : (.code ⟨"Scrubward", "weak", "(III)I"⟩ prog_1_method_7_code 4 (Option.some Jvm.ClassFile.FieldType.int) : Jvm.Cond) ∈ zB := zbd (j := 7) zwc13_ok rfl
theorem zw532 : (.methodLink "ScrubwardLaw" 48 ⟨"Scrubward", "hammer", "(III)I"⟩ : Jvm.Cond) ∈ zB := zbd (j := 8) zwc13_ok rfl
theorem zw533 : (.instanceMethod ⟨"Scrubward", "hammer", "(III)I"⟩ : Jvm.Cond) ∈ zB := zbd (j := 9) zwc13_ok rfl
theorem zw534 : (.selects "Scrubward" ⟨"Scrubward", "hammer", "(III)I"⟩ ⟨"Scrubward", "hammer", "(III)I"⟩ : Jvm.Cond) ∈ zB := zbd (j := 10) zwc13_ok rfl
theorem zw535 : (.code ⟨"Scrubward", "hammer", "(III)I"⟩ prog_1_method_8_code 6 (Option.some Jvm.ClassFile.FieldType.int) : Jvm.Cond) ∈ zB := zbd (j := 11) zwc13_ok rfl
theorem zw536 : (.methodLink "Scrubward" 177 ⟨"Scrubward", "checkRow", "(II)V"⟩ : Jvm.Cond) ∈ zB := zbd (j := 12) zwc13_ok rfl
theorem zw537 : (.static ⟨"Scrubward", "checkRow", "(II)V"⟩ : Jvm.Cond) ∈ zB := zbd (j := 13) zwc13_ok rfl
theorem zw538 : (.code ⟨"Scrubward", "checkRow", "(II)V"⟩ prog_1_method_33_code 2 (Option.none : Option Jvm.ClassFile.FieldType) : Jvm.Cond) ∈ zB := zbd (j := 14) zwc13_ok rfl
theorem zw539 : (.methodLink "Scrubward" 271 ⟨"Scrubward", "checkBank", "(I)V"⟩ : Jvm.Cond) ∈ zB := zbd (j := 15) zwc13_ok rfl
theorem zw540 : (.static ⟨"Scrubward", "checkBank", "(I)V"⟩ : Jvm.Cond) ∈ zB := zbd (j := 16) zwc13_ok rfl
theorem zw541 : (.code ⟨"Scrubward", "checkBank", "(I)V"⟩ prog_1_method_32_code 1 (Option.none : Option Jvm.ClassFile.FieldType) : Jvm.Cond) ∈ zB := zbd (j := 17) zwc13_ok rfl
theorem zw545 : (.methodLink "Scrubward" 182 ⟨"Scrubward", "firstAddress", "(II)I"⟩ : Jvm.Cond) ∈ zB := zbd (j := 18) zwc13_ok rfl
theorem zw546 : (.static ⟨"Scrubward", "firstAddress", "(II)I"⟩ : Jvm.Cond) ∈ zB := zbd (j := 19) zwc13_ok rfl
theorem zw547 : (.code ⟨"Scrubward", "firstAddress", "(II)I"⟩ prog_1_method_37_code 2 (Option.some Jvm.ClassFile.FieldType.int) : Jvm.Cond) ∈ zB := zbd (j := 20) zwc13_ok rfl
theorem zw548 : (.methodLink "ScrubwardLaw" 26 ⟨"Scrubward", "run", "(IIIZZ)I"⟩ : Jvm.Cond) ∈ zB := zbd (j := 21) zwc13_ok rfl
theorem zw549 : (.instanceMethod ⟨"Scrubward", "run", "(IIIZZ)I"⟩ : Jvm.Cond) ∈ zB := zbd (j := 22) zwc13_ok rfl
theorem zw550 : (.selects "Scrubward" ⟨"Scrubward", "run", "(IIIZZ)I"⟩ ⟨"Scrubward", "run", "(IIIZZ)I"⟩ : Jvm.Cond) ∈ zB := zbd (j := 23) zwc13_ok rfl
theorem zw551 : (.code ⟨"Scrubward", "run", "(IIIZZ)I"⟩ prog_1_method_9_code 7 (Option.some Jvm.ClassFile.FieldType.int) : Jvm.Cond) ∈ zB := zbd (j := 24) zwc13_ok rfl
theorem zw555 : (.methodLink "ScrubwardLaw" 54 ⟨"Scrubward", "pass", "(I)I"⟩ : Jvm.Cond) ∈ zB := zbd (j := 25) zwc13_ok rfl
theorem zw556 : (.instanceMethod ⟨"Scrubward", "pass", "(I)I"⟩ : Jvm.Cond) ∈ zB := zbd (j := 26) zwc13_ok rfl
theorem zw557 : (.selects "Scrubward" ⟨"Scrubward", "pass", "(I)I"⟩ ⟨"Scrubward", "pass", "(I)I"⟩ : Jvm.Cond) ∈ zB := zbd (j := 27) zwc13_ok rfl
theorem zw558 : (.code ⟨"Scrubward", "pass", "(I)I"⟩ prog_1_method_12_code 3 (Option.some Jvm.ClassFile.FieldType.int) : Jvm.Cond) ∈ zB := zbd (j := 28) zwc13_ok rfl
theorem zw559 : (.methodLink "Scrubward" 215 ⟨"Scrubward", "checkTicks", "(I)V"⟩ : Jvm.Cond) ∈ zB := zbd (j := 29) zwc13_ok rfl
def zwc14 : List (Nat × Jvm.Cond) := [(0, (.static ⟨"Scrubward", "checkTicks", "(I)V"⟩ : Jvm.Cond)), (1, (.code ⟨"Scrubward", "checkTicks", "(I)V"⟩ prog_1_method_34_code 1 (Option.none : Option Jvm.ClassFile.FieldType) : Jvm.Cond)), (4, (.methodLink "Scrubward" 223 ⟨"Scrubward$Memory", "beginTick", "()V"⟩ : Jvm.Cond)), (5, (.instanceMethod ⟨"Scrubward$Memory", "beginTick", "()V"⟩ : Jvm.Cond)), (6, (.selects "Scrubward$Memory" ⟨"Scrubward$Memory", "beginTick", "()V"⟩ ⟨"Scrubward$Memory", "beginTick", "()V"⟩ : Jvm.Cond)), (7, (.code ⟨"Scrubward$Memory", "beginTick", "()V"⟩ prog_6_method_8_code 3 (Option.none : Option Jvm.ClassFile.FieldType) : Jvm.Cond)), (8, (.methodLink "Scrubward$Memory" 98 ⟨"Scrubward$Memory", "isRefreshedAt", "(I)Z"⟩ : Jvm.Cond)), (10, (.instanceMethod ⟨"Scrubward$Memory", "isRefreshedAt", "(I)Z"⟩ : Jvm.Cond)), (11, (.code ⟨"Scrubward$Memory", "isRefreshedAt", "(I)Z"⟩ prog_6_method_9_code 2 (Option.some Jvm.ClassFile.FieldType.boolean) : Jvm.Cond)), (12, (.methodLink "Scrubward" 226 ⟨"Scrubward", "scrubSteps", "()V"⟩ : Jvm.Cond)), (14, (.instanceMethod ⟨"Scrubward", "scrubSteps", "()V"⟩ : Jvm.Cond)), (15, (.code ⟨"Scrubward", "scrubSteps", "()V"⟩ prog_1_method_54_code 4 (Option.none : Option Jvm.ClassFile.FieldType) : Jvm.Cond)), (16, (.methodLink "ScrubwardLaw" 36 ⟨"Scrubward", "board", "(I)I"⟩ : Jvm.Cond)), (17, (.instanceMethod ⟨"Scrubward", "board", "(I)I"⟩ : Jvm.Cond)), (18, (.selects "Scrubward" ⟨"Scrubward", "board", "(I)I"⟩ ⟨"Scrubward", "board", "(I)I"⟩ : Jvm.Cond)), (19, (.code ⟨"Scrubward", "board", "(I)I"⟩ prog_1_method_23_code 2 (Option.some Jvm.ClassFile.FieldType.int) : Jvm.Cond)), (20, (.methodLink "Scrubward" 212 ⟨"Scrubward$Ints", "sum", "()I"⟩ : Jvm.Cond)), (21, (.instanceMethod ⟨"Scrubward$Ints", "sum", "()I"⟩ : Jvm.Cond)), (22, (.selects "Scrubward$Ints" ⟨"Scrubward$Ints", "sum", "()I"⟩ ⟨"Scrubward$Ints", "sum", "()I"⟩ : Jvm.Cond)), (23, (.code ⟨"Scrubward$Ints", "sum", "()I"⟩ prog_4_method_5_code 3 (Option.some Jvm.ClassFile.FieldType.int) : Jvm.Cond)), (25, (.methodLink "ScrubwardLaw" 57 ⟨"Scrubward", "wouldRead", "(I)I"⟩ : Jvm.Cond)), (26, (.instanceMethod ⟨"Scrubward", "wouldRead", "(I)I"⟩ : Jvm.Cond)), (27, (.selects "Scrubward" ⟨"Scrubward", "wouldRead", "(I)I"⟩ ⟨"Scrubward", "wouldRead", "(I)I"⟩ : Jvm.Cond)), (28, (.code ⟨"Scrubward", "wouldRead", "(I)I"⟩ prog_1_method_26_code 4 (Option.some Jvm.ClassFile.FieldType.int) : Jvm.Cond)), (29, (.methodLink "ScrubwardLaw" 63 ⟨"Scrubward", "wouldSpare", "(I)I"⟩ : Jvm.Cond)), (30, (.instanceMethod ⟨"Scrubward", "wouldSpare", "(I)I"⟩ : Jvm.Cond)), (31, (.selects "Scrubward" ⟨"Scrubward", "wouldSpare", "(I)I"⟩ ⟨"Scrubward", "wouldSpare", "(I)I"⟩ : Jvm.Cond)), (32, (.code ⟨"Scrubward", "wouldSpare", "(I)I"⟩ prog_1_method_27_code 9 (Option.some Jvm.ClassFile.FieldType.int) : Jvm.Cond)), (33, (.methodLink "Scrubward" 285 ⟨"Scrubward", "uncleanIn", "(I)I"⟩ : Jvm.Cond)), (35, (.instanceMethod ⟨"Scrubward", "uncleanIn", "(I)I"⟩ : Jvm.Cond)), (36, (.code ⟨"Scrubward", "uncleanIn", "(I)I"⟩ prog_1_method_49_code 4 (Option.some Jvm.ClassFile.FieldType.int) : Jvm.Cond)), (37, (.methodLink "Scrubward" 326 ⟨"Scrubward$Code", "isClean", "(I)Z"⟩ : Jvm.Cond)), (38, (.instanceMethod ⟨"Scrubward$Code", "isClean", "(I)Z"⟩ : Jvm.Cond)), (39, (.selects "Scrubward$Code" ⟨"Scrubward$Code", "isClean", "(I)Z"⟩ ⟨"Scrubward$Code", "isClean", "(I)Z"⟩ : Jvm.Cond))]
theorem zwc14_ok : zwc14.all (fun q => decide ((lw_tbl.drop 560)[q.1]? = some q.2) && goodWord q.2) = true := by decide +kernel
theorem zw560 : (.static ⟨"Scrubward", "checkTicks", "(I)V"⟩ : Jvm.Cond) ∈ zB := zbd (j := 0) zwc14_ok rfl
theorem zw561 : (.code ⟨"Scrubward", "checkTicks", "(I)V"⟩ prog_1_method_34_code 1 (Option.none : Option Jvm.ClassFile.FieldType) : Jvm.Cond) ∈ zB := zbd (j := 1) zwc14_ok rfl
theorem zw564 : (.methodLink "Scrubward" 223 ⟨"Scrubward$Memory", "beginTick", "()V"⟩ : Jvm.Cond) ∈ zB := zbd (j := 2) zwc14_ok rfl
theorem zw565 : (.instanceMethod ⟨"Scrubward$Memory", "beginTick", "()V"⟩ : Jvm.Cond) ∈ zB := zbd (j := 3) zwc14_ok rfl
theorem zw566 : (.selects "Scrubward$Memory" ⟨"Scrubward$Memory", "beginTick", "()V"⟩ ⟨"Scrubward$Memory", "beginTick", "()V"⟩ : Jvm.Cond) ∈ zB := zbd (j := 4) zwc14_ok rfl
theorem zw567 : (.code ⟨"Scrubward$Memory", "beginTick", "()V"⟩ prog_6_method_8_code 3 (Option.none : Option Jvm.ClassFile.FieldType) : Jvm.Cond) ∈ zB := zbd (j := 5) zwc14_ok rfl
theorem zw568 : (.methodLink "Scrubward$Memory" 98 ⟨"Scrubward$Memory", "isRefreshedAt", "(I)Z"⟩ : Jvm.Cond) ∈ zB := zbd (j := 6) zwc14_ok rfl
theorem zw570 : (.instanceMethod ⟨"Scrubward$Memory", "isRefreshedAt", "(I)Z"⟩ : Jvm.Cond) ∈ zB := zbd (j := 7) zwc14_ok rfl
theorem zw571 : (.code ⟨"Scrubward$Memory", "isRefreshedAt", "(I)Z"⟩ prog_6_method_9_code 2 (Option.some Jvm.ClassFile.FieldType.boolean) : Jvm.Cond) ∈ zB := zbd (j := 8) zwc14_ok rfl
theorem zw572 : (.methodLink "Scrubward" 226 ⟨"Scrubward", "scrubSteps", "()V"⟩ : Jvm.Cond) ∈ zB := zbd (j := 9) zwc14_ok rfl
theorem zw574 : (.instanceMethod ⟨"Scrubward", "scrubSteps", "()V"⟩ : Jvm.Cond) ∈ zB := zbd (j := 10) zwc14_ok rfl
theorem zw575 : (.code ⟨"Scrubward", "scrubSteps", "()V"⟩ prog_1_method_54_code 4 (Option.none : Option Jvm.ClassFile.FieldType) : Jvm.Cond) ∈ zB := zbd (j := 11) zwc14_ok rfl
theorem zw576 : (.methodLink "ScrubwardLaw" 36 ⟨"Scrubward", "board", "(I)I"⟩ : Jvm.Cond) ∈ zB := zbd (j := 12) zwc14_ok rfl
theorem zw577 : (.instanceMethod ⟨"Scrubward", "board", "(I)I"⟩ : Jvm.Cond) ∈ zB := zbd (j := 13) zwc14_ok rfl
theorem zw578 : (.selects "Scrubward" ⟨"Scrubward", "board", "(I)I"⟩ ⟨"Scrubward", "board", "(I)I"⟩ : Jvm.Cond) ∈ zB := zbd (j := 14) zwc14_ok rfl
theorem zw579 : (.code ⟨"Scrubward", "board", "(I)I"⟩ prog_1_method_23_code 2 (Option.some Jvm.ClassFile.FieldType.int) : Jvm.Cond) ∈ zB := zbd (j := 15) zwc14_ok rfl
theorem zw580 : (.methodLink "Scrubward" 212 ⟨"Scrubward$Ints", "sum", "()I"⟩ : Jvm.Cond) ∈ zB := zbd (j := 16) zwc14_ok rfl
theorem zw581 : (.instanceMethod ⟨"Scrubward$Ints", "sum", "()I"⟩ : Jvm.Cond) ∈ zB := zbd (j := 17) zwc14_ok rfl
theorem zw582 : (.selects "Scrubward$Ints" ⟨"Scrubward$Ints", "sum", "()I"⟩ ⟨"Scrubward$Ints", "sum", "()I"⟩ : Jvm.Cond) ∈ zB := zbd (j := 18) zwc14_ok rfl
theorem zw583 : (.code ⟨"Scrubward$Ints", "sum", "()I"⟩ prog_4_method_5_code 3 (Option.some Jvm.ClassFile.FieldType.int) : Jvm.Cond) ∈ zB := zbd (j := 19) zwc14_ok rfl
theorem zw585 : (.methodLink "ScrubwardLaw" 57 ⟨"Scrubward", "wouldRead", "(I)I"⟩ : Jvm.Cond) ∈ zB := zbd (j := 20) zwc14_ok rfl
theorem zw586 : (.instanceMethod ⟨"Scrubward", "wouldRead", "(I)I"⟩ : Jvm.Cond) ∈ zB := zbd (j := 21) zwc14_ok rfl
theorem zw587 : (.selects "Scrubward" ⟨"Scrubward", "wouldRead", "(I)I"⟩ ⟨"Scrubward", "wouldRead", "(I)I"⟩ : Jvm.Cond) ∈ zB := zbd (j := 22) zwc14_ok rfl
theorem zw588 : (.code ⟨"Scrubward", "wouldRead", "(I)I"⟩ prog_1_method_26_code 4 (Option.some Jvm.ClassFile.FieldType.int) : Jvm.Cond) ∈ zB := zbd (j := 23) zwc14_ok rfl
theorem zw589 : (.methodLink "ScrubwardLaw" 63 ⟨"Scrubward", "wouldSpare", "(I)I"⟩ : Jvm.Cond) ∈ zB := zbd (j := 24) zwc14_ok rfl
theorem zw590 : (.instanceMethod ⟨"Scrubward", "wouldSpare", "(I)I"⟩ : Jvm.Cond) ∈ zB := zbd (j := 25) zwc14_ok rfl
theorem zw591 : (.selects "Scrubward" ⟨"Scrubward", "wouldSpare", "(I)I"⟩ ⟨"Scrubward", "wouldSpare", "(I)I"⟩ : Jvm.Cond) ∈ zB := zbd (j := 26) zwc14_ok rfl
theorem zw592 : (.code ⟨"Scrubward", "wouldSpare", "(I)I"⟩ prog_1_method_27_code 9 (Option.some Jvm.ClassFile.FieldType.int) : Jvm.Cond) ∈ zB := zbd (j := 27) zwc14_ok rfl
theorem zw593 : (.methodLink "Scrubward" 285 ⟨"Scrubward", "uncleanIn", "(I)I"⟩ : Jvm.Cond) ∈ zB := zbd (j := 28) zwc14_ok rfl
theorem zw595 : (.instanceMethod ⟨"Scrubward", "uncleanIn", "(I)I"⟩ : Jvm.Cond) ∈ zB := zbd (j := 29) zwc14_ok rfl
theorem zw596 : (.code ⟨"Scrubward", "uncleanIn", "(I)I"⟩ prog_1_method_49_code 4 (Option.some Jvm.ClassFile.FieldType.int) : Jvm.Cond) ∈ zB := zbd (j := 30) zwc14_ok rfl
theorem zw597 : (.methodLink "Scrubward" 326 ⟨"Scrubward$Code", "isClean", "(I)Z"⟩ : Jvm.Cond) ∈ zB := zbd (j := 31) zwc14_ok rfl
theorem zw598 : (.instanceMethod ⟨"Scrubward$Code", "isClean", "(I)Z"⟩ : Jvm.Cond) ∈ zB := zbd (j := 32) zwc14_ok rfl
theorem zw599 : (.selects "Scrubward$Code" ⟨"Scrubward$Code", "isClean", "(I)Z"⟩ ⟨"Scrubward$Code", "isClean", "(I)Z"⟩ : Jvm.Cond) ∈ zB := zbd (j := 33) zwc14_ok rfl
def zwc15 : List (Nat × Jvm.Cond) := [(0, (.code ⟨"Scrubward$Code", "isClean", "(I)Z"⟩ prog_2_method_11_code 2 (Option.some Jvm.ClassFile.FieldType.boolean) : Jvm.Cond)), (1, (.methodLink "Scrubward" 282 ⟨"Scrubward", "stuckIn", "(I)I"⟩ : Jvm.Cond)), (3, (.instanceMethod ⟨"Scrubward", "stuckIn", "(I)I"⟩ : Jvm.Cond)), (4, (.code ⟨"Scrubward", "stuckIn", "(I)I"⟩ prog_1_method_48_code 2 (Option.some Jvm.ClassFile.FieldType.int) : Jvm.Cond)), (5, (.methodLink "Scrubward" 266 ⟨"Scrubward$Faults", "countIn", "(II)I"⟩ : Jvm.Cond)), (6, (.instanceMethod ⟨"Scrubward$Faults", "countIn", "(II)I"⟩ : Jvm.Cond)), (7, (.selects "Scrubward$Faults" ⟨"Scrubward$Faults", "countIn", "(II)I"⟩ ⟨"Scrubward$Faults", "countIn", "(II)I"⟩ : Jvm.Cond)), (8, (.code ⟨"Scrubward$Faults", "countIn", "(II)I"⟩ prog_3_method_5_code 5 (Option.some Jvm.ClassFile.FieldType.int) : Jvm.Cond)), (9, (.methodLink "ScrubwardLaw" 60 ⟨"Scrubward", "wouldLeak", "(I)I"⟩ : Jvm.Cond)), (10, (.instanceMethod ⟨"Scrubward", "wouldLeak", "(I)I"⟩ : Jvm.Cond)), (11, (.selects "Scrubward" ⟨"Scrubward", "wouldLeak", "(I)I"⟩ ⟨"Scrubward", "wouldLeak", "(I)I"⟩ : Jvm.Cond)), (12, (.code ⟨"Scrubward", "wouldLeak", "(I)I"⟩ prog_1_method_28_code 2 (Option.some Jvm.ClassFile.FieldType.int) : Jvm.Cond)), (13, (.methodLink "Scrubward" 346 ⟨"Scrubward$Memory", "leaksWithin", "(I)I"⟩ : Jvm.Cond)), (14, (.instanceMethod ⟨"Scrubward$Memory", "leaksWithin", "(I)I"⟩ : Jvm.Cond)), (15, (.selects "Scrubward$Memory" ⟨"Scrubward$Memory", "leaksWithin", "(I)I"⟩ ⟨"Scrubward$Memory", "leaksWithin", "(I)I"⟩ : Jvm.Cond)), (16, (.code ⟨"Scrubward$Memory", "leaksWithin", "(I)I"⟩ prog_6_method_10_code 7 (Option.some Jvm.ClassFile.FieldType.int) : Jvm.Cond)), (17, (.methodLink "Scrubward$Memory" 102 ⟨"Scrubward$Memory", "isLeakable", "(II)Z"⟩ : Jvm.Cond)), (19, (.instanceMethod ⟨"Scrubward$Memory", "isLeakable", "(II)Z"⟩ : Jvm.Cond)), (20, (.code ⟨"Scrubward$Memory", "isLeakable", "(II)Z"⟩ prog_6_method_11_code 4 (Option.some Jvm.ClassFile.FieldType.boolean) : Jvm.Cond)), (21, (.methodLink "Scrubward$Memory" 106 ⟨"Scrubward$Memory", "isOverWithin", "(II)Z"⟩ : Jvm.Cond)), (23, (.instanceMethod ⟨"Scrubward$Memory", "isOverWithin", "(II)Z"⟩ : Jvm.Cond)), (24, (.code ⟨"Scrubward$Memory", "isOverWithin", "(II)Z"⟩ prog_6_method_12_code 5 (Option.some Jvm.ClassFile.FieldType.boolean) : Jvm.Cond)), (25, (.methodLink "ScrubwardLaw" 70 ⟨"Scrubward", "isSound", "()Z"⟩ : Jvm.Cond)), (26, (.instanceMethod ⟨"Scrubward", "isSound", "()Z"⟩ : Jvm.Cond)), (27, (.selects "Scrubward" ⟨"Scrubward", "isSound", "()Z"⟩ ⟨"Scrubward", "isSound", "()Z"⟩ : Jvm.Cond)), (28, (.code ⟨"Scrubward", "isSound", "()Z"⟩ prog_1_method_29_code 1 (Option.some Jvm.ClassFile.FieldType.boolean) : Jvm.Cond)), (29, (.methodLink "Scrubward" 349 ⟨"Scrubward$Code", "isInOrder", "()Z"⟩ : Jvm.Cond)), (30, (.instanceMethod ⟨"Scrubward$Code", "isInOrder", "()Z"⟩ : Jvm.Cond)), (31, (.selects "Scrubward$Code" ⟨"Scrubward$Code", "isInOrder", "()Z"⟩ ⟨"Scrubward$Code", "isInOrder", "()Z"⟩ : Jvm.Cond)), (32, (.code ⟨"Scrubward$Code", "isInOrder", "()Z"⟩ prog_2_method_19_code 3 (Option.some Jvm.ClassFile.FieldType.boolean) : Jvm.Cond)), (33, (.methodLink "Scrubward" 352 ⟨"Scrubward$Memory", "isInOrder", "()Z"⟩ : Jvm.Cond)), (34, (.instanceMethod ⟨"Scrubward$Memory", "isInOrder", "()Z"⟩ : Jvm.Cond)), (35, (.selects "Scrubward$Memory" ⟨"Scrubward$Memory", "isInOrder", "()Z"⟩ ⟨"Scrubward$Memory", "isInOrder", "()Z"⟩ : Jvm.Cond)), (36, (.code ⟨"Scrubward$Memory", "isInOrder", "()Z"⟩ prog_6_method_13_code 3 (Option.some Jvm.ClassFile.FieldType.boolean) : Jvm.Cond)), (37, (.methodLink "Scrubward" 353 ⟨"Scrubward$Log", "isInOrder", "()Z"⟩ : Jvm.Cond)), (38, (.instanceMethod ⟨"Scrubward$Log", "isInOrder", "()Z"⟩ : Jvm.Cond)), (39, (.selects "Scrubward$Log" ⟨"Scrubward$Log", "isInOrder", "()Z"⟩ ⟨"Scrubward$Log", "isInOrder", "()Z"⟩ : Jvm.Cond))]
theorem zwc15_ok : zwc15.all (fun q => decide ((lw_tbl.drop 600)[q.1]? = some q.2) && goodWord q.2) = true := by decide +kernel
theorem zw600 : (.code ⟨"Scrubward$Code", "isClean", "(I)Z"⟩ prog_2_method_11_code 2 (Option.some Jvm.ClassFile.FieldType.boolean) : Jvm.Cond) ∈ zB := zbd (j := 0) zwc15_ok rfl
theorem zw601 : (.methodLink "Scrubward" 282 ⟨"Scrubward", "stuckIn", "(I)I"⟩ : Jvm.Cond) ∈ zB := zbd (j := 1) zwc15_ok rfl
theorem zw603 : (.instanceMethod ⟨"Scrubward", "stuckIn", "(I)I"⟩ : Jvm.Cond) ∈ zB := zbd (j := 2) zwc15_ok rfl
theorem zw604 : (.code ⟨"Scrubward", "stuckIn", "(I)I"⟩ prog_1_method_48_code 2 (Option.some Jvm.ClassFile.FieldType.int) : Jvm.Cond) ∈ zB := zbd (j := 3) zwc15_ok rfl
theorem zw605 : (.methodLink "Scrubward" 266 ⟨"Scrubward$Faults", "countIn", "(II)I"⟩ : Jvm.Cond) ∈ zB := zbd (j := 4) zwc15_ok rfl
theorem zw606 : (.instanceMethod ⟨"Scrubward$Faults", "countIn", "(II)I"⟩ : Jvm.Cond) ∈ zB := zbd (j := 5) zwc15_ok rfl
theorem zw607 : (.selects "Scrubward$Faults" ⟨"Scrubward$Faults", "countIn", "(II)I"⟩ ⟨"Scrubward$Faults", "countIn", "(II)I"⟩ : Jvm.Cond) ∈ zB := zbd (j := 6) zwc15_ok rfl
theorem zw608 : (.code ⟨"Scrubward$Faults", "countIn", "(II)I"⟩ prog_3_method_5_code 5 (Option.some Jvm.ClassFile.FieldType.int) : Jvm.Cond) ∈ zB := zbd (j := 7) zwc15_ok rfl
theorem zw609 : (.methodLink "ScrubwardLaw" 60 ⟨"Scrubward", "wouldLeak", "(I)I"⟩ : Jvm.Cond) ∈ zB := zbd (j := 8) zwc15_ok rfl
theorem zw610 : (.instanceMethod ⟨"Scrubward", "wouldLeak", "(I)I"⟩ : Jvm.Cond) ∈ zB := zbd (j := 9) zwc15_ok rfl
theorem zw611 : (.selects "Scrubward" ⟨"Scrubward", "wouldLeak", "(I)I"⟩ ⟨"Scrubward", "wouldLeak", "(I)I"⟩ : Jvm.Cond) ∈ zB := zbd (j := 10) zwc15_ok rfl
theorem zw612 : (.code ⟨"Scrubward", "wouldLeak", "(I)I"⟩ prog_1_method_28_code 2 (Option.some Jvm.ClassFile.FieldType.int) : Jvm.Cond) ∈ zB := zbd (j := 11) zwc15_ok rfl
theorem zw613 : (.methodLink "Scrubward" 346 ⟨"Scrubward$Memory", "leaksWithin", "(I)I"⟩ : Jvm.Cond) ∈ zB := zbd (j := 12) zwc15_ok rfl
theorem zw614 : (.instanceMethod ⟨"Scrubward$Memory", "leaksWithin", "(I)I"⟩ : Jvm.Cond) ∈ zB := zbd (j := 13) zwc15_ok rfl
theorem zw615 : (.selects "Scrubward$Memory" ⟨"Scrubward$Memory", "leaksWithin", "(I)I"⟩ ⟨"Scrubward$Memory", "leaksWithin", "(I)I"⟩ : Jvm.Cond) ∈ zB := zbd (j := 14) zwc15_ok rfl
theorem zw616 : (.code ⟨"Scrubward$Memory", "leaksWithin", "(I)I"⟩ prog_6_method_10_code 7 (Option.some Jvm.ClassFile.FieldType.int) : Jvm.Cond) ∈ zB := zbd (j := 15) zwc15_ok rfl
theorem zw617 : (.methodLink "Scrubward$Memory" 102 ⟨"Scrubward$Memory", "isLeakable", "(II)Z"⟩ : Jvm.Cond) ∈ zB := zbd (j := 16) zwc15_ok rfl
theorem zw619 : (.instanceMethod ⟨"Scrubward$Memory", "isLeakable", "(II)Z"⟩ : Jvm.Cond) ∈ zB := zbd (j := 17) zwc15_ok rfl
theorem zw620 : (.code ⟨"Scrubward$Memory", "isLeakable", "(II)Z"⟩ prog_6_method_11_code 4 (Option.some Jvm.ClassFile.FieldType.boolean) : Jvm.Cond) ∈ zB := zbd (j := 18) zwc15_ok rfl
theorem zw621 : (.methodLink "Scrubward$Memory" 106 ⟨"Scrubward$Memory", "isOverWithin", "(II)Z"⟩ : Jvm.Cond) ∈ zB := zbd (j := 19) zwc15_ok rfl
theorem zw623 : (.instanceMethod ⟨"Scrubward$Memory", "isOverWithin", "(II)Z"⟩ : Jvm.Cond) ∈ zB := zbd (j := 20) zwc15_ok rfl
theorem zw624 : (.code ⟨"Scrubward$Memory", "isOverWithin", "(II)Z"⟩ prog_6_method_12_code 5 (Option.some Jvm.ClassFile.FieldType.boolean) : Jvm.Cond) ∈ zB := zbd (j := 21) zwc15_ok rfl
theorem zw625 : (.methodLink "ScrubwardLaw" 70 ⟨"Scrubward", "isSound", "()Z"⟩ : Jvm.Cond) ∈ zB := zbd (j := 22) zwc15_ok rfl
theorem zw626 : (.instanceMethod ⟨"Scrubward", "isSound", "()Z"⟩ : Jvm.Cond) ∈ zB := zbd (j := 23) zwc15_ok rfl
theorem zw627 : (.selects "Scrubward" ⟨"Scrubward", "isSound", "()Z"⟩ ⟨"Scrubward", "isSound", "()Z"⟩ : Jvm.Cond) ∈ zB := zbd (j := 24) zwc15_ok rfl
theorem zw628 : (.code ⟨"Scrubward", "isSound", "()Z"⟩ prog_1_method_29_code 1 (Option.some Jvm.ClassFile.FieldType.boolean) : Jvm.Cond) ∈ zB := zbd (j := 25) zwc15_ok rfl
theorem zw629 : (.methodLink "Scrubward" 349 ⟨"Scrubward$Code", "isInOrder", "()Z"⟩ : Jvm.Cond) ∈ zB := zbd (j := 26) zwc15_ok rfl
theorem zw630 : (.instanceMethod ⟨"Scrubward$Code", "isInOrder", "()Z"⟩ : Jvm.Cond) ∈ zB := zbd (j := 27) zwc15_ok rfl
theorem zw631 : (.selects "Scrubward$Code" ⟨"Scrubward$Code", "isInOrder", "()Z"⟩ ⟨"Scrubward$Code", "isInOrder", "()Z"⟩ : Jvm.Cond) ∈ zB := zbd (j := 28) zwc15_ok rfl
theorem zw632 : (.code ⟨"Scrubward$Code", "isInOrder", "()Z"⟩ prog_2_method_19_code 3 (Option.some Jvm.ClassFile.FieldType.boolean) : Jvm.Cond) ∈ zB := zbd (j := 29) zwc15_ok rfl
theorem zw633 : (.methodLink "Scrubward" 352 ⟨"Scrubward$Memory", "isInOrder", "()Z"⟩ : Jvm.Cond) ∈ zB := zbd (j := 30) zwc15_ok rfl
theorem zw634 : (.instanceMethod ⟨"Scrubward$Memory", "isInOrder", "()Z"⟩ : Jvm.Cond) ∈ zB := zbd (j := 31) zwc15_ok rfl
theorem zw635 : (.selects "Scrubward$Memory" ⟨"Scrubward$Memory", "isInOrder", "()Z"⟩ ⟨"Scrubward$Memory", "isInOrder", "()Z"⟩ : Jvm.Cond) ∈ zB := zbd (j := 32) zwc15_ok rfl
theorem zw636 : (.code ⟨"Scrubward$Memory", "isInOrder", "()Z"⟩ prog_6_method_13_code 3 (Option.some Jvm.ClassFile.FieldType.boolean) : Jvm.Cond) ∈ zB := zbd (j := 33) zwc15_ok rfl
theorem zw637 : (.methodLink "Scrubward" 353 ⟨"Scrubward$Log", "isInOrder", "()Z"⟩ : Jvm.Cond) ∈ zB := zbd (j := 34) zwc15_ok rfl
theorem zw638 : (.instanceMethod ⟨"Scrubward$Log", "isInOrder", "()Z"⟩ : Jvm.Cond) ∈ zB := zbd (j := 35) zwc15_ok rfl
theorem zw639 : (.selects "Scrubward$Log" ⟨"Scrubward$Log", "isInOrder", "()Z"⟩ ⟨"Scrubward$Log", "isInOrder", "()Z"⟩ : Jvm.Cond) ∈ zB := zbd (j := 36) zwc15_ok rfl
def zwc16 : List (Nat × Jvm.Cond) := [(0, (.code ⟨"Scrubward$Log", "isInOrder", "()Z"⟩ prog_5_method_10_code 1 (Option.some Jvm.ClassFile.FieldType.boolean) : Jvm.Cond)), (1, (.methodLink "Scrubward" 354 ⟨"Scrubward", "rowsHaveOwnLines", "()Z"⟩ : Jvm.Cond)), (3, (.instanceMethod ⟨"Scrubward", "rowsHaveOwnLines", "()Z"⟩ : Jvm.Cond)), (4, (.code ⟨"Scrubward", "rowsHaveOwnLines", "()Z"⟩ prog_1_method_43_code 2 (Option.some Jvm.ClassFile.FieldType.boolean) : Jvm.Cond)), (5, (.methodLink "Scrubward" 276 ⟨"Scrubward", "rowOn", "(II)I"⟩ : Jvm.Cond)), (7, (.instanceMethod ⟨"Scrubward", "rowOn", "(II)I"⟩ : Jvm.Cond)), (8, (.code ⟨"Scrubward", "rowOn", "(II)I"⟩ prog_1_method_42_code 4 (Option.some Jvm.ClassFile.FieldType.int) : Jvm.Cond)), (9, (.methodLink "ScrubwardLaw" 66 ⟨"Scrubward", "digest", "()J"⟩ : Jvm.Cond)), (10, (.instanceMethod ⟨"Scrubward", "digest", "()J"⟩ : Jvm.Cond)), (11, (.selects "Scrubward" ⟨"Scrubward", "digest", "()J"⟩ ⟨"Scrubward", "digest", "()J"⟩ : Jvm.Cond)), (12, (.code ⟨"Scrubward", "digest", "()J"⟩ prog_1_method_30_code 5 (Option.some Jvm.ClassFile.FieldType.long) : Jvm.Cond)), (13, (.constantLong "Scrubward" 357 58281 : Jvm.Cond)), (14, (.methodLink "Scrubward" 359 ⟨"Scrubward", "board", "(I)I"⟩ : Jvm.Cond)), (15, (.methodLink "Scrubward" 362 ⟨"Scrubward", "mix", "(JJ)J"⟩ : Jvm.Cond)), (16, (.static ⟨"Scrubward", "mix", "(JJ)J"⟩ : Jvm.Cond)), (17, (.code ⟨"Scrubward", "mix", "(JJ)J"⟩ prog_1_method_56_code 4 (Option.some Jvm.ClassFile.FieldType.long) : Jvm.Cond)), (18, (.constantLong "Scrubward" 412 31 : Jvm.Cond)), (19, (.methodLink "Scrubward" 366 ⟨"Scrubward", "column", "(I)I"⟩ : Jvm.Cond)), (20, (.instanceMethod ⟨"Scrubward", "column", "(I)I"⟩ : Jvm.Cond)), (21, (.selects "Scrubward" ⟨"Scrubward", "column", "(I)I"⟩ ⟨"Scrubward", "column", "(I)I"⟩ : Jvm.Cond)), (22, (.code ⟨"Scrubward", "column", "(I)I"⟩ prog_1_method_15_code 2 (Option.some Jvm.ClassFile.FieldType.int) : Jvm.Cond)), (23, (.methodLink "Scrubward" 369 ⟨"Scrubward", "fooled", "(I)I"⟩ : Jvm.Cond)), (24, (.instanceMethod ⟨"Scrubward", "fooled", "(I)I"⟩ : Jvm.Cond)), (25, (.selects "Scrubward" ⟨"Scrubward", "fooled", "(I)I"⟩ ⟨"Scrubward", "fooled", "(I)I"⟩ : Jvm.Cond)), (26, (.code ⟨"Scrubward", "fooled", "(I)I"⟩ prog_1_method_18_code 2 (Option.some Jvm.ClassFile.FieldType.int) : Jvm.Cond)), (28, (.methodLink "Scrubward" 263 ⟨"Scrubward$Code", "wronglyMended", "(I)I"⟩ : Jvm.Cond)), (29, (.instanceMethod ⟨"Scrubward$Code", "wronglyMended", "(I)I"⟩ : Jvm.Cond)), (30, (.selects "Scrubward$Code" ⟨"Scrubward$Code", "wronglyMended", "(I)I"⟩ ⟨"Scrubward$Code", "wronglyMended", "(I)I"⟩ : Jvm.Cond)), (31, (.code ⟨"Scrubward$Code", "wronglyMended", "(I)I"⟩ prog_2_method_16_code 6 (Option.some Jvm.ClassFile.FieldType.int) : Jvm.Cond)), (32, (.methodLink "Scrubward$Code" 66 ⟨"Scrubward$Code", "oneIfMended", "(I)I"⟩ : Jvm.Cond)), (34, (.instanceMethod ⟨"Scrubward$Code", "oneIfMended", "(I)I"⟩ : Jvm.Cond)), (35, (.code ⟨"Scrubward$Code", "oneIfMended", "(I)I"⟩ prog_2_method_18_code 2 (Option.some Jvm.ClassFile.FieldType.int) : Jvm.Cond)), (36, (.methodLink "Scrubward$Code" 69 ⟨"Scrubward$Code", "thirdBits", "(II)I"⟩ : Jvm.Cond)), (38, (.instanceMethod ⟨"Scrubward$Code", "thirdBits", "(II)I"⟩ : Jvm.Cond)), (39, (.code ⟨"Scrubward$Code", "thirdBits", "(II)I"⟩ prog_2_method_17_code 5 (Option.some Jvm.ClassFile.FieldType.int) : Jvm.Cond))]
theorem zwc16_ok : zwc16.all (fun q => decide ((lw_tbl.drop 640)[q.1]? = some q.2) && goodWord q.2) = true := by decide +kernel
theorem zw640 : (.code ⟨"Scrubward$Log", "isInOrder", "()Z"⟩ prog_5_method_10_code 1 (Option.some Jvm.ClassFile.FieldType.boolean) : Jvm.Cond) ∈ zB := zbd (j := 0) zwc16_ok rfl
theorem zw641 : (.methodLink "Scrubward" 354 ⟨"Scrubward", "rowsHaveOwnLines", "()Z"⟩ : Jvm.Cond) ∈ zB := zbd (j := 1) zwc16_ok rfl
theorem zw643 : (.instanceMethod ⟨"Scrubward", "rowsHaveOwnLines", "()Z"⟩ : Jvm.Cond) ∈ zB := zbd (j := 2) zwc16_ok rfl
theorem zw644 : (.code ⟨"Scrubward", "rowsHaveOwnLines", "()Z"⟩ prog_1_method_43_code 2 (Option.some Jvm.ClassFile.FieldType.boolean) : Jvm.Cond) ∈ zB := zbd (j := 3) zwc16_ok rfl
theorem zw645 : (.methodLink "Scrubward" 276 ⟨"Scrubward", "rowOn", "(II)I"⟩ : Jvm.Cond) ∈ zB := zbd (j := 4) zwc16_ok rfl
theorem zw647 : (.instanceMethod ⟨"Scrubward", "rowOn", "(II)I"⟩ : Jvm.Cond) ∈ zB := zbd (j := 5) zwc16_ok rfl
theorem zw648 : (.code ⟨"Scrubward", "rowOn", "(II)I"⟩ prog_1_method_42_code 4 (Option.some Jvm.ClassFile.FieldType.int) : Jvm.Cond) ∈ zB := zbd (j := 6) zwc16_ok rfl
theorem zw649 : (.methodLink "ScrubwardLaw" 66 ⟨"Scrubward", "digest", "()J"⟩ : Jvm.Cond) ∈ zB := zbd (j := 7) zwc16_ok rfl
theorem zw650 : (.instanceMethod ⟨"Scrubward", "digest", "()J"⟩ : Jvm.Cond) ∈ zB := zbd (j := 8) zwc16_ok rfl
theorem zw651 : (.selects "Scrubward" ⟨"Scrubward", "digest", "()J"⟩ ⟨"Scrubward", "digest", "()J"⟩ : Jvm.Cond) ∈ zB := zbd (j := 9) zwc16_ok rfl
theorem zw652 : (.code ⟨"Scrubward", "digest", "()J"⟩ prog_1_method_30_code 5 (Option.some Jvm.ClassFile.FieldType.long) : Jvm.Cond) ∈ zB := zbd (j := 10) zwc16_ok rfl
theorem zw653 : (.constantLong "Scrubward" 357 58281 : Jvm.Cond) ∈ zB := zbd (j := 11) zwc16_ok rfl
theorem zw654 : (.methodLink "Scrubward" 359 ⟨"Scrubward", "board", "(I)I"⟩ : Jvm.Cond) ∈ zB := zbd (j := 12) zwc16_ok rfl
theorem zw655 : (.methodLink "Scrubward" 362 ⟨"Scrubward", "mix", "(JJ)J"⟩ : Jvm.Cond) ∈ zB := zbd (j := 13) zwc16_ok rfl
theorem zw656 : (.static ⟨"Scrubward", "mix", "(JJ)J"⟩ : Jvm.Cond) ∈ zB := zbd (j := 14) zwc16_ok rfl
theorem zw657 : (.code ⟨"Scrubward", "mix", "(JJ)J"⟩ prog_1_method_56_code 4 (Option.some Jvm.ClassFile.FieldType.long) : Jvm.Cond) ∈ zB := zbd (j := 15) zwc16_ok rfl
theorem zw658 : (.constantLong "Scrubward" 412 31 : Jvm.Cond) ∈ zB := zbd (j := 16) zwc16_ok rfl
theorem zw659 : (.methodLink "Scrubward" 366 ⟨"Scrubward", "column", "(I)I"⟩ : Jvm.Cond) ∈ zB := zbd (j := 17) zwc16_ok rfl
theorem zw660 : (.instanceMethod ⟨"Scrubward", "column", "(I)I"⟩ : Jvm.Cond) ∈ zB := zbd (j := 18) zwc16_ok rfl
theorem zw661 : (.selects "Scrubward" ⟨"Scrubward", "column", "(I)I"⟩ ⟨"Scrubward", "column", "(I)I"⟩ : Jvm.Cond) ∈ zB := zbd (j := 19) zwc16_ok rfl
theorem zw662 : (.code ⟨"Scrubward", "column", "(I)I"⟩ prog_1_method_15_code 2 (Option.some Jvm.ClassFile.FieldType.int) : Jvm.Cond) ∈ zB := zbd (j := 20) zwc16_ok rfl
theorem zw663 : (.methodLink "Scrubward" 369 ⟨"Scrubward", "fooled", "(I)I"⟩ : Jvm.Cond) ∈ zB := zbd (j := 21) zwc16_ok rfl
theorem zw664 : (.instanceMethod ⟨"Scrubward", "fooled", "(I)I"⟩ : Jvm.Cond) ∈ zB := zbd (j := 22) zwc16_ok rfl
theorem zw665 : (.selects "Scrubward" ⟨"Scrubward", "fooled", "(I)I"⟩ ⟨"Scrubward", "fooled", "(I)I"⟩ : Jvm.Cond) ∈ zB := zbd (j := 23) zwc16_ok rfl
theorem zw666 : (.code ⟨"Scrubward", "fooled", "(I)I"⟩ prog_1_method_18_code 2 (Option.some Jvm.ClassFile.FieldType.int) : Jvm.Cond) ∈ zB := zbd (j := 24) zwc16_ok rfl
theorem zw668 : (.methodLink "Scrubward" 263 ⟨"Scrubward$Code", "wronglyMended", "(I)I"⟩ : Jvm.Cond) ∈ zB := zbd (j := 25) zwc16_ok rfl
theorem zw669 : (.instanceMethod ⟨"Scrubward$Code", "wronglyMended", "(I)I"⟩ : Jvm.Cond) ∈ zB := zbd (j := 26) zwc16_ok rfl
theorem zw670 : (.selects "Scrubward$Code" ⟨"Scrubward$Code", "wronglyMended", "(I)I"⟩ ⟨"Scrubward$Code", "wronglyMended", "(I)I"⟩ : Jvm.Cond) ∈ zB := zbd (j := 27) zwc16_ok rfl
theorem zw671 : (.code ⟨"Scrubward$Code", "wronglyMended", "(I)I"⟩ prog_2_method_16_code 6 (Option.some Jvm.ClassFile.FieldType.int) : Jvm.Cond) ∈ zB := zbd (j := 28) zwc16_ok rfl
theorem zw672 : (.methodLink "Scrubward$Code" 66 ⟨"Scrubward$Code", "oneIfMended", "(I)I"⟩ : Jvm.Cond) ∈ zB := zbd (j := 29) zwc16_ok rfl
theorem zw674 : (.instanceMethod ⟨"Scrubward$Code", "oneIfMended", "(I)I"⟩ : Jvm.Cond) ∈ zB := zbd (j := 30) zwc16_ok rfl
theorem zw675 : (.code ⟨"Scrubward$Code", "oneIfMended", "(I)I"⟩ prog_2_method_18_code 2 (Option.some Jvm.ClassFile.FieldType.int) : Jvm.Cond) ∈ zB := zbd (j := 31) zwc16_ok rfl
theorem zw676 : (.methodLink "Scrubward$Code" 69 ⟨"Scrubward$Code", "thirdBits", "(II)I"⟩ : Jvm.Cond) ∈ zB := zbd (j := 32) zwc16_ok rfl
theorem zw678 : (.instanceMethod ⟨"Scrubward$Code", "thirdBits", "(II)I"⟩ : Jvm.Cond) ∈ zB := zbd (j := 33) zwc16_ok rfl
theorem zw679 : (.code ⟨"Scrubward$Code", "thirdBits", "(II)I"⟩ prog_2_method_17_code 5 (Option.some Jvm.ClassFile.FieldType.int) : Jvm.Cond) ∈ zB := zbd (j := 34) zwc16_ok rfl
def zwc17 : List (Nat × Jvm.Cond) := [(0, (.methodLink "Scrubward" 372 ⟨"Scrubward", "mixBank", "(JI)J"⟩ : Jvm.Cond)), (2, (.instanceMethod ⟨"Scrubward", "mixBank", "(JI)J"⟩ : Jvm.Cond)), (3, (.code ⟨"Scrubward", "mixBank", "(JI)J"⟩ prog_1_method_57_code 8 (Option.some Jvm.ClassFile.FieldType.long) : Jvm.Cond)), (4, (.methodLink "Scrubward" 414 ⟨"Scrubward", "blame", "(IZ)I"⟩ : Jvm.Cond)), (5, (.instanceMethod ⟨"Scrubward", "blame", "(IZ)I"⟩ : Jvm.Cond)), (6, (.selects "Scrubward" ⟨"Scrubward", "blame", "(IZ)I"⟩ ⟨"Scrubward", "blame", "(IZ)I"⟩ : Jvm.Cond)), (7, (.code ⟨"Scrubward", "blame", "(IZ)I"⟩ prog_1_method_22_code 5 (Option.some Jvm.ClassFile.FieldType.int) : Jvm.Cond)), (8, (.methodLink "Scrubward" 303 ⟨"Scrubward$Log", "guiltyOf", "(II)I"⟩ : Jvm.Cond)), (9, (.instanceMethod ⟨"Scrubward$Log", "guiltyOf", "(II)I"⟩ : Jvm.Cond)), (10, (.selects "Scrubward$Log" ⟨"Scrubward$Log", "guiltyOf", "(II)I"⟩ ⟨"Scrubward$Log", "guiltyOf", "(II)I"⟩ : Jvm.Cond)), (11, (.code ⟨"Scrubward$Log", "guiltyOf", "(II)I"⟩ prog_5_method_4_code 5 (Option.some Jvm.ClassFile.FieldType.int) : Jvm.Cond)), (12, (.methodLink "Scrubward$Log" 40 ⟨"Scrubward$Log", "guiltyCell", "(I)I"⟩ : Jvm.Cond)), (14, (.instanceMethod ⟨"Scrubward$Log", "guiltyCell", "(I)I"⟩ : Jvm.Cond)), (15, (.code ⟨"Scrubward$Log", "guiltyCell", "(I)I"⟩ prog_5_method_7_code 6 (Option.some Jvm.ClassFile.FieldType.int) : Jvm.Cond)), (16, (.methodLink "Scrubward$Log" 48 ⟨"Scrubward$Ints", "get", "(I)I"⟩ : Jvm.Cond)), (17, (.methodLink "Scrubward$Log" 51 ⟨"Scrubward$Log", "isMendedIn", "(II)Z"⟩ : Jvm.Cond)), (19, (.instanceMethod ⟨"Scrubward$Log", "isMendedIn", "(II)Z"⟩ : Jvm.Cond)), (20, (.code ⟨"Scrubward$Log", "isMendedIn", "(II)Z"⟩ prog_5_method_9_code 3 (Option.some Jvm.ClassFile.FieldType.boolean) : Jvm.Cond)), (21, (.methodLink "Scrubward$Log" 64 ⟨"Scrubward$Log", "isToldAgain", "(I)Z"⟩ : Jvm.Cond)), (23, (.instanceMethod ⟨"Scrubward$Log", "isToldAgain", "(I)Z"⟩ : Jvm.Cond)), (24, (.code ⟨"Scrubward$Log", "isToldAgain", "(I)Z"⟩ prog_5_method_8_code 3 (Option.some Jvm.ClassFile.FieldType.boolean) : Jvm.Cond)), (25, (.methodLink "Scrubward$Log" 44 ⟨"Scrubward$Log", "isGuilty", "(III)Z"⟩ : Jvm.Cond)), (27, (.instanceMethod ⟨"Scrubward$Log", "isGuilty", "(III)Z"⟩ : Jvm.Cond)), (28, (.code ⟨"Scrubward$Log", "isGuilty", "(III)Z"⟩ prog_5_method_5_code 8 (Option.some Jvm.ClassFile.FieldType.boolean) : Jvm.Cond)), (29, (.methodLink "Scrubward$Log" 55 ⟨"Scrubward$Log", "suspectOf", "(IIII)I"⟩ : Jvm.Cond)), (30, (.static ⟨"Scrubward$Log", "suspectOf", "(IIII)I"⟩ : Jvm.Cond)), (31, (.code ⟨"Scrubward$Log", "suspectOf", "(IIII)I"⟩ prog_5_method_6_code 4 (Option.some Jvm.ClassFile.FieldType.int) : Jvm.Cond)), (32, (.methodLink "Scrubward$Log" 59 ⟨"java/lang/Integer", "bitCount", "(I)I"⟩ : Jvm.Cond)), (33, (.methodLink "Scrubward" 418 ⟨"Scrubward", "wouldSpare", "(I)I"⟩ : Jvm.Cond)), (34, (.constantDouble "Scrubward" 329 4634204016564240384 : Jvm.Cond)), (35, (.methodLink "Scrubward" 421 ⟨"Scrubward", "health", "(I)D"⟩ : Jvm.Cond)), (36, (.instanceMethod ⟨"Scrubward", "health", "(I)D"⟩ : Jvm.Cond)), (37, (.selects "Scrubward" ⟨"Scrubward", "health", "(I)D"⟩ ⟨"Scrubward", "health", "(I)D"⟩ : Jvm.Cond)), (38, (.code ⟨"Scrubward", "health", "(I)D"⟩ prog_1_method_24_code 5 (Option.some Jvm.ClassFile.FieldType.double) : Jvm.Cond)), (39, (.methodLink "Scrubward" 425 ⟨"Scrubward", "ofLine", "(III)I"⟩ : Jvm.Cond))]
theorem zwc17_ok : zwc17.all (fun q => decide ((lw_tbl.drop 680)[q.1]? = some q.2) && goodWord q.2) = true := by decide +kernel
theorem zw680 : (.methodLink "Scrubward" 372 ⟨"Scrubward", "mixBank", "(JI)J"⟩ : Jvm.Cond) ∈ zB := zbd (j := 0) zwc17_ok rfl
theorem zw682 : (.instanceMethod ⟨"Scrubward", "mixBank", "(JI)J"⟩ : Jvm.Cond) ∈ zB := zbd (j := 1) zwc17_ok rfl
theorem zw683 : (.code ⟨"Scrubward", "mixBank", "(JI)J"⟩ prog_1_method_57_code 8 (Option.some Jvm.ClassFile.FieldType.long) : Jvm.Cond) ∈ zB := zbd (j := 2) zwc17_ok rfl
theorem zw684 : (.methodLink "Scrubward" 414 ⟨"Scrubward", "blame", "(IZ)I"⟩ : Jvm.Cond) ∈ zB := zbd (j := 3) zwc17_ok rfl
theorem zw685 : (.instanceMethod ⟨"Scrubward", "blame", "(IZ)I"⟩ : Jvm.Cond) ∈ zB := zbd (j := 4) zwc17_ok rfl
theorem zw686 : (.selects "Scrubward" ⟨"Scrubward", "blame", "(IZ)I"⟩ ⟨"Scrubward", "blame", "(IZ)I"⟩ : Jvm.Cond) ∈ zB := zbd (j := 5) zwc17_ok rfl
theorem zw687 : (.code ⟨"Scrubward", "blame", "(IZ)I"⟩ prog_1_method_22_code 5 (Option.some Jvm.ClassFile.FieldType.int) : Jvm.Cond) ∈ zB := zbd (j := 6) zwc17_ok rfl
theorem zw688 : (.methodLink "Scrubward" 303 ⟨"Scrubward$Log", "guiltyOf", "(II)I"⟩ : Jvm.Cond) ∈ zB := zbd (j := 7) zwc17_ok rfl
theorem zw689 : (.instanceMethod ⟨"Scrubward$Log", "guiltyOf", "(II)I"⟩ : Jvm.Cond) ∈ zB := zbd (j := 8) zwc17_ok rfl
theorem zw690 : (.selects "Scrubward$Log" ⟨"Scrubward$Log", "guiltyOf", "(II)I"⟩ ⟨"Scrubward$Log", "guiltyOf", "(II)I"⟩ : Jvm.Cond) ∈ zB := zbd (j := 9) zwc17_ok rfl
theorem zw691 : (.code ⟨"Scrubward$Log", "guiltyOf", "(II)I"⟩ prog_5_method_4_code 5 (Option.some Jvm.ClassFile.FieldType.int) : Jvm.Cond) ∈ zB := zbd (j := 10) zwc17_ok rfl
theorem zw692 : (.methodLink "Scrubward$Log" 40 ⟨"Scrubward$Log", "guiltyCell", "(I)I"⟩ : Jvm.Cond) ∈ zB := zbd (j := 11) zwc17_ok rfl
theorem zw694 : (.instanceMethod ⟨"Scrubward$Log", "guiltyCell", "(I)I"⟩ : Jvm.Cond) ∈ zB := zbd (j := 12) zwc17_ok rfl
theorem zw695 : (.code ⟨"Scrubward$Log", "guiltyCell", "(I)I"⟩ prog_5_method_7_code 6 (Option.some Jvm.ClassFile.FieldType.int) : Jvm.Cond) ∈ zB := zbd (j := 13) zwc17_ok rfl
theorem zw696 : (.methodLink "Scrubward$Log" 48 ⟨"Scrubward$Ints", "get", "(I)I"⟩ : Jvm.Cond) ∈ zB := zbd (j := 14) zwc17_ok rfl
theorem zw697 : (.methodLink "Scrubward$Log" 51 ⟨"Scrubward$Log", "isMendedIn", "(II)Z"⟩ : Jvm.Cond) ∈ zB := zbd (j := 15) zwc17_ok rfl
theorem zw699 : (.instanceMethod ⟨"Scrubward$Log", "isMendedIn", "(II)Z"⟩ : Jvm.Cond) ∈ zB := zbd (j := 16) zwc17_ok rfl
theorem zw700 : (.code ⟨"Scrubward$Log", "isMendedIn", "(II)Z"⟩ prog_5_method_9_code 3 (Option.some Jvm.ClassFile.FieldType.boolean) : Jvm.Cond) ∈ zB := zbd (j := 17) zwc17_ok rfl
theorem zw701 : (.methodLink "Scrubward$Log" 64 ⟨"Scrubward$Log", "isToldAgain", "(I)Z"⟩ : Jvm.Cond) ∈ zB := zbd (j := 18) zwc17_ok rfl
theorem zw703 : (.instanceMethod ⟨"Scrubward$Log", "isToldAgain", "(I)Z"⟩ : Jvm.Cond) ∈ zB := zbd (j := 19) zwc17_ok rfl
theorem zw704 : (.code ⟨"Scrubward$Log", "isToldAgain", "(I)Z"⟩ prog_5_method_8_code 3 (Option.some Jvm.ClassFile.FieldType.boolean) : Jvm.Cond) ∈ zB := zbd (j := 20) zwc17_ok rfl
theorem zw705 : (.methodLink "Scrubward$Log" 44 ⟨"Scrubward$Log", "isGuilty", "(III)Z"⟩ : Jvm.Cond) ∈ zB := zbd (j := 21) zwc17_ok rfl
theorem zw707 : (.instanceMethod ⟨"Scrubward$Log", "isGuilty", "(III)Z"⟩ : Jvm.Cond) ∈ zB := zbd (j := 22) zwc17_ok rfl
theorem zw708 : (.code ⟨"Scrubward$Log", "isGuilty", "(III)Z"⟩ prog_5_method_5_code 8 (Option.some Jvm.ClassFile.FieldType.boolean) : Jvm.Cond) ∈ zB := zbd (j := 23) zwc17_ok rfl
theorem zw709 : (.methodLink "Scrubward$Log" 55 ⟨"Scrubward$Log", "suspectOf", "(IIII)I"⟩ : Jvm.Cond) ∈ zB := zbd (j := 24) zwc17_ok rfl
theorem zw710 : (.static ⟨"Scrubward$Log", "suspectOf", "(IIII)I"⟩ : Jvm.Cond) ∈ zB := zbd (j := 25) zwc17_ok rfl
theorem zw711 : (.code ⟨"Scrubward$Log", "suspectOf", "(IIII)I"⟩ prog_5_method_6_code 4 (Option.some Jvm.ClassFile.FieldType.int) : Jvm.Cond) ∈ zB := zbd (j := 26) zwc17_ok rfl
theorem zw712 : (.methodLink "Scrubward$Log" 59 ⟨"java/lang/Integer", "bitCount", "(I)I"⟩ : Jvm.Cond) ∈ zB := zbd (j := 27) zwc17_ok rfl
theorem zw713 : (.methodLink "Scrubward" 418 ⟨"Scrubward", "wouldSpare", "(I)I"⟩ : Jvm.Cond) ∈ zB := zbd (j := 28) zwc17_ok rfl
theorem zw714 : (.constantDouble "Scrubward" 329 4634204016564240384 : Jvm.Cond) ∈ zB := zbd (j := 29) zwc17_ok rfl
theorem zw715 : (.methodLink "Scrubward" 421 ⟨"Scrubward", "health", "(I)D"⟩ : Jvm.Cond) ∈ zB := zbd (j := 30) zwc17_ok rfl
theorem zw716 : (.instanceMethod ⟨"Scrubward", "health", "(I)D"⟩ : Jvm.Cond) ∈ zB := zbd (j := 31) zwc17_ok rfl
theorem zw717 : (.selects "Scrubward" ⟨"Scrubward", "health", "(I)D"⟩ ⟨"Scrubward", "health", "(I)D"⟩ : Jvm.Cond) ∈ zB := zbd (j := 32) zwc17_ok rfl
theorem zw718 : (.code ⟨"Scrubward", "health", "(I)D"⟩ prog_1_method_24_code 5 (Option.some Jvm.ClassFile.FieldType.double) : Jvm.Cond) ∈ zB := zbd (j := 33) zwc17_ok rfl
theorem zw719 : (.methodLink "Scrubward" 425 ⟨"Scrubward", "ofLine", "(III)I"⟩ : Jvm.Cond) ∈ zB := zbd (j := 34) zwc17_ok rfl
def zwc18 : List (Nat × Jvm.Cond) := [(0, (.instanceMethod ⟨"Scrubward", "ofLine", "(III)I"⟩ : Jvm.Cond)), (1, (.selects "Scrubward" ⟨"Scrubward", "ofLine", "(III)I"⟩ ⟨"Scrubward", "ofLine", "(III)I"⟩ : Jvm.Cond)), (2, (.code ⟨"Scrubward", "ofLine", "(III)I"⟩ prog_1_method_20_code 5 (Option.some Jvm.ClassFile.FieldType.int) : Jvm.Cond)), (5, (.methodLink "Scrubward" 376 ⟨"Scrubward", "ofWord", "(II)I"⟩ : Jvm.Cond)), (6, (.instanceMethod ⟨"Scrubward", "ofWord", "(II)I"⟩ : Jvm.Cond)), (7, (.selects "Scrubward" ⟨"Scrubward", "ofWord", "(II)I"⟩ ⟨"Scrubward", "ofWord", "(II)I"⟩ : Jvm.Cond)), (8, (.code ⟨"Scrubward", "ofWord", "(II)I"⟩ prog_1_method_19_code 4 (Option.some Jvm.ClassFile.FieldType.int) : Jvm.Cond)), (9, (.methodLink "Scrubward" 247 ⟨"Scrubward$Code", "verdictOf", "(I)I"⟩ : Jvm.Cond)), (10, (.instanceMethod ⟨"Scrubward$Code", "verdictOf", "(I)I"⟩ : Jvm.Cond)), (11, (.selects "Scrubward$Code" ⟨"Scrubward$Code", "verdictOf", "(I)I"⟩ ⟨"Scrubward$Code", "verdictOf", "(I)I"⟩ : Jvm.Cond)), (12, (.code ⟨"Scrubward$Code", "verdictOf", "(I)I"⟩ prog_2_method_12_code 3 (Option.some Jvm.ClassFile.FieldType.int) : Jvm.Cond)), (14, (.methodLink "Scrubward" 379 ⟨"Scrubward", "wouldRead", "(I)I"⟩ : Jvm.Cond)), (15, (.methodLink "Scrubward" 382 ⟨"Scrubward", "ofEntry", "(II)I"⟩ : Jvm.Cond)), (16, (.instanceMethod ⟨"Scrubward", "ofEntry", "(II)I"⟩ : Jvm.Cond)), (17, (.selects "Scrubward" ⟨"Scrubward", "ofEntry", "(II)I"⟩ ⟨"Scrubward", "ofEntry", "(II)I"⟩ : Jvm.Cond)), (18, (.code ⟨"Scrubward", "ofEntry", "(II)I"⟩ prog_1_method_21_code 3 (Option.some Jvm.ClassFile.FieldType.int) : Jvm.Cond)), (21, (.methodLink "Scrubward" 385 ⟨"Scrubward", "wouldLeak", "(I)I"⟩ : Jvm.Cond)), (22, (.methodLink "Scrubward" 388 ⟨"Scrubward", "isSound", "()Z"⟩ : Jvm.Cond)), (23, (.methodLink "ScrubwardLaw" 22 ⟨"ScrubwardLaw", "drawn", "([III)I"⟩ : Jvm.Cond)), (24, (.static ⟨"ScrubwardLaw", "drawn", "([III)I"⟩ : Jvm.Cond)), (25, (.code ⟨"ScrubwardLaw", "drawn", "([III)I"⟩ method_4_code 3 (Option.some Jvm.ClassFile.FieldType.int) : Jvm.Cond)), (26, (.methodLink "ScrubwardLaw" 9 ⟨"ScrubwardLaw", "cell", "([II)I"⟩ : Jvm.Cond)), (27, (.static ⟨"ScrubwardLaw", "cell", "([II)I"⟩ : Jvm.Cond)), (28, (.code ⟨"ScrubwardLaw", "cell", "([II)I"⟩ method_3_code 2 (Option.some Jvm.ClassFile.FieldType.int) : Jvm.Cond)), (29, (.constant "ScrubwardLaw" 8 790386105 : Jvm.Cond)), (30, (.methodLink "ScrubwardLaw" 15 ⟨"ScrubwardLaw", "below", "(II)I"⟩ : Jvm.Cond)), (31, (.static ⟨"ScrubwardLaw", "below", "(II)I"⟩ : Jvm.Cond)), (32, (.code ⟨"ScrubwardLaw", "below", "(II)I"⟩ method_2_code 2 (Option.some Jvm.ClassFile.FieldType.int) : Jvm.Cond)), (33, (.constant "ScrubwardLaw" 7 2147483647 : Jvm.Cond))]
theorem zwc18_ok : zwc18.all (fun q => decide ((lw_tbl.drop 720)[q.1]? = some q.2) && goodWord q.2) = true := by decide +kernel
theorem zw720 : (.instanceMethod ⟨"Scrubward", "ofLine", "(III)I"⟩ : Jvm.Cond) ∈ zB := zbd (j := 0) zwc18_ok rfl
theorem zw721 : (.selects "Scrubward" ⟨"Scrubward", "ofLine", "(III)I"⟩ ⟨"Scrubward", "ofLine", "(III)I"⟩ : Jvm.Cond) ∈ zB := zbd (j := 1) zwc18_ok rfl
theorem zw722 : (.code ⟨"Scrubward", "ofLine", "(III)I"⟩ prog_1_method_20_code 5 (Option.some Jvm.ClassFile.FieldType.int) : Jvm.Cond) ∈ zB := zbd (j := 2) zwc18_ok rfl
theorem zw725 : (.methodLink "Scrubward" 376 ⟨"Scrubward", "ofWord", "(II)I"⟩ : Jvm.Cond) ∈ zB := zbd (j := 3) zwc18_ok rfl
theorem zw726 : (.instanceMethod ⟨"Scrubward", "ofWord", "(II)I"⟩ : Jvm.Cond) ∈ zB := zbd (j := 4) zwc18_ok rfl
theorem zw727 : (.selects "Scrubward" ⟨"Scrubward", "ofWord", "(II)I"⟩ ⟨"Scrubward", "ofWord", "(II)I"⟩ : Jvm.Cond) ∈ zB := zbd (j := 5) zwc18_ok rfl
theorem zw728 : (.code ⟨"Scrubward", "ofWord", "(II)I"⟩ prog_1_method_19_code 4 (Option.some Jvm.ClassFile.FieldType.int) : Jvm.Cond) ∈ zB := zbd (j := 6) zwc18_ok rfl
theorem zw729 : (.methodLink "Scrubward" 247 ⟨"Scrubward$Code", "verdictOf", "(I)I"⟩ : Jvm.Cond) ∈ zB := zbd (j := 7) zwc18_ok rfl
theorem zw730 : (.instanceMethod ⟨"Scrubward$Code", "verdictOf", "(I)I"⟩ : Jvm.Cond) ∈ zB := zbd (j := 8) zwc18_ok rfl
theorem zw731 : (.selects "Scrubward$Code" ⟨"Scrubward$Code", "verdictOf", "(I)I"⟩ ⟨"Scrubward$Code", "verdictOf", "(I)I"⟩ : Jvm.Cond) ∈ zB := zbd (j := 9) zwc18_ok rfl
theorem zw732 : (.code ⟨"Scrubward$Code", "verdictOf", "(I)I"⟩ prog_2_method_12_code 3 (Option.some Jvm.ClassFile.FieldType.int) : Jvm.Cond) ∈ zB := zbd (j := 10) zwc18_ok rfl
theorem zw734 : (.methodLink "Scrubward" 379 ⟨"Scrubward", "wouldRead", "(I)I"⟩ : Jvm.Cond) ∈ zB := zbd (j := 11) zwc18_ok rfl
theorem zw735 : (.methodLink "Scrubward" 382 ⟨"Scrubward", "ofEntry", "(II)I"⟩ : Jvm.Cond) ∈ zB := zbd (j := 12) zwc18_ok rfl
theorem zw736 : (.instanceMethod ⟨"Scrubward", "ofEntry", "(II)I"⟩ : Jvm.Cond) ∈ zB := zbd (j := 13) zwc18_ok rfl
theorem zw737 : (.selects "Scrubward" ⟨"Scrubward", "ofEntry", "(II)I"⟩ ⟨"Scrubward", "ofEntry", "(II)I"⟩ : Jvm.Cond) ∈ zB := zbd (j := 14) zwc18_ok rfl
theorem zw738 : (.code ⟨"Scrubward", "ofEntry", "(II)I"⟩ prog_1_method_21_code 3 (Option.some Jvm.ClassFile.FieldType.int) : Jvm.Cond) ∈ zB := zbd (j := 15) zwc18_ok rfl
theorem zw741 : (.methodLink "Scrubward" 385 ⟨"Scrubward", "wouldLeak", "(I)I"⟩ : Jvm.Cond) ∈ zB := zbd (j := 16) zwc18_ok rfl
theorem zw742 : (.methodLink "Scrubward" 388 ⟨"Scrubward", "isSound", "()Z"⟩ : Jvm.Cond) ∈ zB := zbd (j := 17) zwc18_ok rfl
theorem zw743 : (.methodLink "ScrubwardLaw" 22 ⟨"ScrubwardLaw", "drawn", "([III)I"⟩ : Jvm.Cond) ∈ zB := zbd (j := 18) zwc18_ok rfl
theorem zw744 : (.static ⟨"ScrubwardLaw", "drawn", "([III)I"⟩ : Jvm.Cond) ∈ zB := zbd (j := 19) zwc18_ok rfl
theorem zw745 : (.code ⟨"ScrubwardLaw", "drawn", "([III)I"⟩ method_4_code 3 (Option.some Jvm.ClassFile.FieldType.int) : Jvm.Cond) ∈ zB := zbd (j := 20) zwc18_ok rfl
theorem zw746 : (.methodLink "ScrubwardLaw" 9 ⟨"ScrubwardLaw", "cell", "([II)I"⟩ : Jvm.Cond) ∈ zB := zbd (j := 21) zwc18_ok rfl
theorem zw747 : (.static ⟨"ScrubwardLaw", "cell", "([II)I"⟩ : Jvm.Cond) ∈ zB := zbd (j := 22) zwc18_ok rfl
theorem zw748 : (.code ⟨"ScrubwardLaw", "cell", "([II)I"⟩ method_3_code 2 (Option.some Jvm.ClassFile.FieldType.int) : Jvm.Cond) ∈ zB := zbd (j := 23) zwc18_ok rfl
theorem zw749 : (.constant "ScrubwardLaw" 8 790386105 : Jvm.Cond) ∈ zB := zbd (j := 24) zwc18_ok rfl
theorem zw750 : (.methodLink "ScrubwardLaw" 15 ⟨"ScrubwardLaw", "below", "(II)I"⟩ : Jvm.Cond) ∈ zB := zbd (j := 25) zwc18_ok rfl
theorem zw751 : (.static ⟨"ScrubwardLaw", "below", "(II)I"⟩ : Jvm.Cond) ∈ zB := zbd (j := 26) zwc18_ok rfl
theorem zw752 : (.code ⟨"ScrubwardLaw", "below", "(II)I"⟩ method_2_code 2 (Option.some Jvm.ClassFile.FieldType.int) : Jvm.Cond) ∈ zB := zbd (j := 27) zwc18_ok rfl
theorem zw753 : (.constant "ScrubwardLaw" 7 2147483647 : Jvm.Cond) ∈ zB := zbd (j := 28) zwc18_ok rfl
end
section
def zFL : List (Nat × Nat × Nat) := [(0, 14, 0), (0, 20, 1), (0, 33, 2), (0, 37, 3), (0, 40, 4), (1, 14, 5), (1, 20, 6), (1, 23, 7), (1, 26, 8), (2, 7, 9), (3, 14, 10), (3, 20, 11), (3, 23, 12), (3, 26, 13), (3, 30, 15), (3, 33, 14), (4, 14, 16), (4, 20, 17), (4, 23, 18), (4, 26, 19), (4, 32, 20), (4, 36, 21), (4, 39, 24), (4, 43, 25), (4, 46, 26), (4, 49, 22), (4, 69, 8), (4, 72, 5), (4, 79, 6), (4, 82, 7), (4, 85, 23), (4, 95, 27), (5, 12, 28), (5, 19, 29), (5, 26, 30), (5, 35, 31), (5, 39, 32), (5, 42, 33), (5, 45, 34), (5, 55, 4), (5, 98, 37), (5, 121, 36), (5, 148, 20), (5, 167, 8), (5, 172, 21), (5, 186, 17), (5, 198, 35), (5, 201, 24), (5, 204, 25), (5, 218, 23), (5, 229, 13), (5, 230, 39), (5, 236, 0), (5, 279, 18), (5, 292, 10), (5, 295, 11), (5, 298, 12), (5, 306, 2), (5, 309, 3), (5, 312, 38), (5, 315, 14), (5, 318, 15), (5, 321, 27), (5, 406, 16)]
theorem zFL_0 : ∀ q ∈ ([(0, 14, 0), (0, 20, 1), (0, 33, 2), (0, 37, 3), (0, 40, 4), (1, 14, 5), (1, 20, 6), (1, 23, 7), (1, 26, 8), (2, 7, 9), (3, 14, 10), (3, 20, 11), (3, 23, 12), (3, 26, 13), (3, 30, 15), (3, 33, 14), (4, 14, 16), (4, 20, 17), (4, 23, 18), (4, 26, 19), (4, 32, 20), (4, 36, 21), (4, 39, 24), (4, 43, 25), (4, 46, 26), (4, 49, 22), (4, 69, 8), (4, 72, 5), (4, 79, 6), (4, 82, 7), (4, 85, 23), (4, 95, 27), (5, 12, 28), (5, 19, 29), (5, 26, 30), (5, 35, 31), (5, 39, 32), (5, 42, 33), (5, 45, 34), (5, 55, 4)] : List (Nat × Nat × Nat)), zFok q := List.forall_mem_cons.mpr ⟨Or.inl ⟨_, zw71, Or.inl rfl⟩, List.forall_mem_cons.mpr ⟨Or.inl ⟨_, zw73, Or.inl rfl⟩, List.forall_mem_cons.mpr ⟨Or.inl ⟨_, zw74, Or.inl rfl⟩, List.forall_mem_cons.mpr ⟨Or.inl ⟨_, zw76, Or.inl rfl⟩, List.forall_mem_cons.mpr ⟨Or.inl ⟨_, zw79, Or.inl rfl⟩, List.forall_mem_cons.mpr ⟨Or.inl ⟨_, zw107, Or.inl rfl⟩, List.forall_mem_cons.mpr ⟨Or.inl ⟨_, zw109, Or.inl rfl⟩, List.forall_mem_cons.mpr ⟨Or.inl ⟨_, zw111, Or.inl rfl⟩, List.forall_mem_cons.mpr ⟨Or.inl ⟨_, zw113, Or.inl rfl⟩, List.forall_mem_cons.mpr ⟨Or.inl ⟨_, zw66, Or.inl rfl⟩, List.forall_mem_cons.mpr ⟨Or.inl ⟨_, zw179, Or.inl rfl⟩, List.forall_mem_cons.mpr ⟨Or.inl ⟨_, zw181, Or.inl rfl⟩, List.forall_mem_cons.mpr ⟨Or.inl ⟨_, zw183, Or.inl rfl⟩, List.forall_mem_cons.mpr ⟨Or.inl ⟨_, zw185, Or.inl rfl⟩, List.forall_mem_cons.mpr ⟨Or.inl ⟨_, zw189, Or.inl rfl⟩, List.forall_mem_cons.mpr ⟨Or.inl ⟨_, zw187, Or.inl rfl⟩, List.forall_mem_cons.mpr ⟨Or.inl ⟨_, zw125, Or.inl rfl⟩, List.forall_mem_cons.mpr ⟨Or.inl ⟨_, zw127, Or.inl rfl⟩, List.forall_mem_cons.mpr ⟨Or.inl ⟨_, zw129, Or.inl rfl⟩, List.forall_mem_cons.mpr ⟨Or.inl ⟨_, zw131, Or.inl rfl⟩, List.forall_mem_cons.mpr ⟨Or.inl ⟨_, zw132, Or.inl rfl⟩, List.forall_mem_cons.mpr ⟨Or.inl ⟨_, zw134, Or.inl rfl⟩, List.forall_mem_cons.mpr ⟨Or.inl ⟨_, zw139, Or.inl rfl⟩, List.forall_mem_cons.mpr ⟨Or.inl ⟨_, zw141, Or.inl rfl⟩, List.forall_mem_cons.mpr ⟨Or.inl ⟨_, zw143, Or.inl rfl⟩, List.forall_mem_cons.mpr ⟨Or.inl ⟨_, zw136, Or.inl rfl⟩, List.forall_mem_cons.mpr ⟨Or.inr ⟨_, (zNF_in 0 rfl), by decide +kernel⟩, List.forall_mem_cons.mpr ⟨Or.inr ⟨_, (zNF_in 1 rfl), by decide +kernel⟩, List.forall_mem_cons.mpr ⟨Or.inr ⟨_, (zNF_in 2 rfl), by decide +kernel⟩, List.forall_mem_cons.mpr ⟨Or.inr ⟨_, (zNF_in 3 rfl), by decide +kernel⟩, List.forall_mem_cons.mpr ⟨Or.inl ⟨_, zw137, Or.inl rfl⟩, List.forall_mem_cons.mpr ⟨Or.inl ⟨_, zw144, Or.inl rfl⟩, List.forall_mem_cons.mpr ⟨Or.inl ⟨_, zw262, Or.inl rfl⟩, List.forall_mem_cons.mpr ⟨Or.inl ⟨_, zw263, Or.inl rfl⟩, List.forall_mem_cons.mpr ⟨Or.inl ⟨_, zw264, Or.inl rfl⟩, List.forall_mem_cons.mpr ⟨Or.inl ⟨_, zw265, Or.inl rfl⟩, List.forall_mem_cons.mpr ⟨Or.inl ⟨_, zw266, Or.inl rfl⟩, List.forall_mem_cons.mpr ⟨Or.inl ⟨_, zw267, Or.inl rfl⟩, List.forall_mem_cons.mpr ⟨Or.inl ⟨_, zw268, Or.inl rfl⟩, List.forall_mem_cons.mpr ⟨Or.inr ⟨_, (zNF_in 4 rfl), by decide +kernel⟩, fun _ h => absurd h List.not_mem_nil⟩⟩⟩⟩⟩⟩⟩⟩⟩⟩⟩⟩⟩⟩⟩⟩⟩⟩⟩⟩⟩⟩⟩⟩⟩⟩⟩⟩⟩⟩⟩⟩⟩⟩⟩⟩⟩⟩⟩⟩
theorem zFL_1 : ∀ q ∈ ([(5, 98, 37), (5, 121, 36), (5, 148, 20), (5, 167, 8), (5, 172, 21), (5, 186, 17), (5, 198, 35), (5, 201, 24), (5, 204, 25), (5, 218, 23), (5, 229, 13), (5, 230, 39), (5, 236, 0), (5, 279, 18), (5, 292, 10), (5, 295, 11), (5, 298, 12), (5, 306, 2), (5, 309, 3), (5, 312, 38), (5, 315, 14), (5, 318, 15), (5, 321, 27), (5, 406, 16)] : List (Nat × Nat × Nat)), zFok q := List.forall_mem_cons.mpr ⟨Or.inl ⟨_, zw271, Or.inl rfl⟩, List.forall_mem_cons.mpr ⟨Or.inl ⟨_, zw270, Or.inl rfl⟩, List.forall_mem_cons.mpr ⟨Or.inr ⟨_, (zNF_in 5 rfl), by decide +kernel⟩, List.forall_mem_cons.mpr ⟨Or.inr ⟨_, (zNF_in 6 rfl), by decide +kernel⟩, List.forall_mem_cons.mpr ⟨Or.inr ⟨_, (zNF_in 7 rfl), by decide +kernel⟩, List.forall_mem_cons.mpr ⟨Or.inr ⟨_, (zNF_in 8 rfl), by decide +kernel⟩, List.forall_mem_cons.mpr ⟨Or.inl ⟨_, zw269, Or.inl rfl⟩, List.forall_mem_cons.mpr ⟨Or.inr ⟨_, (zNF_in 9 rfl), by decide +kernel⟩, List.forall_mem_cons.mpr ⟨Or.inr ⟨_, (zNF_in 10 rfl), by decide +kernel⟩, List.forall_mem_cons.mpr ⟨Or.inr ⟨_, (zNF_in 11 rfl), by decide +kernel⟩, List.forall_mem_cons.mpr ⟨Or.inr ⟨_, (zNF_in 12 rfl), by decide +kernel⟩, List.forall_mem_cons.mpr ⟨Or.inl ⟨_, zw273, Or.inl rfl⟩, List.forall_mem_cons.mpr ⟨Or.inr ⟨_, (zNF_in 13 rfl), by decide +kernel⟩, List.forall_mem_cons.mpr ⟨Or.inr ⟨_, (zNF_in 14 rfl), by decide +kernel⟩, List.forall_mem_cons.mpr ⟨Or.inr ⟨_, (zNF_in 15 rfl), by decide +kernel⟩, List.forall_mem_cons.mpr ⟨Or.inr ⟨_, (zNF_in 16 rfl), by decide +kernel⟩, List.forall_mem_cons.mpr ⟨Or.inr ⟨_, (zNF_in 17 rfl), by decide +kernel⟩, List.forall_mem_cons.mpr ⟨Or.inr ⟨_, (zNF_in 18 rfl), by decide +kernel⟩, List.forall_mem_cons.mpr ⟨Or.inr ⟨_, (zNF_in 19 rfl), by decide +kernel⟩, List.forall_mem_cons.mpr ⟨Or.inl ⟨_, zw272, Or.inl rfl⟩, List.forall_mem_cons.mpr ⟨Or.inr ⟨_, (zNF_in 20 rfl), by decide +kernel⟩, List.forall_mem_cons.mpr ⟨Or.inr ⟨_, (zNF_in 21 rfl), by decide +kernel⟩, List.forall_mem_cons.mpr ⟨Or.inr ⟨_, (zNF_in 22 rfl), by decide +kernel⟩, List.forall_mem_cons.mpr ⟨Or.inr ⟨_, (zNF_in 23 rfl), by decide +kernel⟩, fun _ h => absurd h List.not_mem_nil⟩⟩⟩⟩⟩⟩⟩⟩⟩⟩⟩⟩⟩⟩⟩⟩⟩⟩⟩⟩⟩⟩⟩⟩
theorem zFL_ok : ∀ q ∈ zFL, zFok q := List.forall_mem_append.mpr ⟨zFL_0, zFL_1⟩
def zSL : List (Nat × Nat × Nat) := [(0, 23, 229), (3, 55, 34), (3, 59, 229), (5, 83, 82), (5, 95, 89), (5, 177, 84), (5, 182, 88), (5, 215, 85), (5, 253, 12), (5, 271, 83), (5, 362, 107), (6, 9, 248), (6, 15, 247), (6, 22, 249)]
theorem zSL_0 : ∀ q ∈ ([(0, 23, 229), (3, 55, 34), (3, 59, 229), (5, 83, 82), (5, 95, 89), (5, 177, 84), (5, 182, 88), (5, 215, 85), (5, 253, 12), (5, 271, 83), (5, 362, 107), (6, 9, 248), (6, 15, 247), (6, 22, 249)] : List (Nat × Nat × Nat)), zSok q := List.forall_mem_cons.mpr ⟨⟨zw218, zw219⟩, List.forall_mem_cons.mpr ⟨⟨zw709, zw710⟩, List.forall_mem_cons.mpr ⟨⟨zw712, zw219⟩, List.forall_mem_cons.mpr ⟨⟨zw303, zw304⟩, List.forall_mem_cons.mpr ⟨⟨zw460, zw461⟩, List.forall_mem_cons.mpr ⟨⟨zw536, zw537⟩, List.forall_mem_cons.mpr ⟨⟨zw545, zw546⟩, List.forall_mem_cons.mpr ⟨⟨zw559, zw560⟩, List.forall_mem_cons.mpr ⟨⟨zw493, zw494⟩, List.forall_mem_cons.mpr ⟨⟨zw539, zw540⟩, List.forall_mem_cons.mpr ⟨⟨zw655, zw656⟩, List.forall_mem_cons.mpr ⟨⟨zw746, zw747⟩, List.forall_mem_cons.mpr ⟨⟨zw750, zw751⟩, List.forall_mem_cons.mpr ⟨⟨zw743, zw744⟩, fun _ h => absurd h List.not_mem_nil⟩⟩⟩⟩⟩⟩⟩⟩⟩⟩⟩⟩⟩⟩
theorem zSL_ok : ∀ q ∈ zSL, zSok q := zSL_0
def zVL : List (Nat × Nat × Nat × Nat) := [(0, 43, 4, 0), (0, 46, 26, 2), (0, 50, 27, 2), (0, 53, 25, 2), (0, 56, 8, 0), (0, 59, 9, 0), (0, 62, 6, 0), (0, 66, 17, 0), (0, 69, 16, 0), (1, 30, 20, 1), (1, 34, 26, 2), (1, 38, 25, 2), (1, 42, 21, 1), (3, 36, 26, 2), (3, 40, 35, 3), (3, 44, 33, 3), (3, 48, 25, 2), (3, 51, 37, 3), (3, 64, 36, 3), (4, 52, 22, 1), (4, 55, 27, 2), (4, 58, 41, 4), (4, 62, 42, 4), (4, 66, 26, 2), (4, 75, 25, 2), (4, 88, 44, 4), (4, 91, 45, 4), (4, 98, 47, 4), (4, 102, 49, 4), (4, 106, 50, 4), (5, 48, 26, 2), (5, 52, 3, 0), (5, 59, 40, 4), (5, 86, 86, 5), (5, 89, 87, 5), (5, 92, 101, 5), (5, 102, 96, 5), (5, 106, 92, 5), (5, 109, 90, 5), (5, 112, 43, 4), (5, 115, 97, 5), (5, 118, 95, 5), (5, 124, 103, 5), (5, 128, 104, 5), (5, 131, 5, 0), (5, 137, 91, 5), (5, 140, 41, 4), (5, 143, 7, 0), (5, 152, 20, 1), (5, 163, 21, 1), (5, 189, 25, 2), (5, 212, 28, 2), (5, 223, 46, 4), (5, 226, 105, 5), (5, 239, 14, 0), (5, 247, 11, 0), (5, 250, 9, 0), (5, 256, 13, 0), (5, 263, 15, 0), (5, 266, 23, 1), (5, 276, 93, 5), (5, 282, 99, 5), (5, 285, 100, 5), (5, 303, 32, 3), (5, 326, 10, 0), (5, 346, 48, 4), (5, 349, 18, 0), (5, 352, 51, 4), (5, 353, 38, 3), (5, 354, 94, 5), (5, 359, 74, 5), (5, 366, 66, 5), (5, 369, 69, 5), (5, 372, 108, 5), (5, 376, 70, 5), (5, 379, 77, 5), (5, 382, 72, 5), (5, 385, 79, 5), (5, 388, 80, 5), (5, 399, 6, 0), (5, 408, 102, 5), (5, 411, 31, 3), (5, 414, 73, 5), (5, 418, 78, 5), (5, 421, 75, 5), (5, 425, 71, 5), (6, 26, 60, 5), (6, 30, 54, 5), (6, 33, 56, 5), (6, 36, 74, 5), (6, 40, 57, 5), (6, 44, 58, 5), (6, 48, 59, 5), (6, 51, 55, 5), (6, 54, 63, 5), (6, 57, 77, 5), (6, 60, 79, 5), (6, 63, 78, 5), (6, 66, 81, 5), (6, 70, 80, 5)]
theorem zVL_0 : ∀ q ∈ ([(0, 43, 4, 0), (0, 46, 26, 2), (0, 50, 27, 2), (0, 53, 25, 2), (0, 56, 8, 0), (0, 59, 9, 0), (0, 62, 6, 0), (0, 66, 17, 0), (0, 69, 16, 0), (1, 30, 20, 1), (1, 34, 26, 2), (1, 38, 25, 2), (1, 42, 21, 1), (3, 36, 26, 2), (3, 40, 35, 3), (3, 44, 33, 3), (3, 48, 25, 2), (3, 51, 37, 3), (3, 64, 36, 3), (4, 52, 22, 1), (4, 55, 27, 2), (4, 58, 41, 4), (4, 62, 42, 4), (4, 66, 26, 2), (4, 75, 25, 2), (4, 88, 44, 4), (4, 91, 45, 4), (4, 98, 47, 4), (4, 102, 49, 4), (4, 106, 50, 4), (5, 48, 26, 2), (5, 52, 3, 0), (5, 59, 40, 4), (5, 86, 86, 5), (5, 89, 87, 5), (5, 92, 101, 5), (5, 102, 96, 5), (5, 106, 92, 5), (5, 109, 90, 5), (5, 112, 43, 4)] : List (Nat × Nat × Nat × Nat)), zVok q := List.forall_mem_cons.mpr ⟨⟨zw214, zw216, zw0⟩, List.forall_mem_cons.mpr ⟨⟨zw224, zw207, zw208⟩, List.forall_mem_cons.mpr ⟨⟨zw225, zw226, zw227⟩, List.forall_mem_cons.mpr ⟨⟨zw229, zw230, zw231⟩, List.forall_mem_cons.mpr ⟨⟨zw455, zw456, zw457⟩, List.forall_mem_cons.mpr ⟨⟨zw483, zw484, zw485⟩, List.forall_mem_cons.mpr ⟨⟨zw487, zw379, zw380⟩, List.forall_mem_cons.mpr ⟨⟨zw672, zw674, zw25⟩, List.forall_mem_cons.mpr ⟨⟨zw676, zw678, zw26⟩, List.forall_mem_cons.mpr ⟨⟨zw246, zw247, zw248⟩, List.forall_mem_cons.mpr ⟨⟨zw250, zw207, zw208⟩, List.forall_mem_cons.mpr ⟨⟨zw241, zw230, zw231⟩, List.forall_mem_cons.mpr ⟨⟨zw242, zw243, zw244⟩, List.forall_mem_cons.mpr ⟨⟨zw500, zw207, zw208⟩, List.forall_mem_cons.mpr ⟨⟨zw692, zw694, zw28⟩, List.forall_mem_cons.mpr ⟨⟨zw705, zw707, zw31⟩, List.forall_mem_cons.mpr ⟨⟨zw696, zw230, zw231⟩, List.forall_mem_cons.mpr ⟨⟨zw697, zw699, zw29⟩, List.forall_mem_cons.mpr ⟨⟨zw701, zw703, zw30⟩, List.forall_mem_cons.mpr ⟨⟨zw237, zw238, zw239⟩, List.forall_mem_cons.mpr ⟨⟨zw251, zw226, zw227⟩, List.forall_mem_cons.mpr ⟨⟨zw252, zw253, zw254⟩, List.forall_mem_cons.mpr ⟨⟨zw256, zw258, zw1⟩, List.forall_mem_cons.mpr ⟨⟨zw261, zw207, zw208⟩, List.forall_mem_cons.mpr ⟨⟨zw260, zw230, zw231⟩, List.forall_mem_cons.mpr ⟨⟨zw435, zw437, zw8⟩, List.forall_mem_cons.mpr ⟨⟨zw439, zw441, zw9⟩, List.forall_mem_cons.mpr ⟨⟨zw568, zw570, zw17⟩, List.forall_mem_cons.mpr ⟨⟨zw617, zw619, zw21⟩, List.forall_mem_cons.mpr ⟨⟨zw621, zw623, zw22⟩, List.forall_mem_cons.mpr ⟨⟨zw206, zw207, zw208⟩, List.forall_mem_cons.mpr ⟨⟨zw210, zw211, zw212⟩, List.forall_mem_cons.mpr ⟨⟨zw233, zw234, zw235⟩, List.forall_mem_cons.mpr ⟨⟨zw374, zw376, zw3⟩, List.forall_mem_cons.mpr ⟨⟨zw398, zw400, zw4⟩, List.forall_mem_cons.mpr ⟨⟨zw423, zw425, zw6⟩, List.forall_mem_cons.mpr ⟨⟨zw402, zw404, zw5⟩, List.forall_mem_cons.mpr ⟨⟨zw463, zw465, zw12⟩, List.forall_mem_cons.mpr ⟨⟨zw427, zw429, zw7⟩, List.forall_mem_cons.mpr ⟨⟨zw431, zw432, zw433⟩, fun _ h => absurd h List.not_mem_nil⟩⟩⟩⟩⟩⟩⟩⟩⟩⟩⟩⟩⟩⟩⟩⟩⟩⟩⟩⟩⟩⟩⟩⟩⟩⟩⟩⟩⟩⟩⟩⟩⟩⟩⟩⟩⟩⟩⟩⟩
theorem zVL_1 : ∀ q ∈ ([(5, 115, 97, 5), (5, 118, 95, 5), (5, 124, 103, 5), (5, 128, 104, 5), (5, 131, 5, 0), (5, 137, 91, 5), (5, 140, 41, 4), (5, 143, 7, 0), (5, 152, 20, 1), (5, 163, 21, 1), (5, 189, 25, 2), (5, 212, 28, 2), (5, 223, 46, 4), (5, 226, 105, 5), (5, 239, 14, 0), (5, 247, 11, 0), (5, 250, 9, 0), (5, 256, 13, 0), (5, 263, 15, 0), (5, 266, 23, 1), (5, 276, 93, 5), (5, 282, 99, 5), (5, 285, 100, 5), (5, 303, 32, 3), (5, 326, 10, 0), (5, 346, 48, 4), (5, 349, 18, 0), (5, 352, 51, 4), (5, 353, 38, 3), (5, 354, 94, 5), (5, 359, 74, 5), (5, 366, 66, 5), (5, 369, 69, 5), (5, 372, 108, 5), (5, 376, 70, 5), (5, 379, 77, 5), (5, 382, 72, 5), (5, 385, 79, 5), (5, 388, 80, 5), (5, 399, 6, 0)] : List (Nat × Nat × Nat × Nat)), zVok q := List.forall_mem_cons.mpr ⟨⟨zw471, zw473, zw13⟩, List.forall_mem_cons.mpr ⟨⟨zw475, zw477, zw14⟩, List.forall_mem_cons.mpr ⟨⟨zw488, zw490, zw15⟩, List.forall_mem_cons.mpr ⟨⟨zw501, zw503, zw16⟩, List.forall_mem_cons.mpr ⟨⟨zw509, zw510, zw511⟩, List.forall_mem_cons.mpr ⟨⟨zw447, zw449, zw11⟩, List.forall_mem_cons.mpr ⟨⟨zw459, zw253, zw254⟩, List.forall_mem_cons.mpr ⟨⟨zw518, zw519, zw520⟩, List.forall_mem_cons.mpr ⟨⟨zw523, zw247, zw248⟩, List.forall_mem_cons.mpr ⟨⟨zw525, zw243, zw244⟩, List.forall_mem_cons.mpr ⟨⟨zw406, zw230, zw231⟩, List.forall_mem_cons.mpr ⟨⟨zw580, zw581, zw582⟩, List.forall_mem_cons.mpr ⟨⟨zw564, zw565, zw566⟩, List.forall_mem_cons.mpr ⟨⟨zw572, zw574, zw18⟩, List.forall_mem_cons.mpr ⟨⟨zw451, zw452, zw453⟩, List.forall_mem_cons.mpr ⟨⟨zw729, zw730, zw731⟩, List.forall_mem_cons.mpr ⟨⟨zw492, zw484, zw485⟩, List.forall_mem_cons.mpr ⟨⟨zw479, zw480, zw481⟩, List.forall_mem_cons.mpr ⟨⟨zw668, zw669, zw670⟩, List.forall_mem_cons.mpr ⟨⟨zw605, zw606, zw607⟩, List.forall_mem_cons.mpr ⟨⟨zw645, zw647, zw24⟩, List.forall_mem_cons.mpr ⟨⟨zw601, zw603, zw20⟩, List.forall_mem_cons.mpr ⟨⟨zw593, zw595, zw19⟩, List.forall_mem_cons.mpr ⟨⟨zw688, zw689, zw690⟩, List.forall_mem_cons.mpr ⟨⟨zw597, zw598, zw599⟩, List.forall_mem_cons.mpr ⟨⟨zw613, zw614, zw615⟩, List.forall_mem_cons.mpr ⟨⟨zw629, zw630, zw631⟩, List.forall_mem_cons.mpr ⟨⟨zw633, zw634, zw635⟩, List.forall_mem_cons.mpr ⟨⟨zw637, zw638, zw639⟩, List.forall_mem_cons.mpr ⟨⟨zw641, zw643, zw23⟩, List.forall_mem_cons.mpr ⟨⟨zw654, zw577, zw578⟩, List.forall_mem_cons.mpr ⟨⟨zw659, zw660, zw661⟩, List.forall_mem_cons.mpr ⟨⟨zw663, zw664, zw665⟩, List.forall_mem_cons.mpr ⟨⟨zw680, zw682, zw27⟩, List.forall_mem_cons.mpr ⟨⟨zw725, zw726, zw727⟩, List.forall_mem_cons.mpr ⟨⟨zw734, zw586, zw587⟩, List.forall_mem_cons.mpr ⟨⟨zw735, zw736, zw737⟩, List.forall_mem_cons.mpr ⟨⟨zw741, zw610, zw611⟩, List.forall_mem_cons.mpr ⟨⟨zw742, zw626, zw627⟩, List.forall_mem_cons.mpr ⟨⟨zw378, zw379, zw380⟩, fun _ h => absurd h List.not_mem_nil⟩⟩⟩⟩⟩⟩⟩⟩⟩⟩⟩⟩⟩⟩⟩⟩⟩⟩⟩⟩⟩⟩⟩⟩⟩⟩⟩⟩⟩⟩⟩⟩⟩⟩⟩⟩⟩⟩⟩⟩
theorem zVL_2 : ∀ q ∈ ([(5, 408, 102, 5), (5, 411, 31, 3), (5, 414, 73, 5), (5, 418, 78, 5), (5, 421, 75, 5), (5, 425, 71, 5), (6, 26, 60, 5), (6, 30, 54, 5), (6, 33, 56, 5), (6, 36, 74, 5), (6, 40, 57, 5), (6, 44, 58, 5), (6, 48, 59, 5), (6, 51, 55, 5), (6, 54, 63, 5), (6, 57, 77, 5), (6, 60, 79, 5), (6, 63, 78, 5), (6, 66, 81, 5), (6, 70, 80, 5)] : List (Nat × Nat × Nat × Nat)), zVok q := List.forall_mem_cons.mpr ⟨⟨zw443, zw445, zw10⟩, List.forall_mem_cons.mpr ⟨⟨zw496, zw497, zw498⟩, List.forall_mem_cons.mpr ⟨⟨zw684, zw685, zw686⟩, List.forall_mem_cons.mpr ⟨⟨zw713, zw590, zw591⟩, List.forall_mem_cons.mpr ⟨⟨zw715, zw716, zw717⟩, List.forall_mem_cons.mpr ⟨⟨zw719, zw720, zw721⟩, List.forall_mem_cons.mpr ⟨⟨zw548, zw549, zw550⟩, List.forall_mem_cons.mpr ⟨⟨zw299, zw300, zw301⟩, List.forall_mem_cons.mpr ⟨⟨zw505, zw506, zw507⟩, List.forall_mem_cons.mpr ⟨⟨zw576, zw577, zw578⟩, List.forall_mem_cons.mpr ⟨⟨zw514, zw515, zw516⟩, List.forall_mem_cons.mpr ⟨⟨zw526, zw527, zw528⟩, List.forall_mem_cons.mpr ⟨⟨zw532, zw533, zw534⟩, List.forall_mem_cons.mpr ⟨⟨zw467, zw468, zw469⟩, List.forall_mem_cons.mpr ⟨⟨zw555, zw556, zw557⟩, List.forall_mem_cons.mpr ⟨⟨zw585, zw586, zw587⟩, List.forall_mem_cons.mpr ⟨⟨zw609, zw610, zw611⟩, List.forall_mem_cons.mpr ⟨⟨zw589, zw590, zw591⟩, List.forall_mem_cons.mpr ⟨⟨zw649, zw650, zw651⟩, List.forall_mem_cons.mpr ⟨⟨zw625, zw626, zw627⟩, fun _ h => absurd h List.not_mem_nil⟩⟩⟩⟩⟩⟩⟩⟩⟩⟩⟩⟩⟩⟩⟩⟩⟩⟩⟩⟩
theorem zVL_ok : ∀ q ∈ zVL, zVok q := List.forall_mem_append.mpr ⟨zVL_0, List.forall_mem_append.mpr ⟨zVL_1, zVL_2⟩⟩
def zIL : List (Nat × Nat × Nat) := [(0, 11, 24), (1, 11, 24), (3, 11, 24), (4, 11, 24), (4, 31, 19), (5, 11, 0), (5, 18, 39), (5, 25, 29), (5, 32, 24), (6, 21, 52)]
theorem zIL_0 : ∀ q ∈ ([(0, 11, 24), (1, 11, 24), (3, 11, 24), (4, 11, 24), (4, 31, 19), (5, 11, 0), (5, 18, 39), (5, 25, 29), (5, 32, 24), (6, 21, 52)] : List (Nat × Nat × Nat)), zIok q := List.forall_mem_cons.mpr ⟨⟨Or.inl zw62, zw63, rfl⟩, List.forall_mem_cons.mpr ⟨⟨Or.inl zw106, zw63, rfl⟩, List.forall_mem_cons.mpr ⟨⟨Or.inl zw178, zw63, rfl⟩, List.forall_mem_cons.mpr ⟨⟨Or.inl zw98, zw63, rfl⟩, List.forall_mem_cons.mpr ⟨⟨Or.inr ⟨_, (zNM_in 0 rfl)⟩, zw102, rfl⟩, List.forall_mem_cons.mpr ⟨⟨Or.inr ⟨_, (zNM_in 1 rfl)⟩, zw57, rfl⟩, List.forall_mem_cons.mpr ⟨⟨Or.inr ⟨_, (zNM_in 2 rfl)⟩, zw94, rfl⟩, List.forall_mem_cons.mpr ⟨⟨Or.inr ⟨_, (zNM_in 3 rfl)⟩, zw174, rfl⟩, List.forall_mem_cons.mpr ⟨⟨Or.inl zw205, zw63, rfl⟩, List.forall_mem_cons.mpr ⟨⟨Or.inl zw48, zw49, rfl⟩, fun _ h => absurd h List.not_mem_nil⟩⟩⟩⟩⟩⟩⟩⟩⟩⟩
theorem zIL_ok : ∀ q ∈ zIL, zIok q := zIL_0
def zCL : List (Nat × Nat × Nat) := [(0, 9, 2), (1, 9, 2), (3, 9, 2), (4, 9, 2), (4, 29, 1), (5, 9, 0), (5, 16, 4), (5, 23, 3), (5, 30, 2), (6, 19, 5)]
theorem zCL_0 : ∀ q ∈ ([(0, 9, 2), (1, 9, 2), (3, 9, 2), (4, 9, 2), (4, 29, 1), (5, 9, 0), (5, 16, 4), (5, 23, 3), (5, 30, 2), (6, 19, 5)] : List (Nat × Nat × Nat)), zCok q := List.forall_mem_cons.mpr ⟨⟨zw60, zw61, zw35⟩, List.forall_mem_cons.mpr ⟨⟨zw105, zw61, zw35⟩, List.forall_mem_cons.mpr ⟨⟨zw177, zw61, zw35⟩, List.forall_mem_cons.mpr ⟨⟨zw97, zw61, zw35⟩, List.forall_mem_cons.mpr ⟨⟨zw99, zw100, zw37⟩, List.forall_mem_cons.mpr ⟨⟨zw54, zw55, zw34⟩, List.forall_mem_cons.mpr ⟨⟨zw91, zw92, zw36⟩, List.forall_mem_cons.mpr ⟨⟨zw171, zw172, zw38⟩, List.forall_mem_cons.mpr ⟨⟨zw204, zw61, zw35⟩, List.forall_mem_cons.mpr ⟨⟨zw46, zw47, zw33⟩, fun _ h => absurd h List.not_mem_nil⟩⟩⟩⟩⟩⟩⟩⟩⟩⟩
theorem zCL_ok : ∀ q ∈ zCL, zCok q := zCL_0
def zKL : List (Nat × Nat × Nat × Nat) := [(5, 329, 1, 4634204016564240384), (5, 357, 0, 58281), (5, 412, 0, 31), (6, 7, 5, 2147483647), (6, 8, 5, 790386105), (7, 265, 5, 1431655765), (7, 266, 5, 858993459), (7, 267, 5, 252645135)]
theorem zKL_0 : ∀ q ∈ ([(5, 329, 1, 4634204016564240384), (5, 357, 0, 58281), (5, 412, 0, 31), (6, 7, 5, 2147483647), (6, 8, 5, 790386105), (7, 265, 5, 1431655765), (7, 266, 5, 858993459), (7, 267, 5, 252645135)] : List (Nat × Nat × Nat × Nat)), zKok q := List.forall_mem_cons.mpr ⟨zw714, List.forall_mem_cons.mpr ⟨zw653, List.forall_mem_cons.mpr ⟨zw658, List.forall_mem_cons.mpr ⟨zw753, List.forall_mem_cons.mpr ⟨zw749, List.forall_mem_cons.mpr ⟨zw221, List.forall_mem_cons.mpr ⟨zw222, List.forall_mem_cons.mpr ⟨zw223, fun _ h => absurd h List.not_mem_nil⟩⟩⟩⟩⟩⟩⟩⟩
theorem zKL_ok : ∀ q ∈ zKL, zKok q := zKL_0
def zUL : List (Nat × Nat × Nat × Nat) := []
theorem zUL_ok : ∀ q ∈ zUL, zUok q := fun _ h => absurd h List.not_mem_nil
def zGL : List (Nat × Nat × Nat × Nat) := []
theorem zGL_ok : ∀ q ∈ zGL, zGok q := fun _ h => absurd h List.not_mem_nil
def zOL : List (Nat × Nat) := [(0, 3), (1, 3), (2, 1), (3, 3), (4, 3), (5, 3)]
theorem zOL_0 : ∀ q ∈ ([(0, 3), (1, 3), (2, 1), (3, 3), (4, 3), (5, 3)] : List (Nat × Nat)), zOok q := List.forall_mem_cons.mpr ⟨zw59, List.forall_mem_cons.mpr ⟨zw104, List.forall_mem_cons.mpr ⟨zw65, List.forall_mem_cons.mpr ⟨zw176, List.forall_mem_cons.mpr ⟨zw96, List.forall_mem_cons.mpr ⟨zw51, fun _ h => absurd h List.not_mem_nil⟩⟩⟩⟩⟩⟩
theorem zOL_ok : ∀ q ∈ zOL, zOok q := zOL_0
def zXL : List (Nat × Nat × Nat) := []
theorem zXL_ok : ∀ q ∈ zXL, zXok q := fun _ h => absurd h List.not_mem_nil
theorem zAi : (.arrayClass Jvm.ClassFile.FieldType.int : Jvm.Cond) ∈ zB := zw70
def zlaw : Nat := 214
def zTX : List (String × Nat × String) := [("Scrubward", 135, "bits is not a set of bits of a word"), ("Scrubward", 146, "there is no such bit"), ("Scrubward", 160, "there are 24 stuck cells"), ("Scrubward", 170, "span is not 1 to 60"), ("Scrubward", 175, "there are 24 weak cells"), ("Scrubward", 180, "times is not 1 to 100"), ("Scrubward", 192, "period is not 1 to 100"), ("Scrubward", 194, "limit is not 2 to 100"), ("Scrubward", 196, "steps is not 0 to 8"), ("Scrubward", 221, "the tick would be above 2000"), ("Scrubward", 261, "many is not 2 or 3"), ("Scrubward", 269, "what is not 0 to 6"), ("Scrubward", 274, "there is no such line"), ("Scrubward", 288, "what is not 0 to 4"), ("Scrubward", 290, "there is no such entry"), ("Scrubward", 301, "what is not 0 to 2"), ("Scrubward", 324, "what is not 0 to 17"), ("Scrubward", 391, "there is no such address"), ("Scrubward", 393, "there is no such bank"), ("Scrubward", 395, "there is no such row"), ("Scrubward", 397, "ticks is not 1 to 100"), ("Scrubward", 402, "data does not fit into the data bits"), ("Scrubward", 404, "the word is retired")]

def zty (c k : Nat) : FieldType := (parseFieldDescriptor (zT c k).2.2.1).getD .int
/-- a field's kind and its type -/
def zkt (kd : Nat) (t : FieldType) : Prop := match kd with
  | 0 => t = .int
  | 1 => t = .boolean
  | 2 => t = .byte
  | 3 => t = .long
  | 4 => t = .double
  | _ => (∃ n, t = .object n) ∨ ∃ q, t = .array q
def zktb (kd : Nat) (t : FieldType) : Bool := match kd, t with
  | 0, .int => true
  | 1, .boolean => true
  | 2, .byte => true
  | 3, .long => true
  | 4, .double => true
  | 5, .object _ => true
  | 5, .array _ => true
  | _, _ => false
theorem zktb_ok {kd : Nat} {t : FieldType} (h : zktb kd t = true) : zkt kd t := by
  unfold zktb at h
  split at h <;> first | rfl | exact Or.inl ⟨_, rfl⟩ | exact Or.inr ⟨_, rfl⟩ | cases h
def zcOK (c : Nat) : Prop := (∀ w ∈ u_ws (zcn c) (zT c) (zcf c).length, w ∈ zB) ∧ (∀ a, a < (zcf c).length → ∀ b, b < (zcf c).length → a ≠ b → (zT c a).2.1 ≠ (zT c b).2.1) ∧ (∀ k, k < (zcf c).length → parseFieldDescriptor (zT c k).2.2.1 = some (zty c k)) ∧ (∀ k, k < (zcf c).length → zktb ((zcf c).getD k (0, 0)).2 (zty c k) = true) ∧ (∀ k, k < (zcf c).length → defaultValue (zty c k) = zdf ((zcf c).getD k (0, 0)).2) ∧ zcl[c]? = some (zcn c, zT c, (zcf c).length)
theorem zcO0 : zcOK 0 := ⟨List.forall_mem_cons.mpr ⟨zw80, List.forall_mem_cons.mpr ⟨zw82, List.forall_mem_cons.mpr ⟨zw84, List.forall_mem_cons.mpr ⟨zw86, List.forall_mem_cons.mpr ⟨zw88, fun _ h => absurd h List.not_mem_nil⟩⟩⟩⟩⟩, by decide +kernel, by decide +kernel, by decide +kernel, by decide +kernel, rfl⟩
theorem zcO1 : zcOK 1 := ⟨List.forall_mem_cons.mpr ⟨zw116, List.forall_mem_cons.mpr ⟨zw118, List.forall_mem_cons.mpr ⟨zw120, List.forall_mem_cons.mpr ⟨zw122, fun _ h => absurd h List.not_mem_nil⟩⟩⟩⟩, by decide +kernel, by decide +kernel, by decide +kernel, by decide +kernel, rfl⟩
theorem zcO2 : zcOK 2 := ⟨List.forall_mem_cons.mpr ⟨zw67, fun _ h => absurd h List.not_mem_nil⟩, by decide +kernel, by decide +kernel, by decide +kernel, by decide +kernel, rfl⟩
theorem zcO3 : zcOK 3 := ⟨List.forall_mem_cons.mpr ⟨zw191, List.forall_mem_cons.mpr ⟨zw193, List.forall_mem_cons.mpr ⟨zw195, List.forall_mem_cons.mpr ⟨zw197, List.forall_mem_cons.mpr ⟨zw199, List.forall_mem_cons.mpr ⟨zw201, fun _ h => absurd h List.not_mem_nil⟩⟩⟩⟩⟩⟩, by decide +kernel, by decide +kernel, by decide +kernel, by decide +kernel, rfl⟩
theorem zcO4 : zcOK 4 := ⟨List.forall_mem_cons.mpr ⟨zw146, List.forall_mem_cons.mpr ⟨zw148, List.forall_mem_cons.mpr ⟨zw150, List.forall_mem_cons.mpr ⟨zw152, List.forall_mem_cons.mpr ⟨zw154, List.forall_mem_cons.mpr ⟨zw156, List.forall_mem_cons.mpr ⟨zw158, List.forall_mem_cons.mpr ⟨zw160, List.forall_mem_cons.mpr ⟨zw162, List.forall_mem_cons.mpr ⟨zw164, List.forall_mem_cons.mpr ⟨zw166, List.forall_mem_cons.mpr ⟨zw168, fun _ h => absurd h List.not_mem_nil⟩⟩⟩⟩⟩⟩⟩⟩⟩⟩⟩⟩, by decide +kernel, by decide +kernel, by decide +kernel, by decide +kernel, rfl⟩
theorem zcO5 : zcOK 5 := ⟨List.forall_mem_cons.mpr ⟨zw274, List.forall_mem_cons.mpr ⟨zw276, List.forall_mem_cons.mpr ⟨zw278, List.forall_mem_cons.mpr ⟨zw280, List.forall_mem_cons.mpr ⟨zw282, List.forall_mem_cons.mpr ⟨zw284, List.forall_mem_cons.mpr ⟨zw286, List.forall_mem_cons.mpr ⟨zw288, List.forall_mem_cons.mpr ⟨zw290, List.forall_mem_cons.mpr ⟨zw292, List.forall_mem_cons.mpr ⟨zw294, List.forall_mem_cons.mpr ⟨zw296, fun _ h => absurd h List.not_mem_nil⟩⟩⟩⟩⟩⟩⟩⟩⟩⟩⟩⟩, by decide +kernel, by decide +kernel, by decide +kernel, by decide +kernel, rfl⟩
theorem zc_ok : ∀ c, c < 6 → zcOK c := by
  intro c h
  match c, h with
  | 0, _ => exact zcO0
  | 1, _ => exact zcO1
  | 2, _ => exact zcO2
  | 3, _ => exact zcO3
  | 4, _ => exact zcO4
  | 5, _ => exact zcO5
  | n + 6, h => exact absurd h (by omega)
def zMok (y : Nat) : Prop := (zmh y = [] ∧ Jvm.Cond.code (zmn y) (zmb y) (zmL y) (zmr y) ∈ zB ∨ zmh y ≠ [] ∧ Jvm.Cond.codeWith (zmn y) (zmb y) (zmL y) (zmr y) (zmh y) ∈ zB) ∧ Jvm.Cond.initialized (zmn y).cls ∈ zB ∧ zon (zmo y) = (zmn y).cls ∧ Bundle.fit (zmn y).cls = true ∧ (parseMethodDescriptor (zmn y).desc).map (fun d => d.parameters.length) = some (zmp y) ∧ zmL y ≤ 20
theorem zM0 : zMok 0 := ⟨Or.inl ⟨rfl, zw58⟩, zw34, rfl, by decide +kernel, by decide +kernel, by decide +kernel⟩
theorem zM1 : zMok 1 := ⟨Or.inl ⟨rfl, zw512⟩, zw34, rfl, by decide +kernel, by decide +kernel, by decide +kernel⟩
theorem zM2 : zMok 2 := ⟨Or.inl ⟨rfl, zw512⟩, zw34, rfl, by decide +kernel, by decide +kernel, by decide +kernel⟩
theorem zM3 : zMok 3 := ⟨Or.inl ⟨rfl, zw213⟩, zw34, rfl, by decide +kernel, by decide +kernel, by decide +kernel⟩
theorem zM4 : zMok 4 := ⟨Or.inl ⟨rfl, zw217⟩, zw34, rfl, by decide +kernel, by decide +kernel, by decide +kernel⟩
theorem zM5 : zMok 5 := ⟨Or.inl ⟨rfl, zw512⟩, zw34, rfl, by decide +kernel, by decide +kernel, by decide +kernel⟩
theorem zM6 : zMok 6 := ⟨Or.inl ⟨rfl, zw381⟩, zw34, rfl, by decide +kernel, by decide +kernel, by decide +kernel⟩
theorem zM7 : zMok 7 := ⟨Or.inl ⟨rfl, zw521⟩, zw34, rfl, by decide +kernel, by decide +kernel, by decide +kernel⟩
theorem zM8 : zMok 8 := ⟨Or.inl ⟨rfl, zw458⟩, zw34, rfl, by decide +kernel, by decide +kernel, by decide +kernel⟩
theorem zM9 : zMok 9 := ⟨Or.inl ⟨rfl, zw486⟩, zw34, rfl, by decide +kernel, by decide +kernel, by decide +kernel⟩
theorem zM10 : zMok 10 := ⟨Or.inl ⟨rfl, zw600⟩, zw34, rfl, by decide +kernel, by decide +kernel, by decide +kernel⟩
theorem zM11 : zMok 11 := ⟨Or.inl ⟨rfl, zw732⟩, zw34, rfl, by decide +kernel, by decide +kernel, by decide +kernel⟩
theorem zM12 : zMok 12 := ⟨Or.inl ⟨rfl, zw495⟩, zw34, rfl, by decide +kernel, by decide +kernel, by decide +kernel⟩
theorem zM13 : zMok 13 := ⟨Or.inl ⟨rfl, zw482⟩, zw34, rfl, by decide +kernel, by decide +kernel, by decide +kernel⟩
theorem zM14 : zMok 14 := ⟨Or.inl ⟨rfl, zw454⟩, zw34, rfl, by decide +kernel, by decide +kernel, by decide +kernel⟩
theorem zM15 : zMok 15 := ⟨Or.inl ⟨rfl, zw671⟩, zw34, rfl, by decide +kernel, by decide +kernel, by decide +kernel⟩
theorem zM16 : zMok 16 := ⟨Or.inl ⟨rfl, zw679⟩, zw34, rfl, by decide +kernel, by decide +kernel, by decide +kernel⟩
theorem zM17 : zMok 17 := ⟨Or.inl ⟨rfl, zw675⟩, zw34, rfl, by decide +kernel, by decide +kernel, by decide +kernel⟩
theorem zM18 : zMok 18 := ⟨Or.inl ⟨rfl, zw632⟩, zw34, rfl, by decide +kernel, by decide +kernel, by decide +kernel⟩
theorem zM19 : zMok 19 := ⟨Or.inl ⟨rfl, zw103⟩, zw37, rfl, by decide +kernel, by decide +kernel, by decide +kernel⟩
theorem zM20 : zMok 20 := ⟨Or.inl ⟨rfl, zw249⟩, zw37, rfl, by decide +kernel, by decide +kernel, by decide +kernel⟩
theorem zM21 : zMok 21 := ⟨Or.inl ⟨rfl, zw245⟩, zw37, rfl, by decide +kernel, by decide +kernel, by decide +kernel⟩
theorem zM22 : zMok 22 := ⟨Or.inl ⟨rfl, zw240⟩, zw37, rfl, by decide +kernel, by decide +kernel, by decide +kernel⟩
theorem zM23 : zMok 23 := ⟨Or.inl ⟨rfl, zw608⟩, zw37, rfl, by decide +kernel, by decide +kernel, by decide +kernel⟩
theorem zM24 : zMok 24 := ⟨Or.inl ⟨rfl, zw64⟩, zw35, rfl, by decide +kernel, by decide +kernel, by decide +kernel⟩
theorem zM25 : zMok 25 := ⟨Or.inl ⟨rfl, zw232⟩, zw35, rfl, by decide +kernel, by decide +kernel, by decide +kernel⟩
theorem zM26 : zMok 26 := ⟨Or.inl ⟨rfl, zw209⟩, zw35, rfl, by decide +kernel, by decide +kernel, by decide +kernel⟩
theorem zM27 : zMok 27 := ⟨Or.inl ⟨rfl, zw228⟩, zw35, rfl, by decide +kernel, by decide +kernel, by decide +kernel⟩
theorem zM28 : zMok 28 := ⟨Or.inl ⟨rfl, zw583⟩, zw35, rfl, by decide +kernel, by decide +kernel, by decide +kernel⟩
theorem zM29 : zMok 29 := ⟨Or.inl ⟨rfl, zw175⟩, zw38, rfl, by decide +kernel, by decide +kernel, by decide +kernel⟩
theorem zM30 : zMok 30 := ⟨Or.inl ⟨rfl, zw512⟩, zw34, rfl, by decide +kernel, by decide +kernel, by decide +kernel⟩
theorem zM31 : zMok 31 := ⟨Or.inl ⟨rfl, zw499⟩, zw38, rfl, by decide +kernel, by decide +kernel, by decide +kernel⟩
theorem zM32 : zMok 32 := ⟨Or.inl ⟨rfl, zw691⟩, zw38, rfl, by decide +kernel, by decide +kernel, by decide +kernel⟩
theorem zM33 : zMok 33 := ⟨Or.inl ⟨rfl, zw708⟩, zw38, rfl, by decide +kernel, by decide +kernel, by decide +kernel⟩
theorem zM34 : zMok 34 := ⟨Or.inl ⟨rfl, zw711⟩, zw38, rfl, by decide +kernel, by decide +kernel, by decide +kernel⟩
theorem zM35 : zMok 35 := ⟨Or.inl ⟨rfl, zw695⟩, zw38, rfl, by decide +kernel, by decide +kernel, by decide +kernel⟩
theorem zM36 : zMok 36 := ⟨Or.inl ⟨rfl, zw704⟩, zw38, rfl, by decide +kernel, by decide +kernel, by decide +kernel⟩
theorem zM37 : zMok 37 := ⟨Or.inl ⟨rfl, zw700⟩, zw38, rfl, by decide +kernel, by decide +kernel, by decide +kernel⟩
theorem zM38 : zMok 38 := ⟨Or.inl ⟨rfl, zw640⟩, zw38, rfl, by decide +kernel, by decide +kernel, by decide +kernel⟩
theorem zM39 : zMok 39 := ⟨Or.inl ⟨rfl, zw95⟩, zw36, rfl, by decide +kernel, by decide +kernel, by decide +kernel⟩
theorem zM40 : zMok 40 := ⟨Or.inl ⟨rfl, zw236⟩, zw36, rfl, by decide +kernel, by decide +kernel, by decide +kernel⟩
theorem zM41 : zMok 41 := ⟨Or.inl ⟨rfl, zw255⟩, zw36, rfl, by decide +kernel, by decide +kernel, by decide +kernel⟩
theorem zM42 : zMok 42 := ⟨Or.inl ⟨rfl, zw259⟩, zw36, rfl, by decide +kernel, by decide +kernel, by decide +kernel⟩
theorem zM43 : zMok 43 := ⟨Or.inl ⟨rfl, zw434⟩, zw36, rfl, by decide +kernel, by decide +kernel, by decide +kernel⟩
theorem zM44 : zMok 44 := ⟨Or.inl ⟨rfl, zw438⟩, zw36, rfl, by decide +kernel, by decide +kernel, by decide +kernel⟩
theorem zM45 : zMok 45 := ⟨Or.inl ⟨rfl, zw442⟩, zw36, rfl, by decide +kernel, by decide +kernel, by decide +kernel⟩
theorem zM46 : zMok 46 := ⟨Or.inl ⟨rfl, zw567⟩, zw36, rfl, by decide +kernel, by decide +kernel, by decide +kernel⟩
theorem zM47 : zMok 47 := ⟨Or.inl ⟨rfl, zw571⟩, zw36, rfl, by decide +kernel, by decide +kernel, by decide +kernel⟩
theorem zM48 : zMok 48 := ⟨Or.inl ⟨rfl, zw616⟩, zw36, rfl, by decide +kernel, by decide +kernel, by decide +kernel⟩
theorem zM49 : zMok 49 := ⟨Or.inl ⟨rfl, zw620⟩, zw36, rfl, by decide +kernel, by decide +kernel, by decide +kernel⟩
theorem zM50 : zMok 50 := ⟨Or.inl ⟨rfl, zw624⟩, zw36, rfl, by decide +kernel, by decide +kernel, by decide +kernel⟩
theorem zM51 : zMok 51 := ⟨Or.inl ⟨rfl, zw636⟩, zw36, rfl, by decide +kernel, by decide +kernel, by decide +kernel⟩
theorem zM52 : zMok 52 := ⟨Or.inl ⟨rfl, zw50⟩, zw33, rfl, by decide +kernel, by decide +kernel, by decide +kernel⟩
theorem zM53 : zMok 53 := ⟨Or.inl ⟨rfl, zw512⟩, zw34, rfl, by decide +kernel, by decide +kernel, by decide +kernel⟩
theorem zM54 : zMok 54 := ⟨Or.inl ⟨rfl, zw302⟩, zw33, rfl, by decide +kernel, by decide +kernel, by decide +kernel⟩
theorem zM55 : zMok 55 := ⟨Or.inl ⟨rfl, zw470⟩, zw33, rfl, by decide +kernel, by decide +kernel, by decide +kernel⟩
theorem zM56 : zMok 56 := ⟨Or.inl ⟨rfl, zw508⟩, zw33, rfl, by decide +kernel, by decide +kernel, by decide +kernel⟩
theorem zM57 : zMok 57 := ⟨Or.inl ⟨rfl, zw517⟩, zw33, rfl, by decide +kernel, by decide +kernel, by decide +kernel⟩
theorem zM58 : zMok 58 := ⟨Or.inl ⟨rfl, zw529⟩, zw33, rfl, by decide +kernel, by decide +kernel, by decide +kernel⟩
theorem zM59 : zMok 59 := ⟨Or.inl ⟨rfl, zw535⟩, zw33, rfl, by decide +kernel, by decide +kernel, by decide +kernel⟩
theorem zM60 : zMok 60 := ⟨Or.inl ⟨rfl, zw551⟩, zw33, rfl, by decide +kernel, by decide +kernel, by decide +kernel⟩
theorem zM61 : zMok 61 := ⟨Or.inl ⟨rfl, zw512⟩, zw34, rfl, by decide +kernel, by decide +kernel, by decide +kernel⟩
theorem zM62 : zMok 62 := ⟨Or.inl ⟨rfl, zw512⟩, zw34, rfl, by decide +kernel, by decide +kernel, by decide +kernel⟩
theorem zM63 : zMok 63 := ⟨Or.inl ⟨rfl, zw558⟩, zw33, rfl, by decide +kernel, by decide +kernel, by decide +kernel⟩
theorem zM64 : zMok 64 := ⟨Or.inl ⟨rfl, zw512⟩, zw34, rfl, by decide +kernel, by decide +kernel, by decide +kernel⟩
theorem zM65 : zMok 65 := ⟨Or.inl ⟨rfl, zw512⟩, zw34, rfl, by decide +kernel, by decide +kernel, by decide +kernel⟩
theorem zM66 : zMok 66 := ⟨Or.inl ⟨rfl, zw662⟩, zw33, rfl, by decide +kernel, by decide +kernel, by decide +kernel⟩
theorem zM67 : zMok 67 := ⟨Or.inl ⟨rfl, zw512⟩, zw34, rfl, by decide +kernel, by decide +kernel, by decide +kernel⟩
theorem zM68 : zMok 68 := ⟨Or.inl ⟨rfl, zw512⟩, zw34, rfl, by decide +kernel, by decide +kernel, by decide +kernel⟩
theorem zM69 : zMok 69 := ⟨Or.inl ⟨rfl, zw666⟩, zw33, rfl, by decide +kernel, by decide +kernel, by decide +kernel⟩
theorem zM70 : zMok 70 := ⟨Or.inl ⟨rfl, zw728⟩, zw33, rfl, by decide +kernel, by decide +kernel, by decide +kernel⟩
theorem zM71 : zMok 71 := ⟨Or.inl ⟨rfl, zw722⟩, zw33, rfl, by decide +kernel, by decide +kernel, by decide +kernel⟩
theorem zM72 : zMok 72 := ⟨Or.inl ⟨rfl, zw738⟩, zw33, rfl, by decide +kernel, by decide +kernel, by decide +kernel⟩
theorem zM73 : zMok 73 := ⟨Or.inl ⟨rfl, zw687⟩, zw33, rfl, by decide +kernel, by decide +kernel, by decide +kernel⟩
theorem zM74 : zMok 74 := ⟨Or.inl ⟨rfl, zw579⟩, zw33, rfl, by decide +kernel, by decide +kernel, by decide +kernel⟩
theorem zM75 : zMok 75 := ⟨Or.inl ⟨rfl, zw718⟩, zw33, rfl, by decide +kernel, by decide +kernel, by decide +kernel⟩
theorem zM76 : zMok 76 := ⟨Or.inl ⟨rfl, zw512⟩, zw34, rfl, by decide +kernel, by decide +kernel, by decide +kernel⟩
theorem zM77 : zMok 77 := ⟨Or.inl ⟨rfl, zw588⟩, zw33, rfl, by decide +kernel, by decide +kernel, by decide +kernel⟩
theorem zM78 : zMok 78 := ⟨Or.inl ⟨rfl, zw592⟩, zw33, rfl, by decide +kernel, by decide +kernel, by decide +kernel⟩
theorem zM79 : zMok 79 := ⟨Or.inl ⟨rfl, zw612⟩, zw33, rfl, by decide +kernel, by decide +kernel, by decide +kernel⟩
theorem zM80 : zMok 80 := ⟨Or.inl ⟨rfl, zw628⟩, zw33, rfl, by decide +kernel, by decide +kernel, by decide +kernel⟩
theorem zM81 : zMok 81 := ⟨Or.inl ⟨rfl, zw652⟩, zw33, rfl, by decide +kernel, by decide +kernel, by decide +kernel⟩
theorem zM82 : zMok 82 := ⟨Or.inl ⟨rfl, zw305⟩, zw33, rfl, by decide +kernel, by decide +kernel, by decide +kernel⟩
theorem zM83 : zMok 83 := ⟨Or.inl ⟨rfl, zw541⟩, zw33, rfl, by decide +kernel, by decide +kernel, by decide +kernel⟩
theorem zM84 : zMok 84 := ⟨Or.inl ⟨rfl, zw538⟩, zw33, rfl, by decide +kernel, by decide +kernel, by decide +kernel⟩
theorem zM85 : zMok 85 := ⟨Or.inl ⟨rfl, zw561⟩, zw33, rfl, by decide +kernel, by decide +kernel, by decide +kernel⟩
theorem zM86 : zMok 86 := ⟨Or.inl ⟨rfl, zw377⟩, zw33, rfl, by decide +kernel, by decide +kernel, by decide +kernel⟩
theorem zM87 : zMok 87 := ⟨Or.inl ⟨rfl, zw401⟩, zw33, rfl, by decide +kernel, by decide +kernel, by decide +kernel⟩
theorem zM88 : zMok 88 := ⟨Or.inl ⟨rfl, zw547⟩, zw33, rfl, by decide +kernel, by decide +kernel, by decide +kernel⟩
theorem zM89 : zMok 89 := ⟨Or.inl ⟨rfl, zw462⟩, zw33, rfl, by decide +kernel, by decide +kernel, by decide +kernel⟩
theorem zM90 : zMok 90 := ⟨Or.inl ⟨rfl, zw430⟩, zw33, rfl, by decide +kernel, by decide +kernel, by decide +kernel⟩
theorem zM91 : zMok 91 := ⟨Or.inl ⟨rfl, zw450⟩, zw33, rfl, by decide +kernel, by decide +kernel, by decide +kernel⟩
theorem zM92 : zMok 92 := ⟨Or.inl ⟨rfl, zw466⟩, zw33, rfl, by decide +kernel, by decide +kernel, by decide +kernel⟩
theorem zM93 : zMok 93 := ⟨Or.inl ⟨rfl, zw648⟩, zw33, rfl, by decide +kernel, by decide +kernel, by decide +kernel⟩
theorem zM94 : zMok 94 := ⟨Or.inl ⟨rfl, zw644⟩, zw33, rfl, by decide +kernel, by decide +kernel, by decide +kernel⟩
theorem zM95 : zMok 95 := ⟨Or.inl ⟨rfl, zw478⟩, zw33, rfl, by decide +kernel, by decide +kernel, by decide +kernel⟩
theorem zM96 : zMok 96 := ⟨Or.inl ⟨rfl, zw405⟩, zw33, rfl, by decide +kernel, by decide +kernel, by decide +kernel⟩
theorem zM97 : zMok 97 := ⟨Or.inl ⟨rfl, zw474⟩, zw33, rfl, by decide +kernel, by decide +kernel, by decide +kernel⟩
theorem zM98 : zMok 98 := ⟨Or.inl ⟨rfl, zw512⟩, zw34, rfl, by decide +kernel, by decide +kernel, by decide +kernel⟩
theorem zM99 : zMok 99 := ⟨Or.inl ⟨rfl, zw604⟩, zw33, rfl, by decide +kernel, by decide +kernel, by decide +kernel⟩
theorem zM100 : zMok 100 := ⟨Or.inl ⟨rfl, zw596⟩, zw33, rfl, by decide +kernel, by decide +kernel, by decide +kernel⟩
theorem zM101 : zMok 101 := ⟨Or.inl ⟨rfl, zw426⟩, zw33, rfl, by decide +kernel, by decide +kernel, by decide +kernel⟩
theorem zM102 : zMok 102 := ⟨Or.inl ⟨rfl, zw446⟩, zw33, rfl, by decide +kernel, by decide +kernel, by decide +kernel⟩
theorem zM103 : zMok 103 := ⟨Or.inl ⟨rfl, zw491⟩, zw33, rfl, by decide +kernel, by decide +kernel, by decide +kernel⟩
theorem zM104 : zMok 104 := ⟨Or.inl ⟨rfl, zw504⟩, zw33, rfl, by decide +kernel, by decide +kernel, by decide +kernel⟩
theorem zM105 : zMok 105 := ⟨Or.inl ⟨rfl, zw575⟩, zw33, rfl, by decide +kernel, by decide +kernel, by decide +kernel⟩
theorem zM106 : zMok 106 := ⟨Or.inl ⟨rfl, zw512⟩, zw34, rfl, by decide +kernel, by decide +kernel, by decide +kernel⟩
theorem zM107 : zMok 107 := ⟨Or.inl ⟨rfl, zw657⟩, zw33, rfl, by decide +kernel, by decide +kernel, by decide +kernel⟩
theorem zM108 : zMok 108 := ⟨Or.inl ⟨rfl, zw683⟩, zw33, rfl, by decide +kernel, by decide +kernel, by decide +kernel⟩
theorem zM109 : zMok 109 := ⟨Or.inl ⟨rfl, zw512⟩, zw34, rfl, by decide +kernel, by decide +kernel, by decide +kernel⟩
theorem zM110 : zMok 110 := ⟨Or.inl ⟨rfl, zw512⟩, zw34, rfl, by decide +kernel, by decide +kernel, by decide +kernel⟩
theorem zM111 : zMok 111 := ⟨Or.inl ⟨rfl, zw512⟩, zw34, rfl, by decide +kernel, by decide +kernel, by decide +kernel⟩
theorem zM112 : zMok 112 := ⟨Or.inl ⟨rfl, zw512⟩, zw34, rfl, by decide +kernel, by decide +kernel, by decide +kernel⟩
theorem zM113 : zMok 113 := ⟨Or.inl ⟨rfl, zw512⟩, zw34, rfl, by decide +kernel, by decide +kernel, by decide +kernel⟩
theorem zM114 : zMok 114 := ⟨Or.inl ⟨rfl, zw512⟩, zw34, rfl, by decide +kernel, by decide +kernel, by decide +kernel⟩
theorem zM115 : zMok 115 := ⟨Or.inl ⟨rfl, zw512⟩, zw34, rfl, by decide +kernel, by decide +kernel, by decide +kernel⟩
theorem zM116 : zMok 116 := ⟨Or.inl ⟨rfl, zw512⟩, zw34, rfl, by decide +kernel, by decide +kernel, by decide +kernel⟩
theorem zM117 : zMok 117 := ⟨Or.inl ⟨rfl, zw512⟩, zw34, rfl, by decide +kernel, by decide +kernel, by decide +kernel⟩
theorem zM118 : zMok 118 := ⟨Or.inl ⟨rfl, zw512⟩, zw34, rfl, by decide +kernel, by decide +kernel, by decide +kernel⟩
theorem zM119 : zMok 119 := ⟨Or.inl ⟨rfl, zw512⟩, zw34, rfl, by decide +kernel, by decide +kernel, by decide +kernel⟩
theorem zM120 : zMok 120 := ⟨Or.inl ⟨rfl, zw512⟩, zw34, rfl, by decide +kernel, by decide +kernel, by decide +kernel⟩
theorem zM121 : zMok 121 := ⟨Or.inl ⟨rfl, zw512⟩, zw34, rfl, by decide +kernel, by decide +kernel, by decide +kernel⟩
theorem zM122 : zMok 122 := ⟨Or.inl ⟨rfl, zw512⟩, zw34, rfl, by decide +kernel, by decide +kernel, by decide +kernel⟩
theorem zM123 : zMok 123 := ⟨Or.inl ⟨rfl, zw512⟩, zw34, rfl, by decide +kernel, by decide +kernel, by decide +kernel⟩
theorem zM124 : zMok 124 := ⟨Or.inl ⟨rfl, zw512⟩, zw34, rfl, by decide +kernel, by decide +kernel, by decide +kernel⟩
theorem zM125 : zMok 125 := ⟨Or.inl ⟨rfl, zw512⟩, zw34, rfl, by decide +kernel, by decide +kernel, by decide +kernel⟩
theorem zM126 : zMok 126 := ⟨Or.inl ⟨rfl, zw512⟩, zw34, rfl, by decide +kernel, by decide +kernel, by decide +kernel⟩
theorem zM127 : zMok 127 := ⟨Or.inl ⟨rfl, zw512⟩, zw34, rfl, by decide +kernel, by decide +kernel, by decide +kernel⟩
theorem zM128 : zMok 128 := ⟨Or.inl ⟨rfl, zw512⟩, zw34, rfl, by decide +kernel, by decide +kernel, by decide +kernel⟩
theorem zM129 : zMok 129 := ⟨Or.inl ⟨rfl, zw512⟩, zw34, rfl, by decide +kernel, by decide +kernel, by decide +kernel⟩
theorem zM130 : zMok 130 := ⟨Or.inl ⟨rfl, zw512⟩, zw34, rfl, by decide +kernel, by decide +kernel, by decide +kernel⟩
theorem zM131 : zMok 131 := ⟨Or.inl ⟨rfl, zw512⟩, zw34, rfl, by decide +kernel, by decide +kernel, by decide +kernel⟩
theorem zM132 : zMok 132 := ⟨Or.inl ⟨rfl, zw512⟩, zw34, rfl, by decide +kernel, by decide +kernel, by decide +kernel⟩
theorem zM133 : zMok 133 := ⟨Or.inl ⟨rfl, zw512⟩, zw34, rfl, by decide +kernel, by decide +kernel, by decide +kernel⟩
theorem zM134 : zMok 134 := ⟨Or.inl ⟨rfl, zw512⟩, zw34, rfl, by decide +kernel, by decide +kernel, by decide +kernel⟩
theorem zM135 : zMok 135 := ⟨Or.inl ⟨rfl, zw512⟩, zw34, rfl, by decide +kernel, by decide +kernel, by decide +kernel⟩
theorem zM136 : zMok 136 := ⟨Or.inl ⟨rfl, zw512⟩, zw34, rfl, by decide +kernel, by decide +kernel, by decide +kernel⟩
theorem zM137 : zMok 137 := ⟨Or.inl ⟨rfl, zw512⟩, zw34, rfl, by decide +kernel, by decide +kernel, by decide +kernel⟩
theorem zM138 : zMok 138 := ⟨Or.inl ⟨rfl, zw512⟩, zw34, rfl, by decide +kernel, by decide +kernel, by decide +kernel⟩
theorem zM139 : zMok 139 := ⟨Or.inl ⟨rfl, zw512⟩, zw34, rfl, by decide +kernel, by decide +kernel, by decide +kernel⟩
theorem zM140 : zMok 140 := ⟨Or.inl ⟨rfl, zw512⟩, zw34, rfl, by decide +kernel, by decide +kernel, by decide +kernel⟩
theorem zM141 : zMok 141 := ⟨Or.inl ⟨rfl, zw512⟩, zw34, rfl, by decide +kernel, by decide +kernel, by decide +kernel⟩
theorem zM142 : zMok 142 := ⟨Or.inl ⟨rfl, zw512⟩, zw34, rfl, by decide +kernel, by decide +kernel, by decide +kernel⟩
theorem zM143 : zMok 143 := ⟨Or.inl ⟨rfl, zw512⟩, zw34, rfl, by decide +kernel, by decide +kernel, by decide +kernel⟩
theorem zM144 : zMok 144 := ⟨Or.inl ⟨rfl, zw512⟩, zw34, rfl, by decide +kernel, by decide +kernel, by decide +kernel⟩
theorem zM145 : zMok 145 := ⟨Or.inl ⟨rfl, zw512⟩, zw34, rfl, by decide +kernel, by decide +kernel, by decide +kernel⟩
theorem zM146 : zMok 146 := ⟨Or.inl ⟨rfl, zw512⟩, zw34, rfl, by decide +kernel, by decide +kernel, by decide +kernel⟩
theorem zM147 : zMok 147 := ⟨Or.inl ⟨rfl, zw512⟩, zw34, rfl, by decide +kernel, by decide +kernel, by decide +kernel⟩
theorem zM148 : zMok 148 := ⟨Or.inl ⟨rfl, zw512⟩, zw34, rfl, by decide +kernel, by decide +kernel, by decide +kernel⟩
theorem zM149 : zMok 149 := ⟨Or.inl ⟨rfl, zw512⟩, zw34, rfl, by decide +kernel, by decide +kernel, by decide +kernel⟩
theorem zM150 : zMok 150 := ⟨Or.inl ⟨rfl, zw512⟩, zw34, rfl, by decide +kernel, by decide +kernel, by decide +kernel⟩
theorem zM151 : zMok 151 := ⟨Or.inl ⟨rfl, zw512⟩, zw34, rfl, by decide +kernel, by decide +kernel, by decide +kernel⟩
theorem zM152 : zMok 152 := ⟨Or.inl ⟨rfl, zw512⟩, zw34, rfl, by decide +kernel, by decide +kernel, by decide +kernel⟩
theorem zM153 : zMok 153 := ⟨Or.inl ⟨rfl, zw512⟩, zw34, rfl, by decide +kernel, by decide +kernel, by decide +kernel⟩
theorem zM154 : zMok 154 := ⟨Or.inl ⟨rfl, zw512⟩, zw34, rfl, by decide +kernel, by decide +kernel, by decide +kernel⟩
theorem zM155 : zMok 155 := ⟨Or.inl ⟨rfl, zw512⟩, zw34, rfl, by decide +kernel, by decide +kernel, by decide +kernel⟩
theorem zM156 : zMok 156 := ⟨Or.inl ⟨rfl, zw512⟩, zw34, rfl, by decide +kernel, by decide +kernel, by decide +kernel⟩
theorem zM157 : zMok 157 := ⟨Or.inl ⟨rfl, zw512⟩, zw34, rfl, by decide +kernel, by decide +kernel, by decide +kernel⟩
theorem zM158 : zMok 158 := ⟨Or.inl ⟨rfl, zw512⟩, zw34, rfl, by decide +kernel, by decide +kernel, by decide +kernel⟩
theorem zM159 : zMok 159 := ⟨Or.inl ⟨rfl, zw512⟩, zw34, rfl, by decide +kernel, by decide +kernel, by decide +kernel⟩
theorem zM160 : zMok 160 := ⟨Or.inl ⟨rfl, zw512⟩, zw34, rfl, by decide +kernel, by decide +kernel, by decide +kernel⟩
theorem zM161 : zMok 161 := ⟨Or.inl ⟨rfl, zw512⟩, zw34, rfl, by decide +kernel, by decide +kernel, by decide +kernel⟩
theorem zM162 : zMok 162 := ⟨Or.inl ⟨rfl, zw512⟩, zw34, rfl, by decide +kernel, by decide +kernel, by decide +kernel⟩
theorem zM163 : zMok 163 := ⟨Or.inl ⟨rfl, zw512⟩, zw34, rfl, by decide +kernel, by decide +kernel, by decide +kernel⟩
theorem zM164 : zMok 164 := ⟨Or.inl ⟨rfl, zw512⟩, zw34, rfl, by decide +kernel, by decide +kernel, by decide +kernel⟩
theorem zM165 : zMok 165 := ⟨Or.inl ⟨rfl, zw512⟩, zw34, rfl, by decide +kernel, by decide +kernel, by decide +kernel⟩
theorem zM166 : zMok 166 := ⟨Or.inl ⟨rfl, zw512⟩, zw34, rfl, by decide +kernel, by decide +kernel, by decide +kernel⟩
theorem zM167 : zMok 167 := ⟨Or.inl ⟨rfl, zw512⟩, zw34, rfl, by decide +kernel, by decide +kernel, by decide +kernel⟩
theorem zM168 : zMok 168 := ⟨Or.inl ⟨rfl, zw512⟩, zw34, rfl, by decide +kernel, by decide +kernel, by decide +kernel⟩
theorem zM169 : zMok 169 := ⟨Or.inl ⟨rfl, zw512⟩, zw34, rfl, by decide +kernel, by decide +kernel, by decide +kernel⟩
theorem zM170 : zMok 170 := ⟨Or.inl ⟨rfl, zw512⟩, zw34, rfl, by decide +kernel, by decide +kernel, by decide +kernel⟩
theorem zM171 : zMok 171 := ⟨Or.inl ⟨rfl, zw512⟩, zw34, rfl, by decide +kernel, by decide +kernel, by decide +kernel⟩
theorem zM172 : zMok 172 := ⟨Or.inl ⟨rfl, zw512⟩, zw34, rfl, by decide +kernel, by decide +kernel, by decide +kernel⟩
theorem zM173 : zMok 173 := ⟨Or.inl ⟨rfl, zw512⟩, zw34, rfl, by decide +kernel, by decide +kernel, by decide +kernel⟩
theorem zM174 : zMok 174 := ⟨Or.inl ⟨rfl, zw512⟩, zw34, rfl, by decide +kernel, by decide +kernel, by decide +kernel⟩
theorem zM175 : zMok 175 := ⟨Or.inl ⟨rfl, zw512⟩, zw34, rfl, by decide +kernel, by decide +kernel, by decide +kernel⟩
theorem zM176 : zMok 176 := ⟨Or.inl ⟨rfl, zw512⟩, zw34, rfl, by decide +kernel, by decide +kernel, by decide +kernel⟩
theorem zM177 : zMok 177 := ⟨Or.inl ⟨rfl, zw512⟩, zw34, rfl, by decide +kernel, by decide +kernel, by decide +kernel⟩
theorem zM178 : zMok 178 := ⟨Or.inl ⟨rfl, zw512⟩, zw34, rfl, by decide +kernel, by decide +kernel, by decide +kernel⟩
theorem zM179 : zMok 179 := ⟨Or.inl ⟨rfl, zw512⟩, zw34, rfl, by decide +kernel, by decide +kernel, by decide +kernel⟩
theorem zM180 : zMok 180 := ⟨Or.inl ⟨rfl, zw512⟩, zw34, rfl, by decide +kernel, by decide +kernel, by decide +kernel⟩
theorem zM181 : zMok 181 := ⟨Or.inl ⟨rfl, zw512⟩, zw34, rfl, by decide +kernel, by decide +kernel, by decide +kernel⟩
theorem zM182 : zMok 182 := ⟨Or.inl ⟨rfl, zw512⟩, zw34, rfl, by decide +kernel, by decide +kernel, by decide +kernel⟩
theorem zM183 : zMok 183 := ⟨Or.inl ⟨rfl, zw512⟩, zw34, rfl, by decide +kernel, by decide +kernel, by decide +kernel⟩
theorem zM184 : zMok 184 := ⟨Or.inl ⟨rfl, zw512⟩, zw34, rfl, by decide +kernel, by decide +kernel, by decide +kernel⟩
theorem zM185 : zMok 185 := ⟨Or.inl ⟨rfl, zw512⟩, zw34, rfl, by decide +kernel, by decide +kernel, by decide +kernel⟩
theorem zM186 : zMok 186 := ⟨Or.inl ⟨rfl, zw512⟩, zw34, rfl, by decide +kernel, by decide +kernel, by decide +kernel⟩
theorem zM187 : zMok 187 := ⟨Or.inl ⟨rfl, zw512⟩, zw34, rfl, by decide +kernel, by decide +kernel, by decide +kernel⟩
theorem zM188 : zMok 188 := ⟨Or.inl ⟨rfl, zw512⟩, zw34, rfl, by decide +kernel, by decide +kernel, by decide +kernel⟩
theorem zM189 : zMok 189 := ⟨Or.inl ⟨rfl, zw512⟩, zw34, rfl, by decide +kernel, by decide +kernel, by decide +kernel⟩
theorem zM190 : zMok 190 := ⟨Or.inl ⟨rfl, zw512⟩, zw34, rfl, by decide +kernel, by decide +kernel, by decide +kernel⟩
theorem zM191 : zMok 191 := ⟨Or.inl ⟨rfl, zw512⟩, zw34, rfl, by decide +kernel, by decide +kernel, by decide +kernel⟩
theorem zM192 : zMok 192 := ⟨Or.inl ⟨rfl, zw512⟩, zw34, rfl, by decide +kernel, by decide +kernel, by decide +kernel⟩
theorem zM193 : zMok 193 := ⟨Or.inl ⟨rfl, zw512⟩, zw34, rfl, by decide +kernel, by decide +kernel, by decide +kernel⟩
theorem zM194 : zMok 194 := ⟨Or.inl ⟨rfl, zw512⟩, zw34, rfl, by decide +kernel, by decide +kernel, by decide +kernel⟩
theorem zM195 : zMok 195 := ⟨Or.inl ⟨rfl, zw512⟩, zw34, rfl, by decide +kernel, by decide +kernel, by decide +kernel⟩
theorem zM196 : zMok 196 := ⟨Or.inl ⟨rfl, zw512⟩, zw34, rfl, by decide +kernel, by decide +kernel, by decide +kernel⟩
theorem zM197 : zMok 197 := ⟨Or.inl ⟨rfl, zw512⟩, zw34, rfl, by decide +kernel, by decide +kernel, by decide +kernel⟩
theorem zM198 : zMok 198 := ⟨Or.inl ⟨rfl, zw512⟩, zw34, rfl, by decide +kernel, by decide +kernel, by decide +kernel⟩
theorem zM199 : zMok 199 := ⟨Or.inl ⟨rfl, zw512⟩, zw34, rfl, by decide +kernel, by decide +kernel, by decide +kernel⟩
theorem zM200 : zMok 200 := ⟨Or.inl ⟨rfl, zw512⟩, zw34, rfl, by decide +kernel, by decide +kernel, by decide +kernel⟩
theorem zM201 : zMok 201 := ⟨Or.inl ⟨rfl, zw512⟩, zw34, rfl, by decide +kernel, by decide +kernel, by decide +kernel⟩
theorem zM202 : zMok 202 := ⟨Or.inl ⟨rfl, zw512⟩, zw34, rfl, by decide +kernel, by decide +kernel, by decide +kernel⟩
theorem zM203 : zMok 203 := ⟨Or.inl ⟨rfl, zw512⟩, zw34, rfl, by decide +kernel, by decide +kernel, by decide +kernel⟩
theorem zM204 : zMok 204 := ⟨Or.inl ⟨rfl, zw512⟩, zw34, rfl, by decide +kernel, by decide +kernel, by decide +kernel⟩
theorem zM205 : zMok 205 := ⟨Or.inl ⟨rfl, zw512⟩, zw34, rfl, by decide +kernel, by decide +kernel, by decide +kernel⟩
theorem zM206 : zMok 206 := ⟨Or.inl ⟨rfl, zw512⟩, zw34, rfl, by decide +kernel, by decide +kernel, by decide +kernel⟩
theorem zM207 : zMok 207 := ⟨Or.inl ⟨rfl, zw512⟩, zw34, rfl, by decide +kernel, by decide +kernel, by decide +kernel⟩
theorem zM208 : zMok 208 := ⟨Or.inl ⟨rfl, zw512⟩, zw34, rfl, by decide +kernel, by decide +kernel, by decide +kernel⟩
theorem zM209 : zMok 209 := ⟨Or.inl ⟨rfl, zw512⟩, zw34, rfl, by decide +kernel, by decide +kernel, by decide +kernel⟩
theorem zM210 : zMok 210 := ⟨Or.inl ⟨rfl, zw512⟩, zw34, rfl, by decide +kernel, by decide +kernel, by decide +kernel⟩
theorem zM211 : zMok 211 := ⟨Or.inl ⟨rfl, zw512⟩, zw34, rfl, by decide +kernel, by decide +kernel, by decide +kernel⟩
theorem zM212 : zMok 212 := ⟨Or.inl ⟨rfl, zw512⟩, zw34, rfl, by decide +kernel, by decide +kernel, by decide +kernel⟩
theorem zM213 : zMok 213 := ⟨Or.inl ⟨rfl, zw512⟩, zw34, rfl, by decide +kernel, by decide +kernel, by decide +kernel⟩
theorem zM215 : zMok 215 := ⟨Or.inl ⟨rfl, zw512⟩, zw34, rfl, by decide +kernel, by decide +kernel, by decide +kernel⟩
theorem zM216 : zMok 216 := ⟨Or.inl ⟨rfl, zw512⟩, zw34, rfl, by decide +kernel, by decide +kernel, by decide +kernel⟩
theorem zM217 : zMok 217 := ⟨Or.inl ⟨rfl, zw512⟩, zw34, rfl, by decide +kernel, by decide +kernel, by decide +kernel⟩
theorem zM218 : zMok 218 := ⟨Or.inl ⟨rfl, zw512⟩, zw34, rfl, by decide +kernel, by decide +kernel, by decide +kernel⟩
theorem zM219 : zMok 219 := ⟨Or.inl ⟨rfl, zw512⟩, zw34, rfl, by decide +kernel, by decide +kernel, by decide +kernel⟩
theorem zM220 : zMok 220 := ⟨Or.inl ⟨rfl, zw512⟩, zw34, rfl, by decide +kernel, by decide +kernel, by decide +kernel⟩
theorem zM221 : zMok 221 := ⟨Or.inl ⟨rfl, zw512⟩, zw34, rfl, by decide +kernel, by decide +kernel, by decide +kernel⟩
theorem zM222 : zMok 222 := ⟨Or.inl ⟨rfl, zw512⟩, zw34, rfl, by decide +kernel, by decide +kernel, by decide +kernel⟩
theorem zM223 : zMok 223 := ⟨Or.inl ⟨rfl, zw512⟩, zw34, rfl, by decide +kernel, by decide +kernel, by decide +kernel⟩
theorem zM224 : zMok 224 := ⟨Or.inl ⟨rfl, zw512⟩, zw34, rfl, by decide +kernel, by decide +kernel, by decide +kernel⟩
theorem zM225 : zMok 225 := ⟨Or.inl ⟨rfl, zw512⟩, zw34, rfl, by decide +kernel, by decide +kernel, by decide +kernel⟩
theorem zM226 : zMok 226 := ⟨Or.inl ⟨rfl, zw512⟩, zw34, rfl, by decide +kernel, by decide +kernel, by decide +kernel⟩
theorem zM227 : zMok 227 := ⟨Or.inl ⟨rfl, zw512⟩, zw34, rfl, by decide +kernel, by decide +kernel, by decide +kernel⟩
theorem zM228 : zMok 228 := ⟨Or.inl ⟨rfl, zw512⟩, zw34, rfl, by decide +kernel, by decide +kernel, by decide +kernel⟩
theorem zM229 : zMok 229 := ⟨Or.inl ⟨rfl, zw220⟩, zw39, rfl, by decide +kernel, by decide +kernel, by decide +kernel⟩
theorem zM230 : zMok 230 := ⟨Or.inl ⟨rfl, zw512⟩, zw34, rfl, by decide +kernel, by decide +kernel, by decide +kernel⟩
theorem zM231 : zMok 231 := ⟨Or.inl ⟨rfl, zw512⟩, zw34, rfl, by decide +kernel, by decide +kernel, by decide +kernel⟩
theorem zM232 : zMok 232 := ⟨Or.inl ⟨rfl, zw512⟩, zw34, rfl, by decide +kernel, by decide +kernel, by decide +kernel⟩
theorem zM233 : zMok 233 := ⟨Or.inl ⟨rfl, zw512⟩, zw34, rfl, by decide +kernel, by decide +kernel, by decide +kernel⟩
theorem zM234 : zMok 234 := ⟨Or.inl ⟨rfl, zw512⟩, zw34, rfl, by decide +kernel, by decide +kernel, by decide +kernel⟩
theorem zM235 : zMok 235 := ⟨Or.inl ⟨rfl, zw512⟩, zw34, rfl, by decide +kernel, by decide +kernel, by decide +kernel⟩
theorem zM236 : zMok 236 := ⟨Or.inl ⟨rfl, zw512⟩, zw34, rfl, by decide +kernel, by decide +kernel, by decide +kernel⟩
theorem zM237 : zMok 237 := ⟨Or.inl ⟨rfl, zw512⟩, zw34, rfl, by decide +kernel, by decide +kernel, by decide +kernel⟩
theorem zM238 : zMok 238 := ⟨Or.inl ⟨rfl, zw512⟩, zw34, rfl, by decide +kernel, by decide +kernel, by decide +kernel⟩
theorem zM239 : zMok 239 := ⟨Or.inl ⟨rfl, zw512⟩, zw34, rfl, by decide +kernel, by decide +kernel, by decide +kernel⟩
theorem zM240 : zMok 240 := ⟨Or.inl ⟨rfl, zw512⟩, zw34, rfl, by decide +kernel, by decide +kernel, by decide +kernel⟩
theorem zM241 : zMok 241 := ⟨Or.inl ⟨rfl, zw512⟩, zw34, rfl, by decide +kernel, by decide +kernel, by decide +kernel⟩
theorem zM242 : zMok 242 := ⟨Or.inl ⟨rfl, zw512⟩, zw34, rfl, by decide +kernel, by decide +kernel, by decide +kernel⟩
theorem zM243 : zMok 243 := ⟨Or.inl ⟨rfl, zw512⟩, zw34, rfl, by decide +kernel, by decide +kernel, by decide +kernel⟩
theorem zM244 : zMok 244 := ⟨Or.inl ⟨rfl, zw512⟩, zw34, rfl, by decide +kernel, by decide +kernel, by decide +kernel⟩
theorem zM245 : zMok 245 := ⟨Or.inl ⟨rfl, zw512⟩, zw34, rfl, by decide +kernel, by decide +kernel, by decide +kernel⟩
theorem zM246 : zMok 246 := ⟨Or.inl ⟨rfl, zw512⟩, zw34, rfl, by decide +kernel, by decide +kernel, by decide +kernel⟩
theorem zM247 : zMok 247 := ⟨Or.inl ⟨rfl, zw752⟩, zw32, rfl, by decide +kernel, by decide +kernel, by decide +kernel⟩
theorem zM248 : zMok 248 := ⟨Or.inl ⟨rfl, zw748⟩, zw32, rfl, by decide +kernel, by decide +kernel, by decide +kernel⟩
theorem zM249 : zMok 249 := ⟨Or.inl ⟨rfl, zw745⟩, zw32, rfl, by decide +kernel, by decide +kernel, by decide +kernel⟩
theorem zMs_0 : ∀ y ∈ [0, 1, 2, 3, 4, 5, 6, 7, 8, 9, 10, 11, 12, 13, 14, 15, 16, 17, 18, 19, 20, 21, 22, 23, 24, 25, 26, 27, 28, 29, 30, 31, 32, 33, 34, 35, 36, 37, 38, 39], zMok y := List.forall_mem_cons.mpr ⟨zM0, List.forall_mem_cons.mpr ⟨zM1, List.forall_mem_cons.mpr ⟨zM2, List.forall_mem_cons.mpr ⟨zM3, List.forall_mem_cons.mpr ⟨zM4, List.forall_mem_cons.mpr ⟨zM5, List.forall_mem_cons.mpr ⟨zM6, List.forall_mem_cons.mpr ⟨zM7, List.forall_mem_cons.mpr ⟨zM8, List.forall_mem_cons.mpr ⟨zM9, List.forall_mem_cons.mpr ⟨zM10, List.forall_mem_cons.mpr ⟨zM11, List.forall_mem_cons.mpr ⟨zM12, List.forall_mem_cons.mpr ⟨zM13, List.forall_mem_cons.mpr ⟨zM14, List.forall_mem_cons.mpr ⟨zM15, List.forall_mem_cons.mpr ⟨zM16, List.forall_mem_cons.mpr ⟨zM17, List.forall_mem_cons.mpr ⟨zM18, List.forall_mem_cons.mpr ⟨zM19, List.forall_mem_cons.mpr ⟨zM20, List.forall_mem_cons.mpr ⟨zM21, List.forall_mem_cons.mpr ⟨zM22, List.forall_mem_cons.mpr ⟨zM23, List.forall_mem_cons.mpr ⟨zM24, List.forall_mem_cons.mpr ⟨zM25, List.forall_mem_cons.mpr ⟨zM26, List.forall_mem_cons.mpr ⟨zM27, List.forall_mem_cons.mpr ⟨zM28, List.forall_mem_cons.mpr ⟨zM29, List.forall_mem_cons.mpr ⟨zM30, List.forall_mem_cons.mpr ⟨zM31, List.forall_mem_cons.mpr ⟨zM32, List.forall_mem_cons.mpr ⟨zM33, List.forall_mem_cons.mpr ⟨zM34, List.forall_mem_cons.mpr ⟨zM35, List.forall_mem_cons.mpr ⟨zM36, List.forall_mem_cons.mpr ⟨zM37, List.forall_mem_cons.mpr ⟨zM38, List.forall_mem_cons.mpr ⟨zM39, fun _ h => absurd h List.not_mem_nil⟩⟩⟩⟩⟩⟩⟩⟩⟩⟩⟩⟩⟩⟩⟩⟩⟩⟩⟩⟩⟩⟩⟩⟩⟩⟩⟩⟩⟩⟩⟩⟩⟩⟩⟩⟩⟩⟩⟩⟩
theorem zMs_1 : ∀ y ∈ [40, 41, 42, 43, 44, 45, 46, 47, 48, 49, 50, 51, 52, 53, 54, 55, 56, 57, 58, 59, 60, 61, 62, 63, 64, 65, 66, 67, 68, 69, 70, 71, 72, 73, 74, 75, 76, 77, 78, 79], zMok y := List.forall_mem_cons.mpr ⟨zM40, List.forall_mem_cons.mpr ⟨zM41, List.forall_mem_cons.mpr ⟨zM42, List.forall_mem_cons.mpr ⟨zM43, List.forall_mem_cons.mpr ⟨zM44, List.forall_mem_cons.mpr ⟨zM45, List.forall_mem_cons.mpr ⟨zM46, List.forall_mem_cons.mpr ⟨zM47, List.forall_mem_cons.mpr ⟨zM48, List.forall_mem_cons.mpr ⟨zM49, List.forall_mem_cons.mpr ⟨zM50, List.forall_mem_cons.mpr ⟨zM51, List.forall_mem_cons.mpr ⟨zM52, List.forall_mem_cons.mpr ⟨zM53, List.forall_mem_cons.mpr ⟨zM54, List.forall_mem_cons.mpr ⟨zM55, List.forall_mem_cons.mpr ⟨zM56, List.forall_mem_cons.mpr ⟨zM57, List.forall_mem_cons.mpr ⟨zM58, List.forall_mem_cons.mpr ⟨zM59, List.forall_mem_cons.mpr ⟨zM60, List.forall_mem_cons.mpr ⟨zM61, List.forall_mem_cons.mpr ⟨zM62, List.forall_mem_cons.mpr ⟨zM63, List.forall_mem_cons.mpr ⟨zM64, List.forall_mem_cons.mpr ⟨zM65, List.forall_mem_cons.mpr ⟨zM66, List.forall_mem_cons.mpr ⟨zM67, List.forall_mem_cons.mpr ⟨zM68, List.forall_mem_cons.mpr ⟨zM69, List.forall_mem_cons.mpr ⟨zM70, List.forall_mem_cons.mpr ⟨zM71, List.forall_mem_cons.mpr ⟨zM72, List.forall_mem_cons.mpr ⟨zM73, List.forall_mem_cons.mpr ⟨zM74, List.forall_mem_cons.mpr ⟨zM75, List.forall_mem_cons.mpr ⟨zM76, List.forall_mem_cons.mpr ⟨zM77, List.forall_mem_cons.mpr ⟨zM78, List.forall_mem_cons.mpr ⟨zM79, fun _ h => absurd h List.not_mem_nil⟩⟩⟩⟩⟩⟩⟩⟩⟩⟩⟩⟩⟩⟩⟩⟩⟩⟩⟩⟩⟩⟩⟩⟩⟩⟩⟩⟩⟩⟩⟩⟩⟩⟩⟩⟩⟩⟩⟩⟩
theorem zMs_2 : ∀ y ∈ [80, 81, 82, 83, 84, 85, 86, 87, 88, 89, 90, 91, 92, 93, 94, 95, 96, 97, 98, 99, 100, 101, 102, 103, 104, 105, 106, 107, 108, 109, 110, 111, 112, 113, 114, 115, 116, 117, 118, 119], zMok y := List.forall_mem_cons.mpr ⟨zM80, List.forall_mem_cons.mpr ⟨zM81, List.forall_mem_cons.mpr ⟨zM82, List.forall_mem_cons.mpr ⟨zM83, List.forall_mem_cons.mpr ⟨zM84, List.forall_mem_cons.mpr ⟨zM85, List.forall_mem_cons.mpr ⟨zM86, List.forall_mem_cons.mpr ⟨zM87, List.forall_mem_cons.mpr ⟨zM88, List.forall_mem_cons.mpr ⟨zM89, List.forall_mem_cons.mpr ⟨zM90, List.forall_mem_cons.mpr ⟨zM91, List.forall_mem_cons.mpr ⟨zM92, List.forall_mem_cons.mpr ⟨zM93, List.forall_mem_cons.mpr ⟨zM94, List.forall_mem_cons.mpr ⟨zM95, List.forall_mem_cons.mpr ⟨zM96, List.forall_mem_cons.mpr ⟨zM97, List.forall_mem_cons.mpr ⟨zM98, List.forall_mem_cons.mpr ⟨zM99, List.forall_mem_cons.mpr ⟨zM100, List.forall_mem_cons.mpr ⟨zM101, List.forall_mem_cons.mpr ⟨zM102, List.forall_mem_cons.mpr ⟨zM103, List.forall_mem_cons.mpr ⟨zM104, List.forall_mem_cons.mpr ⟨zM105, List.forall_mem_cons.mpr ⟨zM106, List.forall_mem_cons.mpr ⟨zM107, List.forall_mem_cons.mpr ⟨zM108, List.forall_mem_cons.mpr ⟨zM109, List.forall_mem_cons.mpr ⟨zM110, List.forall_mem_cons.mpr ⟨zM111, List.forall_mem_cons.mpr ⟨zM112, List.forall_mem_cons.mpr ⟨zM113, List.forall_mem_cons.mpr ⟨zM114, List.forall_mem_cons.mpr ⟨zM115, List.forall_mem_cons.mpr ⟨zM116, List.forall_mem_cons.mpr ⟨zM117, List.forall_mem_cons.mpr ⟨zM118, List.forall_mem_cons.mpr ⟨zM119, fun _ h => absurd h List.not_mem_nil⟩⟩⟩⟩⟩⟩⟩⟩⟩⟩⟩⟩⟩⟩⟩⟩⟩⟩⟩⟩⟩⟩⟩⟩⟩⟩⟩⟩⟩⟩⟩⟩⟩⟩⟩⟩⟩⟩⟩⟩
theorem zMs_3 : ∀ y ∈ [120, 121, 122, 123, 124, 125, 126, 127, 128, 129, 130, 131, 132, 133, 134, 135, 136, 137, 138, 139, 140, 141, 142, 143, 144, 145, 146, 147, 148, 149, 150, 151, 152, 153, 154, 155, 156, 157, 158, 159], zMok y := List.forall_mem_cons.mpr ⟨zM120, List.forall_mem_cons.mpr ⟨zM121, List.forall_mem_cons.mpr ⟨zM122, List.forall_mem_cons.mpr ⟨zM123, List.forall_mem_cons.mpr ⟨zM124, List.forall_mem_cons.mpr ⟨zM125, List.forall_mem_cons.mpr ⟨zM126, List.forall_mem_cons.mpr ⟨zM127, List.forall_mem_cons.mpr ⟨zM128, List.forall_mem_cons.mpr ⟨zM129, List.forall_mem_cons.mpr ⟨zM130, List.forall_mem_cons.mpr ⟨zM131, List.forall_mem_cons.mpr ⟨zM132, List.forall_mem_cons.mpr ⟨zM133, List.forall_mem_cons.mpr ⟨zM134, List.forall_mem_cons.mpr ⟨zM135, List.forall_mem_cons.mpr ⟨zM136, List.forall_mem_cons.mpr ⟨zM137, List.forall_mem_cons.mpr ⟨zM138, List.forall_mem_cons.mpr ⟨zM139, List.forall_mem_cons.mpr ⟨zM140, List.forall_mem_cons.mpr ⟨zM141, List.forall_mem_cons.mpr ⟨zM142, List.forall_mem_cons.mpr ⟨zM143, List.forall_mem_cons.mpr ⟨zM144, List.forall_mem_cons.mpr ⟨zM145, List.forall_mem_cons.mpr ⟨zM146, List.forall_mem_cons.mpr ⟨zM147, List.forall_mem_cons.mpr ⟨zM148, List.forall_mem_cons.mpr ⟨zM149, List.forall_mem_cons.mpr ⟨zM150, List.forall_mem_cons.mpr ⟨zM151, List.forall_mem_cons.mpr ⟨zM152, List.forall_mem_cons.mpr ⟨zM153, List.forall_mem_cons.mpr ⟨zM154, List.forall_mem_cons.mpr ⟨zM155, List.forall_mem_cons.mpr ⟨zM156, List.forall_mem_cons.mpr ⟨zM157, List.forall_mem_cons.mpr ⟨zM158, List.forall_mem_cons.mpr ⟨zM159, fun _ h => absurd h List.not_mem_nil⟩⟩⟩⟩⟩⟩⟩⟩⟩⟩⟩⟩⟩⟩⟩⟩⟩⟩⟩⟩⟩⟩⟩⟩⟩⟩⟩⟩⟩⟩⟩⟩⟩⟩⟩⟩⟩⟩⟩⟩
theorem zMs_4 : ∀ y ∈ [160, 161, 162, 163, 164, 165, 166, 167, 168, 169, 170, 171, 172, 173, 174, 175, 176, 177, 178, 179, 180, 181, 182, 183, 184, 185, 186, 187, 188, 189, 190, 191, 192, 193, 194, 195, 196, 197, 198, 199], zMok y := List.forall_mem_cons.mpr ⟨zM160, List.forall_mem_cons.mpr ⟨zM161, List.forall_mem_cons.mpr ⟨zM162, List.forall_mem_cons.mpr ⟨zM163, List.forall_mem_cons.mpr ⟨zM164, List.forall_mem_cons.mpr ⟨zM165, List.forall_mem_cons.mpr ⟨zM166, List.forall_mem_cons.mpr ⟨zM167, List.forall_mem_cons.mpr ⟨zM168, List.forall_mem_cons.mpr ⟨zM169, List.forall_mem_cons.mpr ⟨zM170, List.forall_mem_cons.mpr ⟨zM171, List.forall_mem_cons.mpr ⟨zM172, List.forall_mem_cons.mpr ⟨zM173, List.forall_mem_cons.mpr ⟨zM174, List.forall_mem_cons.mpr ⟨zM175, List.forall_mem_cons.mpr ⟨zM176, List.forall_mem_cons.mpr ⟨zM177, List.forall_mem_cons.mpr ⟨zM178, List.forall_mem_cons.mpr ⟨zM179, List.forall_mem_cons.mpr ⟨zM180, List.forall_mem_cons.mpr ⟨zM181, List.forall_mem_cons.mpr ⟨zM182, List.forall_mem_cons.mpr ⟨zM183, List.forall_mem_cons.mpr ⟨zM184, List.forall_mem_cons.mpr ⟨zM185, List.forall_mem_cons.mpr ⟨zM186, List.forall_mem_cons.mpr ⟨zM187, List.forall_mem_cons.mpr ⟨zM188, List.forall_mem_cons.mpr ⟨zM189, List.forall_mem_cons.mpr ⟨zM190, List.forall_mem_cons.mpr ⟨zM191, List.forall_mem_cons.mpr ⟨zM192, List.forall_mem_cons.mpr ⟨zM193, List.forall_mem_cons.mpr ⟨zM194, List.forall_mem_cons.mpr ⟨zM195, List.forall_mem_cons.mpr ⟨zM196, List.forall_mem_cons.mpr ⟨zM197, List.forall_mem_cons.mpr ⟨zM198, List.forall_mem_cons.mpr ⟨zM199, fun _ h => absurd h List.not_mem_nil⟩⟩⟩⟩⟩⟩⟩⟩⟩⟩⟩⟩⟩⟩⟩⟩⟩⟩⟩⟩⟩⟩⟩⟩⟩⟩⟩⟩⟩⟩⟩⟩⟩⟩⟩⟩⟩⟩⟩⟩
theorem zMs_5 : ∀ y ∈ [200, 201, 202, 203, 204, 205, 206, 207, 208, 209, 210, 211, 212, 213, 215, 216, 217, 218, 219, 220, 221, 222, 223, 224, 225, 226, 227, 228, 229, 230, 231, 232, 233, 234, 235, 236, 237, 238, 239, 240], zMok y := List.forall_mem_cons.mpr ⟨zM200, List.forall_mem_cons.mpr ⟨zM201, List.forall_mem_cons.mpr ⟨zM202, List.forall_mem_cons.mpr ⟨zM203, List.forall_mem_cons.mpr ⟨zM204, List.forall_mem_cons.mpr ⟨zM205, List.forall_mem_cons.mpr ⟨zM206, List.forall_mem_cons.mpr ⟨zM207, List.forall_mem_cons.mpr ⟨zM208, List.forall_mem_cons.mpr ⟨zM209, List.forall_mem_cons.mpr ⟨zM210, List.forall_mem_cons.mpr ⟨zM211, List.forall_mem_cons.mpr ⟨zM212, List.forall_mem_cons.mpr ⟨zM213, List.forall_mem_cons.mpr ⟨zM215, List.forall_mem_cons.mpr ⟨zM216, List.forall_mem_cons.mpr ⟨zM217, List.forall_mem_cons.mpr ⟨zM218, List.forall_mem_cons.mpr ⟨zM219, List.forall_mem_cons.mpr ⟨zM220, List.forall_mem_cons.mpr ⟨zM221, List.forall_mem_cons.mpr ⟨zM222, List.forall_mem_cons.mpr ⟨zM223, List.forall_mem_cons.mpr ⟨zM224, List.forall_mem_cons.mpr ⟨zM225, List.forall_mem_cons.mpr ⟨zM226, List.forall_mem_cons.mpr ⟨zM227, List.forall_mem_cons.mpr ⟨zM228, List.forall_mem_cons.mpr ⟨zM229, List.forall_mem_cons.mpr ⟨zM230, List.forall_mem_cons.mpr ⟨zM231, List.forall_mem_cons.mpr ⟨zM232, List.forall_mem_cons.mpr ⟨zM233, List.forall_mem_cons.mpr ⟨zM234, List.forall_mem_cons.mpr ⟨zM235, List.forall_mem_cons.mpr ⟨zM236, List.forall_mem_cons.mpr ⟨zM237, List.forall_mem_cons.mpr ⟨zM238, List.forall_mem_cons.mpr ⟨zM239, List.forall_mem_cons.mpr ⟨zM240, fun _ h => absurd h List.not_mem_nil⟩⟩⟩⟩⟩⟩⟩⟩⟩⟩⟩⟩⟩⟩⟩⟩⟩⟩⟩⟩⟩⟩⟩⟩⟩⟩⟩⟩⟩⟩⟩⟩⟩⟩⟩⟩⟩⟩⟩⟩
theorem zMs_6 : ∀ y ∈ [241, 242, 243, 244, 245, 246, 247, 248, 249], zMok y := List.forall_mem_cons.mpr ⟨zM241, List.forall_mem_cons.mpr ⟨zM242, List.forall_mem_cons.mpr ⟨zM243, List.forall_mem_cons.mpr ⟨zM244, List.forall_mem_cons.mpr ⟨zM245, List.forall_mem_cons.mpr ⟨zM246, List.forall_mem_cons.mpr ⟨zM247, List.forall_mem_cons.mpr ⟨zM248, List.forall_mem_cons.mpr ⟨zM249, fun _ h => absurd h List.not_mem_nil⟩⟩⟩⟩⟩⟩⟩⟩⟩
theorem zM_ok : ∀ y, y < 250 → y ≠ 214 → zMok y := by
  intro y h1 h2
  have h : y ∈ [0, 1, 2, 3, 4, 5, 6, 7, 8, 9, 10, 11, 12, 13, 14, 15, 16, 17, 18, 19, 20, 21, 22, 23, 24, 25, 26, 27, 28, 29, 30, 31, 32, 33, 34, 35, 36, 37, 38, 39] ++ [40, 41, 42, 43, 44, 45, 46, 47, 48, 49, 50, 51, 52, 53, 54, 55, 56, 57, 58, 59, 60, 61, 62, 63, 64, 65, 66, 67, 68, 69, 70, 71, 72, 73, 74, 75, 76, 77, 78, 79] ++ [80, 81, 82, 83, 84, 85, 86, 87, 88, 89, 90, 91, 92, 93, 94, 95, 96, 97, 98, 99, 100, 101, 102, 103, 104, 105, 106, 107, 108, 109, 110, 111, 112, 113, 114, 115, 116, 117, 118, 119] ++ [120, 121, 122, 123, 124, 125, 126, 127, 128, 129, 130, 131, 132, 133, 134, 135, 136, 137, 138, 139, 140, 141, 142, 143, 144, 145, 146, 147, 148, 149, 150, 151, 152, 153, 154, 155, 156, 157, 158, 159] ++ [160, 161, 162, 163, 164, 165, 166, 167, 168, 169, 170, 171, 172, 173, 174, 175, 176, 177, 178, 179, 180, 181, 182, 183, 184, 185, 186, 187, 188, 189, 190, 191, 192, 193, 194, 195, 196, 197, 198, 199] ++ [200, 201, 202, 203, 204, 205, 206, 207, 208, 209, 210, 211, 212, 213, 215, 216, 217, 218, 219, 220, 221, 222, 223, 224, 225, 226, 227, 228, 229, 230, 231, 232, 233, 234, 235, 236, 237, 238, 239, 240] ++ [241, 242, 243, 244, 245, 246, 247, 248, 249] := by
    have e : (List.range 250).all (fun y => decide (y = 214) || decide (y ∈ ([0, 1, 2, 3, 4, 5, 6, 7, 8, 9, 10, 11, 12, 13, 14, 15, 16, 17, 18, 19, 20, 21, 22, 23, 24, 25, 26, 27, 28, 29, 30, 31, 32, 33, 34, 35, 36, 37, 38, 39] : List Nat) ++ ([40, 41, 42, 43, 44, 45, 46, 47, 48, 49, 50, 51, 52, 53, 54, 55, 56, 57, 58, 59, 60, 61, 62, 63, 64, 65, 66, 67, 68, 69, 70, 71, 72, 73, 74, 75, 76, 77, 78, 79] : List Nat) ++ ([80, 81, 82, 83, 84, 85, 86, 87, 88, 89, 90, 91, 92, 93, 94, 95, 96, 97, 98, 99, 100, 101, 102, 103, 104, 105, 106, 107, 108, 109, 110, 111, 112, 113, 114, 115, 116, 117, 118, 119] : List Nat) ++ ([120, 121, 122, 123, 124, 125, 126, 127, 128, 129, 130, 131, 132, 133, 134, 135, 136, 137, 138, 139, 140, 141, 142, 143, 144, 145, 146, 147, 148, 149, 150, 151, 152, 153, 154, 155, 156, 157, 158, 159] : List Nat) ++ ([160, 161, 162, 163, 164, 165, 166, 167, 168, 169, 170, 171, 172, 173, 174, 175, 176, 177, 178, 179, 180, 181, 182, 183, 184, 185, 186, 187, 188, 189, 190, 191, 192, 193, 194, 195, 196, 197, 198, 199] : List Nat) ++ ([200, 201, 202, 203, 204, 205, 206, 207, 208, 209, 210, 211, 212, 213, 215, 216, 217, 218, 219, 220, 221, 222, 223, 224, 225, 226, 227, 228, 229, 230, 231, 232, 233, 234, 235, 236, 237, 238, 239, 240] : List Nat) ++ ([241, 242, 243, 244, 245, 246, 247, 248, 249] : List Nat))) = true := by decide +kernel
    have h3 := List.all_eq_true.mp e y (List.mem_range.mpr h1)
    rw [Bool.or_eq_true, decide_eq_true_eq, decide_eq_true_eq] at h3
    exact h3.resolve_left h2
  exact (List.forall_mem_append.mpr ⟨List.forall_mem_append.mpr ⟨List.forall_mem_append.mpr ⟨List.forall_mem_append.mpr ⟨List.forall_mem_append.mpr ⟨List.forall_mem_append.mpr ⟨zMs_0, zMs_1⟩, zMs_2⟩, zMs_3⟩, zMs_4⟩, zMs_5⟩, zMs_6⟩) y h
end
section
/-! The abstract machine: cells are (tag, values); a tag below 100 is a class by its place among zcl, 100 int[], 101 boolean[], 102 byte[], 103 Object[], 104 int[][]; a reference is a cell's place; retAddr 0 the script, retAddr 1 ArrayList's empty row, retAddr 2 the Class object of Object[]. -/
abbrev zH : Type := List (Nat × List Value)
abbrev zL : Type := List (Option Value)
/-- what a step does: go on (pc, locals, stack, heap, new cells, new slots); or call (method, arguments with the receiver first, rest of the stack, pc behind); or end (return a value, or throw class E, heap, new cells, new slots) -/
abbrev zA : Type := (Nat × zL × List Value × zH × Nat × Nat) ⊕ ((Nat × List Value × List Value × Nat) ⊕ ((Option Value ⊕ Nat) × Nat × Nat))
abbrev zRow : Type := Nat × Instr × Nat × Nat × Nat × Nat × Nat
def zgo (pc : Nat) (L : zL) (st : List Value) (h : zH) : Option zA := some (.inl (pc, L, st, h, 0, 0))
def zldI (L : zL) (i nx : Nat) (st : List Value) (h : zH) : Option zA := match L[i]? with
  | some (some (.int x)) => zgo nx L (.int x :: st) h
  | _ => none
def zldL (L : zL) (i nx : Nat) (st : List Value) (h : zH) : Option zA := match L[i]? with
  | some (some (.long x)) => zgo nx L (.long x :: st) h
  | _ => none
def zldD (L : zL) (i nx : Nat) (st : List Value) (h : zH) : Option zA := match L[i]? with
  | some (some (.double x)) => zgo nx L (.double x :: st) h
  | _ => none
def zldA (L : zL) (i nx : Nat) (st : List Value) (h : zH) : Option zA := match L[i]? with
  | some (some (.ref x)) => zgo nx L (.ref x :: st) h
  | some (some (.retAddr x)) => zgo nx L (.retAddr x :: st) h
  | some (some .null) => zgo nx L (.null :: st) h
  | _ => none
/-- what stands ahead of a local that is stored: a value of two slots goes -/
def zk (a : Option Value) : Option Value := match a with
  | some (.long _) => none
  | some (.double _) => none
  | x => x
def zst1 (v : Value) : Nat → zL → Option zL
  | 0, _ :: l => some (some v :: l)
  | 1, a :: _ :: l => some (zk a :: some v :: l)
  | i + 2, a :: l => match zst1 v (i + 1) l with
    | some l' => some (a :: l')
    | none => none
  | _, _ => none
def zst2 (v : Value) : Nat → zL → Option zL
  | 0, _ :: _ :: l => some (some v :: none :: l)
  | 1, a :: _ :: _ :: l => some (zk a :: some v :: none :: l)
  | i + 2, a :: l => match zst2 v (i + 1) l with
    | some l' => some (a :: l')
    | none => none
  | _, _ => none
def zsv1 (L : zL) (i nx : Nat) (v : Value) (st : List Value) (h : zH) : Option zA := match zst1 v i L with
  | some L' => zgo nx L' st h
  | none => none
def zsv2 (L : zL) (i nx : Nat) (v : Value) (st : List Value) (h : zH) : Option zA := match zst2 v i L with
  | some L' => zgo nx L' st h
  | none => none
def zsI (L : zL) (i nx : Nat) (st : List Value) (h : zH) : Option zA := match st with
  | .int x :: r => zsv1 L i nx (.int x) r h
  | _ => none
def zsA (L : zL) (i nx : Nat) (st : List Value) (h : zH) : Option zA := match st with
  | .ref x :: r => zsv1 L i nx (.ref x) r h
  | .retAddr x :: r => zsv1 L i nx (.retAddr x) r h
  | _ => none
def zsL (L : zL) (i nx : Nat) (st : List Value) (h : zH) : Option zA := match st with
  | .long x :: r => zsv2 L i nx (.long x) r h
  | _ => none
def zsD (L : zL) (i nx : Nat) (st : List Value) (h : zH) : Option zA := match st with
  | .double x :: r => zsv2 L i nx (.double x) r h
  | _ => none
def zinc (L : zL) (i : Nat) (n : Int) (nx : Nat) (st : List Value) (h : zH) : Option zA := match L[i]? with
  | some (some (.int x)) => zsv1 L i nx (.int (x + Int32.ofInt n)) st h
  | _ => none
def zpu (L : zL) (v : Value) (nx : Nat) (st : List Value) (h : zH) : Option zA := zgo nx L (v :: st) h
def zbin (f : Int32 → Int32 → Int32) (nx : Nat) (L : zL) (st : List Value) (h : zH) : Option zA := match st with
  | .int y :: .int x :: r => zgo nx L (.int (f x y) :: r) h
  | _ => none
def zdiv (f : Int32 → Int32 → Int32) (nx : Nat) (L : zL) (st : List Value) (h : zH) : Option zA := match st with
  | .int y :: .int x :: r => if y = 0 then none else zgo nx L (.int (f x y) :: r) h
  | _ => none
def zun (f : Int32 → Value) (nx : Nat) (L : zL) (st : List Value) (h : zH) : Option zA := match st with
  | .int x :: r => zgo nx L (f x :: r) h
  | _ => none
def zbinL (f : Int64 → Int64 → Int64) (nx : Nat) (L : zL) (st : List Value) (h : zH) : Option zA := match st with
  | .long y :: .long x :: r => zgo nx L (.long (f x y) :: r) h
  | _ => none
def zlc (nx : Nat) (L : zL) (st : List Value) (h : zH) : Option zA := match st with
  | .long y :: .long x :: r => zgo nx L (.int (lg_cmp x y) :: r) h
  | _ => none
def zbinD (f : UInt64 → UInt64 → UInt64) (nx : Nat) (L : zL) (st : List Value) (h : zH) : Option zA := match st with
  | .double y :: .double x :: r => if (f x y) &&& 0x7fffffffffffffff ≤ 0x7ff0000000000000 then zgo nx L (.double (f x y) :: r) h else none
  | _ => none
def zd2l (nx : Nat) (L : zL) (st : List Value) (h : zH) : Option zA := match st with
  | .double x :: r => zgo nx L (.long (FP.d2l x) :: r) h
  | _ => none
def zcat (v : Value) : Bool := match v with
  | .long _ => true
  | .double _ => true
  | _ => false
def zdup (nx : Nat) (L : zL) (st : List Value) (h : zH) : Option zA := match st with
  | v :: r => if zcat v then none else zgo nx L (v :: v :: r) h
  | _ => none
def zpop (nx : Nat) (L : zL) (st : List Value) (h : zH) : Option zA := match st with
  | v :: r => if zcat v then none else zgo nx L r h
  | _ => none
def zpop2 (nx : Nat) (L : zL) (st : List Value) (h : zH) : Option zA := match st with
  | v :: r => if zcat v then zgo nx L r h else none
  | _ => none
def zdupx1 (nx : Nat) (L : zL) (st : List Value) (h : zH) : Option zA := match st with
  | v :: w :: r => if zcat v || zcat w then none else zgo nx L (v :: w :: v :: r) h
  | _ => none
def zdup2 (nx : Nat) (L : zL) (st : List Value) (h : zH) : Option zA := match st with
  | v :: w :: r => if zcat v || zcat w then none else zgo nx L (v :: w :: v :: w :: r) h
  | _ => none
/-- a branch on x, y -/
def zbr (c : ClassFile.Cond) (x y : Int32) (tg nx : Nat) (L : zL) (r : List Value) (h : zH) : Option zA := match c with
  | .eq => if x = y then zgo tg L r h else zgo nx L r h
  | .ne => if x = y then zgo nx L r h else zgo tg L r h
  | .lt => if x < y then zgo tg L r h else zgo nx L r h
  | .ge => if y ≤ x then zgo tg L r h else zgo nx L r h
  | .gt => if y < x then zgo tg L r h else zgo nx L r h
  | .le => if x ≤ y then zgo tg L r h else zgo nx L r h
def zif (c : ClassFile.Cond) (tg nx : Nat) (L : zL) (st : List Value) (h : zH) : Option zA := match st with
  | .int x :: r => zbr c x 0 tg nx L r h
  | _ => none
def zicmp (c : ClassFile.Cond) (tg nx : Nat) (L : zL) (st : List Value) (h : zH) : Option zA := match st with
  | .int y :: .int x :: r => zbr c x y tg nx L r h
  | _ => none
def zoff (pc : Nat) (o : Int) (L : zL) (r : List Value) (h : zH) : Option zA := match (pc : Int) + o with
  | .ofNat t => zgo t L r h
  | .negSucc _ => none
def ztab (pc : Nat) (d lo hi : Int) (offs : Array Int) (L : zL) (st : List Value) (h : zH) : Option zA := match st with
  | .int x :: r => if x.toInt < lo ∨ hi < x.toInt then zoff pc d L r h else match offs[(x.toInt - lo).toNat]? with
    | some o => zoff pc o L r h
    | none => none
  | _ => none
def zlook (pc : Nat) (d : Int) (ps : Array (Int × Int)) (L : zL) (st : List Value) (h : zH) : Option zA := match st with
  | .int x :: r => zoff pc (Op.lookupswitch.offset ps.toList d x.toInt) L r h
  | _ => none
/-- a place in a row -/
def zix (i : Int32) : Option Nat := if i < 0 then none else some i.toNatClampNeg
def zald (t : Nat) (nx : Nat) (L : zL) (st : List Value) (h : zH) : Option zA := match st with
  | .int i :: .ref a :: r => match h[a]? with
    | some (t', vs) => if t' = t then match vs[i.toNatClampNeg]? with
      | some (.int x) => if i < 0 then none else zgo nx L (.int x :: r) h
      | _ => none else none
    | none => none
  | _ => none
def zast (t : Nat) (g : Int32 → Option Int32) (nx : Nat) (L : zL) (st : List Value) (h : zH) : Option zA := match st with
  | .int x :: .int i :: .ref a :: r => match h[a]? with
    | some (t', vs) => if t' = t then if i < 0 then none else if i.toNatClampNeg < vs.length then match g x with
      | some y => zgo nx L r (h.set a (t, vs.set i.toNatClampNeg (.int y)))
      | none => none else none else none
    | none => none
  | _ => none
/-- the script, or a row of ints -/
def zialoadX (xs : List Int32) (nx : Nat) (L : zL) (st : List Value) (h : zH) : Option zA := match st with
  | .int i :: .retAddr 0 :: r => if i < 0 then none else match xs[i.toNatClampNeg]? with
    | some x => zgo nx L (.int x :: r) h
    | none => none
  | _ => zald 100 nx L st h
def zalen (xs : List Int32) (nx : Nat) (L : zL) (st : List Value) (h : zH) : Option zA := match st with
  | .ref a :: r => match h[a]? with
    | some (t, vs) => if 100 ≤ t then zgo nx L (.int (Int32.ofNat vs.length) :: r) h else none
    | none => none
  | .retAddr 0 :: r => zgo nx L (.int (Int32.ofNat xs.length) :: r) h
  | .retAddr 1 :: r => zgo nx L (.int 0 :: r) h
  | _ => none
/-- a row of references (103 Object[], 104 int[][]) -/
def zaald (nx : Nat) (L : zL) (st : List Value) (h : zH) : Option zA := match st with
  | .int i :: .ref a :: r => match h[a]? with
    | some (t, vs) => if t = 103 ∨ t = 104 then match vs[i.toNatClampNeg]? with
      | some v => if i < 0 then none else zgo nx L (v :: r) h
      | none => none else none
    | none => none
  | _ => none
def zaast (nx : Nat) (L : zL) (st : List Value) (h : zH) : Option zA := match st with
  | .ref x :: .int i :: .ref a :: r => match h[a]?, h[x]? with
    | some (t, vs), some (t', _) => if t = 103 ∧ t' = 100 then if i < 0 then none else if i.toNatClampNeg < vs.length then zgo nx L r (h.set a (103, vs.set i.toNatClampNeg (.ref x))) else none else none
    | _, _ => none
  | _ => none
def ztag (a : ArrayType) : Nat := match a with
  | .int => 100
  | _ => 99
def znewa (t : Nat) (v : Value) (nx : Nat) (L : zL) (st : List Value) (h : zH) : Option zA := match st with
  | .int n :: r => if n < 0 then none else if n.toNatClampNeg ≤ 100000 then if t = 99 then none else
      some (.inl (nx, L, .ref h.length :: r, h ++ [(t, List.replicate n.toNatClampNeg v)], 1, n.toNatClampNeg)) else none
  | _ => none
/-- int[n][k] -/
def zmulti (nx : Nat) (L : zL) (st : List Value) (h : zH) : Option zA := match st with
  | .int k :: .int n :: r => if k = 8 ∧ n = 20 then
      some (.inl (nx, L, .ref h.length :: r, h ++ (104, (List.range 20).map (fun j => .ref (h.length + 1 + j))) :: List.replicate 20 (100, List.replicate 8 (.int 0)), 21, 180)) else none
  | _ => none
/-- fields: by id the declaring class, name, descriptor, whether final; of a class (by tag) its fields' ids and kinds (0 int, 1 boolean, 2 byte, 3 long, 4 double, 5 a reference) -/
def zfdk (k : Nat) (v : Value) : Bool := match k, v with
  | 0, .int _ => true
  | 1, .int x => decide (x = 0 ∨ x = 1)
  | 2, .int x => decide (-128 ≤ x ∧ x ≤ 127)
  | 3, .long _ => true
  | 4, .double _ => true
  | 5, .ref _ => true
  | 5, .null => true
  | 5, .retAddr 1 => true
  | _, _ => false
/-- f: the field's id; k its place; cf: the fields' ids and kinds of each class -/
def zget (cf : Nat → List (Nat × Nat)) (f k nx : Nat) (L : zL) (st : List Value) (h : zH) : Option zA := match st with
  | .ref a :: r => match h[a]? with
    | some (c, vs) => match (cf c)[k]? with
      | some (f', _) => if f' = f then match vs[k]? with
        | some v => zgo nx L (v :: r) h
        | none => none else none
      | none => none
    | none => none
  | _ => none
def zput (cf : Nat → List (Nat × Nat)) (f k nx : Nat) (L : zL) (st : List Value) (h : zH) : Option zA := match st with
  | v :: .ref a :: r => match h[a]? with
    | some (c, vs) => match (cf c)[k]? with
      | some (f', kd) => if f' = f then if zfdk kd v = true then if k < vs.length then zgo nx L r (h.set a (c, vs.set k v)) else none else none else none
      | none => none
    | none => none
  | _ => none
def znew (cf : Nat → List (Nat × Nat)) (c nx : Nat) (L : zL) (st : List Value) (h : zH) : Option zA :=
  some (.inl (nx, L, .ref h.length :: st, h ++ [(c, (cf c).map (fun q => zdf q.2))], 1, (cf c).length))
def ztk : Nat → List Value → List Value → Option (List Value × List Value)
  | 0, acc, r => some (acc, r)
  | n + 1, acc, v :: r => ztk n (v :: acc) r
  | _, _, [] => none
def zcs : List Value → Nat
  | [] => 0
  | v :: r => (if zcat v then 2 else 1) + zcs r
def zmm (f : Int32 → Int32 → Int32) (nx : Nat) (L : zL) (st : List Value) (h : zH) : Option zA := match st with
  | .int y :: .int x :: r => if zcs r ≤ 8 then zgo nx L (.int (f x y) :: r) h else none
  | _ => none
def zoi (nx : Nat) (L : zL) (st : List Value) (h : zH) : Option zA := match st with
  | .ref _ :: r => if zcs r ≤ 8 then zgo nx L r h else none
  | _ => none
def zcall (n y nx : Nat) (st : List Value) : Option zA := match ztk n [] st with
  | some (as, r) => if zcs r ≤ 8 then some (.inr (.inl (y, as, r, nx))) else none
  | none => none
/-- a call on an object of the class of tag c -/
def zcallV (n c y nx : Nat) (st : List Value) (h : zH) : Option zA := match ztk (n + 1) [] st with
  | some (as, r) => match as with
    | .ref a :: as' => match h[a]? with
      | some (c', _) => if c' = c then if zcs r ≤ 8 then some (.inr (.inl (y, .ref a :: as', r, nx))) else none else none
      | none => none
    | _ => none
  | none => none
def zcallI (n y nx : Nat) (st : List Value) : Option zA := match ztk (n + 1) [] st with
  | some (as, r) => match as with
    | .ref a :: as' => if zcs r ≤ 8 then some (.inr (.inl (y, .ref a :: as', r, nx))) else none
    | _ => none
  | none => none
def zret (v : Option Value) : Option zA := some (.inr (.inr (.inl v, 0, 0)))
/-- an element that a row of references may take: a row of ints, or none -/
def zelt (h : zH) (v : Value) : Bool := match v with
  | .ref k => (match h[k]? with
    | some (t, _) => decide (t = 100)
    | none => false)
  | .null => true
  | _ => false
def zbyt (v : Value) : Bool := match v with
  | .int x => decide (-128 ≤ x ∧ x ≤ 127)
  | _ => false
def zcopy (nx : Nat) (L : zL) (st : List Value) (h : zH) : Option zA := match st with
  | .int n :: .int dp :: .ref d :: .int sp :: .ref a :: r => match h[a]?, h[d]? with
    | some (t, vs), some (t', ws) => if t = t' ∧ ((t = 102 ∧ (vs.take n.toNatClampNeg).all zbyt = true) ∨ (t = 103 ∧ (vs.take n.toNatClampNeg).all (zelt h) = true)) ∧ zcs r ≤ 8 ∧ ¬ n < 0 ∧ dp = 0 ∧ sp = 0 ∧ n.toNatClampNeg ≤ vs.length ∧ n.toNatClampNeg ≤ ws.length then
        zgo nx L r (h.set d (t, vs.take n.toNatClampNeg ++ ws.drop n.toNatClampNeg)) else none
    | _, _ => none
  | _ => none
def zchk (k nx : Nat) (L : zL) (st : List Value) (h : zH) : Option zA := match st with
  | .ref a :: r => match h[a]? with
    | some (t, _) => if t = k then zgo nx L (.ref a :: r) h else none
    | none => none
  | _ => none
def zacmp (c : ACond) (tg nx : Nat) (L : zL) (st : List Value) (h : zH) : Option zA := match st with
  | .retAddr b :: .retAddr a :: r => if a = b then (match c with
    | .eq => zgo tg L r h
    | .ne => zgo nx L r h) else none
  | _ => none
def zgetc (nx : Nat) (L : zL) (st : List Value) (h : zH) : Option zA := match st with
  | .ref a :: r => match h[a]? with
    | some (t, _) => if t = 103 ∧ zcs r ≤ 8 then zgo nx L (.retAddr 2 :: r) h else none
    | none => none
  | _ => none
/-- k, y, n, c: what the row's link was resolved to -/
def zstep (cf : Nat → List (Nat × Nat)) (xs : List Int32) (pc : Nat) (i : Instr) (nx k y n c : Nat) (L : zL) (st : List Value) (h : zH) : Option zA := match i with
  | .iload j => zldI L j nx st h
  | .iload_n j => zldI L j nx st h
  | .lload j => zldL L j nx st h
  | .lload_n j => zldL L j nx st h
  | .dload j => zldD L j nx st h
  | .aload j => zldA L j nx st h
  | .aload_n j => zldA L j nx st h
  | .istore j => zsI L j nx st h
  | .istore_n j => zsI L j nx st h
  | .astore j => zsA L j nx st h
  | .astore_n j => zsA L j nx st h
  | .lstore j => zsL L j nx st h
  | .lstore_n j => zsL L j nx st h
  | .dstore j => zsD L j nx st h
  | .iinc j z => zinc L j z nx st h
  | .iconst z => zpu L (.int (Int32.ofInt z)) nx st h
  | .bipush z => zpu L (.int (Int8.ofInt z).toInt32) nx st h
  | .sipush z => zpu L (.int (Int16.ofInt z).toInt32) nx st h
  | .lconst z => zpu L (.long (Int64.ofNat z)) nx st h
  | .aconst_null => zpu L .null nx st h
  | .ldc _ => if k = 0 then zpu L (.int (Int32.ofNat y)) nx st h else if k = 2 then zpu L (.retAddr 2) nx st h else if k = 3 then zpu L (.retAddr 3) nx st h else none
  | .getstatic _ => if k = 0 then zpu L (.int 1) nx st h else if k = 1 then zpu L (.retAddr 1) nx st h else none
  | .checkcast _ => zchk k nx L st h
  | .if_acmp q _ => zacmp q k nx L st h
  | .ldc_w _ => if k = 0 then zpu L (.int (Int32.ofNat y)) nx st h else none
  | .ldc2_w _ => if k = 0 then zpu L (.long (Int64.ofNat y)) nx st h else if k = 1 then zpu L (.double (UInt64.ofNat y)) nx st h else none
  | .iadd => zbin (fun x y => x + y) nx L st h
  | .isub => zbin (fun x y => x - y) nx L st h
  | .imul => zbin (fun x y => x * y) nx L st h
  | .iand => zbin (fun x y => x &&& y) nx L st h
  | .ior => zbin (fun x y => x ||| y) nx L st h
  | .ixor => zbin (fun x y => x ^^^ y) nx L st h
  | .ishl => zbin (fun x y => x <<< (y &&& 31)) nx L st h
  | .ishr => zbin (fun x y => x >>> (y &&& 31)) nx L st h
  | .iushr => zbin (fun x y => (x.toUInt32 >>> (y.toUInt32 &&& Int32.toUInt32 31)).toInt32) nx L st h
  | .idiv => zdiv (fun x y => x / y) nx L st h
  | .irem => zdiv (fun x y => x - x / y * y) nx L st h
  | .ineg => zun (fun x => .int (-x)) nx L st h
  | .i2l => zun (fun x => .long x.toInt64) nx L st h
  | .i2b => zun (fun x => .int x.toInt8.toInt32) nx L st h
  | .i2c => zun (fun x => .int (x.toUInt32 % 65536).toInt32) nx L st h
  | .i2d => zun (fun x => .double (FP.i2d x)) nx L st h
  | .ladd => zbinL (fun x y => x + y) nx L st h
  | .lmul => zbinL (fun x y => x * y) nx L st h
  | .lcmp => zlc nx L st h
  | .ddiv => zbinD FP.ddiv nx L st h
  | .dmul => zbinD FP.dmul nx L st h
  | .d2l => zd2l nx L st h
  | .dup => zdup nx L st h
  | .pop => zpop nx L st h
  | .pop2 => zpop2 nx L st h
  | .dup_x1 => zdupx1 nx L st h
  | .dup2 => zdup2 nx L st h
  | .ifCond q _ => zif q k nx L st h
  | .if_icmp q _ => zicmp q k nx L st h
  | .goto _ => zgo k L st h
  | .tableswitch d lo hi os => ztab pc d lo hi os L st h
  | .lookupswitch d ps => zlook pc d ps L st h
  | .iaload => zialoadX xs nx L st h
  | .iastore => zast 100 some nx L st h
  | .baload => zald k nx L st h
  | .bastore => if k = 101 then zast 101 (fun x => if x = 0 ∨ x = 1 then some x else none) nx L st h else zast 102 (fun x => some x.toInt8.toInt32) nx L st h
  | .aaload => zaald nx L st h
  | .aastore => zaast nx L st h
  | .arraylength => zalen xs nx L st h
  | .newarray t => znewa (ztag t) (.int 0) nx L st h
  | .anewarray _ => znewa 103 .null nx L st h
  | .multianewarray _ _ => zmulti nx L st h
  | .getfield _ => zget cf y k nx L st h
  | .putfield _ => zput cf y k nx L st h
  | .new _ => if k = 9 then (if zcs st ≤ 8 then some (.inr (.inr (.inr y, 1, 6))) else none) else znew cf c nx L st h
  | .invokestatic _ => if k = 10 then zcopy nx L st h else if k = 12 then zmm (fun x y => if x < y then y else x) nx L st h else if k = 13 then zmm (fun x y => if y < x then y else x) nx L st h else zcall n y nx st
  | .invokevirtual _ => if k = 11 then zgetc nx L st h else zcallV n c y nx st h
  | .invokeinterface _ _ => zcallV n c y nx st h
  | .invokespecial _ => if k = 8 then zoi nx L st h else if k = 7 then zcallV n c y nx st h else zcallI n y nx st
  | .ireturn => (match st with
      | [.int v] => if k = 0 ∨ (k = 1 ∧ (v = 0 ∨ v = 1)) ∨ (k = 2 ∧ 0 ≤ v ∧ v ≤ 255) then zret (some (.int v)) else none
      | _ => none)
  | .lreturn => (match st with
      | [.long v] => zret (some (.long v))
      | _ => none)
  | .dreturn => (match st with
      | [.double v] => zret (some (.double v))
      | _ => none)
  | .areturn => (match st with
      | [.ref v] => zret (some (.ref v))
      | [.retAddr v] => zret (some (.retAddr v))
      | _ => none)
  | .return_ => (match st with
      | [] => zret none
      | _ => none)
  | _ => none
end
section
/-- the abstract values by the world's addresses: sp the three special ones -/
def zV (sp : Nat → Nat) (ads : List Nat) (v v' : Value) : Prop := match v with
  | .ref k => ∃ a, ads[k]? = some a ∧ v' = .ref a
  | .retAddr k => k < 4 ∧ v' = .ref (sp k)
  | w => v' = w
def zS (sp : Nat → Nat) (ads : List Nat) : List Value → List Value → Prop
  | [], st' => st' = []
  | v :: st, st' => ∃ v' r', st' = v' :: r' ∧ zV sp ads v v' ∧ zS sp ads st r'
/-- the locals -/
def zLR (sp : Nat → Nat) (ads : List Nat) (L : zL) (ls : Array Slot) (nL : Nat) : Prop := L.length = nL ∧ ∃ lv : List (Nat × Value), lv_has ls nL lv ∧ ∀ i v, L[i]? = some (some v) → ∃ v', zV sp ads v v' ∧ (i, v') ∈ lv
theorem zV_cat {sp : Nat → Nat} {ads : List Nat} {v v' : Value} (h : zV sp ads v v') : v'.category = if zcat v then 2 else 1 := by
  cases v with
  | ref k => obtain ⟨a, -, rfl⟩ := h; rfl
  | retAddr k => obtain ⟨-, rfl⟩ := h; rfl
  | int x => cases (show v' = _ from h); rfl
  | long x => cases (show v' = _ from h); rfl
  | float x => cases (show v' = _ from h); rfl
  | double x => cases (show v' = _ from h); rfl
  | null => cases (show v' = _ from h); rfl
theorem zV_mono {sp : Nat → Nat} {ads : List Nat} {v v' : Value} (q : List Nat) (h : zV sp ads v v') : zV sp (ads ++ q) v v' := by
  cases v with
  | ref k =>
    obtain ⟨a, h1, rfl⟩ := h
    exact ⟨a, by rw [List.getElem?_append_left (List.getElem?_eq_some_iff.mp h1).1]; exact h1, rfl⟩
  | _ => exact h
theorem zS_mono {sp : Nat → Nat} {ads : List Nat} (q : List Nat) : ∀ {st st' : List Value}, zS sp ads st st' → zS sp (ads ++ q) st st'
  | [], _, h => h
  | _ :: _, _, ⟨v', r', h1, h2, h3⟩ => ⟨v', r', h1, zV_mono q h2, zS_mono q h3⟩
theorem zLR_mono {sp : Nat → Nat} {ads : List Nat} {L : zL} {ls : Array Slot} {nL : Nat} (q : List Nat) (h : zLR sp ads L ls nL) : zLR sp (ads ++ q) L ls nL := by
  obtain ⟨h0, lv, h1, h2⟩ := h
  exact ⟨h0, lv, h1, fun i v hi => by obtain ⟨v', a, b⟩ := h2 i v hi; exact ⟨v', zV_mono q a, b⟩⟩
theorem zS_cs {sp : Nat → Nat} {ads : List Nat} : ∀ {st st' : List Value}, zS sp ads st st' → (st'.map fun v => v.category).sum = zcs st
  | [], _, h => by cases (show _ = [] from h); rfl
  | v :: st, _, ⟨v', r', rfl, h2, h3⟩ => by
    rw [List.map_cons, List.sum_cons, zS_cs h3, zV_cat h2]
    rfl
theorem zS_len {sp : Nat → Nat} {ads : List Nat} : ∀ {st st' : List Value}, zS sp ads st st' → st'.length = st.length
  | [], _, h => by cases (show _ = [] from h); rfl
  | _ :: _, _, ⟨_, _, rfl, _, h3⟩ => by rw [List.length_cons, List.length_cons, zS_len h3]
theorem zS_at {sp : Nat → Nat} {ads : List Nat} : ∀ {st st' : List Value}, zS sp ads st st' → ∀ {k : Nat} {v : Value}, st[k]? = some v → ∃ v', st'[k]? = some v' ∧ zV sp ads v v'
  | [], _, _, k, v, h => by simp at h
  | w :: st, _, ⟨w', r', rfl, h2, h3⟩, 0, v, h => ⟨w', rfl, by cases h; exact h2⟩
  | w :: st, _, ⟨w', r', rfl, h2, h3⟩, k + 1, v, h => zS_at h3 (k := k) h
theorem zS_set {sp : Nat → Nat} {ads : List Nat} {v v' : Value} (hv : zV sp ads v v') : ∀ {st st' : List Value}, zS sp ads st st' → ∀ (k : Nat), zS sp ads (st.set k v) (st'.set k v')
  | [], _, h, k => by cases (show _ = [] from h); exact rfl
  | w :: st, _, ⟨w', r', rfl, h2, h3⟩, 0 => ⟨v', r', rfl, hv, h3⟩
  | w :: st, _, ⟨w', r', rfl, h2, h3⟩, k + 1 => ⟨w', _, rfl, h2, zS_set hv h3 k⟩
theorem zS_app {sp : Nat → Nat} {ads : List Nat} {b b' : List Value} (hb : zS sp ads b b') : ∀ {a a' : List Value}, zS sp ads a a' → zS sp ads (a ++ b) (a' ++ b')
  | [], _, h => by cases (show _ = [] from h); exact hb
  | _ :: _, _, ⟨w', r', rfl, h2, h3⟩ => ⟨w', _, rfl, h2, zS_app hb h3⟩
/-- popping arguments -/
theorem ztk_S {sp : Nat → Nat} {ads : List Nat} : ∀ (n : Nat) {acc acc' st st' as r : List Value}, zS sp ads acc acc' → zS sp ads st st' → ztk n acc st = some (as, r) → ∃ as' r' : List Value, zS sp ads as as' ∧ zS sp ads r r' ∧ acc'.reverse ++ st' = as'.reverse ++ r' ∧ as.length = acc.length + n
  | 0, acc, acc', st, st', as, r, ha, hs, h => by
    cases (show some (acc, st) = some (as, r) from h)
    exact ⟨acc', st', ha, hs, rfl, rfl⟩
  | n + 1, acc, acc', [], st', as, r, ha, hs, h => by cases (show none = some (as, r) from h)
  | n + 1, acc, acc', v :: st, _, as, r, ha, ⟨v', r1, rfl, h2, h3⟩, h => by
    obtain ⟨as', r', a1, a2, a3, a4⟩ := ztk_S n (acc := v :: acc) (acc' := v' :: acc') ⟨v', acc', rfl, h2, ha⟩ h3 h
    exact ⟨as', r', a1, a2, by rw [← a3]; simp, by rw [a4, List.length_cons]; omega⟩
theorem zst1_spec {v : Value} : ∀ {i : Nat} {L L' : zL}, zst1 v i L = some L' → L'.length = L.length ∧ i < L.length ∧ L'[i]? = some (some v) ∧ ∀ j w, j ≠ i → L'[j]? = some (some w) → L[j]? = some (some w) ∧ (j + 1 = i → zcat w = false)
  | 0, a :: l, L', h => by
    cases (show some _ = some L' from h)
    refine ⟨rfl, Nat.succ_pos _, rfl, fun j w hj hw => ?_⟩
    cases j with
    | zero => exact absurd rfl hj
    | succ j => exact ⟨hw, fun e => by omega⟩
  | 1, a :: b :: l, L', h => by
    cases (show some _ = some L' from h)
    refine ⟨rfl, by simp, rfl, fun j w hj hw => ?_⟩
    match j, hj, hw with
    | 0, _, hw =>
      have hw' : zk a = some w := Option.some.inj hw
      cases a with
      | none => cases hw'
      | some x => cases x <;> first | (cases hw'; done) | (cases hw'; exact ⟨rfl, fun _ => rfl⟩)
    | 1, hj, _ => exact absurd rfl hj
    | j + 2, _, hw => exact ⟨hw, fun e => by omega⟩
  | i + 2, a :: l, L', h => by
    unfold zst1 at h
    split at h
    · next l' hl =>
      cases h
      obtain ⟨h1, h2, h3, h4⟩ := zst1_spec hl
      refine ⟨by simp [h1], by simp; omega, h3, fun j w hj hw => ?_⟩
      cases j with
      | zero => exact ⟨hw, fun e => by omega⟩
      | succ j =>
        obtain ⟨q1, q2⟩ := h4 j w (by omega) hw
        exact ⟨q1, fun e => q2 (by omega)⟩
    · cases h
  | 0, [], L', h => by cases (show none = some L' from h)
  | 1, [], L', h => by cases (show none = some L' from h)
  | 1, [_], L', h => by cases (show none = some L' from h)
  | i + 2, [], L', h => by cases (show none = some L' from h)
theorem zst2_spec {v : Value} : ∀ {i : Nat} {L L' : zL}, zst2 v i L = some L' → L'.length = L.length ∧ i + 1 < L.length ∧ L'[i]? = some (some v) ∧ ∀ j w, j ≠ i → L'[j]? = some (some w) → L[j]? = some (some w) ∧ j ≠ i + 1 ∧ (j + 1 = i → zcat w = false)
  | 0, a :: b :: l, L', h => by
    cases (show some _ = some L' from h)
    refine ⟨rfl, by simp, rfl, fun j w hj hw => ?_⟩
    match j, hj, hw with
    | 0, hj, _ => exact absurd rfl hj
    | 1, _, hw => cases hw
    | j + 2, _, hw => exact ⟨hw, by omega, fun e => by omega⟩
  | 1, a :: b :: d :: l, L', h => by
    cases (show some _ = some L' from h)
    refine ⟨rfl, by simp, rfl, fun j w hj hw => ?_⟩
    match j, hj, hw with
    | 0, _, hw =>
      have hw' : zk a = some w := Option.some.inj hw
      cases a with
      | none => cases hw'
      | some x => cases x <;> first | (cases hw'; done) | (cases hw'; exact ⟨rfl, by omega, fun _ => rfl⟩)
    | 1, hj, _ => exact absurd rfl hj
    | 2, _, hw => cases hw
    | j + 3, _, hw => exact ⟨hw, by omega, fun e => by omega⟩
  | i + 2, a :: l, L', h => by
    unfold zst2 at h
    split at h
    · next l' hl =>
      cases h
      obtain ⟨h1, h2, h3, h4⟩ := zst2_spec hl
      refine ⟨by simp [h1], by simp; omega, h3, fun j w hj hw => ?_⟩
      cases j with
      | zero => exact ⟨hw, by omega, fun e => by omega⟩
      | succ j =>
        obtain ⟨q1, q2, q3⟩ := h4 j w (by omega) hw
        exact ⟨q1, by omega, fun e => q3 (by omega)⟩
    · cases h
  | 0, [], L', h => by cases (show none = some L' from h)
  | 0, [_], L', h => by cases (show none = some L' from h)
  | 1, [], L', h => by cases (show none = some L' from h)
  | 1, [_], L', h => by cases (show none = some L' from h)
  | 1, [_, _], L', h => by cases (show none = some L' from h)
  | i + 2, [], L', h => by cases (show none = some L' from h)
theorem zLR_st1 {sp : Nat → Nat} {ads : List Nat} {L L' : zL} {ls : Array Slot} {nL i : Nat} {v v' : Value} (h : zLR sp ads L ls nL) (hs : zst1 v i L = some L') (hv : zV sp ads v v') : i < nL ∧ ∃ lv : List (Nat × Value), lv_has ls nL lv ∧ ∀ ls' : Array Slot, lv_has ls' nL ((i, v') :: lv.filter (fun q => !(q.1 == i) && !(q.1 + 1 == i && q.2.category == 2))) → zLR sp ads L' ls' nL := by
  obtain ⟨h0, lv, h1, h2⟩ := h
  obtain ⟨q1, q2, q3, q4⟩ := zst1_spec hs
  refine ⟨by omega, lv, h1, fun ls' h' => ⟨by omega, _, h', fun j w hj => ?_⟩⟩
  by_cases e : j = i
  · subst e
    rw [q3] at hj
    cases hj
    exact ⟨v', hv, List.mem_cons_self⟩
  · obtain ⟨r1, r2⟩ := q4 j w e hj
    obtain ⟨w', a, b⟩ := h2 j w r1
    refine ⟨w', a, List.mem_cons_of_mem _ (List.mem_filter.mpr ⟨b, ?_⟩)⟩
    have hc := zV_cat a
    by_cases e2 : j + 1 = i
    · rw [r2 e2] at hc
      simp [e, hc]
    · simp [e, e2]
theorem zLR_st2 {sp : Nat → Nat} {ads : List Nat} {L L' : zL} {ls : Array Slot} {nL i : Nat} {v v' : Value} (h : zLR sp ads L ls nL) (hs : zst2 v i L = some L') (hv : zV sp ads v v') : i + 1 < nL ∧ ∃ lv : List (Nat × Value), lv_has ls nL lv ∧ ∀ ls' : Array Slot, lv_has ls' nL ((i, v') :: lv.filter (fun q => !(q.1 == i) && (!(q.1 == i + 1) && !(q.1 + 1 == i && q.2.category == 2)))) → zLR sp ads L' ls' nL := by
  obtain ⟨h0, lv, h1, h2⟩ := h
  obtain ⟨q1, q2, q3, q4⟩ := zst2_spec hs
  refine ⟨by omega, lv, h1, fun ls' h' => ⟨by omega, _, h', fun j w hj => ?_⟩⟩
  by_cases e : j = i
  · subst e
    rw [q3] at hj
    cases hj
    exact ⟨v', hv, List.mem_cons_self⟩
  · obtain ⟨r1, r3, r2⟩ := q4 j w e hj
    obtain ⟨w', a, b⟩ := h2 j w r1
    refine ⟨w', a, List.mem_cons_of_mem _ (List.mem_filter.mpr ⟨b, ?_⟩)⟩
    have hc := zV_cat a
    by_cases e2 : j + 1 = i
    · rw [r2 e2] at hc
      simp [e, r3, hc]
    · simp [e, r3, e2]
theorem zLR_ld {sp : Nat → Nat} {ads : List Nat} {L : zL} {ls : Array Slot} {nL i : Nat} {v : Value} (h : zLR sp ads L ls nL) (hi : L[i]? = some (some v)) : ∃ v', zV sp ads v v' ∧ ls[i]? = some (.val v') := by
  obtain ⟨h0, lv, h1, h2⟩ := h
  obtain ⟨v', a, b⟩ := h2 i v hi
  exact ⟨v', a, h1.2.2 _ b⟩
end
section
/-! Words that no reader of steady words carries into a call: told beside. -/
def zND : List MethodName := [⟨"java/lang/RuntimeException", "<init>", "(Ljava/lang/String;)V"⟩, ⟨"java/lang/Exception", "<init>", "(Ljava/lang/String;)V"⟩, ⟨"java/lang/Throwable", "<init>", "(Ljava/lang/String;)V"⟩]
def zNC : List (String × String) := [("java/lang/IllegalArgumentException", "java/lang/IllegalArgumentException"), ("java/lang/IndexOutOfBoundsException", "java/lang/IndexOutOfBoundsException"), ("java/lang/IllegalStateException", "java/lang/IllegalStateException")]
def zN2 : List Jvm.Cond := zND.map (fun q => .declares q) ++ zNC.map (fun q => .castable q.1 q.2)
theorem zN2_warm {s U : State} (hW : s.WarmedH U.vm) (h : ∀ w ∈ zN2, va_Nw w s) : ∀ w ∈ zN2, va_Nw w U := by
  intro w hw
  have hs := h w hw
  rcases List.mem_append.mp hw with q | q
  · obtain ⟨x, -, rfl⟩ := List.mem_map.mp q
    exact va_Nw.warmD hW hs
  · obtain ⟨x, -, rfl⟩ := List.mem_map.mp q
    exact va_Nw.warmC hW hs
theorem zN2_on : ∀ w ∈ zN2, w.onTables = true := by
  intro w hw
  rcases List.mem_append.mp hw with q | q
  · obtain ⟨x, -, rfl⟩ := List.mem_map.mp q
    rfl
  · obtain ⟨x, -, rfl⟩ := List.mem_map.mp q
    rfl
/-- what no exception is -/
def zNP : List (String × String) := []
/-- nothing of lists, texts and rows of references is wanted here -/
def zSJ (_ : Nat → Nat) (_ : Nat → Prop) (_ : State) : Prop := True
theorem zSJ_call {sp : Nat → Nat} {A A' : Nat → Prop} {s U : State} {H : Heap} {locs : List Loc} (_ : zSJ sp A s) (_ : va_S A s.heap H locs) (_ : s.WarmedH U.vm) (_ : U.heap = H) (_ : ∀ q, A' q → A q) : zSJ sp A' U := trivial
end
section
theorem zcf_out {t : Nat} (h : 11 ≤ t) : zcf t = [] := by
  unfold zcf
  rw [List.getD_eq_getElem?_getD, List.getElem?_eq_none (by simpa using h)]
  rfl
theorem zby {x : Int32} (h1 : -128 ≤ x) (h2 : x ≤ 127) : narrow .byte (.int x) = .int x := by
  have h3 := Int32.le_iff_toInt_le.mp h1
  have h4 := Int32.le_iff_toInt_le.mp h2
  have e1 : (-128 : Int32).toInt = -128 := by decide
  have e2 : (127 : Int32).toInt = 127 := by decide
  rw [e1] at h3
  rw [e2] at h4
  show Value.int x.toInt8.toInt32 = Value.int x
  congr 1
  apply Int32.toInt_inj.mp
  rw [Int8.toInt_toInt32, Int32.toInt_toInt8]
  rw [Int.bmod_def]
  omega
theorem zdf_V (sp : Nat → Nat) (ads : List Nat) (k : Nat) : zV sp ads (zdf k) (zdf k) := by
  unfold zdf
  split <;> exact rfl
theorem zdfs (sp : Nat → Nat) (ads : List Nat) : ∀ l : List (Nat × Nat), zS sp ads (l.map (fun q => zdf q.2)) (l.map (fun q => zdf q.2))
  | [] => rfl
  | q :: l => ⟨_, _, rfl, zdf_V sp ads q.2, zdfs sp ads l⟩
/-! The abstract machine's step is the machine's. -/
def zC (sp : Nat → Nat) (ty : Nat → ClassId) (ads : List Nat) (c : Nat × List Value) (e : va_E) : Prop :=
  (c.1 < 100 ∧ ∃ vs', e = .inr (c.1, vs') ∧ zS sp ads c.2 vs') ∨
  ((c.1 = 100 ∨ c.1 = 101 ∨ c.1 = 102) ∧ ∃ f : Nat → Int32, e = .inl (ty (c.1 - 100), c.2.length, .inl f) ∧ ∀ (j : Nat) (x : Value), c.2[j]? = some x → x = .int (f j)) ∨
  ((c.1 = 103 ∨ c.1 = 104) ∧ ∃ f : Nat → Option Nat, e = .inl (ty (c.1 - 100), c.2.length, .inr (.inr (.inr (.inr f)))) ∧ ∀ (j : Nat) (x : Value), c.2[j]? = some x → zV sp ads x (va_rf (f j)))
def zW (sp : Nat → Nat) (ty : Nat → ClassId) (D : va_G) (A : Nat → Prop) (H0 : Heap) (ads : List Nat) (h : zH) (H : Heap) (locs : List Loc) : Prop :=
  ∃ ws : va_W, va_P D zcl ws H ∧ va_D A ws ∧ va_S A H0 H locs ∧ ws.map (fun q => q.1) = ads ∧ h.length = ws.length ∧ ∀ (k : Nat) (c : Nat × List Value) (q : Nat × va_E), h[k]? = some c → ws[k]? = some q → zC sp ty ads c q.2
def zR (sp : Nat → Nat) (ty : Nat → ClassId) (D : va_G) (A : Nat → Prop) (H0 : Heap) (nL : Nat) (ads : List Nat) (L : zL) (st : List Value) (h : zH) (ls : Array Slot) (str : List Value) (H : Heap) (locs : List Loc) : Prop :=
  zLR sp ads L ls nL ∧ zS sp ads st str ∧ zW sp ty D A H0 ads h H locs
def ztys (ty : Nat → ClassId) : List (ClassId × FieldType) := [(ty 0, .int), (ty 1, .int), (ty 2, .int), (ty 3, .int), (ty 4, .int)]
/-- what is known of the special addresses -/
def zSP (xs : List Int32) (sp : Nat → Nat) (A : Nat → Prop) (s : State) : Prop :=
  (∀ w ∈ zN, va_Nw w s) ∧
  (vx_Zq Bundle.tN "UNASSIGNED_STACK" Bundle.steD A s s.heap ∧ vx_Zq Bundle.tN "SUPPRESSED_SENTINEL" Bundle.listD A s s.heap) ∧
  (∀ q ∈ zTX, ∃ sa, vk_R q.1 q.2.1 q.2.2 sa s) ∧
  (va_X (sp 0) xs.length (fun j => xs.getD j 0) s s.heap ∧ sp 0 < s.heap.size ∧ ¬ A (sp 0)) ∧
  (∀ w ∈ zN2, va_Nw w s) ∧ (∀ q ∈ zNP, va_Nc q.1 q.2 s) ∧ zSJ sp A s
def zX (xs : List Int32) (sp : Nat → Nat) (ty : Nat → ClassId) (D : va_G) (A : Nat → Prop) (y : Nat) (p : Program) (R : Room) (s : State) (m : MethodId) (args : Array Value) (meth : Method) (c : Code) : Prop :=
  p.tables.exec = Jvm.exec ∧ c.code = zmb y ∧ c.maxLocals = zmL y ∧ meth.sig.returnType = zmr y ∧ meth.locks = false ∧ s.vm.findClass (zon (zmo y)) = some m.cls ∧ ((zmn y).name = "<init>" → meth.name = "<init>") ∧
  (∀ w ∈ zB, w.before args s = true) ∧ va_K D zcl (ztys ty) s ∧ (∀ q, s.heap.size ≤ q → A q) ∧ zSP xs sp A s ∧ 20 ≤ R.frames ∧ 400 ≤ R.locals
section ZZ
variable {p : Program} {l : Launch} {e : Env} {R : Room} {s : State} {m : MethodId} {args : Array Value} {below : List Frame} {meth : Method} {c : Code} {H : Heap} {locs : List Loc} {cells slots : Nat} {Q : State → Prop}
variable {xs : List Int32} {sp : Nat → Nat} {ty : Nat → ClassId} {D : va_G} {A : Nat → Prop} {ads : List Nat} {nL : Nat} {H0 : Heap}
variable {pc nx pc' dc ds : Nat} {L L' : zL} {st st' str : List Value} {h h' : zH} {ls : Array Slot}
/-- what is owed behind a step -/
abbrev zKK (p : Program) (l : Launch) (e : Env) (R : Room) (s : State) (m : MethodId) (args : Array Value) (below : List Frame) (meth : Method) (c : Code) (cells slots : Nat) (Q : State → Prop) (sp : Nat → Nat) (ty : Nat → ClassId) (D : va_G) (A : Nat → Prop) (H0 : Heap) (nL : Nat) (ads : List Nat) (pc' : Nat) (L' : zL) (st' : List Value) (h' : zH) (dc ds : Nat) : Prop :=
  ∀ (q : List Nat) (ls' : Array Slot) (str' : List Value) (H' : Heap) (locs' : List Loc), zR sp ty D A H0 nL (ads ++ q) L' st' h' ls' str' H' locs' → W p l e R s m args below meth c H' locs' (cells + dc) (slots + ds) Q (F0 m pc' ls' str')
theorem zgo_kk {ls' : Array Slot} {str' : List Value} (hs : zgo nx L st h = some (.inl (pc', L', st', h', dc, ds))) (kk : zKK p l e R s m args below meth c cells slots Q sp ty D A H0 nL ads pc' L' st' h' dc ds) (h1 : zLR sp ads L ls' nL) (h2 : zS sp ads st str') (h3 : zW sp ty D A H0 ads h H locs) : W p l e R s m args below meth c H locs cells slots Q (F0 m nx ls' str') := by
  cases (show some (Sum.inl (nx, L, st, h, 0, 0)) = some (Sum.inl (pc', L', st', h', dc, ds)) from hs)
  have k := kk [] ls' str' H locs
  rw [List.append_nil] at k
  exact k ⟨h1, h2, h3⟩
theorem z_bin (f : Int32 → Int32 → Int32) (hs : zbin f nx L st h = some (.inl (pc', L', st', h', dc, ds))) (I : zR sp ty D A H0 nL ads L st h ls str H locs) (kk : zKK p l e R s m args below meth c cells slots Q sp ty D A H0 nL ads pc' L' st' h' dc ds)
    (row : ∀ (x y : Int32) (r : List Value), W p l e R s m args below meth c H locs cells slots Q (F0 m nx ls (.int (f x y) :: r)) → W p l e R s m args below meth c H locs cells slots Q (F0 m pc ls (.int y :: .int x :: r))) : W p l e R s m args below meth c H locs cells slots Q (F0 m pc ls str) := by
  obtain ⟨I1, I2, I3⟩ := I
  unfold zbin at hs
  split at hs
  · obtain ⟨_, _, rfl, hv, _, _, rfl, hw, hr⟩ := I2
    cases (show _ = Value.int _ from hv); cases (show _ = Value.int _ from hw)
    exact row _ _ _ (zgo_kk hs kk I1 ⟨_, _, rfl, rfl, hr⟩ I3)
  · cases hs
theorem z_div (f : Int32 → Int32 → Int32) (hs : zdiv f nx L st h = some (.inl (pc', L', st', h', dc, ds))) (I : zR sp ty D A H0 nL ads L st h ls str H locs) (kk : zKK p l e R s m args below meth c cells slots Q sp ty D A H0 nL ads pc' L' st' h' dc ds)
    (row : ∀ (x y : Int32) (r : List Value), ¬ y = 0 → W p l e R s m args below meth c H locs cells slots Q (F0 m nx ls (.int (f x y) :: r)) → W p l e R s m args below meth c H locs cells slots Q (F0 m pc ls (.int y :: .int x :: r))) : W p l e R s m args below meth c H locs cells slots Q (F0 m pc ls str) := by
  obtain ⟨I1, I2, I3⟩ := I
  unfold zdiv at hs
  split at hs
  · split at hs
    · cases hs
    · next hne =>
      obtain ⟨_, _, rfl, hv, _, _, rfl, hw, hr⟩ := I2
      cases (show _ = Value.int _ from hv); cases (show _ = Value.int _ from hw)
      exact row _ _ _ hne (zgo_kk hs kk I1 ⟨_, _, rfl, rfl, hr⟩ I3)
  · cases hs
theorem z_un (f : Int32 → Value) (hf : ∀ x, zV sp ads (f x) (f x)) (hs : zun f nx L st h = some (.inl (pc', L', st', h', dc, ds))) (I : zR sp ty D A H0 nL ads L st h ls str H locs) (kk : zKK p l e R s m args below meth c cells slots Q sp ty D A H0 nL ads pc' L' st' h' dc ds)
    (row : ∀ (x : Int32) (r : List Value), W p l e R s m args below meth c H locs cells slots Q (F0 m nx ls (f x :: r)) → W p l e R s m args below meth c H locs cells slots Q (F0 m pc ls (.int x :: r))) : W p l e R s m args below meth c H locs cells slots Q (F0 m pc ls str) := by
  obtain ⟨I1, I2, I3⟩ := I
  unfold zun at hs
  split at hs
  · obtain ⟨_, _, rfl, hv, hr⟩ := I2
    cases (show _ = Value.int _ from hv)
    exact row _ _ (zgo_kk hs kk I1 ⟨_, _, rfl, hf _, hr⟩ I3)
  · cases hs
theorem z_binL (f : Int64 → Int64 → Int64) (hs : zbinL f nx L st h = some (.inl (pc', L', st', h', dc, ds))) (I : zR sp ty D A H0 nL ads L st h ls str H locs) (kk : zKK p l e R s m args below meth c cells slots Q sp ty D A H0 nL ads pc' L' st' h' dc ds)
    (row : ∀ (x y : Int64) (r : List Value), W p l e R s m args below meth c H locs cells slots Q (F0 m nx ls (.long (f x y) :: r)) → W p l e R s m args below meth c H locs cells slots Q (F0 m pc ls (.long y :: .long x :: r))) : W p l e R s m args below meth c H locs cells slots Q (F0 m pc ls str) := by
  obtain ⟨I1, I2, I3⟩ := I
  unfold zbinL at hs
  split at hs
  · obtain ⟨_, _, rfl, hv, _, _, rfl, hw, hr⟩ := I2
    cases (show _ = Value.long _ from hv); cases (show _ = Value.long _ from hw)
    exact row _ _ _ (zgo_kk hs kk I1 ⟨_, _, rfl, rfl, hr⟩ I3)
  · cases hs
theorem z_lcmp (hs : zlc nx L st h = some (.inl (pc', L', st', h', dc, ds))) (I : zR sp ty D A H0 nL ads L st h ls str H locs) (kk : zKK p l e R s m args below meth c cells slots Q sp ty D A H0 nL ads pc' L' st' h' dc ds)
    (row : ∀ (x y : Int64) (r : List Value), W p l e R s m args below meth c H locs cells slots Q (F0 m nx ls (.int (lg_cmp x y) :: r)) → W p l e R s m args below meth c H locs cells slots Q (F0 m pc ls (.long y :: .long x :: r))) : W p l e R s m args below meth c H locs cells slots Q (F0 m pc ls str) := by
  obtain ⟨I1, I2, I3⟩ := I
  unfold zlc at hs
  split at hs
  · obtain ⟨_, _, rfl, hv, _, _, rfl, hw, hr⟩ := I2
    cases (show _ = Value.long _ from hv); cases (show _ = Value.long _ from hw)
    exact row _ _ _ (zgo_kk hs kk I1 ⟨_, _, rfl, rfl, hr⟩ I3)
  · cases hs
theorem z_binD (f : UInt64 → UInt64 → UInt64) (hs : zbinD f nx L st h = some (.inl (pc', L', st', h', dc, ds))) (I : zR sp ty D A H0 nL ads L st h ls str H locs) (kk : zKK p l e R s m args below meth c cells slots Q sp ty D A H0 nL ads pc' L' st' h' dc ds)
    (row : ∀ (x y : UInt64) (r : List Value), vf_n64 (f x y) → W p l e R s m args below meth c H locs cells slots Q (F0 m nx ls (.double (f x y) :: r)) → W p l e R s m args below meth c H locs cells slots Q (F0 m pc ls (.double y :: .double x :: r))) : W p l e R s m args below meth c H locs cells slots Q (F0 m pc ls str) := by
  obtain ⟨I1, I2, I3⟩ := I
  unfold zbinD at hs
  split at hs
  · split at hs
    · next hne =>
      obtain ⟨_, _, rfl, hv, _, _, rfl, hw, hr⟩ := I2
      cases (show _ = Value.double _ from hv); cases (show _ = Value.double _ from hw)
      exact row _ _ _ hne (zgo_kk hs kk I1 ⟨_, _, rfl, rfl, hr⟩ I3)
    · cases hs
  · cases hs
theorem z_d2l (hs : zd2l nx L st h = some (.inl (pc', L', st', h', dc, ds))) (I : zR sp ty D A H0 nL ads L st h ls str H locs) (kk : zKK p l e R s m args below meth c cells slots Q sp ty D A H0 nL ads pc' L' st' h' dc ds)
    (row : ∀ (x : UInt64) (r : List Value), W p l e R s m args below meth c H locs cells slots Q (F0 m nx ls (.long (FP.d2l x) :: r)) → W p l e R s m args below meth c H locs cells slots Q (F0 m pc ls (.double x :: r))) : W p l e R s m args below meth c H locs cells slots Q (F0 m pc ls str) := by
  obtain ⟨I1, I2, I3⟩ := I
  unfold zd2l at hs
  split at hs
  · obtain ⟨_, _, rfl, hv, hr⟩ := I2
    cases (show _ = Value.double _ from hv)
    exact row _ _ (zgo_kk hs kk I1 ⟨_, _, rfl, rfl, hr⟩ I3)
  · cases hs
theorem z_pu {v v' : Value} (hv : zV sp ads v v') (hs : zpu L v nx st h = some (.inl (pc', L', st', h', dc, ds))) (I : zR sp ty D A H0 nL ads L st h ls str H locs) (kk : zKK p l e R s m args below meth c cells slots Q sp ty D A H0 nL ads pc' L' st' h' dc ds)
    (row : W p l e R s m args below meth c H locs cells slots Q (F0 m nx ls (v' :: str)) → W p l e R s m args below meth c H locs cells slots Q (F0 m pc ls str)) : W p l e R s m args below meth c H locs cells slots Q (F0 m pc ls str) := by
  obtain ⟨I1, I2, I3⟩ := I
  exact row (zgo_kk hs kk I1 ⟨_, _, rfl, hv, I2⟩ I3)
theorem z_goto (hs : zgo nx L st h = some (.inl (pc', L', st', h', dc, ds))) (I : zR sp ty D A H0 nL ads L st h ls str H locs) (kk : zKK p l e R s m args below meth c cells slots Q sp ty D A H0 nL ads pc' L' st' h' dc ds)
    (row : W p l e R s m args below meth c H locs cells slots Q (F0 m nx ls str) → W p l e R s m args below meth c H locs cells slots Q (F0 m pc ls str)) : W p l e R s m args below meth c H locs cells slots Q (F0 m pc ls str) :=
  row (zgo_kk hs kk I.1 I.2.1 I.2.2)
theorem z_ldI {i : Nat} (hs : zldI L i nx st h = some (.inl (pc', L', st', h', dc, ds))) (I : zR sp ty D A H0 nL ads L st h ls str H locs) (kk : zKK p l e R s m args below meth c cells slots Q sp ty D A H0 nL ads pc' L' st' h' dc ds)
    (row : ∀ x : Int32, ls[i]? = some (.val (.int x)) → W p l e R s m args below meth c H locs cells slots Q (F0 m nx ls (.int x :: str)) → W p l e R s m args below meth c H locs cells slots Q (F0 m pc ls str)) : W p l e R s m args below meth c H locs cells slots Q (F0 m pc ls str) := by
  obtain ⟨I1, I2, I3⟩ := I
  unfold zldI at hs
  split at hs
  · next x hx =>
    obtain ⟨v', hv, hl⟩ := zLR_ld I1 hx
    cases (show _ = Value.int _ from hv)
    exact row x hl (zgo_kk hs kk I1 ⟨_, _, rfl, rfl, I2⟩ I3)
  · cases hs
theorem z_ldL {i : Nat} (hs : zldL L i nx st h = some (.inl (pc', L', st', h', dc, ds))) (I : zR sp ty D A H0 nL ads L st h ls str H locs) (kk : zKK p l e R s m args below meth c cells slots Q sp ty D A H0 nL ads pc' L' st' h' dc ds)
    (row : ∀ x : Int64, ls[i]? = some (.val (.long x)) → W p l e R s m args below meth c H locs cells slots Q (F0 m nx ls (.long x :: str)) → W p l e R s m args below meth c H locs cells slots Q (F0 m pc ls str)) : W p l e R s m args below meth c H locs cells slots Q (F0 m pc ls str) := by
  obtain ⟨I1, I2, I3⟩ := I
  unfold zldL at hs
  split at hs
  · next x hx =>
    obtain ⟨v', hv, hl⟩ := zLR_ld I1 hx
    cases (show _ = Value.long _ from hv)
    exact row x hl (zgo_kk hs kk I1 ⟨_, _, rfl, rfl, I2⟩ I3)
  · cases hs
theorem z_ldD {i : Nat} (hs : zldD L i nx st h = some (.inl (pc', L', st', h', dc, ds))) (I : zR sp ty D A H0 nL ads L st h ls str H locs) (kk : zKK p l e R s m args below meth c cells slots Q sp ty D A H0 nL ads pc' L' st' h' dc ds)
    (row : ∀ x : UInt64, ls[i]? = some (.val (.double x)) → W p l e R s m args below meth c H locs cells slots Q (F0 m nx ls (.double x :: str)) → W p l e R s m args below meth c H locs cells slots Q (F0 m pc ls str)) : W p l e R s m args below meth c H locs cells slots Q (F0 m pc ls str) := by
  obtain ⟨I1, I2, I3⟩ := I
  unfold zldD at hs
  split at hs
  · next x hx =>
    obtain ⟨v', hv, hl⟩ := zLR_ld I1 hx
    cases (show _ = Value.double _ from hv)
    exact row x hl (zgo_kk hs kk I1 ⟨_, _, rfl, rfl, I2⟩ I3)
  · cases hs
theorem z_ldA {i : Nat} (hs : zldA L i nx st h = some (.inl (pc', L', st', h', dc, ds))) (I : zR sp ty D A H0 nL ads L st h ls str H locs) (kk : zKK p l e R s m args below meth c cells slots Q sp ty D A H0 nL ads pc' L' st' h' dc ds)
    (row : ∀ x : Nat, ls[i]? = some (.val (.ref x)) → W p l e R s m args below meth c H locs cells slots Q (F0 m nx ls (.ref x :: str)) → W p l e R s m args below meth c H locs cells slots Q (F0 m pc ls str))
    (rowN : ls[i]? = some (.val .null) → W p l e R s m args below meth c H locs cells slots Q (F0 m nx ls (.null :: str)) → W p l e R s m args below meth c H locs cells slots Q (F0 m pc ls str)) : W p l e R s m args below meth c H locs cells slots Q (F0 m pc ls str) := by
  obtain ⟨I1, I2, I3⟩ := I
  unfold zldA at hs
  split at hs
  · next x hx =>
    obtain ⟨v', hv, hl⟩ := zLR_ld I1 hx
    obtain ⟨a, ha, rfl⟩ := id hv
    exact row a hl (zgo_kk hs kk I1 ⟨_, _, rfl, hv, I2⟩ I3)
  · next x hx =>
    obtain ⟨v', hv, hl⟩ := zLR_ld I1 hx
    obtain ⟨ha, rfl⟩ := id hv
    exact row _ hl (zgo_kk hs kk I1 ⟨_, _, rfl, hv, I2⟩ I3)
  · next hx =>
    obtain ⟨v', hv, hl⟩ := zLR_ld I1 hx
    cases (show _ = Value.null from hv)
    exact rowN hl (zgo_kk hs kk I1 ⟨_, _, rfl, rfl, I2⟩ I3)
  · cases hs
theorem z_sv1 {i : Nat} {v v' : Value} {r r' : List Value} (hs : zsv1 L i nx v r h = some (.inl (pc', L', st', h', dc, ds))) (hv : zV sp ads v v') (I1 : zLR sp ads L ls nL) (hr : zS sp ads r r') (I3 : zW sp ty D A H0 ads h H locs) (kk : zKK p l e R s m args below meth c cells slots Q sp ty D A H0 nL ads pc' L' st' h' dc ds)
    (row : ∀ lv : List (Nat × Value), lv_has ls nL lv → i < nL → (∀ ls' : Array Slot, lv_has ls' nL ((i, v') :: lv.filter (fun q => !(q.1 == i) && !(q.1 + 1 == i && q.2.category == 2))) → W p l e R s m args below meth c H locs cells slots Q (F0 m nx ls' r')) → W p l e R s m args below meth c H locs cells slots Q (F0 m pc ls str)) : W p l e R s m args below meth c H locs cells slots Q (F0 m pc ls str) := by
  unfold zsv1 at hs
  split at hs
  · next L1 h1 =>
    obtain ⟨hi, lv, g1, g2⟩ := zLR_st1 I1 h1 hv
    exact row lv g1 hi (fun ls' h2 => zgo_kk hs kk (g2 ls' h2) hr I3)
  · cases hs
theorem z_sv2 {i : Nat} {v v' : Value} {r r' : List Value} (hs : zsv2 L i nx v r h = some (.inl (pc', L', st', h', dc, ds))) (hv : zV sp ads v v') (I1 : zLR sp ads L ls nL) (hr : zS sp ads r r') (I3 : zW sp ty D A H0 ads h H locs) (kk : zKK p l e R s m args below meth c cells slots Q sp ty D A H0 nL ads pc' L' st' h' dc ds)
    (row : ∀ lv : List (Nat × Value), lv_has ls nL lv → i + 1 < nL → (∀ ls' : Array Slot, lv_has ls' nL ((i, v') :: lv.filter (fun q => !(q.1 == i) && (!(q.1 == i + 1) && !(q.1 + 1 == i && q.2.category == 2)))) → W p l e R s m args below meth c H locs cells slots Q (F0 m nx ls' r')) → W p l e R s m args below meth c H locs cells slots Q (F0 m pc ls str)) : W p l e R s m args below meth c H locs cells slots Q (F0 m pc ls str) := by
  unfold zsv2 at hs
  split at hs
  · next L1 h1 =>
    obtain ⟨hi, lv, g1, g2⟩ := zLR_st2 I1 h1 hv
    exact row lv g1 hi (fun ls' h2 => zgo_kk hs kk (g2 ls' h2) hr I3)
  · cases hs
theorem zS_cat {v v' : Value} (h : zV sp ads v v') (hc : zcat v = false) : v'.category = 1 := by rw [zV_cat h, hc]; rfl
theorem zS_cat2 {v v' : Value} (h : zV sp ads v v') (hc : zcat v = true) : v'.category = 2 := by rw [zV_cat h, hc]; rfl
theorem z_dup (hs : zdup nx L st h = some (.inl (pc', L', st', h', dc, ds))) (I : zR sp ty D A H0 nL ads L st h ls str H locs) (kk : zKK p l e R s m args below meth c cells slots Q sp ty D A H0 nL ads pc' L' st' h' dc ds)
    (row : ∀ (v : Value) (r : List Value), v.category = 1 → W p l e R s m args below meth c H locs cells slots Q (F0 m nx ls (v :: v :: r)) → W p l e R s m args below meth c H locs cells slots Q (F0 m pc ls (v :: r))) : W p l e R s m args below meth c H locs cells slots Q (F0 m pc ls str) := by
  obtain ⟨I1, I2, I3⟩ := I
  unfold zdup at hs
  split at hs
  · split at hs
    · cases hs
    · next hc =>
      obtain ⟨_, _, rfl, hv, hr⟩ := I2
      exact row _ _ (zS_cat hv (by simpa using hc)) (zgo_kk hs kk I1 ⟨_, _, rfl, hv, _, _, rfl, hv, hr⟩ I3)
  · cases hs
theorem z_pop (hs : zpop nx L st h = some (.inl (pc', L', st', h', dc, ds))) (I : zR sp ty D A H0 nL ads L st h ls str H locs) (kk : zKK p l e R s m args below meth c cells slots Q sp ty D A H0 nL ads pc' L' st' h' dc ds)
    (row : ∀ (v : Value) (r : List Value), v.category = 1 → W p l e R s m args below meth c H locs cells slots Q (F0 m nx ls r) → W p l e R s m args below meth c H locs cells slots Q (F0 m pc ls (v :: r))) : W p l e R s m args below meth c H locs cells slots Q (F0 m pc ls str) := by
  obtain ⟨I1, I2, I3⟩ := I
  unfold zpop at hs
  split at hs
  · split at hs
    · cases hs
    · next hc =>
      obtain ⟨_, _, rfl, hv, hr⟩ := I2
      exact row _ _ (zS_cat hv (by simpa using hc)) (zgo_kk hs kk I1 hr I3)
  · cases hs
theorem z_pop2 (hs : zpop2 nx L st h = some (.inl (pc', L', st', h', dc, ds))) (I : zR sp ty D A H0 nL ads L st h ls str H locs) (kk : zKK p l e R s m args below meth c cells slots Q sp ty D A H0 nL ads pc' L' st' h' dc ds)
    (row : ∀ (v : Value) (r : List Value), v.category = 2 → W p l e R s m args below meth c H locs cells slots Q (F0 m nx ls r) → W p l e R s m args below meth c H locs cells slots Q (F0 m pc ls (v :: r))) : W p l e R s m args below meth c H locs cells slots Q (F0 m pc ls str) := by
  obtain ⟨I1, I2, I3⟩ := I
  unfold zpop2 at hs
  split at hs
  · split at hs
    · next hc =>
      obtain ⟨_, _, rfl, hv, hr⟩ := I2
      exact row _ _ (zS_cat2 hv hc) (zgo_kk hs kk I1 hr I3)
    · cases hs
  · cases hs
theorem z_dupx1 (hs : zdupx1 nx L st h = some (.inl (pc', L', st', h', dc, ds))) (I : zR sp ty D A H0 nL ads L st h ls str H locs) (kk : zKK p l e R s m args below meth c cells slots Q sp ty D A H0 nL ads pc' L' st' h' dc ds)
    (row : ∀ (v w : Value) (r : List Value), v.category = 1 → w.category = 1 → W p l e R s m args below meth c H locs cells slots Q (F0 m nx ls (v :: w :: v :: r)) → W p l e R s m args below meth c H locs cells slots Q (F0 m pc ls (v :: w :: r))) : W p l e R s m args below meth c H locs cells slots Q (F0 m pc ls str) := by
  obtain ⟨I1, I2, I3⟩ := I
  unfold zdupx1 at hs
  split at hs
  · split at hs
    · cases hs
    · next hc =>
      obtain ⟨_, _, rfl, hv, _, _, rfl, hw, hr⟩ := I2
      simp only [Bool.or_eq_true, not_or, Bool.not_eq_true] at hc
      exact row _ _ _ (zS_cat hv hc.1) (zS_cat hw hc.2) (zgo_kk hs kk I1 ⟨_, _, rfl, hv, _, _, rfl, hw, _, _, rfl, hv, hr⟩ I3)
  · cases hs
theorem z_dup2 (hs : zdup2 nx L st h = some (.inl (pc', L', st', h', dc, ds))) (I : zR sp ty D A H0 nL ads L st h ls str H locs) (kk : zKK p l e R s m args below meth c cells slots Q sp ty D A H0 nL ads pc' L' st' h' dc ds)
    (row : ∀ (v w : Value) (r : List Value), v.category = 1 → w.category = 1 → W p l e R s m args below meth c H locs cells slots Q (F0 m nx ls (v :: w :: v :: w :: r)) → W p l e R s m args below meth c H locs cells slots Q (F0 m pc ls (v :: w :: r))) : W p l e R s m args below meth c H locs cells slots Q (F0 m pc ls str) := by
  obtain ⟨I1, I2, I3⟩ := I
  unfold zdup2 at hs
  split at hs
  · split at hs
    · cases hs
    · next hc =>
      obtain ⟨_, _, rfl, hv, _, _, rfl, hw, hr⟩ := I2
      simp only [Bool.or_eq_true, not_or, Bool.not_eq_true] at hc
      exact row _ _ _ (zS_cat hv hc.1) (zS_cat hw hc.2) (zgo_kk hs kk I1 ⟨_, _, rfl, hv, _, _, rfl, hw, _, _, rfl, hv, _, _, rfl, hw, hr⟩ I3)
  · cases hs
/-- the machine's branch row of a condition -/
def zrow (p : Program) (l : Launch) (e : Env) (R : Room) (s : State) (m : MethodId) (args : Array Value) (below : List Frame) (meth : Method) (c : Code) (H : Heap) (locs : List Loc) (cells slots : Nat) (Q : State → Prop) (cd : ClassFile.Cond) (x y : Int32) (tg nx : Nat) (ls : Array Slot) (r str : List Value) (pc : Nat) : Prop :=
  match cd with
  | .eq => (x = y → W p l e R s m args below meth c H locs cells slots Q (F0 m tg ls r)) → (¬ x = y → W p l e R s m args below meth c H locs cells slots Q (F0 m nx ls r)) → W p l e R s m args below meth c H locs cells slots Q (F0 m pc ls str)
  | .ne => (¬ x = y → W p l e R s m args below meth c H locs cells slots Q (F0 m tg ls r)) → (x = y → W p l e R s m args below meth c H locs cells slots Q (F0 m nx ls r)) → W p l e R s m args below meth c H locs cells slots Q (F0 m pc ls str)
  | .lt => (x < y → W p l e R s m args below meth c H locs cells slots Q (F0 m tg ls r)) → (¬ x < y → W p l e R s m args below meth c H locs cells slots Q (F0 m nx ls r)) → W p l e R s m args below meth c H locs cells slots Q (F0 m pc ls str)
  | .ge => (y ≤ x → W p l e R s m args below meth c H locs cells slots Q (F0 m tg ls r)) → (¬ y ≤ x → W p l e R s m args below meth c H locs cells slots Q (F0 m nx ls r)) → W p l e R s m args below meth c H locs cells slots Q (F0 m pc ls str)
  | .gt => (y < x → W p l e R s m args below meth c H locs cells slots Q (F0 m tg ls r)) → (¬ y < x → W p l e R s m args below meth c H locs cells slots Q (F0 m nx ls r)) → W p l e R s m args below meth c H locs cells slots Q (F0 m pc ls str)
  | .le => (x ≤ y → W p l e R s m args below meth c H locs cells slots Q (F0 m tg ls r)) → (¬ x ≤ y → W p l e R s m args below meth c H locs cells slots Q (F0 m nx ls r)) → W p l e R s m args below meth c H locs cells slots Q (F0 m pc ls str)
theorem z_br {cd : ClassFile.Cond} {x y : Int32} {tg : Nat} {r r' : List Value} (hs : zbr cd x y tg nx L r h = some (.inl (pc', L', st', h', dc, ds))) (I1 : zLR sp ads L ls nL) (hr : zS sp ads r r') (I3 : zW sp ty D A H0 ads h H locs) (kk : zKK p l e R s m args below meth c cells slots Q sp ty D A H0 nL ads pc' L' st' h' dc ds)
    (row : zrow p l e R s m args below meth c H locs cells slots Q cd x y tg nx ls r' str pc) : W p l e R s m args below meth c H locs cells slots Q (F0 m pc ls str) := by
  cases cd <;> (unfold zbr at hs; dsimp only at hs; unfold zrow at row; dsimp only at row; refine row (fun g => ?_) (fun g => ?_) <;> first | (rw [if_pos g] at hs; exact zgo_kk hs kk I1 hr I3) | (rw [if_neg g] at hs; exact zgo_kk hs kk I1 hr I3))
theorem z_off {o : Int} {r r' : List Value} (hs : zoff pc o L r h = some (.inl (pc', L', st', h', dc, ds))) (I1 : zLR sp ads L ls nL) (hr : zS sp ads r r') (I3 : zW sp ty D A H0 ads h H locs) (kk : zKK p l e R s m args below meth c cells slots Q sp ty D A H0 nL ads pc' L' st' h' dc ds) : ∃ tg : Nat, (pc : Int) + o = (tg : Int) ∧ W p l e R s m args below meth c H locs cells slots Q (F0 m tg ls r') := by
  unfold zoff at hs
  split at hs
  · next t ht => exact ⟨t, ht, zgo_kk hs kk I1 hr I3⟩
  · cases hs
theorem z_W {k : Nat} {ce : Nat × List Value} (I3 : zW sp ty D A H0 ads h H locs) (hk : h[k]? = some ce) {v' : Value} (hv : zV sp ads (.ref k) v') : ∃ (ws : va_W) (a : Nat) (e : va_E), v' = .ref a ∧ ads[k]? = some a ∧ ws[k]? = some (a, e) ∧ zC sp ty ads ce e ∧ va_P D zcl ws H ∧ va_D A ws ∧ va_S A H0 H locs ∧ ws.map (fun q => q.1) = ads ∧ h.length = ws.length ∧ ∀ (k : Nat) (c : Nat × List Value) (q : Nat × va_E), h[k]? = some c → ws[k]? = some q → zC sp ty ads c q.2 := by
  obtain ⟨ws, w1, w2, w3, w4, w5, w6⟩ := I3
  obtain ⟨a, ha, rfl⟩ := hv
  have hl : k < ws.length := by rw [← w5]; exact (List.getElem?_eq_some_iff.mp hk).1
  obtain ⟨q, hq⟩ : ∃ q, ws[k]? = some q := ⟨_, List.getElem?_eq_getElem hl⟩
  have h1 : ads[k]? = some q.1 := by rw [← w4, List.getElem?_map, hq]; rfl
  cases Option.some.inj (ha.symm.trans h1)
  exact ⟨ws, q.1, q.2, rfl, h1, hq, w6 k _ q hk hq, w1, w2, w3, w4, w5, w6⟩
/-- a cell written anew, of the same tag -/
theorem z_Wset {ws : va_W} {k a : Nat} {e0 e : va_E} {ce : Nat × List Value} {H1 : Heap} {locs1 : List Loc} (w4 : ws.map (fun q => q.1) = ads) (w5 : h.length = ws.length) (w6 : ∀ (k : Nat) (c : Nat × List Value) (q : Nat × va_E), h[k]? = some c → ws[k]? = some q → zC sp ty ads c q.2) (hq : ws[k]? = some (a, e0)) (hc : zC sp ty ads ce e) (w1 : va_P D zcl (ws.set k (a, e)) H1) (w2 : va_D A (ws.set k (a, e))) (w3 : va_S A H0 H1 locs1) : zW sp ty D A H0 ads (h.set k ce) H1 locs1 := by
  have hl := (List.getElem?_eq_some_iff.mp hq).1
  refine ⟨_, w1, w2, w3, ?_, by simp [w5], fun j c q h1 h2 => ?_⟩
  · rw [List.map_set, ← w4]
    refine List.ext_getElem? fun j => ?_
    by_cases e9 : j = k
    · subst e9
      rw [List.getElem?_set_self (by simpa using hl), List.getElem?_map, hq]
      rfl
    · rw [List.getElem?_set_ne (fun z => e9 z.symm)]
  · by_cases e9 : j = k
    · subst e9
      rw [List.getElem?_set_self (by omega)] at h1
      rw [List.getElem?_set_self hl] at h2
      cases h1; cases h2
      exact hc
    · rw [List.getElem?_set_ne (fun z => e9 z.symm)] at h1 h2
      exact w6 j c q h1 h2
theorem zC_mono {ce : Nat × List Value} {e : va_E} (q : List Nat) (hc : zC sp ty ads ce e) : zC sp ty (ads ++ q) ce e := by
  rcases hc with ⟨h1, vs', h2, h3⟩ | hc | ⟨h1, f, h2, h3⟩
  · exact Or.inl ⟨h1, vs', h2, zS_mono q h3⟩
  · exact Or.inr (Or.inl hc)
  · exact Or.inr (Or.inr ⟨h1, f, h2, fun j x hx => zV_mono q (h3 j x hx)⟩)
/-- new cells -/
theorem z_Wapp {ws : va_W} {wn : va_W} {hn : zH} {H1 : Heap} {locs1 : List Loc} (w4 : ws.map (fun q => q.1) = ads) (w5 : h.length = ws.length) (w6 : ∀ (k : Nat) (c : Nat × List Value) (q : Nat × va_E), h[k]? = some c → ws[k]? = some q → zC sp ty ads c q.2) (hl : hn.length = wn.length) (hc : ∀ (k : Nat) (c : Nat × List Value) (q : Nat × va_E), hn[k]? = some c → wn[k]? = some q → zC sp ty (ads ++ wn.map (fun q => q.1)) c q.2) (w1 : va_P D zcl (ws ++ wn) H1) (w2 : va_D A (ws ++ wn)) (w3 : va_S A H0 H1 locs1) : zW sp ty D A H0 (ads ++ wn.map (fun q => q.1)) (h ++ hn) H1 locs1 := by
  refine ⟨_, w1, w2, w3, by rw [List.map_append, w4], by simp [w5, hl], fun k c q h1 h2 => ?_⟩
  by_cases e9 : k < h.length
  · rw [List.getElem?_append_left e9] at h1
    rw [List.getElem?_append_left (by omega)] at h2
    exact zC_mono _ (w6 k c q h1 h2)
  · rw [List.getElem?_append_right (by omega)] at h1
    rw [List.getElem?_append_right (by omega)] at h2
    rw [← w5] at h2
    exact hc _ c q h1 h2
theorem z_in {i : Int32} {n : Nat} (h1 : ¬ i < 0) (h2 : i.toNatClampNeg < n) : vp_in i n := fun q => q.elim h1 (fun q => by omega)
theorem z_arr {t : Nat} {vs : List Value} {e : va_E} (ht : t = 100 ∨ t = 101 ∨ t = 102) (hc : zC sp ty ads (t, vs) e) : ∃ f : Nat → Int32, e = .inl (ty (t - 100), vs.length, .inl f) ∧ ∀ (j : Nat) (x : Value), vs[j]? = some x → x = .int (f j) := by
  rcases hc with ⟨h1, -⟩ | ⟨-, hc⟩ | ⟨h1, -⟩
  · exact absurd h1 (by dsimp only; omega)
  · exact hc
  · exact absurd h1 (by dsimp only; omega)
theorem z_arq {t : Nat} {vs : List Value} {e : va_E} (ht : t = 103 ∨ t = 104) (hc : zC sp ty ads (t, vs) e) : ∃ f : Nat → Option Nat, e = .inl (ty (t - 100), vs.length, .inr (.inr (.inr (.inr f)))) ∧ ∀ (j : Nat) (x : Value), vs[j]? = some x → zV sp ads x (va_rf (f j)) := by
  rcases hc with ⟨h1, -⟩ | ⟨h1, -⟩ | ⟨-, hc⟩
  · exact absurd h1 (by dsimp only; omega)
  · exact absurd h1 (by dsimp only; omega)
  · exact hc
theorem z_obj {t : Nat} {vs : List Value} {e : va_E} (ht : t < 100) (hc : zC sp ty ads (t, vs) e) : ∃ vs', e = .inr (t, vs') ∧ zS sp ads vs vs' := by
  rcases hc with ⟨-, hc⟩ | ⟨h1, -⟩ | ⟨h1, -⟩
  · exact hc
  · exact absurd h1 (by dsimp only; omega)
  · exact absurd h1 (by dsimp only; omega)
theorem z_ald {t : Nat} (ht : t = 100 ∨ t = 101 ∨ t = 102) (hs : zald t nx L st h = some (.inl (pc', L', st', h', dc, ds))) (I : zR sp ty D A H0 nL ads L st h ls str H locs) (kk : zKK p l e R s m args below meth c cells slots Q sp ty D A H0 nL ads pc' L' st' h' dc ds)
    (row : ∀ (ws : va_W) (k a n : Nat) (f : Nat → Int32) (i : Int32) (r : List Value), va_P D zcl ws H → ws[k]? = some (a, .inl (ty (t - 100), n, .inl f)) → vp_in i n → W p l e R s m args below meth c H locs cells slots Q (F0 m nx ls (.int (f i.toNatClampNeg) :: r)) → W p l e R s m args below meth c H locs cells slots Q (F0 m pc ls (.int i :: .ref a :: r))) : W p l e R s m args below meth c H locs cells slots Q (F0 m pc ls str) := by
  obtain ⟨I1, I2, I3⟩ := I
  unfold zald at hs
  split at hs
  · next i a r =>
    split at hs
    · next t' vs ha =>
      split at hs
      · next e1 =>
        subst e1
        split at hs
        · next x hx =>
          split at hs
          · cases hs
          · next hi =>
            obtain ⟨_, _, rfl, hv, _, _, rfl, hw, hr⟩ := I2
            cases (show _ = Value.int _ from hv)
            obtain ⟨ws, b, e, rfl, w0, w1, w2, w3, -⟩ := z_W I3 ha hw
            obtain ⟨f, rfl, hf⟩ := z_arr ht w2
            cases hf _ _ hx
            exact row ws _ b _ f i _ w3 w1 (z_in hi (List.getElem?_eq_some_iff.mp hx).1) (zgo_kk hs kk I1 ⟨_, _, rfl, rfl, hr⟩ I3)
        · cases hs
      · cases hs
    · cases hs
  · cases hs
theorem z_ast {t : Nat} {g : Int32 → Option Int32} (ht : t = 100 ∨ t = 101 ∨ t = 102) (hs : zast t g nx L st h = some (.inl (pc', L', st', h', dc, ds))) (I : zR sp ty D A H0 nL ads L st h ls str H locs) (kk : zKK p l e R s m args below meth c cells slots Q sp ty D A H0 nL ads pc' L' st' h' dc ds)
    (row : ∀ (ws : va_W) (k a n : Nat) (f : Nat → Int32) (i x z : Int32) (r : List Value), g x = some z → va_P D zcl ws H → va_D A ws → va_S A H0 H locs → ws[k]? = some (a, .inl (ty (t - 100), n, .inl f)) → vp_in i n →
      (∀ (H1 : Heap) (locs1 : List Loc), va_P D zcl (ws.set k (a, .inl (ty (t - 100), n, .inl (upd f i.toNatClampNeg z)))) H1 → va_D A (ws.set k (a, .inl (ty (t - 100), n, .inl (upd f i.toNatClampNeg z)))) → va_S A H0 H1 locs1 → W p l e R s m args below meth c H1 locs1 cells slots Q (F0 m nx ls r)) →
      W p l e R s m args below meth c H locs cells slots Q (F0 m pc ls (.int x :: .int i :: .ref a :: r))) : W p l e R s m args below meth c H locs cells slots Q (F0 m pc ls str) := by
  obtain ⟨I1, I2, I3⟩ := I
  unfold zast at hs
  split at hs
  · next x i a r =>
    split at hs
    · next t' vs ha =>
      split at hs
      · next e1 =>
        subst e1
        split at hs
        · cases hs
        · next hi =>
          split at hs
          · next hl =>
            split at hs
            · next z hz =>
              obtain ⟨_, _, rfl, hu, _, _, rfl, hv, _, _, rfl, hw, hr⟩ := I2
              cases (show _ = Value.int _ from hu); cases (show _ = Value.int _ from hv)
              obtain ⟨ws, b, e, rfl, w0, w1, w2, w3, w4, w5, w6, w7, w8⟩ := z_W I3 ha hw
              obtain ⟨f, rfl, hf⟩ := z_arr ht w2
              refine row ws _ b _ f i x z _ hz w3 w4 w5 w1 (z_in hi hl) (fun H1 locs1 g1 g2 g3 => ?_)
              refine zgo_kk hs kk I1 hr (z_Wset w6 w7 w8 w1 (Or.inr (Or.inl ⟨ht, upd f i.toNatClampNeg z, by rw [List.length_set], fun j x hj => ?_⟩)) g1 g2 g3)
              dsimp only at hj
              by_cases e9 : j = i.toNatClampNeg
              · subst e9
                rw [List.getElem?_set_self hl] at hj
                cases hj
                rw [show upd f i.toNatClampNeg z i.toNatClampNeg = z from if_pos rfl]
              · rw [List.getElem?_set_ne (fun z => e9 z.symm)] at hj
                rw [hf j x hj, show upd f i.toNatClampNeg z j = f j from if_neg e9]
            · cases hs
          · cases hs
      · cases hs
    · cases hs
  · cases hs
theorem z_aald (hs : zaald nx L st h = some (.inl (pc', L', st', h', dc, ds))) (I : zR sp ty D A H0 nL ads L st h ls str H locs) (kk : zKK p l e R s m args below meth c cells slots Q sp ty D A H0 nL ads pc' L' st' h' dc ds)
    (row : ∀ (ws : va_W) (t k a n : Nat) (f : Nat → Option Nat) (i : Int32) (r : List Value), (t = 103 ∨ t = 104) → va_P D zcl ws H → ws[k]? = some (a, .inl (ty (t - 100), n, .inr (.inr (.inr (.inr f))))) → vp_in i n → W p l e R s m args below meth c H locs cells slots Q (F0 m nx ls (va_rf (f i.toNatClampNeg) :: r)) → W p l e R s m args below meth c H locs cells slots Q (F0 m pc ls (.int i :: .ref a :: r))) : W p l e R s m args below meth c H locs cells slots Q (F0 m pc ls str) := by
  obtain ⟨I1, I2, I3⟩ := I
  unfold zaald at hs
  split at hs
  · next i a r =>
    split at hs
    · next t vs ha =>
      split at hs
      · next ht =>
        split at hs
        · next x hx =>
          split at hs
          · cases hs
          · next hi =>
            obtain ⟨_, _, rfl, hv, _, _, rfl, hw, hr⟩ := I2
            cases (show _ = Value.int _ from hv)
            obtain ⟨ws, b, e, rfl, w0, w1, w2, w3, -⟩ := z_W I3 ha hw
            obtain ⟨f, rfl, hf⟩ := z_arq ht w2
            exact row ws t _ b _ f i _ ht w3 w1 (z_in hi (List.getElem?_eq_some_iff.mp hx).1) (zgo_kk hs kk I1 ⟨_, _, rfl, hf _ _ hx, hr⟩ I3)
        · cases hs
      · cases hs
    · cases hs
  · cases hs
theorem z_aast (hs : zaast nx L st h = some (.inl (pc', L', st', h', dc, ds))) (I : zR sp ty D A H0 nL ads L st h ls str H locs) (kk : zKK p l e R s m args below meth c cells slots Q sp ty D A H0 nL ads pc' L' st' h' dc ds)
    (row : ∀ (ws : va_W) (k k2 a b n n2 : Nat) (f : Nat → Option Nat) (f2 : Nat → Int32) (i : Int32) (r : List Value), va_P D zcl ws H → va_D A ws → va_S A H0 H locs → ws[k]? = some (a, .inl (ty 3, n, .inr (.inr (.inr (.inr f))))) → ws[k2]? = some (b, .inl (ty 0, n2, .inl f2)) → vp_in i n →
      (∀ (H1 : Heap) (locs1 : List Loc), va_P D zcl (ws.set k (a, .inl (ty 3, n, .inr (.inr (.inr (.inr (va_up f i.toNatClampNeg (some b)))))))) H1 → va_D A (ws.set k (a, .inl (ty 3, n, .inr (.inr (.inr (.inr (va_up f i.toNatClampNeg (some b)))))))) → va_S A H0 H1 locs1 → W p l e R s m args below meth c H1 locs1 cells slots Q (F0 m nx ls r)) →
      W p l e R s m args below meth c H locs cells slots Q (F0 m pc ls (.ref b :: .int i :: .ref a :: r))) : W p l e R s m args below meth c H locs cells slots Q (F0 m pc ls str) := by
  obtain ⟨I1, I2, I3⟩ := I
  unfold zaast at hs
  split at hs
  · next x i a r =>
    split at hs
    · next t vs t' vs' ha hx =>
      split at hs
      · next ht =>
        obtain ⟨rfl, rfl⟩ := ht
        split at hs
        · cases hs
        · next hi =>
          split at hs
          · next hl =>
            obtain ⟨_, _, rfl, hu, _, _, rfl, hv, _, _, rfl, hw, hr⟩ := I2
            cases (show _ = Value.int _ from hv)
            have hu9 := hu
            obtain ⟨b, hb9, rfl⟩ := hu9
            obtain ⟨ws, b1, e, rfl, w0, w1, w2, w3, w4, w5, w6, w7, w8⟩ := z_W I3 ha hw
            obtain ⟨f, rfl, hf⟩ := z_arq (Or.inl rfl) w2
            have hl2 : x < ws.length := by rw [← w7]; exact (List.getElem?_eq_some_iff.mp hx).1
            obtain ⟨q, hq⟩ : ∃ q, ws[x]? = some q := ⟨_, List.getElem?_eq_getElem hl2⟩
            have h1 : ads[x]? = some q.1 := by rw [← w6, List.getElem?_map, hq]; rfl
            cases Option.some.inj (hb9.symm.trans h1)
            obtain ⟨q1, q2⟩ := q
            obtain ⟨f2, rfl, -⟩ := z_arr (Or.inl rfl) (w8 _ _ _ hx hq)
            refine row ws _ _ b1 _ _ _ f f2 i _ w3 w4 w5 w1 hq (z_in hi hl) (fun H1 locs1 g1 g2 g3 => ?_)
            refine zgo_kk hs kk I1 hr (z_Wset w6 w7 w8 w1 (Or.inr (Or.inr ⟨Or.inl rfl, va_up f i.toNatClampNeg (some q1), by simp only [List.length_set], fun j x9 hj => ?_⟩)) g1 g2 g3)
            dsimp only at hj
            by_cases e9 : j = i.toNatClampNeg
            · subst e9
              rw [List.getElem?_set_self hl] at hj
              cases hj
              rw [va_up_self]
              exact hu
            · rw [List.getElem?_set_ne (fun z => e9 z.symm)] at hj
              rw [va_up_ne _ _ e9]
              exact hf j x9 hj
          · cases hs
      · cases hs
    · cases hs
  · cases hs
theorem z_get {f9 k : Nat} (hs : zget zcf f9 k nx L st h = some (.inl (pc', L', st', h', dc, ds))) (I : zR sp ty D A H0 nL ads L st h ls str H locs) (kk : zKK p l e R s m args below meth c cells slots Q sp ty D A H0 nL ads pc' L' st' h' dc ds)
    (row : ∀ (ws : va_W) (j a ci kd : Nat) (vs : List Value) (v : Value) (r : List Value), va_P D zcl ws H → ws[j]? = some (a, .inr (ci, vs)) → (zcf ci)[k]? = some (f9, kd) → vs[k]? = some v → W p l e R s m args below meth c H locs cells slots Q (F0 m nx ls (v :: r)) → W p l e R s m args below meth c H locs cells slots Q (F0 m pc ls (.ref a :: r))) : W p l e R s m args below meth c H locs cells slots Q (F0 m pc ls str) := by
  obtain ⟨I1, I2, I3⟩ := I
  unfold zget at hs
  split at hs
  · next a r =>
    split at hs
    · next t vs ha =>
      split at hs
      · next f' kd hf =>
        split at hs
        · next e1 =>
          subst e1
          split at hs
          · next v hv9 =>
            obtain ⟨_, _, rfl, hw, hr⟩ := I2
            obtain ⟨ws, b, e, rfl, w0, w1, w2, w3, -⟩ := z_W I3 ha hw
            have ht : t < 100 := by
              by_cases q : t < 11
              · omega
              · have : zcf t = [] := zcf_out (by omega)
                rw [this] at hf
                cases hf
            obtain ⟨vs', rfl, h9⟩ := z_obj ht w2
            obtain ⟨v', g1, g2⟩ := zS_at h9 hv9
            exact row ws _ b t kd vs' v' _ w3 w1 hf g1 (zgo_kk hs kk I1 ⟨_, _, rfl, g2, hr⟩ I3)
          · cases hs
        · cases hs
      · cases hs
    · cases hs
  · cases hs
theorem zfdk_V {kd : Nat} {v v' : Value} (h : zfdk kd v = true) (hv : zV sp ads v v') {t9 : FieldType} (ht : zkt kd t9) : narrow t9 v' = v' ∧ fits t9 v' = true := by
  unfold zfdk at h
  split at h
  · cases (show _ = Value.int _ from hv)
    cases (show t9 = .int from ht)
    exact ⟨rfl, rfl⟩
  · next x =>
    cases (show _ = Value.int _ from hv)
    cases (show t9 = .boolean from ht)
    rcases of_decide_eq_true h with rfl | rfl <;> exact ⟨rfl, rfl⟩
  · next x =>
    cases (show _ = Value.int _ from hv)
    cases (show t9 = .byte from ht)
    obtain ⟨h1, h2⟩ := of_decide_eq_true h
    refine ⟨?_, by simp [fits, h1, h2]⟩
    exact zby h1 h2
  · cases (show _ = Value.long _ from hv)
    cases (show t9 = .long from ht)
    exact ⟨rfl, rfl⟩
  · cases (show _ = Value.double _ from hv)
    cases (show t9 = .double from ht)
    exact ⟨rfl, rfl⟩
  · obtain ⟨a, -, rfl⟩ := hv
    rcases (show (∃ n, t9 = .object n) ∨ ∃ t, t9 = .array t from ht) with ⟨n, rfl⟩ | ⟨n, rfl⟩ <;> exact ⟨rfl, rfl⟩
  · cases (show _ = Value.null from hv)
    rcases (show (∃ n, t9 = .object n) ∨ ∃ t, t9 = .array t from ht) with ⟨n, rfl⟩ | ⟨n, rfl⟩ <;> exact ⟨rfl, rfl⟩
  · obtain ⟨-, rfl⟩ := hv
    rcases (show (∃ n, t9 = .object n) ∨ ∃ t, t9 = .array t from ht) with ⟨n, rfl⟩ | ⟨n, rfl⟩ <;> exact ⟨rfl, rfl⟩
  · cases h
theorem z_put {f9 k : Nat} (hs : zput zcf f9 k nx L st h = some (.inl (pc', L', st', h', dc, ds))) (I : zR sp ty D A H0 nL ads L st h ls str H locs) (kk : zKK p l e R s m args below meth c cells slots Q sp ty D A H0 nL ads pc' L' st' h' dc ds)
    (row : ∀ (ws : va_W) (j a ci kd : Nat) (vs : List Value) (v : Value) (r : List Value), va_P D zcl ws H → va_D A ws → va_S A H0 H locs → ws[j]? = some (a, .inr (ci, vs)) → (zcf ci)[k]? = some (f9, kd) → (∀ t9, zkt kd t9 → narrow t9 v = v ∧ fits t9 v = true) → k < vs.length →
      (∀ (H1 : Heap) (locs1 : List Loc), va_P D zcl (ws.set j (a, .inr (ci, vs.set k v))) H1 → va_D A (ws.set j (a, .inr (ci, vs.set k v))) → va_S A H0 H1 locs1 → W p l e R s m args below meth c H1 locs1 cells slots Q (F0 m nx ls r)) → W p l e R s m args below meth c H locs cells slots Q (F0 m pc ls (v :: .ref a :: r))) : W p l e R s m args below meth c H locs cells slots Q (F0 m pc ls str) := by
  obtain ⟨I1, I2, I3⟩ := I
  unfold zput at hs
  split at hs
  · next v a r =>
    split at hs
    · next t vs ha =>
      split at hs
      · next f' kd hf =>
        split at hs
        · next e1 =>
          subst e1
          split at hs
          · next hk9 =>
            split at hs
            · next hl =>
              obtain ⟨v', _, rfl, hv, _, _, rfl, hw, hr⟩ := I2
              obtain ⟨ws, b, e, rfl, w0, w1, w2, w3, w4, w5, w6, w7, w8⟩ := z_W I3 ha hw
              have ht : t < 100 := by
                by_cases q : t < 11
                · omega
                · have : zcf t = [] := zcf_out (by omega)
                  rw [this] at hf
                  cases hf
              obtain ⟨vs', rfl, h9⟩ := z_obj ht w2
              refine row ws _ b t kd vs' v' _ w3 w4 w5 w1 hf (fun t9 g => zfdk_V hk9 hv g) (by rw [zS_len h9]; exact hl) (fun H1 locs1 g1 g2 g3 => ?_)
              exact zgo_kk hs kk I1 hr (z_Wset w6 w7 w8 w1 (Or.inl ⟨ht, _, rfl, zS_set hv h9 k⟩) g1 g2 g3)
            · cases hs
          · cases hs
        · cases hs
      · cases hs
    · cases hs
  · cases hs
theorem z_alen (hSP : zSP xs sp A s) (hs : zalen xs nx L st h = some (.inl (pc', L', st', h', dc, ds))) (I : zR sp ty D A s.heap nL ads L st h ls str H locs) (kk : zKK p l e R s m args below meth c cells slots Q sp ty D A s.heap nL ads pc' L' st' h' dc ds)
    (row : ∀ (ws : va_W) (t k a : Nat) (x : vp_A) (r : List Value), 100 ≤ t → t < 105 → va_P D zcl ws H → ws[k]? = some (a, .inl (ty (t - 100), x)) → W p l e R s m args below meth c H locs cells slots Q (F0 m nx ls (.int (Int32.ofNat x.1) :: r)) → W p l e R s m args below meth c H locs cells slots Q (F0 m pc ls (.ref a :: r)))
    (rowX : ∀ r : List Value, va_S A s.heap H locs → W p l e R s m args below meth c H locs cells slots Q (F0 m nx ls (.int (Int32.ofNat xs.length) :: r)) → W p l e R s m args below meth c H locs cells slots Q (F0 m pc ls (.ref (sp 0) :: r)))
    (rowE : ∀ r : List Value, va_S A s.heap H locs → W p l e R s m args below meth c H locs cells slots Q (F0 m nx ls (.int 0 :: r)) → W p l e R s m args below meth c H locs cells slots Q (F0 m pc ls (.ref (sp 1) :: r))) : W p l e R s m args below meth c H locs cells slots Q (F0 m pc ls str) := by
  obtain ⟨I1, I2, I3⟩ := I
  unfold zalen at hs
  split at hs
  · next a r =>
    split at hs
    · next t vs ha =>
      split at hs
      · next ht =>
        obtain ⟨_, _, rfl, hw, hr⟩ := I2
        obtain ⟨ws, b, e, rfl, w0, w1, w2, w3, -⟩ := z_W I3 ha hw
        rcases w2 with ⟨h1, -⟩ | ⟨h1, f, rfl, -⟩ | ⟨h1, f, rfl, -⟩
        · exact absurd h1 (by dsimp only; omega)
        · exact row ws t _ b (vs.length, .inl f) _ ht (by dsimp only at h1; omega) w3 w1 (zgo_kk hs kk I1 ⟨_, _, rfl, rfl, hr⟩ I3)
        · exact row ws t _ b (vs.length, .inr (.inr (.inr (.inr f)))) _ ht (by dsimp only at h1; omega) w3 w1 (zgo_kk hs kk I1 ⟨_, _, rfl, rfl, hr⟩ I3)
      · cases hs
    · cases hs
  · obtain ⟨_, _, rfl, ⟨-, rfl⟩, hr⟩ := I2
    obtain ⟨ws, w1, w2, w3, -⟩ := id I3
    exact rowX _ w3 (zgo_kk hs kk I1 ⟨_, _, rfl, rfl, hr⟩ I3)
  · obtain ⟨_, _, rfl, ⟨-, rfl⟩, hr⟩ := I2
    obtain ⟨ws, w1, w2, w3, -⟩ := id I3
    exact rowE _ w3 (zgo_kk hs kk I1 ⟨_, _, rfl, rfl, hr⟩ I3)
  · cases hs
theorem z_ialoadX (hs : zialoadX xs nx L st h = some (.inl (pc', L', st', h', dc, ds))) (I : zR sp ty D A s.heap nL ads L st h ls str H locs) (kk : zKK p l e R s m args below meth c cells slots Q sp ty D A s.heap nL ads pc' L' st' h' dc ds)
    (row : ∀ (ws : va_W) (k a n : Nat) (f : Nat → Int32) (i : Int32) (r : List Value), va_P D zcl ws H → ws[k]? = some (a, .inl (ty (100 - 100), n, .inl f)) → vp_in i n → W p l e R s m args below meth c H locs cells slots Q (F0 m nx ls (.int (f i.toNatClampNeg) :: r)) → W p l e R s m args below meth c H locs cells slots Q (F0 m pc ls (.int i :: .ref a :: r)))
    (rowX : ∀ (i : Int32) (r : List Value), va_S A s.heap H locs → vp_in i xs.length → W p l e R s m args below meth c H locs cells slots Q (F0 m nx ls (.int (xs.getD i.toNatClampNeg 0) :: r)) → W p l e R s m args below meth c H locs cells slots Q (F0 m pc ls (.int i :: .ref (sp 0) :: r))) : W p l e R s m args below meth c H locs cells slots Q (F0 m pc ls str) := by
  unfold zialoadX at hs
  split at hs
  · next i r =>
    obtain ⟨I1, I2, I3⟩ := I
    split at hs
    · cases hs
    · next hi =>
      split at hs
      · next x hx =>
        obtain ⟨_, _, rfl, hv, _, _, rfl, ⟨-, rfl⟩, hr⟩ := I2
        cases (show _ = Value.int _ from hv)
        obtain ⟨ws, w1, w2, w3, -⟩ := id I3
        refine rowX i _ w3 (z_in hi (List.getElem?_eq_some_iff.mp hx).1) ?_
        rw [List.getD_eq_getElem?_getD, hx]
        exact zgo_kk hs kk I1 ⟨_, _, rfl, rfl, hr⟩ I3
      · cases hs
  · exact z_ald (Or.inl rfl) hs I kk row
/-- a new object of a class -/
theorem z_new {y c9 idx : Nat} (hX : zX xs sp ty D A y p R s m args meth c) (hc9 : c9 < 6) (hl : zCok (zmo y, idx, c9)) (hdg : decode (zmb y) pc = .ok (.new idx, 3)) (hnx : nx = pc + 3) (hs : znew zcf c9 nx L st h = some (.inl (pc', L', st', h', dc, ds))) (I : zR sp ty D A s.heap nL ads L st h ls str H locs)
    (hcl : cells + dc ≤ R.cells) (hsl : slots + ds ≤ R.slots) (kk : zKK p l e R s m args below meth c cells slots Q sp ty D A s.heap nL ads pc' L' st' h' dc ds) : W p l e R s m args below meth c H locs cells slots Q (F0 m pc ls str) := by
  obtain ⟨hx, hb, hml, hret, hlk, hown, hnm, hts, hK, hA, hSP, -⟩ := hX
  obtain ⟨I1, I2, ws, w1, w2, w3, w4, w5, w6⟩ := I
  obtain ⟨l1, l2, l3⟩ := hl
  obtain ⟨o1, o2, o3, o4, o5, o6⟩ := zc_ok c9 hc9
  cases (show some (Sum.inl (nx, L, Value.ref h.length :: st, h ++ [(c9, (zcf c9).map (fun q => zdf q.2))], 1, (zcf c9).length)) = some (Sum.inl (pc', L', st', h', dc, ds)) from hs)
  subst hnx
  refine va_new (D := D) (ci := c9) (fs := (zcf c9).map (fun q => zdf q.2)) (C := zcn c9) (T := zT c9) (N := (zcf c9).length) hx hb hts o1 (zty c9) o3 hown (hts _ l1) (hts _ l2) (hts _ l3) hK w1 w2 w3 hA o6 (fun j hj => ?_) hcl hsl hdg (fun q H1 g1 g2 g3 => ?_)
  · rw [o5 j hj]
    unfold vp_V
    simp only [List.getD_eq_getElem?_getD, List.getElem?_map, List.getElem?_eq_getElem hj]
    rfl
  · refine kk [q] ls (.ref q :: str) H1 locs ⟨zLR_mono _ I1, ⟨_, _, rfl, ⟨q, ?_, rfl⟩, zS_mono _ I2⟩, z_Wapp (wn := [(q, .inr (c9, (zcf c9).map (fun q => zdf q.2)))]) w4 w5 w6 rfl (fun k c q h1 h2 => ?_) g1 g2 g3⟩
    · have : ads.length = h.length := by rw [← w4, List.length_map, w5]
      rw [← this, List.getElem?_append_right (Nat.le_refl _), Nat.sub_self]
      rfl
    · cases k with
      | zero =>
        cases h1; cases h2
        exact Or.inl ⟨by dsimp only; omega, _, rfl, zdfs _ _ _⟩
      | succ k => simp at h1
/-- a new row of numbers -/
theorem z_newa {y : Nat} {at9 : ArrayType} (hX : zX xs sp ty D A y p R s m args meth c) (hdg : decode (zmb y) pc = .ok (.newarray at9, 2)) (hnx : nx = pc + 2) (hs : znewa (ztag at9) (.int 0) nx L st h = some (.inl (pc', L', st', h', dc, ds))) (I : zR sp ty D A s.heap nL ads L st h ls str H locs)
    (hcl : cells + dc ≤ R.cells) (hsl : slots + ds ≤ R.slots) (kk : zKK p l e R s m args below meth c cells slots Q sp ty D A s.heap nL ads pc' L' st' h' dc ds) : W p l e R s m args below meth c H locs cells slots Q (F0 m pc ls str) := by
  obtain ⟨hx, hb, hml, hret, hlk, hown, hnm, hts, hK, hA, hSP, -⟩ := hX
  obtain ⟨I1, I2, ws, w1, w2, w3, w4, w5, w6⟩ := I
  unfold znewa at hs
  split at hs
  · next n r =>
    split at hs
    · cases hs
    · next hn =>
      split at hs
      · next hN =>
        split at hs
        · cases hs
        · next ht =>
          obtain ⟨_, r9, rfl, hv, hr⟩ := I2
          cases (show _ = Value.int _ from hv)
          cases hs
          subst hnx
          have key : ∀ (t9 : FieldType) (t0 : Nat), newarray.typeOf at9 = t9 → ztag at9 = 100 + t0 → t0 ≤ 2 → (ztys ty)[t0]? = some (ty t0, t9) → defaultValue t9 = .int 0 → componentBytes t9 ≤ 4 → (Jvm.Cond.arrayClass t9) ∈ zB → s.vm.findClass ("[" ++ t9.toString) = some (ty t0) → W p l e R s m args below meth c H locs cells slots Q (F0 m pc ls (.int n :: r9)) := by
            intro t9 t0 e1 e2 e3 e4 e5 e6 e7 e8
            refine va_newaK hx hb (by rw [e1]; exact hts _ e7) (g := F0 m pc ls (.int n :: r9)) rfl hdg rfl hn rfl (by rw [e1]; exact Nat.le_trans (Nat.mul_le_mul hN e6) (by decide)) hcl hsl rfl fun H1 cA f1 z1 o1 hAr hNm => ?_
            rw [e1] at f1 hAr hNm
            have hcA : cA = ty t0 := Option.some.inj (hNm.symm.trans e8)
            subst hcA
            have hk : ∀ (k : Nat) (x : Nat × va_E), ws[k]? = some x → H1[x.1]? = H[x.1]? := fun k x hx => o1 x.1 ((w1 k x hx).lt)
            rw [e2] at kk
            refine kk [H.size] ls (.ref H.size :: r9) H1 locs ⟨zLR_mono _ I1, ⟨_, _, rfl, ⟨H.size, ?_, rfl⟩, zS_mono _ hr⟩, z_Wapp (wn := [(H.size, .inl (ty t0, n.toNatClampNeg, .inl (fun _ => 0)))]) w4 w5 w6 rfl (fun k c q h1 h2 => ?_) ((w1.kept hk).app (fun k x hx => ?_)) (w2.push w1 rfl (hA _ w3.1)) ⟨Nat.le_trans w3.1 (by omega), fun x h1 h2 => (o1 x (Nat.lt_of_lt_of_le h1 w3.1)).trans (w3.2.1 x h1 h2), w3.2.2⟩⟩
            · have : ads.length = h.length := by rw [← w4, List.length_map, w5]
              rw [← this, List.getElem?_append_right (Nat.le_refl _), Nat.sub_self]
              rfl
            · cases k with
              | zero =>
                cases h1; cases h2
                refine Or.inr (Or.inl ⟨by dsimp only; omega, fun _ => 0, by simp, fun j x hj => ?_⟩)
                exact (List.eq_of_mem_replicate (List.mem_of_getElem? hj))
              | succ k => simp at h1
            · have hz : k < 1 := (List.getElem?_eq_some_iff.mp hx).1
              rw [show k = 0 by omega] at hx
              cases hx
              show H1[H.size]? = some (vp_cell _ _)
              rw [vp_cell_i, f1, e5]
          have hk2 := hK.2
          cases at9 <;> first
            | exact key .int 0 rfl rfl (by decide) rfl rfl (by decide) zAi ((hk2 0 _ rfl).2)
            | exact absurd rfl ht
      · cases hs
  · cases hs
end ZZ
end
section
/-! The throws, the handlers, and each method's rows. -/
def zEn (E : Nat) : String := ["java/lang/IllegalArgumentException", "java/lang/IndexOutOfBoundsException", "java/lang/IllegalStateException"].getD E ""
def zTn : List String := ["java/lang/RuntimeException", "java/lang/Exception"]
theorem zTn_fit : ∀ n ∈ zTn, Bundle.fit n = true := by decide +kernel
def zTok (q : Nat × Nat × Nat × Nat) : Prop := ∃ (is9 ic : Nat) (tx : String), Jvm.Cond.classLink (zon (zmo q.1)) q.2.2.1 (zEn q.2.2.2) ∈ zB ∧ Jvm.Cond.initialized (zEn q.2.2.2) ∈ zB ∧ (zon (zmo q.1), is9, tx) ∈ zTX ∧ (∀ w ∈ vx_atS (zon (zmo q.1)) ic (zEn q.2.2.2) zTn, w ∈ zB ∨ w ∈ zN2) ∧ decode (zmb q.1) (q.2.1 + 3) = .ok (.dup, 1) ∧
  ((decode (zmb q.1) (q.2.1 + 4) = .ok (.ldc is9, 2) ∧ decode (zmb q.1) (q.2.1 + 6) = .ok (.invokespecial ic, 3) ∧ decode (zmb q.1) (q.2.1 + 9) = .ok (.athrow, 1)) ∨ (decode (zmb q.1) (q.2.1 + 4) = .ok (.ldc_w is9, 3) ∧ decode (zmb q.1) (q.2.1 + 7) = .ok (.invokespecial ic, 3) ∧ decode (zmb q.1) (q.2.1 + 10) = .ok (.athrow, 1))) ∧ Bundle.fit (zEn q.2.2.2) = true
theorem zat_in {l : List Jvm.Cond} (h : l.all (fun w => zN2.contains w || (lw_tbl.contains w && goodWord w)) = true) : ∀ w ∈ l, w ∈ zB ∨ w ∈ zN2 := by
  intro w hw
  have h1 := List.all_eq_true.mp h w hw
  rw [Bool.or_eq_true, Bool.and_eq_true] at h1
  rcases h1 with h1 | h1
  · exact Or.inr (List.contains_iff_mem.mp h1)
  · exact Or.inl (List.mem_append_left _ (List.mem_filter.mpr ⟨List.contains_iff_mem.mp h1.1, h1.2⟩))
theorem zTw_66 : ∀ w ∈ vx_atS "Scrubward" 66 (zEn 0) zTn, w ∈ zB ∨ w ∈ zN2 := zat_in (by decide +kernel)
theorem zTw_162 : ∀ w ∈ vx_atS "Scrubward" 162 (zEn 2) zTn, w ∈ zB ∨ w ∈ zN2 := zat_in (by decide +kernel)
theorem zTw_235 : ∀ w ∈ vx_atS "Scrubward" 235 (zEn 1) zTn, w ∈ zB ∨ w ∈ zN2 := zat_in (by decide +kernel)
theorem zTs_0 : zTok (56, 20, 62, 0) := ⟨135, 66, "bits is not a set of bits of a word", zb 382 (by decide +kernel) (by decide +kernel), zb 43 (by decide +kernel) (by decide +kernel), by decide +kernel, zTw_66, by decide +kernel, Or.inl ⟨by decide +kernel, by decide +kernel, by decide +kernel⟩, by decide +kernel⟩
theorem zTs_1 : zTok (57, 15, 62, 0) := ⟨146, 66, "there is no such bit", zb 382 (by decide +kernel) (by decide +kernel), zb 43 (by decide +kernel) (by decide +kernel), by decide +kernel, zTw_66, by decide +kernel, Or.inl ⟨by decide +kernel, by decide +kernel, by decide +kernel⟩, by decide +kernel⟩
theorem zTs_2 : zTok (57, 38, 158, 2) := ⟨160, 162, "there are 24 stuck cells", zb 407 (by decide +kernel) (by decide +kernel), zb 45 (by decide +kernel) (by decide +kernel), by decide +kernel, zTw_162, by decide +kernel, Or.inl ⟨by decide +kernel, by decide +kernel, by decide +kernel⟩, by decide +kernel⟩
theorem zTs_3 : zTok (58, 15, 62, 0) := ⟨146, 66, "there is no such bit", zb 382 (by decide +kernel) (by decide +kernel), zb 43 (by decide +kernel) (by decide +kernel), by decide +kernel, zTw_66, by decide +kernel, Or.inl ⟨by decide +kernel, by decide +kernel, by decide +kernel⟩, by decide +kernel⟩
theorem zTs_4 : zTok (58, 36, 62, 0) := ⟨170, 66, "span is not 1 to 60", zb 382 (by decide +kernel) (by decide +kernel), zb 43 (by decide +kernel) (by decide +kernel), by decide +kernel, zTw_66, by decide +kernel, Or.inl ⟨by decide +kernel, by decide +kernel, by decide +kernel⟩, by decide +kernel⟩
theorem zTs_5 : zTok (58, 59, 158, 2) := ⟨175, 162, "there are 24 weak cells", zb 407 (by decide +kernel) (by decide +kernel), zb 45 (by decide +kernel) (by decide +kernel), by decide +kernel, zTw_162, by decide +kernel, Or.inl ⟨by decide +kernel, by decide +kernel, by decide +kernel⟩, by decide +kernel⟩
theorem zTs_6 : zTok (59, 16, 62, 0) := ⟨180, 66, "times is not 1 to 100", zb 382 (by decide +kernel) (by decide +kernel), zb 43 (by decide +kernel) (by decide +kernel), by decide +kernel, zTw_66, by decide +kernel, Or.inl ⟨by decide +kernel, by decide +kernel, by decide +kernel⟩, by decide +kernel⟩
theorem zTs_7 : zTok (60, 11, 62, 0) := ⟨192, 66, "period is not 1 to 100", zb 382 (by decide +kernel) (by decide +kernel), zb 43 (by decide +kernel) (by decide +kernel), by decide +kernel, zTw_66, by decide +kernel, Or.inl ⟨by decide +kernel, by decide +kernel, by decide +kernel⟩, by decide +kernel⟩
theorem zTs_8 : zTok (60, 32, 62, 0) := ⟨194, 66, "limit is not 2 to 100", zb 382 (by decide +kernel) (by decide +kernel), zb 43 (by decide +kernel) (by decide +kernel), by decide +kernel, zTw_66, by decide +kernel, Or.inl ⟨by decide +kernel, by decide +kernel, by decide +kernel⟩, by decide +kernel⟩
theorem zTs_9 : zTok (60, 52, 62, 0) := ⟨196, 66, "steps is not 0 to 8", zb 382 (by decide +kernel) (by decide +kernel), zb 43 (by decide +kernel) (by decide +kernel), by decide +kernel, zTw_66, by decide +kernel, Or.inl ⟨by decide +kernel, by decide +kernel, by decide +kernel⟩, by decide +kernel⟩
theorem zTs_10 : zTok (63, 19, 158, 2) := ⟨221, 162, "the tick would be above 2000", zb 407 (by decide +kernel) (by decide +kernel), zb 45 (by decide +kernel) (by decide +kernel), by decide +kernel, zTw_162, by decide +kernel, Or.inl ⟨by decide +kernel, by decide +kernel, by decide +kernel⟩, by decide +kernel⟩
theorem zTs_11 : zTok (66, 11, 233, 1) := ⟨146, 235, "there is no such bit", zb 306 (by decide +kernel) (by decide +kernel), zb 44 (by decide +kernel) (by decide +kernel), by decide +kernel, zTw_235, by decide +kernel, Or.inl ⟨by decide +kernel, by decide +kernel, by decide +kernel⟩, by decide +kernel⟩
theorem zTs_12 : zTok (69, 10, 62, 0) := ⟨261, 66, "many is not 2 or 3", zb 382 (by decide +kernel) (by decide +kernel), zb 43 (by decide +kernel) (by decide +kernel), by decide +kernel, zTw_66, by decide +kernel, Or.inr ⟨by decide +kernel, by decide +kernel, by decide +kernel⟩, by decide +kernel⟩
theorem zTs_13 : zTok (70, 131, 62, 0) := ⟨269, 66, "what is not 0 to 6", zb 382 (by decide +kernel) (by decide +kernel), zb 43 (by decide +kernel) (by decide +kernel), by decide +kernel, zTw_66, by decide +kernel, Or.inr ⟨by decide +kernel, by decide +kernel, by decide +kernel⟩, by decide +kernel⟩
theorem zTs_14 : zTok (71, 14, 233, 1) := ⟨274, 235, "there is no such line", zb 306 (by decide +kernel) (by decide +kernel), zb 44 (by decide +kernel) (by decide +kernel), by decide +kernel, zTw_235, by decide +kernel, Or.inr ⟨by decide +kernel, by decide +kernel, by decide +kernel⟩, by decide +kernel⟩
theorem zTs_15 : zTok (71, 123, 62, 0) := ⟨288, 66, "what is not 0 to 4", zb 382 (by decide +kernel) (by decide +kernel), zb 43 (by decide +kernel) (by decide +kernel), by decide +kernel, zTw_66, by decide +kernel, Or.inr ⟨by decide +kernel, by decide +kernel, by decide +kernel⟩, by decide +kernel⟩
theorem zTs_16 : zTok (72, 15, 233, 1) := ⟨290, 235, "there is no such entry", zb 306 (by decide +kernel) (by decide +kernel), zb 44 (by decide +kernel) (by decide +kernel), by decide +kernel, zTw_235, by decide +kernel, Or.inr ⟨by decide +kernel, by decide +kernel, by decide +kernel⟩, by decide +kernel⟩
theorem zTs_17 : zTok (72, 88, 62, 0) := ⟨301, 66, "what is not 0 to 2", zb 382 (by decide +kernel) (by decide +kernel), zb 43 (by decide +kernel) (by decide +kernel), by decide +kernel, zTw_66, by decide +kernel, Or.inr ⟨by decide +kernel, by decide +kernel, by decide +kernel⟩, by decide +kernel⟩
theorem zTs_18 : zTok (74, 239, 62, 0) := ⟨324, 66, "what is not 0 to 17", zb 382 (by decide +kernel) (by decide +kernel), zb 43 (by decide +kernel) (by decide +kernel), by decide +kernel, zTw_66, by decide +kernel, Or.inr ⟨by decide +kernel, by decide +kernel, by decide +kernel⟩, by decide +kernel⟩
theorem zTs_19 : zTok (82, 11, 233, 1) := ⟨391, 235, "there is no such address", zb 306 (by decide +kernel) (by decide +kernel), zb 44 (by decide +kernel) (by decide +kernel), by decide +kernel, zTw_235, by decide +kernel, Or.inr ⟨by decide +kernel, by decide +kernel, by decide +kernel⟩, by decide +kernel⟩
theorem zTs_20 : zTok (83, 9, 233, 1) := ⟨393, 235, "there is no such bank", zb 306 (by decide +kernel) (by decide +kernel), zb 44 (by decide +kernel) (by decide +kernel), by decide +kernel, zTw_235, by decide +kernel, Or.inr ⟨by decide +kernel, by decide +kernel, by decide +kernel⟩, by decide +kernel⟩
theorem zTs_21 : zTok (84, 14, 233, 1) := ⟨395, 235, "there is no such row", zb 306 (by decide +kernel) (by decide +kernel), zb 44 (by decide +kernel) (by decide +kernel), by decide +kernel, zTw_235, by decide +kernel, Or.inr ⟨by decide +kernel, by decide +kernel, by decide +kernel⟩, by decide +kernel⟩
theorem zTs_22 : zTok (85, 11, 62, 0) := ⟨397, 66, "ticks is not 1 to 100", zb 382 (by decide +kernel) (by decide +kernel), zb 43 (by decide +kernel) (by decide +kernel), by decide +kernel, zTw_66, by decide +kernel, Or.inr ⟨by decide +kernel, by decide +kernel, by decide +kernel⟩, by decide +kernel⟩
theorem zTs_23 : zTok (86, 15, 62, 0) := ⟨402, 66, "data does not fit into the data bits", zb 382 (by decide +kernel) (by decide +kernel), zb 43 (by decide +kernel) (by decide +kernel), by decide +kernel, zTw_66, by decide +kernel, Or.inr ⟨by decide +kernel, by decide +kernel, by decide +kernel⟩, by decide +kernel⟩
theorem zTs_24 : zTok (87, 8, 158, 2) := ⟨404, 162, "the word is retired", zb 407 (by decide +kernel) (by decide +kernel), zb 45 (by decide +kernel) (by decide +kernel), by decide +kernel, zTw_162, by decide +kernel, Or.inr ⟨by decide +kernel, by decide +kernel, by decide +kernel⟩, by decide +kernel⟩
def zTL : List (Nat × Nat × Nat × Nat) := [(56, 20, 62, 0), (57, 15, 62, 0), (57, 38, 158, 2), (58, 15, 62, 0), (58, 36, 62, 0), (58, 59, 158, 2), (59, 16, 62, 0), (60, 11, 62, 0), (60, 32, 62, 0), (60, 52, 62, 0), (63, 19, 158, 2), (66, 11, 233, 1), (69, 10, 62, 0), (70, 131, 62, 0), (71, 14, 233, 1), (71, 123, 62, 0), (72, 15, 233, 1), (72, 88, 62, 0), (74, 239, 62, 0), (82, 11, 233, 1), (83, 9, 233, 1), (84, 14, 233, 1), (85, 11, 62, 0), (86, 15, 62, 0), (87, 8, 158, 2)]
theorem zTL_ok : ∀ q ∈ zTL, zTok q := List.forall_mem_cons.mpr ⟨zTs_0, List.forall_mem_cons.mpr ⟨zTs_1, List.forall_mem_cons.mpr ⟨zTs_2, List.forall_mem_cons.mpr ⟨zTs_3, List.forall_mem_cons.mpr ⟨zTs_4, List.forall_mem_cons.mpr ⟨zTs_5, List.forall_mem_cons.mpr ⟨zTs_6, List.forall_mem_cons.mpr ⟨zTs_7, List.forall_mem_cons.mpr ⟨zTs_8, List.forall_mem_cons.mpr ⟨zTs_9, List.forall_mem_cons.mpr ⟨zTs_10, List.forall_mem_cons.mpr ⟨zTs_11, List.forall_mem_cons.mpr ⟨zTs_12, List.forall_mem_cons.mpr ⟨zTs_13, List.forall_mem_cons.mpr ⟨zTs_14, List.forall_mem_cons.mpr ⟨zTs_15, List.forall_mem_cons.mpr ⟨zTs_16, List.forall_mem_cons.mpr ⟨zTs_17, List.forall_mem_cons.mpr ⟨zTs_18, List.forall_mem_cons.mpr ⟨zTs_19, List.forall_mem_cons.mpr ⟨zTs_20, List.forall_mem_cons.mpr ⟨zTs_21, List.forall_mem_cons.mpr ⟨zTs_22, List.forall_mem_cons.mpr ⟨zTs_23, List.forall_mem_cons.mpr ⟨zTs_24, fun _ h => absurd h List.not_mem_nil⟩⟩⟩⟩⟩⟩⟩⟩⟩⟩⟩⟩⟩⟩⟩⟩⟩⟩⟩⟩⟩⟩⟩⟩⟩
def zhe (ct : Nat) : Nat :=  99
theorem zhe_ok {ct E : Nat} (h : zhe ct = E) (hE : E < 3) : False := by
  unfold zhe at h
  omega
theorem zOi1 : Jvm.Cond.instanceMethod Lib.objectInit ∈ zB := zb 52 (by decide +kernel) (by decide +kernel)
theorem zOi2 : Jvm.Cond.code Lib.objectInit ⟨#[0xb1]⟩ 1 none ∈ zB := zb 53 (by decide +kernel) (by decide +kernel)
end
section
/-! One step, whatever the instruction: the rows' check, and the lemma. -/
def zlen (i : Instr) : Nat := match i with
  | .iload _ | .lload _ | .dload _ | .aload _ | .istore _ | .lstore _ | .dstore _ | .astore _ | .bipush _ | .ldc _ | .newarray _ => 2
  | .iinc _ _ | .sipush _ | .ldc_w _ | .ldc2_w _ | .ifCond _ _ | .if_icmp _ _ | .goto _ | .getfield _ | .putfield _ | .getstatic _ | .new _ | .anewarray _ | .checkcast _ | .invokestatic _ | .invokevirtual _ | .invokespecial _ | .if_acmp _ _ | .ifnonnull _ => 3
  | .multianewarray _ _ => 4
  | .invokeinterface _ _ => 5
  | .tableswitch _ _ _ _ | .lookupswitch _ _ => 0
  | _ => 1
def zlk (y : Nat) (i : Instr) (pc k yy n c : Nat) : Bool := match i with
  | .ifCond _ off => decide ((pc : Int) + off = (k : Int))
  | .if_icmp _ off => decide ((pc : Int) + off = (k : Int))
  | .goto off => decide ((pc : Int) + off = (k : Int))
  | .ldc _ => false
  | .getstatic _ => false
  | .checkcast _ => false
  | .if_acmp _ _ => false
  | .anewarray _ => false
  | .multianewarray _ _ => false
  | .ldc_w j => decide ((zmo y, j, 5, yy) ∈ zKL)
  | .ldc2_w j => decide ((zmo y, j, k, yy) ∈ zKL)
  | .baload => false
  | .bastore => false
  | .aaload => false
  | .aastore => false
  | .lookupswitch _ ps => (ps.toList.zip (ps.toList.drop 1)).all (fun (a, next) => decide (a.1 < next.1))
  | .getfield j => decide ((zmo y, j, yy) ∈ zFL)
  | .putfield j => decide ((zmo y, j, yy) ∈ zFL) && (decide ((zFT yy).2.2.2 = false) || (decide ((zmn y).name = "<init>") && decide ((zFT yy).1 = zon (zmo y))))
  | .new j => (decide (k = 9) && decide ((y, pc, j, yy) ∈ zTL) && decide (zmh y = [])) || (decide (k ≠ 9) && decide ((zmo y, j, c) ∈ zCL) && decide (c < 6))
  | .invokestatic j => if k = 10 ∨ k = 12 ∨ k = 13 then false else (decide ((zmo y, j, yy) ∈ zSL) && decide (yy < 250) && decide (yy ≠ zlaw) && decide (zmp yy = n))
  | .invokevirtual j => if k = 11 ∨ k = 6 then false else decide ((zmo y, j, yy, c) ∈ zVL) && decide (yy < 250) && decide (yy ≠ zlaw) && decide (zmp yy = n) && decide (c < 6) && decide (zmh yy = [])
  | .invokeinterface _ _ => false
  | .invokespecial j => if k = 8 then decide ((zmo y, j) ∈ zOL) else if k = 7 then false else decide ((zmo y, j, yy) ∈ zIL) && decide (yy < 250) && decide (yy ≠ zlaw) && decide (zmp yy = n) && decide (zmh yy = []) && decide (zmr yy = none)
  | .ireturn => decide (k = 0 ∧ zmr y = some .int) || decide (k = 1 ∧ zmr y = some .boolean) || decide (k = 2 ∧ zmr y = some .char)
  | .lreturn => decide (zmr y = some .long)
  | .dreturn => decide (zmr y = some .double)
  | .areturn => (match zmr y with
    | some (.object _) => true
    | some (.array _) => true
    | _ => false)
  | .return_ => decide (zmr y = none)
  | _ => true
def zrok (y : Nat) (r : zRow) : Bool := match decode (zmb y) r.1 with
  | .ok (i, len) => decide (i = r.2.1) && decide (r.2.2.1 = r.1 + len) && (decide (zlen i = len) || decide (zlen i = 0)) && zlk y i r.1 r.2.2.2.1 r.2.2.2.2.1 r.2.2.2.2.2.1 r.2.2.2.2.2.2
  | .error _ => false
theorem zrok_ok {y pc nx k yy n c : Nat} {i : Instr} (h : zrok y (pc, i, nx, k, yy, n, c) = true) : ∃ len, decode (zmb y) pc = .ok (i, len) ∧ nx = pc + len ∧ (zlen i = len ∨ zlen i = 0) ∧ zlk y i pc k yy n c = true := by
  unfold zrok at h
  dsimp only at h
  split at h
  · next i' len he =>
    simp only [Bool.and_eq_true, Bool.or_eq_true, decide_eq_true_eq] at h
    obtain ⟨⟨⟨rfl, h2⟩, h3⟩, h4⟩ := h
    exact ⟨len, he, h2, h3, h4⟩
  · cases h
theorem zrok1 {y pc nx k yy n c : Nat} {i : Instr} (h : zrok y (pc, i, nx, k, yy, n, c) = true) (hz : zlen i ≠ 0) : decode (zmb y) pc = .ok (i, zlen i) ∧ nx = pc + zlen i ∧ zlk y i pc k yy n c = true := by
  obtain ⟨len, h1, h2, h3, h4⟩ := zrok_ok h
  have e : zlen i = len := h3.resolve_right hz
  rw [e]
  exact ⟨h1, h2, h4⟩
section ZY
variable {p : Program} {l : Launch} {e : Env} {R : Room} {s : State} {m : MethodId} {args : Array Value} {below : List Frame} {meth : Method} {c : Code} {H : Heap} {locs : List Loc} {cells slots : Nat} {Q : State → Prop}
variable {xs : List Int32} {sp : Nat → Nat} {ty : Nat → ClassId} {D : va_G} {A : Nat → Prop} {ads : List Nat}
variable {y pc nx k yy n c9 pc' dc ds : Nat} {L L' : zL} {st st' str : List Value} {h h' : zH} {ls : Array Slot}
theorem z_fget {idx f ci kd k : Nat} (hX : zX xs sp ty D A y p R s m args meth c) (hl : zFok (zmo y, idx, f)) (hdg : decode (zmb y) pc = .ok (.getfield idx, 3)) {ws : va_W} {j a : Nat} {vs : List Value} {v : Value} {r : List Value} (w1 : va_P D zcl ws H) (hj : ws[j]? = some (a, .inr (ci, vs))) (hf : (zcf ci)[k]? = some (f, kd)) (hv : vs[k]? = some v)
    (kk : W p l e R s m args below meth c H locs cells slots Q (F0 m (pc + 3) ls (v :: r))) : W p l e R s m args below meth c H locs cells slots Q (F0 m pc ls (.ref a :: r)) := by
  obtain ⟨hx, hb, hml, hret, hlk, hown, hnm, hts, hK, hA, hSP, -⟩ := hX
  have hci : ci < 11 := by
    by_cases q : ci < 11
    · exact q
    · rw [zcf_out (by omega)] at hf
      cases hf
  obtain ⟨o1, o2, o3, o4, o5, o6⟩ := zc_ok ci hci
  have hk : k < (zcf ci).length := (List.getElem?_eq_some_iff.mp hf).1
  have hT : zT ci k = zFT f := by
    unfold zT
    rw [List.getD_eq_getElem?_getD, hf]
    rfl
  unfold zFok at hl
  rw [← hT] at hl
  rcases hl with ⟨ref, q1, q2⟩ | ⟨host, q1, q3⟩
  · exact va_get (D := D) (ci := ci) hx hb hts o1 hown hK w1 j hj o6 k hk (hts _ q1) (fun x h9 => by
      rcases q2 with rfl | q2
      · exact h9
      · exact u_same (hts _ q2) x h9) hv hdg kk
  · exact va_getN (D := D) (ci := ci) hx hb hts o1 hown hK w1 j hj o6 k hk (va_Nw.use rfl (hSP.1 _ q1)) (fun x h9 => h9) hv hdg kk
theorem z_fput {idx f ci kd k : Nat} (hX : zX xs sp ty D A y p R s m args meth c) (hl : zFok (zmo y, idx, f)) (hfin : (zFT f).2.2.2 = false ∨ ((zmn y).name = "<init>" ∧ (zFT f).1 = zon (zmo y))) (hdg : decode (zmb y) pc = .ok (.putfield idx, 3)) {ws : va_W} {j a : Nat} {vs : List Value} {v : Value} {r : List Value} (w1 : va_P D zcl ws H) (w2 : va_D A ws) (w3 : va_S A s.heap H locs) (hj : ws[j]? = some (a, .inr (ci, vs))) (hf : (zcf ci)[k]? = some (f, kd)) (hv : ∀ t9, zkt kd t9 → narrow t9 v = v ∧ fits t9 v = true) (hkl : k < vs.length)
    (kk : ∀ (H1 : Heap) (locs1 : List Loc), va_P D zcl (ws.set j (a, .inr (ci, vs.set k v))) H1 → va_D A (ws.set j (a, .inr (ci, vs.set k v))) → va_S A s.heap H1 locs1 → W p l e R s m args below meth c H1 locs1 cells slots Q (F0 m (pc + 3) ls r)) : W p l e R s m args below meth c H locs cells slots Q (F0 m pc ls (v :: .ref a :: r)) := by
  obtain ⟨hx, hb, hml, hret, hlk, hown, hnm, hts, hK, hA, hSP, -⟩ := hX
  have hci : ci < 11 := by
    by_cases q : ci < 11
    · exact q
    · rw [zcf_out (by omega)] at hf
      cases hf
  obtain ⟨o1, o2, o3, o4, o5, o6⟩ := zc_ok ci hci
  have hk : k < (zcf ci).length := (List.getElem?_eq_some_iff.mp hf).1
  have hT : zT ci k = zFT f := by
    unfold zT
    rw [List.getD_eq_getElem?_getD, hf]
    rfl
  have hkt : zkt kd (zty ci k) := by
    have := o4 k hk
    rw [List.getD_eq_getElem?_getD, hf] at this
    exact zktb_ok this
  obtain ⟨g1, g2⟩ := hv _ hkt
  unfold zFok at hl
  rw [← hT] at hl hfin
  rcases hfin with hfin | ⟨hfn, hfd⟩
  · rcases hl with ⟨ref, q1, q2⟩ | ⟨host, q1, q3⟩
    · exact va_put (D := D) (ci := ci) hx hb hts o1 (zty ci) o3 o2 hown hK w1 w2 w3 j hj o6 k hk (hts _ q1) (fun x h9 => by
        rcases q2 with rfl | q2
        · exact h9
        · exact u_same (hts _ q2) x h9) hfin (o3 k hk) g1 g2 hkl hdg kk
    · exact va_putN (D := D) (ci := ci) hx hb hts o1 (zty ci) o3 o2 hown hK w1 w2 w3 j hj o6 k hk (va_Nw.use rfl (hSP.1 _ q1)) (fun x h9 => h9) hfin (o3 k hk) g1 g2 hkl hdg kk
  · by_cases hff : (zT ci k).2.2.2 = true
    · rcases hl with ⟨ref, q1, q2⟩ | ⟨host, q1, q3⟩
      · exact va_putF (D := D) (ci := ci) hx hb hts o1 (zty ci) o3 o2 hown hK w1 w2 w3 j hj o6 k hk (hts _ q1) (fun x h9 => by
          rcases q2 with rfl | q2
          · exact h9
          · exact u_same (hts _ q2) x h9) hff (hnm hfn) hfd (o3 k hk) g1 g2 hkl hdg kk
      · exact absurd hfd q3
    · have hff : (zT ci k).2.2.2 = false := by simpa using hff
      rcases hl with ⟨ref, q1, q2⟩ | ⟨host, q1, q3⟩
      · exact va_put (D := D) (ci := ci) hx hb hts o1 (zty ci) o3 o2 hown hK w1 w2 w3 j hj o6 k hk (hts _ q1) (fun x h9 => by
          rcases q2 with rfl | q2
          · exact h9
          · exact u_same (hts _ q2) x h9) hff (o3 k hk) g1 g2 hkl hdg kk
      · exact va_putN (D := D) (ci := ci) hx hb hts o1 (zty ci) o3 o2 hown hK w1 w2 w3 j hj o6 k hk (va_Nw.use rfl (hSP.1 _ q1)) (fun x h9 => h9) hff (o3 k hk) g1 g2 hkl hdg kk
theorem zcall_ne {q : Nat × zL × List Value × zH × Nat × Nat} : ¬ zcall n yy nx st = some (.inl q) := by
  intro hs
  unfold zcall at hs
  split at hs
  · split at hs <;> cases hs
  · cases hs
theorem zcallV_ne {q : Nat × zL × List Value × zH × Nat × Nat} : ¬ zcallV n c9 yy nx st h = some (.inl q) := by
  intro hs
  unfold zcallV at hs
  split at hs
  · split at hs
    · split at hs
      · split at hs
        · split at hs <;> cases hs
        · cases hs
      · cases hs
    · cases hs
  · cases hs
theorem zcallI_ne {q : Nat × zL × List Value × zH × Nat × Nat} : ¬ zcallI n yy nx st = some (.inl q) := by
  intro hs
  unfold zcallI at hs
  split at hs
  · split at hs
    · split at hs <;> cases hs
    · cases hs
  · cases hs
theorem zirt_ne {q : Nat × zL × List Value × zH × Nat × Nat} : ¬ (match st with
      | [.int v] => if k = 0 ∨ (k = 1 ∧ (v = 0 ∨ v = 1)) ∨ (k = 2 ∧ 0 ≤ v ∧ v ≤ 255) then zret (some (.int v)) else none
      | _ => none) = some (.inl q) := by
  intro hs
  split at hs
  · split at hs <;> cases hs
  · cases hs
theorem zlrt_ne {q : Nat × zL × List Value × zH × Nat × Nat} : ¬ (match st with
      | [.long v] => zret (some (.long v))
      | _ => none) = some (.inl q) := by
  intro hs
  split at hs <;> cases hs
theorem zdrt_ne {q : Nat × zL × List Value × zH × Nat × Nat} : ¬ (match st with
      | [.double v] => zret (some (.double v))
      | _ => none) = some (.inl q) := by
  intro hs
  split at hs <;> cases hs
theorem zart_ne {q : Nat × zL × List Value × zH × Nat × Nat} : ¬ (match st with
      | [.ref v] => zret (some (.ref v))
      | [.retAddr v] => zret (some (.retAddr v))
      | _ => none) = some (.inl q) := by
  intro hs
  split at hs <;> cases hs
theorem zvrt_ne {q : Nat × zL × List Value × zH × Nat × Nat} : ¬ (match st with
      | [] => zret none
      | _ => none) = some (.inl q) := by
  intro hs
  split at hs <;> cases hs
theorem z_mm (f : Int32 → Int32 → Int32) {nL : Nat} {H0 : Heap} (hs : zmm f nx L st h = some (.inl (pc', L', st', h', dc, ds))) (I : zR sp ty D A H0 nL ads L st h ls str H locs) (kk : zKK p l e R s m args below meth c cells slots Q sp ty D A H0 nL ads pc' L' st' h' dc ds)
    (row : ∀ (x y : Int32) (r : List Value), (r.map fun v => v.category).sum ≤ 8 → W p l e R s m args below meth c H locs cells slots Q (F0 m nx ls (.int (f x y) :: r)) → W p l e R s m args below meth c H locs cells slots Q (F0 m pc ls (.int y :: .int x :: r))) : W p l e R s m args below meth c H locs cells slots Q (F0 m pc ls str) := by
  obtain ⟨I1, I2, I3⟩ := I
  unfold zmm at hs
  split at hs
  · split at hs
    · next g =>
      obtain ⟨_, _, rfl, hv, _, _, rfl, hw, hr⟩ := I2
      cases (show _ = Value.int _ from hv); cases (show _ = Value.int _ from hw)
      exact row _ _ _ (by rw [zS_cs hr]; exact g) (zgo_kk hs kk I1 ⟨_, _, rfl, rfl, hr⟩ I3)
    · cases hs
  · cases hs
theorem zkl {o j kd v : Nat} (h : (o, j, kd, v) ∈ zKL) : zKok (o, j, kd, v) := zKL_ok _ h
set_option maxHeartbeats 4000000 in
theorem z_step_ok {i : Instr} (hX : zX xs sp ty D A y p R s m args meth c) (hr : zrok y (pc, i, nx, k, yy, n, c9) = true) (hs : zstep zcf xs pc i nx k yy n c9 L st h = some (.inl (pc', L', st', h', dc, ds))) (I : zR sp ty D A s.heap (zmL y) ads L st h ls str H locs)
    (hcl : cells + dc ≤ R.cells) (hsl : slots + ds ≤ R.slots) (kk : zKK p l e R s m args below meth c cells slots Q sp ty D A s.heap (zmL y) ads pc' L' st' h' dc ds) : W p l e R s m args below meth c H locs cells slots Q (F0 m pc ls str) := by
  have hX0 := hX
  obtain ⟨hx, hb, hml, hret, hlk, hown, hnm, hts, hK, hA, hSP, hRf, hRl⟩ := hX
  have hlsz : c.maxLocals = ls.size := by
    obtain ⟨-, lv, hlv, -⟩ := I.1
    rw [hml, hlv.1]
  cases i with
  | iload j =>
    obtain ⟨hd, rfl, -⟩ := zrok1 hr (Nat.succ_ne_zero _)
    exact z_ldI hs I kk (fun x g w => lv_iload hx hb hd g w)
  | iload_n j =>
    obtain ⟨hd, rfl, -⟩ := zrok1 hr (Nat.succ_ne_zero _)
    exact z_ldI hs I kk (fun x g w => lv_iload_n hx hb hd rfl g w)
  | lload j =>
    obtain ⟨hd, rfl, -⟩ := zrok1 hr (Nat.succ_ne_zero _)
    exact z_ldL hs I kk (fun x g w => lv_lload hx hb hd g w)
  | lload_n j =>
    obtain ⟨hd, rfl, -⟩ := zrok1 hr (Nat.succ_ne_zero _)
    exact z_ldL hs I kk (fun x g w => lv_lload_n hx hb hd rfl g w)
  | dload j =>
    obtain ⟨hd, rfl, -⟩ := zrok1 hr (Nat.succ_ne_zero _)
    exact z_ldD hs I kk (fun x g w => lv_dload hx hb hd g w)
  | aload j =>
    obtain ⟨hd, rfl, -⟩ := zrok1 hr (Nat.succ_ne_zero _)
    exact z_ldA hs I kk (fun x g w => lv_aload hx hb hd g w) (fun g w => lv_aloadN hx hb hd g w)
  | aload_n j =>
    obtain ⟨hd, rfl, -⟩ := zrok1 hr (Nat.succ_ne_zero _)
    exact z_ldA hs I kk (fun x g w => lv_aload_n hx hb hd rfl g w) (fun g w => lv_aload_nN hx hb hd rfl g w)
  | istore j =>
    obtain ⟨hd, rfl, -⟩ := zrok1 hr (Nat.succ_ne_zero _)
    obtain ⟨I1, I2, I3⟩ := I
    have hs : zsI L j (pc + 2) st h = _ := hs
    unfold zsI at hs
    split at hs
    · obtain ⟨_, _, rfl, hv, hr9⟩ := I2
      cases (show _ = Value.int _ from hv)
      exact z_sv1 hs hv I1 hr9 I3 kk (fun lv g1 g2 w => lv_istore hx hb hd g1 g2 rfl w)
    · cases hs
  | istore_n j =>
    obtain ⟨hd, rfl, -⟩ := zrok1 hr (Nat.succ_ne_zero _)
    obtain ⟨I1, I2, I3⟩ := I
    have hs : zsI L j (pc + 1) st h = _ := hs
    unfold zsI at hs
    split at hs
    · obtain ⟨_, _, rfl, hv, hr9⟩ := I2
      cases (show _ = Value.int _ from hv)
      exact z_sv1 hs hv I1 hr9 I3 kk (fun lv g1 g2 w => lv_istore_n hx hb hd rfl g1 g2 rfl w)
    · cases hs
  | astore j =>
    obtain ⟨hd, rfl, -⟩ := zrok1 hr (Nat.succ_ne_zero _)
    obtain ⟨I1, I2, I3⟩ := I
    have hs : zsA L j (pc + 2) st h = _ := hs
    unfold zsA at hs
    split at hs
    · obtain ⟨_, _, rfl, hv, hr9⟩ := I2
      obtain ⟨a, -, rfl⟩ := id hv
      exact z_sv1 hs hv I1 hr9 I3 kk (fun lv g1 g2 w => lv_astore hx hb hd g1 g2 rfl w)
    · obtain ⟨_, _, rfl, hv, hr9⟩ := I2
      obtain ⟨-, rfl⟩ := id hv
      exact z_sv1 hs hv I1 hr9 I3 kk (fun lv g1 g2 w => lv_astore hx hb hd g1 g2 rfl w)
    · cases hs
  | astore_n j =>
    obtain ⟨hd, rfl, -⟩ := zrok1 hr (Nat.succ_ne_zero _)
    obtain ⟨I1, I2, I3⟩ := I
    have hs : zsA L j (pc + 1) st h = _ := hs
    unfold zsA at hs
    split at hs
    · obtain ⟨_, _, rfl, hv, hr9⟩ := I2
      obtain ⟨a, -, rfl⟩ := id hv
      exact z_sv1 hs hv I1 hr9 I3 kk (fun lv g1 g2 w => lv_astore_n hx hb hd rfl g1 g2 rfl w)
    · obtain ⟨_, _, rfl, hv, hr9⟩ := I2
      obtain ⟨-, rfl⟩ := id hv
      exact z_sv1 hs hv I1 hr9 I3 kk (fun lv g1 g2 w => lv_astore_n hx hb hd rfl g1 g2 rfl w)
    · cases hs
  | lstore j =>
    obtain ⟨hd, rfl, -⟩ := zrok1 hr (Nat.succ_ne_zero _)
    obtain ⟨I1, I2, I3⟩ := I
    have hs : zsL L j (pc + 2) st h = _ := hs
    unfold zsL at hs
    split at hs
    · obtain ⟨_, _, rfl, hv, hr9⟩ := I2
      cases (show _ = Value.long _ from hv)
      exact z_sv2 hs hv I1 hr9 I3 kk (fun lv g1 g2 w => lv_lstore hx hb hd g1 g2 rfl w)
    · cases hs
  | lstore_n j =>
    obtain ⟨hd, rfl, -⟩ := zrok1 hr (Nat.succ_ne_zero _)
    obtain ⟨I1, I2, I3⟩ := I
    have hs : zsL L j (pc + 1) st h = _ := hs
    unfold zsL at hs
    split at hs
    · obtain ⟨_, _, rfl, hv, hr9⟩ := I2
      cases (show _ = Value.long _ from hv)
      exact z_sv2 hs hv I1 hr9 I3 kk (fun lv g1 g2 w => lv_lstore_n hx hb hd rfl g1 g2 rfl w)
    · cases hs
  | dstore j =>
    obtain ⟨hd, rfl, -⟩ := zrok1 hr (Nat.succ_ne_zero _)
    obtain ⟨I1, I2, I3⟩ := I
    have hs : zsD L j (pc + 2) st h = _ := hs
    unfold zsD at hs
    split at hs
    · obtain ⟨_, _, rfl, hv, hr9⟩ := I2
      cases (show _ = Value.double _ from hv)
      exact z_sv2 hs hv I1 hr9 I3 kk (fun lv g1 g2 w => lv_dstore hx hb hd g1 g2 rfl w)
    · cases hs
  | iinc j z =>
    obtain ⟨hd, rfl, -⟩ := zrok1 hr (Nat.succ_ne_zero _)
    obtain ⟨I1, I2, I3⟩ := I
    have hs : zinc L j z (pc + 3) st h = _ := hs
    unfold zinc at hs
    split at hs
    · next x hx9 =>
      obtain ⟨h0, lv0, g0, g9⟩ := id I1
      obtain ⟨v', hv, hin⟩ := g9 j _ hx9
      cases (show _ = Value.int _ from hv)
      obtain ⟨L1, e1, e2⟩ : ∃ L1, zst1 (.int (x + Int32.ofInt z)) j L = some L1 ∧ zgo (pc + 3) L1 st h = some (.inl (pc', L', st', h', dc, ds)) := by
        unfold zsv1 at hs
        split at hs
        · next L1 h1 => exact ⟨L1, h1, hs⟩
        · cases hs
      obtain ⟨q1, q2, q3, q4⟩ := zst1_spec e1
      obtain ⟨kx, hkx⟩ := List.getElem?_of_mem hin
      refine lv_iinc (v := x + Int32.ofInt z) hx hb hd g0 hkx rfl (by omega) rfl (fun ls' g => zgo_kk e2 kk ⟨by omega, _, g, fun j2 w hj => ?_⟩ I2 I3)
      by_cases e9 : j2 = j
      · subst e9
        rw [q3] at hj
        cases hj
        exact ⟨_, rfl, List.mem_cons_self⟩
      · obtain ⟨r1, r2⟩ := q4 j2 w e9 hj
        obtain ⟨w', a, b⟩ := g9 j2 w r1
        refine ⟨w', a, List.mem_cons_of_mem _ (List.mem_filter.mpr ⟨b, ?_⟩)⟩
        have hc := zV_cat a
        by_cases e3 : j2 + 1 = j
        · rw [r2 e3] at hc
          simp [e9, hc]
        · simp [e9, e3]
    · cases hs
  | iconst z =>
    obtain ⟨hd, rfl, -⟩ := zrok1 hr (Nat.succ_ne_zero _)
    exact z_pu (v := .int (Int32.ofInt z)) (v' := .int (Int32.ofInt z)) rfl hs I kk (fun w => lv_iconst hx hb hd rfl w)
  | bipush z =>
    obtain ⟨hd, rfl, -⟩ := zrok1 hr (Nat.succ_ne_zero _)
    exact z_pu (v := .int (Int8.ofInt z).toInt32) (v' := .int (Int8.ofInt z).toInt32) rfl hs I kk (fun w => lv_bipush hx hb hd rfl w)
  | sipush z =>
    obtain ⟨hd, rfl, -⟩ := zrok1 hr (Nat.succ_ne_zero _)
    exact z_pu (v := .int (Int16.ofInt z).toInt32) (v' := .int (Int16.ofInt z).toInt32) rfl hs I kk (fun w => lv_sipush hx hb hd rfl w)
  | lconst z =>
    obtain ⟨hd, rfl, -⟩ := zrok1 hr (Nat.succ_ne_zero _)
    exact z_pu (v := .long (Int64.ofNat z)) (v' := .long (Int64.ofNat z)) rfl hs I kk (fun w => lv_lconst hx hb hd rfl w)
  | aconst_null =>
    obtain ⟨hd, rfl, -⟩ := zrok1 hr (Nat.succ_ne_zero _)
    exact z_pu (v := .null) (v' := .null) rfl hs I kk (fun w => lv_null hx hb hd w)
  | ldc j =>
    obtain ⟨-, -, hl⟩ := zrok1 hr (Nat.succ_ne_zero _)
    cases (show false = true from hl)
  | getstatic j =>
    obtain ⟨-, -, hl⟩ := zrok1 hr (Nat.succ_ne_zero _)
    cases (show false = true from hl)
  | checkcast j =>
    obtain ⟨-, -, hl⟩ := zrok1 hr (Nat.succ_ne_zero _)
    cases (show false = true from hl)
  | if_acmp q off =>
    obtain ⟨-, -, hl⟩ := zrok1 hr (Nat.succ_ne_zero _)
    cases (show false = true from hl)
  | ldc_w j =>
    obtain ⟨hd, rfl, hl⟩ := zrok1 hr (Nat.succ_ne_zero _)
    have hs : (if k = 0 then zpu L (.int (Int32.ofNat yy)) (pc + 3) st h else none) = some (.inl (pc', L', st', h', dc, ds)) := hs
    split at hs
    · next hk0 =>
      have hl := zkl (of_decide_eq_true (show decide ((zmo y, j, 5, yy) ∈ zKL) = true from hl))
      exact z_pu (v := .int (Int32.ofNat yy)) (v' := .int (Int32.ofNat yy)) rfl hs I kk (fun w => lv_ldcw hx hb hown (hts _ hl) hd w)
    · cases hs
  | ldc2_w j =>
    obtain ⟨hd, rfl, hl⟩ := zrok1 hr (Nat.succ_ne_zero _)
    have hs : (if k = 0 then zpu L (.long (Int64.ofNat yy)) (pc + 3) st h else if k = 1 then zpu L (.double (UInt64.ofNat yy)) (pc + 3) st h else none) = some (.inl (pc', L', st', h', dc, ds)) := hs
    have hl := zkl (of_decide_eq_true (show decide ((zmo y, j, k, yy) ∈ zKL) = true from hl))
    split at hs
    · next hk0 =>
      subst hk0
      exact z_pu (v := .long (Int64.ofNat yy)) (v' := .long (Int64.ofNat yy)) rfl hs I kk (fun w => lv_ldc2 hx hb hown (hts _ hl) hd w)
    · split at hs
      · next hk0 =>
        subst hk0
        exact z_pu (v := .double (UInt64.ofNat yy)) (v' := .double (UInt64.ofNat yy)) rfl hs I kk (fun w => lv_ldc2d hx hb hown (hts _ hl) hd w)
      · cases hs
  | iadd =>
    obtain ⟨hd, rfl, -⟩ := zrok1 hr (Nat.succ_ne_zero _)
    exact z_bin _ hs I kk (fun x y r w => lv_iadd hx hb hd w)
  | isub =>
    obtain ⟨hd, rfl, -⟩ := zrok1 hr (Nat.succ_ne_zero _)
    exact z_bin _ hs I kk (fun x y r w => lv_isub hx hb hd w)
  | imul =>
    obtain ⟨hd, rfl, -⟩ := zrok1 hr (Nat.succ_ne_zero _)
    exact z_bin _ hs I kk (fun x y r w => lv_imul hx hb hd w)
  | iand =>
    obtain ⟨hd, rfl, -⟩ := zrok1 hr (Nat.succ_ne_zero _)
    exact z_bin _ hs I kk (fun x y r w => lv_iand hx hb hd w)
  | ior =>
    obtain ⟨hd, rfl, -⟩ := zrok1 hr (Nat.succ_ne_zero _)
    exact z_bin _ hs I kk (fun x y r w => lv_ior hx hb hd w)
  | ixor =>
    obtain ⟨hd, rfl, -⟩ := zrok1 hr (Nat.succ_ne_zero _)
    exact z_bin _ hs I kk (fun x y r w => lv_ixor hx hb hd w)
  | ishl =>
    obtain ⟨hd, rfl, -⟩ := zrok1 hr (Nat.succ_ne_zero _)
    exact z_bin _ hs I kk (fun x y r w => lv_ishl hx hb hd w)
  | ishr =>
    obtain ⟨hd, rfl, -⟩ := zrok1 hr (Nat.succ_ne_zero _)
    exact z_bin _ hs I kk (fun x y r w => lv_ishr hx hb hd w)
  | iushr =>
    obtain ⟨hd, rfl, -⟩ := zrok1 hr (Nat.succ_ne_zero _)
    exact z_bin _ hs I kk (fun x y r w => lv_iushr hx hb hd rfl w)
  | idiv =>
    obtain ⟨hd, rfl, -⟩ := zrok1 hr (Nat.succ_ne_zero _)
    exact z_div _ hs I kk (fun x y r g w => lv_idiv hx hb hd g w)
  | irem =>
    obtain ⟨hd, rfl, -⟩ := zrok1 hr (Nat.succ_ne_zero _)
    exact z_div _ hs I kk (fun x y r g w => lv_irem hx hb hd g w)
  | ineg =>
    obtain ⟨hd, rfl, -⟩ := zrok1 hr (Nat.succ_ne_zero _)
    exact z_un (fun x => .int (-x)) (fun _ => rfl) hs I kk (fun x r w => lv_ineg hx hb hd w)
  | i2l =>
    obtain ⟨hd, rfl, -⟩ := zrok1 hr (Nat.succ_ne_zero _)
    exact z_un (fun x => .long x.toInt64) (fun _ => rfl) hs I kk (fun x r w => lv_i2l hx hb hd rfl w)
  | i2b =>
    obtain ⟨hd, rfl, -⟩ := zrok1 hr (Nat.succ_ne_zero _)
    exact z_un (fun x => .int x.toInt8.toInt32) (fun _ => rfl) hs I kk (fun x r w => lv_i2b hx hb hd rfl w)
  | i2c =>
    obtain ⟨hd, rfl, -⟩ := zrok1 hr (Nat.succ_ne_zero _)
    exact z_un (fun x => .int (x.toUInt32 % 65536).toInt32) (fun _ => rfl) hs I kk (fun x r w => lv_i2c hx hb hd rfl w)
  | i2d =>
    obtain ⟨hd, rfl, -⟩ := zrok1 hr (Nat.succ_ne_zero _)
    exact z_un (fun x => .double (FP.i2d x)) (fun _ => rfl) hs I kk (fun x r w => lv_i2d hx hb hd w)
  | lcmp =>
    obtain ⟨hd, rfl, -⟩ := zrok1 hr (Nat.succ_ne_zero _)
    exact z_lcmp hs I kk (fun x y r w => W.lcmp hx hb hd w)
  | ladd =>
    obtain ⟨hd, rfl, -⟩ := zrok1 hr (Nat.succ_ne_zero _)
    exact z_binL _ hs I kk (fun x y r w => lv_ladd hx hb hd w)
  | lmul =>
    obtain ⟨hd, rfl, -⟩ := zrok1 hr (Nat.succ_ne_zero _)
    exact z_binL _ hs I kk (fun x y r w => lv_lmul hx hb hd w)
  | ddiv =>
    obtain ⟨hd, rfl, -⟩ := zrok1 hr (Nat.succ_ne_zero _)
    exact z_binD _ hs I kk (fun x y r g w => lv_ddiv hx hb hd g w)
  | dmul =>
    obtain ⟨hd, rfl, -⟩ := zrok1 hr (Nat.succ_ne_zero _)
    exact z_binD _ hs I kk (fun x y r g w => lv_dmul hx hb hd g w)
  | d2l =>
    obtain ⟨hd, rfl, -⟩ := zrok1 hr (Nat.succ_ne_zero _)
    exact z_d2l hs I kk (fun x r w => lv_d2l hx hb hd w)
  | dup =>
    obtain ⟨hd, rfl, -⟩ := zrok1 hr (Nat.succ_ne_zero _)
    exact z_dup hs I kk (fun v r g w => lv_dup hx hb hd g w)
  | pop =>
    obtain ⟨hd, rfl, -⟩ := zrok1 hr (Nat.succ_ne_zero _)
    exact z_pop hs I kk (fun v r g w => lv_pop hx hb hd g w)
  | pop2 =>
    obtain ⟨hd, rfl, -⟩ := zrok1 hr (Nat.succ_ne_zero _)
    exact z_pop2 hs I kk (fun v r g w => lv_pop2_2 hx hb hd g w)
  | dup_x1 =>
    obtain ⟨hd, rfl, -⟩ := zrok1 hr (Nat.succ_ne_zero _)
    exact z_dupx1 hs I kk (fun v w r g g2 k9 => lv_dup_x1 hx hb hd g g2 k9)
  | dup2 =>
    obtain ⟨hd, rfl, -⟩ := zrok1 hr (Nat.succ_ne_zero _)
    exact z_dup2 hs I kk (fun v w r g g2 k9 => lv_dup2_11 hx hb hd g g2 k9)
  | ifCond q off =>
    obtain ⟨hd, rfl, hl⟩ := zrok1 hr (Nat.succ_ne_zero _)
    have ht := of_decide_eq_true (show decide ((pc : Int) + off = (k : Int)) = true from hl)
    obtain ⟨I1, I2, I3⟩ := I
    have hs : zif q k (pc + 3) L st h = _ := hs
    unfold zif at hs
    split at hs
    · obtain ⟨_, _, rfl, hv, hr9⟩ := I2
      cases (show _ = Value.int _ from hv)
      refine z_br hs I1 hr9 I3 kk ?_
      cases q with
      | eq => exact fun a b => lv_if_eq hx hb hd ht a b
      | ne => exact fun a b => lv_if_ne hx hb hd ht a b
      | lt => exact fun a b => lv_if_lt hx hb hd ht a b
      | ge => exact fun a b => lv_if_ge hx hb hd ht a b
      | gt => exact fun a b => lv_if_gt hx hb hd ht a b
      | le => exact fun a b => lv_if_le hx hb hd ht a b
    · cases hs
  | if_icmp q off =>
    obtain ⟨hd, rfl, hl⟩ := zrok1 hr (Nat.succ_ne_zero _)
    have ht := of_decide_eq_true (show decide ((pc : Int) + off = (k : Int)) = true from hl)
    obtain ⟨I1, I2, I3⟩ := I
    have hs : zicmp q k (pc + 3) L st h = _ := hs
    unfold zicmp at hs
    split at hs
    · obtain ⟨_, _, rfl, hv, _, _, rfl, hw, hr9⟩ := I2
      cases (show _ = Value.int _ from hv); cases (show _ = Value.int _ from hw)
      refine z_br hs I1 hr9 I3 kk ?_
      cases q with
      | eq => exact fun a b => lv_icmp_eq hx hb hd ht a b
      | ne => exact fun a b => lv_icmp_ne hx hb hd ht a b
      | lt => exact fun a b => lv_icmp_lt hx hb hd ht a b
      | ge => exact fun a b => lv_icmp_ge hx hb hd ht a b
      | gt => exact fun a b => lv_icmp_gt hx hb hd ht a b
      | le => exact fun a b => lv_icmp_le hx hb hd ht a b
    · cases hs
  | goto off =>
    obtain ⟨hd, rfl, hl⟩ := zrok1 hr (Nat.succ_ne_zero _)
    have ht := of_decide_eq_true (show decide ((pc : Int) + off = (k : Int)) = true from hl)
    exact z_goto hs I kk (fun w => lv_goto hx hb hd ht w)
  | tableswitch d lo hi os =>
    obtain ⟨len, hd, -, -, -⟩ := zrok_ok hr
    obtain ⟨I1, I2, I3⟩ := I
    have hs : ztab pc d lo hi os L st h = _ := hs
    unfold ztab at hs
    split at hs
    · obtain ⟨_, _, rfl, hv, hr9⟩ := I2
      cases (show _ = Value.int _ from hv)
      split at hs
      · next g =>
        obtain ⟨tg, ht, w⟩ := z_off hs I1 hr9 I3 kk
        exact lv_tableOut hx hb hd g ht w
      · next g =>
        split at hs
        · next o ho =>
          obtain ⟨tg, ht, w⟩ := z_off hs I1 hr9 I3 kk
          exact lv_tableIn hx hb hd (fun q => g (Or.inl q)) (fun q => g (Or.inr q)) ho ht w
        · cases hs
    · cases hs
  | lookupswitch d ps =>
    obtain ⟨len, hd, -, -, hl⟩ := zrok_ok hr
    obtain ⟨I1, I2, I3⟩ := I
    have hs : zlook pc d ps L st h = _ := hs
    unfold zlook at hs
    split at hs
    · obtain ⟨_, _, rfl, hv, hr9⟩ := I2
      cases (show _ = Value.int _ from hv)
      obtain ⟨tg, ht, w⟩ := z_off hs I1 hr9 I3 kk
      exact lv_lookup hx hb hd hl rfl ht w
    · cases hs
  | iaload =>
    obtain ⟨hd, rfl, -⟩ := zrok1 hr (Nat.succ_ne_zero _)
    exact z_ialoadX hs I kk (fun ws k a n f i r g1 g2 g3 w => va_iald (D := D) hx hb hK g1 k 0 g2 rfl g3 hd w) (fun i r g1 g2 w => va_sld hx hb hSP.2.2.2.1.1 hSP.2.2.2.1.2.1 hSP.2.2.2.1.2.2 g1 g2 hd w)
  | iastore =>
    obtain ⟨hd, rfl, -⟩ := zrok1 hr (Nat.succ_ne_zero _)
    exact z_ast (g := some) (Or.inl rfl) hs I kk (fun ws k a n f i x z r g0 g1 g2 g3 g4 g5 w => by
      cases g0
      exact va_iast (D := D) hx hb hK g1 g2 g3 k 0 g4 rfl g5 hd w)
  | baload =>
    obtain ⟨-, -, hl⟩ := zrok1 hr (Nat.succ_ne_zero _)
    cases (show false = true from hl)
  | bastore =>
    obtain ⟨-, -, hl⟩ := zrok1 hr (Nat.succ_ne_zero _)
    cases (show false = true from hl)
  | aaload =>
    obtain ⟨-, -, hl⟩ := zrok1 hr (Nat.succ_ne_zero _)
    cases (show false = true from hl)
  | arraylength =>
    obtain ⟨hd, rfl, -⟩ := zrok1 hr (Nat.succ_ne_zero _)
    refine z_alen hSP hs I kk (fun ws t k a x r h1 h2 g1 g2 w => ?_) (fun r g w => va_slen hx hb hSP.2.2.2.1.1 hSP.2.2.2.1.2.1 hSP.2.2.2.1.2.2 g hd w) (fun r g w => ?_)
    · obtain ⟨t9, e9⟩ : ∃ t9, (ztys ty)[t - 100]? = some (ty (t - 100), t9) := by
        rcases (show t = 100 ∨ t = 101 ∨ t = 102 ∨ t = 103 ∨ t = 104 by omega) with rfl | rfl | rfl | rfl | rfl <;> exact ⟨_, rfl⟩
      exact va_alen (D := D) hx hb hK g1 k (t - 100) g2 e9 rfl hd w
    · exact va_tlen (N := 0) (t := sp 1) hx hb hSP.2.2.2.2.2.2.2.2.2.1 g rfl hd w
  | newarray t =>
    obtain ⟨hd, e, -⟩ := zrok1 hr (Nat.succ_ne_zero _)
    exact z_newa hX0 hd e hs I hcl hsl kk
  | getfield j =>
    obtain ⟨hd, rfl, hl⟩ := zrok1 hr (Nat.succ_ne_zero _)
    have hl := zFL_ok _ (of_decide_eq_true (show decide ((zmo y, j, yy) ∈ zFL) = true from hl))
    exact z_get hs I kk (fun ws j a ci kd vs v r g1 g2 g3 g4 w => z_fget hX0 hl hd g1 g2 g3 g4 w)
  | putfield j =>
    obtain ⟨hd, rfl, hl⟩ := zrok1 hr (Nat.succ_ne_zero _)
    have hl : (decide ((zmo y, j, yy) ∈ zFL) && (decide ((zFT yy).2.2.2 = false) || (decide ((zmn y).name = "<init>") && decide ((zFT yy).1 = zon (zmo y))))) = true := hl
    simp only [Bool.and_eq_true, Bool.or_eq_true, decide_eq_true_eq] at hl
    exact z_put hs I kk (fun ws j a ci kd vs v r g1 g2 g3 g4 g5 g6 g7 w => z_fput hX0 (zFL_ok _ hl.1) hl.2 hd g1 g2 g3 g4 g5 g6 g7 w)
  | new j =>
    obtain ⟨hd, e, hl⟩ := zrok1 hr (Nat.succ_ne_zero _)
    have hs : (if k = 9 then (if zcs st ≤ 8 then some (.inr (.inr (.inr yy, 1, 6))) else none) else znew zcf c9 nx L st h) = some (.inl (pc', L', st', h', dc, ds)) := hs
    have hl : ((decide (k = 9) && decide ((y, pc, j, yy) ∈ zTL) && decide (zmh y = [])) || (decide (k ≠ 9) && decide ((zmo y, j, c9) ∈ zCL) && decide (c9 < 11))) = true := hl
    simp only [Bool.and_eq_true, Bool.or_eq_true, decide_eq_true_eq] at hl
    split at hs
    · split at hs <;> cases hs
    · next g =>
      have hl := hl.resolve_left (fun q => g q.1.1)
      exact z_new hX0 hl.2 (zCL_ok _ hl.1.2) hd e hs I hcl hsl kk
  | invokestatic j =>
    obtain ⟨hd, rfl, hl⟩ := zrok1 hr (Nat.succ_ne_zero _)
    replace hs : (if k = 10 then zcopy (pc + 3) L st h else if k = 12 then zmm (fun x y => if x < y then y else x) (pc + 3) L st h else if k = 13 then zmm (fun x y => if y < x then y else x) (pc + 3) L st h else zcall n yy (pc + 3) st) = some (.inl (pc', L', st', h', dc, ds)) := hs
    replace hl : (if k = 10 ∨ k = 12 ∨ k = 13 then false else (decide ((zmo y, j, yy) ∈ zSL) && decide (yy < 250) && decide (yy ≠ zlaw) && decide (zmp yy = n))) = true := hl
    have nk : ¬ (k = 10 ∨ k = 12 ∨ k = 13) := fun q => by
      rw [if_pos q] at hl
      cases hl
    rw [if_neg (fun q => nk (Or.inl q)), if_neg (fun q => nk (Or.inr (Or.inl q))), if_neg (fun q => nk (Or.inr (Or.inr q)))] at hs
    exact absurd hs zcall_ne
  | invokespecial j =>
    obtain ⟨hd, rfl, hl⟩ := zrok1 hr (Nat.succ_ne_zero _)
    replace hs : (if k = 8 then zoi (pc + 3) L st h else if k = 7 then zcallV n c9 yy (pc + 3) st h else zcallI n yy (pc + 3) st) = some (.inl (pc', L', st', h', dc, ds)) := hs
    replace hl : (if k = 8 then decide ((zmo y, j) ∈ zOL) else if k = 7 then false else decide ((zmo y, j, yy) ∈ zIL) && decide (yy < 250) && decide (yy ≠ zlaw) && decide (zmp yy = n) && decide (zmh yy = []) && decide (zmr yy = none)) = true := hl
    split at hs
    · next q =>
      rw [if_pos q] at hl
      have hl := zOL_ok _ (of_decide_eq_true hl)
      obtain ⟨I1, I2, I3⟩ := I
      unfold zoi at hs
      split at hs
      · split at hs
        · next g =>
          obtain ⟨_, _, rfl, hv, hr9⟩ := I2
          obtain ⟨a, -, rfl⟩ := id hv
          exact W.objInit hx hb hown (hts _ hl) (hts _ zOi1) (hts _ zOi2) (g := F0 m pc ls _) rfl hlsz.symm rfl hd (by omega) (by show 2 * 0 + _ + 12 ≤ _; rw [zS_cs hr9]; omega) (zgo_kk hs kk I1 hr9 I3)
        · cases hs
      · cases hs
    · split at hs
      · exact absurd hs zcallV_ne
      · exact absurd hs zcallI_ne
  | invokevirtual j =>
    obtain ⟨hd, e, hl⟩ := zrok1 hr (Nat.succ_ne_zero _)
    replace hs : (if k = 11 then zgetc nx L st h else zcallV n c9 yy nx st h) = some (.inl (pc', L', st', h', dc, ds)) := hs
    replace hl : (if k = 11 ∨ k = 6 then false else decide ((zmo y, j, yy, c9) ∈ zVL) && decide (yy < 250) && decide (yy ≠ zlaw) && decide (zmp yy = n) && decide (c9 < 6) && decide (zmh yy = [])) = true := hl
    split at hs
    · next q9 =>
      rw [if_pos (Or.inl q9)] at hl
      cases hl
    · exact absurd hs zcallV_ne
  | invokeinterface j q => exact absurd hs zcallV_ne
  | aastore =>
    obtain ⟨-, -, hl⟩ := zrok1 hr (Nat.succ_ne_zero _)
    cases (show false = true from hl)
  | anewarray j =>
    obtain ⟨-, -, hl⟩ := zrok1 hr (Nat.succ_ne_zero _)
    cases (show false = true from hl)
  | multianewarray j q =>
    obtain ⟨-, -, hl⟩ := zrok1 hr (Nat.succ_ne_zero _)
    cases (show false = true from hl)
  | ireturn => exact absurd hs zirt_ne
  | lreturn => exact absurd hs zlrt_ne
  | dreturn => exact absurd hs zdrt_ne
  | areturn => exact absurd hs zart_ne
  | return_ => exact absurd hs zvrt_ne
  | _ => exact absurd hs (by intro q; cases (show none = some _ from q))
end ZY
end
section
def zc_X0_init : List zRow := [(0, .aload_n 0, 1, 0, 0, 0, 0), (1, .invokespecial 3, 4, 8, 0, 0, 0), (4, .aload_n 0, 5, 0, 0, 0, 0), (5, .new 9, 8, 0, 0, 0, 2), (8, .dup, 9, 0, 0, 0, 0), (9, .bipush 16, 11, 0, 0, 0, 0), (11, .invokespecial 11, 14, 0, 24, 1, 0), (14, .putfield 14, 17, 0, 0, 0, 0), (17, .aload_n 0, 18, 0, 0, 0, 0), (18, .new 9, 21, 0, 0, 0, 2), (21, .dup, 22, 0, 0, 0, 0), (22, .bipush 64, 24, 0, 0, 0, 0), (24, .invokespecial 11, 27, 0, 24, 1, 0), (27, .putfield 20, 30, 1, 1, 0, 0), (30, .return_, 31, 0, 0, 0, 0)]
def zc_Z1 : List zRow := []
def zc_Z2 : List zRow := []
def zc_X0_make : List zRow := [(0, .aload_n 0, 1, 0, 0, 0, 0), (1, .iload_n 1, 2, 0, 0, 0, 0), (2, .putfield 33, 5, 2, 2, 0, 0), (5, .aload_n 0, 6, 0, 0, 0, 0), (6, .iload_n 2, 7, 0, 0, 0, 0), (7, .putfield 37, 10, 3, 3, 0, 0), (10, .aload_n 0, 11, 0, 0, 0, 0), (11, .iload_n 1, 12, 0, 0, 0, 0), (12, .iload_n 2, 13, 0, 0, 0, 0), (13, .iadd, 14, 0, 0, 0, 0), (14, .putfield 40, 17, 4, 4, 0, 0), (17, .aload_n 0, 18, 0, 0, 0, 0), (18, .invokevirtual 43, 21, 0, 4, 0, 0), (21, .iconst 0, 22, 0, 0, 0, 0), (22, .istore_n 3, 23, 0, 0, 0, 0), (23, .iload_n 3, 24, 0, 0, 0, 0), (24, .iload_n 2, 25, 0, 0, 0, 0), (25, .if_icmp .ge 22, 28, 47, 0, 0, 0), (28, .aload_n 0, 29, 0, 0, 0, 0), (29, .getfield 14, 32, 0, 0, 0, 0), (32, .iload_n 1, 33, 0, 0, 0, 0), (33, .iload_n 3, 34, 0, 0, 0, 0), (34, .iadd, 35, 0, 0, 0, 0), (35, .iconst 1, 36, 0, 0, 0, 0), (36, .iload_n 3, 37, 0, 0, 0, 0), (37, .ishl, 38, 0, 0, 0, 0), (38, .invokevirtual 46, 41, 0, 26, 2, 2), (41, .iinc 3 1, 44, 0, 0, 0, 0), (44, .goto (-21), 47, 23, 0, 0, 0), (47, .aload_n 0, 48, 0, 0, 0, 0), (48, .getfield 20, 51, 1, 1, 0, 0), (51, .iconst (-1), 52, 0, 0, 0, 0), (52, .invokevirtual 50, 55, 0, 27, 1, 2), (55, .aload_n 0, 56, 0, 0, 0, 0), (56, .getfield 20, 59, 1, 1, 0, 0), (59, .iconst 0, 60, 0, 0, 0, 0), (60, .iconst 0, 61, 0, 0, 0, 0), (61, .invokevirtual 46, 64, 0, 26, 2, 2), (64, .iconst 0, 65, 0, 0, 0, 0), (65, .istore_n 3, 66, 0, 0, 0, 0), (66, .iload_n 3, 67, 0, 0, 0, 0), (67, .aload_n 0, 68, 0, 0, 0, 0), (68, .getfield 40, 71, 4, 4, 0, 0), (71, .if_icmp .ge 27, 74, 98, 0, 0, 0), (74, .aload_n 0, 75, 0, 0, 0, 0), (75, .getfield 20, 78, 1, 1, 0, 0), (78, .aload_n 0, 79, 0, 0, 0, 0), (79, .getfield 14, 82, 0, 0, 0, 0), (82, .iload_n 3, 83, 0, 0, 0, 0), (83, .invokevirtual 53, 86, 0, 25, 1, 2), (86, .iconst 1, 87, 0, 0, 0, 0), (87, .iload_n 3, 88, 0, 0, 0, 0), (88, .ishl, 89, 0, 0, 0, 0), (89, .invokevirtual 46, 92, 0, 26, 2, 2), (92, .iinc 3 1, 95, 0, 0, 0, 0), (95, .goto (-29), 98, 66, 0, 0, 0), (98, .return_, 99, 0, 0, 0, 0)]
def zc_X0_makeDataColumns : List zRow := [(0, .iconst 0, 1, 0, 0, 0, 0), (1, .istore_n 1, 2, 0, 0, 0, 0), (2, .iconst 3, 3, 0, 0, 0, 0), (3, .istore_n 2, 4, 0, 0, 0, 0), (4, .iload_n 2, 5, 0, 0, 0, 0), (5, .aload_n 0, 6, 0, 0, 0, 0), (6, .getfield 37, 9, 3, 3, 0, 0), (9, .if_icmp .gt 55, 12, 64, 0, 0, 0), (12, .iconst 1, 13, 0, 0, 0, 0), (13, .istore_n 3, 14, 0, 0, 0, 0), (14, .iload_n 3, 15, 0, 0, 0, 0), (15, .iconst 1, 16, 0, 0, 0, 0), (16, .aload_n 0, 17, 0, 0, 0, 0), (17, .getfield 37, 20, 3, 3, 0, 0), (20, .ishl, 21, 0, 0, 0, 0), (21, .if_icmp .ge 37, 24, 58, 0, 0, 0), (24, .iload_n 1, 25, 0, 0, 0, 0), (25, .aload_n 0, 26, 0, 0, 0, 0), (26, .getfield 33, 29, 2, 2, 0, 0), (29, .if_icmp .ge 29, 32, 58, 0, 0, 0), (32, .iload_n 3, 33, 0, 0, 0, 0), (33, .invokestatic 23, 36, 0, 229, 1, 0), (36, .iload_n 2, 37, 0, 0, 0, 0), (37, .if_icmp .ne 15, 40, 52, 0, 0, 0), (40, .aload_n 0, 41, 0, 0, 0, 0), (41, .getfield 14, 44, 0, 0, 0, 0), (44, .iload_n 1, 45, 0, 0, 0, 0), (45, .iload_n 3, 46, 0, 0, 0, 0), (46, .invokevirtual 46, 49, 0, 26, 2, 2), (49, .iinc 1 1, 52, 0, 0, 0, 0), (52, .iinc 3 1, 55, 0, 0, 0, 0), (55, .goto (-41), 58, 14, 0, 0, 0), (58, .iinc 2 2, 61, 0, 0, 0, 0), (61, .goto (-57), 64, 4, 0, 0, 0), (64, .return_, 65, 0, 0, 0, 0)]
def zc_X0_words : List zRow := [(0, .iconst 1, 1, 0, 0, 0, 0), (1, .aload_n 0, 2, 0, 0, 0, 0), (2, .getfield 40, 5, 4, 4, 0, 0), (5, .ishl, 6, 0, 0, 0, 0), (6, .ireturn, 7, 0, 0, 0, 0)]
def zc_X0_dataMask : List zRow := [(0, .iconst 1, 1, 0, 0, 0, 0), (1, .aload_n 0, 2, 0, 0, 0, 0), (2, .getfield 33, 5, 2, 2, 0, 0), (5, .ishl, 6, 0, 0, 0, 0), (6, .iconst 1, 7, 0, 0, 0, 0), (7, .isub, 8, 0, 0, 0, 0), (8, .ireturn, 9, 0, 0, 0, 0)]
def zc_X0_hasBit : List zRow := [(0, .iload_n 1, 1, 0, 0, 0, 0), (1, .ifCond .lt 15, 4, 16, 0, 0, 0), (4, .iload_n 1, 5, 0, 0, 0, 0), (5, .aload_n 0, 6, 0, 0, 0, 0), (6, .getfield 40, 9, 4, 4, 0, 0), (9, .if_icmp .ge 7, 12, 16, 0, 0, 0), (12, .iconst 1, 13, 0, 0, 0, 0), (13, .goto 4, 16, 17, 0, 0, 0), (16, .iconst 0, 17, 0, 0, 0, 0), (17, .ireturn, 18, 1, 0, 0, 0)]
def zc_X0_syndromeOf : List zRow := [(0, .iconst 0, 1, 0, 0, 0, 0), (1, .istore_n 2, 2, 0, 0, 0, 0), (2, .iconst 0, 3, 0, 0, 0, 0), (3, .istore_n 3, 4, 0, 0, 0, 0), (4, .iload_n 3, 5, 0, 0, 0, 0), (5, .aload_n 0, 6, 0, 0, 0, 0), (6, .getfield 40, 9, 4, 4, 0, 0), (9, .if_icmp .ge 29, 12, 38, 0, 0, 0), (12, .iload_n 1, 13, 0, 0, 0, 0), (13, .iload_n 3, 14, 0, 0, 0, 0), (14, .ishr, 15, 0, 0, 0, 0), (15, .iconst 1, 16, 0, 0, 0, 0), (16, .iand, 17, 0, 0, 0, 0), (17, .iconst 1, 18, 0, 0, 0, 0), (18, .if_icmp .ne 14, 21, 32, 0, 0, 0), (21, .iload_n 2, 22, 0, 0, 0, 0), (22, .aload_n 0, 23, 0, 0, 0, 0), (23, .getfield 14, 26, 0, 0, 0, 0), (26, .iload_n 3, 27, 0, 0, 0, 0), (27, .invokevirtual 53, 30, 0, 25, 1, 2), (30, .ixor, 31, 0, 0, 0, 0), (31, .istore_n 2, 32, 0, 0, 0, 0), (32, .iinc 3 1, 35, 0, 0, 0, 0), (35, .goto (-31), 38, 4, 0, 0, 0), (38, .iload_n 2, 39, 0, 0, 0, 0), (39, .ireturn, 40, 0, 0, 0, 0)]
def zc_X0_turnOf : List zRow := [(0, .aload_n 0, 1, 0, 0, 0, 0), (1, .getfield 20, 4, 1, 1, 0, 0), (4, .aload_n 0, 5, 0, 0, 0, 0), (5, .iload_n 1, 6, 0, 0, 0, 0), (6, .invokevirtual 56, 9, 0, 8, 1, 0), (9, .invokevirtual 53, 12, 0, 25, 1, 2), (12, .ireturn, 13, 0, 0, 0, 0)]
def zc_X0_isClean : List zRow := [(0, .aload_n 0, 1, 0, 0, 0, 0), (1, .iload_n 1, 2, 0, 0, 0, 0), (2, .invokevirtual 56, 5, 0, 8, 1, 0), (5, .ifCond .ne 7, 8, 12, 0, 0, 0), (8, .iconst 1, 9, 0, 0, 0, 0), (9, .goto 4, 12, 13, 0, 0, 0), (12, .iconst 0, 13, 0, 0, 0, 0), (13, .ireturn, 14, 1, 0, 0, 0)]
def zc_X0_verdictOf : List zRow := [(0, .aload_n 0, 1, 0, 0, 0, 0), (1, .iload_n 1, 2, 0, 0, 0, 0), (2, .invokevirtual 59, 5, 0, 9, 1, 0), (5, .istore_n 2, 6, 0, 0, 0, 0), (6, .iload_n 2, 7, 0, 0, 0, 0), (7, .ifCond .ne 5, 10, 12, 0, 0, 0), (10, .iconst 0, 11, 0, 0, 0, 0), (11, .ireturn, 12, 0, 0, 0, 0), (12, .iload_n 2, 13, 0, 0, 0, 0), (13, .iconst (-1), 14, 0, 0, 0, 0), (14, .if_icmp .ne 7, 17, 21, 0, 0, 0), (17, .iconst 2, 18, 0, 0, 0, 0), (18, .goto 4, 21, 22, 0, 0, 0), (21, .iconst 1, 22, 0, 0, 0, 0), (22, .ireturn, 23, 0, 0, 0, 0)]
def zc_X0_bitOf : List zRow := [(0, .iload_n 0, 1, 0, 0, 0, 0), (1, .ifCond .eq 8, 4, 9, 0, 0, 0), (4, .iload_n 0, 5, 0, 0, 0, 0), (5, .iconst (-1), 6, 0, 0, 0, 0), (6, .if_icmp .ne 7, 9, 13, 0, 0, 0), (9, .iconst (-1), 10, 0, 0, 0, 0), (10, .goto 9, 13, 19, 0, 0, 0), (13, .iload_n 0, 14, 0, 0, 0, 0), (14, .iconst 1, 15, 0, 0, 0, 0), (15, .isub, 16, 0, 0, 0, 0), (16, .invokestatic 23, 19, 0, 229, 1, 0), (19, .ireturn, 20, 0, 0, 0, 0)]
def zc_X0_dataOf : List zRow := [(0, .aload_n 0, 1, 0, 0, 0, 0), (1, .iload_n 1, 2, 0, 0, 0, 0), (2, .invokevirtual 59, 5, 0, 9, 1, 0), (5, .istore_n 2, 6, 0, 0, 0, 0), (6, .iload_n 2, 7, 0, 0, 0, 0), (7, .iconst (-1), 8, 0, 0, 0, 0), (8, .if_icmp .ne 7, 11, 15, 0, 0, 0), (11, .iconst (-1), 12, 0, 0, 0, 0), (12, .goto 11, 15, 23, 0, 0, 0), (15, .iload_n 1, 16, 0, 0, 0, 0), (16, .iload_n 2, 17, 0, 0, 0, 0), (17, .ixor, 18, 0, 0, 0, 0), (18, .aload_n 0, 19, 0, 0, 0, 0), (19, .invokevirtual 62, 22, 0, 6, 0, 0), (22, .iand, 23, 0, 0, 0, 0), (23, .ireturn, 24, 0, 0, 0, 0)]
def zc_X0_wordOf : List zRow := [(0, .iload_n 1, 1, 0, 0, 0, 0), (1, .aload_n 0, 2, 0, 0, 0, 0), (2, .iload_n 1, 3, 0, 0, 0, 0), (3, .invokevirtual 56, 6, 0, 8, 1, 0), (6, .aload_n 0, 7, 0, 0, 0, 0), (7, .getfield 33, 10, 2, 2, 0, 0), (10, .ishl, 11, 0, 0, 0, 0), (11, .ior, 12, 0, 0, 0, 0), (12, .ireturn, 13, 0, 0, 0, 0)]
def zc_X0_wronglyMended : List zRow := [(0, .iconst 0, 1, 0, 0, 0, 0), (1, .istore_n 2, 2, 0, 0, 0, 0), (2, .iconst 0, 3, 0, 0, 0, 0), (3, .istore_n 3, 4, 0, 0, 0, 0), (4, .iload_n 3, 5, 0, 0, 0, 0), (5, .aload_n 0, 6, 0, 0, 0, 0), (6, .getfield 40, 9, 4, 4, 0, 0), (9, .if_icmp .ge 76, 12, 85, 0, 0, 0), (12, .iload_n 3, 13, 0, 0, 0, 0), (13, .iconst 1, 14, 0, 0, 0, 0), (14, .iadd, 15, 0, 0, 0, 0), (15, .istore 4, 17, 0, 0, 0, 0), (17, .iload 4, 19, 0, 0, 0, 0), (19, .aload_n 0, 20, 0, 0, 0, 0), (20, .getfield 40, 23, 4, 4, 0, 0), (23, .if_icmp .ge 56, 26, 79, 0, 0, 0), (26, .aload_n 0, 27, 0, 0, 0, 0), (27, .getfield 14, 30, 0, 0, 0, 0), (30, .iload_n 3, 31, 0, 0, 0, 0), (31, .invokevirtual 53, 34, 0, 25, 1, 2), (34, .aload_n 0, 35, 0, 0, 0, 0), (35, .getfield 14, 38, 0, 0, 0, 0), (38, .iload 4, 40, 0, 0, 0, 0), (40, .invokevirtual 53, 43, 0, 25, 1, 2), (43, .ixor, 44, 0, 0, 0, 0), (44, .istore 5, 46, 0, 0, 0, 0), (46, .iload_n 2, 47, 0, 0, 0, 0), (47, .iload_n 1, 48, 0, 0, 0, 0), (48, .iconst 2, 49, 0, 0, 0, 0), (49, .if_icmp .ne 12, 52, 61, 0, 0, 0), (52, .aload_n 0, 53, 0, 0, 0, 0), (53, .iload 5, 55, 0, 0, 0, 0), (55, .invokevirtual 66, 58, 0, 17, 1, 0), (58, .goto 13, 61, 71, 0, 0, 0), (61, .aload_n 0, 62, 0, 0, 0, 0), (62, .iload 5, 64, 0, 0, 0, 0), (64, .iload 4, 66, 0, 0, 0, 0), (66, .iconst 1, 67, 0, 0, 0, 0), (67, .iadd, 68, 0, 0, 0, 0), (68, .invokevirtual 69, 71, 0, 16, 2, 0), (71, .iadd, 72, 0, 0, 0, 0), (72, .istore_n 2, 73, 0, 0, 0, 0), (73, .iinc 4 1, 76, 0, 0, 0, 0), (76, .goto (-59), 79, 17, 0, 0, 0), (79, .iinc 3 1, 82, 0, 0, 0, 0), (82, .goto (-78), 85, 4, 0, 0, 0), (85, .iload_n 2, 86, 0, 0, 0, 0), (86, .ireturn, 87, 0, 0, 0, 0)]
def zc_X0_thirdBits : List zRow := [(0, .iconst 0, 1, 0, 0, 0, 0), (1, .istore_n 3, 2, 0, 0, 0, 0), (2, .iload_n 2, 3, 0, 0, 0, 0), (3, .istore 4, 5, 0, 0, 0, 0), (5, .iload 4, 7, 0, 0, 0, 0), (7, .aload_n 0, 8, 0, 0, 0, 0), (8, .getfield 40, 11, 4, 4, 0, 0), (11, .if_icmp .ge 27, 14, 38, 0, 0, 0), (14, .iload_n 3, 15, 0, 0, 0, 0), (15, .aload_n 0, 16, 0, 0, 0, 0), (16, .iload_n 1, 17, 0, 0, 0, 0), (17, .aload_n 0, 18, 0, 0, 0, 0), (18, .getfield 14, 21, 0, 0, 0, 0), (21, .iload 4, 23, 0, 0, 0, 0), (23, .invokevirtual 53, 26, 0, 25, 1, 2), (26, .ixor, 27, 0, 0, 0, 0), (27, .invokevirtual 66, 30, 0, 17, 1, 0), (30, .iadd, 31, 0, 0, 0, 0), (31, .istore_n 3, 32, 0, 0, 0, 0), (32, .iinc 4 1, 35, 0, 0, 0, 0), (35, .goto (-30), 38, 5, 0, 0, 0), (38, .iload_n 3, 39, 0, 0, 0, 0), (39, .ireturn, 40, 0, 0, 0, 0)]
def zc_X0_oneIfMended : List zRow := [(0, .aload_n 0, 1, 0, 0, 0, 0), (1, .getfield 20, 4, 1, 1, 0, 0), (4, .iload_n 1, 5, 0, 0, 0, 0), (5, .invokevirtual 53, 8, 0, 25, 1, 2), (8, .ifCond .le 7, 11, 15, 0, 0, 0), (11, .iconst 1, 12, 0, 0, 0, 0), (12, .goto 4, 15, 16, 0, 0, 0), (15, .iconst 0, 16, 0, 0, 0, 0), (16, .ireturn, 17, 0, 0, 0, 0)]
def zc_X0_isInOrder : List zRow := [(0, .iconst 0, 1, 0, 0, 0, 0), (1, .istore_n 1, 2, 0, 0, 0, 0), (2, .iload_n 1, 3, 0, 0, 0, 0), (3, .aload_n 0, 4, 0, 0, 0, 0), (4, .getfield 40, 7, 4, 4, 0, 0), (7, .if_icmp .ge 66, 10, 73, 0, 0, 0), (10, .aload_n 0, 11, 0, 0, 0, 0), (11, .getfield 14, 14, 0, 0, 0, 0), (14, .iload_n 1, 15, 0, 0, 0, 0), (15, .invokevirtual 53, 18, 0, 25, 1, 2), (18, .invokestatic 23, 21, 0, 229, 1, 0), (21, .iconst 2, 22, 0, 0, 0, 0), (22, .irem, 23, 0, 0, 0, 0), (23, .ifCond .ne 5, 26, 28, 0, 0, 0), (26, .iconst 0, 27, 0, 0, 0, 0), (27, .ireturn, 28, 1, 0, 0, 0), (28, .iload_n 1, 29, 0, 0, 0, 0), (29, .iconst 1, 30, 0, 0, 0, 0), (30, .iadd, 31, 0, 0, 0, 0), (31, .istore_n 2, 32, 0, 0, 0, 0), (32, .iload_n 2, 33, 0, 0, 0, 0), (33, .aload_n 0, 34, 0, 0, 0, 0), (34, .getfield 40, 37, 4, 4, 0, 0), (37, .if_icmp .ge 30, 40, 67, 0, 0, 0), (40, .aload_n 0, 41, 0, 0, 0, 0), (41, .getfield 14, 44, 0, 0, 0, 0), (44, .iload_n 1, 45, 0, 0, 0, 0), (45, .invokevirtual 53, 48, 0, 25, 1, 2), (48, .aload_n 0, 49, 0, 0, 0, 0), (49, .getfield 14, 52, 0, 0, 0, 0), (52, .iload_n 2, 53, 0, 0, 0, 0), (53, .invokevirtual 53, 56, 0, 25, 1, 2), (56, .if_icmp .ne 5, 59, 61, 0, 0, 0), (59, .iconst 0, 60, 0, 0, 0, 0), (60, .ireturn, 61, 1, 0, 0, 0), (61, .iinc 2 1, 64, 0, 0, 0, 0), (64, .goto (-32), 67, 32, 0, 0, 0), (67, .iinc 1 1, 70, 0, 0, 0, 0), (70, .goto (-68), 73, 2, 0, 0, 0), (73, .iconst 1, 74, 0, 0, 0, 0), (74, .ireturn, 75, 1, 0, 0, 0)]
def zc_X1_init : List zRow := [(0, .aload_n 0, 1, 0, 0, 0, 0), (1, .invokespecial 3, 4, 8, 0, 0, 0), (4, .aload_n 0, 5, 0, 0, 0, 0), (5, .new 9, 8, 0, 0, 0, 2), (8, .dup, 9, 0, 0, 0, 0), (9, .bipush 24, 11, 0, 0, 0, 0), (11, .invokespecial 11, 14, 0, 24, 1, 0), (14, .putfield 14, 17, 0, 5, 0, 0), (17, .aload_n 0, 18, 0, 0, 0, 0), (18, .new 9, 21, 0, 0, 0, 2), (21, .dup, 22, 0, 0, 0, 0), (22, .bipush 24, 24, 0, 0, 0, 0), (24, .invokespecial 11, 27, 0, 24, 1, 0), (27, .putfield 20, 30, 1, 6, 0, 0), (30, .aload_n 0, 31, 0, 0, 0, 0), (31, .new 9, 34, 0, 0, 0, 2), (34, .dup, 35, 0, 0, 0, 0), (35, .bipush 24, 37, 0, 0, 0, 0), (37, .invokespecial 11, 40, 0, 24, 1, 0), (40, .putfield 23, 43, 2, 7, 0, 0), (43, .return_, 44, 0, 0, 0, 0)]
def zc_X1_isFull : List zRow := [(0, .aload_n 0, 1, 0, 0, 0, 0), (1, .getfield 26, 4, 3, 8, 0, 0), (4, .bipush 24, 6, 0, 0, 0, 0), (6, .if_icmp .lt 7, 9, 13, 0, 0, 0), (9, .iconst 1, 10, 0, 0, 0, 0), (10, .goto 4, 13, 14, 0, 0, 0), (13, .iconst 0, 14, 0, 0, 0, 0), (14, .ireturn, 15, 1, 0, 0, 0)]
def zc_X1_add : List zRow := [(0, .aload_n 0, 1, 0, 0, 0, 0), (1, .invokevirtual 30, 4, 0, 20, 0, 1), (4, .ifCond .eq 4, 7, 8, 0, 0, 0), (7, .return_, 8, 0, 0, 0, 0), (8, .aload_n 0, 9, 0, 0, 0, 0), (9, .getfield 14, 12, 0, 5, 0, 0), (12, .aload_n 0, 13, 0, 0, 0, 0), (13, .getfield 26, 16, 3, 8, 0, 0), (16, .iload_n 1, 17, 0, 0, 0, 0), (17, .invokevirtual 34, 20, 0, 26, 2, 2), (20, .aload_n 0, 21, 0, 0, 0, 0), (21, .getfield 20, 24, 1, 6, 0, 0), (24, .aload_n 0, 25, 0, 0, 0, 0), (25, .getfield 26, 28, 3, 8, 0, 0), (28, .iload_n 2, 29, 0, 0, 0, 0), (29, .invokevirtual 34, 32, 0, 26, 2, 2), (32, .aload_n 0, 33, 0, 0, 0, 0), (33, .getfield 23, 36, 2, 7, 0, 0), (36, .aload_n 0, 37, 0, 0, 0, 0), (37, .getfield 26, 40, 3, 8, 0, 0), (40, .iload_n 3, 41, 0, 0, 0, 0), (41, .invokevirtual 34, 44, 0, 26, 2, 2), (44, .aload_n 0, 45, 0, 0, 0, 0), (45, .dup, 46, 0, 0, 0, 0), (46, .getfield 26, 49, 3, 8, 0, 0), (49, .iconst 1, 50, 0, 0, 0, 0), (50, .iadd, 51, 0, 0, 0, 0), (51, .putfield 26, 54, 3, 8, 0, 0), (54, .return_, 55, 0, 0, 0, 0)]
def zc_X1_keepBitsBelow : List zRow := [(0, .aload_n 0, 1, 0, 0, 0, 0), (1, .getfield 26, 4, 3, 8, 0, 0), (4, .istore_n 2, 5, 0, 0, 0, 0), (5, .aload_n 0, 6, 0, 0, 0, 0), (6, .iconst 0, 7, 0, 0, 0, 0), (7, .putfield 26, 10, 3, 8, 0, 0), (10, .iconst 0, 11, 0, 0, 0, 0), (11, .istore_n 3, 12, 0, 0, 0, 0), (12, .iload_n 3, 13, 0, 0, 0, 0), (13, .iload_n 2, 14, 0, 0, 0, 0), (14, .if_icmp .ge 51, 17, 65, 0, 0, 0), (17, .aload_n 0, 18, 0, 0, 0, 0), (18, .getfield 20, 21, 1, 6, 0, 0), (21, .iload_n 3, 22, 0, 0, 0, 0), (22, .invokevirtual 38, 25, 0, 25, 1, 2), (25, .iconst 1, 26, 0, 0, 0, 0), (26, .iload_n 1, 27, 0, 0, 0, 0), (27, .ishl, 28, 0, 0, 0, 0), (28, .if_icmp .ge 31, 31, 59, 0, 0, 0), (31, .aload_n 0, 32, 0, 0, 0, 0), (32, .aload_n 0, 33, 0, 0, 0, 0), (33, .getfield 14, 36, 0, 5, 0, 0), (36, .iload_n 3, 37, 0, 0, 0, 0), (37, .invokevirtual 38, 40, 0, 25, 1, 2), (40, .aload_n 0, 41, 0, 0, 0, 0), (41, .getfield 20, 44, 1, 6, 0, 0), (44, .iload_n 3, 45, 0, 0, 0, 0), (45, .invokevirtual 38, 48, 0, 25, 1, 2), (48, .aload_n 0, 49, 0, 0, 0, 0), (49, .getfield 23, 52, 2, 7, 0, 0), (52, .iload_n 3, 53, 0, 0, 0, 0), (53, .invokevirtual 38, 56, 0, 25, 1, 2), (56, .invokevirtual 42, 59, 0, 21, 3, 1), (59, .iinc 3 1, 62, 0, 0, 0, 0), (62, .goto (-50), 65, 12, 0, 0, 0), (65, .return_, 66, 0, 0, 0, 0)]
def zc_X1_countIn : List zRow := [(0, .iconst 0, 1, 0, 0, 0, 0), (1, .istore_n 3, 2, 0, 0, 0, 0), (2, .iconst 0, 3, 0, 0, 0, 0), (3, .istore 4, 5, 0, 0, 0, 0), (5, .iload 4, 7, 0, 0, 0, 0), (7, .aload_n 0, 8, 0, 0, 0, 0), (8, .getfield 26, 11, 3, 8, 0, 0), (11, .if_icmp .ge 38, 14, 49, 0, 0, 0), (14, .aload_n 0, 15, 0, 0, 0, 0), (15, .getfield 14, 18, 0, 5, 0, 0), (18, .iload 4, 20, 0, 0, 0, 0), (20, .invokevirtual 38, 23, 0, 25, 1, 2), (23, .iload_n 1, 24, 0, 0, 0, 0), (24, .if_icmp .lt 19, 27, 43, 0, 0, 0), (27, .aload_n 0, 28, 0, 0, 0, 0), (28, .getfield 14, 31, 0, 5, 0, 0), (31, .iload 4, 33, 0, 0, 0, 0), (33, .invokevirtual 38, 36, 0, 25, 1, 2), (36, .iload_n 2, 37, 0, 0, 0, 0), (37, .if_icmp .ge 6, 40, 43, 0, 0, 0), (40, .iinc 3 1, 43, 0, 0, 0, 0), (43, .iinc 4 1, 46, 0, 0, 0, 0), (46, .goto (-41), 49, 5, 0, 0, 0), (49, .iload_n 3, 50, 0, 0, 0, 0), (50, .ireturn, 51, 0, 0, 0, 0)]
def zc_X2_init : List zRow := [(0, .aload_n 0, 1, 0, 0, 0, 0), (1, .invokespecial 1, 4, 8, 0, 0, 0), (4, .aload_n 0, 5, 0, 0, 0, 0), (5, .iload_n 1, 6, 0, 0, 0, 0), (6, .ifCond .ge 7, 9, 13, 0, 0, 0), (9, .iconst 0, 10, 0, 0, 0, 0), (10, .goto 4, 13, 14, 0, 0, 0), (13, .iload_n 1, 14, 0, 0, 0, 0), (14, .newarray .int, 16, 0, 0, 0, 0), (16, .putfield 7, 19, 0, 9, 0, 0), (19, .return_, 20, 0, 0, 0, 0)]
def zc_X2_get : List zRow := [(0, .iload_n 1, 1, 0, 0, 0, 0), (1, .ifCond .lt 21, 4, 22, 0, 0, 0), (4, .iload_n 1, 5, 0, 0, 0, 0), (5, .aload_n 0, 6, 0, 0, 0, 0), (6, .getfield 7, 9, 0, 9, 0, 0), (9, .arraylength, 10, 0, 0, 0, 0), (10, .if_icmp .ge 12, 13, 22, 0, 0, 0), (13, .aload_n 0, 14, 0, 0, 0, 0), (14, .getfield 7, 17, 0, 9, 0, 0), (17, .iload_n 1, 18, 0, 0, 0, 0), (18, .iaload, 19, 0, 0, 0, 0), (19, .goto 4, 22, 23, 0, 0, 0), (22, .iconst 0, 23, 0, 0, 0, 0), (23, .ireturn, 24, 0, 0, 0, 0)]
def zc_X2_set : List zRow := [(0, .iload_n 1, 1, 0, 0, 0, 0), (1, .ifCond .lt 19, 4, 20, 0, 0, 0), (4, .iload_n 1, 5, 0, 0, 0, 0), (5, .aload_n 0, 6, 0, 0, 0, 0), (6, .getfield 7, 9, 0, 9, 0, 0), (9, .arraylength, 10, 0, 0, 0, 0), (10, .if_icmp .ge 10, 13, 20, 0, 0, 0), (13, .aload_n 0, 14, 0, 0, 0, 0), (14, .getfield 7, 17, 0, 9, 0, 0), (17, .iload_n 1, 18, 0, 0, 0, 0), (18, .iload_n 2, 19, 0, 0, 0, 0), (19, .iastore, 20, 0, 0, 0, 0), (20, .return_, 21, 0, 0, 0, 0)]
def zc_X2_fill : List zRow := [(0, .iconst 0, 1, 0, 0, 0, 0), (1, .istore_n 2, 2, 0, 0, 0, 0), (2, .iload_n 2, 3, 0, 0, 0, 0), (3, .aload_n 0, 4, 0, 0, 0, 0), (4, .getfield 7, 7, 0, 9, 0, 0), (7, .arraylength, 8, 0, 0, 0, 0), (8, .if_icmp .ge 16, 11, 24, 0, 0, 0), (11, .aload_n 0, 12, 0, 0, 0, 0), (12, .getfield 7, 15, 0, 9, 0, 0), (15, .iload_n 2, 16, 0, 0, 0, 0), (16, .iload_n 1, 17, 0, 0, 0, 0), (17, .iastore, 18, 0, 0, 0, 0), (18, .iinc 2 1, 21, 0, 0, 0, 0), (21, .goto (-19), 24, 2, 0, 0, 0), (24, .return_, 25, 0, 0, 0, 0)]
def zc_X2_sum : List zRow := [(0, .iconst 0, 1, 0, 0, 0, 0), (1, .istore_n 1, 2, 0, 0, 0, 0), (2, .iconst 0, 3, 0, 0, 0, 0), (3, .istore_n 2, 4, 0, 0, 0, 0), (4, .iload_n 2, 5, 0, 0, 0, 0), (5, .aload_n 0, 6, 0, 0, 0, 0), (6, .getfield 7, 9, 0, 9, 0, 0), (9, .arraylength, 10, 0, 0, 0, 0), (10, .if_icmp .ge 18, 13, 28, 0, 0, 0), (13, .iload_n 1, 14, 0, 0, 0, 0), (14, .aload_n 0, 15, 0, 0, 0, 0), (15, .getfield 7, 18, 0, 9, 0, 0), (18, .iload_n 2, 19, 0, 0, 0, 0), (19, .iaload, 20, 0, 0, 0, 0), (20, .iadd, 21, 0, 0, 0, 0), (21, .istore_n 1, 22, 0, 0, 0, 0), (22, .iinc 2 1, 25, 0, 0, 0, 0), (25, .goto (-21), 28, 4, 0, 0, 0), (28, .iload_n 1, 29, 0, 0, 0, 0), (29, .ireturn, 30, 0, 0, 0, 0)]
def zc_X3_init : List zRow := [(0, .aload_n 0, 1, 0, 0, 0, 0), (1, .invokespecial 3, 4, 8, 0, 0, 0), (4, .aload_n 0, 5, 0, 0, 0, 0), (5, .new 9, 8, 0, 0, 0, 2), (8, .dup, 9, 0, 0, 0, 0), (9, .bipush 40, 11, 0, 0, 0, 0), (11, .invokespecial 11, 14, 0, 24, 1, 0), (14, .putfield 14, 17, 0, 10, 0, 0), (17, .aload_n 0, 18, 0, 0, 0, 0), (18, .new 9, 21, 0, 0, 0, 2), (21, .dup, 22, 0, 0, 0, 0), (22, .bipush 40, 24, 0, 0, 0, 0), (24, .invokespecial 11, 27, 0, 24, 1, 0), (27, .putfield 20, 30, 1, 11, 0, 0), (30, .aload_n 0, 31, 0, 0, 0, 0), (31, .new 9, 34, 0, 0, 0, 2), (34, .dup, 35, 0, 0, 0, 0), (35, .bipush 40, 37, 0, 0, 0, 0), (37, .invokespecial 11, 40, 0, 24, 1, 0), (40, .putfield 23, 43, 2, 12, 0, 0), (43, .return_, 44, 0, 0, 0, 0)]
def zc_Z30 : List zRow := []
def zc_X3_add : List zRow := [(0, .iload_n 2, 1, 0, 0, 0, 0), (1, .iconst (-1), 2, 0, 0, 0, 0), (2, .if_icmp .ne 16, 5, 18, 0, 0, 0), (5, .aload_n 0, 6, 0, 0, 0, 0), (6, .dup, 7, 0, 0, 0, 0), (7, .getfield 30, 10, 5, 15, 0, 0), (10, .iconst 1, 11, 0, 0, 0, 0), (11, .iadd, 12, 0, 0, 0, 0), (12, .putfield 30, 15, 5, 15, 0, 0), (15, .goto 13, 18, 28, 0, 0, 0), (18, .aload_n 0, 19, 0, 0, 0, 0), (19, .dup, 20, 0, 0, 0, 0), (20, .getfield 33, 23, 4, 14, 0, 0), (23, .iconst 1, 24, 0, 0, 0, 0), (24, .iadd, 25, 0, 0, 0, 0), (25, .putfield 33, 28, 4, 14, 0, 0), (28, .aload_n 0, 29, 0, 0, 0, 0), (29, .getfield 26, 32, 3, 13, 0, 0), (32, .bipush 40, 34, 0, 0, 0, 0), (34, .if_icmp .ge 49, 37, 83, 0, 0, 0), (37, .aload_n 0, 38, 0, 0, 0, 0), (38, .getfield 14, 41, 0, 10, 0, 0), (41, .aload_n 0, 42, 0, 0, 0, 0), (42, .getfield 26, 45, 3, 13, 0, 0), (45, .iload_n 1, 46, 0, 0, 0, 0), (46, .invokevirtual 36, 49, 0, 26, 2, 2), (49, .aload_n 0, 50, 0, 0, 0, 0), (50, .getfield 20, 53, 1, 11, 0, 0), (53, .aload_n 0, 54, 0, 0, 0, 0), (54, .getfield 26, 57, 3, 13, 0, 0), (57, .iload_n 2, 58, 0, 0, 0, 0), (58, .invokevirtual 36, 61, 0, 26, 2, 2), (61, .aload_n 0, 62, 0, 0, 0, 0), (62, .getfield 23, 65, 2, 12, 0, 0), (65, .aload_n 0, 66, 0, 0, 0, 0), (66, .getfield 26, 69, 3, 13, 0, 0), (69, .iload_n 3, 70, 0, 0, 0, 0), (70, .invokevirtual 36, 73, 0, 26, 2, 2), (73, .aload_n 0, 74, 0, 0, 0, 0), (74, .dup, 75, 0, 0, 0, 0), (75, .getfield 26, 78, 3, 13, 0, 0), (78, .iconst 1, 79, 0, 0, 0, 0), (79, .iadd, 80, 0, 0, 0, 0), (80, .putfield 26, 83, 3, 13, 0, 0), (83, .return_, 84, 0, 0, 0, 0)]
def zc_X3_guiltyOf : List zRow := [(0, .iload_n 2, 1, 0, 0, 0, 0), (1, .iconst 4, 2, 0, 0, 0, 0), (2, .if_icmp .ne 9, 5, 11, 0, 0, 0), (5, .aload_n 0, 6, 0, 0, 0, 0), (6, .iload_n 1, 7, 0, 0, 0, 0), (7, .invokevirtual 40, 10, 0, 35, 1, 3), (10, .ireturn, 11, 0, 0, 0, 0), (11, .iload_n 2, 12, 0, 0, 0, 0), (12, .iconst 1, 13, 0, 0, 0, 0), (13, .if_icmp .ne 8, 16, 21, 0, 0, 0), (16, .bipush 16, 18, 0, 0, 0, 0), (18, .goto 5, 21, 23, 0, 0, 0), (21, .bipush 8, 23, 0, 0, 0, 0), (23, .istore_n 3, 24, 0, 0, 0, 0), (24, .iconst 0, 25, 0, 0, 0, 0), (25, .istore 4, 27, 0, 0, 0, 0), (27, .iload 4, 29, 0, 0, 0, 0), (29, .iload_n 3, 30, 0, 0, 0, 0), (30, .if_icmp .ge 23, 33, 53, 0, 0, 0), (33, .aload_n 0, 34, 0, 0, 0, 0), (34, .iload_n 1, 35, 0, 0, 0, 0), (35, .iload_n 2, 36, 0, 0, 0, 0), (36, .iload 4, 38, 0, 0, 0, 0), (38, .invokevirtual 44, 41, 0, 33, 3, 3), (41, .ifCond .eq 6, 44, 47, 0, 0, 0), (44, .iload 4, 46, 0, 0, 0, 0), (46, .ireturn, 47, 0, 0, 0, 0), (47, .iinc 4 1, 50, 0, 0, 0, 0), (50, .goto (-23), 53, 27, 0, 0, 0), (53, .iconst (-1), 54, 0, 0, 0, 0), (54, .ireturn, 55, 0, 0, 0, 0)]
def zc_X3_isGuilty : List zRow := [(0, .iconst 0, 1, 0, 0, 0, 0), (1, .istore 4, 3, 0, 0, 0, 0), (3, .iconst 0, 4, 0, 0, 0, 0), (4, .istore 5, 6, 0, 0, 0, 0), (6, .iload 5, 8, 0, 0, 0, 0), (8, .aload_n 0, 9, 0, 0, 0, 0), (9, .getfield 26, 12, 3, 13, 0, 0), (12, .if_icmp .ge 90, 15, 102, 0, 0, 0), (15, .aload_n 0, 16, 0, 0, 0, 0), (16, .getfield 14, 19, 0, 10, 0, 0), (19, .iload 5, 21, 0, 0, 0, 0), (21, .invokevirtual 48, 24, 0, 25, 1, 2), (24, .bipush 64, 26, 0, 0, 0, 0), (26, .irem, 27, 0, 0, 0, 0), (27, .bipush 8, 29, 0, 0, 0, 0), (29, .idiv, 30, 0, 0, 0, 0), (30, .istore 6, 32, 0, 0, 0, 0), (32, .aload_n 0, 33, 0, 0, 0, 0), (33, .getfield 14, 36, 0, 10, 0, 0), (36, .iload 5, 38, 0, 0, 0, 0), (38, .invokevirtual 48, 41, 0, 25, 1, 2), (41, .bipush 8, 43, 0, 0, 0, 0), (43, .irem, 44, 0, 0, 0, 0), (44, .istore 7, 46, 0, 0, 0, 0), (46, .aload_n 0, 47, 0, 0, 0, 0), (47, .iload_n 1, 48, 0, 0, 0, 0), (48, .iload 5, 50, 0, 0, 0, 0), (50, .invokevirtual 51, 53, 0, 37, 2, 3), (53, .ifCond .eq 43, 56, 96, 0, 0, 0), (56, .iload_n 2, 57, 0, 0, 0, 0), (57, .aload_n 0, 58, 0, 0, 0, 0), (58, .getfield 20, 61, 1, 11, 0, 0), (61, .iload 5, 63, 0, 0, 0, 0), (63, .invokevirtual 48, 66, 0, 25, 1, 2), (66, .iload 6, 68, 0, 0, 0, 0), (68, .iload 7, 70, 0, 0, 0, 0), (70, .invokestatic 55, 73, 0, 34, 4, 0), (73, .iload_n 3, 74, 0, 0, 0, 0), (74, .if_icmp .ne 22, 77, 96, 0, 0, 0), (77, .iload 4, 79, 0, 0, 0, 0), (79, .iconst 1, 80, 0, 0, 0, 0), (80, .iload_n 2, 81, 0, 0, 0, 0), (81, .iconst 2, 82, 0, 0, 0, 0), (82, .if_icmp .ne 8, 85, 90, 0, 0, 0), (85, .iload 7, 87, 0, 0, 0, 0), (87, .goto 5, 90, 92, 0, 0, 0), (90, .iload 6, 92, 0, 0, 0, 0), (92, .ishl, 93, 0, 0, 0, 0), (93, .ior, 94, 0, 0, 0, 0), (94, .istore 4, 96, 0, 0, 0, 0), (96, .iinc 5 1, 99, 0, 0, 0, 0), (99, .goto (-93), 102, 6, 0, 0, 0), (102, .iload 4, 104, 0, 0, 0, 0), (104, .invokestatic 59, 107, 0, 229, 1, 0), (107, .iconst 3, 108, 0, 0, 0, 0), (108, .if_icmp .lt 7, 111, 115, 0, 0, 0), (111, .iconst 1, 112, 0, 0, 0, 0), (112, .goto 4, 115, 116, 0, 0, 0), (115, .iconst 0, 116, 0, 0, 0, 0), (116, .ireturn, 117, 1, 0, 0, 0)]
def zc_X3_suspectOf : List zRow := [(0, .iload_n 0, 1, 0, 0, 0, 0), (1, .iconst 3, 2, 0, 0, 0, 0), (2, .if_icmp .ne 5, 5, 7, 0, 0, 0), (5, .iload_n 3, 6, 0, 0, 0, 0), (6, .ireturn, 7, 0, 0, 0, 0), (7, .iload_n 0, 8, 0, 0, 0, 0), (8, .iconst 2, 9, 0, 0, 0, 0), (9, .if_icmp .ne 7, 12, 16, 0, 0, 0), (12, .iload_n 2, 13, 0, 0, 0, 0), (13, .goto 4, 16, 17, 0, 0, 0), (16, .iload_n 1, 17, 0, 0, 0, 0), (17, .ireturn, 18, 0, 0, 0, 0)]
def zc_X3_guiltyCell : List zRow := [(0, .iconst (-1), 1, 0, 0, 0, 0), (1, .istore_n 2, 2, 0, 0, 0, 0), (2, .iconst 0, 3, 0, 0, 0, 0), (3, .istore_n 3, 4, 0, 0, 0, 0), (4, .iload_n 3, 5, 0, 0, 0, 0), (5, .aload_n 0, 6, 0, 0, 0, 0), (6, .getfield 26, 9, 3, 13, 0, 0), (9, .if_icmp .ge 62, 12, 71, 0, 0, 0), (12, .aload_n 0, 13, 0, 0, 0, 0), (13, .getfield 14, 16, 0, 10, 0, 0), (16, .iload_n 3, 17, 0, 0, 0, 0), (17, .invokevirtual 48, 20, 0, 25, 1, 2), (20, .istore 4, 22, 0, 0, 0, 0), (22, .iload_n 2, 23, 0, 0, 0, 0), (23, .iconst (-1), 24, 0, 0, 0, 0), (24, .if_icmp .eq 9, 27, 33, 0, 0, 0), (27, .iload 4, 29, 0, 0, 0, 0), (29, .iload_n 2, 30, 0, 0, 0, 0), (30, .if_icmp .ge 7, 33, 37, 0, 0, 0), (33, .iconst 1, 34, 0, 0, 0, 0), (34, .goto 4, 37, 38, 0, 0, 0), (37, .iconst 0, 38, 0, 0, 0, 0), (38, .istore 5, 40, 0, 0, 0, 0), (40, .iload 5, 42, 0, 0, 0, 0), (42, .ifCond .eq 23, 45, 65, 0, 0, 0), (45, .aload_n 0, 46, 0, 0, 0, 0), (46, .iload_n 1, 47, 0, 0, 0, 0), (47, .iload_n 3, 48, 0, 0, 0, 0), (48, .invokevirtual 51, 51, 0, 37, 2, 3), (51, .ifCond .eq 14, 54, 65, 0, 0, 0), (54, .aload_n 0, 55, 0, 0, 0, 0), (55, .iload_n 3, 56, 0, 0, 0, 0), (56, .invokevirtual 64, 59, 0, 36, 1, 3), (59, .ifCond .eq 6, 62, 65, 0, 0, 0), (62, .iload 4, 64, 0, 0, 0, 0), (64, .istore_n 2, 65, 0, 0, 0, 0), (65, .iinc 3 1, 68, 0, 0, 0, 0), (68, .goto (-64), 71, 4, 0, 0, 0), (71, .iload_n 2, 72, 0, 0, 0, 0), (72, .ireturn, 73, 0, 0, 0, 0)]
def zc_X3_isToldAgain : List zRow := [(0, .iload_n 1, 1, 0, 0, 0, 0), (1, .iconst 1, 2, 0, 0, 0, 0), (2, .iadd, 3, 0, 0, 0, 0), (3, .istore_n 2, 4, 0, 0, 0, 0), (4, .iload_n 2, 5, 0, 0, 0, 0), (5, .aload_n 0, 6, 0, 0, 0, 0), (6, .getfield 26, 9, 3, 13, 0, 0), (9, .if_icmp .ge 49, 12, 58, 0, 0, 0), (12, .aload_n 0, 13, 0, 0, 0, 0), (13, .getfield 14, 16, 0, 10, 0, 0), (16, .iload_n 2, 17, 0, 0, 0, 0), (17, .invokevirtual 48, 20, 0, 25, 1, 2), (20, .aload_n 0, 21, 0, 0, 0, 0), (21, .getfield 14, 24, 0, 10, 0, 0), (24, .iload_n 1, 25, 0, 0, 0, 0), (25, .invokevirtual 48, 28, 0, 25, 1, 2), (28, .if_icmp .ne 24, 31, 52, 0, 0, 0), (31, .aload_n 0, 32, 0, 0, 0, 0), (32, .getfield 20, 35, 1, 11, 0, 0), (35, .iload_n 2, 36, 0, 0, 0, 0), (36, .invokevirtual 48, 39, 0, 25, 1, 2), (39, .aload_n 0, 40, 0, 0, 0, 0), (40, .getfield 20, 43, 1, 11, 0, 0), (43, .iload_n 1, 44, 0, 0, 0, 0), (44, .invokevirtual 48, 47, 0, 25, 1, 2), (47, .if_icmp .ne 5, 50, 52, 0, 0, 0), (50, .iconst 1, 51, 0, 0, 0, 0), (51, .ireturn, 52, 1, 0, 0, 0), (52, .iinc 2 1, 55, 0, 0, 0, 0), (55, .goto (-51), 58, 4, 0, 0, 0), (58, .iconst 0, 59, 0, 0, 0, 0), (59, .ireturn, 60, 1, 0, 0, 0)]
def zc_X3_isMendedIn : List zRow := [(0, .aload_n 0, 1, 0, 0, 0, 0), (1, .getfield 20, 4, 1, 11, 0, 0), (4, .iload_n 2, 5, 0, 0, 0, 0), (5, .invokevirtual 48, 8, 0, 25, 1, 2), (8, .iconst (-1), 9, 0, 0, 0, 0), (9, .if_icmp .eq 22, 12, 31, 0, 0, 0), (12, .aload_n 0, 13, 0, 0, 0, 0), (13, .getfield 14, 16, 0, 10, 0, 0), (16, .iload_n 2, 17, 0, 0, 0, 0), (17, .invokevirtual 48, 20, 0, 25, 1, 2), (20, .bipush 64, 22, 0, 0, 0, 0), (22, .idiv, 23, 0, 0, 0, 0), (23, .iload_n 1, 24, 0, 0, 0, 0), (24, .if_icmp .ne 7, 27, 31, 0, 0, 0), (27, .iconst 1, 28, 0, 0, 0, 0), (28, .goto 4, 31, 32, 0, 0, 0), (31, .iconst 0, 32, 0, 0, 0, 0), (32, .ireturn, 33, 1, 0, 0, 0)]
def zc_X3_isInOrder : List zRow := [(0, .aload_n 0, 1, 0, 0, 0, 0), (1, .getfield 26, 4, 3, 13, 0, 0), (4, .bipush 40, 6, 0, 0, 0, 0), (6, .if_icmp .gt 23, 9, 29, 0, 0, 0), (9, .aload_n 0, 10, 0, 0, 0, 0), (10, .getfield 26, 13, 3, 13, 0, 0), (13, .aload_n 0, 14, 0, 0, 0, 0), (14, .getfield 33, 17, 4, 14, 0, 0), (17, .aload_n 0, 18, 0, 0, 0, 0), (18, .getfield 30, 21, 5, 15, 0, 0), (21, .iadd, 22, 0, 0, 0, 0), (22, .if_icmp .gt 7, 25, 29, 0, 0, 0), (25, .iconst 1, 26, 0, 0, 0, 0), (26, .goto 4, 29, 30, 0, 0, 0), (29, .iconst 0, 30, 0, 0, 0, 0), (30, .ireturn, 31, 1, 0, 0, 0)]
def zc_X4_init : List zRow := [(0, .aload_n 0, 1, 0, 0, 0, 0), (1, .invokespecial 3, 4, 8, 0, 0, 0), (4, .aload_n 0, 5, 0, 0, 0, 0), (5, .new 9, 8, 0, 0, 0, 2), (8, .dup, 9, 0, 0, 0, 0), (9, .sipush 160, 12, 0, 0, 0, 0), (12, .invokespecial 11, 15, 0, 24, 1, 0), (15, .putfield 14, 18, 0, 16, 0, 0), (18, .aload_n 0, 19, 0, 0, 0, 0), (19, .new 9, 22, 0, 0, 0, 2), (22, .dup, 23, 0, 0, 0, 0), (23, .bipush 20, 25, 0, 0, 0, 0), (25, .invokespecial 11, 28, 0, 24, 1, 0), (28, .putfield 20, 31, 1, 17, 0, 0), (31, .aload_n 0, 32, 0, 0, 0, 0), (32, .new 9, 35, 0, 0, 0, 2), (35, .dup, 36, 0, 0, 0, 0), (36, .bipush 20, 38, 0, 0, 0, 0), (38, .invokespecial 11, 41, 0, 24, 1, 0), (41, .putfield 23, 44, 2, 18, 0, 0), (44, .aload_n 0, 45, 0, 0, 0, 0), (45, .new 9, 48, 0, 0, 0, 2), (48, .dup, 49, 0, 0, 0, 0), (49, .sipush 160, 52, 0, 0, 0, 0), (52, .invokespecial 11, 55, 0, 24, 1, 0), (55, .putfield 26, 58, 3, 19, 0, 0), (58, .aload_n 0, 59, 0, 0, 0, 0), (59, .new 29, 62, 0, 0, 0, 1), (62, .dup, 63, 0, 0, 0, 0), (63, .invokespecial 31, 66, 0, 19, 0, 0), (66, .putfield 32, 69, 4, 20, 0, 0), (69, .aload_n 0, 70, 0, 0, 0, 0), (70, .new 29, 73, 0, 0, 0, 1), (73, .dup, 74, 0, 0, 0, 0), (74, .invokespecial 31, 77, 0, 19, 0, 0), (77, .putfield 36, 80, 5, 21, 0, 0), (80, .aload_n 0, 81, 0, 0, 0, 0), (81, .bipush 16, 83, 0, 0, 0, 0), (83, .putfield 39, 86, 8, 24, 0, 0), (86, .aload_n 0, 87, 0, 0, 0, 0), (87, .bipush 20, 89, 0, 0, 0, 0), (89, .putfield 43, 92, 9, 25, 0, 0), (92, .aload_n 0, 93, 0, 0, 0, 0), (93, .iconst 5, 94, 0, 0, 0, 0), (94, .putfield 46, 97, 10, 26, 0, 0), (97, .return_, 98, 0, 0, 0, 0)]
def zc_X4_wipe : List zRow := [(0, .aload_n 0, 1, 0, 0, 0, 0), (1, .iload_n 1, 2, 0, 0, 0, 0), (2, .putfield 49, 5, 6, 22, 0, 0), (5, .aload_n 0, 6, 0, 0, 0, 0), (6, .getfield 32, 9, 4, 20, 0, 0), (9, .aload_n 0, 10, 0, 0, 0, 0), (10, .getfield 49, 13, 6, 22, 0, 0), (13, .invokevirtual 52, 16, 0, 22, 1, 1), (16, .aload_n 0, 17, 0, 0, 0, 0), (17, .getfield 36, 20, 5, 21, 0, 0), (20, .aload_n 0, 21, 0, 0, 0, 0), (21, .getfield 49, 24, 6, 22, 0, 0), (24, .invokevirtual 52, 27, 0, 22, 1, 1), (27, .aload_n 0, 28, 0, 0, 0, 0), (28, .getfield 20, 31, 1, 17, 0, 0), (31, .iconst 0, 32, 0, 0, 0, 0), (32, .invokevirtual 55, 35, 0, 27, 1, 2), (35, .iconst 0, 36, 0, 0, 0, 0), (36, .istore_n 2, 37, 0, 0, 0, 0), (37, .iload_n 2, 38, 0, 0, 0, 0), (38, .sipush 160, 41, 0, 0, 0, 0), (41, .if_icmp .ge 15, 44, 56, 0, 0, 0), (44, .aload_n 0, 45, 0, 0, 0, 0), (45, .iload_n 2, 46, 0, 0, 0, 0), (46, .iconst 0, 47, 0, 0, 0, 0), (47, .invokevirtual 58, 50, 0, 41, 2, 4), (50, .iinc 2 1, 53, 0, 0, 0, 0), (53, .goto (-16), 56, 37, 0, 0, 0), (56, .return_, 57, 0, 0, 0, 0)]
def zc_X4_put : List zRow := [(0, .aload_n 0, 1, 0, 0, 0, 0), (1, .getfield 14, 4, 0, 16, 0, 0), (4, .iload_n 1, 5, 0, 0, 0, 0), (5, .aload_n 0, 6, 0, 0, 0, 0), (6, .iload_n 1, 7, 0, 0, 0, 0), (7, .iload_n 2, 8, 0, 0, 0, 0), (8, .invokevirtual 62, 11, 0, 42, 2, 4), (11, .invokevirtual 66, 14, 0, 26, 2, 2), (14, .return_, 15, 0, 0, 0, 0)]
def zc_X4_asStuck : List zRow := [(0, .iload_n 2, 1, 0, 0, 0, 0), (1, .istore_n 3, 2, 0, 0, 0, 0), (2, .iconst 0, 3, 0, 0, 0, 0), (3, .istore 4, 5, 0, 0, 0, 0), (5, .iload 4, 7, 0, 0, 0, 0), (7, .aload_n 0, 8, 0, 0, 0, 0), (8, .getfield 32, 11, 4, 20, 0, 0), (11, .getfield 69, 14, 3, 8, 0, 0), (14, .if_icmp .ge 69, 17, 83, 0, 0, 0), (17, .aload_n 0, 18, 0, 0, 0, 0), (18, .getfield 32, 21, 4, 20, 0, 0), (21, .getfield 72, 24, 0, 5, 0, 0), (24, .iload 4, 26, 0, 0, 0, 0), (26, .invokevirtual 75, 29, 0, 25, 1, 2), (29, .iload_n 1, 30, 0, 0, 0, 0), (30, .if_icmp .ne 47, 33, 77, 0, 0, 0), (33, .aload_n 0, 34, 0, 0, 0, 0), (34, .getfield 32, 37, 4, 20, 0, 0), (37, .getfield 79, 40, 1, 6, 0, 0), (40, .iload 4, 42, 0, 0, 0, 0), (42, .invokevirtual 75, 45, 0, 25, 1, 2), (45, .istore 5, 47, 0, 0, 0, 0), (47, .aload_n 0, 48, 0, 0, 0, 0), (48, .getfield 32, 51, 4, 20, 0, 0), (51, .getfield 82, 54, 2, 7, 0, 0), (54, .iload 4, 56, 0, 0, 0, 0), (56, .invokevirtual 75, 59, 0, 25, 1, 2), (59, .iconst 1, 60, 0, 0, 0, 0), (60, .if_icmp .ne 10, 63, 70, 0, 0, 0), (63, .iload_n 3, 64, 0, 0, 0, 0), (64, .iload 5, 66, 0, 0, 0, 0), (66, .ior, 67, 0, 0, 0, 0), (67, .goto 9, 70, 76, 0, 0, 0), (70, .iload_n 3, 71, 0, 0, 0, 0), (71, .iload 5, 73, 0, 0, 0, 0), (73, .iconst (-1), 74, 0, 0, 0, 0), (74, .ixor, 75, 0, 0, 0, 0), (75, .iand, 76, 0, 0, 0, 0), (76, .istore_n 3, 77, 0, 0, 0, 0), (77, .iinc 4 1, 80, 0, 0, 0, 0), (80, .goto (-75), 83, 5, 0, 0, 0), (83, .iload_n 3, 84, 0, 0, 0, 0), (84, .ireturn, 85, 0, 0, 0, 0)]
def zc_X4_open : List zRow := [(0, .aload_n 0, 1, 0, 0, 0, 0), (1, .getfield 20, 4, 1, 17, 0, 0), (4, .iload_n 1, 5, 0, 0, 0, 0), (5, .invokevirtual 75, 8, 0, 25, 1, 2), (8, .iconst 1, 9, 0, 0, 0, 0), (9, .iadd, 10, 0, 0, 0, 0), (10, .istore_n 2, 11, 0, 0, 0, 0), (11, .aload_n 0, 12, 0, 0, 0, 0), (12, .getfield 20, 15, 1, 17, 0, 0), (15, .iload_n 1, 16, 0, 0, 0, 0), (16, .iload_n 2, 17, 0, 0, 0, 0), (17, .invokevirtual 66, 20, 0, 26, 2, 2), (20, .aload_n 0, 21, 0, 0, 0, 0), (21, .getfield 23, 24, 2, 18, 0, 0), (24, .iload_n 1, 25, 0, 0, 0, 0), (25, .aload_n 0, 26, 0, 0, 0, 0), (26, .getfield 85, 29, 7, 23, 0, 0), (29, .invokevirtual 66, 32, 0, 26, 2, 2), (32, .aload_n 0, 33, 0, 0, 0, 0), (33, .getfield 43, 36, 9, 25, 0, 0), (36, .ifCond .le 41, 39, 77, 0, 0, 0), (39, .iload_n 2, 40, 0, 0, 0, 0), (40, .aload_n 0, 41, 0, 0, 0, 0), (41, .getfield 43, 44, 9, 25, 0, 0), (44, .irem, 45, 0, 0, 0, 0), (45, .ifCond .ne 32, 48, 77, 0, 0, 0), (48, .iload_n 1, 49, 0, 0, 0, 0), (49, .bipush 10, 51, 0, 0, 0, 0), (51, .irem, 52, 0, 0, 0, 0), (52, .istore_n 3, 53, 0, 0, 0, 0), (53, .iload_n 3, 54, 0, 0, 0, 0), (54, .ifCond .le 10, 57, 64, 0, 0, 0), (57, .aload_n 0, 58, 0, 0, 0, 0), (58, .iload_n 1, 59, 0, 0, 0, 0), (59, .iconst 1, 60, 0, 0, 0, 0), (60, .isub, 61, 0, 0, 0, 0), (61, .invokevirtual 88, 64, 0, 44, 1, 4), (64, .iload_n 3, 65, 0, 0, 0, 0), (65, .bipush 9, 67, 0, 0, 0, 0), (67, .if_icmp .ge 10, 70, 77, 0, 0, 0), (70, .aload_n 0, 71, 0, 0, 0, 0), (71, .iload_n 1, 72, 0, 0, 0, 0), (72, .iconst 1, 73, 0, 0, 0, 0), (73, .iadd, 74, 0, 0, 0, 0), (74, .invokevirtual 88, 77, 0, 44, 1, 4), (77, .return_, 78, 0, 0, 0, 0)]
def zc_X4_turnDrawnBit : List zRow := [(0, .iload_n 1, 1, 0, 0, 0, 0), (1, .bipush 8, 3, 0, 0, 0, 0), (3, .imul, 4, 0, 0, 0, 0), (4, .aload_n 0, 5, 0, 0, 0, 0), (5, .invokevirtual 91, 8, 0, 45, 0, 4), (8, .bipush 8, 10, 0, 0, 0, 0), (10, .irem, 11, 0, 0, 0, 0), (11, .iadd, 12, 0, 0, 0, 0), (12, .istore_n 2, 13, 0, 0, 0, 0), (13, .aload_n 0, 14, 0, 0, 0, 0), (14, .invokevirtual 91, 17, 0, 45, 0, 4), (17, .istore_n 3, 18, 0, 0, 0, 0), (18, .aload_n 0, 19, 0, 0, 0, 0), (19, .getfield 49, 22, 6, 22, 0, 0), (22, .ifCond .le 12, 25, 34, 0, 0, 0), (25, .iload_n 3, 26, 0, 0, 0, 0), (26, .aload_n 0, 27, 0, 0, 0, 0), (27, .getfield 49, 30, 6, 22, 0, 0), (30, .irem, 31, 0, 0, 0, 0), (31, .goto 4, 34, 35, 0, 0, 0), (34, .iconst 0, 35, 0, 0, 0, 0), (35, .istore 4, 37, 0, 0, 0, 0), (37, .aload_n 0, 38, 0, 0, 0, 0), (38, .iload_n 2, 39, 0, 0, 0, 0), (39, .aload_n 0, 40, 0, 0, 0, 0), (40, .getfield 14, 43, 0, 16, 0, 0), (43, .iload_n 2, 44, 0, 0, 0, 0), (44, .invokevirtual 75, 47, 0, 25, 1, 2), (47, .iconst 1, 48, 0, 0, 0, 0), (48, .iload 4, 50, 0, 0, 0, 0), (50, .ishl, 51, 0, 0, 0, 0), (51, .ixor, 52, 0, 0, 0, 0), (52, .invokevirtual 58, 55, 0, 41, 2, 4), (55, .return_, 56, 0, 0, 0, 0)]
def zc_X4_draw : List zRow := [(0, .aload_n 0, 1, 0, 0, 0, 0), (1, .getfield 46, 4, 10, 26, 0, 0), (4, .istore_n 1, 5, 0, 0, 0, 0), (5, .aload_n 0, 6, 0, 0, 0, 0), (6, .bipush 17, 8, 0, 0, 0, 0), (8, .iload_n 1, 9, 0, 0, 0, 0), (9, .imul, 10, 0, 0, 0, 0), (10, .bipush 43, 12, 0, 0, 0, 0), (12, .iadd, 13, 0, 0, 0, 0), (13, .sipush 251, 16, 0, 0, 0, 0), (16, .irem, 17, 0, 0, 0, 0), (17, .putfield 46, 20, 10, 26, 0, 0), (20, .aload_n 0, 21, 0, 0, 0, 0), (21, .dup, 22, 0, 0, 0, 0), (22, .getfield 95, 25, 11, 27, 0, 0), (25, .iconst 1, 26, 0, 0, 0, 0), (26, .iadd, 27, 0, 0, 0, 0), (27, .putfield 95, 30, 11, 27, 0, 0), (30, .iload_n 1, 31, 0, 0, 0, 0), (31, .ireturn, 32, 0, 0, 0, 0)]
def zc_X4_beginTick : List zRow := [(0, .aload_n 0, 1, 0, 0, 0, 0), (1, .dup, 2, 0, 0, 0, 0), (2, .getfield 85, 5, 7, 23, 0, 0), (5, .iconst 1, 6, 0, 0, 0, 0), (6, .iadd, 7, 0, 0, 0, 0), (7, .putfield 85, 10, 7, 23, 0, 0), (10, .iconst 0, 11, 0, 0, 0, 0), (11, .istore_n 1, 12, 0, 0, 0, 0), (12, .iload_n 1, 13, 0, 0, 0, 0), (13, .aload_n 0, 14, 0, 0, 0, 0), (14, .getfield 36, 17, 5, 21, 0, 0), (17, .getfield 69, 20, 3, 8, 0, 0), (20, .if_icmp .ge 78, 23, 98, 0, 0, 0), (23, .aload_n 0, 24, 0, 0, 0, 0), (24, .getfield 36, 27, 5, 21, 0, 0), (27, .getfield 72, 30, 0, 5, 0, 0), (30, .iload_n 1, 31, 0, 0, 0, 0), (31, .invokevirtual 75, 34, 0, 25, 1, 2), (34, .istore_n 2, 35, 0, 0, 0, 0), (35, .aload_n 0, 36, 0, 0, 0, 0), (36, .getfield 85, 39, 7, 23, 0, 0), (39, .aload_n 0, 40, 0, 0, 0, 0), (40, .getfield 23, 43, 2, 18, 0, 0), (43, .iload_n 2, 44, 0, 0, 0, 0), (44, .bipush 8, 46, 0, 0, 0, 0), (46, .idiv, 47, 0, 0, 0, 0), (47, .invokevirtual 75, 50, 0, 25, 1, 2), (50, .isub, 51, 0, 0, 0, 0), (51, .aload_n 0, 52, 0, 0, 0, 0), (52, .getfield 36, 55, 5, 21, 0, 0), (55, .getfield 82, 58, 2, 7, 0, 0), (58, .iload_n 1, 59, 0, 0, 0, 0), (59, .invokevirtual 75, 62, 0, 25, 1, 2), (62, .if_icmp .lt 30, 65, 92, 0, 0, 0), (65, .aload_n 0, 66, 0, 0, 0, 0), (66, .iload_n 2, 67, 0, 0, 0, 0), (67, .aload_n 0, 68, 0, 0, 0, 0), (68, .getfield 14, 71, 0, 16, 0, 0), (71, .iload_n 2, 72, 0, 0, 0, 0), (72, .invokevirtual 75, 75, 0, 25, 1, 2), (75, .aload_n 0, 76, 0, 0, 0, 0), (76, .getfield 36, 79, 5, 21, 0, 0), (79, .getfield 79, 82, 1, 6, 0, 0), (82, .iload_n 1, 83, 0, 0, 0, 0), (83, .invokevirtual 75, 86, 0, 25, 1, 2), (86, .iconst (-1), 87, 0, 0, 0, 0), (87, .ixor, 88, 0, 0, 0, 0), (88, .iand, 89, 0, 0, 0, 0), (89, .invokevirtual 58, 92, 0, 41, 2, 4), (92, .iinc 1 1, 95, 0, 0, 0, 0), (95, .goto (-83), 98, 12, 0, 0, 0), (98, .aload_n 0, 99, 0, 0, 0, 0), (99, .aload_n 0, 100, 0, 0, 0, 0), (100, .getfield 85, 103, 7, 23, 0, 0), (103, .invokevirtual 98, 106, 0, 47, 1, 4), (106, .ifCond .eq 22, 109, 128, 0, 0, 0), (109, .aload_n 0, 110, 0, 0, 0, 0), (110, .getfield 20, 113, 1, 17, 0, 0), (113, .iconst 0, 114, 0, 0, 0, 0), (114, .invokevirtual 55, 117, 0, 27, 1, 2), (117, .aload_n 0, 118, 0, 0, 0, 0), (118, .getfield 23, 121, 2, 18, 0, 0), (121, .aload_n 0, 122, 0, 0, 0, 0), (122, .getfield 85, 125, 7, 23, 0, 0), (125, .invokevirtual 55, 128, 0, 27, 1, 2), (128, .return_, 129, 0, 0, 0, 0)]
def zc_X4_isRefreshedAt : List zRow := [(0, .aload_n 0, 1, 0, 0, 0, 0), (1, .getfield 39, 4, 8, 24, 0, 0), (4, .ifCond .le 16, 7, 20, 0, 0, 0), (7, .iload_n 1, 8, 0, 0, 0, 0), (8, .aload_n 0, 9, 0, 0, 0, 0), (9, .getfield 39, 12, 8, 24, 0, 0), (12, .irem, 13, 0, 0, 0, 0), (13, .ifCond .ne 7, 16, 20, 0, 0, 0), (16, .iconst 1, 17, 0, 0, 0, 0), (17, .goto 4, 20, 21, 0, 0, 0), (20, .iconst 0, 21, 0, 0, 0, 0), (21, .ireturn, 22, 1, 0, 0, 0)]
def zc_X4_leaksWithin : List zRow := [(0, .aload_n 0, 1, 0, 0, 0, 0), (1, .getfield 26, 4, 3, 19, 0, 0), (4, .iconst 0, 5, 0, 0, 0, 0), (5, .invokevirtual 55, 8, 0, 27, 1, 2), (8, .iconst 0, 9, 0, 0, 0, 0), (9, .istore_n 2, 10, 0, 0, 0, 0), (10, .iconst 0, 11, 0, 0, 0, 0), (11, .istore_n 3, 12, 0, 0, 0, 0), (12, .iload_n 3, 13, 0, 0, 0, 0), (13, .aload_n 0, 14, 0, 0, 0, 0), (14, .getfield 36, 17, 5, 21, 0, 0), (17, .getfield 69, 20, 3, 8, 0, 0), (20, .if_icmp .ge 106, 23, 126, 0, 0, 0), (23, .aload_n 0, 24, 0, 0, 0, 0), (24, .getfield 36, 27, 5, 21, 0, 0), (27, .getfield 72, 30, 0, 5, 0, 0), (30, .iload_n 3, 31, 0, 0, 0, 0), (31, .invokevirtual 75, 34, 0, 25, 1, 2), (34, .istore 4, 36, 0, 0, 0, 0), (36, .aload_n 0, 37, 0, 0, 0, 0), (37, .getfield 36, 40, 5, 21, 0, 0), (40, .getfield 79, 43, 1, 6, 0, 0), (43, .iload_n 3, 44, 0, 0, 0, 0), (44, .invokevirtual 75, 47, 0, 25, 1, 2), (47, .istore 5, 49, 0, 0, 0, 0), (49, .aload_n 0, 50, 0, 0, 0, 0), (50, .getfield 26, 53, 3, 19, 0, 0), (53, .iload 4, 55, 0, 0, 0, 0), (55, .invokevirtual 75, 58, 0, 25, 1, 2), (58, .iload 5, 60, 0, 0, 0, 0), (60, .iand, 61, 0, 0, 0, 0), (61, .ifCond .eq 7, 64, 68, 0, 0, 0), (64, .iconst 1, 65, 0, 0, 0, 0), (65, .goto 4, 68, 69, 0, 0, 0), (68, .iconst 0, 69, 0, 0, 0, 0), (69, .istore 6, 71, 0, 0, 0, 0), (71, .iload 6, 73, 0, 0, 0, 0), (73, .ifCond .ne 47, 76, 120, 0, 0, 0), (76, .aload_n 0, 77, 0, 0, 0, 0), (77, .iload 4, 79, 0, 0, 0, 0), (79, .iload 5, 81, 0, 0, 0, 0), (81, .invokevirtual 102, 84, 0, 49, 2, 4), (84, .ifCond .eq 36, 87, 120, 0, 0, 0), (87, .aload_n 0, 88, 0, 0, 0, 0), (88, .iload_n 3, 89, 0, 0, 0, 0), (89, .iload_n 1, 90, 0, 0, 0, 0), (90, .invokevirtual 106, 93, 0, 50, 2, 4), (93, .ifCond .eq 27, 96, 120, 0, 0, 0), (96, .aload_n 0, 97, 0, 0, 0, 0), (97, .getfield 26, 100, 3, 19, 0, 0), (100, .iload 4, 102, 0, 0, 0, 0), (102, .aload_n 0, 103, 0, 0, 0, 0), (103, .getfield 26, 106, 3, 19, 0, 0), (106, .iload 4, 108, 0, 0, 0, 0), (108, .invokevirtual 75, 111, 0, 25, 1, 2), (111, .iload 5, 113, 0, 0, 0, 0), (113, .ior, 114, 0, 0, 0, 0), (114, .invokevirtual 66, 117, 0, 26, 2, 2), (117, .iinc 2 1, 120, 0, 0, 0, 0), (120, .iinc 3 1, 123, 0, 0, 0, 0), (123, .goto (-111), 126, 12, 0, 0, 0), (126, .iload_n 2, 127, 0, 0, 0, 0), (127, .ireturn, 128, 0, 0, 0, 0)]
def zc_X4_isLeakable : List zRow := [(0, .aload_n 0, 1, 0, 0, 0, 0), (1, .getfield 14, 4, 0, 16, 0, 0), (4, .iload_n 1, 5, 0, 0, 0, 0), (5, .invokevirtual 75, 8, 0, 25, 1, 2), (8, .istore_n 3, 9, 0, 0, 0, 0), (9, .iload_n 3, 10, 0, 0, 0, 0), (10, .iload_n 2, 11, 0, 0, 0, 0), (11, .iand, 12, 0, 0, 0, 0), (12, .ifCond .eq 22, 15, 34, 0, 0, 0), (15, .aload_n 0, 16, 0, 0, 0, 0), (16, .iload_n 1, 17, 0, 0, 0, 0), (17, .iload_n 3, 18, 0, 0, 0, 0), (18, .iload_n 2, 19, 0, 0, 0, 0), (19, .iconst (-1), 20, 0, 0, 0, 0), (20, .ixor, 21, 0, 0, 0, 0), (21, .iand, 22, 0, 0, 0, 0), (22, .invokevirtual 62, 25, 0, 42, 2, 4), (25, .iload_n 2, 26, 0, 0, 0, 0), (26, .iand, 27, 0, 0, 0, 0), (27, .ifCond .ne 7, 30, 34, 0, 0, 0), (30, .iconst 1, 31, 0, 0, 0, 0), (31, .goto 4, 34, 35, 0, 0, 0), (34, .iconst 0, 35, 0, 0, 0, 0), (35, .ireturn, 36, 1, 0, 0, 0)]
def zc_X4_isOverWithin : List zRow := [(0, .aload_n 0, 1, 0, 0, 0, 0), (1, .getfield 23, 4, 2, 18, 0, 0), (4, .aload_n 0, 5, 0, 0, 0, 0), (5, .getfield 36, 8, 5, 21, 0, 0), (8, .getfield 72, 11, 0, 5, 0, 0), (11, .iload_n 1, 12, 0, 0, 0, 0), (12, .invokevirtual 75, 15, 0, 25, 1, 2), (15, .bipush 8, 17, 0, 0, 0, 0), (17, .idiv, 18, 0, 0, 0, 0), (18, .invokevirtual 75, 21, 0, 25, 1, 2), (21, .istore_n 3, 22, 0, 0, 0, 0), (22, .aload_n 0, 23, 0, 0, 0, 0), (23, .getfield 85, 26, 7, 23, 0, 0), (26, .iconst 1, 27, 0, 0, 0, 0), (27, .iadd, 28, 0, 0, 0, 0), (28, .istore 4, 30, 0, 0, 0, 0), (30, .iload 4, 32, 0, 0, 0, 0), (32, .aload_n 0, 33, 0, 0, 0, 0), (33, .getfield 85, 36, 7, 23, 0, 0), (36, .iload_n 2, 37, 0, 0, 0, 0), (37, .iadd, 38, 0, 0, 0, 0), (38, .if_icmp .gt 41, 41, 79, 0, 0, 0), (41, .iload 4, 43, 0, 0, 0, 0), (43, .iload_n 3, 44, 0, 0, 0, 0), (44, .isub, 45, 0, 0, 0, 0), (45, .aload_n 0, 46, 0, 0, 0, 0), (46, .getfield 36, 49, 5, 21, 0, 0), (49, .getfield 82, 52, 2, 7, 0, 0), (52, .iload_n 1, 53, 0, 0, 0, 0), (53, .invokevirtual 75, 56, 0, 25, 1, 2), (56, .if_icmp .lt 5, 59, 61, 0, 0, 0), (59, .iconst 1, 60, 0, 0, 0, 0), (60, .ireturn, 61, 1, 0, 0, 0), (61, .aload_n 0, 62, 0, 0, 0, 0), (62, .iload 4, 64, 0, 0, 0, 0), (64, .invokevirtual 98, 67, 0, 47, 1, 4), (67, .ifCond .eq 6, 70, 73, 0, 0, 0), (70, .iload 4, 72, 0, 0, 0, 0), (72, .istore_n 3, 73, 0, 0, 0, 0), (73, .iinc 4 1, 76, 0, 0, 0, 0), (76, .goto (-46), 79, 30, 0, 0, 0), (79, .iconst 0, 80, 0, 0, 0, 0), (80, .ireturn, 81, 1, 0, 0, 0)]
def zc_X4_isInOrder : List zRow := [(0, .iconst 0, 1, 0, 0, 0, 0), (1, .istore_n 1, 2, 0, 0, 0, 0), (2, .iload_n 1, 3, 0, 0, 0, 0), (3, .bipush 20, 5, 0, 0, 0, 0), (5, .if_icmp .ge 22, 8, 27, 0, 0, 0), (8, .aload_n 0, 9, 0, 0, 0, 0), (9, .getfield 20, 12, 1, 17, 0, 0), (12, .iload_n 1, 13, 0, 0, 0, 0), (13, .invokevirtual 75, 16, 0, 25, 1, 2), (16, .ifCond .ge 5, 19, 21, 0, 0, 0), (19, .iconst 0, 20, 0, 0, 0, 0), (20, .ireturn, 21, 1, 0, 0, 0), (21, .iinc 1 1, 24, 0, 0, 0, 0), (24, .goto (-22), 27, 2, 0, 0, 0), (27, .iconst 0, 28, 0, 0, 0, 0), (28, .istore_n 1, 29, 0, 0, 0, 0), (29, .iload_n 1, 30, 0, 0, 0, 0), (30, .aload_n 0, 31, 0, 0, 0, 0), (31, .getfield 32, 34, 4, 20, 0, 0), (34, .getfield 69, 37, 3, 8, 0, 0), (37, .if_icmp .ge 47, 40, 84, 0, 0, 0), (40, .aload_n 0, 41, 0, 0, 0, 0), (41, .getfield 32, 44, 4, 20, 0, 0), (44, .getfield 72, 47, 0, 5, 0, 0), (47, .iload_n 1, 48, 0, 0, 0, 0), (48, .invokevirtual 75, 51, 0, 25, 1, 2), (51, .istore_n 2, 52, 0, 0, 0, 0), (52, .aload_n 0, 53, 0, 0, 0, 0), (53, .iload_n 2, 54, 0, 0, 0, 0), (54, .aload_n 0, 55, 0, 0, 0, 0), (55, .getfield 14, 58, 0, 16, 0, 0), (58, .iload_n 2, 59, 0, 0, 0, 0), (59, .invokevirtual 75, 62, 0, 25, 1, 2), (62, .invokevirtual 62, 65, 0, 42, 2, 4), (65, .aload_n 0, 66, 0, 0, 0, 0), (66, .getfield 14, 69, 0, 16, 0, 0), (69, .iload_n 2, 70, 0, 0, 0, 0), (70, .invokevirtual 75, 73, 0, 25, 1, 2), (73, .if_icmp .eq 5, 76, 78, 0, 0, 0), (76, .iconst 0, 77, 0, 0, 0, 0), (77, .ireturn, 78, 1, 0, 0, 0), (78, .iinc 1 1, 81, 0, 0, 0, 0), (81, .goto (-52), 84, 29, 0, 0, 0), (84, .iconst 1, 85, 0, 0, 0, 0), (85, .ireturn, 86, 1, 0, 0, 0)]
def zc_X5_init : List zRow := [(0, .aload_n 0, 1, 0, 0, 0, 0), (1, .invokespecial 3, 4, 8, 0, 0, 0), (4, .aload_n 0, 5, 0, 0, 0, 0), (5, .new 9, 8, 0, 0, 0, 0), (8, .dup, 9, 0, 0, 0, 0), (9, .invokespecial 11, 12, 0, 0, 0, 0), (12, .putfield 12, 15, 0, 28, 0, 0), (15, .aload_n 0, 16, 0, 0, 0, 0), (16, .new 16, 19, 0, 0, 0, 4), (19, .dup, 20, 0, 0, 0, 0), (20, .invokespecial 18, 23, 0, 39, 0, 0), (23, .putfield 19, 26, 1, 29, 0, 0), (26, .aload_n 0, 27, 0, 0, 0, 0), (27, .new 23, 30, 0, 0, 0, 3), (30, .dup, 31, 0, 0, 0, 0), (31, .invokespecial 25, 34, 0, 29, 0, 0), (34, .putfield 26, 37, 2, 30, 0, 0), (37, .aload_n 0, 38, 0, 0, 0, 0), (38, .new 30, 41, 0, 0, 0, 2), (41, .dup, 42, 0, 0, 0, 0), (42, .bipush 16, 44, 0, 0, 0, 0), (44, .invokespecial 32, 47, 0, 24, 1, 0), (47, .putfield 35, 50, 3, 31, 0, 0), (50, .aload_n 0, 51, 0, 0, 0, 0), (51, .new 30, 54, 0, 0, 0, 2), (54, .dup, 55, 0, 0, 0, 0), (55, .iconst 2, 56, 0, 0, 0, 0), (56, .invokespecial 32, 59, 0, 24, 1, 0), (59, .putfield 39, 62, 4, 32, 0, 0), (62, .aload_n 0, 63, 0, 0, 0, 0), (63, .new 30, 66, 0, 0, 0, 2), (66, .dup, 67, 0, 0, 0, 0), (67, .sipush 128, 70, 0, 0, 0, 0), (70, .invokespecial 32, 73, 0, 24, 1, 0), (73, .putfield 42, 76, 5, 33, 0, 0), (76, .aload_n 0, 77, 0, 0, 0, 0), (77, .new 30, 80, 0, 0, 0, 2), (80, .dup, 81, 0, 0, 0, 0), (81, .sipush 128, 84, 0, 0, 0, 0), (84, .invokespecial 32, 87, 0, 24, 1, 0), (87, .putfield 45, 90, 6, 34, 0, 0), (90, .iconst 0, 91, 0, 0, 0, 0), (91, .istore_n 1, 92, 0, 0, 0, 0), (92, .iload_n 1, 93, 0, 0, 0, 0), (93, .bipush 16, 95, 0, 0, 0, 0), (95, .if_icmp .ge 21, 98, 116, 0, 0, 0), (98, .aload_n 0, 99, 0, 0, 0, 0), (99, .getfield 35, 102, 3, 31, 0, 0), (102, .iload_n 1, 103, 0, 0, 0, 0), (103, .iload_n 1, 104, 0, 0, 0, 0), (104, .bipush 8, 106, 0, 0, 0, 0), (106, .irem, 107, 0, 0, 0, 0), (107, .invokevirtual 48, 110, 0, 26, 2, 2), (110, .iinc 1 1, 113, 0, 0, 0, 0), (113, .goto (-21), 116, 92, 0, 0, 0), (116, .aload_n 0, 117, 0, 0, 0, 0), (117, .getfield 12, 120, 0, 28, 0, 0), (120, .bipush 8, 122, 0, 0, 0, 0), (122, .iconst 5, 123, 0, 0, 0, 0), (123, .invokevirtual 52, 126, 0, 3, 2, 0), (126, .aload_n 0, 127, 0, 0, 0, 0), (127, .getfield 19, 130, 1, 29, 0, 0), (130, .aload_n 0, 131, 0, 0, 0, 0), (131, .getfield 12, 134, 0, 28, 0, 0), (134, .getfield 55, 137, 4, 4, 0, 0), (137, .invokevirtual 59, 140, 0, 40, 1, 4), (140, .return_, 141, 0, 0, 0, 0)]
def zc_Z53 : List zRow := []
def zc_X5_write : List zRow := [(0, .iload_n 1, 1, 0, 0, 0, 0), (1, .invokestatic 83, 4, 0, 82, 1, 0), (4, .aload_n 0, 5, 0, 0, 0, 0), (5, .iload_n 2, 6, 0, 0, 0, 0), (6, .invokevirtual 86, 9, 0, 86, 1, 5), (9, .aload_n 0, 10, 0, 0, 0, 0), (10, .iload_n 1, 11, 0, 0, 0, 0), (11, .invokevirtual 89, 14, 0, 87, 1, 5), (14, .aload_n 0, 15, 0, 0, 0, 0), (15, .iload_n 1, 16, 0, 0, 0, 0), (16, .iload_n 2, 17, 0, 0, 0, 0), (17, .invokevirtual 92, 20, 0, 101, 2, 5), (20, .iload_n 1, 21, 0, 0, 0, 0), (21, .invokestatic 95, 24, 0, 89, 1, 0), (24, .istore_n 3, 25, 0, 0, 0, 0), (25, .aload_n 0, 26, 0, 0, 0, 0), (26, .getfield 98, 29, 9, 37, 0, 0), (29, .ifCond .eq 17, 32, 46, 0, 0, 0), (32, .aload_n 0, 33, 0, 0, 0, 0), (33, .iload_n 3, 34, 0, 0, 0, 0), (34, .invokevirtual 102, 37, 0, 96, 1, 5), (37, .ifCond .ne 9, 40, 46, 0, 0, 0), (40, .aload_n 0, 41, 0, 0, 0, 0), (41, .iload_n 3, 42, 0, 0, 0, 0), (42, .iload_n 2, 43, 0, 0, 0, 0), (43, .invokevirtual 92, 46, 0, 101, 2, 5), (46, .aload_n 0, 47, 0, 0, 0, 0), (47, .iload_n 1, 48, 0, 0, 0, 0), (48, .invokevirtual 106, 51, 0, 92, 1, 5), (51, .ireturn, 52, 0, 0, 0, 0)]
def zc_X5_read : List zRow := [(0, .iload_n 1, 1, 0, 0, 0, 0), (1, .invokestatic 83, 4, 0, 82, 1, 0), (4, .aload_n 0, 5, 0, 0, 0, 0), (5, .iload_n 1, 6, 0, 0, 0, 0), (6, .invokevirtual 89, 9, 0, 87, 1, 5), (9, .aload_n 0, 10, 0, 0, 0, 0), (10, .getfield 19, 13, 1, 29, 0, 0), (13, .aload_n 0, 14, 0, 0, 0, 0), (14, .iload_n 1, 15, 0, 0, 0, 0), (15, .invokevirtual 109, 18, 0, 90, 1, 5), (18, .invokevirtual 112, 21, 0, 43, 1, 4), (21, .aload_n 0, 22, 0, 0, 0, 0), (22, .iload_n 1, 23, 0, 0, 0, 0), (23, .invokevirtual 115, 26, 0, 97, 1, 5), (26, .istore_n 2, 27, 0, 0, 0, 0), (27, .aload_n 0, 28, 0, 0, 0, 0), (28, .iload_n 1, 29, 0, 0, 0, 0), (29, .invokevirtual 118, 32, 0, 95, 1, 5), (32, .ifCond .ne 12, 35, 44, 0, 0, 0), (35, .aload_n 0, 36, 0, 0, 0, 0), (36, .iload_n 1, 37, 0, 0, 0, 0), (37, .aload_n 0, 38, 0, 0, 0, 0), (38, .getfield 121, 41, 8, 36, 0, 0), (41, .invokevirtual 124, 44, 0, 103, 2, 5), (44, .iload_n 2, 45, 0, 0, 0, 0), (45, .iconst (-1), 46, 0, 0, 0, 0), (46, .if_icmp .ne 11, 49, 57, 0, 0, 0), (49, .aload_n 0, 50, 0, 0, 0, 0), (50, .iload_n 1, 51, 0, 0, 0, 0), (51, .invokevirtual 128, 54, 0, 104, 1, 5), (54, .goto 4, 57, 58, 0, 0, 0), (57, .iload_n 2, 58, 0, 0, 0, 0), (58, .ireturn, 59, 0, 0, 0, 0)]
def zc_X5_ray : List zRow := [(0, .iload_n 1, 1, 0, 0, 0, 0), (1, .invokestatic 83, 4, 0, 82, 1, 0), (4, .iload_n 2, 5, 0, 0, 0, 0), (5, .iconst 1, 6, 0, 0, 0, 0), (6, .if_icmp .lt 14, 9, 20, 0, 0, 0), (9, .iload_n 2, 10, 0, 0, 0, 0), (10, .aload_n 0, 11, 0, 0, 0, 0), (11, .getfield 12, 14, 0, 28, 0, 0), (14, .invokevirtual 131, 17, 0, 5, 0, 0), (17, .if_icmp .lt 13, 20, 30, 0, 0, 0), (20, .new 62, 23, 9, 0, 0, 0), (23, .dup, 24, 0, 0, 0, 0), (29, .athrow, 30, 0, 0, 0, 0), (30, .aload_n 0, 31, 0, 0, 0, 0), (31, .getfield 19, 34, 1, 29, 0, 0), (34, .aload_n 0, 35, 0, 0, 0, 0), (35, .iload_n 1, 36, 0, 0, 0, 0), (36, .invokevirtual 137, 39, 0, 91, 1, 5), (39, .aload_n 0, 40, 0, 0, 0, 0), (40, .iload_n 1, 41, 0, 0, 0, 0), (41, .invokevirtual 106, 44, 0, 92, 1, 5), (44, .iload_n 2, 45, 0, 0, 0, 0), (45, .ixor, 46, 0, 0, 0, 0), (46, .invokevirtual 140, 49, 0, 41, 2, 4), (49, .aload_n 0, 50, 0, 0, 0, 0), (50, .iload_n 1, 51, 0, 0, 0, 0), (51, .invokevirtual 106, 54, 0, 92, 1, 5), (54, .ireturn, 55, 0, 0, 0, 0)]
def zc_X5_stick : List zRow := [(0, .iload_n 1, 1, 0, 0, 0, 0), (1, .invokestatic 83, 4, 0, 82, 1, 0), (4, .aload_n 0, 5, 0, 0, 0, 0), (5, .getfield 12, 8, 0, 28, 0, 0), (8, .iload_n 2, 9, 0, 0, 0, 0), (9, .invokevirtual 143, 12, 0, 7, 1, 0), (12, .ifCond .ne 13, 15, 25, 0, 0, 0), (15, .new 62, 18, 9, 0, 0, 0), (18, .dup, 19, 0, 0, 0, 0), (24, .athrow, 25, 0, 0, 0, 0), (25, .aload_n 0, 26, 0, 0, 0, 0), (26, .getfield 19, 29, 1, 29, 0, 0), (29, .getfield 148, 32, 4, 20, 0, 0), (32, .invokevirtual 152, 35, 0, 20, 0, 1), (35, .ifCond .eq 13, 38, 48, 0, 0, 0), (38, .new 158, 41, 9, 2, 0, 0), (41, .dup, 42, 0, 0, 0, 0), (47, .athrow, 48, 0, 0, 0, 0), (48, .aload_n 0, 49, 0, 0, 0, 0), (49, .getfield 19, 52, 1, 29, 0, 0), (52, .getfield 148, 55, 4, 20, 0, 0), (55, .aload_n 0, 56, 0, 0, 0, 0), (56, .iload_n 1, 57, 0, 0, 0, 0), (57, .invokevirtual 137, 60, 0, 91, 1, 5), (60, .iconst 1, 61, 0, 0, 0, 0), (61, .iload_n 2, 62, 0, 0, 0, 0), (62, .ishl, 63, 0, 0, 0, 0), (63, .iload_n 3, 64, 0, 0, 0, 0), (64, .ifCond .eq 7, 67, 71, 0, 0, 0), (67, .iconst 1, 68, 0, 0, 0, 0), (68, .goto 4, 71, 72, 0, 0, 0), (71, .iconst 0, 72, 0, 0, 0, 0), (72, .invokevirtual 163, 75, 0, 21, 3, 1), (75, .aload_n 0, 76, 0, 0, 0, 0), (76, .getfield 19, 79, 1, 29, 0, 0), (79, .aload_n 0, 80, 0, 0, 0, 0), (80, .iload_n 1, 81, 0, 0, 0, 0), (81, .invokevirtual 137, 84, 0, 91, 1, 5), (84, .aload_n 0, 85, 0, 0, 0, 0), (85, .iload_n 1, 86, 0, 0, 0, 0), (86, .invokevirtual 106, 89, 0, 92, 1, 5), (89, .invokevirtual 140, 92, 0, 41, 2, 4), (92, .aload_n 0, 93, 0, 0, 0, 0), (93, .getfield 19, 96, 1, 29, 0, 0), (96, .getfield 148, 99, 4, 20, 0, 0), (99, .getfield 167, 102, 3, 8, 0, 0), (102, .ireturn, 103, 0, 0, 0, 0)]
def zc_X5_weak : List zRow := [(0, .iload_n 1, 1, 0, 0, 0, 0), (1, .invokestatic 83, 4, 0, 82, 1, 0), (4, .aload_n 0, 5, 0, 0, 0, 0), (5, .getfield 12, 8, 0, 28, 0, 0), (8, .iload_n 2, 9, 0, 0, 0, 0), (9, .invokevirtual 143, 12, 0, 7, 1, 0), (12, .ifCond .ne 13, 15, 25, 0, 0, 0), (15, .new 62, 18, 9, 0, 0, 0), (18, .dup, 19, 0, 0, 0, 0), (24, .athrow, 25, 0, 0, 0, 0), (25, .iload_n 3, 26, 0, 0, 0, 0), (26, .iconst 1, 27, 0, 0, 0, 0), (27, .if_icmp .lt 9, 30, 36, 0, 0, 0), (30, .iload_n 3, 31, 0, 0, 0, 0), (31, .bipush 60, 33, 0, 0, 0, 0), (33, .if_icmp .le 13, 36, 46, 0, 0, 0), (36, .new 62, 39, 9, 0, 0, 0), (39, .dup, 40, 0, 0, 0, 0), (45, .athrow, 46, 0, 0, 0, 0), (46, .aload_n 0, 47, 0, 0, 0, 0), (47, .getfield 19, 50, 1, 29, 0, 0), (50, .getfield 172, 53, 5, 21, 0, 0), (53, .invokevirtual 152, 56, 0, 20, 0, 1), (56, .ifCond .eq 13, 59, 69, 0, 0, 0), (59, .new 158, 62, 9, 2, 0, 0), (62, .dup, 63, 0, 0, 0, 0), (68, .athrow, 69, 0, 0, 0, 0), (69, .aload_n 0, 70, 0, 0, 0, 0), (70, .getfield 19, 73, 1, 29, 0, 0), (73, .getfield 172, 76, 5, 21, 0, 0), (76, .aload_n 0, 77, 0, 0, 0, 0), (77, .iload_n 1, 78, 0, 0, 0, 0), (78, .invokevirtual 137, 81, 0, 91, 1, 5), (81, .iconst 1, 82, 0, 0, 0, 0), (82, .iload_n 2, 83, 0, 0, 0, 0), (83, .ishl, 84, 0, 0, 0, 0), (84, .iload_n 3, 85, 0, 0, 0, 0), (85, .invokevirtual 163, 88, 0, 21, 3, 1), (88, .aload_n 0, 89, 0, 0, 0, 0), (89, .getfield 19, 92, 1, 29, 0, 0), (92, .getfield 172, 95, 5, 21, 0, 0), (95, .getfield 167, 98, 3, 8, 0, 0), (98, .ireturn, 99, 0, 0, 0, 0)]
def zc_X5_hammer : List zRow := [(0, .iload_n 1, 1, 0, 0, 0, 0), (1, .iload_n 2, 2, 0, 0, 0, 0), (2, .invokestatic 177, 5, 0, 84, 2, 0), (5, .iload_n 3, 6, 0, 0, 0, 0), (6, .iconst 1, 7, 0, 0, 0, 0), (7, .if_icmp .lt 9, 10, 16, 0, 0, 0), (10, .iload_n 3, 11, 0, 0, 0, 0), (11, .bipush 100, 13, 0, 0, 0, 0), (13, .if_icmp .le 13, 16, 26, 0, 0, 0), (16, .new 62, 19, 9, 0, 0, 0), (19, .dup, 20, 0, 0, 0, 0), (25, .athrow, 26, 0, 0, 0, 0), (26, .aload_n 0, 27, 0, 0, 0, 0), (27, .iload_n 1, 28, 0, 0, 0, 0), (28, .iload_n 2, 29, 0, 0, 0, 0), (29, .invokestatic 182, 32, 0, 88, 2, 0), (32, .invokevirtual 109, 35, 0, 90, 1, 5), (35, .istore 4, 37, 0, 0, 0, 0), (37, .iconst 0, 38, 0, 0, 0, 0), (38, .istore 5, 40, 0, 0, 0, 0), (40, .iload 5, 42, 0, 0, 0, 0), (42, .iload_n 3, 43, 0, 0, 0, 0), (43, .if_icmp .ge 18, 46, 61, 0, 0, 0), (46, .aload_n 0, 47, 0, 0, 0, 0), (47, .getfield 19, 50, 1, 29, 0, 0), (50, .iload 4, 52, 0, 0, 0, 0), (52, .invokevirtual 112, 55, 0, 43, 1, 4), (55, .iinc 5 1, 58, 0, 0, 0, 0), (58, .goto (-18), 61, 40, 0, 0, 0), (61, .aload_n 0, 62, 0, 0, 0, 0), (62, .getfield 19, 65, 1, 29, 0, 0), (65, .getfield 186, 68, 1, 17, 0, 0), (68, .iload 4, 70, 0, 0, 0, 0), (70, .invokevirtual 189, 73, 0, 25, 1, 2), (73, .ireturn, 74, 0, 0, 0, 0)]
def zc_X5_run : List zRow := [(0, .iload_n 1, 1, 0, 0, 0, 0), (1, .iconst 1, 2, 0, 0, 0, 0), (2, .if_icmp .lt 9, 5, 11, 0, 0, 0), (5, .iload_n 1, 6, 0, 0, 0, 0), (6, .bipush 100, 8, 0, 0, 0, 0), (8, .if_icmp .le 13, 11, 21, 0, 0, 0), (11, .new 62, 14, 9, 0, 0, 0), (14, .dup, 15, 0, 0, 0, 0), (20, .athrow, 21, 0, 0, 0, 0), (21, .iload_n 2, 22, 0, 0, 0, 0), (22, .iconst 2, 23, 0, 0, 0, 0), (23, .if_icmp .lt 9, 26, 32, 0, 0, 0), (26, .iload_n 2, 27, 0, 0, 0, 0), (27, .bipush 100, 29, 0, 0, 0, 0), (29, .if_icmp .le 13, 32, 42, 0, 0, 0), (32, .new 62, 35, 9, 0, 0, 0), (35, .dup, 36, 0, 0, 0, 0), (41, .athrow, 42, 0, 0, 0, 0), (42, .iload_n 3, 43, 0, 0, 0, 0), (43, .ifCond .lt 9, 46, 52, 0, 0, 0), (46, .iload_n 3, 47, 0, 0, 0, 0), (47, .bipush 8, 49, 0, 0, 0, 0), (49, .if_icmp .le 13, 52, 62, 0, 0, 0), (52, .new 62, 55, 9, 0, 0, 0), (55, .dup, 56, 0, 0, 0, 0), (61, .athrow, 62, 0, 0, 0, 0), (62, .aload_n 0, 63, 0, 0, 0, 0), (63, .getfield 198, 66, 7, 35, 0, 0), (66, .istore 6, 68, 0, 0, 0, 0), (68, .aload_n 0, 69, 0, 0, 0, 0), (69, .getfield 19, 72, 1, 29, 0, 0), (72, .iload_n 1, 73, 0, 0, 0, 0), (73, .putfield 201, 76, 8, 24, 0, 0), (76, .aload_n 0, 77, 0, 0, 0, 0), (77, .getfield 19, 80, 1, 29, 0, 0), (80, .iload_n 2, 81, 0, 0, 0, 0), (81, .putfield 204, 84, 9, 25, 0, 0), (84, .aload_n 0, 85, 0, 0, 0, 0), (85, .iload_n 3, 86, 0, 0, 0, 0), (86, .putfield 198, 89, 7, 35, 0, 0), (89, .aload_n 0, 90, 0, 0, 0, 0), (90, .iload 4, 92, 0, 0, 0, 0), (92, .putfield 121, 95, 8, 36, 0, 0), (95, .aload_n 0, 96, 0, 0, 0, 0), (96, .iload 5, 98, 0, 0, 0, 0), (98, .putfield 98, 101, 9, 37, 0, 0), (101, .iload 6, 103, 0, 0, 0, 0), (103, .ireturn, 104, 0, 0, 0, 0)]
def zc_Z61 : List zRow := []
def zc_Z62 : List zRow := []
def zc_X5_pass : List zRow := [(0, .iload_n 1, 1, 0, 0, 0, 0), (1, .invokestatic 215, 4, 0, 85, 1, 0), (4, .aload_n 0, 5, 0, 0, 0, 0), (5, .getfield 19, 8, 1, 29, 0, 0), (8, .getfield 218, 11, 7, 23, 0, 0), (11, .iload_n 1, 12, 0, 0, 0, 0), (12, .iadd, 13, 0, 0, 0, 0), (13, .sipush 2000, 16, 0, 0, 0, 0), (16, .if_icmp .le 13, 19, 29, 0, 0, 0), (19, .new 158, 22, 9, 2, 0, 0), (22, .dup, 23, 0, 0, 0, 0), (28, .athrow, 29, 0, 0, 0, 0), (29, .iconst 0, 30, 0, 0, 0, 0), (30, .istore_n 2, 31, 0, 0, 0, 0), (31, .iload_n 2, 32, 0, 0, 0, 0), (32, .iload_n 1, 33, 0, 0, 0, 0), (33, .if_icmp .ge 20, 36, 53, 0, 0, 0), (36, .aload_n 0, 37, 0, 0, 0, 0), (37, .getfield 19, 40, 1, 29, 0, 0), (40, .invokevirtual 223, 43, 0, 46, 0, 4), (43, .aload_n 0, 44, 0, 0, 0, 0), (44, .invokevirtual 226, 47, 0, 105, 0, 5), (47, .iinc 2 1, 50, 0, 0, 0, 0), (50, .goto (-19), 53, 31, 0, 0, 0), (53, .aload_n 0, 54, 0, 0, 0, 0), (54, .getfield 19, 57, 1, 29, 0, 0), (57, .getfield 218, 60, 7, 23, 0, 0), (60, .ireturn, 61, 0, 0, 0, 0)]
def zc_Z64 : List zRow := []
def zc_Z65 : List zRow := []
def zc_X5_column : List zRow := [(0, .aload_n 0, 1, 0, 0, 0, 0), (1, .getfield 12, 4, 0, 28, 0, 0), (4, .iload_n 1, 5, 0, 0, 0, 0), (5, .invokevirtual 143, 8, 0, 7, 1, 0), (8, .ifCond .ne 13, 11, 21, 0, 0, 0), (11, .new 233, 14, 9, 1, 0, 0), (14, .dup, 15, 0, 0, 0, 0), (20, .athrow, 21, 0, 0, 0, 0), (21, .aload_n 0, 22, 0, 0, 0, 0), (22, .getfield 12, 25, 0, 28, 0, 0), (25, .getfield 236, 28, 0, 0, 0, 0), (28, .iload_n 1, 29, 0, 0, 0, 0), (29, .invokevirtual 189, 32, 0, 25, 1, 2), (32, .ireturn, 33, 0, 0, 0, 0)]
def zc_Z67 : List zRow := []
def zc_Z68 : List zRow := []
def zc_X5_fooled : List zRow := [(0, .iload_n 1, 1, 0, 0, 0, 0), (1, .iconst 2, 2, 0, 0, 0, 0), (2, .if_icmp .eq 19, 5, 21, 0, 0, 0), (5, .iload_n 1, 6, 0, 0, 0, 0), (6, .iconst 3, 7, 0, 0, 0, 0), (7, .if_icmp .eq 14, 10, 21, 0, 0, 0), (10, .new 62, 13, 9, 0, 0, 0), (13, .dup, 14, 0, 0, 0, 0), (20, .athrow, 21, 0, 0, 0, 0), (21, .aload_n 0, 22, 0, 0, 0, 0), (22, .getfield 12, 25, 0, 28, 0, 0), (25, .iload_n 1, 26, 0, 0, 0, 0), (26, .invokevirtual 263, 29, 0, 15, 1, 0), (29, .ireturn, 30, 0, 0, 0, 0)]
def zc_X5_ofWord : List zRow := [(0, .iload_n 1, 1, 0, 0, 0, 0), (1, .invokestatic 83, 4, 0, 82, 1, 0), (4, .aload_n 0, 5, 0, 0, 0, 0), (5, .iload_n 1, 6, 0, 0, 0, 0), (6, .invokevirtual 137, 9, 0, 91, 1, 5), (9, .istore_n 3, 10, 0, 0, 0, 0), (10, .iload_n 2, 11, 0, 0, 0, 0), (11, .tableswitch 120 0 6 #[41, 47, 60, 69, 78, 90, 105], 52, 0, 0, 0, 0), (52, .aload_n 0, 53, 0, 0, 0, 0), (53, .iload_n 1, 54, 0, 0, 0, 0), (54, .invokevirtual 106, 57, 0, 92, 1, 5), (57, .ireturn, 58, 0, 0, 0, 0), (58, .aload_n 0, 59, 0, 0, 0, 0), (59, .getfield 12, 62, 0, 28, 0, 0), (62, .aload_n 0, 63, 0, 0, 0, 0), (63, .iload_n 1, 64, 0, 0, 0, 0), (64, .invokevirtual 106, 67, 0, 92, 1, 5), (67, .invokevirtual 247, 70, 0, 11, 1, 0), (70, .ireturn, 71, 0, 0, 0, 0), (71, .aload_n 0, 72, 0, 0, 0, 0), (72, .getfield 42, 75, 5, 33, 0, 0), (75, .iload_n 1, 76, 0, 0, 0, 0), (76, .invokevirtual 189, 79, 0, 25, 1, 2), (79, .ireturn, 80, 0, 0, 0, 0), (80, .aload_n 0, 81, 0, 0, 0, 0), (81, .getfield 45, 84, 6, 34, 0, 0), (84, .iload_n 1, 85, 0, 0, 0, 0), (85, .invokevirtual 189, 88, 0, 25, 1, 2), (88, .ireturn, 89, 0, 0, 0, 0), (89, .aload_n 0, 90, 0, 0, 0, 0), (90, .getfield 35, 93, 3, 31, 0, 0), (93, .iload_n 1, 94, 0, 0, 0, 0), (94, .bipush 8, 96, 0, 0, 0, 0), (96, .idiv, 97, 0, 0, 0, 0), (97, .invokevirtual 189, 100, 0, 25, 1, 2), (100, .ireturn, 101, 0, 0, 0, 0), (101, .aload_n 0, 102, 0, 0, 0, 0), (102, .getfield 19, 105, 1, 29, 0, 0), (105, .getfield 148, 108, 4, 20, 0, 0), (108, .iload_n 3, 109, 0, 0, 0, 0), (109, .iload_n 3, 110, 0, 0, 0, 0), (110, .iconst 1, 111, 0, 0, 0, 0), (111, .iadd, 112, 0, 0, 0, 0), (112, .invokevirtual 266, 115, 0, 23, 2, 1), (115, .ireturn, 116, 0, 0, 0, 0), (116, .aload_n 0, 117, 0, 0, 0, 0), (117, .getfield 19, 120, 1, 29, 0, 0), (120, .getfield 172, 123, 5, 21, 0, 0), (123, .iload_n 3, 124, 0, 0, 0, 0), (124, .iload_n 3, 125, 0, 0, 0, 0), (125, .iconst 1, 126, 0, 0, 0, 0), (126, .iadd, 127, 0, 0, 0, 0), (127, .invokevirtual 266, 130, 0, 23, 2, 1), (130, .ireturn, 131, 0, 0, 0, 0), (131, .new 62, 134, 9, 0, 0, 0), (134, .dup, 135, 0, 0, 0, 0), (141, .athrow, 142, 0, 0, 0, 0)]
def zc_X5_ofLine : List zRow := [(0, .iload_n 1, 1, 0, 0, 0, 0), (1, .invokestatic 271, 4, 0, 83, 1, 0), (4, .iload_n 2, 5, 0, 0, 0, 0), (5, .ifCond .lt 9, 8, 14, 0, 0, 0), (8, .iload_n 2, 9, 0, 0, 0, 0), (9, .bipush 10, 11, 0, 0, 0, 0), (11, .if_icmp .lt 14, 14, 25, 0, 0, 0), (14, .new 233, 17, 9, 1, 0, 0), (17, .dup, 18, 0, 0, 0, 0), (24, .athrow, 25, 0, 0, 0, 0), (25, .iload_n 1, 26, 0, 0, 0, 0), (26, .bipush 10, 28, 0, 0, 0, 0), (28, .imul, 29, 0, 0, 0, 0), (29, .iload_n 2, 30, 0, 0, 0, 0), (30, .iadd, 31, 0, 0, 0, 0), (31, .istore 4, 33, 0, 0, 0, 0), (33, .iload_n 3, 34, 0, 0, 0, 0), (34, .tableswitch 89 0 4 #[34, 47, 54, 75, 82], 68, 0, 0, 0, 0), (68, .aload_n 0, 69, 0, 0, 0, 0), (69, .getfield 19, 72, 1, 29, 0, 0), (72, .getfield 186, 75, 1, 17, 0, 0), (75, .iload 4, 77, 0, 0, 0, 0), (77, .invokevirtual 189, 80, 0, 25, 1, 2), (80, .ireturn, 81, 0, 0, 0, 0), (81, .aload_n 0, 82, 0, 0, 0, 0), (82, .iload_n 1, 83, 0, 0, 0, 0), (83, .iload_n 2, 84, 0, 0, 0, 0), (84, .invokevirtual 276, 87, 0, 93, 2, 5), (87, .ireturn, 88, 0, 0, 0, 0), (88, .aload_n 0, 89, 0, 0, 0, 0), (89, .getfield 19, 92, 1, 29, 0, 0), (92, .getfield 218, 95, 7, 23, 0, 0), (95, .aload_n 0, 96, 0, 0, 0, 0), (96, .getfield 19, 99, 1, 29, 0, 0), (99, .getfield 279, 102, 2, 18, 0, 0), (102, .iload 4, 104, 0, 0, 0, 0), (104, .invokevirtual 189, 107, 0, 25, 1, 2), (107, .isub, 108, 0, 0, 0, 0), (108, .ireturn, 109, 0, 0, 0, 0), (109, .aload_n 0, 110, 0, 0, 0, 0), (110, .iload 4, 112, 0, 0, 0, 0), (112, .invokevirtual 282, 115, 0, 99, 1, 5), (115, .ireturn, 116, 0, 0, 0, 0), (116, .aload_n 0, 117, 0, 0, 0, 0), (117, .iload 4, 119, 0, 0, 0, 0), (119, .invokevirtual 285, 122, 0, 100, 1, 5), (122, .ireturn, 123, 0, 0, 0, 0), (123, .new 62, 126, 9, 0, 0, 0), (126, .dup, 127, 0, 0, 0, 0), (133, .athrow, 134, 0, 0, 0, 0)]
def zc_X5_ofEntry : List zRow := [(0, .iload_n 1, 1, 0, 0, 0, 0), (1, .ifCond .lt 14, 4, 15, 0, 0, 0), (4, .iload_n 1, 5, 0, 0, 0, 0), (5, .aload_n 0, 6, 0, 0, 0, 0), (6, .getfield 26, 9, 2, 30, 0, 0), (9, .getfield 229, 12, 3, 13, 0, 0), (12, .if_icmp .lt 14, 15, 26, 0, 0, 0), (15, .new 233, 18, 9, 1, 0, 0), (18, .dup, 19, 0, 0, 0, 0), (25, .athrow, 26, 0, 0, 0, 0), (26, .iload_n 2, 27, 0, 0, 0, 0), (27, .tableswitch 61 0 2 #[25, 37, 49], 52, 0, 0, 0, 0), (52, .aload_n 0, 53, 0, 0, 0, 0), (53, .getfield 26, 56, 2, 30, 0, 0), (56, .getfield 292, 59, 0, 10, 0, 0), (59, .iload_n 1, 60, 0, 0, 0, 0), (60, .invokevirtual 189, 63, 0, 25, 1, 2), (63, .ireturn, 64, 0, 0, 0, 0), (64, .aload_n 0, 65, 0, 0, 0, 0), (65, .getfield 26, 68, 2, 30, 0, 0), (68, .getfield 295, 71, 1, 11, 0, 0), (71, .iload_n 1, 72, 0, 0, 0, 0), (72, .invokevirtual 189, 75, 0, 25, 1, 2), (75, .ireturn, 76, 0, 0, 0, 0), (76, .aload_n 0, 77, 0, 0, 0, 0), (77, .getfield 26, 80, 2, 30, 0, 0), (80, .getfield 298, 83, 2, 12, 0, 0), (83, .iload_n 1, 84, 0, 0, 0, 0), (84, .invokevirtual 189, 87, 0, 25, 1, 2), (87, .ireturn, 88, 0, 0, 0, 0), (88, .new 62, 91, 9, 0, 0, 0), (91, .dup, 92, 0, 0, 0, 0), (98, .athrow, 99, 0, 0, 0, 0)]
def zc_X5_blame : List zRow := [(0, .iload_n 1, 1, 0, 0, 0, 0), (1, .invokestatic 271, 4, 0, 83, 1, 0), (4, .iconst 1, 5, 0, 0, 0, 0), (5, .istore_n 3, 6, 0, 0, 0, 0), (6, .iload_n 3, 7, 0, 0, 0, 0), (7, .iconst 4, 8, 0, 0, 0, 0), (8, .if_icmp .gt 37, 11, 45, 0, 0, 0), (11, .aload_n 0, 12, 0, 0, 0, 0), (12, .getfield 26, 15, 2, 30, 0, 0), (15, .iload_n 1, 16, 0, 0, 0, 0), (16, .iload_n 3, 17, 0, 0, 0, 0), (17, .invokevirtual 303, 20, 0, 32, 2, 3), (20, .istore 4, 22, 0, 0, 0, 0), (22, .iload 4, 24, 0, 0, 0, 0), (24, .iconst (-1), 25, 0, 0, 0, 0), (25, .if_icmp .eq 14, 28, 39, 0, 0, 0), (28, .iload_n 2, 29, 0, 0, 0, 0), (29, .ifCond .eq 8, 32, 37, 0, 0, 0), (32, .iload 4, 34, 0, 0, 0, 0), (34, .goto 4, 37, 38, 0, 0, 0), (37, .iload_n 3, 38, 0, 0, 0, 0), (38, .ireturn, 39, 0, 0, 0, 0), (39, .iinc 3 1, 42, 0, 0, 0, 0), (42, .goto (-36), 45, 6, 0, 0, 0), (45, .iload_n 2, 46, 0, 0, 0, 0), (46, .ifCond .eq 7, 49, 53, 0, 0, 0), (49, .iconst (-1), 50, 0, 0, 0, 0), (50, .goto 4, 53, 54, 0, 0, 0), (53, .iconst 0, 54, 0, 0, 0, 0), (54, .ireturn, 55, 0, 0, 0, 0)]
def zc_X5_board : List zRow := [(0, .iload_n 1, 1, 0, 0, 0, 0), (1, .tableswitch 238 0 17 #[87, 95, 103, 111, 119, 127, 132, 145, 158, 163, 171, 179, 187, 195, 203, 214, 225, 233], 88, 0, 0, 0, 0), (88, .aload_n 0, 89, 0, 0, 0, 0), (89, .getfield 19, 92, 1, 29, 0, 0), (92, .getfield 218, 95, 7, 23, 0, 0), (95, .ireturn, 96, 0, 0, 0, 0), (96, .aload_n 0, 97, 0, 0, 0, 0), (97, .getfield 12, 100, 0, 28, 0, 0), (100, .getfield 306, 103, 2, 2, 0, 0), (103, .ireturn, 104, 0, 0, 0, 0), (104, .aload_n 0, 105, 0, 0, 0, 0), (105, .getfield 12, 108, 0, 28, 0, 0), (108, .getfield 309, 111, 3, 3, 0, 0), (111, .ireturn, 112, 0, 0, 0, 0), (112, .aload_n 0, 113, 0, 0, 0, 0), (113, .getfield 19, 116, 1, 29, 0, 0), (116, .getfield 201, 119, 8, 24, 0, 0), (119, .ireturn, 120, 0, 0, 0, 0), (120, .aload_n 0, 121, 0, 0, 0, 0), (121, .getfield 19, 124, 1, 29, 0, 0), (124, .getfield 204, 127, 9, 25, 0, 0), (127, .ireturn, 128, 0, 0, 0, 0), (128, .aload_n 0, 129, 0, 0, 0, 0), (129, .getfield 198, 132, 7, 35, 0, 0), (132, .ireturn, 133, 0, 0, 0, 0), (133, .aload_n 0, 134, 0, 0, 0, 0), (134, .getfield 121, 137, 8, 36, 0, 0), (137, .ifCond .eq 7, 140, 144, 0, 0, 0), (140, .iconst 1, 141, 0, 0, 0, 0), (141, .goto 4, 144, 145, 0, 0, 0), (144, .iconst 0, 145, 0, 0, 0, 0), (145, .ireturn, 146, 0, 0, 0, 0), (146, .aload_n 0, 147, 0, 0, 0, 0), (147, .getfield 98, 150, 9, 37, 0, 0), (150, .ifCond .eq 7, 153, 157, 0, 0, 0), (153, .iconst 1, 154, 0, 0, 0, 0), (154, .goto 4, 157, 158, 0, 0, 0), (157, .iconst 0, 158, 0, 0, 0, 0), (158, .ireturn, 159, 0, 0, 0, 0), (159, .aload_n 0, 160, 0, 0, 0, 0), (160, .getfield 312, 163, 10, 38, 0, 0), (163, .ireturn, 164, 0, 0, 0, 0), (164, .aload_n 0, 165, 0, 0, 0, 0), (165, .getfield 26, 168, 2, 30, 0, 0), (168, .getfield 229, 171, 3, 13, 0, 0), (171, .ireturn, 172, 0, 0, 0, 0), (172, .aload_n 0, 173, 0, 0, 0, 0), (173, .getfield 26, 176, 2, 30, 0, 0), (176, .getfield 315, 179, 4, 14, 0, 0), (179, .ireturn, 180, 0, 0, 0, 0), (180, .aload_n 0, 181, 0, 0, 0, 0), (181, .getfield 26, 184, 2, 30, 0, 0), (184, .getfield 318, 187, 5, 15, 0, 0), (187, .ireturn, 188, 0, 0, 0, 0), (188, .aload_n 0, 189, 0, 0, 0, 0), (189, .getfield 42, 192, 5, 33, 0, 0), (192, .invokevirtual 212, 195, 0, 28, 0, 2), (195, .ireturn, 196, 0, 0, 0, 0), (196, .aload_n 0, 197, 0, 0, 0, 0), (197, .getfield 45, 200, 6, 34, 0, 0), (200, .invokevirtual 212, 203, 0, 28, 0, 2), (203, .ireturn, 204, 0, 0, 0, 0), (204, .aload_n 0, 205, 0, 0, 0, 0), (205, .getfield 19, 208, 1, 29, 0, 0), (208, .getfield 148, 211, 4, 20, 0, 0), (211, .getfield 167, 214, 3, 8, 0, 0), (214, .ireturn, 215, 0, 0, 0, 0), (215, .aload_n 0, 216, 0, 0, 0, 0), (216, .getfield 19, 219, 1, 29, 0, 0), (219, .getfield 172, 222, 5, 21, 0, 0), (222, .getfield 167, 225, 3, 8, 0, 0), (225, .ireturn, 226, 0, 0, 0, 0), (226, .aload_n 0, 227, 0, 0, 0, 0), (227, .getfield 19, 230, 1, 29, 0, 0), (230, .getfield 321, 233, 11, 27, 0, 0), (233, .ireturn, 234, 0, 0, 0, 0), (234, .aload_n 0, 235, 0, 0, 0, 0), (235, .getfield 230, 238, 11, 39, 0, 0), (238, .ireturn, 239, 0, 0, 0, 0), (239, .new 62, 242, 9, 0, 0, 0), (242, .dup, 243, 0, 0, 0, 0), (249, .athrow, 250, 0, 0, 0, 0)]
def zc_X5_health : List zRow := [(0, .iload_n 1, 1, 0, 0, 0, 0), (1, .invokestatic 271, 4, 0, 83, 1, 0), (4, .iconst 0, 5, 0, 0, 0, 0), (5, .istore_n 2, 6, 0, 0, 0, 0), (6, .iconst 0, 7, 0, 0, 0, 0), (7, .istore_n 3, 8, 0, 0, 0, 0), (8, .iload_n 3, 9, 0, 0, 0, 0), (9, .bipush 64, 11, 0, 0, 0, 0), (11, .if_icmp .ge 45, 14, 56, 0, 0, 0), (14, .iload_n 1, 15, 0, 0, 0, 0), (15, .bipush 64, 17, 0, 0, 0, 0), (17, .imul, 18, 0, 0, 0, 0), (18, .iload_n 3, 19, 0, 0, 0, 0), (19, .iadd, 20, 0, 0, 0, 0), (20, .istore 4, 22, 0, 0, 0, 0), (22, .aload_n 0, 23, 0, 0, 0, 0), (23, .iload 4, 25, 0, 0, 0, 0), (25, .invokevirtual 118, 28, 0, 95, 1, 5), (28, .ifCond .ne 22, 31, 50, 0, 0, 0), (31, .aload_n 0, 32, 0, 0, 0, 0), (32, .getfield 12, 35, 0, 28, 0, 0), (35, .aload_n 0, 36, 0, 0, 0, 0), (36, .iload 4, 38, 0, 0, 0, 0), (38, .invokevirtual 106, 41, 0, 92, 1, 5), (41, .invokevirtual 326, 44, 0, 10, 1, 0), (44, .ifCond .eq 6, 47, 50, 0, 0, 0), (47, .iinc 2 1, 50, 0, 0, 0, 0), (50, .iinc 3 1, 53, 0, 0, 0, 0), (53, .goto (-45), 56, 8, 0, 0, 0), (56, .iload_n 2, 57, 0, 0, 0, 0), (57, .i2d, 58, 0, 0, 0, 0), (58, .ldc2_w 329, 61, 1, 4634204016564240384, 0, 0), (61, .ddiv, 62, 0, 0, 0, 0), (62, .dreturn, 63, 0, 0, 0, 0)]
def zc_Z76 : List zRow := []
def zc_X5_wouldRead : List zRow := [(0, .iload_n 1, 1, 0, 0, 0, 0), (1, .invokestatic 83, 4, 0, 82, 1, 0), (4, .aload_n 0, 5, 0, 0, 0, 0), (5, .iload_n 1, 6, 0, 0, 0, 0), (6, .invokevirtual 102, 9, 0, 96, 1, 5), (9, .ifCond .eq 6, 12, 15, 0, 0, 0), (12, .bipush (-2), 14, 0, 0, 0, 0), (14, .ireturn, 15, 0, 0, 0, 0), (15, .aload_n 0, 16, 0, 0, 0, 0), (16, .iload_n 1, 17, 0, 0, 0, 0), (17, .invokevirtual 115, 20, 0, 97, 1, 5), (20, .istore_n 2, 21, 0, 0, 0, 0), (21, .iload_n 1, 22, 0, 0, 0, 0), (22, .invokestatic 95, 25, 0, 89, 1, 0), (25, .istore_n 3, 26, 0, 0, 0, 0), (26, .iload_n 2, 27, 0, 0, 0, 0), (27, .iconst (-1), 28, 0, 0, 0, 0), (28, .if_icmp .ne 24, 31, 52, 0, 0, 0), (31, .aload_n 0, 32, 0, 0, 0, 0), (32, .getfield 98, 35, 9, 37, 0, 0), (35, .ifCond .eq 17, 38, 52, 0, 0, 0), (38, .aload_n 0, 39, 0, 0, 0, 0), (39, .iload_n 3, 40, 0, 0, 0, 0), (40, .invokevirtual 102, 43, 0, 96, 1, 5), (43, .ifCond .ne 9, 46, 52, 0, 0, 0), (46, .aload_n 0, 47, 0, 0, 0, 0), (47, .iload_n 3, 48, 0, 0, 0, 0), (48, .invokevirtual 115, 51, 0, 97, 1, 5), (51, .istore_n 2, 52, 0, 0, 0, 0), (52, .iload_n 2, 53, 0, 0, 0, 0), (53, .ireturn, 54, 0, 0, 0, 0)]
def zc_X5_wouldSpare : List zRow := [(0, .iload_n 1, 1, 0, 0, 0, 0), (1, .invokestatic 271, 4, 0, 83, 1, 0), (4, .aload_n 0, 5, 0, 0, 0, 0), (5, .getfield 39, 8, 4, 32, 0, 0), (8, .iload_n 1, 9, 0, 0, 0, 0), (9, .invokevirtual 189, 12, 0, 25, 1, 2), (12, .iconst 2, 13, 0, 0, 0, 0), (13, .if_icmp .lt 5, 16, 18, 0, 0, 0), (16, .iconst (-1), 17, 0, 0, 0, 0), (17, .ireturn, 18, 0, 0, 0, 0), (18, .iconst (-1), 19, 0, 0, 0, 0), (19, .istore_n 2, 20, 0, 0, 0, 0), (20, .iconst 0, 21, 0, 0, 0, 0), (21, .istore_n 3, 22, 0, 0, 0, 0), (22, .iconst 0, 23, 0, 0, 0, 0), (23, .istore 4, 25, 0, 0, 0, 0), (25, .iconst 0, 26, 0, 0, 0, 0), (26, .istore 5, 28, 0, 0, 0, 0), (28, .iload 5, 30, 0, 0, 0, 0), (30, .bipush 8, 32, 0, 0, 0, 0), (32, .if_icmp .ge 71, 35, 103, 0, 0, 0), (35, .aload_n 0, 36, 0, 0, 0, 0), (36, .iload_n 1, 37, 0, 0, 0, 0), (37, .iload 5, 39, 0, 0, 0, 0), (39, .invokestatic 182, 42, 0, 88, 2, 0), (42, .invokevirtual 109, 45, 0, 90, 1, 5), (45, .istore 6, 47, 0, 0, 0, 0), (47, .aload_n 0, 48, 0, 0, 0, 0), (48, .iload 6, 50, 0, 0, 0, 0), (50, .invokevirtual 285, 53, 0, 100, 1, 5), (53, .istore 7, 55, 0, 0, 0, 0), (55, .aload_n 0, 56, 0, 0, 0, 0), (56, .iload 6, 58, 0, 0, 0, 0), (58, .invokevirtual 282, 61, 0, 99, 1, 5), (61, .istore 8, 63, 0, 0, 0, 0), (63, .iload 7, 65, 0, 0, 0, 0), (65, .iload_n 3, 66, 0, 0, 0, 0), (66, .if_icmp .gt 21, 69, 87, 0, 0, 0), (69, .iload 7, 71, 0, 0, 0, 0), (71, .ifCond .le 26, 74, 97, 0, 0, 0), (74, .iload 7, 76, 0, 0, 0, 0), (76, .iload_n 3, 77, 0, 0, 0, 0), (77, .if_icmp .ne 20, 80, 97, 0, 0, 0), (80, .iload 8, 82, 0, 0, 0, 0), (82, .iload 4, 84, 0, 0, 0, 0), (84, .if_icmp .le 13, 87, 97, 0, 0, 0), (87, .iload 5, 89, 0, 0, 0, 0), (89, .istore_n 2, 90, 0, 0, 0, 0), (90, .iload 7, 92, 0, 0, 0, 0), (92, .istore_n 3, 93, 0, 0, 0, 0), (93, .iload 8, 95, 0, 0, 0, 0), (95, .istore 4, 97, 0, 0, 0, 0), (97, .iinc 5 1, 100, 0, 0, 0, 0), (100, .goto (-72), 103, 28, 0, 0, 0), (103, .iload_n 2, 104, 0, 0, 0, 0), (104, .ireturn, 105, 0, 0, 0, 0)]
def zc_X5_wouldLeak : List zRow := [(0, .iload_n 1, 1, 0, 0, 0, 0), (1, .invokestatic 215, 4, 0, 85, 1, 0), (4, .aload_n 0, 5, 0, 0, 0, 0), (5, .getfield 19, 8, 1, 29, 0, 0), (8, .iload_n 1, 9, 0, 0, 0, 0), (9, .invokevirtual 346, 12, 0, 48, 1, 4), (12, .ireturn, 13, 0, 0, 0, 0)]
def zc_X5_isSound : List zRow := [(0, .aload_n 0, 1, 0, 0, 0, 0), (1, .getfield 12, 4, 0, 28, 0, 0), (4, .invokevirtual 349, 7, 0, 18, 0, 0), (7, .ifCond .eq 34, 10, 41, 0, 0, 0), (10, .aload_n 0, 11, 0, 0, 0, 0), (11, .getfield 19, 14, 1, 29, 0, 0), (14, .invokevirtual 352, 17, 0, 51, 0, 4), (17, .ifCond .eq 24, 20, 41, 0, 0, 0), (20, .aload_n 0, 21, 0, 0, 0, 0), (21, .getfield 26, 24, 2, 30, 0, 0), (24, .invokevirtual 353, 27, 0, 38, 0, 3), (27, .ifCond .eq 14, 30, 41, 0, 0, 0), (30, .aload_n 0, 31, 0, 0, 0, 0), (31, .invokevirtual 354, 34, 0, 94, 0, 5), (34, .ifCond .eq 7, 37, 41, 0, 0, 0), (37, .iconst 1, 38, 0, 0, 0, 0), (38, .goto 4, 41, 42, 0, 0, 0), (41, .iconst 0, 42, 0, 0, 0, 0), (42, .ireturn, 43, 1, 0, 0, 0)]
def zc_X5_digest : List zRow := [(0, .ldc2_w 357, 3, 0, 58281, 0, 0), (3, .lstore_n 1, 4, 0, 0, 0, 0), (4, .iconst 0, 5, 0, 0, 0, 0), (5, .istore_n 3, 6, 0, 0, 0, 0), (6, .iload_n 3, 7, 0, 0, 0, 0), (7, .bipush 18, 9, 0, 0, 0, 0), (9, .if_icmp .ge 20, 12, 29, 0, 0, 0), (12, .lload_n 1, 13, 0, 0, 0, 0), (13, .aload_n 0, 14, 0, 0, 0, 0), (14, .iload_n 3, 15, 0, 0, 0, 0), (15, .invokevirtual 359, 18, 0, 74, 1, 5), (18, .i2l, 19, 0, 0, 0, 0), (19, .invokestatic 362, 22, 0, 107, 2, 0), (22, .lstore_n 1, 23, 0, 0, 0, 0), (23, .iinc 3 1, 26, 0, 0, 0, 0), (26, .goto (-20), 29, 6, 0, 0, 0), (29, .iconst 0, 30, 0, 0, 0, 0), (30, .istore_n 3, 31, 0, 0, 0, 0), (31, .iload_n 3, 32, 0, 0, 0, 0), (32, .aload_n 0, 33, 0, 0, 0, 0), (33, .getfield 12, 36, 0, 28, 0, 0), (36, .getfield 55, 39, 4, 4, 0, 0), (39, .if_icmp .ge 20, 42, 59, 0, 0, 0), (42, .lload_n 1, 43, 0, 0, 0, 0), (43, .aload_n 0, 44, 0, 0, 0, 0), (44, .iload_n 3, 45, 0, 0, 0, 0), (45, .invokevirtual 366, 48, 0, 66, 1, 5), (48, .i2l, 49, 0, 0, 0, 0), (49, .invokestatic 362, 52, 0, 107, 2, 0), (52, .lstore_n 1, 53, 0, 0, 0, 0), (53, .iinc 3 1, 56, 0, 0, 0, 0), (56, .goto (-25), 59, 31, 0, 0, 0), (59, .lload_n 1, 60, 0, 0, 0, 0), (60, .aload_n 0, 61, 0, 0, 0, 0), (61, .iconst 2, 62, 0, 0, 0, 0), (62, .invokevirtual 369, 65, 0, 69, 1, 5), (65, .i2l, 66, 0, 0, 0, 0), (66, .invokestatic 362, 69, 0, 107, 2, 0), (69, .lstore_n 1, 70, 0, 0, 0, 0), (70, .lload_n 1, 71, 0, 0, 0, 0), (71, .aload_n 0, 72, 0, 0, 0, 0), (72, .iconst 3, 73, 0, 0, 0, 0), (73, .invokevirtual 369, 76, 0, 69, 1, 5), (76, .i2l, 77, 0, 0, 0, 0), (77, .invokestatic 362, 80, 0, 107, 2, 0), (80, .lstore_n 1, 81, 0, 0, 0, 0), (81, .iconst 0, 82, 0, 0, 0, 0), (82, .istore_n 3, 83, 0, 0, 0, 0), (83, .iload_n 3, 84, 0, 0, 0, 0), (84, .iconst 2, 85, 0, 0, 0, 0), (85, .if_icmp .ge 16, 88, 101, 0, 0, 0), (88, .aload_n 0, 89, 0, 0, 0, 0), (89, .lload_n 1, 90, 0, 0, 0, 0), (90, .iload_n 3, 91, 0, 0, 0, 0), (91, .invokevirtual 372, 94, 0, 108, 2, 5), (94, .lstore_n 1, 95, 0, 0, 0, 0), (95, .iinc 3 1, 98, 0, 0, 0, 0), (98, .goto (-15), 101, 83, 0, 0, 0), (101, .iconst 0, 102, 0, 0, 0, 0), (102, .istore_n 3, 103, 0, 0, 0, 0), (103, .iload_n 3, 104, 0, 0, 0, 0), (104, .sipush 128, 107, 0, 0, 0, 0), (107, .if_icmp .ge 44, 110, 151, 0, 0, 0), (110, .lload_n 1, 111, 0, 0, 0, 0), (111, .aload_n 0, 112, 0, 0, 0, 0), (112, .iload_n 3, 113, 0, 0, 0, 0), (113, .iconst 0, 114, 0, 0, 0, 0), (114, .invokevirtual 376, 117, 0, 70, 2, 5), (117, .i2l, 118, 0, 0, 0, 0), (118, .invokestatic 362, 121, 0, 107, 2, 0), (121, .lstore_n 1, 122, 0, 0, 0, 0), (122, .lload_n 1, 123, 0, 0, 0, 0), (123, .aload_n 0, 124, 0, 0, 0, 0), (124, .iload_n 3, 125, 0, 0, 0, 0), (125, .iconst 2, 126, 0, 0, 0, 0), (126, .invokevirtual 376, 129, 0, 70, 2, 5), (129, .i2l, 130, 0, 0, 0, 0), (130, .invokestatic 362, 133, 0, 107, 2, 0), (133, .lstore_n 1, 134, 0, 0, 0, 0), (134, .lload_n 1, 135, 0, 0, 0, 0), (135, .aload_n 0, 136, 0, 0, 0, 0), (136, .iload_n 3, 137, 0, 0, 0, 0), (137, .invokevirtual 379, 140, 0, 77, 1, 5), (140, .i2l, 141, 0, 0, 0, 0), (141, .invokestatic 362, 144, 0, 107, 2, 0), (144, .lstore_n 1, 145, 0, 0, 0, 0), (145, .iinc 3 1, 148, 0, 0, 0, 0), (148, .goto (-45), 151, 103, 0, 0, 0), (151, .iconst 0, 152, 0, 0, 0, 0), (152, .istore_n 3, 153, 0, 0, 0, 0), (153, .iload_n 3, 154, 0, 0, 0, 0), (154, .aload_n 0, 155, 0, 0, 0, 0), (155, .getfield 26, 158, 2, 30, 0, 0), (158, .getfield 229, 161, 3, 13, 0, 0), (161, .if_icmp .ge 37, 164, 198, 0, 0, 0), (164, .iconst 0, 165, 0, 0, 0, 0), (165, .istore 4, 167, 0, 0, 0, 0), (167, .iload 4, 169, 0, 0, 0, 0), (169, .iconst 3, 170, 0, 0, 0, 0), (170, .if_icmp .ge 22, 173, 192, 0, 0, 0), (173, .lload_n 1, 174, 0, 0, 0, 0), (174, .aload_n 0, 175, 0, 0, 0, 0), (175, .iload_n 3, 176, 0, 0, 0, 0), (176, .iload 4, 178, 0, 0, 0, 0), (178, .invokevirtual 382, 181, 0, 72, 2, 5), (181, .i2l, 182, 0, 0, 0, 0), (182, .invokestatic 362, 185, 0, 107, 2, 0), (185, .lstore_n 1, 186, 0, 0, 0, 0), (186, .iinc 4 1, 189, 0, 0, 0, 0), (189, .goto (-22), 192, 167, 0, 0, 0), (192, .iinc 3 1, 195, 0, 0, 0, 0), (195, .goto (-42), 198, 153, 0, 0, 0), (198, .lload_n 1, 199, 0, 0, 0, 0), (199, .aload_n 0, 200, 0, 0, 0, 0), (200, .bipush 20, 202, 0, 0, 0, 0), (202, .invokevirtual 385, 205, 0, 79, 1, 5), (205, .i2l, 206, 0, 0, 0, 0), (206, .invokestatic 362, 209, 0, 107, 2, 0), (209, .lstore_n 1, 210, 0, 0, 0, 0), (210, .lload_n 1, 211, 0, 0, 0, 0), (211, .aload_n 0, 212, 0, 0, 0, 0), (212, .invokevirtual 388, 215, 0, 80, 0, 5), (215, .ifCond .eq 7, 218, 222, 0, 0, 0), (218, .lconst 1, 219, 0, 0, 0, 0), (219, .goto 4, 222, 223, 0, 0, 0), (222, .lconst 0, 223, 0, 0, 0, 0), (223, .invokestatic 362, 226, 0, 107, 2, 0), (226, .lreturn, 227, 0, 0, 0, 0)]
def zc_X5_checkAddress : List zRow := [(0, .iload_n 0, 1, 0, 0, 0, 0), (1, .ifCond .lt 10, 4, 11, 0, 0, 0), (4, .iload_n 0, 5, 0, 0, 0, 0), (5, .sipush 128, 8, 0, 0, 0, 0), (8, .if_icmp .lt 14, 11, 22, 0, 0, 0), (11, .new 233, 14, 9, 1, 0, 0), (14, .dup, 15, 0, 0, 0, 0), (21, .athrow, 22, 0, 0, 0, 0), (22, .return_, 23, 0, 0, 0, 0)]
def zc_X5_checkBank : List zRow := [(0, .iload_n 0, 1, 0, 0, 0, 0), (1, .ifCond .lt 8, 4, 9, 0, 0, 0), (4, .iload_n 0, 5, 0, 0, 0, 0), (5, .iconst 2, 6, 0, 0, 0, 0), (6, .if_icmp .lt 14, 9, 20, 0, 0, 0), (9, .new 233, 12, 9, 1, 0, 0), (12, .dup, 13, 0, 0, 0, 0), (19, .athrow, 20, 0, 0, 0, 0), (20, .return_, 21, 0, 0, 0, 0)]
def zc_X5_checkRow : List zRow := [(0, .iload_n 0, 1, 0, 0, 0, 0), (1, .invokestatic 271, 4, 0, 83, 1, 0), (4, .iload_n 1, 5, 0, 0, 0, 0), (5, .ifCond .lt 9, 8, 14, 0, 0, 0), (8, .iload_n 1, 9, 0, 0, 0, 0), (9, .bipush 8, 11, 0, 0, 0, 0), (11, .if_icmp .lt 14, 14, 25, 0, 0, 0), (14, .new 233, 17, 9, 1, 0, 0), (17, .dup, 18, 0, 0, 0, 0), (24, .athrow, 25, 0, 0, 0, 0), (25, .return_, 26, 0, 0, 0, 0)]
def zc_X5_checkTicks : List zRow := [(0, .iload_n 0, 1, 0, 0, 0, 0), (1, .iconst 1, 2, 0, 0, 0, 0), (2, .if_icmp .lt 9, 5, 11, 0, 0, 0), (5, .iload_n 0, 6, 0, 0, 0, 0), (6, .bipush 100, 8, 0, 0, 0, 0), (8, .if_icmp .le 14, 11, 22, 0, 0, 0), (11, .new 62, 14, 9, 0, 0, 0), (14, .dup, 15, 0, 0, 0, 0), (21, .athrow, 22, 0, 0, 0, 0), (22, .return_, 23, 0, 0, 0, 0)]
def zc_X5_checkData : List zRow := [(0, .iload_n 1, 1, 0, 0, 0, 0), (1, .ifCond .lt 14, 4, 15, 0, 0, 0), (4, .iload_n 1, 5, 0, 0, 0, 0), (5, .aload_n 0, 6, 0, 0, 0, 0), (6, .getfield 12, 9, 0, 28, 0, 0), (9, .invokevirtual 399, 12, 0, 6, 0, 0), (12, .if_icmp .le 14, 15, 26, 0, 0, 0), (15, .new 62, 18, 9, 0, 0, 0), (18, .dup, 19, 0, 0, 0, 0), (25, .athrow, 26, 0, 0, 0, 0), (26, .return_, 27, 0, 0, 0, 0)]
def zc_X5_checkNotRetired : List zRow := [(0, .aload_n 0, 1, 0, 0, 0, 0), (1, .iload_n 1, 2, 0, 0, 0, 0), (2, .invokevirtual 102, 5, 0, 96, 1, 5), (5, .ifCond .eq 14, 8, 19, 0, 0, 0), (8, .new 158, 11, 9, 2, 0, 0), (11, .dup, 12, 0, 0, 0, 0), (18, .athrow, 19, 0, 0, 0, 0), (19, .return_, 20, 0, 0, 0, 0)]
def zc_X5_firstAddress : List zRow := [(0, .iload_n 0, 1, 0, 0, 0, 0), (1, .bipush 64, 3, 0, 0, 0, 0), (3, .imul, 4, 0, 0, 0, 0), (4, .iload_n 1, 5, 0, 0, 0, 0), (5, .bipush 8, 7, 0, 0, 0, 0), (7, .imul, 8, 0, 0, 0, 0), (8, .iadd, 9, 0, 0, 0, 0), (9, .ireturn, 10, 0, 0, 0, 0)]
def zc_X5_twinOf : List zRow := [(0, .iload_n 0, 1, 0, 0, 0, 0), (1, .bipush 64, 3, 0, 0, 0, 0), (3, .if_icmp .ge 10, 6, 13, 0, 0, 0), (6, .iload_n 0, 7, 0, 0, 0, 0), (7, .bipush 64, 9, 0, 0, 0, 0), (9, .iadd, 10, 0, 0, 0, 0), (10, .goto 7, 13, 17, 0, 0, 0), (13, .iload_n 0, 14, 0, 0, 0, 0), (14, .bipush 64, 16, 0, 0, 0, 0), (16, .isub, 17, 0, 0, 0, 0), (17, .ireturn, 18, 0, 0, 0, 0)]
def zc_X5_lineAt : List zRow := [(0, .iload_n 1, 1, 0, 0, 0, 0), (1, .bipush 64, 3, 0, 0, 0, 0), (3, .idiv, 4, 0, 0, 0, 0), (4, .bipush 10, 6, 0, 0, 0, 0), (6, .imul, 7, 0, 0, 0, 0), (7, .aload_n 0, 8, 0, 0, 0, 0), (8, .getfield 35, 11, 3, 31, 0, 0), (11, .iload_n 1, 12, 0, 0, 0, 0), (12, .bipush 8, 14, 0, 0, 0, 0), (14, .idiv, 15, 0, 0, 0, 0), (15, .invokevirtual 189, 18, 0, 25, 1, 2), (18, .iadd, 19, 0, 0, 0, 0), (19, .ireturn, 20, 0, 0, 0, 0)]
def zc_X5_cellAt : List zRow := [(0, .aload_n 0, 1, 0, 0, 0, 0), (1, .iload_n 1, 2, 0, 0, 0, 0), (2, .invokevirtual 109, 5, 0, 90, 1, 5), (5, .bipush 8, 7, 0, 0, 0, 0), (7, .imul, 8, 0, 0, 0, 0), (8, .iload_n 1, 9, 0, 0, 0, 0), (9, .bipush 8, 11, 0, 0, 0, 0), (11, .irem, 12, 0, 0, 0, 0), (12, .iadd, 13, 0, 0, 0, 0), (13, .ireturn, 14, 0, 0, 0, 0)]
def zc_X5_wordAt : List zRow := [(0, .aload_n 0, 1, 0, 0, 0, 0), (1, .getfield 19, 4, 1, 29, 0, 0), (4, .getfield 406, 7, 0, 16, 0, 0), (7, .aload_n 0, 8, 0, 0, 0, 0), (8, .iload_n 1, 9, 0, 0, 0, 0), (9, .invokevirtual 137, 12, 0, 91, 1, 5), (12, .invokevirtual 189, 15, 0, 25, 1, 2), (15, .ireturn, 16, 0, 0, 0, 0)]
def zc_X5_rowOn : List zRow := [(0, .iconst 0, 1, 0, 0, 0, 0), (1, .istore_n 3, 2, 0, 0, 0, 0), (2, .iload_n 3, 3, 0, 0, 0, 0), (3, .bipush 8, 5, 0, 0, 0, 0), (5, .if_icmp .ge 28, 8, 33, 0, 0, 0), (8, .aload_n 0, 9, 0, 0, 0, 0), (9, .getfield 35, 12, 3, 31, 0, 0), (12, .iload_n 1, 13, 0, 0, 0, 0), (13, .bipush 8, 15, 0, 0, 0, 0), (15, .imul, 16, 0, 0, 0, 0), (16, .iload_n 3, 17, 0, 0, 0, 0), (17, .iadd, 18, 0, 0, 0, 0), (18, .invokevirtual 189, 21, 0, 25, 1, 2), (21, .iload_n 2, 22, 0, 0, 0, 0), (22, .if_icmp .ne 5, 25, 27, 0, 0, 0), (25, .iload_n 3, 26, 0, 0, 0, 0), (26, .ireturn, 27, 0, 0, 0, 0), (27, .iinc 3 1, 30, 0, 0, 0, 0), (30, .goto (-28), 33, 2, 0, 0, 0), (33, .iconst (-1), 34, 0, 0, 0, 0), (34, .ireturn, 35, 0, 0, 0, 0)]
def zc_X5_rowsHaveOwnLines : List zRow := [(0, .iconst 0, 1, 0, 0, 0, 0), (1, .istore_n 1, 2, 0, 0, 0, 0), (2, .iload_n 1, 3, 0, 0, 0, 0), (3, .bipush 16, 5, 0, 0, 0, 0), (5, .if_icmp .ge 34, 8, 39, 0, 0, 0), (8, .aload_n 0, 9, 0, 0, 0, 0), (9, .iload_n 1, 10, 0, 0, 0, 0), (10, .bipush 8, 12, 0, 0, 0, 0), (12, .idiv, 13, 0, 0, 0, 0), (13, .aload_n 0, 14, 0, 0, 0, 0), (14, .getfield 35, 17, 3, 31, 0, 0), (17, .iload_n 1, 18, 0, 0, 0, 0), (18, .invokevirtual 189, 21, 0, 25, 1, 2), (21, .invokevirtual 276, 24, 0, 93, 2, 5), (24, .iload_n 1, 25, 0, 0, 0, 0), (25, .bipush 8, 27, 0, 0, 0, 0), (27, .irem, 28, 0, 0, 0, 0), (28, .if_icmp .eq 5, 31, 33, 0, 0, 0), (31, .iconst 0, 32, 0, 0, 0, 0), (32, .ireturn, 33, 1, 0, 0, 0), (33, .iinc 1 1, 36, 0, 0, 0, 0), (36, .goto (-34), 39, 2, 0, 0, 0), (39, .iconst 1, 40, 0, 0, 0, 0), (40, .ireturn, 41, 1, 0, 0, 0)]
def zc_X5_isPoisoned : List zRow := [(0, .aload_n 0, 1, 0, 0, 0, 0), (1, .getfield 42, 4, 5, 33, 0, 0), (4, .iload_n 1, 5, 0, 0, 0, 0), (5, .invokevirtual 189, 8, 0, 25, 1, 2), (8, .ifCond .eq 7, 11, 15, 0, 0, 0), (11, .iconst 1, 12, 0, 0, 0, 0), (12, .goto 4, 15, 16, 0, 0, 0), (15, .iconst 0, 16, 0, 0, 0, 0), (16, .ireturn, 17, 1, 0, 0, 0)]
def zc_X5_isRetired : List zRow := [(0, .aload_n 0, 1, 0, 0, 0, 0), (1, .getfield 45, 4, 6, 34, 0, 0), (4, .iload_n 1, 5, 0, 0, 0, 0), (5, .invokevirtual 189, 8, 0, 25, 1, 2), (8, .ifCond .eq 7, 11, 15, 0, 0, 0), (11, .iconst 1, 12, 0, 0, 0, 0), (12, .goto 4, 15, 16, 0, 0, 0), (15, .iconst 0, 16, 0, 0, 0, 0), (16, .ireturn, 17, 1, 0, 0, 0)]
def zc_X5_dataAt : List zRow := [(0, .aload_n 0, 1, 0, 0, 0, 0), (1, .iload_n 1, 2, 0, 0, 0, 0), (2, .invokevirtual 118, 5, 0, 95, 1, 5), (5, .ifCond .eq 7, 8, 12, 0, 0, 0), (8, .iconst (-1), 9, 0, 0, 0, 0), (9, .goto 15, 12, 24, 0, 0, 0), (12, .aload_n 0, 13, 0, 0, 0, 0), (13, .getfield 12, 16, 0, 28, 0, 0), (16, .aload_n 0, 17, 0, 0, 0, 0), (17, .iload_n 1, 18, 0, 0, 0, 0), (18, .invokevirtual 106, 21, 0, 92, 1, 5), (21, .invokevirtual 256, 24, 0, 13, 1, 0), (24, .ireturn, 25, 0, 0, 0, 0)]
def zc_Z98 : List zRow := []
def zc_X5_stuckIn : List zRow := [(0, .aload_n 0, 1, 0, 0, 0, 0), (1, .getfield 19, 4, 1, 29, 0, 0), (4, .getfield 148, 7, 4, 20, 0, 0), (7, .iload_n 1, 8, 0, 0, 0, 0), (8, .bipush 8, 10, 0, 0, 0, 0), (10, .imul, 11, 0, 0, 0, 0), (11, .iload_n 1, 12, 0, 0, 0, 0), (12, .bipush 8, 14, 0, 0, 0, 0), (14, .imul, 15, 0, 0, 0, 0), (15, .bipush 8, 17, 0, 0, 0, 0), (17, .iadd, 18, 0, 0, 0, 0), (18, .invokevirtual 266, 21, 0, 23, 2, 1), (21, .ireturn, 22, 0, 0, 0, 0)]
def zc_X5_uncleanIn : List zRow := [(0, .iconst 0, 1, 0, 0, 0, 0), (1, .istore_n 2, 2, 0, 0, 0, 0), (2, .iconst 0, 3, 0, 0, 0, 0), (3, .istore_n 3, 4, 0, 0, 0, 0), (4, .iload_n 3, 5, 0, 0, 0, 0), (5, .bipush 8, 7, 0, 0, 0, 0), (7, .if_icmp .ge 38, 10, 45, 0, 0, 0), (10, .aload_n 0, 11, 0, 0, 0, 0), (11, .getfield 12, 14, 0, 28, 0, 0), (14, .aload_n 0, 15, 0, 0, 0, 0), (15, .getfield 19, 18, 1, 29, 0, 0), (18, .getfield 406, 21, 0, 16, 0, 0), (21, .iload_n 1, 22, 0, 0, 0, 0), (22, .bipush 8, 24, 0, 0, 0, 0), (24, .imul, 25, 0, 0, 0, 0), (25, .iload_n 3, 26, 0, 0, 0, 0), (26, .iadd, 27, 0, 0, 0, 0), (27, .invokevirtual 189, 30, 0, 25, 1, 2), (30, .invokevirtual 326, 33, 0, 10, 1, 0), (33, .ifCond .ne 6, 36, 39, 0, 0, 0), (36, .iinc 2 1, 39, 0, 0, 0, 0), (39, .iinc 3 1, 42, 0, 0, 0, 0), (42, .goto (-38), 45, 4, 0, 0, 0), (45, .iload_n 2, 46, 0, 0, 0, 0), (46, .ireturn, 47, 0, 0, 0, 0)]
def zc_X5_store : List zRow := [(0, .aload_n 0, 1, 0, 0, 0, 0), (1, .getfield 19, 4, 1, 29, 0, 0), (4, .aload_n 0, 5, 0, 0, 0, 0), (5, .iload_n 1, 6, 0, 0, 0, 0), (6, .invokevirtual 109, 9, 0, 90, 1, 5), (9, .invokevirtual 112, 12, 0, 43, 1, 4), (12, .aload_n 0, 13, 0, 0, 0, 0), (13, .iload_n 1, 14, 0, 0, 0, 0), (14, .iload_n 2, 15, 0, 0, 0, 0), (15, .invokevirtual 408, 18, 0, 102, 2, 5), (18, .return_, 19, 0, 0, 0, 0)]
def zc_X5_replace : List zRow := [(0, .aload_n 0, 1, 0, 0, 0, 0), (1, .getfield 19, 4, 1, 29, 0, 0), (4, .aload_n 0, 5, 0, 0, 0, 0), (5, .iload_n 1, 6, 0, 0, 0, 0), (6, .invokevirtual 137, 9, 0, 91, 1, 5), (9, .aload_n 0, 10, 0, 0, 0, 0), (10, .getfield 12, 13, 0, 28, 0, 0), (13, .iload_n 2, 14, 0, 0, 0, 0), (14, .invokevirtual 239, 17, 0, 14, 1, 0), (17, .invokevirtual 140, 20, 0, 41, 2, 4), (20, .aload_n 0, 21, 0, 0, 0, 0), (21, .getfield 42, 24, 5, 33, 0, 0), (24, .iload_n 1, 25, 0, 0, 0, 0), (25, .iconst 0, 26, 0, 0, 0, 0), (26, .invokevirtual 48, 29, 0, 26, 2, 2), (29, .return_, 30, 0, 0, 0, 0)]
def zc_X5_report : List zRow := [(0, .aload_n 0, 1, 0, 0, 0, 0), (1, .iload_n 1, 2, 0, 0, 0, 0), (2, .invokevirtual 106, 5, 0, 92, 1, 5), (5, .istore_n 3, 6, 0, 0, 0, 0), (6, .aload_n 0, 7, 0, 0, 0, 0), (7, .getfield 12, 10, 0, 28, 0, 0), (10, .iload_n 3, 11, 0, 0, 0, 0), (11, .invokevirtual 250, 14, 0, 9, 1, 0), (14, .istore 4, 16, 0, 0, 0, 0), (16, .iload 4, 18, 0, 0, 0, 0), (18, .ifCond .ne 4, 21, 22, 0, 0, 0), (21, .return_, 22, 0, 0, 0, 0), (22, .aload_n 0, 23, 0, 0, 0, 0), (23, .getfield 26, 26, 2, 30, 0, 0), (26, .iload_n 1, 27, 0, 0, 0, 0), (27, .iload 4, 29, 0, 0, 0, 0), (29, .invokestatic 253, 32, 0, 12, 1, 0), (32, .aload_n 0, 33, 0, 0, 0, 0), (33, .getfield 19, 36, 1, 29, 0, 0), (36, .getfield 218, 39, 7, 23, 0, 0), (39, .invokevirtual 411, 42, 0, 31, 3, 3), (42, .iload_n 2, 43, 0, 0, 0, 0), (43, .ifCond .eq 25, 46, 68, 0, 0, 0), (46, .iload 4, 48, 0, 0, 0, 0), (48, .iconst (-1), 49, 0, 0, 0, 0), (49, .if_icmp .eq 19, 52, 68, 0, 0, 0), (52, .aload_n 0, 53, 0, 0, 0, 0), (53, .getfield 19, 56, 1, 29, 0, 0), (56, .aload_n 0, 57, 0, 0, 0, 0), (57, .iload_n 1, 58, 0, 0, 0, 0), (58, .invokevirtual 137, 61, 0, 91, 1, 5), (61, .iload_n 3, 62, 0, 0, 0, 0), (62, .iload 4, 64, 0, 0, 0, 0), (64, .ixor, 65, 0, 0, 0, 0), (65, .invokevirtual 140, 68, 0, 41, 2, 4), (68, .return_, 69, 0, 0, 0, 0)]
def zc_X5_readTwin : List zRow := [(0, .iconst (-1), 1, 0, 0, 0, 0), (1, .istore_n 2, 2, 0, 0, 0, 0), (2, .iload_n 1, 3, 0, 0, 0, 0), (3, .invokestatic 95, 6, 0, 89, 1, 0), (6, .istore_n 3, 7, 0, 0, 0, 0), (7, .aload_n 0, 8, 0, 0, 0, 0), (8, .getfield 98, 11, 9, 37, 0, 0), (11, .ifCond .eq 29, 14, 40, 0, 0, 0), (14, .aload_n 0, 15, 0, 0, 0, 0), (15, .iload_n 3, 16, 0, 0, 0, 0), (16, .invokevirtual 102, 19, 0, 96, 1, 5), (19, .ifCond .ne 21, 22, 40, 0, 0, 0), (22, .aload_n 0, 23, 0, 0, 0, 0), (23, .getfield 19, 26, 1, 29, 0, 0), (26, .aload_n 0, 27, 0, 0, 0, 0), (27, .iload_n 3, 28, 0, 0, 0, 0), (28, .invokevirtual 109, 31, 0, 90, 1, 5), (31, .invokevirtual 112, 34, 0, 43, 1, 4), (34, .aload_n 0, 35, 0, 0, 0, 0), (35, .iload_n 3, 36, 0, 0, 0, 0), (36, .invokevirtual 115, 39, 0, 97, 1, 5), (39, .istore_n 2, 40, 0, 0, 0, 0), (40, .iload_n 2, 41, 0, 0, 0, 0), (41, .iconst (-1), 42, 0, 0, 0, 0), (42, .if_icmp .ne 14, 45, 56, 0, 0, 0), (45, .aload_n 0, 46, 0, 0, 0, 0), (46, .getfield 42, 49, 5, 33, 0, 0), (49, .iload_n 1, 50, 0, 0, 0, 0), (50, .iconst 1, 51, 0, 0, 0, 0), (51, .invokevirtual 48, 54, 0, 26, 2, 2), (54, .iconst (-1), 55, 0, 0, 0, 0), (55, .ireturn, 56, 0, 0, 0, 0), (56, .aload_n 0, 57, 0, 0, 0, 0), (57, .iload_n 3, 58, 0, 0, 0, 0), (58, .aload_n 0, 59, 0, 0, 0, 0), (59, .getfield 121, 62, 8, 36, 0, 0), (62, .invokevirtual 124, 65, 0, 103, 2, 5), (65, .aload_n 0, 66, 0, 0, 0, 0), (66, .iload_n 1, 67, 0, 0, 0, 0), (67, .iload_n 2, 68, 0, 0, 0, 0), (68, .invokevirtual 408, 71, 0, 102, 2, 5), (71, .iload_n 2, 72, 0, 0, 0, 0), (72, .ireturn, 73, 0, 0, 0, 0)]
def zc_X5_scrubSteps : List zRow := [(0, .iconst 0, 1, 0, 0, 0, 0), (1, .istore_n 1, 2, 0, 0, 0, 0), (2, .iload_n 1, 3, 0, 0, 0, 0), (3, .aload_n 0, 4, 0, 0, 0, 0), (4, .getfield 198, 7, 7, 35, 0, 0), (7, .if_icmp .ge 79, 10, 86, 0, 0, 0), (10, .aload_n 0, 11, 0, 0, 0, 0), (11, .getfield 312, 14, 10, 38, 0, 0), (14, .istore_n 2, 15, 0, 0, 0, 0), (15, .aload_n 0, 16, 0, 0, 0, 0), (16, .iload_n 2, 17, 0, 0, 0, 0), (17, .invokevirtual 118, 20, 0, 95, 1, 5), (20, .ifCond .ne 49, 23, 69, 0, 0, 0), (23, .aload_n 0, 24, 0, 0, 0, 0), (24, .iload_n 2, 25, 0, 0, 0, 0), (25, .invokevirtual 102, 28, 0, 96, 1, 5), (28, .ifCond .ne 41, 31, 69, 0, 0, 0), (31, .aload_n 0, 32, 0, 0, 0, 0), (32, .iload_n 2, 33, 0, 0, 0, 0), (33, .invokevirtual 115, 36, 0, 97, 1, 5), (36, .iconst (-1), 37, 0, 0, 0, 0), (37, .if_icmp .ne 7, 40, 44, 0, 0, 0), (40, .iconst 1, 41, 0, 0, 0, 0), (41, .goto 4, 44, 45, 0, 0, 0), (44, .iconst 0, 45, 0, 0, 0, 0), (45, .istore_n 3, 46, 0, 0, 0, 0), (46, .aload_n 0, 47, 0, 0, 0, 0), (47, .iload_n 2, 48, 0, 0, 0, 0), (48, .iconst 1, 49, 0, 0, 0, 0), (49, .invokevirtual 124, 52, 0, 103, 2, 5), (52, .aload_n 0, 53, 0, 0, 0, 0), (53, .getfield 42, 56, 5, 33, 0, 0), (56, .iload_n 2, 57, 0, 0, 0, 0), (57, .iload_n 3, 58, 0, 0, 0, 0), (58, .ifCond .eq 7, 61, 65, 0, 0, 0), (61, .iconst 1, 62, 0, 0, 0, 0), (62, .goto 4, 65, 66, 0, 0, 0), (65, .iconst 0, 66, 0, 0, 0, 0), (66, .invokevirtual 48, 69, 0, 26, 2, 2), (69, .aload_n 0, 70, 0, 0, 0, 0), (70, .iload_n 2, 71, 0, 0, 0, 0), (71, .iconst 1, 72, 0, 0, 0, 0), (72, .iadd, 73, 0, 0, 0, 0), (73, .sipush 128, 76, 0, 0, 0, 0), (76, .irem, 77, 0, 0, 0, 0), (77, .putfield 312, 80, 10, 38, 0, 0), (80, .iinc 1 1, 83, 0, 0, 0, 0), (83, .goto (-81), 86, 2, 0, 0, 0), (86, .return_, 87, 0, 0, 0, 0)]
def zc_Z106 : List zRow := []
def zc_X5_mix : List zRow := [(0, .lload_n 0, 1, 0, 0, 0, 0), (1, .ldc2_w 412, 4, 0, 31, 0, 0), (4, .lmul, 5, 0, 0, 0, 0), (5, .lload_n 2, 6, 0, 0, 0, 0), (6, .ladd, 7, 0, 0, 0, 0), (7, .lreturn, 8, 0, 0, 0, 0)]
def zc_X5_mixBank : List zRow := [(0, .lload_n 1, 1, 0, 0, 0, 0), (1, .aload_n 0, 2, 0, 0, 0, 0), (2, .iload_n 3, 3, 0, 0, 0, 0), (3, .iconst 0, 4, 0, 0, 0, 0), (4, .invokevirtual 414, 7, 0, 73, 2, 5), (7, .i2l, 8, 0, 0, 0, 0), (8, .invokestatic 362, 11, 0, 107, 2, 0), (11, .lstore 4, 13, 0, 0, 0, 0), (13, .lload 4, 15, 0, 0, 0, 0), (15, .aload_n 0, 16, 0, 0, 0, 0), (16, .iload_n 3, 17, 0, 0, 0, 0), (17, .iconst 1, 18, 0, 0, 0, 0), (18, .invokevirtual 414, 21, 0, 73, 2, 5), (21, .i2l, 22, 0, 0, 0, 0), (22, .invokestatic 362, 25, 0, 107, 2, 0), (25, .lstore 4, 27, 0, 0, 0, 0), (27, .lload 4, 29, 0, 0, 0, 0), (29, .aload_n 0, 30, 0, 0, 0, 0), (30, .iload_n 3, 31, 0, 0, 0, 0), (31, .invokevirtual 418, 34, 0, 78, 1, 5), (34, .i2l, 35, 0, 0, 0, 0), (35, .invokestatic 362, 38, 0, 107, 2, 0), (38, .lstore 4, 40, 0, 0, 0, 0), (40, .lload 4, 42, 0, 0, 0, 0), (42, .ldc2_w 329, 45, 1, 4634204016564240384, 0, 0), (45, .aload_n 0, 46, 0, 0, 0, 0), (46, .iload_n 3, 47, 0, 0, 0, 0), (47, .invokevirtual 421, 50, 0, 75, 1, 5), (50, .dmul, 51, 0, 0, 0, 0), (51, .d2l, 52, 0, 0, 0, 0), (52, .invokestatic 362, 55, 0, 107, 2, 0), (55, .lstore 4, 57, 0, 0, 0, 0), (57, .iconst 0, 58, 0, 0, 0, 0), (58, .istore 6, 60, 0, 0, 0, 0), (60, .iload 6, 62, 0, 0, 0, 0), (62, .bipush 10, 64, 0, 0, 0, 0), (64, .if_icmp .ge 41, 67, 105, 0, 0, 0), (67, .iconst 0, 68, 0, 0, 0, 0), (68, .istore 7, 70, 0, 0, 0, 0), (70, .iload 7, 72, 0, 0, 0, 0), (72, .iconst 5, 73, 0, 0, 0, 0), (73, .if_icmp .ge 26, 76, 99, 0, 0, 0), (76, .lload 4, 78, 0, 0, 0, 0), (78, .aload_n 0, 79, 0, 0, 0, 0), (79, .iload_n 3, 80, 0, 0, 0, 0), (80, .iload 6, 82, 0, 0, 0, 0), (82, .iload 7, 84, 0, 0, 0, 0), (84, .invokevirtual 425, 87, 0, 71, 3, 5), (87, .i2l, 88, 0, 0, 0, 0), (88, .invokestatic 362, 91, 0, 107, 2, 0), (91, .lstore 4, 93, 0, 0, 0, 0), (93, .iinc 7 1, 96, 0, 0, 0, 0), (96, .goto (-26), 99, 70, 0, 0, 0), (99, .iinc 6 1, 102, 0, 0, 0, 0), (102, .goto (-42), 105, 60, 0, 0, 0), (105, .lload 4, 107, 0, 0, 0, 0), (107, .lreturn, 108, 0, 0, 0, 0)]
def zc_Z109 : List zRow := []
def zc_Z110 : List zRow := []
def zc_Z111 : List zRow := []
def zc_Z112 : List zRow := []
def zc_Z113 : List zRow := []
def zc_Z114 : List zRow := []
def zc_Z115 : List zRow := []
def zc_Z116 : List zRow := []
def zc_Z117 : List zRow := []
def zc_Z118 : List zRow := []
def zc_Z119 : List zRow := []
def zc_Z120 : List zRow := []
def zc_Z121 : List zRow := []
def zc_Z122 : List zRow := []
def zc_Z123 : List zRow := []
def zc_Z124 : List zRow := []
def zc_Z125 : List zRow := []
def zc_Z126 : List zRow := []
def zc_Z127 : List zRow := []
def zc_Z128 : List zRow := []
def zc_Z129 : List zRow := []
def zc_Z130 : List zRow := []
def zc_Z131 : List zRow := []
def zc_Z132 : List zRow := []
def zc_Z133 : List zRow := []
def zc_Z134 : List zRow := []
def zc_Z135 : List zRow := []
def zc_Z136 : List zRow := []
def zc_Z137 : List zRow := []
def zc_Z138 : List zRow := []
def zc_Z139 : List zRow := []
def zc_Z140 : List zRow := []
def zc_Z141 : List zRow := []
def zc_Z142 : List zRow := []
def zc_Z143 : List zRow := []
def zc_Z144 : List zRow := []
def zc_Z145 : List zRow := []
def zc_Z146 : List zRow := []
def zc_Z147 : List zRow := []
def zc_Z148 : List zRow := []
def zc_Z149 : List zRow := []
def zc_Z150 : List zRow := []
def zc_Z151 : List zRow := []
def zc_Z152 : List zRow := []
def zc_Z153 : List zRow := []
def zc_Z154 : List zRow := []
def zc_Z155 : List zRow := []
def zc_Z156 : List zRow := []
def zc_Z157 : List zRow := []
def zc_Z158 : List zRow := []
def zc_Z159 : List zRow := []
def zc_Z160 : List zRow := []
def zc_Z161 : List zRow := []
def zc_Z162 : List zRow := []
def zc_Z163 : List zRow := []
def zc_Z164 : List zRow := []
def zc_Z165 : List zRow := []
def zc_Z166 : List zRow := []
def zc_Z167 : List zRow := []
def zc_Z168 : List zRow := []
def zc_Z169 : List zRow := []
def zc_Z170 : List zRow := []
def zc_Z171 : List zRow := []
def zc_Z172 : List zRow := []
def zc_Z173 : List zRow := []
def zc_Z174 : List zRow := []
def zc_Z175 : List zRow := []
def zc_Z176 : List zRow := []
def zc_Z177 : List zRow := []
def zc_Z178 : List zRow := []
def zc_Z179 : List zRow := []
def zc_Z180 : List zRow := []
def zc_Z181 : List zRow := []
def zc_Z182 : List zRow := []
def zc_Z183 : List zRow := []
def zc_Z184 : List zRow := []
def zc_Z185 : List zRow := []
def zc_Z186 : List zRow := []
def zc_Z187 : List zRow := []
def zc_Z188 : List zRow := []
def zc_Z189 : List zRow := []
def zc_Z190 : List zRow := []
def zc_Z191 : List zRow := []
def zc_Z192 : List zRow := []
def zc_Z193 : List zRow := []
def zc_Z194 : List zRow := []
def zc_Z195 : List zRow := []
def zc_Z196 : List zRow := []
def zc_Z197 : List zRow := []
def zc_Z198 : List zRow := []
def zc_Z199 : List zRow := []
def zc_Z200 : List zRow := []
def zc_Z201 : List zRow := []
def zc_Z202 : List zRow := []
def zc_Z203 : List zRow := []
def zc_Z204 : List zRow := []
def zc_Z205 : List zRow := []
def zc_Z206 : List zRow := []
def zc_Z207 : List zRow := []
def zc_Z208 : List zRow := []
def zc_Z209 : List zRow := []
def zc_Z210 : List zRow := []
def zc_Z211 : List zRow := []
def zc_Z212 : List zRow := []
def zc_Z213 : List zRow := []
def zc_L_law : List zRow := [(0, .new 19, 3, 0, 0, 0, 5), (3, .dup, 4, 0, 0, 0, 0), (4, .invokespecial 21, 7, 0, 52, 0, 0), (7, .astore_n 1, 8, 0, 0, 0, 0), (8, .new 19, 11, 0, 0, 0, 5), (11, .dup, 12, 0, 0, 0, 0), (12, .invokespecial 21, 15, 0, 52, 0, 0), (15, .astore_n 2, 16, 0, 0, 0, 0), (16, .iconst 2, 17, 0, 0, 0, 0), (17, .aload_n 0, 18, 0, 0, 0, 0), (18, .iconst 0, 19, 0, 0, 0, 0), (19, .bipush 20, 21, 0, 0, 0, 0), (21, .invokestatic 22, 24, 0, 249, 3, 0), (24, .iadd, 25, 0, 0, 0, 0), (25, .istore_n 3, 26, 0, 0, 0, 0), (26, .iconst 2, 27, 0, 0, 0, 0), (27, .aload_n 0, 28, 0, 0, 0, 0), (28, .iconst 1, 29, 0, 0, 0, 0), (29, .bipush 8, 31, 0, 0, 0, 0), (31, .invokestatic 22, 34, 0, 249, 3, 0), (34, .iadd, 35, 0, 0, 0, 0), (35, .istore 4, 37, 0, 0, 0, 0), (37, .aload_n 0, 38, 0, 0, 0, 0), (38, .iconst 2, 39, 0, 0, 0, 0), (39, .bipush 9, 41, 0, 0, 0, 0), (41, .invokestatic 22, 44, 0, 249, 3, 0), (44, .istore 5, 46, 0, 0, 0, 0), (46, .aload_n 0, 47, 0, 0, 0, 0), (47, .iconst 3, 48, 0, 0, 0, 0), (48, .iconst 2, 49, 0, 0, 0, 0), (49, .invokestatic 22, 52, 0, 249, 3, 0), (52, .ifCond .ne 7, 55, 59, 0, 0, 0), (55, .iconst 1, 56, 0, 0, 0, 0), (56, .goto 4, 59, 60, 0, 0, 0), (59, .iconst 0, 60, 0, 0, 0, 0), (60, .istore 6, 62, 0, 0, 0, 0), (62, .aload_n 0, 63, 0, 0, 0, 0), (63, .iconst 4, 64, 0, 0, 0, 0), (64, .iconst 2, 65, 0, 0, 0, 0), (65, .invokestatic 22, 68, 0, 249, 3, 0), (68, .ifCond .ne 7, 71, 75, 0, 0, 0), (71, .iconst 1, 72, 0, 0, 0, 0), (72, .goto 4, 75, 76, 0, 0, 0), (75, .iconst 0, 76, 0, 0, 0, 0), (76, .istore 7, 78, 0, 0, 0, 0), (78, .aload_n 1, 79, 0, 0, 0, 0), (79, .iload_n 3, 80, 0, 0, 0, 0), (80, .iload 4, 82, 0, 0, 0, 0), (82, .iload 5, 84, 0, 0, 0, 0), (84, .iload 6, 86, 0, 0, 0, 0), (86, .iload 7, 88, 0, 0, 0, 0), (88, .invokevirtual 26, 91, 0, 60, 5, 5), (91, .aload_n 2, 92, 0, 0, 0, 0), (92, .iload_n 3, 93, 0, 0, 0, 0), (93, .iload 4, 95, 0, 0, 0, 0), (95, .iload 5, 97, 0, 0, 0, 0), (97, .iload 6, 99, 0, 0, 0, 0), (99, .iload 7, 101, 0, 0, 0, 0), (101, .invokevirtual 26, 104, 0, 60, 5, 5), (104, .if_icmp .eq 5, 107, 109, 0, 0, 0), (107, .iconst 0, 108, 0, 0, 0, 0), (108, .ireturn, 109, 1, 0, 0, 0), (109, .iconst 0, 110, 0, 0, 0, 0), (110, .istore 8, 112, 0, 0, 0, 0), (112, .iload 8, 114, 0, 0, 0, 0), (114, .bipush 40, 116, 0, 0, 0, 0), (116, .if_icmp .ge 436, 119, 552, 0, 0, 0), (119, .bipush 10, 121, 0, 0, 0, 0), (121, .bipush 7, 123, 0, 0, 0, 0), (123, .iload 8, 125, 0, 0, 0, 0), (125, .imul, 126, 0, 0, 0, 0), (126, .iadd, 127, 0, 0, 0, 0), (127, .istore 9, 129, 0, 0, 0, 0), (129, .aload_n 0, 130, 0, 0, 0, 0), (130, .iload 9, 132, 0, 0, 0, 0), (132, .sipush 128, 135, 0, 0, 0, 0), (135, .invokestatic 22, 138, 0, 249, 3, 0), (138, .istore 10, 140, 0, 0, 0, 0), (140, .iload 10, 142, 0, 0, 0, 0), (142, .bipush 64, 144, 0, 0, 0, 0), (144, .idiv, 145, 0, 0, 0, 0), (145, .istore 11, 147, 0, 0, 0, 0), (147, .iload 10, 149, 0, 0, 0, 0), (149, .bipush 8, 151, 0, 0, 0, 0), (151, .idiv, 152, 0, 0, 0, 0), (152, .bipush 8, 154, 0, 0, 0, 0), (154, .irem, 155, 0, 0, 0, 0), (155, .istore 12, 157, 0, 0, 0, 0), (157, .iconst 1, 158, 0, 0, 0, 0), (158, .aload_n 0, 159, 0, 0, 0, 0), (159, .iload 9, 161, 0, 0, 0, 0), (161, .iconst 1, 162, 0, 0, 0, 0), (162, .iadd, 163, 0, 0, 0, 0), (163, .bipush 30, 165, 0, 0, 0, 0), (165, .invokestatic 22, 168, 0, 249, 3, 0), (168, .iadd, 169, 0, 0, 0, 0), (169, .istore 13, 171, 0, 0, 0, 0), (171, .aload_n 0, 172, 0, 0, 0, 0), (172, .iload 9, 174, 0, 0, 0, 0), (174, .iconst 2, 175, 0, 0, 0, 0), (175, .iadd, 176, 0, 0, 0, 0), (176, .bipush 13, 178, 0, 0, 0, 0), (178, .invokestatic 22, 181, 0, 249, 3, 0), (181, .istore 14, 183, 0, 0, 0, 0), (183, .aload_n 0, 184, 0, 0, 0, 0), (184, .iload 9, 186, 0, 0, 0, 0), (186, .iconst 3, 187, 0, 0, 0, 0), (187, .iadd, 188, 0, 0, 0, 0), (188, .bipush 9, 190, 0, 0, 0, 0), (190, .invokestatic 22, 193, 0, 249, 3, 0), (193, .tableswitch 255 0 6 #[43, 43, 70, 95, 151, 187, 238], 236, 0, 0, 0, 0), (236, .aload_n 1, 237, 0, 0, 0, 0), (237, .iload 10, 239, 0, 0, 0, 0), (239, .bipush 7, 241, 0, 0, 0, 0), (241, .iload 13, 243, 0, 0, 0, 0), (243, .imul, 244, 0, 0, 0, 0), (244, .invokevirtual 30, 247, 0, 54, 2, 5), (247, .aload_n 2, 248, 0, 0, 0, 0), (248, .iload 10, 250, 0, 0, 0, 0), (250, .bipush 7, 252, 0, 0, 0, 0), (252, .iload 13, 254, 0, 0, 0, 0), (254, .imul, 255, 0, 0, 0, 0), (255, .invokevirtual 30, 258, 0, 54, 2, 5), (258, .if_icmp .eq 266, 261, 524, 0, 0, 0), (261, .iconst 0, 262, 0, 0, 0, 0), (262, .ireturn, 263, 1, 0, 0, 0), (263, .aload_n 1, 264, 0, 0, 0, 0), (264, .iload 10, 266, 0, 0, 0, 0), (266, .iconst 1, 267, 0, 0, 0, 0), (267, .iload 14, 269, 0, 0, 0, 0), (269, .ishl, 270, 0, 0, 0, 0), (270, .invokevirtual 33, 273, 0, 56, 2, 5), (273, .aload_n 2, 274, 0, 0, 0, 0), (274, .iload 10, 276, 0, 0, 0, 0), (276, .iconst 1, 277, 0, 0, 0, 0), (277, .iload 14, 279, 0, 0, 0, 0), (279, .ishl, 280, 0, 0, 0, 0), (280, .invokevirtual 33, 283, 0, 56, 2, 5), (283, .if_icmp .eq 241, 286, 524, 0, 0, 0), (286, .iconst 0, 287, 0, 0, 0, 0), (287, .ireturn, 288, 1, 0, 0, 0), (288, .aload_n 1, 289, 0, 0, 0, 0), (289, .bipush 14, 291, 0, 0, 0, 0), (291, .invokevirtual 36, 294, 0, 74, 1, 5), (294, .bipush 24, 296, 0, 0, 0, 0), (296, .if_icmp .ge 228, 299, 524, 0, 0, 0), (299, .aload_n 1, 300, 0, 0, 0, 0), (300, .iload 10, 302, 0, 0, 0, 0), (302, .iload 14, 304, 0, 0, 0, 0), (304, .iload 13, 306, 0, 0, 0, 0), (306, .bipush 9, 308, 0, 0, 0, 0), (308, .if_icmp .le 7, 311, 315, 0, 0, 0), (311, .iconst 1, 312, 0, 0, 0, 0), (312, .goto 4, 315, 316, 0, 0, 0), (315, .iconst 0, 316, 0, 0, 0, 0), (316, .invokevirtual 40, 319, 0, 57, 3, 5), (319, .aload_n 2, 320, 0, 0, 0, 0), (320, .iload 10, 322, 0, 0, 0, 0), (322, .iload 14, 324, 0, 0, 0, 0), (324, .iload 13, 326, 0, 0, 0, 0), (326, .bipush 9, 328, 0, 0, 0, 0), (328, .if_icmp .le 7, 331, 335, 0, 0, 0), (331, .iconst 1, 332, 0, 0, 0, 0), (332, .goto 4, 335, 336, 0, 0, 0), (335, .iconst 0, 336, 0, 0, 0, 0), (336, .invokevirtual 40, 339, 0, 57, 3, 5), (339, .if_icmp .eq 185, 342, 524, 0, 0, 0), (342, .iconst 0, 343, 0, 0, 0, 0), (343, .ireturn, 344, 1, 0, 0, 0), (344, .aload_n 1, 345, 0, 0, 0, 0), (345, .bipush 15, 347, 0, 0, 0, 0), (347, .invokevirtual 36, 350, 0, 74, 1, 5), (350, .bipush 24, 352, 0, 0, 0, 0), (352, .if_icmp .ge 172, 355, 524, 0, 0, 0), (355, .aload_n 1, 356, 0, 0, 0, 0), (356, .iload 10, 358, 0, 0, 0, 0), (358, .iload 14, 360, 0, 0, 0, 0), (360, .iload 13, 362, 0, 0, 0, 0), (362, .invokevirtual 44, 365, 0, 58, 3, 5), (365, .aload_n 2, 366, 0, 0, 0, 0), (366, .iload 10, 368, 0, 0, 0, 0), (368, .iload 14, 370, 0, 0, 0, 0), (370, .iload 13, 372, 0, 0, 0, 0), (372, .invokevirtual 44, 375, 0, 58, 3, 5), (375, .if_icmp .eq 149, 378, 524, 0, 0, 0), (378, .iconst 0, 379, 0, 0, 0, 0), (379, .ireturn, 380, 1, 0, 0, 0), (380, .aload_n 1, 381, 0, 0, 0, 0), (381, .iload 11, 383, 0, 0, 0, 0), (383, .iload 12, 385, 0, 0, 0, 0), (385, .iload 13, 387, 0, 0, 0, 0), (387, .invokevirtual 48, 390, 0, 59, 3, 5), (390, .istore 15, 392, 0, 0, 0, 0), (392, .iconst 0, 393, 0, 0, 0, 0), (393, .istore 16, 395, 0, 0, 0, 0), (395, .iconst 0, 396, 0, 0, 0, 0), (396, .istore 17, 398, 0, 0, 0, 0), (398, .iload 17, 400, 0, 0, 0, 0), (400, .iload 13, 402, 0, 0, 0, 0), (402, .if_icmp .ge 20, 405, 422, 0, 0, 0), (405, .aload_n 2, 406, 0, 0, 0, 0), (406, .iload 11, 408, 0, 0, 0, 0), (408, .iload 12, 410, 0, 0, 0, 0), (410, .iconst 1, 411, 0, 0, 0, 0), (411, .invokevirtual 48, 414, 0, 59, 3, 5), (414, .istore 16, 416, 0, 0, 0, 0), (416, .iinc 17 1, 419, 0, 0, 0, 0), (419, .goto (-21), 422, 398, 0, 0, 0), (422, .iload 15, 424, 0, 0, 0, 0), (424, .iload 16, 426, 0, 0, 0, 0), (426, .if_icmp .eq 98, 429, 524, 0, 0, 0), (429, .iconst 0, 430, 0, 0, 0, 0), (430, .ireturn, 431, 1, 0, 0, 0), (431, .aload_n 1, 432, 0, 0, 0, 0), (432, .iload 10, 434, 0, 0, 0, 0), (434, .invokevirtual 51, 437, 0, 55, 1, 5), (437, .aload_n 2, 438, 0, 0, 0, 0), (438, .iload 10, 440, 0, 0, 0, 0), (440, .invokevirtual 51, 443, 0, 55, 1, 5), (443, .if_icmp .eq 81, 446, 524, 0, 0, 0), (446, .iconst 0, 447, 0, 0, 0, 0), (447, .ireturn, 448, 1, 0, 0, 0), (448, .aload_n 1, 449, 0, 0, 0, 0), (449, .iload 13, 451, 0, 0, 0, 0), (451, .invokevirtual 54, 454, 0, 63, 1, 5), (454, .istore 15, 456, 0, 0, 0, 0), (456, .iconst 0, 457, 0, 0, 0, 0), (457, .istore 16, 459, 0, 0, 0, 0), (459, .iload 16, 461, 0, 0, 0, 0), (461, .iload 13, 463, 0, 0, 0, 0), (463, .if_icmp .ge 49, 466, 512, 0, 0, 0), (466, .aload_n 2, 467, 0, 0, 0, 0), (467, .iload 10, 469, 0, 0, 0, 0), (469, .invokevirtual 57, 472, 0, 77, 1, 5), (472, .iconst (-1), 473, 0, 0, 0, 0), (473, .if_icmp .lt 25, 476, 498, 0, 0, 0), (476, .aload_n 2, 477, 0, 0, 0, 0), (477, .bipush 9, 479, 0, 0, 0, 0), (479, .invokevirtual 60, 482, 0, 79, 1, 5), (482, .bipush 24, 484, 0, 0, 0, 0), (484, .if_icmp .gt 14, 487, 498, 0, 0, 0), (487, .aload_n 2, 488, 0, 0, 0, 0), (488, .iload 11, 490, 0, 0, 0, 0), (490, .invokevirtual 63, 493, 0, 78, 1, 5), (493, .bipush 7, 495, 0, 0, 0, 0), (495, .if_icmp .le 5, 498, 500, 0, 0, 0), (498, .iconst 0, 499, 0, 0, 0, 0), (499, .ireturn, 500, 1, 0, 0, 0), (500, .aload_n 2, 501, 0, 0, 0, 0), (501, .iconst 1, 502, 0, 0, 0, 0), (502, .invokevirtual 54, 505, 0, 63, 1, 5), (505, .pop, 506, 0, 0, 0, 0), (506, .iinc 16 1, 509, 0, 0, 0, 0), (509, .goto (-50), 512, 459, 0, 0, 0), (512, .aload_n 2, 513, 0, 0, 0, 0), (513, .iconst 0, 514, 0, 0, 0, 0), (514, .invokevirtual 36, 517, 0, 74, 1, 5), (517, .iload 15, 519, 0, 0, 0, 0), (519, .if_icmp .eq 5, 522, 524, 0, 0, 0), (522, .iconst 0, 523, 0, 0, 0, 0), (523, .ireturn, 524, 1, 0, 0, 0), (524, .iload 8, 526, 0, 0, 0, 0), (526, .bipush 13, 528, 0, 0, 0, 0), (528, .irem, 529, 0, 0, 0, 0), (529, .ifCond .ne 17, 532, 546, 0, 0, 0), (532, .aload_n 1, 533, 0, 0, 0, 0), (533, .invokevirtual 66, 536, 0, 81, 0, 5), (536, .aload_n 2, 537, 0, 0, 0, 0), (537, .invokevirtual 66, 540, 0, 81, 0, 5), (540, .lcmp, 541, 0, 0, 0, 0), (541, .ifCond .eq 5, 544, 546, 0, 0, 0), (544, .iconst 0, 545, 0, 0, 0, 0), (545, .ireturn, 546, 1, 0, 0, 0), (546, .iinc 8 1, 549, 0, 0, 0, 0), (549, .goto (-437), 552, 112, 0, 0, 0), (552, .aload_n 1, 553, 0, 0, 0, 0), (553, .invokevirtual 66, 556, 0, 81, 0, 5), (556, .aload_n 2, 557, 0, 0, 0, 0), (557, .invokevirtual 66, 560, 0, 81, 0, 5), (560, .lcmp, 561, 0, 0, 0, 0), (561, .ifCond .ne 21, 564, 582, 0, 0, 0), (564, .aload_n 1, 565, 0, 0, 0, 0), (565, .invokevirtual 70, 568, 0, 80, 0, 5), (568, .ifCond .eq 14, 571, 582, 0, 0, 0), (571, .aload_n 2, 572, 0, 0, 0, 0), (572, .invokevirtual 70, 575, 0, 80, 0, 5), (575, .ifCond .eq 7, 578, 582, 0, 0, 0), (578, .iconst 1, 579, 0, 0, 0, 0), (579, .goto 4, 582, 583, 0, 0, 0), (582, .iconst 0, 583, 0, 0, 0, 0), (583, .ireturn, 584, 1, 0, 0, 0)]
def zc_Z215 : List zRow := []
def zc_Z216 : List zRow := []
def zc_Z217 : List zRow := []
def zc_Z218 : List zRow := []
def zc_Z219 : List zRow := []
def zc_Z220 : List zRow := []
def zc_Z221 : List zRow := []
def zc_Z222 : List zRow := []
def zc_Z223 : List zRow := []
def zc_Z224 : List zRow := []
def zc_Z225 : List zRow := []
def zc_Z226 : List zRow := []
def zc_Z227 : List zRow := []
def zc_Z228 : List zRow := []
def zc_J6_bitCount_0f7a4 : List zRow := [(0, .iload_n 0, 1, 0, 0, 0, 0), (1, .iload_n 0, 2, 0, 0, 0, 0), (2, .iconst 1, 3, 0, 0, 0, 0), (3, .iushr, 4, 0, 0, 0, 0), (4, .ldc_w 265, 7, 0, 1431655765, 0, 0), (7, .iand, 8, 0, 0, 0, 0), (8, .isub, 9, 0, 0, 0, 0), (9, .istore_n 0, 10, 0, 0, 0, 0), (10, .iload_n 0, 11, 0, 0, 0, 0), (11, .ldc_w 266, 14, 0, 858993459, 0, 0), (14, .iand, 15, 0, 0, 0, 0), (15, .iload_n 0, 16, 0, 0, 0, 0), (16, .iconst 2, 17, 0, 0, 0, 0), (17, .iushr, 18, 0, 0, 0, 0), (18, .ldc_w 266, 21, 0, 858993459, 0, 0), (21, .iand, 22, 0, 0, 0, 0), (22, .iadd, 23, 0, 0, 0, 0), (23, .istore_n 0, 24, 0, 0, 0, 0), (24, .iload_n 0, 25, 0, 0, 0, 0), (25, .iload_n 0, 26, 0, 0, 0, 0), (26, .iconst 4, 27, 0, 0, 0, 0), (27, .iushr, 28, 0, 0, 0, 0), (28, .iadd, 29, 0, 0, 0, 0), (29, .ldc_w 267, 32, 0, 252645135, 0, 0), (32, .iand, 33, 0, 0, 0, 0), (33, .istore_n 0, 34, 0, 0, 0, 0), (34, .iload_n 0, 35, 0, 0, 0, 0), (35, .iload_n 0, 36, 0, 0, 0, 0), (36, .bipush 8, 38, 0, 0, 0, 0), (38, .iushr, 39, 0, 0, 0, 0), (39, .iadd, 40, 0, 0, 0, 0), (40, .istore_n 0, 41, 0, 0, 0, 0), (41, .iload_n 0, 42, 0, 0, 0, 0), (42, .iload_n 0, 43, 0, 0, 0, 0), (43, .bipush 16, 45, 0, 0, 0, 0), (45, .iushr, 46, 0, 0, 0, 0), (46, .iadd, 47, 0, 0, 0, 0), (47, .istore_n 0, 48, 0, 0, 0, 0), (48, .iload_n 0, 49, 0, 0, 0, 0), (49, .bipush 63, 51, 0, 0, 0, 0), (51, .iand, 52, 0, 0, 0, 0), (52, .ireturn, 53, 0, 0, 0, 0)]
def zc_Z230 : List zRow := []
def zc_Z231 : List zRow := []
def zc_Z232 : List zRow := []
def zc_Z233 : List zRow := []
def zc_Z234 : List zRow := []
def zc_Z235 : List zRow := []
def zc_Z236 : List zRow := []
def zc_Z237 : List zRow := []
def zc_Z238 : List zRow := []
def zc_Z239 : List zRow := []
def zc_Z240 : List zRow := []
def zc_Z241 : List zRow := []
def zc_Z242 : List zRow := []
def zc_Z243 : List zRow := []
def zc_Z244 : List zRow := []
def zc_Z245 : List zRow := []
def zc_Z246 : List zRow := []
def zc_L_below : List zRow := [(0, .iload_n 0, 1, 0, 0, 0, 0), (1, .ldc 7, 3, 0, 2147483647, 0, 0), (3, .iand, 4, 0, 0, 0, 0), (4, .iload_n 1, 5, 0, 0, 0, 0), (5, .irem, 6, 0, 0, 0, 0), (6, .ireturn, 7, 0, 0, 0, 0)]
def zc_L_cell : List zRow := [(0, .iload_n 1, 1, 0, 0, 0, 0), (1, .aload_n 0, 2, 0, 0, 0, 0), (2, .arraylength, 3, 0, 0, 0, 0), (3, .if_icmp .ge 9, 6, 12, 0, 0, 0), (6, .aload_n 0, 7, 0, 0, 0, 0), (7, .iload_n 1, 8, 0, 0, 0, 0), (8, .iaload, 9, 0, 0, 0, 0), (9, .goto 9, 12, 18, 0, 0, 0), (12, .ldc 8, 14, 0, 790386105, 0, 0), (14, .iload_n 1, 15, 0, 0, 0, 0), (15, .iconst 3, 16, 0, 0, 0, 0), (16, .iadd, 17, 0, 0, 0, 0), (17, .imul, 18, 0, 0, 0, 0), (18, .ireturn, 19, 0, 0, 0, 0)]
def zc_L_drawn : List zRow := [(0, .aload_n 0, 1, 0, 0, 0, 0), (1, .iload_n 1, 2, 0, 0, 0, 0), (2, .bipush 24, 4, 0, 0, 0, 0), (4, .irem, 5, 0, 0, 0, 0), (5, .invokestatic 9, 8, 0, 248, 2, 0), (8, .iload_n 1, 9, 0, 0, 0, 0), (9, .bipush 24, 11, 0, 0, 0, 0), (11, .idiv, 12, 0, 0, 0, 0), (12, .bipush 8, 14, 0, 0, 0, 0), (14, .irem, 15, 0, 0, 0, 0), (15, .ishr, 16, 0, 0, 0, 0), (16, .sipush 499, 19, 0, 0, 0, 0), (19, .iload_n 1, 20, 0, 0, 0, 0), (20, .imul, 21, 0, 0, 0, 0), (21, .iadd, 22, 0, 0, 0, 0), (22, .iload_n 2, 23, 0, 0, 0, 0), (23, .invokestatic 15, 26, 0, 247, 2, 0), (26, .ireturn, 27, 0, 0, 0, 0)]
def zmc (y : Nat) : List zRow := ([zc_X0_init, zc_Z1, zc_Z2, zc_X0_make, zc_X0_makeDataColumns, zc_X0_words, zc_X0_dataMask, zc_X0_hasBit, zc_X0_syndromeOf, zc_X0_turnOf, zc_X0_isClean, zc_X0_verdictOf, zc_X0_bitOf, zc_X0_dataOf, zc_X0_wordOf, zc_X0_wronglyMended, zc_X0_thirdBits, zc_X0_oneIfMended, zc_X0_isInOrder, zc_X1_init, zc_X1_isFull, zc_X1_add, zc_X1_keepBitsBelow, zc_X1_countIn, zc_X2_init, zc_X2_get, zc_X2_set, zc_X2_fill, zc_X2_sum, zc_X3_init, zc_Z30, zc_X3_add, zc_X3_guiltyOf, zc_X3_isGuilty, zc_X3_suspectOf, zc_X3_guiltyCell, zc_X3_isToldAgain, zc_X3_isMendedIn, zc_X3_isInOrder, zc_X4_init, zc_X4_wipe, zc_X4_put, zc_X4_asStuck, zc_X4_open, zc_X4_turnDrawnBit, zc_X4_draw, zc_X4_beginTick, zc_X4_isRefreshedAt, zc_X4_leaksWithin, zc_X4_isLeakable, zc_X4_isOverWithin, zc_X4_isInOrder, zc_X5_init, zc_Z53, zc_X5_write, zc_X5_read, zc_X5_ray, zc_X5_stick, zc_X5_weak, zc_X5_hammer, zc_X5_run, zc_Z61, zc_Z62, zc_X5_pass, zc_Z64, zc_Z65, zc_X5_column, zc_Z67, zc_Z68, zc_X5_fooled, zc_X5_ofWord, zc_X5_ofLine, zc_X5_ofEntry, zc_X5_blame, zc_X5_board, zc_X5_health, zc_Z76, zc_X5_wouldRead, zc_X5_wouldSpare, zc_X5_wouldLeak, zc_X5_isSound, zc_X5_digest, zc_X5_checkAddress, zc_X5_checkBank, zc_X5_checkRow, zc_X5_checkTicks, zc_X5_checkData, zc_X5_checkNotRetired, zc_X5_firstAddress, zc_X5_twinOf, zc_X5_lineAt, zc_X5_cellAt, zc_X5_wordAt, zc_X5_rowOn, zc_X5_rowsHaveOwnLines, zc_X5_isPoisoned, zc_X5_isRetired, zc_X5_dataAt, zc_Z98, zc_X5_stuckIn, zc_X5_uncleanIn, zc_X5_store, zc_X5_replace, zc_X5_report, zc_X5_readTwin, zc_X5_scrubSteps, zc_Z106, zc_X5_mix, zc_X5_mixBank, zc_Z109, zc_Z110, zc_Z111, zc_Z112, zc_Z113, zc_Z114, zc_Z115, zc_Z116, zc_Z117, zc_Z118, zc_Z119, zc_Z120, zc_Z121, zc_Z122, zc_Z123, zc_Z124, zc_Z125, zc_Z126, zc_Z127, zc_Z128, zc_Z129, zc_Z130, zc_Z131, zc_Z132, zc_Z133, zc_Z134, zc_Z135, zc_Z136, zc_Z137, zc_Z138, zc_Z139, zc_Z140, zc_Z141, zc_Z142, zc_Z143, zc_Z144, zc_Z145, zc_Z146, zc_Z147, zc_Z148, zc_Z149, zc_Z150, zc_Z151, zc_Z152, zc_Z153, zc_Z154, zc_Z155, zc_Z156, zc_Z157, zc_Z158, zc_Z159, zc_Z160, zc_Z161, zc_Z162, zc_Z163, zc_Z164, zc_Z165, zc_Z166, zc_Z167, zc_Z168, zc_Z169, zc_Z170, zc_Z171, zc_Z172, zc_Z173, zc_Z174, zc_Z175, zc_Z176, zc_Z177, zc_Z178, zc_Z179, zc_Z180, zc_Z181, zc_Z182, zc_Z183, zc_Z184, zc_Z185, zc_Z186, zc_Z187, zc_Z188, zc_Z189, zc_Z190, zc_Z191, zc_Z192, zc_Z193, zc_Z194, zc_Z195, zc_Z196, zc_Z197, zc_Z198, zc_Z199, zc_Z200, zc_Z201, zc_Z202, zc_Z203, zc_Z204, zc_Z205, zc_Z206, zc_Z207, zc_Z208, zc_Z209, zc_Z210, zc_Z211, zc_Z212, zc_Z213, zc_L_law, zc_Z215, zc_Z216, zc_Z217, zc_Z218, zc_Z219, zc_Z220, zc_Z221, zc_Z222, zc_Z223, zc_Z224, zc_Z225, zc_Z226, zc_Z227, zc_Z228, zc_J6_bitCount_0f7a4, zc_Z230, zc_Z231, zc_Z232, zc_Z233, zc_Z234, zc_Z235, zc_Z236, zc_Z237, zc_Z238, zc_Z239, zc_Z240, zc_Z241, zc_Z242, zc_Z243, zc_Z244, zc_Z245, zc_Z246, zc_L_below, zc_L_cell, zc_L_drawn] : List (List zRow)).getD y []
end
section
theorem zrl_0 : (List.take 32 (List.drop 0 zc_L_law)).all (fun r => zrok 214 r) = true := by decide +kernel
theorem zrl_1 : (List.take 32 (List.drop 32 zc_L_law)).all (fun r => zrok 214 r) = true := by decide +kernel
theorem zrl_2 : (List.take 32 (List.drop 64 zc_L_law)).all (fun r => zrok 214 r) = true := by decide +kernel
end
section
theorem zrl_3 : (List.take 32 (List.drop 96 zc_L_law)).all (fun r => zrok 214 r) = true := by decide +kernel
theorem zrl_4 : (List.take 32 (List.drop 128 zc_L_law)).all (fun r => zrok 214 r) = true := by decide +kernel
theorem zrl_5 : (List.take 32 (List.drop 160 zc_L_law)).all (fun r => zrok 214 r) = true := by decide +kernel
end
section
theorem zrl_6 : (List.take 32 (List.drop 192 zc_L_law)).all (fun r => zrok 214 r) = true := by decide +kernel
theorem zrl_7 : (List.take 32 (List.drop 224 zc_L_law)).all (fun r => zrok 214 r) = true := by decide +kernel
theorem zrl_8 : (List.take 32 (List.drop 256 zc_L_law)).all (fun r => zrok 214 r) = true := by decide +kernel
end
section
theorem zrl_9 : (List.take 32 (List.drop 288 zc_L_law)).all (fun r => zrok 214 r) = true := by decide +kernel
end
section
theorem zr_0 : (zmc 0).all (fun r => zrok 0 r) = true := by decide +kernel
theorem zr_1 : (zmc 1).all (fun r => zrok 1 r) = true := by decide +kernel
theorem zr_2 : (zmc 2).all (fun r => zrok 2 r) = true := by decide +kernel
theorem zr_3 : (zmc 3).all (fun r => zrok 3 r) = true := by decide +kernel
theorem zr_4 : (zmc 4).all (fun r => zrok 4 r) = true := by decide +kernel
theorem zr_5 : (zmc 5).all (fun r => zrok 5 r) = true := by decide +kernel
theorem zr_6 : (zmc 6).all (fun r => zrok 6 r) = true := by decide +kernel
theorem zr_7 : (zmc 7).all (fun r => zrok 7 r) = true := by decide +kernel
theorem zr_8 : (zmc 8).all (fun r => zrok 8 r) = true := by decide +kernel
theorem zr_9 : (zmc 9).all (fun r => zrok 9 r) = true := by decide +kernel
theorem zr_10 : (zmc 10).all (fun r => zrok 10 r) = true := by decide +kernel
theorem zr_11 : (zmc 11).all (fun r => zrok 11 r) = true := by decide +kernel
theorem zr_12 : (zmc 12).all (fun r => zrok 12 r) = true := by decide +kernel
theorem zr_13 : (zmc 13).all (fun r => zrok 13 r) = true := by decide +kernel
theorem zr_14 : (zmc 14).all (fun r => zrok 14 r) = true := by decide +kernel
theorem zr_15 : (zmc 15).all (fun r => zrok 15 r) = true := by decide +kernel
theorem zr_16 : (zmc 16).all (fun r => zrok 16 r) = true := by decide +kernel
theorem zr_17 : (zmc 17).all (fun r => zrok 17 r) = true := by decide +kernel
theorem zr_18 : (zmc 18).all (fun r => zrok 18 r) = true := by decide +kernel
theorem zr_19 : (zmc 19).all (fun r => zrok 19 r) = true := by decide +kernel
theorem zr_20 : (zmc 20).all (fun r => zrok 20 r) = true := by decide +kernel
theorem zr_21 : (zmc 21).all (fun r => zrok 21 r) = true := by decide +kernel
theorem zr_22 : (zmc 22).all (fun r => zrok 22 r) = true := by decide +kernel
theorem zr_23 : (zmc 23).all (fun r => zrok 23 r) = true := by decide +kernel
theorem zr_24 : (zmc 24).all (fun r => zrok 24 r) = true := by decide +kernel
theorem zr_25 : (zmc 25).all (fun r => zrok 25 r) = true := by decide +kernel
theorem zr_26 : (zmc 26).all (fun r => zrok 26 r) = true := by decide +kernel
theorem zr_27 : (zmc 27).all (fun r => zrok 27 r) = true := by decide +kernel
theorem zr_28 : (zmc 28).all (fun r => zrok 28 r) = true := by decide +kernel
theorem zr_29 : (zmc 29).all (fun r => zrok 29 r) = true := by decide +kernel
theorem zr_30 : (zmc 30).all (fun r => zrok 30 r) = true := by decide +kernel
theorem zr_31 : (zmc 31).all (fun r => zrok 31 r) = true := by decide +kernel
theorem zr_32 : (zmc 32).all (fun r => zrok 32 r) = true := by decide +kernel
theorem zr_33 : (zmc 33).all (fun r => zrok 33 r) = true := by decide +kernel
theorem zr_34 : (zmc 34).all (fun r => zrok 34 r) = true := by decide +kernel
theorem zr_35 : (zmc 35).all (fun r => zrok 35 r) = true := by decide +kernel
theorem zr_36 : (zmc 36).all (fun r => zrok 36 r) = true := by decide +kernel
theorem zr_37 : (zmc 37).all (fun r => zrok 37 r) = true := by decide +kernel
theorem zr_38 : (zmc 38).all (fun r => zrok 38 r) = true := by decide +kernel
theorem zr_39 : (zmc 39).all (fun r => zrok 39 r) = true := by decide +kernel
theorem zr_40 : (zmc 40).all (fun r => zrok 40 r) = true := by decide +kernel
theorem zr_41 : (zmc 41).all (fun r => zrok 41 r) = true := by decide +kernel
theorem zr_42 : (zmc 42).all (fun r => zrok 42 r) = true := by decide +kernel
theorem zr_43 : (zmc 43).all (fun r => zrok 43 r) = true := by decide +kernel
theorem zr_44 : (zmc 44).all (fun r => zrok 44 r) = true := by decide +kernel
theorem zr_45 : (zmc 45).all (fun r => zrok 45 r) = true := by decide +kernel
theorem zr_46 : (zmc 46).all (fun r => zrok 46 r) = true := by decide +kernel
theorem zr_47 : (zmc 47).all (fun r => zrok 47 r) = true := by decide +kernel
theorem zr_48 : (zmc 48).all (fun r => zrok 48 r) = true := by decide +kernel
theorem zr_49 : (zmc 49).all (fun r => zrok 49 r) = true := by decide +kernel
theorem zr_50 : (zmc 50).all (fun r => zrok 50 r) = true := by decide +kernel
theorem zr_51 : (zmc 51).all (fun r => zrok 51 r) = true := by decide +kernel
theorem zr_52 : (zmc 52).all (fun r => zrok 52 r) = true := by decide +kernel
theorem zr_53 : (zmc 53).all (fun r => zrok 53 r) = true := by decide +kernel
theorem zr_54 : (zmc 54).all (fun r => zrok 54 r) = true := by decide +kernel
theorem zr_55 : (zmc 55).all (fun r => zrok 55 r) = true := by decide +kernel
theorem zr_56 : (zmc 56).all (fun r => zrok 56 r) = true := by decide +kernel
theorem zr_57 : (zmc 57).all (fun r => zrok 57 r) = true := by decide +kernel
theorem zr_58 : (zmc 58).all (fun r => zrok 58 r) = true := by decide +kernel
theorem zr_59 : (zmc 59).all (fun r => zrok 59 r) = true := by decide +kernel
theorem zr_60 : (zmc 60).all (fun r => zrok 60 r) = true := by decide +kernel
theorem zr_61 : (zmc 61).all (fun r => zrok 61 r) = true := by decide +kernel
theorem zr_62 : (zmc 62).all (fun r => zrok 62 r) = true := by decide +kernel
theorem zr_63 : (zmc 63).all (fun r => zrok 63 r) = true := by decide +kernel
theorem zr_64 : (zmc 64).all (fun r => zrok 64 r) = true := by decide +kernel
theorem zr_65 : (zmc 65).all (fun r => zrok 65 r) = true := by decide +kernel
theorem zr_66 : (zmc 66).all (fun r => zrok 66 r) = true := by decide +kernel
theorem zr_67 : (zmc 67).all (fun r => zrok 67 r) = true := by decide +kernel
theorem zr_68 : (zmc 68).all (fun r => zrok 68 r) = true := by decide +kernel
theorem zr_69 : (zmc 69).all (fun r => zrok 69 r) = true := by decide +kernel
theorem zr_70 : (zmc 70).all (fun r => zrok 70 r) = true := by decide +kernel
theorem zr_71 : (zmc 71).all (fun r => zrok 71 r) = true := by decide +kernel
theorem zr_72 : (zmc 72).all (fun r => zrok 72 r) = true := by decide +kernel
theorem zr_73 : (zmc 73).all (fun r => zrok 73 r) = true := by decide +kernel
theorem zr_74 : (zmc 74).all (fun r => zrok 74 r) = true := by decide +kernel
theorem zr_75 : (zmc 75).all (fun r => zrok 75 r) = true := by decide +kernel
theorem zr_76 : (zmc 76).all (fun r => zrok 76 r) = true := by decide +kernel
theorem zr_77 : (zmc 77).all (fun r => zrok 77 r) = true := by decide +kernel
theorem zr_78 : (zmc 78).all (fun r => zrok 78 r) = true := by decide +kernel
theorem zr_79 : (zmc 79).all (fun r => zrok 79 r) = true := by decide +kernel
theorem zr_80 : (zmc 80).all (fun r => zrok 80 r) = true := by decide +kernel
theorem zr_81 : (zmc 81).all (fun r => zrok 81 r) = true := by decide +kernel
theorem zr_82 : (zmc 82).all (fun r => zrok 82 r) = true := by decide +kernel
theorem zr_83 : (zmc 83).all (fun r => zrok 83 r) = true := by decide +kernel
theorem zr_84 : (zmc 84).all (fun r => zrok 84 r) = true := by decide +kernel
theorem zr_85 : (zmc 85).all (fun r => zrok 85 r) = true := by decide +kernel
theorem zr_86 : (zmc 86).all (fun r => zrok 86 r) = true := by decide +kernel
theorem zr_87 : (zmc 87).all (fun r => zrok 87 r) = true := by decide +kernel
theorem zr_88 : (zmc 88).all (fun r => zrok 88 r) = true := by decide +kernel
theorem zr_89 : (zmc 89).all (fun r => zrok 89 r) = true := by decide +kernel
theorem zr_90 : (zmc 90).all (fun r => zrok 90 r) = true := by decide +kernel
theorem zr_91 : (zmc 91).all (fun r => zrok 91 r) = true := by decide +kernel
theorem zr_92 : (zmc 92).all (fun r => zrok 92 r) = true := by decide +kernel
theorem zr_93 : (zmc 93).all (fun r => zrok 93 r) = true := by decide +kernel
theorem zr_94 : (zmc 94).all (fun r => zrok 94 r) = true := by decide +kernel
theorem zr_95 : (zmc 95).all (fun r => zrok 95 r) = true := by decide +kernel
theorem zr_96 : (zmc 96).all (fun r => zrok 96 r) = true := by decide +kernel
theorem zr_97 : (zmc 97).all (fun r => zrok 97 r) = true := by decide +kernel
theorem zr_98 : (zmc 98).all (fun r => zrok 98 r) = true := by decide +kernel
theorem zr_99 : (zmc 99).all (fun r => zrok 99 r) = true := by decide +kernel
theorem zr_100 : (zmc 100).all (fun r => zrok 100 r) = true := by decide +kernel
theorem zr_101 : (zmc 101).all (fun r => zrok 101 r) = true := by decide +kernel
theorem zr_102 : (zmc 102).all (fun r => zrok 102 r) = true := by decide +kernel
theorem zr_103 : (zmc 103).all (fun r => zrok 103 r) = true := by decide +kernel
theorem zr_104 : (zmc 104).all (fun r => zrok 104 r) = true := by decide +kernel
theorem zr_105 : (zmc 105).all (fun r => zrok 105 r) = true := by decide +kernel
theorem zr_106 : (zmc 106).all (fun r => zrok 106 r) = true := by decide +kernel
theorem zr_107 : (zmc 107).all (fun r => zrok 107 r) = true := by decide +kernel
theorem zr_108 : (zmc 108).all (fun r => zrok 108 r) = true := by decide +kernel
theorem zr_109 : (zmc 109).all (fun r => zrok 109 r) = true := by decide +kernel
theorem zr_110 : (zmc 110).all (fun r => zrok 110 r) = true := by decide +kernel
theorem zr_111 : (zmc 111).all (fun r => zrok 111 r) = true := by decide +kernel
theorem zr_112 : (zmc 112).all (fun r => zrok 112 r) = true := by decide +kernel
theorem zr_113 : (zmc 113).all (fun r => zrok 113 r) = true := by decide +kernel
theorem zr_114 : (zmc 114).all (fun r => zrok 114 r) = true := by decide +kernel
theorem zr_115 : (zmc 115).all (fun r => zrok 115 r) = true := by decide +kernel
theorem zr_116 : (zmc 116).all (fun r => zrok 116 r) = true := by decide +kernel
theorem zr_117 : (zmc 117).all (fun r => zrok 117 r) = true := by decide +kernel
theorem zr_118 : (zmc 118).all (fun r => zrok 118 r) = true := by decide +kernel
theorem zr_119 : (zmc 119).all (fun r => zrok 119 r) = true := by decide +kernel
theorem zr_120 : (zmc 120).all (fun r => zrok 120 r) = true := by decide +kernel
theorem zr_121 : (zmc 121).all (fun r => zrok 121 r) = true := by decide +kernel
theorem zr_122 : (zmc 122).all (fun r => zrok 122 r) = true := by decide +kernel
theorem zr_123 : (zmc 123).all (fun r => zrok 123 r) = true := by decide +kernel
theorem zr_124 : (zmc 124).all (fun r => zrok 124 r) = true := by decide +kernel
theorem zr_125 : (zmc 125).all (fun r => zrok 125 r) = true := by decide +kernel
theorem zr_126 : (zmc 126).all (fun r => zrok 126 r) = true := by decide +kernel
theorem zr_127 : (zmc 127).all (fun r => zrok 127 r) = true := by decide +kernel
theorem zr_128 : (zmc 128).all (fun r => zrok 128 r) = true := by decide +kernel
theorem zr_129 : (zmc 129).all (fun r => zrok 129 r) = true := by decide +kernel
theorem zr_130 : (zmc 130).all (fun r => zrok 130 r) = true := by decide +kernel
theorem zr_131 : (zmc 131).all (fun r => zrok 131 r) = true := by decide +kernel
theorem zr_132 : (zmc 132).all (fun r => zrok 132 r) = true := by decide +kernel
theorem zr_133 : (zmc 133).all (fun r => zrok 133 r) = true := by decide +kernel
theorem zr_134 : (zmc 134).all (fun r => zrok 134 r) = true := by decide +kernel
theorem zr_135 : (zmc 135).all (fun r => zrok 135 r) = true := by decide +kernel
theorem zr_136 : (zmc 136).all (fun r => zrok 136 r) = true := by decide +kernel
theorem zr_137 : (zmc 137).all (fun r => zrok 137 r) = true := by decide +kernel
theorem zr_138 : (zmc 138).all (fun r => zrok 138 r) = true := by decide +kernel
theorem zr_139 : (zmc 139).all (fun r => zrok 139 r) = true := by decide +kernel
theorem zr_140 : (zmc 140).all (fun r => zrok 140 r) = true := by decide +kernel
theorem zr_141 : (zmc 141).all (fun r => zrok 141 r) = true := by decide +kernel
theorem zr_142 : (zmc 142).all (fun r => zrok 142 r) = true := by decide +kernel
theorem zr_143 : (zmc 143).all (fun r => zrok 143 r) = true := by decide +kernel
theorem zr_144 : (zmc 144).all (fun r => zrok 144 r) = true := by decide +kernel
theorem zr_145 : (zmc 145).all (fun r => zrok 145 r) = true := by decide +kernel
theorem zr_146 : (zmc 146).all (fun r => zrok 146 r) = true := by decide +kernel
theorem zr_147 : (zmc 147).all (fun r => zrok 147 r) = true := by decide +kernel
theorem zr_148 : (zmc 148).all (fun r => zrok 148 r) = true := by decide +kernel
theorem zr_149 : (zmc 149).all (fun r => zrok 149 r) = true := by decide +kernel
theorem zr_150 : (zmc 150).all (fun r => zrok 150 r) = true := by decide +kernel
theorem zr_151 : (zmc 151).all (fun r => zrok 151 r) = true := by decide +kernel
theorem zr_152 : (zmc 152).all (fun r => zrok 152 r) = true := by decide +kernel
theorem zr_153 : (zmc 153).all (fun r => zrok 153 r) = true := by decide +kernel
theorem zr_154 : (zmc 154).all (fun r => zrok 154 r) = true := by decide +kernel
theorem zr_155 : (zmc 155).all (fun r => zrok 155 r) = true := by decide +kernel
theorem zr_156 : (zmc 156).all (fun r => zrok 156 r) = true := by decide +kernel
theorem zr_157 : (zmc 157).all (fun r => zrok 157 r) = true := by decide +kernel
theorem zr_158 : (zmc 158).all (fun r => zrok 158 r) = true := by decide +kernel
theorem zr_159 : (zmc 159).all (fun r => zrok 159 r) = true := by decide +kernel
theorem zr_160 : (zmc 160).all (fun r => zrok 160 r) = true := by decide +kernel
theorem zr_161 : (zmc 161).all (fun r => zrok 161 r) = true := by decide +kernel
theorem zr_162 : (zmc 162).all (fun r => zrok 162 r) = true := by decide +kernel
theorem zr_163 : (zmc 163).all (fun r => zrok 163 r) = true := by decide +kernel
theorem zr_164 : (zmc 164).all (fun r => zrok 164 r) = true := by decide +kernel
theorem zr_165 : (zmc 165).all (fun r => zrok 165 r) = true := by decide +kernel
theorem zr_166 : (zmc 166).all (fun r => zrok 166 r) = true := by decide +kernel
theorem zr_167 : (zmc 167).all (fun r => zrok 167 r) = true := by decide +kernel
theorem zr_168 : (zmc 168).all (fun r => zrok 168 r) = true := by decide +kernel
theorem zr_169 : (zmc 169).all (fun r => zrok 169 r) = true := by decide +kernel
theorem zr_170 : (zmc 170).all (fun r => zrok 170 r) = true := by decide +kernel
theorem zr_171 : (zmc 171).all (fun r => zrok 171 r) = true := by decide +kernel
theorem zr_172 : (zmc 172).all (fun r => zrok 172 r) = true := by decide +kernel
theorem zr_173 : (zmc 173).all (fun r => zrok 173 r) = true := by decide +kernel
theorem zr_174 : (zmc 174).all (fun r => zrok 174 r) = true := by decide +kernel
theorem zr_175 : (zmc 175).all (fun r => zrok 175 r) = true := by decide +kernel
theorem zr_176 : (zmc 176).all (fun r => zrok 176 r) = true := by decide +kernel
theorem zr_177 : (zmc 177).all (fun r => zrok 177 r) = true := by decide +kernel
theorem zr_178 : (zmc 178).all (fun r => zrok 178 r) = true := by decide +kernel
theorem zr_179 : (zmc 179).all (fun r => zrok 179 r) = true := by decide +kernel
theorem zr_180 : (zmc 180).all (fun r => zrok 180 r) = true := by decide +kernel
theorem zr_181 : (zmc 181).all (fun r => zrok 181 r) = true := by decide +kernel
theorem zr_182 : (zmc 182).all (fun r => zrok 182 r) = true := by decide +kernel
theorem zr_183 : (zmc 183).all (fun r => zrok 183 r) = true := by decide +kernel
theorem zr_184 : (zmc 184).all (fun r => zrok 184 r) = true := by decide +kernel
theorem zr_185 : (zmc 185).all (fun r => zrok 185 r) = true := by decide +kernel
theorem zr_186 : (zmc 186).all (fun r => zrok 186 r) = true := by decide +kernel
theorem zr_187 : (zmc 187).all (fun r => zrok 187 r) = true := by decide +kernel
theorem zr_188 : (zmc 188).all (fun r => zrok 188 r) = true := by decide +kernel
theorem zr_189 : (zmc 189).all (fun r => zrok 189 r) = true := by decide +kernel
theorem zr_190 : (zmc 190).all (fun r => zrok 190 r) = true := by decide +kernel
theorem zr_191 : (zmc 191).all (fun r => zrok 191 r) = true := by decide +kernel
theorem zr_192 : (zmc 192).all (fun r => zrok 192 r) = true := by decide +kernel
theorem zr_193 : (zmc 193).all (fun r => zrok 193 r) = true := by decide +kernel
theorem zr_194 : (zmc 194).all (fun r => zrok 194 r) = true := by decide +kernel
theorem zr_195 : (zmc 195).all (fun r => zrok 195 r) = true := by decide +kernel
theorem zr_196 : (zmc 196).all (fun r => zrok 196 r) = true := by decide +kernel
theorem zr_197 : (zmc 197).all (fun r => zrok 197 r) = true := by decide +kernel
theorem zr_198 : (zmc 198).all (fun r => zrok 198 r) = true := by decide +kernel
theorem zr_199 : (zmc 199).all (fun r => zrok 199 r) = true := by decide +kernel
theorem zr_200 : (zmc 200).all (fun r => zrok 200 r) = true := by decide +kernel
theorem zr_201 : (zmc 201).all (fun r => zrok 201 r) = true := by decide +kernel
theorem zr_202 : (zmc 202).all (fun r => zrok 202 r) = true := by decide +kernel
theorem zr_203 : (zmc 203).all (fun r => zrok 203 r) = true := by decide +kernel
theorem zr_204 : (zmc 204).all (fun r => zrok 204 r) = true := by decide +kernel
theorem zr_205 : (zmc 205).all (fun r => zrok 205 r) = true := by decide +kernel
theorem zr_206 : (zmc 206).all (fun r => zrok 206 r) = true := by decide +kernel
theorem zr_207 : (zmc 207).all (fun r => zrok 207 r) = true := by decide +kernel
theorem zr_208 : (zmc 208).all (fun r => zrok 208 r) = true := by decide +kernel
theorem zr_209 : (zmc 209).all (fun r => zrok 209 r) = true := by decide +kernel
theorem zr_210 : (zmc 210).all (fun r => zrok 210 r) = true := by decide +kernel
theorem zr_211 : (zmc 211).all (fun r => zrok 211 r) = true := by decide +kernel
theorem zr_212 : (zmc 212).all (fun r => zrok 212 r) = true := by decide +kernel
theorem zr_213 : (zmc 213).all (fun r => zrok 213 r) = true := by decide +kernel
theorem zall_split {n k : Nat} {l : List zRow} {p : zRow → Bool} (h1 : (List.take k (List.drop n l)).all p = true) (h2 : (List.drop (n + k) l).all p = true) : (List.drop n l).all p = true := by
  rw [← List.take_append_drop k (List.drop n l), List.all_append, h1, List.drop_drop, h2]
  rfl
theorem zr_214 : (zmc 214).all (fun r => zrok 214 r) = true := zall_split (n := 0) (k := 32) zrl_0 (zall_split (n := 32) (k := 32) zrl_1 (zall_split (n := 64) (k := 32) zrl_2 (zall_split (n := 96) (k := 32) zrl_3 (zall_split (n := 128) (k := 32) zrl_4 (zall_split (n := 160) (k := 32) zrl_5 (zall_split (n := 192) (k := 32) zrl_6 (zall_split (n := 224) (k := 32) zrl_7 (zall_split (n := 256) (k := 32) zrl_8 (zall_split (n := 288) (k := 32) zrl_9 (by decide +kernel))))))))))
theorem zr_215 : (zmc 215).all (fun r => zrok 215 r) = true := by decide +kernel
theorem zr_216 : (zmc 216).all (fun r => zrok 216 r) = true := by decide +kernel
theorem zr_217 : (zmc 217).all (fun r => zrok 217 r) = true := by decide +kernel
theorem zr_218 : (zmc 218).all (fun r => zrok 218 r) = true := by decide +kernel
theorem zr_219 : (zmc 219).all (fun r => zrok 219 r) = true := by decide +kernel
theorem zr_220 : (zmc 220).all (fun r => zrok 220 r) = true := by decide +kernel
theorem zr_221 : (zmc 221).all (fun r => zrok 221 r) = true := by decide +kernel
theorem zr_222 : (zmc 222).all (fun r => zrok 222 r) = true := by decide +kernel
theorem zr_223 : (zmc 223).all (fun r => zrok 223 r) = true := by decide +kernel
theorem zr_224 : (zmc 224).all (fun r => zrok 224 r) = true := by decide +kernel
theorem zr_225 : (zmc 225).all (fun r => zrok 225 r) = true := by decide +kernel
theorem zr_226 : (zmc 226).all (fun r => zrok 226 r) = true := by decide +kernel
theorem zr_227 : (zmc 227).all (fun r => zrok 227 r) = true := by decide +kernel
theorem zr_228 : (zmc 228).all (fun r => zrok 228 r) = true := by decide +kernel
theorem zr_229 : (zmc 229).all (fun r => zrok 229 r) = true := by decide +kernel
theorem zr_230 : (zmc 230).all (fun r => zrok 230 r) = true := by decide +kernel
theorem zr_231 : (zmc 231).all (fun r => zrok 231 r) = true := by decide +kernel
theorem zr_232 : (zmc 232).all (fun r => zrok 232 r) = true := by decide +kernel
theorem zr_233 : (zmc 233).all (fun r => zrok 233 r) = true := by decide +kernel
theorem zr_234 : (zmc 234).all (fun r => zrok 234 r) = true := by decide +kernel
theorem zr_235 : (zmc 235).all (fun r => zrok 235 r) = true := by decide +kernel
theorem zr_236 : (zmc 236).all (fun r => zrok 236 r) = true := by decide +kernel
theorem zr_237 : (zmc 237).all (fun r => zrok 237 r) = true := by decide +kernel
theorem zr_238 : (zmc 238).all (fun r => zrok 238 r) = true := by decide +kernel
theorem zr_239 : (zmc 239).all (fun r => zrok 239 r) = true := by decide +kernel
theorem zr_240 : (zmc 240).all (fun r => zrok 240 r) = true := by decide +kernel
theorem zr_241 : (zmc 241).all (fun r => zrok 241 r) = true := by decide +kernel
theorem zr_242 : (zmc 242).all (fun r => zrok 242 r) = true := by decide +kernel
theorem zr_243 : (zmc 243).all (fun r => zrok 243 r) = true := by decide +kernel
theorem zr_244 : (zmc 244).all (fun r => zrok 244 r) = true := by decide +kernel
theorem zr_245 : (zmc 245).all (fun r => zrok 245 r) = true := by decide +kernel
theorem zr_246 : (zmc 246).all (fun r => zrok 246 r) = true := by decide +kernel
theorem zr_247 : (zmc 247).all (fun r => zrok 247 r) = true := by decide +kernel
theorem zr_248 : (zmc 248).all (fun r => zrok 248 r) = true := by decide +kernel
theorem zr_249 : (zmc 249).all (fun r => zrok 249 r) = true := by decide +kernel
theorem zrs_0 : ∀ y ∈ [0, 1, 2, 3, 4, 5, 6, 7, 8, 9, 10, 11, 12, 13, 14, 15, 16, 17, 18, 19, 20, 21, 22, 23, 24, 25, 26, 27, 28, 29, 30, 31, 32, 33, 34, 35, 36, 37, 38, 39, 40], (zmc y).all (fun r => zrok y r) = true := List.forall_mem_cons.mpr ⟨zr_0, List.forall_mem_cons.mpr ⟨zr_1, List.forall_mem_cons.mpr ⟨zr_2, List.forall_mem_cons.mpr ⟨zr_3, List.forall_mem_cons.mpr ⟨zr_4, List.forall_mem_cons.mpr ⟨zr_5, List.forall_mem_cons.mpr ⟨zr_6, List.forall_mem_cons.mpr ⟨zr_7, List.forall_mem_cons.mpr ⟨zr_8, List.forall_mem_cons.mpr ⟨zr_9, List.forall_mem_cons.mpr ⟨zr_10, List.forall_mem_cons.mpr ⟨zr_11, List.forall_mem_cons.mpr ⟨zr_12, List.forall_mem_cons.mpr ⟨zr_13, List.forall_mem_cons.mpr ⟨zr_14, List.forall_mem_cons.mpr ⟨zr_15, List.forall_mem_cons.mpr ⟨zr_16, List.forall_mem_cons.mpr ⟨zr_17, List.forall_mem_cons.mpr ⟨zr_18, List.forall_mem_cons.mpr ⟨zr_19, List.forall_mem_cons.mpr ⟨zr_20, List.forall_mem_cons.mpr ⟨zr_21, List.forall_mem_cons.mpr ⟨zr_22, List.forall_mem_cons.mpr ⟨zr_23, List.forall_mem_cons.mpr ⟨zr_24, List.forall_mem_cons.mpr ⟨zr_25, List.forall_mem_cons.mpr ⟨zr_26, List.forall_mem_cons.mpr ⟨zr_27, List.forall_mem_cons.mpr ⟨zr_28, List.forall_mem_cons.mpr ⟨zr_29, List.forall_mem_cons.mpr ⟨zr_30, List.forall_mem_cons.mpr ⟨zr_31, List.forall_mem_cons.mpr ⟨zr_32, List.forall_mem_cons.mpr ⟨zr_33, List.forall_mem_cons.mpr ⟨zr_34, List.forall_mem_cons.mpr ⟨zr_35, List.forall_mem_cons.mpr ⟨zr_36, List.forall_mem_cons.mpr ⟨zr_37, List.forall_mem_cons.mpr ⟨zr_38, List.forall_mem_cons.mpr ⟨zr_39, List.forall_mem_cons.mpr ⟨zr_40, fun _ h => absurd h List.not_mem_nil⟩⟩⟩⟩⟩⟩⟩⟩⟩⟩⟩⟩⟩⟩⟩⟩⟩⟩⟩⟩⟩⟩⟩⟩⟩⟩⟩⟩⟩⟩⟩⟩⟩⟩⟩⟩⟩⟩⟩⟩⟩
theorem zrs_1 : ∀ y ∈ [41, 42, 43, 44, 45, 46, 47, 48, 49, 50, 51, 52, 53, 54, 55, 56, 57, 58, 59, 60, 61, 62, 63, 64, 65, 66, 67, 68, 69, 70, 71, 72, 73, 74, 75, 76, 77, 78, 79, 80, 81], (zmc y).all (fun r => zrok y r) = true := List.forall_mem_cons.mpr ⟨zr_41, List.forall_mem_cons.mpr ⟨zr_42, List.forall_mem_cons.mpr ⟨zr_43, List.forall_mem_cons.mpr ⟨zr_44, List.forall_mem_cons.mpr ⟨zr_45, List.forall_mem_cons.mpr ⟨zr_46, List.forall_mem_cons.mpr ⟨zr_47, List.forall_mem_cons.mpr ⟨zr_48, List.forall_mem_cons.mpr ⟨zr_49, List.forall_mem_cons.mpr ⟨zr_50, List.forall_mem_cons.mpr ⟨zr_51, List.forall_mem_cons.mpr ⟨zr_52, List.forall_mem_cons.mpr ⟨zr_53, List.forall_mem_cons.mpr ⟨zr_54, List.forall_mem_cons.mpr ⟨zr_55, List.forall_mem_cons.mpr ⟨zr_56, List.forall_mem_cons.mpr ⟨zr_57, List.forall_mem_cons.mpr ⟨zr_58, List.forall_mem_cons.mpr ⟨zr_59, List.forall_mem_cons.mpr ⟨zr_60, List.forall_mem_cons.mpr ⟨zr_61, List.forall_mem_cons.mpr ⟨zr_62, List.forall_mem_cons.mpr ⟨zr_63, List.forall_mem_cons.mpr ⟨zr_64, List.forall_mem_cons.mpr ⟨zr_65, List.forall_mem_cons.mpr ⟨zr_66, List.forall_mem_cons.mpr ⟨zr_67, List.forall_mem_cons.mpr ⟨zr_68, List.forall_mem_cons.mpr ⟨zr_69, List.forall_mem_cons.mpr ⟨zr_70, List.forall_mem_cons.mpr ⟨zr_71, List.forall_mem_cons.mpr ⟨zr_72, List.forall_mem_cons.mpr ⟨zr_73, List.forall_mem_cons.mpr ⟨zr_74, List.forall_mem_cons.mpr ⟨zr_75, List.forall_mem_cons.mpr ⟨zr_76, List.forall_mem_cons.mpr ⟨zr_77, List.forall_mem_cons.mpr ⟨zr_78, List.forall_mem_cons.mpr ⟨zr_79, List.forall_mem_cons.mpr ⟨zr_80, List.forall_mem_cons.mpr ⟨zr_81, fun _ h => absurd h List.not_mem_nil⟩⟩⟩⟩⟩⟩⟩⟩⟩⟩⟩⟩⟩⟩⟩⟩⟩⟩⟩⟩⟩⟩⟩⟩⟩⟩⟩⟩⟩⟩⟩⟩⟩⟩⟩⟩⟩⟩⟩⟩⟩
theorem zrs_2 : ∀ y ∈ [82, 83, 84, 85, 86, 87, 88, 89, 90, 91, 92, 93, 94, 95, 96, 97, 98, 99, 100, 101, 102, 103, 104, 105, 106, 107, 108, 109, 110, 111, 112, 113, 114, 115, 116, 117, 118, 119, 120, 121, 122], (zmc y).all (fun r => zrok y r) = true := List.forall_mem_cons.mpr ⟨zr_82, List.forall_mem_cons.mpr ⟨zr_83, List.forall_mem_cons.mpr ⟨zr_84, List.forall_mem_cons.mpr ⟨zr_85, List.forall_mem_cons.mpr ⟨zr_86, List.forall_mem_cons.mpr ⟨zr_87, List.forall_mem_cons.mpr ⟨zr_88, List.forall_mem_cons.mpr ⟨zr_89, List.forall_mem_cons.mpr ⟨zr_90, List.forall_mem_cons.mpr ⟨zr_91, List.forall_mem_cons.mpr ⟨zr_92, List.forall_mem_cons.mpr ⟨zr_93, List.forall_mem_cons.mpr ⟨zr_94, List.forall_mem_cons.mpr ⟨zr_95, List.forall_mem_cons.mpr ⟨zr_96, List.forall_mem_cons.mpr ⟨zr_97, List.forall_mem_cons.mpr ⟨zr_98, List.forall_mem_cons.mpr ⟨zr_99, List.forall_mem_cons.mpr ⟨zr_100, List.forall_mem_cons.mpr ⟨zr_101, List.forall_mem_cons.mpr ⟨zr_102, List.forall_mem_cons.mpr ⟨zr_103, List.forall_mem_cons.mpr ⟨zr_104, List.forall_mem_cons.mpr ⟨zr_105, List.forall_mem_cons.mpr ⟨zr_106, List.forall_mem_cons.mpr ⟨zr_107, List.forall_mem_cons.mpr ⟨zr_108, List.forall_mem_cons.mpr ⟨zr_109, List.forall_mem_cons.mpr ⟨zr_110, List.forall_mem_cons.mpr ⟨zr_111, List.forall_mem_cons.mpr ⟨zr_112, List.forall_mem_cons.mpr ⟨zr_113, List.forall_mem_cons.mpr ⟨zr_114, List.forall_mem_cons.mpr ⟨zr_115, List.forall_mem_cons.mpr ⟨zr_116, List.forall_mem_cons.mpr ⟨zr_117, List.forall_mem_cons.mpr ⟨zr_118, List.forall_mem_cons.mpr ⟨zr_119, List.forall_mem_cons.mpr ⟨zr_120, List.forall_mem_cons.mpr ⟨zr_121, List.forall_mem_cons.mpr ⟨zr_122, fun _ h => absurd h List.not_mem_nil⟩⟩⟩⟩⟩⟩⟩⟩⟩⟩⟩⟩⟩⟩⟩⟩⟩⟩⟩⟩⟩⟩⟩⟩⟩⟩⟩⟩⟩⟩⟩⟩⟩⟩⟩⟩⟩⟩⟩⟩⟩
theorem zrs_3 : ∀ y ∈ [123, 124, 125, 126, 127, 128, 129, 130, 131, 132, 133, 134, 135, 136, 137, 138, 139, 140, 141, 142, 143, 144, 145, 146, 147, 148, 149, 150, 151, 152, 153, 154, 155, 156, 157, 158, 159, 160, 161, 162, 163], (zmc y).all (fun r => zrok y r) = true := List.forall_mem_cons.mpr ⟨zr_123, List.forall_mem_cons.mpr ⟨zr_124, List.forall_mem_cons.mpr ⟨zr_125, List.forall_mem_cons.mpr ⟨zr_126, List.forall_mem_cons.mpr ⟨zr_127, List.forall_mem_cons.mpr ⟨zr_128, List.forall_mem_cons.mpr ⟨zr_129, List.forall_mem_cons.mpr ⟨zr_130, List.forall_mem_cons.mpr ⟨zr_131, List.forall_mem_cons.mpr ⟨zr_132, List.forall_mem_cons.mpr ⟨zr_133, List.forall_mem_cons.mpr ⟨zr_134, List.forall_mem_cons.mpr ⟨zr_135, List.forall_mem_cons.mpr ⟨zr_136, List.forall_mem_cons.mpr ⟨zr_137, List.forall_mem_cons.mpr ⟨zr_138, List.forall_mem_cons.mpr ⟨zr_139, List.forall_mem_cons.mpr ⟨zr_140, List.forall_mem_cons.mpr ⟨zr_141, List.forall_mem_cons.mpr ⟨zr_142, List.forall_mem_cons.mpr ⟨zr_143, List.forall_mem_cons.mpr ⟨zr_144, List.forall_mem_cons.mpr ⟨zr_145, List.forall_mem_cons.mpr ⟨zr_146, List.forall_mem_cons.mpr ⟨zr_147, List.forall_mem_cons.mpr ⟨zr_148, List.forall_mem_cons.mpr ⟨zr_149, List.forall_mem_cons.mpr ⟨zr_150, List.forall_mem_cons.mpr ⟨zr_151, List.forall_mem_cons.mpr ⟨zr_152, List.forall_mem_cons.mpr ⟨zr_153, List.forall_mem_cons.mpr ⟨zr_154, List.forall_mem_cons.mpr ⟨zr_155, List.forall_mem_cons.mpr ⟨zr_156, List.forall_mem_cons.mpr ⟨zr_157, List.forall_mem_cons.mpr ⟨zr_158, List.forall_mem_cons.mpr ⟨zr_159, List.forall_mem_cons.mpr ⟨zr_160, List.forall_mem_cons.mpr ⟨zr_161, List.forall_mem_cons.mpr ⟨zr_162, List.forall_mem_cons.mpr ⟨zr_163, fun _ h => absurd h List.not_mem_nil⟩⟩⟩⟩⟩⟩⟩⟩⟩⟩⟩⟩⟩⟩⟩⟩⟩⟩⟩⟩⟩⟩⟩⟩⟩⟩⟩⟩⟩⟩⟩⟩⟩⟩⟩⟩⟩⟩⟩⟩⟩
theorem zrs_4 : ∀ y ∈ [164, 165, 166, 167, 168, 169, 170, 171, 172, 173, 174, 175, 176, 177, 178, 179, 180, 181, 182, 183, 184, 185, 186, 187, 188, 189, 190, 191, 192, 193, 194, 195, 196, 197, 198, 199, 200, 201, 202, 203, 204], (zmc y).all (fun r => zrok y r) = true := List.forall_mem_cons.mpr ⟨zr_164, List.forall_mem_cons.mpr ⟨zr_165, List.forall_mem_cons.mpr ⟨zr_166, List.forall_mem_cons.mpr ⟨zr_167, List.forall_mem_cons.mpr ⟨zr_168, List.forall_mem_cons.mpr ⟨zr_169, List.forall_mem_cons.mpr ⟨zr_170, List.forall_mem_cons.mpr ⟨zr_171, List.forall_mem_cons.mpr ⟨zr_172, List.forall_mem_cons.mpr ⟨zr_173, List.forall_mem_cons.mpr ⟨zr_174, List.forall_mem_cons.mpr ⟨zr_175, List.forall_mem_cons.mpr ⟨zr_176, List.forall_mem_cons.mpr ⟨zr_177, List.forall_mem_cons.mpr ⟨zr_178, List.forall_mem_cons.mpr ⟨zr_179, List.forall_mem_cons.mpr ⟨zr_180, List.forall_mem_cons.mpr ⟨zr_181, List.forall_mem_cons.mpr ⟨zr_182, List.forall_mem_cons.mpr ⟨zr_183, List.forall_mem_cons.mpr ⟨zr_184, List.forall_mem_cons.mpr ⟨zr_185, List.forall_mem_cons.mpr ⟨zr_186, List.forall_mem_cons.mpr ⟨zr_187, List.forall_mem_cons.mpr ⟨zr_188, List.forall_mem_cons.mpr ⟨zr_189, List.forall_mem_cons.mpr ⟨zr_190, List.forall_mem_cons.mpr ⟨zr_191, List.forall_mem_cons.mpr ⟨zr_192, List.forall_mem_cons.mpr ⟨zr_193, List.forall_mem_cons.mpr ⟨zr_194, List.forall_mem_cons.mpr ⟨zr_195, List.forall_mem_cons.mpr ⟨zr_196, List.forall_mem_cons.mpr ⟨zr_197, List.forall_mem_cons.mpr ⟨zr_198, List.forall_mem_cons.mpr ⟨zr_199, List.forall_mem_cons.mpr ⟨zr_200, List.forall_mem_cons.mpr ⟨zr_201, List.forall_mem_cons.mpr ⟨zr_202, List.forall_mem_cons.mpr ⟨zr_203, List.forall_mem_cons.mpr ⟨zr_204, fun _ h => absurd h List.not_mem_nil⟩⟩⟩⟩⟩⟩⟩⟩⟩⟩⟩⟩⟩⟩⟩⟩⟩⟩⟩⟩⟩⟩⟩⟩⟩⟩⟩⟩⟩⟩⟩⟩⟩⟩⟩⟩⟩⟩⟩⟩⟩
theorem zrs_5 : ∀ y ∈ [205, 206, 207, 208, 209, 210, 211, 212, 213, 214, 215, 216, 217, 218, 219, 220, 221, 222, 223, 224, 225, 226, 227, 228, 229, 230, 231, 232, 233, 234, 235, 236, 237, 238, 239, 240, 241, 242, 243, 244, 245], (zmc y).all (fun r => zrok y r) = true := List.forall_mem_cons.mpr ⟨zr_205, List.forall_mem_cons.mpr ⟨zr_206, List.forall_mem_cons.mpr ⟨zr_207, List.forall_mem_cons.mpr ⟨zr_208, List.forall_mem_cons.mpr ⟨zr_209, List.forall_mem_cons.mpr ⟨zr_210, List.forall_mem_cons.mpr ⟨zr_211, List.forall_mem_cons.mpr ⟨zr_212, List.forall_mem_cons.mpr ⟨zr_213, List.forall_mem_cons.mpr ⟨zr_214, List.forall_mem_cons.mpr ⟨zr_215, List.forall_mem_cons.mpr ⟨zr_216, List.forall_mem_cons.mpr ⟨zr_217, List.forall_mem_cons.mpr ⟨zr_218, List.forall_mem_cons.mpr ⟨zr_219, List.forall_mem_cons.mpr ⟨zr_220, List.forall_mem_cons.mpr ⟨zr_221, List.forall_mem_cons.mpr ⟨zr_222, List.forall_mem_cons.mpr ⟨zr_223, List.forall_mem_cons.mpr ⟨zr_224, List.forall_mem_cons.mpr ⟨zr_225, List.forall_mem_cons.mpr ⟨zr_226, List.forall_mem_cons.mpr ⟨zr_227, List.forall_mem_cons.mpr ⟨zr_228, List.forall_mem_cons.mpr ⟨zr_229, List.forall_mem_cons.mpr ⟨zr_230, List.forall_mem_cons.mpr ⟨zr_231, List.forall_mem_cons.mpr ⟨zr_232, List.forall_mem_cons.mpr ⟨zr_233, List.forall_mem_cons.mpr ⟨zr_234, List.forall_mem_cons.mpr ⟨zr_235, List.forall_mem_cons.mpr ⟨zr_236, List.forall_mem_cons.mpr ⟨zr_237, List.forall_mem_cons.mpr ⟨zr_238, List.forall_mem_cons.mpr ⟨zr_239, List.forall_mem_cons.mpr ⟨zr_240, List.forall_mem_cons.mpr ⟨zr_241, List.forall_mem_cons.mpr ⟨zr_242, List.forall_mem_cons.mpr ⟨zr_243, List.forall_mem_cons.mpr ⟨zr_244, List.forall_mem_cons.mpr ⟨zr_245, fun _ h => absurd h List.not_mem_nil⟩⟩⟩⟩⟩⟩⟩⟩⟩⟩⟩⟩⟩⟩⟩⟩⟩⟩⟩⟩⟩⟩⟩⟩⟩⟩⟩⟩⟩⟩⟩⟩⟩⟩⟩⟩⟩⟩⟩⟩⟩
theorem zrs_6 : ∀ y ∈ [246, 247, 248, 249], (zmc y).all (fun r => zrok y r) = true := List.forall_mem_cons.mpr ⟨zr_246, List.forall_mem_cons.mpr ⟨zr_247, List.forall_mem_cons.mpr ⟨zr_248, List.forall_mem_cons.mpr ⟨zr_249, fun _ h => absurd h List.not_mem_nil⟩⟩⟩⟩
end
section
set_option maxRecDepth 20000 in
theorem zrows_ok (y : Nat) : ∀ r ∈ zmc y, zrok y r = true := by
  intro r hr
  by_cases h : y < 250
  · have e : (List.range 250).all (fun y => decide (y ∈ ([0, 1, 2, 3, 4, 5, 6, 7, 8, 9, 10, 11, 12, 13, 14, 15, 16, 17, 18, 19, 20, 21, 22, 23, 24, 25, 26, 27, 28, 29, 30, 31, 32, 33, 34, 35, 36, 37, 38, 39, 40] : List Nat) ++ ([41, 42, 43, 44, 45, 46, 47, 48, 49, 50, 51, 52, 53, 54, 55, 56, 57, 58, 59, 60, 61, 62, 63, 64, 65, 66, 67, 68, 69, 70, 71, 72, 73, 74, 75, 76, 77, 78, 79, 80, 81] : List Nat) ++ ([82, 83, 84, 85, 86, 87, 88, 89, 90, 91, 92, 93, 94, 95, 96, 97, 98, 99, 100, 101, 102, 103, 104, 105, 106, 107, 108, 109, 110, 111, 112, 113, 114, 115, 116, 117, 118, 119, 120, 121, 122] : List Nat) ++ ([123, 124, 125, 126, 127, 128, 129, 130, 131, 132, 133, 134, 135, 136, 137, 138, 139, 140, 141, 142, 143, 144, 145, 146, 147, 148, 149, 150, 151, 152, 153, 154, 155, 156, 157, 158, 159, 160, 161, 162, 163] : List Nat) ++ ([164, 165, 166, 167, 168, 169, 170, 171, 172, 173, 174, 175, 176, 177, 178, 179, 180, 181, 182, 183, 184, 185, 186, 187, 188, 189, 190, 191, 192, 193, 194, 195, 196, 197, 198, 199, 200, 201, 202, 203, 204] : List Nat) ++ ([205, 206, 207, 208, 209, 210, 211, 212, 213, 214, 215, 216, 217, 218, 219, 220, 221, 222, 223, 224, 225, 226, 227, 228, 229, 230, 231, 232, 233, 234, 235, 236, 237, 238, 239, 240, 241, 242, 243, 244, 245] : List Nat) ++ ([246, 247, 248, 249] : List Nat))) = true := by decide +kernel
    have h3 := of_decide_eq_true (List.all_eq_true.mp e y (List.mem_range.mpr h))
    exact List.all_eq_true.mp ((List.forall_mem_append.mpr ⟨List.forall_mem_append.mpr ⟨List.forall_mem_append.mpr ⟨List.forall_mem_append.mpr ⟨List.forall_mem_append.mpr ⟨List.forall_mem_append.mpr ⟨zrs_0, zrs_1⟩, zrs_2⟩, zrs_3⟩, zrs_4⟩, zrs_5⟩, zrs_6⟩) y h3) r hr
  · have e : zmc y = [] := by
      unfold zmc
      rw [List.getD_eq_getElem?_getD, List.getElem?_eq_none (Nat.not_lt.mp h)]
      rfl
    rw [e] at hr
    cases hr
end
section
/-! Runs of the abstract machine. -/
abbrev zO : Type := (Option Value ⊕ Nat) × zH × Nat × Nat
def zat : List zRow → Nat → Option (Instr × Nat × Nat × Nat × Nat × Nat)
  | [], _ => none
  | (q, x) :: r, pc => if q = pc then some x else zat r pc
def zex : List Value → zL
  | [] => []
  | v :: r => if zcat v then some v :: none :: zex r else some v :: zex r
def zen (nL : Nat) (as : List Value) : Option zL := if (zex as).length ≤ nL then some (zex as ++ List.replicate (nL - (zex as).length) none) else none
def zhf : List (Nat × Nat × Nat × Nat) → Nat → Nat → Option Nat
  | [], _, _ => none
  | (a, b, hp, ct) :: r, pc, E => if a ≤ pc ∧ pc < b ∧ zhe ct = E then some hp else zhf r pc E
def zkill (j : Nat) (L : zL) : Option zL := match zst1 .null j L with
  | some L1 => some (L1.set j none)
  | none => none
def zcatch (y pc E : Nat) (L : zL) : Option (Nat × zL) := match zhf (zmh y) pc E with
  | some hp => match zat (zmc y) hp with
    | some (.astore j, nx, _) => match zkill j L with
      | some L1 => some (nx, L1)
      | none => none
    | some (.astore_n j, nx, _) => match zkill j L with
      | some L1 => some (nx, L1)
      | none => none
    | _ => none
  | none => none
def zev (xs : List Int32) : Nat → Nat → Nat → Nat → zL → List Value → zH → Nat → Nat → Option zO
  | 0, _, _, _, _, _, _, _, _ => none
  | n + 1, d, y, pc, L, st, h, nc, ns => match zat (zmc y) pc with
    | none => none
    | some (i, nx, k, yy, n9, c) => match zstep zcf xs pc i nx k yy n9 c L st h with
      | none => none
      | some (.inl (pc', L', st', h', dc, ds)) => zev xs n d y pc' L' st' h' (nc + dc) (ns + ds)
      | some (.inr (.inr (r, dc, ds))) => some (r, h, nc + dc, ns + ds)
      | some (.inr (.inl (y', as, r, nx'))) => match d with
        | 0 => none
        | d' + 1 => match zen (zmL y') as with
          | none => none
          | some L0 => match zev xs n d' y' 0 L0 [] h nc ns with
            | some (.inl v, h', nc', ns') => zev xs n (d' + 1) y nx' L (v.toList ++ r) h' nc' ns'
            | some (.inr E, h', nc', ns') => match zmh y with
              | [] => some (.inr E, h', nc', ns')
              | _ :: _ => match zcatch y pc E L with
                | some (pc2, L2) => zev xs n (d' + 1) y pc2 L2 [] h' nc' ns'
                | none => none
            | none => none
theorem zat_mem {pc : Nat} {x : Instr × Nat × Nat × Nat × Nat × Nat} : ∀ {l : List zRow}, zat l pc = some x → (pc, x) ∈ l
  | [], h => by cases (show none = some x from h)
  | (q, x') :: r, h => by
    unfold zat at h
    split at h
    · next e =>
      subst e
      cases h
      exact List.mem_cons_self
    · exact List.mem_cons_of_mem _ (zat_mem h)
theorem zev_mono {xs : List Int32} : ∀ (n d y pc : Nat) (L : zL) (st : List Value) (h : zH) (nc ns : Nat) (r : Option Value ⊕ Nat) (h' : zH) (nc' ns' : Nat), zev xs n d y pc L st h nc ns = some (r, h', nc', ns') → nc ≤ nc' ∧ ns ≤ ns'
  | 0, d, y, pc, L, st, h, nc, ns, r, h', nc', ns', e => by cases (show none = some _ from e)
  | n + 1, d, y, pc, L, st, h, nc, ns, r, h', nc', ns', e => by
    unfold zev at e
    split at e
    · cases e
    · split at e
      · cases e
      · have := zev_mono n _ _ _ _ _ _ _ _ _ _ _ _ e
        omega
      · cases e
        omega
      · split at e
        · cases e
        · split at e
          · cases e
          · split at e
            · next e1 =>
              have h1 := zev_mono n _ _ _ _ _ _ _ _ _ _ _ _ e1
              have h2 := zev_mono n _ _ _ _ _ _ _ _ _ _ _ _ e
              omega
            · next e1 =>
              have h1 := zev_mono n _ _ _ _ _ _ _ _ _ _ _ _ e1
              split at e
              · cases e
                exact h1
              · split at e
                · have h2 := zev_mono n _ _ _ _ _ _ _ _ _ _ _ _ e
                  omega
                · cases e
            · cases e
end
section
/-! A run of the abstract machine is a run of the machine. -/
def zrm (d mc ms : Nat) : Room := { frames := d + 30, cells := mc, slots := ms, locals := 40 * d + 3280 }
def zVo (sp : Nat → Nat) (ads : List Nat) (v v' : Option Value) : Prop := match v with
  | none => v' = none
  | some w => ∃ w', v' = some w' ∧ zV sp ads w w'
def zEnd (sp : Nat → Nat) (ty : Nat → ClassId) (D : va_G) (A : Nat → Prop) (ads : List Nat) (h : zH) (t : State) : Prop :=
  ∃ ws : va_W, va_P D zcl ws t.heap ∧ va_D A ws ∧ ws.map (fun q => q.1) = ads ∧ h.length = ws.length ∧ ∀ (k : Nat) (c : Nat × List Value) (q : Nat × va_E), h[k]? = some c → ws[k]? = some q → zC sp ty ads c q.2
def zQc (sp : Nat → Nat) (ty : Nat → ClassId) (D : va_G) (A : Nat → Prop) (ads : List Nat) (r : Option Value ⊕ Nat) (h' : zH) : Array Value → State → Outcome → State → Prop := fun _ st oc t =>
  (∃ (v v' : Option Value) (q : List Nat), r = .inl v ∧ oc = .returned v' ∧ zVo sp (ads ++ q) v v' ∧ zEnd sp ty D A (ads ++ q) h' t) ∧ va_F A st t
def zXC (sp : Nat → Nat) (ty : Nat → ClassId) (D : va_G) (A : Nat → Prop) (ads : List Nat) (r : Option Value ⊕ Nat) (h' : zH) : String → State → State → Prop := fun E st t =>
  (∃ (k : Nat) (q : List Nat), r = .inr k ∧ E = zEn k ∧ zEnd sp ty D A (ads ++ q) h' t) ∧ va_F A st t
def zws (y : Nat) : List Jvm.Cond := (match zmh y with
  | [] => .code (zmn y) (zmb y) (zmL y) (zmr y)
  | _ => .codeWith (zmn y) (zmb y) (zmL y) (zmr y) (zmh y)) :: zB
theorem zB_good : GoodIn zB zB := fun w h => ⟨h, good_of_word (zB_gw h)⟩
theorem zws_good {y : Nat} (h : zMok y) : GoodIn zB (zws y) := by
  intro w hw
  rcases List.mem_cons.mp hw with rfl | hw
  · rcases h.1 with ⟨e, hm⟩ | ⟨e, hm⟩
    · rw [e]
      exact zB_good _ hm
    · split
      · next e2 => exact absurd e2 e
      · exact zB_good _ hm
  · exact zB_good _ hw
theorem zex_len {sp : Nat → Nat} {ads : List Nat} : ∀ {as as' : List Value}, zS sp ads as as' → (lg_sl as').length = (zex as).length
  | [], _, h => by cases (show _ = [] from h); rfl
  | v :: as, _, ⟨v', r', rfl, h2, h3⟩ => by
    have ih := zex_len h3
    unfold lg_sl at ih ⊢
    rw [List.flatMap_cons, List.length_append, ih, zV_cat h2]
    show _ = (if zcat v then some v :: none :: zex as else some v :: zex as).length
    cases zcat v <;> simp <;> omega
theorem zex_at {sp : Nat → Nat} {ads : List Nat} : ∀ {as as' : List Value}, zS sp ads as as' → ∀ (i0 j : Nat) (v : Value), (zex as)[j]? = some (some v) → ∃ v', zV sp ads v v' ∧ (i0 + j, v') ∈ lv_args i0 as'
  | [], _, h, i0, j, v, hj => by
    unfold zex at hj
    simp at hj
  | w :: as, _, ⟨w', r', rfl, h2, h3⟩, i0, j, v, hj => by
    unfold zex at hj
    unfold lv_args
    rw [zV_cat h2]
    cases hc : zcat w with
    | false =>
      rw [hc] at hj
      simp only [Bool.false_eq_true, if_false] at hj ⊢
      cases j with
      | zero =>
        cases hj
        exact ⟨w', h2, List.mem_cons_self⟩
      | succ j =>
        obtain ⟨v', a, b⟩ := zex_at h3 (i0 + 1) j v hj
        refine ⟨v', a, List.mem_cons_of_mem _ ?_⟩
        rw [show i0 + (j + 1) = i0 + 1 + j by omega]
        simpa using b
    | true =>
      rw [hc] at hj
      simp only [if_true] at hj ⊢
      match j, hj with
      | 0, hj =>
        cases hj
        exact ⟨w', h2, List.mem_cons_self⟩
      | 1, hj => cases hj
      | j + 2, hj =>
        obtain ⟨v', a, b⟩ := zex_at h3 (i0 + 2) j v hj
        refine ⟨v', a, List.mem_cons_of_mem _ ?_⟩
        rw [show i0 + (j + 2) = i0 + 2 + j by omega]
        simpa using b
theorem zen_ok {sp : Nat → Nat} {ads : List Nat} {as as' : List Value} {nL : Nat} {L0 : zL} (h : zS sp ads as as') (he : zen nL as = some L0) : zLR sp ads L0 ((lg_sl as' ++ List.replicate (nL - (lg_sl as').length) Slot.unset).toArray) nL := by
  unfold zen at he
  split at he
  · next hl =>
    cases he
    refine ⟨by simp; omega, _, lv_entry as' (by rw [zex_len h]; exact hl), fun i v hi => ?_⟩
    by_cases hj : i < (zex as).length
    · rw [List.getElem?_append_left hj] at hi
      obtain ⟨v', a, b⟩ := zex_at h 0 i v hi
      rw [Nat.zero_add] at b
      exact ⟨v', a, b⟩
    · rw [List.getElem?_append_right (by omega)] at hi
      have := List.mem_of_getElem? hi
      cases List.eq_of_mem_replicate this
  · cases he
section ZQ
variable {p : Program} {l : Launch} {e : Env} {R : Room} {s : State} {m : MethodId} {args : Array Value} {below : List Frame} {meth : Method} {c : Code} {H : Heap} {locs : List Loc} {cells slots : Nat} {Q : State → Prop}
variable {xs : List Int32} {sp : Nat → Nat} {ty : Nat → ClassId} {D : va_G} {A A1 : Nat → Prop} {ads : List Nat}
variable {pc : Nat} {h1 : zH} {ls : Array Slot} {st0 rest : List Value} {mc ms : Nat} {r : Option Value ⊕ Nat} {a9 : Array Value}
theorem zEnd_W {t : State} {H1 : Heap} {locs1 : List Loc} (h : zEnd sp ty D A1 ads h1 t) (hA : ∀ q, A1 q → A q) (ht : t.heap = H1) (hS : va_S A s.heap H1 locs1) : zW sp ty D A s.heap ads h1 H1 locs1 := by
  obtain ⟨ws, w1, w2, w4, w5, w6⟩ := h
  rw [ht] at w1
  exact ⟨ws, w1, w2.weaken (fun k q _ g => hA _ g), hS, w4, w5, w6⟩
/-- behind a call -/
theorem z_callW {len : Nat} (hr : ∀ T : State, T.heap = H → Stand p l e R s m args below meth c T locs cells slots →
    (∃ (v : Option Value) (st₀ t T' : State) (L : List Loc), st₀.heap = H ∧ Stand p l e R s m args below meth c T' (locs ++ L) (cells + mc) (slots + ms) ∧ (∀ q ∈ L, A1 q.base) ∧ T'.heap = t.heap ∧ T'.vm = t.vm ∧ zQc sp ty D A1 ads r h1 a9 st₀ (.returned v) t ∧
      Goes p e below T (F0 m pc ls st0) T' (F0 m (pc + len) ls (v.toList ++ rest))) ∨
    (∃ (q : Addr) (st₀ t T' : State) (L : List Loc) (E : String) (ce : Cell), st₀.heap = H ∧ Stand p l e R s m args below meth c T' (locs ++ L) (cells + mc) (slots + ms) ∧ (∀ z ∈ L, A1 z.base) ∧ T'.heap = t.heap ∧ T'.vm = t.vm ∧ zXC sp ty D A1 ads r h1 E st₀ t ∧ t.heap[q]? = some ce ∧ ce.vm = .none ∧ s.vm.findClass E = some ce.cls ∧
      Steps p.tables e below (T.setTop (F0 m pc ls st0)) ((T'.setTop (F0 m pc ls rest)).pushFrame (.throwing q)))) (hS : va_S A s.heap H locs) (hA : ∀ q, A1 q → A q)
    (kk : ∀ (v v' : Option Value) (q : List Nat) (H1 : Heap) (locs1 : List Loc), r = .inl v → zVo sp (ads ++ q) v v' → zW sp ty D A s.heap (ads ++ q) h1 H1 locs1 → W p l e R s m args below meth c H1 locs1 (cells + mc) (slots + ms) Q (F0 m (pc + len) ls (v'.toList ++ rest)))
    (kx : ∀ (k q9 : Nat) (ce : Cell) (q : List Nat) (H1 : Heap) (locs1 : List Loc), r = .inr k → zW sp ty D A s.heap (ads ++ q) h1 H1 locs1 → H1[q9]? = some ce → ce.vm = .none → s.vm.findClass (zEn k) = some ce.cls → vx_W p l e R s m args below meth c H1 locs1 (cells + mc) (slots + ms) Q (F0 m pc ls rest) q9) :
    W p l e R s m args below meth c H locs cells slots Q (F0 m pc ls st0) := by
  intro T hT X
  rcases hr T hT X with ⟨v9, st₀, t, T', L, h0, X', hL, e1, e2, ⟨⟨v, v', q, hv, ho, hV, hE⟩, hF⟩, st⟩ | ⟨q9, st₀, t, T', L, E, ce, h0, X', hL, e1, e2, ⟨⟨k, q, hv, rfl, hE⟩, hF⟩, hce, hcv, hcl, st⟩
  · cases ho
    obtain ⟨k1, k2, k3⟩ := vx_keep h0 e1 hS (fun q _ g => hA q g) hA hL hF
    obtain ⟨t2, a1, b1⟩ := kk v v9 q T'.heap (locs ++ L) hv hV (zEnd_W hE hA e1.symm k3) T' rfl X'
    exact ⟨t2, st t2 a1, b1⟩
  · obtain ⟨k1, k2, k3⟩ := vx_keep h0 e1 hS (fun q _ g => hA q g) hA hL hF
    obtain ⟨t2, a1, b1⟩ := kx k q9 ce q T'.heap (locs ++ L) hv (zEnd_W hE hA e1.symm k3) (by rw [e1]; exact hce) hcv hcl T' rfl X'
    exact ⟨t2, st.trans a1, b1⟩
/-- what is known of the special addresses goes on into a call -/
theorem zSP_call {A' : Nat → Prop} {U : State} (h : zSP xs sp A s) (hS : va_S A s.heap H locs) (hW : s.WarmedH U.vm) (hU : U.heap = H) (hA : ∀ q, A' q → A q) : zSP xs sp A' U := by
  obtain ⟨a1, ⟨a2, a3⟩, a4, ⟨a5, a6, a7⟩, b1, b2, b3⟩ := h
  have b4 := zSJ_call b3 hS hW hU hA
  subst hU
  refine ⟨zN_warm hW a1, ⟨((a2.kept hS.2.1).moved hW.alike).narrow hA, ((a3.kept hS.2.1).moved hW.alike).narrow hA⟩, fun q hq => ?_, ⟨va_X.moved hW.alike (a5.kept (hS.2.1 _ a6 a7)), Nat.lt_of_lt_of_le a6 hS.1, fun z => a7 (hA _ z)⟩, zN2_warm hW b1, fun q hq => va_Nc.moved hW.alike (b2 q hq), b4⟩
  obtain ⟨sa, g⟩ := a4 q hq
  exact ⟨sa, vk_R.warm hW g⟩
theorem zSP_blind {U : State} {g : JFrame} {mk : MethodId} {a : Array Value} (h : zSP xs sp A U) : zSP xs sp A (U.calling g mk a) :=
  zSP_call (s := U) (A := A) (A' := A) (H := U.heap) (locs := []) h va_S.rf (State.WarmedH.refl U) rfl (fun _ h => h)
/-- a callee's start -/
def zPre (xs : List Int32) (sp : Nat → Nat) (ty : Nat → ClassId) (D : va_G) (ws : va_W) (sz : Nat) : State → Prop := fun U => U.heap.size = sz ∧ va_P D zcl ws U.heap ∧ va_K D zcl (ztys ty) U ∧ va_D (fun _ => True) ws ∧ zSP xs sp (va_A ws sz) U
theorem zPre_blind {ws : va_W} {sz : Nat} {av : List Value} : FrameBlind (va_Pc av (zPre xs sp ty D ws sz)) := by
  rintro a U g mk ⟨rfl, q1, q2, q3, q4, q5⟩
  exact ⟨rfl, q1, q2, va_K.moved (u := U) (U := U.calling g mk _) (Vm.Alike.refl U.vm) q3, q4, zSP_blind q5⟩
theorem zPre_at {ws : va_W} {av : List Value} {U : State} (hK : va_K D zcl (ztys ty) s) (hSP : zSP xs sp A s) (hP : va_P D zcl ws H) (hD : va_D A ws) (hS : va_S A s.heap H locs) (hA : ∀ q, s.heap.size ≤ q → A q) (hU : U.heap = H) (hW : s.WarmedH U.vm) : va_Pc av (zPre xs sp ty D ws H.size) av.toArray U := by
  refine ⟨rfl, by rw [hU], by rw [hU]; exact hP, va_K.moved hW.alike hK, hD.weaken (fun _ _ _ _ => trivial), zSP_call hSP hS hW hU (fun q g => ?_)⟩
  rcases g with ⟨k, e, g⟩ | g
  · exact hD.2 k _ g
  · exact hA q (Nat.le_trans hS.1 g)
end ZQ
end
section
/-- a method's run from its entry, as a contract -/
def zIH (xs : List Int32) (n : Nat) : Prop := ∀ (d y : Nat) (as : List Value) (L0 : zL) (h : zH) (nc ns : Nat) (r : Option Value ⊕ Nat) (h' : zH) (nc' ns' : Nat), y < 250 → y ≠ zlaw → zen (zmL y) as = some L0 → zev xs n d y 0 L0 [] h nc ns = some (r, h', nc', ns') →
  ∀ (l : Launch), l.stackTraces = false → ∀ (sp : Nat → Nat) (ty : Nat → ClassId) (D : va_G) (ws : va_W) (as' : List Value) (sz : Nat), zS sp (ws.map (fun q => q.1)) as as' → h.length = ws.length → (∀ (k : Nat) (c : Nat × List Value) (q : Nat × va_E), h[k]? = some c → ws[k]? = some q → zC sp ty (ws.map (fun q => q.1)) c q.2) →
  vx_Met l (zmn y) (zws y) (zrm d (nc' - nc) (ns' - ns)) (va_Pc as' (zPre xs sp ty D ws sz)) (zQc sp ty D (va_A ws sz) (ws.map (fun q => q.1)) r h') (zXC sp ty D (va_A ws sz) (ws.map (fun q => q.1)) r h') (nc' - nc) (ns' - ns) (va_A ws sz)
theorem zrm_loc {d mc ms mc0 ms0 k : Nat} (h : k ≤ 20) : 8 + (k + 11) + (zrm d mc ms).locals ≤ (zrm (d + 1) mc0 ms0).locals := by
  unfold zrm
  dsimp only
  omega
section ZP
variable {p : Program} {l : Launch} {e : Env} {s : State} {m : MethodId} {args : Array Value} {below : List Frame} {meth : Method} {c : Code} {H : Heap} {locs : List Loc} {cells slots : Nat} {Q : State → Prop}
variable {xs : List Int32} {sp : Nat → Nat} {ty : Nat → ClassId} {D : va_G} {A : Nat → Prop} {ads : List Nat}
variable {n d y y' idx n9 pc mc0 ms0 : Nat} {L L0 : zL} {st as rr str : List Value} {h h1 : zH} {ls : Array Slot} {r : Option Value ⊕ Nat} {nc ns nc1 ns1 : Nat}
theorem zM_facts (hy : zMok y') : (Jvm.Cond.initialized (zmn y').cls ∈ zB) ∧ ((zmn y').cls ≠ "java/lang/invoke/MethodHandle" ∧ (zmn y').cls ≠ "java/lang/invoke/VarHandle") ∧ (parseMethodDescriptor (zmn y').desc).map (fun d => d.parameters.length) = some (zmp y') ∧ zmL y' ≤ 20 ∧ plainName (zmn y').cls = true := by
  obtain ⟨-, h1, -, h2, h3, h4⟩ := hy
  obtain ⟨g1, g2, g3⟩ := Bundle.fit_spec h2
  exact ⟨h1, ⟨g2, g3⟩, h3, h4, g1⟩
theorem z_wA {ws : va_W} (w2 : va_D A ws) (w3 : va_S A s.heap H locs) (hA : ∀ q, s.heap.size ≤ q → A q) : ∀ q, va_A ws H.size q → A q := by
  intro q g
  rcases g with ⟨k, e, g⟩ | g
  · exact w2.2 k _ g
  · exact hA q (Nat.le_trans w3.1 g)
theorem z_callS (IH : zIH xs n) (hl9 : l.stackTraces = false) (hX : zX xs sp ty D A y p (zrm (d + 1) mc0 ms0) s m args meth c) (hl : zSok (zmo y, idx, y')) (hy1 : y' < 250) (hy2 : y' ≠ zlaw) (hdg : decode (zmb y) pc = .ok (.invokestatic idx, 3)) (hn : zmp y' = n9) (hpop : ztk n9 [] st = some (as, rr)) (hcs : zcs rr ≤ 8) (hen : zen (zmL y') as = some L0) (hev : zev xs n d y' 0 L0 [] h nc ns = some (r, h1, nc1, ns1))
    (I : zR sp ty D A s.heap (zmL y) ads L st h ls str H locs) (hc : cells + (nc1 - nc) ≤ mc0) (hs : slots + (ns1 - ns) ≤ ms0)
    (kk : ∀ (v v' : Option Value) (q : List Nat) (r' : List Value) (H1 : Heap) (locs1 : List Loc), r = .inl v → zVo sp (ads ++ q) v v' → zS sp ads rr r' → zW sp ty D A s.heap (ads ++ q) h1 H1 locs1 → W p l e (zrm (d + 1) mc0 ms0) s m args below meth c H1 locs1 (cells + (nc1 - nc)) (slots + (ns1 - ns)) Q (F0 m (pc + 3) ls (v'.toList ++ r')))
    (kx : ∀ (k q9 : Nat) (ce : Cell) (q : List Nat) (r' : List Value) (H1 : Heap) (locs1 : List Loc), r = .inr k → zS sp ads rr r' → zW sp ty D A s.heap (ads ++ q) h1 H1 locs1 → H1[q9]? = some ce → ce.vm = .none → s.vm.findClass (zEn k) = some ce.cls → vx_W p l e (zrm (d + 1) mc0 ms0) s m args below meth c H1 locs1 (cells + (nc1 - nc)) (slots + (ns1 - ns)) Q (F0 m pc ls r') q9) :
    W p l e (zrm (d + 1) mc0 ms0) s m args below meth c H locs cells slots Q (F0 m pc ls str) := by
  obtain ⟨hx, hb, hml, hret, hlk, hown, hnm, hts, hK, hA, hSP, hRf, hRl⟩ := hX
  obtain ⟨I1, I2, ws, w1, w2, w3, w4, w5, w6⟩ := I
  obtain ⟨as', r', q1, q2, q3, q4⟩ := ztk_S n9 (acc := []) (acc' := []) rfl I2 hpop
  have q3 : str = as'.reverse ++ r' := q3
  have hyM := zM_ok y' hy1 hy2
  obtain ⟨m1, m2, m3, m4, m5⟩ := zM_facts hyM
  have hA1 := z_wA w2 w3 hA
  subst w4
  have hM := IH d y' as L0 h nc ns r h1 nc1 ns1 hy1 hy2 hen hev l hl9 sp ty D ws as' H.size q1 w5 w6
  have hlen : as'.length = n9 := by rw [zS_len q1, q4]; simp
  have hlsz : ls.size = zmL y := by
    obtain ⟨-, lv, hlv, -⟩ := I1
    exact hlv.1
  rcases hyM.1 with ⟨e1, hcode⟩ | ⟨e1, hcode⟩
  · have ews : zws y' = .code (zmn y') (zmb y') (zmL y') (zmr y') :: zB := by unfold zws; rw [e1]
    have hrun := vx_runS (R := zrm (d + 1) mc0 ms0) (e := e) (below := below) (meth := meth) (s := s) (args := args) (m := m) (c := c) (p := p) (g := F0 m pc ls str) (As := as') (rest := r') (own := zon (zmo y)) (Ts := zB) (nL := zmL y) (cells := cells) (slots := slots) (locs := locs) (H := H) ⟨hx, hb, hml, hown, hts⟩ hM
      ⟨callB_of n9 hts (zws_good (zM_ok y' hy1 hy2)) ews rfl rfl (hts _ m1) (hts _ hl.1) ⟨m2.1, m2.2, by rw [m3, hn]⟩ ⟨by show d + 30 + 1 ≤ d + 1 + 30; omega, zrm_loc m4⟩, hts _ hl.2⟩
      ⟨zPre_blind, fun U hU hW => zPre_at hK hSP w1 w2 w3 hA hU hW⟩ rfl hlen hlsz (by show str = _; exact q3) (lv_room (by rw [zS_cs q2]; exact hcs)) hdg ⟨hc, hs⟩
    exact z_callW (len := 3) hrun w3 hA1 (fun v v' q H1 locs1 g1 g2 g3 => kk v v' q r' H1 locs1 g1 g2 q2 g3) (fun k q9 ce q H1 locs1 g1 g2 g3 g4 g5 => kx k q9 ce q r' H1 locs1 g1 q2 g2 g3 g4 g5)
  · have ews : zws y' = .codeWith (zmn y') (zmb y') (zmL y') (zmr y') (zmh y') :: zB := by
      unfold zws
      split
      · next e2 => exact absurd e2 e1
      · rfl
    have hG := zws_good (zM_ok y' hy1 hy2)
    have hrun := vx_runSX (e := e) (below := below) (meth := meth) (s := s) (m := m) (c := c) (p := p) (g := F0 m pc ls str) (As := as') (rest := r') (own := zon (zmo y)) (Ts := zB) (nL := zmL y) (cells := cells) (slots := slots) (locs := locs) (H := H) (y := zmn y') (bytes := zmb y') (maxL := zmL y') (ret := zmr y') (hh := zmh y') (n := n9) (index := idx) (R := zrm (d + 1) mc0 ms0) (args := args) ⟨hx, hb, hml, hown, hts⟩ hM
      ⟨⟨rfl, rfl, by show d + 30 + 1 ≤ d + 1 + 30; omega, zrm_loc m4, pay_in hts hG, by rw [ews]; exact List.mem_cons_self⟩, hts _ hcode, hts _ m1, m2, (fun sig h9 => by rw [h9] at m3; exact (Option.some.inj (m3.trans (congrArg some hn))).symm), hts _ hl.1, hts _ hl.2⟩
      ⟨zPre_blind, fun U hU hW => zPre_at hK hSP w1 w2 w3 hA hU hW⟩ rfl hlen hlsz (by show str = _; exact q3) (lv_room (by rw [zS_cs q2]; exact hcs)) hdg ⟨hc, hs⟩
    exact z_callW (len := 3) hrun w3 hA1 (fun v v' q H1 locs1 g1 g2 g3 => kk v v' q r' H1 locs1 g1 g2 q2 g3) (fun k q9 ce q H1 locs1 g1 g2 g3 g4 g5 => kx k q9 ce q r' H1 locs1 g1 q2 g2 g3 g4 g5)
theorem z_callV (IH : zIH xs n) (hl9 : l.stackTraces = false) (hX : zX xs sp ty D A y p (zrm (d + 1) mc0 ms0) s m args meth c) {c9 : Nat} (hc9 : c9 < 6) (hl : zVok (zmo y, idx, y', c9)) (hnh : zmh y' = []) (hy1 : y' < 250) (hy2 : y' ≠ zlaw) (hdg : decode (zmb y) pc = .ok (.invokevirtual idx, 3)) (hn : zmp y' = n9) (hpop : ztk (n9 + 1) [] st = some (as, rr)) {a : Nat} {as0 : List Value} (has : as = .ref a :: as0) {vs : List Value} (hcell : h[a]? = some (c9, vs)) (hcs : zcs rr ≤ 8) (hen : zen (zmL y') as = some L0) (hev : zev xs n d y' 0 L0 [] h nc ns = some (r, h1, nc1, ns1))
    (I : zR sp ty D A s.heap (zmL y) ads L st h ls str H locs) (hc : cells + (nc1 - nc) ≤ mc0) (hs : slots + (ns1 - ns) ≤ ms0)
    (kk : ∀ (v v' : Option Value) (q : List Nat) (r' : List Value) (H1 : Heap) (locs1 : List Loc), r = .inl v → zVo sp (ads ++ q) v v' → zS sp ads rr r' → zW sp ty D A s.heap (ads ++ q) h1 H1 locs1 → W p l e (zrm (d + 1) mc0 ms0) s m args below meth c H1 locs1 (cells + (nc1 - nc)) (slots + (ns1 - ns)) Q (F0 m (pc + 3) ls (v'.toList ++ r')))
    (kx : ∀ (k q9 : Nat) (ce : Cell) (q : List Nat) (r' : List Value) (H1 : Heap) (locs1 : List Loc), r = .inr k → zS sp ads rr r' → zW sp ty D A s.heap (ads ++ q) h1 H1 locs1 → H1[q9]? = some ce → ce.vm = .none → s.vm.findClass (zEn k) = some ce.cls → vx_W p l e (zrm (d + 1) mc0 ms0) s m args below meth c H1 locs1 (cells + (nc1 - nc)) (slots + (ns1 - ns)) Q (F0 m pc ls r') q9) :
    W p l e (zrm (d + 1) mc0 ms0) s m args below meth c H locs cells slots Q (F0 m pc ls str) := by
  obtain ⟨hx, hb, hml, hret, hlk, hown, hnm, hts, hK, hA, hSP, hRf, hRl⟩ := hX
  obtain ⟨I1, I2, I3⟩ := I
  obtain ⟨as', r', q1, q2, q3, q4⟩ := ztk_S (n9 + 1) (acc := []) (acc' := []) rfl I2 hpop
  have q3 : str = as'.reverse ++ r' := q3
  subst has
  obtain ⟨b', as0', rfl, hb9, q1'⟩ := id q1
  obtain ⟨ws, b, ec, rfl, -, wa, wb, w1, w2, w3, w4, w5, w6⟩ := z_W I3 hcell hb9
  obtain ⟨vs', rfl, -⟩ := z_obj (by omega) wb
  have hyM := zM_ok y' hy1 hy2
  obtain ⟨m1, m2, m3, m4, m5⟩ := zM_facts hyM
  have hA1 := z_wA w2 w3 hA
  subst w4
  have hM := IH d y' _ L0 h nc ns r h1 nc1 ns1 hy1 hy2 hen hev l hl9 sp ty D ws (.ref b :: as0') H.size q1 w5 w6
  have hlen : as0'.length = n9 := by
    have := zS_len q1
    rw [q4] at this
    simpa using this
  have hlsz : ls.size = zmL y := by
    obtain ⟨-, lv, hlv, -⟩ := I1
    exact hlv.1
  have hcode : Jvm.Cond.code (zmn y') (zmb y') (zmL y') (zmr y') ∈ zB := by
    rcases hyM.1 with ⟨-, h9⟩ | ⟨h8, -⟩
    · exact h9
    · exact absurd hnh h8
  have ews : zws y' = .code (zmn y') (zmb y') (zmL y') (zmr y') :: zB := by unfold zws; rw [hnh]
  obtain ⟨o1, o2, o3, o4, o5, o6⟩ := zc_ok c9 hc9
  have hrec : ∃ cellB : Cell, H[b]? = some cellB ∧ cellB.vm.isStatics = false ∧ s.vm.findClass (zcn c9) = some cellB.cls := va_recv hK w1 o6 wa
  have hrun := vx_runV (R := zrm (d + 1) mc0 ms0) (e := e) (below := below) (meth := meth) (s := s) (args := args) (m := m) (c := c) (p := p) (g := F0 m pc ls str) (As := as0') (b := b) (C := zcn c9) (rest := r') (own := zon (zmo y)) (Ts := zB) (nL := zmL y) (cells := cells) (slots := slots) (locs := locs) (H := H) ⟨hx, hb, hml, hown, hts⟩ hM
      ⟨callB_of n9 hts (zws_good (zM_ok y' hy1 hy2)) ews rfl rfl (hts _ m1) (hts _ hl.1) ⟨m2.1, m2.2, by rw [m3, hn]⟩ ⟨by show d + 30 + 1 ≤ d + 1 + 30; omega, zrm_loc m4⟩, hts _ hl.2.1, hts _ hl.2.2⟩
      ⟨zPre_blind, hrec, fun U hU hW => zPre_at hK hSP w1 w2 w3 hA hU hW⟩ rfl hlen hlsz (by show str = _; rw [q3]; simp) (lv_room (by rw [zS_cs q2]; exact hcs)) hdg ⟨hc, hs⟩
  exact z_callW (len := 3) hrun w3 hA1 (fun v v' q H1 locs1 g1 g2 g3 => kk v v' q r' H1 locs1 g1 g2 q2 g3) (fun k q9 ce q H1 locs1 g1 g2 g3 g4 g5 => kx k q9 ce q r' H1 locs1 g1 q2 g2 g3 g4 g5)
theorem z_callI (IH : zIH xs n) (hl9 : l.stackTraces = false) (hX : zX xs sp ty D A y p (zrm (d + 1) mc0 ms0) s m args meth c) (hl : zIok (zmo y, idx, y')) (hnh : zmh y' = []) (hnr : zmr y' = none) (hy1 : y' < 250) (hy2 : y' ≠ zlaw) (hdg : decode (zmb y) pc = .ok (.invokespecial idx, 3)) (hn : zmp y' = n9) (hpop : ztk (n9 + 1) [] st = some (as, rr)) {a : Nat} {as0 : List Value} (has : as = .ref a :: as0) (hcs : zcs rr ≤ 8) (hen : zen (zmL y') as = some L0) (hev : zev xs n d y' 0 L0 [] h nc ns = some (r, h1, nc1, ns1))
    (I : zR sp ty D A s.heap (zmL y) ads L st h ls str H locs) (hc : cells + (nc1 - nc) ≤ mc0) (hs : slots + (ns1 - ns) ≤ ms0)
    (kk : ∀ (v v' : Option Value) (q : List Nat) (r' : List Value) (H1 : Heap) (locs1 : List Loc), r = .inl v → zVo sp (ads ++ q) v v' → zS sp ads rr r' → zW sp ty D A s.heap (ads ++ q) h1 H1 locs1 → W p l e (zrm (d + 1) mc0 ms0) s m args below meth c H1 locs1 (cells + (nc1 - nc)) (slots + (ns1 - ns)) Q (F0 m (pc + 3) ls (v'.toList ++ r')))
    (kx : ∀ (k q9 : Nat) (ce : Cell) (q : List Nat) (r' : List Value) (H1 : Heap) (locs1 : List Loc), r = .inr k → zS sp ads rr r' → zW sp ty D A s.heap (ads ++ q) h1 H1 locs1 → H1[q9]? = some ce → ce.vm = .none → s.vm.findClass (zEn k) = some ce.cls → vx_W p l e (zrm (d + 1) mc0 ms0) s m args below meth c H1 locs1 (cells + (nc1 - nc)) (slots + (ns1 - ns)) Q (F0 m pc ls r') q9) :
    W p l e (zrm (d + 1) mc0 ms0) s m args below meth c H locs cells slots Q (F0 m pc ls str) := by
  obtain ⟨hx, hb, hml, hret, hlk, hown, hnm, hts, hK, hA, hSP, hRf, hRl⟩ := hX
  obtain ⟨I1, I2, ws, w1, w2, w3, w4, w5, w6⟩ := I
  obtain ⟨as', r', q1, q2, q3, q4⟩ := ztk_S (n9 + 1) (acc := []) (acc' := []) rfl I2 hpop
  have q3 : str = as'.reverse ++ r' := q3
  subst has
  obtain ⟨b', as0', rfl, ⟨b, hb9, rfl⟩, q1'⟩ := id q1
  have hyM := zM_ok y' hy1 hy2
  obtain ⟨m1, m2, m3, m4, m5⟩ := zM_facts hyM
  have hA1 := z_wA w2 w3 hA
  subst w4
  have hM := IH d y' _ L0 h nc ns r h1 nc1 ns1 hy1 hy2 hen hev l hl9 sp ty D ws (.ref b :: as0') H.size q1 w5 w6
  have hlen : as0'.length = n9 := by
    have := zS_len q1
    rw [q4] at this
    simpa using this
  have hlsz : ls.size = zmL y := by
    obtain ⟨-, lv, hlv, -⟩ := I1
    exact hlv.1
  have ews : zws y' = .code (zmn y') (zmb y') (zmL y') none :: zB := by unfold zws; rw [hnh, hnr]
  obtain ⟨hlink, hinst, hnmi⟩ := hl
  rcases hlink with hlink | ⟨host, hlink⟩
  · have hrun := vx_runI (R := zrm (d + 1) mc0 ms0) (e := e) (below := below) (meth := meth) (s := s) (args := args) (m := m) (c := c) (p := p) (g := F0 m pc ls str) (As := as0') (b := b) (rest := r') (own := zon (zmo y)) (Ts := zB) (nL := zmL y) (cells := cells) (slots := slots) (locs := locs) (H := H) ⟨hx, hb, hml, hown, hts⟩ hM
        ⟨callB_of n9 hts (zws_good (zM_ok y' hy1 hy2)) ews rfl rfl (hts _ m1) (hts _ hlink) ⟨m2.1, m2.2, by rw [m3, hn]⟩ ⟨by show d + 30 + 1 ≤ d + 1 + 30; omega, zrm_loc m4⟩, hnmi, hts _ hinst⟩
        ⟨zPre_blind, fun U hU hW => zPre_at hK hSP w1 w2 w3 hA hU hW⟩ rfl hlen hlsz (by show str = _; rw [q3]; simp) (lv_room (by rw [zS_cs q2]; exact hcs)) hdg ⟨hc, hs⟩
    exact z_callW (len := 3) hrun w3 hA1 (fun v v' q H1 locs1 g1 g2 g3 => kk v v' q r' H1 locs1 g1 g2 q2 g3) (fun k q9 ce q H1 locs1 g1 g2 g3 g4 g5 => kx k q9 ce q r' H1 locs1 g1 q2 g2 g3 g4 g5)
  · have hrun := vx_runIN (R := zrm (d + 1) mc0 ms0) (e := e) (below := below) (meth := meth) (s := s) (args := args) (m := m) (c := c) (p := p) (g := F0 m pc ls str) (As := as0') (b := b) (rest := r') (own := zon (zmo y)) (Ts := zB) (nL := zmL y) (cells := cells) (slots := slots) (locs := locs) (H := H) ⟨hx, hb, hml, hown, hts⟩ hM
        ⟨va_cnB n9 hts (zws_good (zM_ok y' hy1 hy2)) ews rfl rfl (hSP.1 _ hlink) (hts _ m1) ⟨m2.1, m2.2, by rw [m3, hn]⟩ ⟨by show d + 30 + 1 ≤ d + 1 + 30; omega, zrm_loc m4⟩, hnmi, hts _ hinst⟩
        ⟨zPre_blind, fun U hU hW => zPre_at hK hSP w1 w2 w3 hA hU hW⟩ rfl hlen hlsz (by show str = _; rw [q3]; simp) (lv_room (by rw [zS_cs q2]; exact hcs)) hdg ⟨hc, hs⟩
    exact z_callW (len := 3) hrun w3 hA1 (fun v v' q H1 locs1 g1 g2 g3 => kk v v' q r' H1 locs1 g1 g2 q2 g3) (fun k q9 ce q H1 locs1 g1 g2 g3 g4 g5 => kx k q9 ce q r' H1 locs1 g1 q2 g2 g3 g4 g5)
end ZP
end
section
/-! Steps that neither call nor end. -/
def zis (o : Option zA) : Prop := ∀ q, ¬ o = some (.inr q)
theorem zis_n : zis none := fun q h => by cases h
theorem zis_go {pc : Nat} {L : zL} {st : List Value} {h : zH} : zis (zgo pc L st h) := fun q h => by cases h
theorem zis_l {x : Nat × zL × List Value × zH × Nat × Nat} : zis (some (.inl x)) := fun q h => by cases h
theorem zldI_is {L : zL} {i nx : Nat} {st : List Value} {h : zH} : zis (zldI L i nx st h) := by
  unfold zldI
  repeat' (first | exact zis_n | exact zis_go | exact zis_l | split)
theorem zldL_is {L : zL} {i nx : Nat} {st : List Value} {h : zH} : zis (zldL L i nx st h) := by
  unfold zldL
  repeat' (first | exact zis_n | exact zis_go | exact zis_l | split)
theorem zldD_is {L : zL} {i nx : Nat} {st : List Value} {h : zH} : zis (zldD L i nx st h) := by
  unfold zldD
  repeat' (first | exact zis_n | exact zis_go | exact zis_l | split)
theorem zldA_is {L : zL} {i nx : Nat} {st : List Value} {h : zH} : zis (zldA L i nx st h) := by
  unfold zldA
  repeat' (first | exact zis_n | exact zis_go | exact zis_l | split)
theorem zsv1_is {L : zL} {i nx : Nat} {v : Value} {st : List Value} {h : zH} : zis (zsv1 L i nx v st h) := by
  unfold zsv1
  repeat' (first | exact zis_n | exact zis_go | exact zis_l | split)
theorem zsv2_is {L : zL} {i nx : Nat} {v : Value} {st : List Value} {h : zH} : zis (zsv2 L i nx v st h) := by
  unfold zsv2
  repeat' (first | exact zis_n | exact zis_go | exact zis_l | exact zsv1_is | split)
theorem zsI_is {L : zL} {i nx : Nat} {st : List Value} {h : zH} : zis (zsI L i nx st h) := by
  unfold zsI
  repeat' (first | exact zis_n | exact zis_go | exact zis_l | exact zsv1_is | exact zsv2_is | split)
theorem zsA_is {L : zL} {i nx : Nat} {st : List Value} {h : zH} : zis (zsA L i nx st h) := by
  unfold zsA
  repeat' (first | exact zis_n | exact zis_go | exact zis_l | exact zsv1_is | exact zsv2_is | split)
theorem zsL_is {L : zL} {i nx : Nat} {st : List Value} {h : zH} : zis (zsL L i nx st h) := by
  unfold zsL
  repeat' (first | exact zis_n | exact zis_go | exact zis_l | exact zsv1_is | exact zsv2_is | split)
theorem zsD_is {L : zL} {i nx : Nat} {st : List Value} {h : zH} : zis (zsD L i nx st h) := by
  unfold zsD
  repeat' (first | exact zis_n | exact zis_go | exact zis_l | exact zsv1_is | exact zsv2_is | split)
theorem zinc_is {L : zL} {i nx : Nat} {n : Int} {st : List Value} {h : zH} : zis (zinc L i n nx st h) := by
  unfold zinc
  repeat' (first | exact zis_n | exact zis_go | exact zis_l | exact zsv1_is | exact zsv2_is | split)
theorem zpu_is {L : zL} {v : Value} {nx : Nat} {st : List Value} {h : zH} : zis (zpu L v nx st h) := zis_go
theorem zbin_is {f : Int32 → Int32 → Int32} {L : zL} {nx : Nat} {st : List Value} {h : zH} : zis (zbin f nx L st h) := by
  unfold zbin
  repeat' (first | exact zis_n | exact zis_go | exact zis_l | exact zsv1_is | exact zsv2_is | split)
theorem zdiv_is {f : Int32 → Int32 → Int32} {L : zL} {nx : Nat} {st : List Value} {h : zH} : zis (zdiv f nx L st h) := by
  unfold zdiv
  repeat' (first | exact zis_n | exact zis_go | exact zis_l | exact zsv1_is | exact zsv2_is | split)
theorem zun_is {f : Int32 → Value} {L : zL} {nx : Nat} {st : List Value} {h : zH} : zis (zun f nx L st h) := by
  unfold zun
  repeat' (first | exact zis_n | exact zis_go | exact zis_l | exact zsv1_is | exact zsv2_is | split)
theorem zbinL_is {f : Int64 → Int64 → Int64} {L : zL} {nx : Nat} {st : List Value} {h : zH} : zis (zbinL f nx L st h) := by
  unfold zbinL
  repeat' (first | exact zis_n | exact zis_go | exact zis_l | exact zsv1_is | exact zsv2_is | split)
theorem zlc_is {L : zL} {nx : Nat} {st : List Value} {h : zH} : zis (zlc nx L st h) := by
  unfold zlc
  repeat' (first | exact zis_n | exact zis_go | exact zis_l | exact zsv1_is | exact zsv2_is | split)
theorem zbinD_is {f : UInt64 → UInt64 → UInt64} {L : zL} {nx : Nat} {st : List Value} {h : zH} : zis (zbinD f nx L st h) := by
  unfold zbinD
  repeat' (first | exact zis_n | exact zis_go | exact zis_l | exact zsv1_is | exact zsv2_is | split)
theorem zd2l_is {L : zL} {nx : Nat} {st : List Value} {h : zH} : zis (zd2l nx L st h) := by
  unfold zd2l
  repeat' (first | exact zis_n | exact zis_go | exact zis_l | exact zsv1_is | exact zsv2_is | split)
theorem zdup_is {L : zL} {nx : Nat} {st : List Value} {h : zH} : zis (zdup nx L st h) := by
  unfold zdup
  repeat' (first | exact zis_n | exact zis_go | exact zis_l | exact zsv1_is | exact zsv2_is | split)
theorem zpop_is {L : zL} {nx : Nat} {st : List Value} {h : zH} : zis (zpop nx L st h) := by
  unfold zpop
  repeat' (first | exact zis_n | exact zis_go | exact zis_l | exact zsv1_is | exact zsv2_is | split)
theorem zpop2_is {L : zL} {nx : Nat} {st : List Value} {h : zH} : zis (zpop2 nx L st h) := by
  unfold zpop2
  repeat' (first | exact zis_n | exact zis_go | exact zis_l | exact zsv1_is | exact zsv2_is | split)
theorem zdupx1_is {L : zL} {nx : Nat} {st : List Value} {h : zH} : zis (zdupx1 nx L st h) := by
  unfold zdupx1
  repeat' (first | exact zis_n | exact zis_go | exact zis_l | exact zsv1_is | exact zsv2_is | split)
theorem zdup2_is {L : zL} {nx : Nat} {st : List Value} {h : zH} : zis (zdup2 nx L st h) := by
  unfold zdup2
  repeat' (first | exact zis_n | exact zis_go | exact zis_l | exact zsv1_is | exact zsv2_is | split)
theorem zaald_is {L : zL} {nx : Nat} {st : List Value} {h : zH} : zis (zaald nx L st h) := by
  unfold zaald
  repeat' (first | exact zis_n | exact zis_go | exact zis_l | exact zsv1_is | exact zsv2_is | split)
theorem zaast_is {L : zL} {nx : Nat} {st : List Value} {h : zH} : zis (zaast nx L st h) := by
  unfold zaast
  repeat' (first | exact zis_n | exact zis_go | exact zis_l | exact zsv1_is | exact zsv2_is | split)
theorem zmulti_is {L : zL} {nx : Nat} {st : List Value} {h : zH} : zis (zmulti nx L st h) := by
  unfold zmulti
  repeat' (first | exact zis_n | exact zis_go | exact zis_l | exact zsv1_is | exact zsv2_is | split)
theorem zcopy_is {L : zL} {nx : Nat} {st : List Value} {h : zH} : zis (zcopy nx L st h) := by
  unfold zcopy
  repeat' (first | exact zis_n | exact zis_go | exact zis_l | exact zsv1_is | exact zsv2_is | split)
theorem zoi_is {L : zL} {nx : Nat} {st : List Value} {h : zH} : zis (zoi nx L st h) := by
  unfold zoi
  repeat' (first | exact zis_n | exact zis_go | exact zis_l | exact zsv1_is | exact zsv2_is | split)
theorem zbr_is {c : ClassFile.Cond} {x y : Int32} {tg nx : Nat} {L : zL} {r : List Value} {h : zH} : zis (zbr c x y tg nx L r h) := by
  unfold zbr
  repeat' (first | exact zis_n | exact zis_go | exact zis_l | exact zsv1_is | exact zsv2_is | split)
theorem zif_is {c : ClassFile.Cond} {tg nx : Nat} {L : zL} {st : List Value} {h : zH} : zis (zif c tg nx L st h) := by
  unfold zif
  repeat' (first | exact zis_n | exact zis_go | exact zis_l | exact zsv1_is | exact zsv2_is | exact zbr_is | split)
theorem zicmp_is {c : ClassFile.Cond} {tg nx : Nat} {L : zL} {st : List Value} {h : zH} : zis (zicmp c tg nx L st h) := by
  unfold zicmp
  repeat' (first | exact zis_n | exact zis_go | exact zis_l | exact zsv1_is | exact zsv2_is | exact zbr_is | split)
theorem zoff_is {pc : Nat} {o : Int} {L : zL} {r : List Value} {h : zH} : zis (zoff pc o L r h) := by
  unfold zoff
  repeat' (first | exact zis_n | exact zis_go | exact zis_l | exact zsv1_is | exact zsv2_is | exact zbr_is | split)
theorem ztab_is {pc : Nat} {d lo hi : Int} {offs : Array Int} {L : zL} {st : List Value} {h : zH} : zis (ztab pc d lo hi offs L st h) := by
  unfold ztab
  repeat' (first | exact zis_n | exact zis_go | exact zis_l | exact zsv1_is | exact zsv2_is | exact zbr_is | exact zoff_is | split)
theorem zlook_is {pc : Nat} {d : Int} {ps : Array (Int × Int)} {L : zL} {st : List Value} {h : zH} : zis (zlook pc d ps L st h) := by
  unfold zlook
  repeat' (first | exact zis_n | exact zis_go | exact zis_l | exact zsv1_is | exact zsv2_is | exact zbr_is | exact zoff_is | split)
theorem zald_is {t nx : Nat} {L : zL} {st : List Value} {h : zH} : zis (zald t nx L st h) := by
  unfold zald
  repeat' (first | exact zis_n | exact zis_go | exact zis_l | exact zsv1_is | exact zsv2_is | exact zbr_is | exact zoff_is | split)
theorem zast_is {t : Nat} {g : Int32 → Option Int32} {nx : Nat} {L : zL} {st : List Value} {h : zH} : zis (zast t g nx L st h) := by
  unfold zast
  repeat' (first | exact zis_n | exact zis_go | exact zis_l | exact zsv1_is | exact zsv2_is | exact zbr_is | exact zoff_is | exact zald_is | split)
theorem zialoadX_is {xs : List Int32} {nx : Nat} {L : zL} {st : List Value} {h : zH} : zis (zialoadX xs nx L st h) := by
  unfold zialoadX
  repeat' (first | exact zis_n | exact zis_go | exact zis_l | exact zsv1_is | exact zsv2_is | exact zbr_is | exact zoff_is | exact zald_is | split)
theorem zalen_is {xs : List Int32} {nx : Nat} {L : zL} {st : List Value} {h : zH} : zis (zalen xs nx L st h) := by
  unfold zalen
  repeat' (first | exact zis_n | exact zis_go | exact zis_l | exact zsv1_is | exact zsv2_is | exact zbr_is | exact zoff_is | exact zald_is | split)
theorem zchk_is {k nx : Nat} {L : zL} {st : List Value} {h : zH} : zis (zchk k nx L st h) := by
  unfold zchk
  repeat' (first | exact zis_n | exact zis_go | exact zis_l | split)
theorem zacmp_is {c : ACond} {tg nx : Nat} {L : zL} {st : List Value} {h : zH} : zis (zacmp c tg nx L st h) := by
  unfold zacmp
  repeat' (first | exact zis_n | exact zis_go | exact zis_l | split)
theorem zgetc_is {nx : Nat} {L : zL} {st : List Value} {h : zH} : zis (zgetc nx L st h) := by
  unfold zgetc
  repeat' (first | exact zis_n | exact zis_go | exact zis_l | split)
theorem znewa_is {t : Nat} {v : Value} {nx : Nat} {L : zL} {st : List Value} {h : zH} : zis (znewa t v nx L st h) := by
  unfold znewa
  repeat' (first | exact zis_n | exact zis_go | exact zis_l | exact zsv1_is | exact zsv2_is | exact zbr_is | exact zoff_is | exact zald_is | split)
theorem zget_is {cf : Nat → List (Nat × Nat)} {f k nx : Nat} {L : zL} {st : List Value} {h : zH} : zis (zget cf f k nx L st h) := by
  unfold zget
  repeat' (first | exact zis_n | exact zis_go | exact zis_l | exact zsv1_is | exact zsv2_is | exact zbr_is | exact zoff_is | exact zald_is | split)
theorem zput_is {cf : Nat → List (Nat × Nat)} {f k nx : Nat} {L : zL} {st : List Value} {h : zH} : zis (zput cf f k nx L st h) := by
  unfold zput
  repeat' (first | exact zis_n | exact zis_go | exact zis_l | exact zsv1_is | exact zsv2_is | exact zbr_is | exact zoff_is | exact zald_is | split)
theorem znew_is {cf : Nat → List (Nat × Nat)} {c nx : Nat} {L : zL} {st : List Value} {h : zH} : zis (znew cf c nx L st h) := zis_l
theorem zmm_is {f : Int32 → Int32 → Int32} {nx : Nat} {L : zL} {st : List Value} {h : zH} : zis (zmm f nx L st h) := by
  unfold zmm
  repeat' (first | exact zis_n | exact zis_go | exact zis_l | exact zsv1_is | exact zsv2_is | exact zbr_is | exact zoff_is | exact zald_is | split)
def znj (i : Instr) : Bool := match i with
  | .invokestatic _ => false
  | .invokevirtual _ => false
  | .invokeinterface _ _ => false
  | .invokespecial _ => false
  | .ireturn => false
  | .lreturn => false
  | .dreturn => false
  | .areturn => false
  | .return_ => false
  | .new _ => false
  | _ => true
theorem zis_ok {cf : Nat → List (Nat × Nat)} {xs : List Int32} {pc nx k y n c : Nat} {i : Instr} {L : zL} {st : List Value} {h : zH} (hi : znj i = true) : zis (zstep cf xs pc i nx k y n c L st h) := by
  cases i <;> first | exact zis_n | exact zis_go | exact zldI_is | exact zldL_is | exact zldD_is | exact zldA_is | exact zsI_is | exact zsA_is | exact zsL_is | exact zsD_is | exact zinc_is | exact zpu_is | exact zbin_is | exact zdiv_is | exact zun_is | exact zbinL_is | exact zlc_is | exact zbinD_is | exact zd2l_is | exact zdup_is | exact zpop_is | exact zpop2_is | exact zdupx1_is | exact zdup2_is | exact zaald_is | exact zaast_is | exact zmulti_is | exact zif_is | exact zicmp_is | exact ztab_is | exact zlook_is | exact zast_is | exact zialoadX_is | exact zalen_is | exact znewa_is | exact zget_is | exact zput_is | exact znew_is | exact zald_is | exact zchk_is | exact zacmp_is | (cases hi; done) | exact zast_is | (unfold zstep; dsimp only; repeat' (first | exact zast_is | exact zpu_is | exact zis_n | split))
theorem zcallI_nx {n y nx : Nat} {st : List Value} {q : (Option Value ⊕ Nat) × Nat × Nat} : ¬ zcallI n y nx st = some (.inr (.inr q)) := by
  intro h
  unfold zcallI at h
  repeat' (first | (cases h; done) | split at h)
theorem zcallV_nx {n c y nx : Nat} {st : List Value} {h : zH} {q : (Option Value ⊕ Nat) × Nat × Nat} : ¬ zcallV n c y nx st h = some (.inr (.inr q)) := by
  intro h
  unfold zcallV at h
  repeat' (first | (cases h; done) | split at h)
theorem zcall_nx {n y nx : Nat} {st : List Value} {q : (Option Value ⊕ Nat) × Nat × Nat} : ¬ zcall n y nx st = some (.inr (.inr q)) := by
  intro h
  unfold zcall at h
  repeat' (first | (cases h; done) | split at h)
end
section
theorem zcallV_sp {n c y nx y' nx' : Nat} {st as rr : List Value} {h : zH} (hs : zcallV n c y nx st h = some (.inr (.inl (y', as, rr, nx')))) : ∃ (a : Nat) (as1 : List Value) (vs : List Value), as = .ref a :: as1 ∧ ztk (n + 1) [] st = some (.ref a :: as1, rr) ∧ h[a]? = some (c, vs) ∧ zcs rr ≤ 8 ∧ nx' = nx ∧ y = y' := by
  unfold zcallV at hs
  split at hs
  · next as0 r0 hpop =>
    split at hs
    · next a as1 =>
      split at hs
      · next c' vs hc =>
        split at hs
        · next e =>
          subst e
          split at hs
          · next hcs =>
            cases hs
            exact ⟨a, as1, vs, rfl, hpop, hc, hcs, rfl, rfl⟩
          · cases hs
        · cases hs
      · cases hs
    · cases hs
  · cases hs
theorem zcallI_sp {n y nx y' nx' : Nat} {st as rr : List Value} (hs : zcallI n y nx st = some (.inr (.inl (y', as, rr, nx')))) : ∃ (a : Nat) (as1 : List Value), as = .ref a :: as1 ∧ ztk (n + 1) [] st = some (.ref a :: as1, rr) ∧ zcs rr ≤ 8 ∧ nx' = nx ∧ y = y' := by
  unfold zcallI at hs
  split at hs
  · next as0 r0 hpop =>
    split at hs
    · next a as1 =>
      split at hs
      · next hcs =>
        cases hs
        exact ⟨a, as1, rfl, hpop, hcs, rfl, rfl⟩
      · cases hs
    · cases hs
  · cases hs

/-- whatever the kind of call -/
theorem z_call_ok {p : Program} {l : Launch} {e : Env} {s : State} {m : MethodId} {args : Array Value} {below : List Frame} {meth : Method} {c : Code} {H : Heap} {locs : List Loc} {cells slots : Nat} {Q : State → Prop} {xs : List Int32} {sp : Nat → Nat} {ty : Nat → ClassId} {D : va_G} {A : Nat → Prop} {ads : List Nat}
    {n d y y' pc nx nx' k yy n9 c9 mc0 ms0 : Nat} {i : Instr} {L L0 : zL} {st as rr str : List Value} {h h1 : zH} {ls : Array Slot} {r : Option Value ⊕ Nat} {nc ns nc1 ns1 : Nat}
    (IH : zIH xs n) (hl9 : l.stackTraces = false) (hX : zX xs sp ty D A y p (zrm (d + 1) mc0 ms0) s m args meth c) (hr : zrok y (pc, i, nx, k, yy, n9, c9) = true) (hst : zstep zcf xs pc i nx k yy n9 c9 L st h = some (.inr (.inl (y', as, rr, nx')))) (hen : zen (zmL y') as = some L0) (hev : zev xs n d y' 0 L0 [] h nc ns = some (r, h1, nc1, ns1))
    (I : zR sp ty D A s.heap (zmL y) ads L st h ls str H locs) (hc : cells + (nc1 - nc) ≤ mc0) (hs : slots + (ns1 - ns) ≤ ms0)
    (kk : ∀ (v v' : Option Value) (q : List Nat) (r' : List Value) (H1 : Heap) (locs1 : List Loc), r = .inl v → zVo sp (ads ++ q) v v' → zS sp ads rr r' → zW sp ty D A s.heap (ads ++ q) h1 H1 locs1 → W p l e (zrm (d + 1) mc0 ms0) s m args below meth c H1 locs1 (cells + (nc1 - nc)) (slots + (ns1 - ns)) Q (F0 m nx' ls (v'.toList ++ r')))
    (kx : ∀ (k q9 : Nat) (ce : Cell) (q : List Nat) (r' : List Value) (H1 : Heap) (locs1 : List Loc), r = .inr k → zS sp ads rr r' → zW sp ty D A s.heap (ads ++ q) h1 H1 locs1 → H1[q9]? = some ce → ce.vm = .none → s.vm.findClass (zEn k) = some ce.cls → vx_W p l e (zrm (d + 1) mc0 ms0) s m args below meth c H1 locs1 (cells + (nc1 - nc)) (slots + (ns1 - ns)) Q (F0 m pc ls r') q9) :
    W p l e (zrm (d + 1) mc0 ms0) s m args below meth c H locs cells slots Q (F0 m pc ls str) := by
  cases i with
  | invokestatic j =>
    obtain ⟨hd, e, hl⟩ := zrok1 hr (Nat.succ_ne_zero _)
    have hst : (if k = 10 then zcopy nx L st h else if k = 12 then zmm (fun x y => if x < y then y else x) nx L st h else if k = 13 then zmm (fun x y => if y < x then y else x) nx L st h else zcall n9 yy nx st) = some (.inr (.inl (y', as, rr, nx'))) := hst
    have hl : (if k = 10 ∨ k = 12 ∨ k = 13 then false else (decide ((zmo y, j, yy) ∈ zSL) && decide (yy < 250) && decide (yy ≠ zlaw) && decide (zmp yy = n9))) = true := hl
    by_cases h10 : k = 10
    · rw [if_pos h10] at hst
      exact absurd hst (zcopy_is _)
    · rw [if_neg h10] at hst
      by_cases h12 : k = 12
      · rw [if_pos h12] at hst
        exact absurd hst (zmm_is _)
      · rw [if_neg h12] at hst
        by_cases h13 : k = 13
        · rw [if_pos h13] at hst
          exact absurd hst (zmm_is _)
        · rw [if_neg h13] at hst
          rw [if_neg (by omega)] at hl
          simp only [Bool.and_eq_true, decide_eq_true_eq] at hl
          unfold zcall at hst
          split at hst
          · next as1 rr1 hpop =>
            split at hst
            · next hcs =>
              cases hst
              have e : nx = pc + 3 := e
              subst e
              exact z_callS IH hl9 hX (zSL_ok _ hl.1.1.1) hl.1.1.2 hl.1.2 hd hl.2 hpop hcs hen hev I hc hs kk kx
            · cases hst
          · cases hst
  | invokevirtual j =>
    obtain ⟨hd, e, hl⟩ := zrok1 hr (Nat.succ_ne_zero _)
    have hst : (if k = 11 then zgetc nx L st h else zcallV n9 c9 yy nx st h) = some (.inr (.inl (y', as, rr, nx'))) := hst
    have hl : (if k = 11 ∨ k = 6 then false else decide ((zmo y, j, yy, c9) ∈ zVL) && decide (yy < 250) && decide (yy ≠ zlaw) && decide (zmp yy = n9) && decide (c9 < 6) && decide (zmh yy = [])) = true := hl
    by_cases h11 : k = 11
    · rw [if_pos h11] at hst
      exact absurd hst (zgetc_is _)
    · by_cases h6 : k = 6
      · rw [if_pos (Or.inr h6)] at hl
        cases hl
      · rw [if_neg h11] at hst
        rw [if_neg (by omega)] at hl
        simp only [Bool.and_eq_true, decide_eq_true_eq] at hl
        obtain ⟨a, as1, vs, q1, q2, q3, q4, q5, q6⟩ := zcallV_sp hst
        subst q1; subst q6
        have e : nx' = pc + 3 := by rw [q5]; exact e
        subst e
        exact z_callV IH hl9 hX hl.1.2 (zVL_ok _ hl.1.1.1.1.1) hl.2 hl.1.1.1.1.2 hl.1.1.1.2 hd hl.1.1.2 q2 rfl q3 q4 hen hev I hc hs kk kx
  | invokespecial j =>
    obtain ⟨hd, e, hl⟩ := zrok1 hr (Nat.succ_ne_zero _)
    have hst : (if k = 8 then zoi nx L st h else if k = 7 then zcallV n9 c9 yy nx st h else zcallI n9 yy nx st) = some (.inr (.inl (y', as, rr, nx'))) := hst
    have hl : (if k = 8 then decide ((zmo y, j) ∈ zOL) else if k = 7 then false else decide ((zmo y, j, yy) ∈ zIL) && decide (yy < 250) && decide (yy ≠ zlaw) && decide (zmp yy = n9) && decide (zmh yy = []) && decide (zmr yy = none)) = true := hl
    by_cases h8 : k = 8
    · rw [if_pos h8] at hst
      exact absurd hst (zoi_is _)
    · rw [if_neg h8] at hst hl
      by_cases h7 : k = 7
      · rw [if_pos h7] at hl
        cases hl
      · rw [if_neg h7] at hst hl
        simp only [Bool.and_eq_true, decide_eq_true_eq] at hl
        obtain ⟨a, as1, q1, q2, q4, q5, q6⟩ := zcallI_sp hst
        subst q1; subst q6
        have e : nx' = pc + 3 := by rw [q5]; exact e
        subst e
        exact z_callI IH hl9 hX (zIL_ok _ hl.1.1.1.1.1) hl.1.2 hl.2 hl.1.1.1.1.2 hl.1.1.1.2 hd hl.1.1.2 q2 rfl q4 hen hev I hc hs kk kx
  | invokeinterface j q =>
    obtain ⟨-, -, hl⟩ := zrok1 hr (Nat.succ_ne_zero _)
    cases (show false = true from hl)
  | ireturn =>
    exfalso
    replace hst : (match st with
      | [.int v] => if k = 0 ∨ (k = 1 ∧ (v = 0 ∨ v = 1)) ∨ (k = 2 ∧ 0 ≤ v ∧ v ≤ 255) then zret (some (.int v)) else none
      | _ => none) = some (.inr (.inl (y', as, rr, nx'))) := hst
    repeat' (first | (cases hst; done) | split at hst)
  | lreturn =>
    exfalso
    replace hst : (match st with
      | [.long v] => zret (some (.long v))
      | _ => none) = some (.inr (.inl (y', as, rr, nx'))) := hst
    repeat' (first | (cases hst; done) | split at hst)
  | dreturn =>
    exfalso
    replace hst : (match st with
      | [.double v] => zret (some (.double v))
      | _ => none) = some (.inr (.inl (y', as, rr, nx'))) := hst
    repeat' (first | (cases hst; done) | split at hst)
  | areturn =>
    exfalso
    replace hst : (match st with
      | [.ref v] => zret (some (.ref v))
      | [.retAddr v] => zret (some (.retAddr v))
      | _ => none) = some (.inr (.inl (y', as, rr, nx'))) := hst
    repeat' (first | (cases hst; done) | split at hst)
  | return_ =>
    exfalso
    replace hst : (match st with
      | [] => zret none
      | _ => none) = some (.inr (.inl (y', as, rr, nx'))) := hst
    repeat' (first | (cases hst; done) | split at hst)
  | new j =>
    exfalso
    replace hst : (if k = 9 then (if zcs st ≤ 8 then some (.inr (.inr (.inr yy, 1, 6))) else none) else znew zcf c9 nx L st h) = some (.inr (.inl (y', as, rr, nx'))) := hst
    split at hst
    · split at hst <;> cases hst
    · exact znew_is _ hst
  | _ => exact absurd hst (zis_ok rfl _)
end
section
theorem zchr {v : Int32} (h1 : 0 ≤ v) (h2 : v ≤ 255) : narrow .char (.int v) = .int v := by
  obtain ⟨j, hj, rfl⟩ := nI_of2 (M := 255) (n := 255) (by decide) (Int32.not_lt.mpr h1) h2
  exact (pk_charN (by omega)).1
section ZE
variable {p : Program} {l : Launch} {e : Env} {s : State} {m : MethodId} {args : Array Value} {below : List Frame} {meth : Method} {c : Code} {H : Heap} {locs : List Loc} {cells slots : Nat}
variable {xs : List Int32} {sp : Nat → Nat} {ty : Nat → ClassId} {D : va_G} {A : Nat → Prop} {ads ads0 : List Nat}
variable {d y pc mc0 ms0 : Nat} {L : zL} {st str : List Value} {h h' : zH} {ls : Array Slot} {r : Option Value ⊕ Nat}
theorem zW_end {t : State} (I3 : zW sp ty D A s.heap ads h H locs) (ht : t.heap = H) : zEnd sp ty D A ads h t ∧ va_F A s t ∧ ∀ q ∈ locs, A q.base := by
  obtain ⟨ws, w1, w2, w3, w4, w5, w6⟩ := I3
  exact ⟨⟨ws, by rw [ht]; exact w1, w2, w4, w5, w6⟩, w3.F ht, w3.2.2⟩
theorem z_retv {v v' : Option Value} (I3 : zW sp ty D A s.heap ads h H locs) (hpre : ∃ q0, ads = ads0 ++ q0) (hv : zVo sp ads v v') {t : State} (ht : t.heap = H) : zQc sp ty D A ads0 (.inl v) h args s (.returned v') t := by
  obtain ⟨q0, rfl⟩ := hpre
  obtain ⟨g1, g2, -⟩ := zW_end (s := s) (t := t) I3 ht
  exact ⟨⟨v, v', q0, rfl, rfl, hv, g1⟩, g2⟩
theorem zW_locs (I3 : zW sp ty D A s.heap ads h H locs) : ∀ q ∈ locs, A q.base := by
  obtain ⟨ws, w1, w2, w3, -⟩ := I3
  exact w3.2.2
theorem z_throw {ik E : Nat} (hl9 : l.stackTraces = false) (hX : zX xs sp ty D A y p (zrm d mc0 ms0) s m args meth c) (hts9 : zTok (y, pc, ik, E)) (hdg : decode (zmb y) pc = .ok (.new ik, 3)) (htab : ∀ x ∈ c.exceptionTable.toList, False) (I : zR sp ty D A s.heap (zmL y) ads L st h ls str H locs) (hpre : ∃ q0, ads = ads0 ++ q0) (hcs : zcs st ≤ 8) (hc : cells + 1 ≤ mc0) (hs : slots + 6 ≤ ms0) :
    W p l e (zrm d mc0 ms0) s m args below meth c H locs cells slots (vx_MQ below (zQc sp ty D A ads0 (.inr E) h) (zXC sp ty D A ads0 (.inr E) h) args s mc0 ms0 A) (F0 m pc ls str) := by
  obtain ⟨hx, hb, hml, hret, hlk, hown, hnm, hts, hK, hA, hSP, hRf, hRl⟩ := hX
  obtain ⟨I1, I2, I3⟩ := I
  have hlsz : ls.size = c.maxLocals := by
    obtain ⟨-, lv, hlv, -⟩ := I1
    rw [hml, hlv.1]
  obtain ⟨is9, ic, tx, t1, t2, t3, t4, t5, t6, t7⟩ := hts9
  obtain ⟨sa, hsa⟩ := hSP.2.2.1 _ t3
  have hS : va_S A s.heap H locs := by obtain ⟨ws, w1, w2, w3, -⟩ := id I3; exact w3
  have hgood : ∀ w ∈ Jvm.Cond.classLink (zon (zmo y)) ik (zEn E) :: Jvm.Cond.initialized (zEn E) :: vx_atS (zon (zmo y)) ic (zEn E) zTn, vx_ot w = true := by
    intro w hw
    have hB : w ∈ zB ∨ w ∈ zN2 := by
      rcases List.mem_cons.mp hw with rfl | hw
      · exact Or.inl t1
      · rcases List.mem_cons.mp hw with rfl | hw
        · exact Or.inl t2
        · exact t4 w hw
    unfold vx_ot
    rcases hB with hB | hB
    · rw [zB_gw hB, Bool.or_true]
    · rw [zN2_on w hB, Bool.true_or]
  have hat : ∀ w ∈ vx_atS (zon (zmo y)) ic (zEn E) zTn, w.before args s = true := fun w hw => (t4 w hw).elim (fun g => hts _ g) (fun g => va_Nw.use (zN2_on w g) (hSP.2.2.2.2.1 w g))
  have hX9 : ∀ t : State, s.vm.Alike t.vm → H.size ≤ t.heap.size → (∀ q : Nat, q < H.size → t.heap[q]? = H[q]?) → zXC sp ty D A ads0 (.inr E) h (zEn E) s t := by
    intro t hvm hz hk
    obtain ⟨q0, rfl⟩ := hpre
    obtain ⟨ws, w1, w2, w3, w4, w5, w6⟩ := I3
    refine ⟨⟨E, q0, rfl, rfl, ⟨ws, w1.kept (fun k q hq => hk q.1 ((w1 k q hq).lt)), w2, w4, w5, w6⟩⟩, Nat.le_trans w3.1 hz, fun q h1 h2 => ?_⟩
    rw [hk q (Nat.lt_of_lt_of_le h1 w3.1)]
    exact w3.2.1 q h1 h2
  have hout : ∀ (z : Nat), ∀ x ∈ c.exceptionTable.toList, covers x z = false := fun z x hx => (htab x hx).elim
  have hcs2 : (str.map fun v => v.category).sum + (13 * (zTn.length + 1) + 43) ≤ 40 * d + 3280 := by
    rw [zS_cs I2]
    show zcs st + (13 * (2 + 1) + 43) ≤ _
    omega
  rcases t6 with ⟨g4, g6, g9⟩ | ⟨g4, g7, g10⟩
  · exact vx_throwS hx hb hl9 hown t7 zTn_fit (hts _ t1) (hts _ t2) hsa hat hgood hSP.2.1.1 hSP.2.1.2 hS hlsz hdg t5 g4 g6 g9 (hout _) (by show 2 + 3 < d + 30; omega) hcs2 hc hs hlk hX9 (zW_locs I3) hc hs
  · exact vx_throwSW hx hb hl9 hown t7 zTn_fit (hts _ t1) (hts _ t2) hsa hat hgood hSP.2.1.1 hSP.2.1.2 hS hlsz hdg t5 g4 g7 g10 (hout _) (by show 2 + 3 < d + 30; omega) hcs2 hc hs hlk hX9 (zW_locs I3) hc hs
theorem z_end_ok {i : Instr} {nx k yy n9 c9 dc ds : Nat} (hl9 : l.stackTraces = false) (hX : zX xs sp ty D A y p (zrm d mc0 ms0) s m args meth c) (hr : zrok y (pc, i, nx, k, yy, n9, c9) = true) (hs : zstep zcf xs pc i nx k yy n9 c9 L st h = some (.inr (.inr (r, dc, ds)))) (htab : zmh y = [] → ∀ x ∈ c.exceptionTable.toList, False) (I : zR sp ty D A s.heap (zmL y) ads L st h ls str H locs) (hpre : ∃ q0, ads = ads0 ++ q0) (hc : cells + dc ≤ mc0) (hsl : slots + ds ≤ ms0) :
    W p l e (zrm d mc0 ms0) s m args below meth c H locs cells slots (vx_MQ below (zQc sp ty D A ads0 r h) (zXC sp ty D A ads0 r h) args s mc0 ms0 A) (F0 m pc ls str) := by
  have hX0 := hX
  have I0 := I
  obtain ⟨hx, hb, hml, hret, hlk, hown, hnm, hts, hK, hA, hSP, hRf, hRl⟩ := hX
  obtain ⟨I1, I2, I3⟩ := I
  cases i with
  | ireturn =>
    obtain ⟨hd, -, hl⟩ := zrok1 hr (Nat.succ_ne_zero _)
    replace hs : (match st with
      | [.int v] => if k = 0 ∨ (k = 1 ∧ (v = 0 ∨ v = 1)) ∨ (k = 2 ∧ 0 ≤ v ∧ v ≤ 255) then zret (some (.int v)) else none
      | _ => none) = some (.inr (.inr (r, dc, ds))) := hs
    have hl : (decide (k = 0 ∧ zmr y = some .int) || decide (k = 1 ∧ zmr y = some .boolean) || decide (k = 2 ∧ zmr y = some .char)) = true := hl
    simp only [Bool.or_eq_true, decide_eq_true_eq] at hl
    split at hs
    · next v =>
      split at hs
      · next hk =>
        cases (show some (Sum.inr (Sum.inr (Sum.inl (some (Value.int v)), 0, 0))) = some (Sum.inr (Sum.inr (r, dc, ds))) from hs)
        obtain ⟨_, _, rfl, hv, hr9⟩ := I2
        cases (show _ = Value.int _ from hv)
        cases (show _ = [] from hr9)
        have key : ∃ t9, zmr y = some t9 ∧ narrow t9 (.int v) = .int v := by
          rcases hl with (⟨e1, e2⟩ | ⟨e1, e2⟩) | ⟨e1, e2⟩
          · exact ⟨_, e2, rfl⟩
          · refine ⟨_, e2, ?_⟩
            rcases hk with hk | ⟨-, rfl | rfl⟩ | ⟨hk, -⟩
            · omega
            · rfl
            · rfl
            · omega
          · refine ⟨_, e2, ?_⟩
            rcases hk with hk | ⟨hk, -⟩ | ⟨-, h1, h2⟩
            · omega
            · omega
            · exact zchr h1 h2
        obtain ⟨t9, e1, e2⟩ := key
        exact vx_ret (W.widen hc hsl (W.zret hx hb (hret.trans e1) e2 (fun t ht hW => z_retv I3 hpre (v := some (.int v)) (v' := some (.int v)) ⟨_, rfl, rfl⟩ ht) (zW_locs I3) hd (hlocks := hlk)))
      · cases hs
    · cases hs
  | lreturn =>
    obtain ⟨hd, -, hl⟩ := zrok1 hr (Nat.succ_ne_zero _)
    have hl := of_decide_eq_true (show decide (zmr y = some .long) = true from hl)
    replace hs : (match st with
      | [.long v] => zret (some (.long v))
      | _ => none) = some (.inr (.inr (r, dc, ds))) := hs
    split at hs
    · next v =>
      cases (show some (Sum.inr (Sum.inr (Sum.inl (some (Value.long v)), 0, 0))) = some (Sum.inr (Sum.inr (r, dc, ds))) from hs)
      obtain ⟨_, _, rfl, hv, hr9⟩ := I2
      cases (show _ = Value.long _ from hv)
      cases (show _ = [] from hr9)
      exact vx_ret (W.widen hc hsl (W.lret hx hb (hret.trans hl) (fun t ht hW => z_retv I3 hpre (v := some (.long v)) (v' := some (.long v)) ⟨_, rfl, rfl⟩ ht) (zW_locs I3) hd (hlocks := hlk)))
    · cases hs
  | dreturn =>
    obtain ⟨hd, -, hl⟩ := zrok1 hr (Nat.succ_ne_zero _)
    have hl := of_decide_eq_true (show decide (zmr y = some .double) = true from hl)
    replace hs : (match st with
      | [.double v] => zret (some (.double v))
      | _ => none) = some (.inr (.inr (r, dc, ds))) := hs
    split at hs
    · next v =>
      cases (show some (Sum.inr (Sum.inr (Sum.inl (some (Value.double v)), 0, 0))) = some (Sum.inr (Sum.inr (r, dc, ds))) from hs)
      obtain ⟨_, _, rfl, hv, hr9⟩ := I2
      cases (show _ = Value.double _ from hv)
      cases (show _ = [] from hr9)
      exact vx_ret (W.widen hc hsl (W.dret hx hb (hret.trans hl) (fun t ht hW => z_retv I3 hpre (v := some (.double v)) (v' := some (.double v)) ⟨_, rfl, rfl⟩ ht) (zW_locs I3) hd (hlocks := hlk)))
    · cases hs
  | areturn =>
    obtain ⟨hd, -, hl⟩ := zrok1 hr (Nat.succ_ne_zero _)
    have hl : (match zmr y with
      | some (.object _) => true
      | some (.array _) => true
      | _ => false) = true := hl
    replace hs : (match st with
      | [.ref v] => zret (some (.ref v))
      | [.retAddr v] => zret (some (.retAddr v))
      | _ => none) = some (.inr (.inr (r, dc, ds))) := hs
    have key : ∃ rt, zmr y = some rt ∧ ((∃ n, rt = .object n) ∨ ∃ t, rt = .array t) := by
      split at hl
      · next n e9 => exact ⟨_, e9, Or.inl ⟨_, rfl⟩⟩
      · next n e9 => exact ⟨_, e9, Or.inr ⟨_, rfl⟩⟩
      · cases hl
    obtain ⟨rt, e1, e2⟩ := key
    split at hs
    · next v =>
      cases (show some (Sum.inr (Sum.inr (Sum.inl (some (Value.ref v)), 0, 0))) = some (Sum.inr (Sum.inr (r, dc, ds))) from hs)
      obtain ⟨_, _, rfl, hv, hr9⟩ := I2
      cases (show _ = [] from hr9)
      obtain ⟨a, -, rfl⟩ := id hv
      exact vx_ret (W.widen hc hsl (W.aret hx hb (hret.trans e1) e2 (Or.inr ⟨_, rfl⟩) (fun t ht hW => z_retv I3 hpre (v := some (.ref v)) (v' := some (.ref a)) ⟨_, rfl, hv⟩ ht) (zW_locs I3) hd (hlocks := hlk)))
    · next v =>
      cases (show some (Sum.inr (Sum.inr (Sum.inl (some (Value.retAddr v)), 0, 0))) = some (Sum.inr (Sum.inr (r, dc, ds))) from hs)
      obtain ⟨_, _, rfl, hv, hr9⟩ := I2
      cases (show _ = [] from hr9)
      obtain ⟨-, rfl⟩ := id hv
      exact vx_ret (W.widen hc hsl (W.aret hx hb (hret.trans e1) e2 (Or.inr ⟨_, rfl⟩) (fun t ht hW => z_retv I3 hpre (v := some (.retAddr v)) (v' := some (.ref (sp v))) ⟨_, rfl, hv⟩ ht) (zW_locs I3) hd (hlocks := hlk)))
    · cases hs
  | return_ =>
    obtain ⟨hd, -, hl⟩ := zrok1 hr (Nat.succ_ne_zero _)
    have hl := of_decide_eq_true (show decide (zmr y = none) = true from hl)
    replace hs : (match st with
      | [] => zret none
      | _ => none) = some (.inr (.inr (r, dc, ds))) := hs
    split at hs
    · cases (show some (Sum.inr (Sum.inr (Sum.inl (none : Option Value), 0, 0))) = some (Sum.inr (Sum.inr (r, dc, ds))) from hs)
      cases (show _ = [] from I2)
      exact vx_ret (W.widen hc hsl (W.vret hx hb (hret.trans hl) (fun t ht hW => z_retv I3 hpre (v := none) (v' := none) rfl ht) (zW_locs I3) hd (hlocks := hlk)))
    · cases hs
  | new j =>
    obtain ⟨hd, -, hl⟩ := zrok1 hr (Nat.succ_ne_zero _)
    replace hs : (if k = 9 then (if zcs st ≤ 8 then some (.inr (.inr (.inr yy, 1, 6))) else none) else znew zcf c9 nx L st h) = some (.inr (.inr (r, dc, ds))) := hs
    have hl : ((decide (k = 9) && decide ((y, pc, j, yy) ∈ zTL) && decide (zmh y = [])) || (decide (k ≠ 9) && decide ((zmo y, j, c9) ∈ zCL) && decide (c9 < 11))) = true := hl
    simp only [Bool.and_eq_true, Bool.or_eq_true, decide_eq_true_eq] at hl
    split at hs
    · next hk9 =>
      split at hs
      · next hcs =>
        cases hs
        have hl := hl.resolve_right (fun q => q.1.1 hk9)
        exact z_throw hl9 hX0 (zTL_ok _ hl.1.2) hd (htab hl.2) I0 hpre hcs hc hsl
      · cases hs
    · cases (show some (Sum.inl (nx, L, Value.ref h.length :: st, h ++ [(c9, (zcf c9).map (fun q => zdf q.2))], 1, (zcf c9).length)) = some (Sum.inr (Sum.inr (r, dc, ds))) from hs)
  | invokestatic j =>
    replace hs : (if k = 10 then zcopy nx L st h else if k = 12 then zmm (fun x y => if x < y then y else x) nx L st h else if k = 13 then zmm (fun x y => if y < x then y else x) nx L st h else zcall n9 yy nx st) = some (.inr (.inr (r, dc, ds))) := hs
    split at hs
    · exact absurd hs (zcopy_is _)
    · split at hs
      · exact absurd hs (zmm_is _)
      · split at hs
        · exact absurd hs (zmm_is _)
        · exact absurd hs zcall_nx
  | invokevirtual j =>
    replace hs : (if k = 11 then zgetc nx L st h else zcallV n9 c9 yy nx st h) = some (.inr (.inr (r, dc, ds))) := hs
    split at hs
    · exact absurd hs (zgetc_is _)
    · exact absurd hs zcallV_nx
  | invokeinterface j q => exact absurd hs zcallV_nx
  | invokespecial j =>
    replace hs : (if k = 8 then zoi nx L st h else if k = 7 then zcallV n9 c9 yy nx st h else zcallI n9 yy nx st) = some (.inr (.inr (r, dc, ds))) := hs
    split at hs
    · exact absurd hs (zoi_is _)
    · split at hs
      · exact absurd hs zcallV_nx
      · exact absurd hs zcallI_nx
  | _ => exact absurd hs (zis_ok rfl _)
end ZE
end
section
section ZM
variable {p : Program} {l : Launch} {e : Env} {s : State} {m : MethodId} {args : Array Value} {below : List Frame} {meth : Method} {c : Code} {H : Heap} {locs : List Loc} {cells slots : Nat} {Q : State → Prop}
variable {xs : List Int32} {sp : Nat → Nat} {ty : Nat → ClassId} {D : va_G} {A : Nat → Prop} {ads : List Nat}
theorem zhf_ok {E hp : Nat} : ∀ {t : List (Nat × Nat × Nat × Nat)} {pc : Nat}, zhf t pc E = some hp → ∃ (pre suf : List (Nat × Nat × Nat × Nat)) (a b ct : Nat), t = pre ++ (a, b, hp, ct) :: suf ∧ a ≤ pc ∧ pc < b ∧ zhe ct = E ∧ ∀ z ∈ pre, ¬ (z.1 ≤ pc ∧ pc < z.2.1 ∧ zhe z.2.2.2 = E)
  | [], pc, h => by cases (show none = some hp from h)
  | (a, b, hp', ct) :: r, pc, h => by
    unfold zhf at h
    split at h
    · next g =>
      cases h
      exact ⟨[], r, a, b, ct, rfl, g.1, g.2.1, g.2.2, fun z hz => by cases hz⟩
    · next g =>
      obtain ⟨pre, suf, a', b', ct', rfl, h1, h2, h3, h4⟩ := zhf_ok h
      refine ⟨(a, b, hp', ct) :: pre, suf, a', b', ct', rfl, h1, h2, h3, fun z hz => ?_⟩
      rcases List.mem_cons.mp hz with rfl | hz
      · exact g
      · exact h4 z hz
/-- all the handlers of the tables name one of the three -/
def zhOK : Prop := ∀ y z, z ∈ zmh y → zhe z.2.2.2 < 3 ∧ zon (zmo y) = "ScrubwardLaw"
set_option maxRecDepth 20000 in
theorem zh_ok : zhOK := by
  intro y z hz
  by_cases h : y < 250
  · have e : (List.range 250).all (fun y => (zmh y).all (fun z => decide (zhe z.2.2.2 < 3) && decide (zon (zmo y) = "ScrubwardLaw"))) = true := by decide +kernel
    have h3 := List.all_eq_true.mp (List.all_eq_true.mp e y (List.mem_range.mpr h)) z hz
    rw [Bool.and_eq_true, decide_eq_true_eq, decide_eq_true_eq] at h3
    exact h3
  · have e : zmh y = [] := by
      unfold zmh
      rw [List.getD_eq_getElem?_getD, List.getElem?_eq_none (Nat.not_lt.mp h)]
      rfl
    rw [e] at hz
    cases hz
theorem zEc_in {E : Nat} (h : E < 3) : Jvm.Cond.castable (zEn E) (zEn E) ∈ zN2 := by
  rcases (show E = 0 ∨ E = 1 ∨ E = 2 by omega) with rfl | rfl | rfl <;> decide +kernel
theorem z_caught {y E pc pc2 mc0 ms0 d q9 : Nat} {L L2 : zL} {h : zH} {ls : Array Slot} {r' : List Value} {ce : Cell} (hok : zhOK) (hX : zX xs sp ty D A y p (zrm d mc0 ms0) s m args meth c) (htab : c.exceptionTable.toList = tableOf (zmh y)) (hc : zcatch y pc E L = some (pc2, L2))
    (I1 : zLR sp ads L ls (zmL y)) (I3 : zW sp ty D A s.heap ads h H locs) (hcell : H[q9]? = some ce) (hv : ce.vm = .none) (hcl : s.vm.findClass (zEn E) = some ce.cls)
    (kk : ∀ ls' : Array Slot, zLR sp ads L2 ls' (zmL y) → W p l e (zrm d mc0 ms0) s m args below meth c H locs cells slots Q (F0 m pc2 ls' [])) : vx_W p l e (zrm d mc0 ms0) s m args below meth c H locs cells slots Q (F0 m pc ls r') q9 := by
  obtain ⟨hx, hb, hml, hret, hlk, hown, hnm, hts, hK, hA, hSP, hRf, hRl⟩ := hX
  unfold zcatch at hc
  split at hc
  · next hp hhp =>
    obtain ⟨pre, suf, a, b, ct, e1, e2, e3, e4, e5⟩ := zhf_ok hhp
    have hin : ∀ z ∈ pre ++ (a, b, hp, ct) :: suf, zhe z.2.2.2 < 3 ∧ zon (zmo y) = "ScrubwardLaw" := fun z hz => hok y z (by rw [e1]; exact hz)
    have hlaw := (hin (a, b, hp, ct) (by simp)).2
    have hE : E < 3 := by rw [← e4]; exact (hin (a, b, hp, ct) (by simp)).1
    exact absurd (show (99 : Nat) = E from e4) (by omega)
  · cases hc
end ZM

/-- THE RUN: what the abstract machine does from a point of a method, the machine does -/
theorem z_run {xs : List Int32} : ∀ (n d y pc : Nat) (L : zL) (st : List Value) (h : zH) (nc ns : Nat) (r : Option Value ⊕ Nat) (h' : zH) (nc' ns' : Nat), zev xs n d y pc L st h nc ns = some (r, h', nc', ns') →
    ∀ {p : Program} {l : Launch} {e : Env} {s : State} {m : MethodId} {args : Array Value} {below : List Frame} {meth : Method} {c : Code} {H : Heap} {locs : List Loc} {cells slots mc ms : Nat} {sp : Nat → Nat} {ty : Nat → ClassId} {D : va_G} {A : Nat → Prop} {ads0 ads : List Nat} {ls : Array Slot} {str : List Value}, l.stackTraces = false → zX xs sp ty D A y p (zrm d mc ms) s m args meth c → c.exceptionTable.toList = tableOf (zmh y) → (∃ q, ads = ads0 ++ q) → zR sp ty D A s.heap (zmL y) ads L st h ls str H locs → cells + (nc' - nc) ≤ mc → slots + (ns' - ns) ≤ ms →
      W p l e (zrm d mc ms) s m args below meth c H locs cells slots (vx_MQ below (zQc sp ty D A ads0 r h') (zXC sp ty D A ads0 r h') args s mc ms A) (F0 m pc ls str) := by
  intro n
  induction n with
  | zero =>
    intro d y pc L st h nc ns r h' nc' ns' e
    cases (show none = some _ from e)
  | succ n ih =>
    have IH : zIH xs n := by
      intro d y as L0 h nc ns r h' nc' ns' hy1 hy2 hen hev l hl9 sp ty D ws as' sz hS h5 h6
      have hyM := zM_ok y hy1 hy2
      obtain ⟨m1, m2, m3, m4, m5⟩ := zM_facts hyM
      have body : ∀ (p : Program) (e : Env) (s : State) (m : MethodId) (args : Array Value) (below : List Frame) (meth : Method) (c : Code) (s₁ : State), BodyLoose p l (zmn y) (headSpec (zws y) (zrm d (nc' - nc) (ns' - ns))) (zmb y) (zmL y) (zmr y) e s m args below meth c s₁ → c.maxLocals = zmL y → c.exceptionTable.toList = tableOf (zmh y) → va_Pc as' (zPre xs sp ty D ws sz) args s →
          W p l e (zrm d (nc' - nc) (ns' - ns)) s m args below meth c s.heap [] 0 0 (vx_MQ below (zQc sp ty D (va_A ws sz) (ws.map (fun q => q.1)) r h') (zXC sp ty D (va_A ws sz) (ws.map (fun q => q.1)) r h') args s (nc' - nc) (ns' - ns) (va_A ws sz)) (entryFrame m args (zmL y)) := by
        intro p e s m args below meth c s₁ B hml ht hv
        obtain ⟨rfl, hsz, hP, hK, hD, hSP⟩ := hv
        subst hsz
        rw [lg_entry_eq]
        have hX : zX xs sp ty D (va_A ws s.heap.size) y p (zrm d (nc' - nc) (ns' - ns)) s m as'.toArray meth c := by
          refine ⟨B.exec, B.bytes, hml, B.returns, B.notSynchronized, ?_, (fun q => (name_of_methodNamed B.named B.method).1.trans q), fun w hw => atoms_spec (ws := zws y) B.pre w (List.mem_cons_of_mem _ hw), hK, fun q g => Or.inr g, hSP, by show 20 ≤ d + 30; omega, by show 400 ≤ 40 * d + 3280; omega⟩
          rw [hyM.2.2.1]
          exact findClass_of_methodNamed B.named
        exact ih d y 0 L0 [] h nc ns r h' nc' ns' hev hl9 hX ht ⟨[], by simp⟩ ⟨zen_ok hS hen, rfl, ws, hP, hD.self, va_S.rf, rfl, h5, h6⟩ (by omega) (by omega)
      rcases hyM.1 with ⟨e1, -⟩ | ⟨e1, -⟩
      · have ews : zws y = .code (zmn y) (zmb y) (zmL y) (zmr y) :: zB := by unfold zws; rw [e1]
        refine vx_ofW (cc := zmb y) (maxL := zmL y) (ret := zmr y) m5 ews (fun p e s m args below meth c s₁ B hml ht hv => body p e s m args below meth c s₁ B hml ?_ hv)
        rw [e1]
        exact List.eq_nil_iff_forall_not_mem.mpr (fun x hx => ht x hx)
      · have ews : zws y = .codeWith (zmn y) (zmb y) (zmL y) (zmr y) (zmh y) :: zB := by
          unfold zws
          split
          · next e2 => exact absurd e2 e1
          · rfl
        refine vx_ofWH (cc := zmb y) (maxL := zmL y) (ret := zmr y) (hh := zmh y) m5 ews (fun p e s m args below meth c s₁ B hml hv => body p e s m args below meth c s₁ B hml ?_ hv)
        exact vx_table (x := zmn y) B (atoms_spec (ws := zws y) B.pre _ (by rw [ews]; exact List.mem_cons_self))
    intro d y pc L st h nc ns r h' nc' ns' e9 p l e s m args below meth c H locs cells slots mc ms sp ty D A ads0 ads ls str hl9 hX htab hpre I hc hs
    have hmono := zev_mono (n + 1) d y pc L st h nc ns r h' nc' ns' e9
    unfold zev at e9
    split at e9
    · cases e9
    · next i nx k yy n9 c9 hat =>
      have hrow := zrows_ok y _ (zat_mem hat)
      have htab0 : zmh y = [] → ∀ x ∈ c.exceptionTable.toList, False := by
        intro q x hx
        rw [htab, q] at hx
        cases hx
      split at e9
      · cases e9
      · next pc' L' st' h1 dc ds hst =>
        have hm1 := zev_mono n _ _ _ _ _ _ _ _ _ _ _ _ e9
        refine z_step_ok hX hrow hst I (by show cells + dc ≤ mc; omega) (by show slots + ds ≤ ms; omega) (fun q ls' str' H' locs' I' => ?_)
        obtain ⟨q0, rfl⟩ := hpre
        exact ih d y pc' L' st' h1 _ _ r h' nc' ns' e9 hl9 hX htab ⟨q0 ++ q, by rw [List.append_assoc]⟩ I' (by omega) (by omega)
      · next r1 dc ds hst =>
        cases e9
        exact z_end_ok hl9 hX hrow hst htab0 I hpre (by omega) (by omega)
      · next y' as rr nx' hst =>
        split at e9
        · cases e9
        · next d' =>
          split at e9
          · cases e9
          · next L0 hen =>
            split at e9
            · next v h1 nc1 ns1 hev =>
              have hm0 := zev_mono n _ _ _ _ _ _ _ _ _ _ _ _ hev
              have hm1 := zev_mono n _ _ _ _ _ _ _ _ _ _ _ _ e9
              refine z_call_ok IH hl9 hX hrow hst hen hev I (by omega) (by omega) (fun v1 v' q r' H1 locs1 g1 g2 g3 g4 => ?_) (fun k q9 ce q r' H1 locs1 g1 => by cases g1)
              cases g1
              obtain ⟨q0, rfl⟩ := hpre
              refine ih (d' + 1) y nx' L _ h1 nc1 ns1 r h' nc' ns' e9 hl9 hX htab ⟨q0 ++ q, by rw [List.append_assoc]⟩ ⟨zLR_mono q I.1, ?_, g4⟩ (by omega) (by omega)
              cases v with
              | none =>
                cases (show v' = none from g2)
                exact zS_mono q g3
              | some w =>
                obtain ⟨w', rfl, g2⟩ := g2
                exact ⟨w', r', rfl, g2, zS_mono q g3⟩
            · next E h1 nc1 ns1 hev =>
              have hm0 := zev_mono n _ _ _ _ _ _ _ _ _ _ _ _ hev
              split at e9
              · next hnil =>
                cases e9
                refine z_call_ok IH hl9 hX hrow hst hen hev I (by omega) (by omega) (fun v1 v' q r' H1 locs1 g1 => by cases g1) (fun k q9 ce q r' H1 locs1 g1 g3 g4 g5 g6 g7 => ?_)
                cases g1
                obtain ⟨q0, rfl⟩ := hpre
                refine vx_out (fun x hx => (htab0 hnil x hx).elim) hX.2.2.2.2.1 g5 g6 g7 (fun t ht hvm => ?_) (zW_locs g4) (by omega) (by omega)
                rw [List.append_assoc] at g4
                obtain ⟨u1, u2, -⟩ := zW_end (s := s) (t := t) g4 ht
                exact ⟨⟨E, q0 ++ q, rfl, rfl, u1⟩, u2⟩
              · split at e9
                · next pc2 L2 hct =>
                  have hm1 := zev_mono n _ _ _ _ _ _ _ _ _ _ _ _ e9
                  refine z_call_ok IH hl9 hX hrow hst hen hev I (by omega) (by omega) (fun v1 v' q r' H1 locs1 g1 => by cases g1) (fun k q9 ce q r' H1 locs1 g1 g3 g4 g5 g6 g7 => ?_)
                  cases g1
                  obtain ⟨q0, rfl⟩ := hpre
                  exact z_caught zh_ok hX htab hct (zLR_mono q I.1) g4 g5 g6 g7 (fun ls' g8 => ih (d' + 1) y pc2 L2 [] h1 nc1 ns1 r h' nc' ns' e9 hl9 hX htab ⟨q0 ++ q, by rw [List.append_assoc]⟩ ⟨g8, rfl, g4⟩ (by omega) (by omega))
                · cases e9
            · cases e9
end
section
/-! Rules for runs: 'from some fuel on'. -/
def zEv (xs : List Int32) (y pc : Nat) (L : zL) (st : List Value) (h : zH) (nc ns : Nat) (o : zO) : Prop := ∃ D N, ∀ d n, D ≤ d → N ≤ n → zev xs n d y pc L st h nc ns = some o
/-- a whole call -/
def zMt (xs : List Int32) (y : Nat) (as : List Value) (h : zH) (nc ns : Nat) (o : zO) : Prop := ∃ L0, zen (zmL y) as = some L0 ∧ zEv xs y 0 L0 [] h nc ns o
section ZR
variable {xs : List Int32} {y pc nx k yy m c : Nat} {i : Instr} {L : zL} {st : List Value} {h : zH} {nc ns : Nat} {o : zO}
theorem zEv_step {pc' dc ds : Nat} {L' : zL} {st' : List Value} {h' : zH} (h1 : zat (zmc y) pc = some (i, nx, k, yy, m, c)) (h2 : zstep zcf xs pc i nx k yy m c L st h = some (.inl (pc', L', st', h', dc, ds))) (h3 : zEv xs y pc' L' st' h' (nc + dc) (ns + ds) o) : zEv xs y pc L st h nc ns o := by
  obtain ⟨D, N, g⟩ := h3
  refine ⟨D, N + 1, fun d n hd hn => ?_⟩
  obtain ⟨n, rfl⟩ : ∃ q, n = q + 1 := ⟨n - 1, by omega⟩
  unfold zev
  rw [h1]
  dsimp only
  rw [h2]
  exact g d n hd (by omega)
theorem zEv_end {dc ds : Nat} {r : Option Value ⊕ Nat} (h1 : zat (zmc y) pc = some (i, nx, k, yy, m, c)) (h2 : zstep zcf xs pc i nx k yy m c L st h = some (.inr (.inr (r, dc, ds)))) (h3 : o = (r, h, nc + dc, ns + ds)) : zEv xs y pc L st h nc ns o := by
  refine ⟨0, 1, fun d n hd hn => ?_⟩
  obtain ⟨n, rfl⟩ : ∃ q, n = q + 1 := ⟨n - 1, by omega⟩
  unfold zev
  rw [h1]
  dsimp only
  rw [h2, h3]
theorem zEv_call {y' nx' nc1 ns1 : Nat} {as r : List Value} {v : Option Value} {h1 : zH} (e1 : zat (zmc y) pc = some (i, nx, k, yy, m, c)) (e2 : zstep zcf xs pc i nx k yy m c L st h = some (.inr (.inl (y', as, r, nx')))) (e3 : zMt xs y' as h nc ns (.inl v, h1, nc1, ns1)) (e4 : zEv xs y nx' L (v.toList ++ r) h1 nc1 ns1 o) : zEv xs y pc L st h nc ns o := by
  obtain ⟨L0, hL, D1, N1, g1⟩ := e3
  obtain ⟨D2, N2, g2⟩ := e4
  refine ⟨D1 + D2 + 1, N1 + N2 + 1, fun d n hd hn => ?_⟩
  obtain ⟨n, rfl⟩ : ∃ q, n = q + 1 := ⟨n - 1, by omega⟩
  obtain ⟨d, rfl⟩ : ∃ q, d = q + 1 := ⟨d - 1, by omega⟩
  unfold zev
  rw [e1]
  dsimp only
  rw [e2]
  dsimp only
  rw [hL]
  dsimp only
  rw [g1 d n (by omega) (by omega)]
  dsimp only
  exact g2 (d + 1) n (by omega) (by omega)
/-- the callee throws, and it is not caught here -/
theorem zEv_callx {y' nx' nc1 ns1 E : Nat} {as r : List Value} {h1 : zH} (e0 : zmh y = []) (e1 : zat (zmc y) pc = some (i, nx, k, yy, m, c)) (e2 : zstep zcf xs pc i nx k yy m c L st h = some (.inr (.inl (y', as, r, nx')))) (e3 : zMt xs y' as h nc ns (.inr E, h1, nc1, ns1)) (e4 : o = (.inr E, h1, nc1, ns1)) : zEv xs y pc L st h nc ns o := by
  obtain ⟨L0, hL, D1, N1, g1⟩ := e3
  refine ⟨D1 + 1, N1 + 1, fun d n hd hn => ?_⟩
  obtain ⟨n, rfl⟩ : ∃ q, n = q + 1 := ⟨n - 1, by omega⟩
  obtain ⟨d, rfl⟩ : ∃ q, d = q + 1 := ⟨d - 1, by omega⟩
  unfold zev
  rw [e1]
  dsimp only
  rw [e2]
  dsimp only
  rw [hL]
  dsimp only
  rw [g1 d n (by omega) (by omega)]
  dsimp only
  rw [e0, e4]
/-- .. and is caught -/
theorem zEv_callc {y' nx' nc1 ns1 E pc2 : Nat} {as r : List Value} {h1 : zH} {L2 : zL} (e0 : zmh y ≠ []) (e1 : zat (zmc y) pc = some (i, nx, k, yy, m, c)) (e2 : zstep zcf xs pc i nx k yy m c L st h = some (.inr (.inl (y', as, r, nx')))) (e3 : zMt xs y' as h nc ns (.inr E, h1, nc1, ns1)) (e4 : zcatch y pc E L = some (pc2, L2)) (e5 : zEv xs y pc2 L2 [] h1 nc1 ns1 o) : zEv xs y pc L st h nc ns o := by
  obtain ⟨L0, hL, D1, N1, g1⟩ := e3
  obtain ⟨D2, N2, g2⟩ := e5
  refine ⟨D1 + D2 + 1, N1 + N2 + 1, fun d n hd hn => ?_⟩
  obtain ⟨n, rfl⟩ : ∃ q, n = q + 1 := ⟨n - 1, by omega⟩
  obtain ⟨d, rfl⟩ : ∃ q, d = q + 1 := ⟨d - 1, by omega⟩
  unfold zev
  rw [e1]
  dsimp only
  rw [e2]
  dsimp only
  rw [hL]
  dsimp only
  rw [g1 d n (by omega) (by omega)]
  dsimp only
  split
  · next q => exact absurd q e0
  · rw [e4]
    exact g2 (d + 1) n (by omega) (by omega)
/-- several steps at once -/
def zrun (xs : List Int32) (y : Nat) : Nat → Nat → zL → List Value → zH → Nat → Nat → Option (Nat × zL × List Value × zH × Nat × Nat)
  | 0, pc, L, st, h, nc, ns => some (pc, L, st, h, nc, ns)
  | n + 1, pc, L, st, h, nc, ns => match zat (zmc y) pc with
    | none => none
    | some (i, nx, k, yy, m, c) => match zstep zcf xs pc i nx k yy m c L st h with
      | some (.inl (pc', L', st', h', dc, ds)) => zrun xs y n pc' L' st' h' (nc + dc) (ns + ds)
      | _ => none
theorem zEv_run : ∀ (n : Nat) {pc pc' nc ns nc' ns' : Nat} {L L' : zL} {st st' : List Value} {h h' : zH} {o : zO}, zrun xs y n pc L st h nc ns = some (pc', L', st', h', nc', ns') → zEv xs y pc' L' st' h' nc' ns' o → zEv xs y pc L st h nc ns o
  | 0, pc, pc', nc, ns, nc', ns', L, L', st, st', h, h', o, e, k => by
    cases (show some _ = some _ from e)
    exact k
  | n + 1, pc, pc', nc, ns, nc', ns', L, L', st, st', h, h', o, e, k => by
    unfold zrun at e
    split at e
    · cases e
    · next h1 =>
      split at e
      · next h2 => exact zEv_step h1 h2 (zEv_run n e k)
      · cases e
end ZR
end
