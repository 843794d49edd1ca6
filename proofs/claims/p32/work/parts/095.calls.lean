/-- a method's run from its entry, as a contract -/
def zIH (xs : List Int32) (n : Nat) : Prop := ∀ (d y : Nat) (as : List Value) (L0 : zL) (h : zH) (nc ns : Nat) (v9 : Option Value) (h' : zH) (nc' ns' : Nat), y < 250 → y ≠ zlaw → zen (zmL y) as = some L0 → zev xs n d y 0 L0 [] h nc ns = some ((.inl v9 : Option Value ⊕ Nat), h', nc', ns') →
  ∀ (l : Launch), l.stackTraces = false → ∀ (sp : Nat → Nat) (ty : Nat → ClassId) (D : va_G) (ws : va_W) (as' : List Value) (sz : Nat), zS sp (ws.map (fun q => q.1)) as as' → h.length = ws.length → (∀ (k : Nat) (c : Nat × List Value) (q : Nat × va_E), h[k]? = some c → ws[k]? = some q → zC sp ty (ws.map (fun q => q.1)) c q.2) →
  vx_Met l (zmn y) (zws y) (zrm d (nc' - nc) (ns' - ns)) (va_Pc as' (zPre xs sp ty D ws sz)) (zQc sp ty D (va_A ws sz) (ws.map (fun q => q.1)) (.inl v9) h') (zXC sp ty D (va_A ws sz) (ws.map (fun q => q.1)) (.inl v9) h') (nc' - nc) (ns' - ns) (va_A ws sz)
theorem zrm_loc {d mc ms mc0 ms0 k : Nat} (h : k ≤ 20) : 8 + (k + 11) + (zrm d mc ms).locals ≤ (zrm (d + 1) mc0 ms0).locals := by
  unfold zrm
  dsimp only
  omega
section ZP
variable {p : Program} {l : Launch} {e : Env} {s : State} {m : MethodId} {args : Array Value} {below : List Frame} {meth : Method} {c : Code} {H : Heap} {locs : List Loc} {cells slots : Nat} {Q : State → Prop}
variable {xs : List Int32} {sp : Nat → Nat} {ty : Nat → ClassId} {D : va_G} {A : Nat → Prop} {ads : List Nat}
variable {n d y y' idx n9 pc mc0 ms0 : Nat} {L L0 : zL} {st as rr str : List Value} {h h1 : zH} {ls : Array Slot} {v9 : Option Value} {nc ns nc1 ns1 : Nat}
theorem zM_facts (hy : zMok y') : (Jvm.Cond.initialized (zmn y').cls ∈ zB) ∧ ((zmn y').cls ≠ "java/lang/invoke/MethodHandle" ∧ (zmn y').cls ≠ "java/lang/invoke/VarHandle") ∧ (parseMethodDescriptor (zmn y').desc).map (fun d => d.parameters.length) = some (zmp y') ∧ zmL y' ≤ 20 ∧ plainName (zmn y').cls = true := by
  obtain ⟨-, h1, -, h2, h3, h4⟩ := hy
  obtain ⟨g1, g2, g3⟩ := Bundle.fit_spec h2
  exact ⟨h1, ⟨g2, g3⟩, h3, h4, g1⟩
theorem z_wA {ws : va_W} (w2 : va_D A ws) (w3 : va_S A s.heap H locs) (hA : ∀ q, s.heap.size ≤ q → A q) : ∀ q, va_A ws H.size q → A q := by
  intro q g
  rcases g with ⟨k, e, g⟩ | g
  · exact w2.2 k _ g
  · exact hA q (Nat.le_trans w3.1 g)
theorem z_callS (IH : zIH xs n) (hl9 : l.stackTraces = false) (hX : zX xs sp ty D A y p (zrm (d + 1) mc0 ms0) s m args meth c) (hl : zSok (zmo y, idx, y')) (hy1 : y' < 250) (hy2 : y' ≠ zlaw) (hdg : decode (zmb y) pc = .ok (.invokestatic idx, 3)) (hn : zmp y' = n9) (hpop : ztk n9 [] st = some (as, rr)) (hcs : zcs rr ≤ 8) (hen : zen (zmL y') as = some L0) (hev : zev xs n d y' 0 L0 [] h nc ns = some ((.inl v9 : Option Value ⊕ Nat), h1, nc1, ns1))
    (I : zR sp ty D A s.heap (zmL y) ads L st h ls str H locs) (hc : cells + (nc1 - nc) ≤ mc0) (hs : slots + (ns1 - ns) ≤ ms0)
    (kk : ∀ (v v' : Option Value) (q : List Nat) (r' : List Value) (H1 : Heap) (locs1 : List Loc), (.inl v9 : Option Value ⊕ Nat) = .inl v → zVo sp (ads ++ q) v v' → zS sp ads rr r' → zW sp ty D A s.heap (ads ++ q) h1 H1 locs1 → W p l e (zrm (d + 1) mc0 ms0) s m args below meth c H1 locs1 (cells + (nc1 - nc)) (slots + (ns1 - ns)) Q (F0 m (pc + 3) ls (v'.toList ++ r')))
    (kx : ∀ (k q9 : Nat) (ce : Cell) (q : List Nat) (r' : List Value) (H1 : Heap) (locs1 : List Loc), (.inl v9 : Option Value ⊕ Nat) = .inr k → zS sp ads rr r' → zW sp ty D A s.heap (ads ++ q) h1 H1 locs1 → H1[q9]? = some ce → ce.vm = .none → s.vm.findClass (zEn k) = some ce.cls → vx_W p l e (zrm (d + 1) mc0 ms0) s m args below meth c H1 locs1 (cells + (nc1 - nc)) (slots + (ns1 - ns)) Q (F0 m pc ls r') q9) :
    W p l e (zrm (d + 1) mc0 ms0) s m args below meth c H locs cells slots Q (F0 m pc ls str) := by
  obtain ⟨hx, hb, hml, hret, hlk, hown, hnm, hts, hK, hA, hSP, hRf, hRl⟩ := hX
  obtain ⟨I1, I2, ws, w1, w2, w3, w4, w5, w6⟩ := I
  obtain ⟨as', r', q1, q2, q3, q4⟩ := ztk_S n9 (acc := []) (acc' := []) rfl I2 hpop
  have q3 : str = as'.reverse ++ r' := q3
  have hyM := zM_ok y' hy1 hy2
  obtain ⟨m1, m2, m3, m4, m5⟩ := zM_facts hyM
  have hA1 := z_wA w2 w3 hA
  subst w4
  have hM := IH d y' as L0 h nc ns v9 h1 nc1 ns1 hy1 hy2 hen hev l hl9 sp ty D ws as' H.size q1 w5 w6
  have hlen : as'.length = n9 := by rw [zS_len q1, q4]; simp
  have hlsz : ls.size = zmL y := by
    obtain ⟨-, lv, hlv, -⟩ := I1
    exact hlv.1
  rcases hyM.1 with ⟨e1, hcode⟩ | ⟨e1, hcode⟩
  · have ews : zws y' = .code (zmn y') (zmb y') (zmL y') (zmr y') :: zB := by unfold zws; rw [e1]
    have hrun := vx_runS (R := zrm (d + 1) mc0 ms0) (e := e) (below := below) (meth := meth) (s := s) (args := args) (m := m) (c := c) (p := p) (g := F0 m pc ls str) (As := as') (rest := r') (own := zon (zmo y)) (Ts := zB) (nL := zmL y) (cells := cells) (slots := slots) (locs := locs) (H := H) ⟨hx, hb, hml, hown, hts⟩ hM
      ⟨callB_of n9 hts (zws_good (zM_ok y' hy1 hy2)) ews rfl rfl (hts _ m1) (hts _ hl.1) ⟨m2.1, m2.2, by rw [m3, hn]⟩ ⟨by show d + 5 + 1 ≤ d + 1 + 5; omega, zrm_loc m4⟩, hts _ hl.2⟩
      ⟨zPre_blind, fun U hU hW => zPre_at hK hSP w1 w2 w3 hA hU hW⟩ rfl hlen hlsz (by show str = _; exact q3) (lv_room (by rw [zS_cs q2]; exact hcs)) hdg ⟨hc, hs⟩
    exact z_callW (len := 3) hrun w3 hA1 (fun v v' q H1 locs1 g1 g2 g3 => kk v v' q r' H1 locs1 g1 g2 q2 g3) (fun k q9 ce q H1 locs1 g1 g2 g3 g4 g5 => kx k q9 ce q r' H1 locs1 g1 q2 g2 g3 g4 g5)
  · have ews : zws y' = .codeWith (zmn y') (zmb y') (zmL y') (zmr y') (zmh y') :: zB := by
      unfold zws
      split
      · next e2 => exact absurd e2 e1
      · rfl
    have hG := zws_good (zM_ok y' hy1 hy2)
    have hrun := vx_runSX (e := e) (below := below) (meth := meth) (s := s) (m := m) (c := c) (p := p) (g := F0 m pc ls str) (As := as') (rest := r') (own := zon (zmo y)) (Ts := zB) (nL := zmL y) (cells := cells) (slots := slots) (locs := locs) (H := H) (y := zmn y') (bytes := zmb y') (maxL := zmL y') (ret := zmr y') (hh := zmh y') (n := n9) (index := idx) (R := zrm (d + 1) mc0 ms0) (args := args) ⟨hx, hb, hml, hown, hts⟩ hM
      ⟨⟨rfl, rfl, by show d + 5 + 1 ≤ d + 1 + 5; omega, zrm_loc m4, pay_in hts hG, by rw [ews]; exact List.mem_cons_self⟩, hts _ hcode, hts _ m1, m2, (fun sig h9 => by rw [h9] at m3; exact (Option.some.inj (m3.trans (congrArg some hn))).symm), hts _ hl.1, hts _ hl.2⟩
      ⟨zPre_blind, fun U hU hW => zPre_at hK hSP w1 w2 w3 hA hU hW⟩ rfl hlen hlsz (by show str = _; exact q3) (lv_room (by rw [zS_cs q2]; exact hcs)) hdg ⟨hc, hs⟩
    exact z_callW (len := 3) hrun w3 hA1 (fun v v' q H1 locs1 g1 g2 g3 => kk v v' q r' H1 locs1 g1 g2 q2 g3) (fun k q9 ce q H1 locs1 g1 g2 g3 g4 g5 => kx k q9 ce q r' H1 locs1 g1 q2 g2 g3 g4 g5)
theorem z_callV (IH : zIH xs n) (hl9 : l.stackTraces = false) (hX : zX xs sp ty D A y p (zrm (d + 1) mc0 ms0) s m args meth c) {c9 : Nat} (hc9 : c9 < 6) (hl : zVok (zmo y, idx, y', c9)) (hnh : zmh y' = []) (hy1 : y' < 250) (hy2 : y' ≠ zlaw) (hdg : decode (zmb y) pc = .ok (.invokevirtual idx, 3)) (hn : zmp y' = n9) (hpop : ztk (n9 + 1) [] st = some (as, rr)) {a : Nat} {as0 : List Value} (has : as = .ref a :: as0) {vs : List Value} (hcell : h[a]? = some (c9, vs)) (hcs : zcs rr ≤ 8) (hen : zen (zmL y') as = some L0) (hev : zev xs n d y' 0 L0 [] h nc ns = some ((.inl v9 : Option Value ⊕ Nat), h1, nc1, ns1))
    (I : zR sp ty D A s.heap (zmL y) ads L st h ls str H locs) (hc : cells + (nc1 - nc) ≤ mc0) (hs : slots + (ns1 - ns) ≤ ms0)
    (kk : ∀ (v v' : Option Value) (q : List Nat) (r' : List Value) (H1 : Heap) (locs1 : List Loc), (.inl v9 : Option Value ⊕ Nat) = .inl v → zVo sp (ads ++ q) v v' → zS sp ads rr r' → zW sp ty D A s.heap (ads ++ q) h1 H1 locs1 → W p l e (zrm (d + 1) mc0 ms0) s m args below meth c H1 locs1 (cells + (nc1 - nc)) (slots + (ns1 - ns)) Q (F0 m (pc + 3) ls (v'.toList ++ r')))
    (kx : ∀ (k q9 : Nat) (ce : Cell) (q : List Nat) (r' : List Value) (H1 : Heap) (locs1 : List Loc), (.inl v9 : Option Value ⊕ Nat) = .inr k → zS sp ads rr r' → zW sp ty D A s.heap (ads ++ q) h1 H1 locs1 → H1[q9]? = some ce → ce.vm = .none → s.vm.findClass (zEn k) = some ce.cls → vx_W p l e (zrm (d + 1) mc0 ms0) s m args below meth c H1 locs1 (cells + (nc1 - nc)) (slots + (ns1 - ns)) Q (F0 m pc ls r') q9) :
    W p l e (zrm (d + 1) mc0 ms0) s m args below meth c H locs cells slots Q (F0 m pc ls str) := by
  obtain ⟨hx, hb, hml, hret, hlk, hown, hnm, hts, hK, hA, hSP, hRf, hRl⟩ := hX
  obtain ⟨I1, I2, I3⟩ := I
  obtain ⟨as', r', q1, q2, q3, q4⟩ := ztk_S (n9 + 1) (acc := []) (acc' := []) rfl I2 hpop
  have q3 : str = as'.reverse ++ r' := q3
  subst has
  obtain ⟨b', as0', rfl, hb9, q1'⟩ := id q1
  obtain ⟨ws, b, ec, rfl, -, wa, wb, w1, w2, w3, w4, w5, w6⟩ := z_W I3 hcell hb9
  obtain ⟨vs', rfl, -⟩ := z_obj (by omega) wb
  have hyM := zM_ok y' hy1 hy2
  obtain ⟨m1, m2, m3, m4, m5⟩ := zM_facts hyM
  have hA1 := z_wA w2 w3 hA
  subst w4
  have hM := IH d y' _ L0 h nc ns v9 h1 nc1 ns1 hy1 hy2 hen hev l hl9 sp ty D ws (.ref b :: as0') H.size q1 w5 w6
  have hlen : as0'.length = n9 := by
    have := zS_len q1
    rw [q4] at this
    simpa using this
  have hlsz : ls.size = zmL y := by
    obtain ⟨-, lv, hlv, -⟩ := I1
    exact hlv.1
  have hcode : Jvm.Cond.code (zmn y') (zmb y') (zmL y') (zmr y') ∈ zB := by
    rcases hyM.1 with ⟨-, h9⟩ | ⟨h8, -⟩
    · exact h9
    · exact absurd hnh h8
  have ews : zws y' = .code (zmn y') (zmb y') (zmL y') (zmr y') :: zB := by unfold zws; rw [hnh]
  obtain ⟨o1, o2, o3, o4, o5, o6⟩ := zc_ok c9 hc9
  have hrec : ∃ cellB : Cell, H[b]? = some cellB ∧ cellB.vm.isStatics = false ∧ s.vm.findClass (zcn c9) = some cellB.cls := va_recv hK w1 o6 wa
  have hrun := vx_runV (R := zrm (d + 1) mc0 ms0) (e := e) (below := below) (meth := meth) (s := s) (args := args) (m := m) (c := c) (p := p) (g := F0 m pc ls str) (As := as0') (b := b) (C := zcn c9) (rest := r') (own := zon (zmo y)) (Ts := zB) (nL := zmL y) (cells := cells) (slots := slots) (locs := locs) (H := H) ⟨hx, hb, hml, hown, hts⟩ hM
      ⟨callB_of n9 hts (zws_good (zM_ok y' hy1 hy2)) ews rfl rfl (hts _ m1) (hts _ hl.1) ⟨m2.1, m2.2, by rw [m3, hn]⟩ ⟨by show d + 5 + 1 ≤ d + 1 + 5; omega, zrm_loc m4⟩, hts _ hl.2.1, hts _ hl.2.2⟩
      ⟨zPre_blind, hrec, fun U hU hW => zPre_at hK hSP w1 w2 w3 hA hU hW⟩ rfl hlen hlsz (by show str = _; rw [q3]; simp) (lv_room (by rw [zS_cs q2]; exact hcs)) hdg ⟨hc, hs⟩
  exact z_callW (len := 3) hrun w3 hA1 (fun v v' q H1 locs1 g1 g2 g3 => kk v v' q r' H1 locs1 g1 g2 q2 g3) (fun k q9 ce q H1 locs1 g1 g2 g3 g4 g5 => kx k q9 ce q r' H1 locs1 g1 q2 g2 g3 g4 g5)
theorem z_callI (IH : zIH xs n) (hl9 : l.stackTraces = false) (hX : zX xs sp ty D A y p (zrm (d + 1) mc0 ms0) s m args meth c) (hl : zIok (zmo y, idx, y')) (hnh : zmh y' = []) (hnr : zmr y' = none) (hy1 : y' < 250) (hy2 : y' ≠ zlaw) (hdg : decode (zmb y) pc = .ok (.invokespecial idx, 3)) (hn : zmp y' = n9) (hpop : ztk (n9 + 1) [] st = some (as, rr)) {a : Nat} {as0 : List Value} (has : as = .ref a :: as0) (hcs : zcs rr ≤ 8) (hen : zen (zmL y') as = some L0) (hev : zev xs n d y' 0 L0 [] h nc ns = some ((.inl v9 : Option Value ⊕ Nat), h1, nc1, ns1))
    (I : zR sp ty D A s.heap (zmL y) ads L st h ls str H locs) (hc : cells + (nc1 - nc) ≤ mc0) (hs : slots + (ns1 - ns) ≤ ms0)
    (kk : ∀ (v v' : Option Value) (q : List Nat) (r' : List Value) (H1 : Heap) (locs1 : List Loc), (.inl v9 : Option Value ⊕ Nat) = .inl v → zVo sp (ads ++ q) v v' → zS sp ads rr r' → zW sp ty D A s.heap (ads ++ q) h1 H1 locs1 → W p l e (zrm (d + 1) mc0 ms0) s m args below meth c H1 locs1 (cells + (nc1 - nc)) (slots + (ns1 - ns)) Q (F0 m (pc + 3) ls (v'.toList ++ r')))
    (kx : ∀ (k q9 : Nat) (ce : Cell) (q : List Nat) (r' : List Value) (H1 : Heap) (locs1 : List Loc), (.inl v9 : Option Value ⊕ Nat) = .inr k → zS sp ads rr r' → zW sp ty D A s.heap (ads ++ q) h1 H1 locs1 → H1[q9]? = some ce → ce.vm = .none → s.vm.findClass (zEn k) = some ce.cls → vx_W p l e (zrm (d + 1) mc0 ms0) s m args below meth c H1 locs1 (cells + (nc1 - nc)) (slots + (ns1 - ns)) Q (F0 m pc ls r') q9) :
    W p l e (zrm (d + 1) mc0 ms0) s m args below meth c H locs cells slots Q (F0 m pc ls str) := by
  obtain ⟨hx, hb, hml, hret, hlk, hown, hnm, hts, hK, hA, hSP, hRf, hRl⟩ := hX
  obtain ⟨I1, I2, ws, w1, w2, w3, w4, w5, w6⟩ := I
  obtain ⟨as', r', q1, q2, q3, q4⟩ := ztk_S (n9 + 1) (acc := []) (acc' := []) rfl I2 hpop
  have q3 : str = as'.reverse ++ r' := q3
  subst has
  obtain ⟨b', as0', rfl, ⟨b, hb9, rfl⟩, q1'⟩ := id q1
  have hyM := zM_ok y' hy1 hy2
  obtain ⟨m1, m2, m3, m4, m5⟩ := zM_facts hyM
  have hA1 := z_wA w2 w3 hA
  subst w4
  have hM := IH d y' _ L0 h nc ns v9 h1 nc1 ns1 hy1 hy2 hen hev l hl9 sp ty D ws (.ref b :: as0') H.size q1 w5 w6
  have hlen : as0'.length = n9 := by
    have := zS_len q1
    rw [q4] at this
    simpa using this
  have hlsz : ls.size = zmL y := by
    obtain ⟨-, lv, hlv, -⟩ := I1
    exact hlv.1
  have ews : zws y' = .code (zmn y') (zmb y') (zmL y') none :: zB := by unfold zws; rw [hnh, hnr]
  obtain ⟨hlink, hinst, hnmi⟩ := hl
  rcases hlink with hlink | ⟨host, hlink⟩
  · have hrun := vx_runI (R := zrm (d + 1) mc0 ms0) (e := e) (below := below) (meth := meth) (s := s) (args := args) (m := m) (c := c) (p := p) (g := F0 m pc ls str) (As := as0') (b := b) (rest := r') (own := zon (zmo y)) (Ts := zB) (nL := zmL y) (cells := cells) (slots := slots) (locs := locs) (H := H) ⟨hx, hb, hml, hown, hts⟩ hM
        ⟨callB_of n9 hts (zws_good (zM_ok y' hy1 hy2)) ews rfl rfl (hts _ m1) (hts _ hlink) ⟨m2.1, m2.2, by rw [m3, hn]⟩ ⟨by show d + 5 + 1 ≤ d + 1 + 5; omega, zrm_loc m4⟩, hnmi, hts _ hinst⟩
        ⟨zPre_blind, fun U hU hW => zPre_at hK hSP w1 w2 w3 hA hU hW⟩ rfl hlen hlsz (by show str = _; rw [q3]; simp) (lv_room (by rw [zS_cs q2]; exact hcs)) hdg ⟨hc, hs⟩
    exact z_callW (len := 3) hrun w3 hA1 (fun v v' q H1 locs1 g1 g2 g3 => kk v v' q r' H1 locs1 g1 g2 q2 g3) (fun k q9 ce q H1 locs1 g1 g2 g3 g4 g5 => kx k q9 ce q r' H1 locs1 g1 q2 g2 g3 g4 g5)
  · have hrun := vx_runIN (R := zrm (d + 1) mc0 ms0) (e := e) (below := below) (meth := meth) (s := s) (args := args) (m := m) (c := c) (p := p) (g := F0 m pc ls str) (As := as0') (b := b) (rest := r') (own := zon (zmo y)) (Ts := zB) (nL := zmL y) (cells := cells) (slots := slots) (locs := locs) (H := H) ⟨hx, hb, hml, hown, hts⟩ hM
        ⟨va_cnB n9 hts (zws_good (zM_ok y' hy1 hy2)) ews rfl rfl (hSP.1 _ hlink) (hts _ m1) ⟨m2.1, m2.2, by rw [m3, hn]⟩ ⟨by show d + 5 + 1 ≤ d + 1 + 5; omega, zrm_loc m4⟩, hnmi, hts _ hinst⟩
        ⟨zPre_blind, fun U hU hW => zPre_at hK hSP w1 w2 w3 hA hU hW⟩ rfl hlen hlsz (by show str = _; rw [q3]; simp) (lv_room (by rw [zS_cs q2]; exact hcs)) hdg ⟨hc, hs⟩
    exact z_callW (len := 3) hrun w3 hA1 (fun v v' q H1 locs1 g1 g2 g3 => kk v v' q r' H1 locs1 g1 g2 q2 g3) (fun k q9 ce q H1 locs1 g1 g2 g3 g4 g5 => kx k q9 ce q r' H1 locs1 g1 q2 g2 g3 g4 g5)
end ZP
