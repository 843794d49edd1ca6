section ZM
variable {p : Program} {l : Launch} {e : Env} {s : State} {m : MethodId} {args : Array Value} {below : List Frame} {meth : Method} {c : Code} {H : Heap} {locs : List Loc} {cells slots : Nat} {Q : State → Prop}
variable {xs : List Int32} {sp : Nat → Nat} {ty : Nat → ClassId} {D : va_G} {A : Nat → Prop} {ads : List Nat}
theorem zhf_ok {E hp : Nat} : ∀ {t : List (Nat × Nat × Nat × Nat)} {pc : Nat}, zhf t pc E = some hp → ∃ (pre suf : List (Nat × Nat × Nat × Nat)) (a b ct : Nat), t = pre ++ (a, b, hp, ct) :: suf ∧ a ≤ pc ∧ pc < b ∧ zhe ct = E ∧ ∀ z ∈ pre, ¬ (z.1 ≤ pc ∧ pc < z.2.1 ∧ zhe z.2.2.2 = E)
  | [], pc, h => by cases (show none = some hp from h)
  | (a, b, hp', ct) :: r, pc, h => by
    unfold zhf at h
    split at h
    · next g =>
      cases h
      exact ⟨[], r, a, b, ct, rfl, g.1, g.2.1, g.2.2, fun z hz => by cases hz⟩
    · next g =>
      obtain ⟨pre, suf, a', b', ct', rfl, h1, h2, h3, h4⟩ := zhf_ok h
      refine ⟨(a, b, hp', ct) :: pre, suf, a', b', ct', rfl, h1, h2, h3, fun z hz => ?_⟩
      rcases List.mem_cons.mp hz with rfl | hz
      · exact g
      · exact h4 z hz
/-- all the handlers of the tables name one of the three -/
def zhOK : Prop := ∀ y z, z ∈ zmh y → zhe z.2.2.2 < 3 ∧ zon (zmo y) = "ScrubwardLaw"
set_option maxRecDepth 20000 in
theorem zh_ok : zhOK := by
  intro y z hz
  by_cases h : y < 250
  · have e : (List.range 250).all (fun y => (zmh y).all (fun z => decide (zhe z.2.2.2 < 3) && decide (zon (zmo y) = "ScrubwardLaw"))) = true := by decide +kernel
    have h3 := List.all_eq_true.mp (List.all_eq_true.mp e y (List.mem_range.mpr h)) z hz
    rw [Bool.and_eq_true, decide_eq_true_eq, decide_eq_true_eq] at h3
    exact h3
  · have e : zmh y = [] := by
      unfold zmh
      rw [List.getD_eq_getElem?_getD, List.getElem?_eq_none (Nat.not_lt.mp h)]
      rfl
    rw [e] at hz
    cases hz
theorem zh_nil (y : Nat) : zmh y = [] := List.eq_nil_iff_forall_not_mem.mpr (fun z hz => absurd (show (99 : Nat) < 3 from (zh_ok y z hz).1) (by omega))
end ZM

/-- THE RUN: what the abstract machine does from a point of a method, the machine does -/
theorem z_run {xs : List Int32} : ∀ (n d y pc : Nat) (L : zL) (st : List Value) (h : zH) (nc ns : Nat) (v9 : Option Value) (h' : zH) (nc' ns' : Nat), zev xs n d y pc L st h nc ns = some ((.inl v9 : Option Value ⊕ Nat), h', nc', ns') →
    ∀ {p : Program} {l : Launch} {e : Env} {s : State} {m : MethodId} {args : Array Value} {below : List Frame} {meth : Method} {c : Code} {H : Heap} {locs : List Loc} {cells slots mc ms : Nat} {sp : Nat → Nat} {ty : Nat → ClassId} {D : va_G} {A : Nat → Prop} {ads0 ads : List Nat} {ls : Array Slot} {str : List Value}, l.stackTraces = false → zX xs sp ty D A y p (zrm d mc ms) s m args meth c → c.exceptionTable.toList = tableOf (zmh y) → (∃ q, ads = ads0 ++ q) → zR sp ty D A s.heap (zmL y) ads L st h ls str H locs → cells + (nc' - nc) ≤ mc → slots + (ns' - ns) ≤ ms →
      W p l e (zrm d mc ms) s m args below meth c H locs cells slots (vx_MQ below (zQc sp ty D A ads0 (.inl v9) h') (zXC sp ty D A ads0 (.inl v9) h') args s mc ms A) (F0 m pc ls str) := by
  intro n
  induction n with
  | zero =>
    intro d y pc L st h nc ns v9 h' nc' ns' e
    cases (show none = some _ from e)
  | succ n ih =>
    have IH : zIH xs n := by
      intro d y as L0 h nc ns v9 h' nc' ns' hy1 hy2 hen hev l hl9 sp ty D ws as' sz hS h5 h6
      have hyM := zM_ok y hy1 hy2
      obtain ⟨m1, m2, m3, m4, m5⟩ := zM_facts hyM
      have body : ∀ (p : Program) (e : Env) (s : State) (m : MethodId) (args : Array Value) (below : List Frame) (meth : Method) (c : Code) (s₁ : State), BodyLoose p l (zmn y) (headSpec (zws y) (zrm d (nc' - nc) (ns' - ns))) (zmb y) (zmL y) (zmr y) e s m args below meth c s₁ → c.maxLocals = zmL y → c.exceptionTable.toList = tableOf (zmh y) → va_Pc as' (zPre xs sp ty D ws sz) args s →
          W p l e (zrm d (nc' - nc) (ns' - ns)) s m args below meth c s.heap [] 0 0 (vx_MQ below (zQc sp ty D (va_A ws sz) (ws.map (fun q => q.1)) (.inl v9) h') (zXC sp ty D (va_A ws sz) (ws.map (fun q => q.1)) (.inl v9) h') args s (nc' - nc) (ns' - ns) (va_A ws sz)) (entryFrame m args (zmL y)) := by
        intro p e s m args below meth c s₁ B hml ht hv
        obtain ⟨rfl, hsz, hP, hK, hD, hSP⟩ := hv
        subst hsz
        rw [lg_entry_eq]
        have hX : zX xs sp ty D (va_A ws s.heap.size) y p (zrm d (nc' - nc) (ns' - ns)) s m as'.toArray meth c := by
          refine ⟨B.exec, B.bytes, hml, B.returns, B.notSynchronized, ?_, (fun q => (name_of_methodNamed B.named B.method).1.trans q), fun w hw => atoms_spec (ws := zws y) B.pre w (List.mem_cons_of_mem _ hw), hK, fun q g => Or.inr g, hSP, by show 5 ≤ d + 5; omega, by show 168 ≤ 40 * d + 168; omega⟩
          rw [hyM.2.2.1]
          exact findClass_of_methodNamed B.named
        exact ih d y 0 L0 [] h nc ns v9 h' nc' ns' hev hl9 hX ht ⟨[], by simp⟩ ⟨zen_ok hS hen, rfl, ws, hP, hD.self, va_S.rf, rfl, h5, h6⟩ (by omega) (by omega)
      rcases hyM.1 with ⟨e1, -⟩ | ⟨e1, -⟩
      · have ews : zws y = .code (zmn y) (zmb y) (zmL y) (zmr y) :: zB := by unfold zws; rw [e1]
        refine vx_ofW (cc := zmb y) (maxL := zmL y) (ret := zmr y) m5 ews (fun p e s m args below meth c s₁ B hml ht hv => body p e s m args below meth c s₁ B hml ?_ hv)
        rw [e1]
        exact List.eq_nil_iff_forall_not_mem.mpr (fun x hx => ht x hx)
      · have ews : zws y = .codeWith (zmn y) (zmb y) (zmL y) (zmr y) (zmh y) :: zB := by
          unfold zws
          split
          · next e2 => exact absurd e2 e1
          · rfl
        refine vx_ofWH (cc := zmb y) (maxL := zmL y) (ret := zmr y) (hh := zmh y) m5 ews (fun p e s m args below meth c s₁ B hml hv => body p e s m args below meth c s₁ B hml ?_ hv)
        exact vx_table (x := zmn y) B (atoms_spec (ws := zws y) B.pre _ (by rw [ews]; exact List.mem_cons_self))
    intro d y pc L st h nc ns v9 h' nc' ns' e9 p l e s m args below meth c H locs cells slots mc ms sp ty D A ads0 ads ls str hl9 hX htab hpre I hc hs
    have hmono := zev_mono (n + 1) d y pc L st h nc ns _ h' nc' ns' e9
    unfold zev at e9
    split at e9
    · cases e9
    · next i nx k yy n9 c9 hat =>
      have hrow := zrows_ok y _ (zat_mem hat)
      have htab0 : zmh y = [] → ∀ x ∈ c.exceptionTable.toList, False := by
        intro q x hx
        rw [htab, q] at hx
        cases hx
      split at e9
      · cases e9
      · next pc' L' st' h1 dc ds hst =>
        have hm1 := zev_mono n _ _ _ _ _ _ _ _ _ _ _ _ e9
        refine z_step_ok hX hrow hst I (by show cells + dc ≤ mc; omega) (by show slots + ds ≤ ms; omega) (fun q ls' str' H' locs' I' => ?_)
        obtain ⟨q0, rfl⟩ := hpre
        exact ih d y pc' L' st' h1 _ _ v9 h' nc' ns' e9 hl9 hX htab ⟨q0 ++ q, by rw [List.append_assoc]⟩ I' (by omega) (by omega)
      · next r1 dc ds hst =>
        cases e9
        exact z_end_ok hl9 hX hrow hst htab0 I hpre (by omega) (by omega)
      · next y' as rr nx' hst =>
        split at e9
        · cases e9
        · next d' =>
          split at e9
          · cases e9
          · next L0 hen =>
            split at e9
            · next v h1 nc1 ns1 hev =>
              have hm0 := zev_mono n _ _ _ _ _ _ _ _ _ _ _ _ hev
              have hm1 := zev_mono n _ _ _ _ _ _ _ _ _ _ _ _ e9
              refine z_call_ok IH hl9 hX hrow hst hen hev I (by omega) (by omega) (fun v1 v' q r' H1 locs1 g1 g2 g3 g4 => ?_) (fun k q9 ce q r' H1 locs1 g1 => by cases g1)
              cases g1
              obtain ⟨q0, rfl⟩ := hpre
              refine ih (d' + 1) y nx' L _ h1 nc1 ns1 v9 h' nc' ns' e9 hl9 hX htab ⟨q0 ++ q, by rw [List.append_assoc]⟩ ⟨zLR_mono q I.1, ?_, g4⟩ (by omega) (by omega)
              cases v with
              | none =>
                cases (show v' = none from g2)
                exact zS_mono q g3
              | some w =>
                obtain ⟨w', rfl, g2⟩ := g2
                exact ⟨w', r', rfl, g2, zS_mono q g3⟩
            · next E h1 nc1 ns1 hev =>
              split at e9
              · cases e9
              · rename_i hne
                rw [zh_nil y] at hne
                cases hne
            · cases e9
