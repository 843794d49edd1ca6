theorem zcallV_sp {n c y nx y' nx' : Nat} {st as rr : List Value} {h : zH} (hs : zcallV n c y nx st h = some (.inr (.inl (y', as, rr, nx')))) : ∃ (a : Nat) (as1 : List Value) (vs : List Value), as = .ref a :: as1 ∧ ztk (n + 1) [] st = some (.ref a :: as1, rr) ∧ h[a]? = some (c, vs) ∧ zcs rr ≤ 8 ∧ nx' = nx ∧ y = y' := by
  unfold zcallV at hs
  split at hs
  · next as0 r0 hpop =>
    split at hs
    · next a as1 =>
      split at hs
      · next c' vs hc =>
        split at hs
        · next e =>
          subst e
          split at hs
          · next hcs =>
            cases hs
            exact ⟨a, as1, vs, rfl, hpop, hc, hcs, rfl, rfl⟩
          · cases hs
        · cases hs
      · cases hs
    · cases hs
  · cases hs
theorem zcallI_sp {n y nx y' nx' : Nat} {st as rr : List Value} (hs : zcallI n y nx st = some (.inr (.inl (y', as, rr, nx')))) : ∃ (a : Nat) (as1 : List Value), as = .ref a :: as1 ∧ ztk (n + 1) [] st = some (.ref a :: as1, rr) ∧ zcs rr ≤ 8 ∧ nx' = nx ∧ y = y' := by
  unfold zcallI at hs
  split at hs
  · next as0 r0 hpop =>
    split at hs
    · next a as1 =>
      split at hs
      · next hcs =>
        cases hs
        exact ⟨a, as1, rfl, hpop, hcs, rfl, rfl⟩
      · cases hs
    · cases hs
  · cases hs

/-- whatever the kind of call -/
theorem z_call_ok {p : Program} {l : Launch} {e : Env} {s : State} {m : MethodId} {args : Array Value} {below : List Frame} {meth : Method} {c : Code} {H : Heap} {locs : List Loc} {cells slots : Nat} {Q : State → Prop} {xs : List Int32} {sp : Nat → Nat} {ty : Nat → ClassId} {D : va_G} {A : Nat → Prop} {ads : List Nat}
    {n d y y' pc nx nx' k yy n9 c9 mc0 ms0 : Nat} {i : Instr} {L L0 : zL} {st as rr str : List Value} {h h1 : zH} {ls : Array Slot} {v9 : Option Value} {nc ns nc1 ns1 : Nat}
    (IH : zIH xs n) (hl9 : l.stackTraces = false) (hX : zX xs sp ty D A y p (zrm (d + 1) mc0 ms0) s m args meth c) (hr : zrok y (pc, i, nx, k, yy, n9, c9) = true) (hst : zstep zcf xs pc i nx k yy n9 c9 L st h = some (.inr (.inl (y', as, rr, nx')))) (hen : zen (zmL y') as = some L0) (hev : zev xs n d y' 0 L0 [] h nc ns = some ((.inl v9 : Option Value ⊕ Nat), h1, nc1, ns1))
    (I : zR sp ty D A s.heap (zmL y) ads L st h ls str H locs) (hc : cells + (nc1 - nc) ≤ mc0) (hs : slots + (ns1 - ns) ≤ ms0)
    (kk : ∀ (v v' : Option Value) (q : List Nat) (r' : List Value) (H1 : Heap) (locs1 : List Loc), (.inl v9 : Option Value ⊕ Nat) = .inl v → zVo sp (ads ++ q) v v' → zS sp ads rr r' → zW sp ty D A s.heap (ads ++ q) h1 H1 locs1 → W p l e (zrm (d + 1) mc0 ms0) s m args below meth c H1 locs1 (cells + (nc1 - nc)) (slots + (ns1 - ns)) Q (F0 m nx' ls (v'.toList ++ r')))
    (kx : ∀ (k q9 : Nat) (ce : Cell) (q : List Nat) (r' : List Value) (H1 : Heap) (locs1 : List Loc), (.inl v9 : Option Value ⊕ Nat) = .inr k → zS sp ads rr r' → zW sp ty D A s.heap (ads ++ q) h1 H1 locs1 → H1[q9]? = some ce → ce.vm = .none → s.vm.findClass (zEn k) = some ce.cls → vx_W p l e (zrm (d + 1) mc0 ms0) s m args below meth c H1 locs1 (cells + (nc1 - nc)) (slots + (ns1 - ns)) Q (F0 m pc ls r') q9) :
    W p l e (zrm (d + 1) mc0 ms0) s m args below meth c H locs cells slots Q (F0 m pc ls str) := by
  cases i with
  | invokestatic j =>
    obtain ⟨hd, e, hl⟩ := zrok1 hr (Nat.succ_ne_zero _)
    have hst : (if k = 10 then zcopy nx L st h else if k = 12 then zmm (fun x y => if x < y then y else x) nx L st h else if k = 13 then zmm (fun x y => if y < x then y else x) nx L st h else zcall n9 yy nx st) = some (.inr (.inl (y', as, rr, nx'))) := hst
    have hl : (if k = 10 ∨ k = 12 ∨ k = 13 then false else (decide ((zmo y, j, yy) ∈ zSL) && decide (yy < 250) && decide (yy ≠ zlaw) && decide (zmp yy = n9))) = true := hl
    by_cases h10 : k = 10
    · rw [if_pos h10] at hst
      exact absurd hst (zcopy_is _)
    · rw [if_neg h10] at hst
      by_cases h12 : k = 12
      · rw [if_pos h12] at hst
        exact absurd hst (zmm_is _)
      · rw [if_neg h12] at hst
        by_cases h13 : k = 13
        · rw [if_pos h13] at hst
          exact absurd hst (zmm_is _)
        · rw [if_neg h13] at hst
          rw [if_neg (by omega)] at hl
          simp only [Bool.and_eq_true, decide_eq_true_eq] at hl
          unfold zcall at hst
          split at hst
          · next as1 rr1 hpop =>
            split at hst
            · next hcs =>
              cases hst
              have e : nx = pc + 3 := e
              subst e
              exact z_callS IH hl9 hX (zSL_ok _ hl.1.1.1) hl.1.1.2 hl.1.2 hd hl.2 hpop hcs hen hev I hc hs kk kx
            · cases hst
          · cases hst
  | invokevirtual j =>
    obtain ⟨hd, e, hl⟩ := zrok1 hr (Nat.succ_ne_zero _)
    have hst : (if k = 11 then zgetc nx L st h else zcallV n9 c9 yy nx st h) = some (.inr (.inl (y', as, rr, nx'))) := hst
    have hl : (if k = 11 ∨ k = 6 then false else decide ((zmo y, j, yy, c9) ∈ zVL) && decide (yy < 250) && decide (yy ≠ zlaw) && decide (zmp yy = n9) && decide (c9 < 6) && decide (zmh yy = [])) = true := hl
    by_cases h11 : k = 11
    · rw [if_pos h11] at hst
      exact absurd hst (zgetc_is _)
    · by_cases h6 : k = 6
      · rw [if_pos (Or.inr h6)] at hl
        cases hl
      · rw [if_neg h11] at hst
        rw [if_neg (by omega)] at hl
        simp only [Bool.and_eq_true, decide_eq_true_eq] at hl
        obtain ⟨a, as1, vs, q1, q2, q3, q4, q5, q6⟩ := zcallV_sp hst
        subst q1; subst q6
        have e : nx' = pc + 3 := by rw [q5]; exact e
        subst e
        exact z_callV IH hl9 hX hl.1.2 (zVL_ok _ hl.1.1.1.1.1) hl.2 hl.1.1.1.1.2 hl.1.1.1.2 hd hl.1.1.2 q2 rfl q3 q4 hen hev I hc hs kk kx
  | invokespecial j =>
    obtain ⟨hd, e, hl⟩ := zrok1 hr (Nat.succ_ne_zero _)
    have hst : (if k = 8 then zoi nx L st h else if k = 7 then zcallV n9 c9 yy nx st h else zcallI n9 yy nx st) = some (.inr (.inl (y', as, rr, nx'))) := hst
    have hl : (if k = 8 then decide ((zmo y, j) ∈ zOL) else if k = 7 then false else decide ((zmo y, j, yy) ∈ zIL) && decide (yy < 250) && decide (yy ≠ zlaw) && decide (zmp yy = n9) && decide (zmh yy = []) && decide (zmr yy = none)) = true := hl
    by_cases h8 : k = 8
    · rw [if_pos h8] at hst
      exact absurd hst (zoi_is _)
    · rw [if_neg h8] at hst hl
      by_cases h7 : k = 7
      · rw [if_pos h7] at hl
        cases hl
      · rw [if_neg h7] at hst hl
        simp only [Bool.and_eq_true, decide_eq_true_eq] at hl
        obtain ⟨a, as1, q1, q2, q4, q5, q6⟩ := zcallI_sp hst
        subst q1; subst q6
        have e : nx' = pc + 3 := by rw [q5]; exact e
        subst e
        exact z_callI IH hl9 hX (zIL_ok _ hl.1.1.1.1.1) hl.1.2 hl.2 hl.1.1.1.1.2 hl.1.1.1.2 hd hl.1.1.2 q2 rfl q4 hen hev I hc hs kk kx
  | invokeinterface j q =>
    obtain ⟨-, -, hl⟩ := zrok1 hr (Nat.succ_ne_zero _)
    cases (show false = true from hl)
  | ireturn =>
    exfalso
    replace hst : (match st with
      | [.int v] => if k = 0 ∨ (k = 1 ∧ (v = 0 ∨ v = 1)) ∨ (k = 2 ∧ 0 ≤ v ∧ v ≤ 255) then zret (some (.int v)) else none
      | _ => none) = some (.inr (.inl (y', as, rr, nx'))) := hst
    repeat' (first | (cases hst; done) | split at hst)
  | lreturn =>
    exfalso
    replace hst : (match st with
      | [.long v] => zret (some (.long v))
      | _ => none) = some (.inr (.inl (y', as, rr, nx'))) := hst
    repeat' (first | (cases hst; done) | split at hst)
  | dreturn =>
    exfalso
    replace hst : (match st with
      | [.double v] => zret (some (.double v))
      | _ => none) = some (.inr (.inl (y', as, rr, nx'))) := hst
    repeat' (first | (cases hst; done) | split at hst)
  | areturn =>
    exfalso
    replace hst : (match st with
      | [.ref v] => zret (some (.ref v))
      | [.retAddr v] => zret (some (.retAddr v))
      | _ => none) = some (.inr (.inl (y', as, rr, nx'))) := hst
    repeat' (first | (cases hst; done) | split at hst)
  | return_ =>
    exfalso
    replace hst : (match st with
      | [] => zret none
      | _ => none) = some (.inr (.inl (y', as, rr, nx'))) := hst
    repeat' (first | (cases hst; done) | split at hst)
  | new j =>
    exfalso
    replace hst : (if k = 9 then (if zcs st ≤ 8 then some (.inr (.inr (.inr yy, 1, 6))) else none) else znew zcf c9 nx L st h) = some (.inr (.inl (y', as, rr, nx'))) := hst
    split at hst
    · split at hst <;> cases hst
    · exact znew_is _ hst
  | _ => exact absurd hst (zis_ok rfl _)

