theorem zchr {v : Int32} (h1 : 0 ≤ v) (h2 : v ≤ 255) : narrow .char (.int v) = .int v := by
  obtain ⟨j, hj, rfl⟩ := nI_of2 (M := 255) (n := 255) (by decide) (Int32.not_lt.mpr h1) h2
  exact (pk_charN (by omega)).1
section ZE
variable {p : Program} {l : Launch} {e : Env} {s : State} {m : MethodId} {args : Array Value} {below : List Frame} {meth : Method} {c : Code} {H : Heap} {locs : List Loc} {cells slots : Nat}
variable {xs : List Int32} {sp : Nat → Nat} {ty : Nat → ClassId} {D : va_G} {A : Nat → Prop} {ads ads0 : List Nat}
variable {d y pc mc0 ms0 : Nat} {L : zL} {st str : List Value} {h h' : zH} {ls : Array Slot} {v9 : Option Value}
theorem zW_end {t : State} (I3 : zW sp ty D A s.heap ads h H locs) (ht : t.heap = H) : zEnd sp ty D A ads h t ∧ va_F A s t ∧ ∀ q ∈ locs, A q.base := by
  obtain ⟨ws, w1, w2, w3, w4, w5, w6⟩ := I3
  exact ⟨⟨ws, by rw [ht]; exact w1, w2, w4, w5, w6⟩, w3.F ht, w3.2.2⟩
theorem z_retv {v v' : Option Value} (I3 : zW sp ty D A s.heap ads h H locs) (hpre : ∃ q0, ads = ads0 ++ q0) (hv : zVo sp ads v v') {t : State} (ht : t.heap = H) : zQc sp ty D A ads0 (.inl v) h args s (.returned v') t := by
  obtain ⟨q0, rfl⟩ := hpre
  obtain ⟨g1, g2, -⟩ := zW_end (s := s) (t := t) I3 ht
  exact ⟨⟨v, v', q0, rfl, rfl, hv, g1⟩, g2⟩
theorem zW_locs (I3 : zW sp ty D A s.heap ads h H locs) : ∀ q ∈ locs, A q.base := by
  obtain ⟨ws, w1, w2, w3, -⟩ := I3
  exact w3.2.2
theorem z_end_ok {i : Instr} {nx k yy n9 c9 dc ds : Nat} (hl9 : l.stackTraces = false) (hX : zX xs sp ty D A y p (zrm d mc0 ms0) s m args meth c) (hr : zrok y (pc, i, nx, k, yy, n9, c9) = true) (hs : zstep zcf xs pc i nx k yy n9 c9 L st h = some (.inr (.inr ((.inl v9 : Option Value ⊕ Nat), dc, ds)))) (htab : zmh y = [] → ∀ x ∈ c.exceptionTable.toList, False) (I : zR sp ty D A s.heap (zmL y) ads L st h ls str H locs) (hpre : ∃ q0, ads = ads0 ++ q0) (hc : cells + dc ≤ mc0) (hsl : slots + ds ≤ ms0) :
    W p l e (zrm d mc0 ms0) s m args below meth c H locs cells slots (vx_MQ below (zQc sp ty D A ads0 (.inl v9) h) (zXC sp ty D A ads0 (.inl v9) h) args s mc0 ms0 A) (F0 m pc ls str) := by
  have hX0 := hX
  have I0 := I
  obtain ⟨hx, hb, hml, hret, hlk, hown, hnm, hts, hK, hA, hSP, hRf, hRl⟩ := hX
  obtain ⟨I1, I2, I3⟩ := I
  cases i with
  | ireturn =>
    obtain ⟨hd, -, hl⟩ := zrok1 hr (Nat.succ_ne_zero _)
    replace hs : (match st with
      | [.int v] => if k = 0 ∨ (k = 1 ∧ (v = 0 ∨ v = 1)) ∨ (k = 2 ∧ 0 ≤ v ∧ v ≤ 255) then zret (some (.int v)) else none
      | _ => none) = some (.inr (.inr ((.inl v9 : Option Value ⊕ Nat), dc, ds))) := hs
    have hl : (decide (k = 0 ∧ zmr y = some .int) || decide (k = 1 ∧ zmr y = some .boolean) || decide (k = 2 ∧ zmr y = some .char)) = true := hl
    simp only [Bool.or_eq_true, decide_eq_true_eq] at hl
    split at hs
    · next v =>
      split at hs
      · next hk =>
        cases (show some (Sum.inr (Sum.inr (Sum.inl (some (Value.int v)), 0, 0))) = some (Sum.inr (Sum.inr ((.inl v9 : Option Value ⊕ Nat), dc, ds))) from hs)
        obtain ⟨_, _, rfl, hv, hr9⟩ := I2
        cases (show _ = Value.int _ from hv)
        cases (show _ = [] from hr9)
        have key : ∃ t9, zmr y = some t9 ∧ narrow t9 (.int v) = .int v := by
          rcases hl with (⟨e1, e2⟩ | ⟨e1, e2⟩) | ⟨e1, e2⟩
          · exact ⟨_, e2, rfl⟩
          · refine ⟨_, e2, ?_⟩
            rcases hk with hk | ⟨-, rfl | rfl⟩ | ⟨hk, -⟩
            · omega
            · rfl
            · rfl
            · omega
          · refine ⟨_, e2, ?_⟩
            rcases hk with hk | ⟨hk, -⟩ | ⟨-, h1, h2⟩
            · omega
            · omega
            · exact zchr h1 h2
        obtain ⟨t9, e1, e2⟩ := key
        exact vx_ret (W.widen hc hsl (W.zret hx hb (hret.trans e1) e2 (fun t ht hW => z_retv I3 hpre (v := some (.int v)) (v' := some (.int v)) ⟨_, rfl, rfl⟩ ht) (zW_locs I3) hd (hlocks := hlk)))
      · cases hs
    · cases hs
  | lreturn =>
    obtain ⟨hd, -, hl⟩ := zrok1 hr (Nat.succ_ne_zero _)
    have hl := of_decide_eq_true (show decide (zmr y = some .long) = true from hl)
    replace hs : (match st with
      | [.long v] => zret (some (.long v))
      | _ => none) = some (.inr (.inr ((.inl v9 : Option Value ⊕ Nat), dc, ds))) := hs
    split at hs
    · next v =>
      cases (show some (Sum.inr (Sum.inr (Sum.inl (some (Value.long v)), 0, 0))) = some (Sum.inr (Sum.inr ((.inl v9 : Option Value ⊕ Nat), dc, ds))) from hs)
      obtain ⟨_, _, rfl, hv, hr9⟩ := I2
      cases (show _ = Value.long _ from hv)
      cases (show _ = [] from hr9)
      exact vx_ret (W.widen hc hsl (W.lret hx hb (hret.trans hl) (fun t ht hW => z_retv I3 hpre (v := some (.long v)) (v' := some (.long v)) ⟨_, rfl, rfl⟩ ht) (zW_locs I3) hd (hlocks := hlk)))
    · cases hs
  | dreturn =>
    obtain ⟨hd, -, hl⟩ := zrok1 hr (Nat.succ_ne_zero _)
    have hl := of_decide_eq_true (show decide (zmr y = some .double) = true from hl)
    replace hs : (match st with
      | [.double v] => zret (some (.double v))
      | _ => none) = some (.inr (.inr ((.inl v9 : Option Value ⊕ Nat), dc, ds))) := hs
    split at hs
    · next v =>
      cases (show some (Sum.inr (Sum.inr (Sum.inl (some (Value.double v)), 0, 0))) = some (Sum.inr (Sum.inr ((.inl v9 : Option Value ⊕ Nat), dc, ds))) from hs)
      obtain ⟨_, _, rfl, hv, hr9⟩ := I2
      cases (show _ = Value.double _ from hv)
      cases (show _ = [] from hr9)
      exact vx_ret (W.widen hc hsl (W.dret hx hb (hret.trans hl) (fun t ht hW => z_retv I3 hpre (v := some (.double v)) (v' := some (.double v)) ⟨_, rfl, rfl⟩ ht) (zW_locs I3) hd (hlocks := hlk)))
    · cases hs
  | areturn =>
    obtain ⟨hd, -, hl⟩ := zrok1 hr (Nat.succ_ne_zero _)
    have hl : (match zmr y with
      | some (.object _) => true
      | some (.array _) => true
      | _ => false) = true := hl
    replace hs : (match st with
      | [.ref v] => zret (some (.ref v))
      | [.retAddr v] => zret (some (.retAddr v))
      | _ => none) = some (.inr (.inr ((.inl v9 : Option Value ⊕ Nat), dc, ds))) := hs
    have key : ∃ rt, zmr y = some rt ∧ ((∃ n, rt = .object n) ∨ ∃ t, rt = .array t) := by
      split at hl
      · next n e9 => exact ⟨_, e9, Or.inl ⟨_, rfl⟩⟩
      · next n e9 => exact ⟨_, e9, Or.inr ⟨_, rfl⟩⟩
      · cases hl
    obtain ⟨rt, e1, e2⟩ := key
    split at hs
    · next v =>
      cases (show some (Sum.inr (Sum.inr (Sum.inl (some (Value.ref v)), 0, 0))) = some (Sum.inr (Sum.inr ((.inl v9 : Option Value ⊕ Nat), dc, ds))) from hs)
      obtain ⟨_, _, rfl, hv, hr9⟩ := I2
      cases (show _ = [] from hr9)
      obtain ⟨a, -, rfl⟩ := id hv
      exact vx_ret (W.widen hc hsl (W.aret hx hb (hret.trans e1) e2 (Or.inr ⟨_, rfl⟩) (fun t ht hW => z_retv I3 hpre (v := some (.ref v)) (v' := some (.ref a)) ⟨_, rfl, hv⟩ ht) (zW_locs I3) hd (hlocks := hlk)))
    · next v =>
      cases (show some (Sum.inr (Sum.inr (Sum.inl (some (Value.retAddr v)), 0, 0))) = some (Sum.inr (Sum.inr ((.inl v9 : Option Value ⊕ Nat), dc, ds))) from hs)
      obtain ⟨_, _, rfl, hv, hr9⟩ := I2
      cases (show _ = [] from hr9)
      obtain ⟨-, rfl⟩ := id hv
      exact vx_ret (W.widen hc hsl (W.aret hx hb (hret.trans e1) e2 (Or.inr ⟨_, rfl⟩) (fun t ht hW => z_retv I3 hpre (v := some (.retAddr v)) (v' := some (.ref (sp v))) ⟨_, rfl, hv⟩ ht) (zW_locs I3) hd (hlocks := hlk)))
    · cases hs
  | return_ =>
    obtain ⟨hd, -, hl⟩ := zrok1 hr (Nat.succ_ne_zero _)
    have hl := of_decide_eq_true (show decide (zmr y = none) = true from hl)
    replace hs : (match st with
      | [] => zret none
      | _ => none) = some (.inr (.inr ((.inl v9 : Option Value ⊕ Nat), dc, ds))) := hs
    split at hs
    · cases (show some (Sum.inr (Sum.inr (Sum.inl (none : Option Value), 0, 0))) = some (Sum.inr (Sum.inr ((.inl v9 : Option Value ⊕ Nat), dc, ds))) from hs)
      cases (show _ = [] from I2)
      exact vx_ret (W.widen hc hsl (W.vret hx hb (hret.trans hl) (fun t ht hW => z_retv I3 hpre (v := none) (v' := none) rfl ht) (zW_locs I3) hd (hlocks := hlk)))
    · cases hs
  | new j =>
    obtain ⟨hd, -, hl⟩ := zrok1 hr (Nat.succ_ne_zero _)
    replace hs : (if k = 9 then (if zcs st ≤ 8 then some (.inr (.inr (.inr yy, 1, 6))) else none) else znew zcf c9 nx L st h) = some (.inr (.inr ((.inl v9 : Option Value ⊕ Nat), dc, ds))) := hs
    have hl : ((decide (k = 9) && decide ((y, pc, j, yy) ∈ zTL) && decide (zmh y = [])) || (decide (k ≠ 9) && decide ((zmo y, j, c9) ∈ zCL) && decide (c9 < 6))) = true := hl
    simp only [Bool.and_eq_true, Bool.or_eq_true, decide_eq_true_eq] at hl
    split at hs
    · next hk9 =>
      split at hs
      · next hcs =>
        cases hs
      · cases hs
    · cases (show some (Sum.inl (nx, L, Value.ref h.length :: st, h ++ [(c9, (zcf c9).map (fun q => zdf q.2))], 1, (zcf c9).length)) = some (Sum.inr (Sum.inr ((.inl v9 : Option Value ⊕ Nat), dc, ds))) from hs)
  | invokestatic j =>
    replace hs : (if k = 10 then zcopy nx L st h else if k = 12 then zmm (fun x y => if x < y then y else x) nx L st h else if k = 13 then zmm (fun x y => if y < x then y else x) nx L st h else zcall n9 yy nx st) = some (.inr (.inr ((.inl v9 : Option Value ⊕ Nat), dc, ds))) := hs
    split at hs
    · exact absurd hs (zcopy_is _)
    · split at hs
      · exact absurd hs (zmm_is _)
      · split at hs
        · exact absurd hs (zmm_is _)
        · exact absurd hs zcall_nx
  | invokevirtual j =>
    replace hs : (if k = 11 then zgetc nx L st h else zcallV n9 c9 yy nx st h) = some (.inr (.inr ((.inl v9 : Option Value ⊕ Nat), dc, ds))) := hs
    split at hs
    · exact absurd hs (zgetc_is _)
    · exact absurd hs zcallV_nx
  | invokeinterface j q => exact absurd hs zcallV_nx
  | invokespecial j =>
    replace hs : (if k = 8 then zoi nx L st h else if k = 7 then zcallV n9 c9 yy nx st h else zcallI n9 yy nx st) = some (.inr (.inr ((.inl v9 : Option Value ⊕ Nat), dc, ds))) := hs
    split at hs
    · exact absurd hs (zoi_is _)
    · split at hs
      · exact absurd hs zcallV_nx
      · exact absurd hs zcallI_nx
  | _ => exact absurd hs (zis_ok rfl _)
end ZE
