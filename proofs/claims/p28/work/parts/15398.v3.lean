/-! No run of pure code, nor of one that stores into rows of ints, changes how long a cell is. Written by wip/v3/genlen.py. -/
def zpq5 (fs : List Nat) (i : Instr) (k y : Nat) : Bool := match i with
  | .iload _ => true
  | .iload_n _ => true
  | .aload _ => true
  | .aload_n _ => true
  | .lload _ => true
  | .lload_n _ => true
  | .dload _ => true
  | .dload_n _ => true
  | .istore _ => true
  | .istore_n _ => true
  | .astore _ => true
  | .astore_n _ => true
  | .lstore _ => true
  | .lstore_n _ => true
  | .dstore _ => true
  | .dstore_n _ => true
  | .iinc _ _ => true
  | .iconst _ => true
  | .lconst _ => true
  | .bipush _ => true
  | .sipush _ => true
  | .aconst_null => true
  | .ldc2_w _ => true
  | .ifCond _ _ => true
  | .if_icmp _ _ => true
  | .iaload => true
  | .iastore => true
  | .baload => true
  | .aaload => true
  | .arraylength => true
  | .getfield _ => true
  | .checkcast _ => true
  | .goto _ => true
  | .dup => true
  | .pop => true
  | .pop2 => true
  | .iadd => true
  | .isub => true
  | .imul => true
  | .idiv => true
  | .irem => true
  | .iand => true
  | .ior => true
  | .ixor => true
  | .ishl => true
  | .ishr => true
  | .iushr => true
  | .ineg => true
  | .i2l => true
  | .i2d => true
  | .i2c => true
  | .ladd => true
  | .lmul => true
  | .lcmp => true
  | .ddiv => true
  | .dmul => true
  | .d2l => true
  | .tableswitch _ _ _ _ => true
  | .lookupswitch _ _ => true
  | .ireturn => true
  | .lreturn => true
  | .dreturn => true
  | .areturn => true
  | .return_ => true
  | .athrow => true
  | .new _ => k == 9
  | .ldc_w _ => true
  | .putfield _ => fs.contains y
  | .invokestatic _ => !(k == 10)
  | .invokevirtual _ => true
  | .invokeinterface _ _ => true
  | _ => false
section ZQI5
variable {xs : List Int32} {h h' : zH} {L L' : zL} {st st' : List Value} {D y m nc ns k n c nx pc pc' : Nat} {i : Instr} {dc ds : Nat} {fs : List Nat}
theorem zast_h {t9 : Nat} {g9 : Int32 → Option Int32} (e : zast t9 g9 nx L st h = some (.inl (pc', L', st', h', dc, ds))) : ∃ a t vs k v, h[a]? = some (t, vs) ∧ h' = h.set a (t, vs.set k v) := by
  unfold zast zgo at e
  split at e
  · next x i a r =>
    split at e
    · next t' vs e1 =>
      split at e
      · next q =>
        subst q
        split at e
        · cases e
        · split at e
          · split at e
            · cases e
              exact ⟨a, t', vs, _, _, e1, rfl⟩
            · cases e
          · cases e
      · cases e
    · cases e
  · cases e
theorem zput_h5 (e : zput zcf y k nx L st h = some (.inl (pc', L', st', h', dc, ds))) : ∃ a t vs k v, h[a]? = some (t, vs) ∧ h' = h.set a (t, vs.set k v) := by
  obtain ⟨a, t, vs, v, kd, z1, z2, z3, z4⟩ := zput_h e
  exact ⟨a, t, vs, k, v, z1, z4⟩
theorem zpq_ok5 (hz : zpq5 fs i k y = true) (e : zstep zcf xs pc i nx k y n c L st h = some (.inl (pc', L', st', h', dc, ds))) : h' = h ∨ (∃ a t vs k v, h[a]? = some (t, vs) ∧ h' = h.set a (t, vs.set k v)) := by
  cases i <;> first
    | (cases hz; done)
    | exact Or.inr (zput_h5 e)
    | exact Or.inr (zast_h (t9 := 100) (g9 := some) e)
    | (refine Or.inl ?_
       simp only [zstep, zldI, zldL, zldD, zldA, zsI, zsA, zsL, zsD, zinc, zpq5, zbin, zbinL, zbinD, zun, zlc, zd2l, zpu, zdiv, zif, zicmp, zialoadX, zalen, zaald, zast, zget, zchk, zdup, zpop, zpop2, zcopy, zmm, zcall, zcallV, zgetc, zret, ztab, zlook, znew, zgo] at e
       repeat' split at e
       all_goals first
         | (cases e; rfl)
         | (cases e; done)
         | exact zsv1_h e
         | exact zsv2_h e
         | exact zoff_h e
         | exact zbr_h e
         | exact zald_h e
         | (simp_all [zpq5]; done))
theorem zpq_call5 {y' nx' : Nat} {as r : List Value} (hz : zpq5 fs i k y = true) (e : zstep zcf xs pc i nx k y n c L st h = some (.inr (.inl (y', as, r, nx')))) : y' = y ∧ zpc i k = true := by
  cases i <;> first
    | (cases hz; done)
    | (simp only [zstep, zldI, zldL, zldD, zldA, zsI, zsA, zsL, zsD, zsv1, zsv2, zbr, zald, zput, zinc, zpq5, zbin, zbinL, zbinD, zun, zlc, zd2l, zpu, zdiv, zif, zicmp, zialoadX, zalen, zaald, zast, zget, zchk, zdup, zpop, zpop2, zcopy, zmm, zcall, zcallV, zgetc, zret, ztab, zlook, zoff, znew, zgo] at e
       repeat' split at e
       all_goals first
         | (cases e; done)
         | (cases e; refine ⟨rfl, ?_⟩; simp_all [zpc]; done)
         | (simp_all [zpq5]; done))
theorem zqc_nx5 {y' nx' : Nat} {as r : List Value} (hz : zpq5 fs i k y = true) (e : zstep zcf xs pc i nx k y n c L st h = some (.inr (.inl (y', as, r, nx')))) : nx' = nx := by
  cases i <;> first
    | (cases hz; done)
    | (simp only [zstep, zldI, zldL, zldD, zldA, zsI, zsA, zsL, zsD, zsv1, zsv2, zbr, zald, zput, zinc, zpq5, zbin, zbinL, zbinD, zun, zlc, zd2l, zpu, zdiv, zif, zicmp, zialoadX, zalen, zaald, zast, zget, zchk, zdup, zpop, zpop2, zcopy, zmm, zcall, zcallV, zgetc, zret, ztab, zlook, zoff, znew, zgo] at e
       repeat' split at e
       all_goals first
         | (cases e; done)
         | (cases e; rfl)
         | (simp_all [zpq5]; done))
/-- the methods of ok write nothing but Out's fields, and call each other and those of base alone -/
def zpy5 (fs ok base : List Nat) (y : Nat) : Bool := (zmc y).all (fun r => zpq5 fs r.2.1 r.2.2.2.1 r.2.2.2.2.1 && (!(zpc r.2.1 r.2.2.2.1) || ok.contains r.2.2.2.2.1 || base.contains r.2.2.2.2.1))
theorem zinv5 {I : zH → Prop} {ok base : List Nat} (hok : ok.all (zpy5 fs ok base) = true) (hb : ∀ y ∈ base, ∀ (N : Nat) (as : List Value) (h : zH) (nc ns : Nat), I h → zpM xs N y as h nc ns (fun o => I o.2.1)) (hp : ∀ (h : zH) (a t k : Nat) (vs : List Value) (v : Value), I h → h[a]? = some (t, vs) → I (h.set a (t, vs.set k v))) : ∀ (m d y pc : Nat) (L : zL) (st : List Value) (h : zH) (nc ns : Nat) (o : zO), y ∈ ok → I h → zev xs m d y pc L st h nc ns = some o → I o.2.1
  | 0, _, _, _, _, _, _, _, _, _, _, _, e => by cases e
  | m + 1, d, y, pc, L, st, h, nc, ns, o, hy, hI, e => by
    unfold zev at e
    cases e1 : zat (zmc y) pc with
    | none =>
      rw [e1] at e
      cases e
    | some q =>
      obtain ⟨i, nx, k, yy, n9, c⟩ := q
      have hr := List.all_eq_true.mp (List.all_eq_true.mp hok y hy) _ (zat_mem e1)
      simp only [Bool.and_eq_true, Bool.or_eq_true, Bool.not_eq_true'] at hr
      obtain ⟨hq, hc⟩ := hr
      rw [e1] at e
      dsimp only at e
      cases e2 : zstep zcf xs pc i nx k yy n9 c L st h with
      | none =>
        rw [e2] at e
        cases e
      | some w =>
        rw [e2] at e
        rcases w with ⟨pc', L', st', h', dc, ds⟩ | ⟨y', as, r, nx'⟩ | ⟨r, dc, ds⟩
        · refine zinv5 hok hb hp m d y pc' L' st' h' _ _ o hy ?_ e
          rcases zpq_ok5 hq e2 with z | ⟨a, t, vs, k8, v, z1, z4⟩
          · rw [z]
            exact hI
          · rw [z4]
            exact hp _ _ _ _ _ _ hI z1
        · obtain ⟨rfl, hpc⟩ := zpq_call5 hq e2
          dsimp only at e
          have hcall : ∀ (d' : Nat) (L0 : zL) (o1 : zO), zen (zmL y') as = some L0 → zev xs m d' y' 0 L0 [] h nc ns = some o1 → I o1.2.1 := by
            intro d' L0 o1 hen hev
            rcases hc with (hc | hc) | hc
            · rw [hc] at hpc
              cases hpc
            · exact zinv5 hok hb hp m d' y' 0 L0 [] h nc ns o1 (List.contains_iff_mem.mp hc) hI hev
            · exact hb y' (List.contains_iff_mem.mp hc) m as h nc ns hI L0 hen m (Nat.le_refl _) d' o1 hev
          split at e
          · cases e
          · split at e
            · cases e
            · next d' q =>
              split at e
              · next q2 => exact zinv5 hok hb hp m _ y _ _ _ _ _ _ o hy (hcall _ _ _ q q2) e
              · next q2 =>
                split at e
                · cases e
                  exact hcall _ _ _ q q2
                · split at e
                  · exact zinv5 hok hb hp m _ y _ _ _ _ _ _ o hy (hcall _ _ _ q q2) e
                  · cases e
              · cases e
        · cases e
          exact hI
end ZQI5
section ZQL5
variable {xs : List Int32} {N : Nat} {h : zH} {nc ns : Nat}
/-- how long a cell is -/
def zln9 (p n : Nat) (h : zH) : Prop := ∃ t vs, h[p]? = some (t, vs) ∧ vs.length = n
theorem zln9_set {p n : Nat} : ∀ (h : zH) (a t k : Nat) (vs : List Value) (v : Value), zln9 p n h → h[a]? = some (t, vs) → zln9 p n (h.set a (t, vs.set k v)) := by
  rintro h a t k vs v ⟨t0, ws, e1, e2⟩ ha
  by_cases q : a = p
  · subst q
    rw [ha] at e1
    cases e1
    exact ⟨t, vs.set k v, List.getElem?_set_self (List.getElem?_eq_some_iff.mp ha).1, by rw [List.length_set]; exact e2⟩
  · exact ⟨t0, ws, by rw [List.getElem?_set_ne q]; exact e1, e2⟩
def zqL : List Nat := zqc ++ [25, 26, 27, 47, 48, 49, 50, 79, 81, 85, 107, 108, 213]
theorem zqL_ok : zqL.all (zpy5 [40, 41, 42] zqL []) = true := by decide +kernel
theorem f_len {y p n : Nat} {as : List Value} (hy : y ∈ zqL) (hI : zln9 p n h) : zpM xs N y as h nc ns (fun o => zln9 p n o.2.1) := by
  intro L0 e m hm d o eo
  exact zinv5 zqL_ok (fun y hy => absurd hy List.not_mem_nil) zln9_set m d y 0 L0 [] h nc ns o hy hI eo
end ZQL5
section ZQ2
variable {xs : List Int32} {N : Nat} {S : zSt} {M : zRt} {X : zXt} {q : Nat} {vs : List Value} {nc ns : Nat}
def zrP_79 (r : Option Value ⊕ Nat) : Prop := (∃ x : Int32, r = .inl (some (.int x))) ∨ r = .inr 0
theorem rs_79 {x1 : Int32} : (∃ x : Int32, R79 x1 S = .inl (some (.int x))) ∨ R79 x1 S = .inr 0 := by
  show zrP_79 (R79 x1 S)
  unfold R79
  repeat' first | refine zifP (P := zrP_79) ?_ ?_ | exact Or.inl ⟨_, rfl⟩ | exact Or.inr (rfl)
abbrev kc_213 : Nat → Int32 := fun E => if E = 0 then Int32.ofInt 1 else 0
theorem pw_213v {x1 : Int32} (HL : zaL S.2) (hs : 0 ≤ (S.1 4).toInt ∧ (S.1 4).toInt ≤ 5000) (hX : zUX (q, 6, vs) X M.2.2) (ho : zOu vs) : zpM xs N 213 [.ref 0, .int x1, .ref q] (zy S M X) nc ns (zNq (zWy q (R79 x1 S) (F79 x1 S) M kc_213)) := by
  intro L0 e
  cases e
  refine zpE_run 3 (L' := [some (.ref 0), some (.int x1), some (.ref q), none]) (st' := [.int x1, .ref 0, .ref q]) rfl ?_
  refine zpE_call rfl rfl (e_79 (S := S) (x1 := x1) HL hs) (fun v h1 nc1 ns1 q8 => ?_) (fun E h1 nc1 ns1 q8 => ?_)
  · obtain ⟨q8, q9⟩ := q8
    cases q9
    rcases rs_79 (S := S) (x1 := x1) with ⟨x, hx⟩ | hx
    · rw [hx] at q8
      cases q8
      refine zpE_run 1 (L' := [some (.ref 0), some (.int x1), some (.ref q), none]) (st' := [.long x.toInt64, .ref q]) (h' := zy (F79 x1 S) M X) rfl ?_
      obtain ⟨b1, b2, b3⟩ := zOu_0 (a := x.toInt64) ho
      refine zpE_putb (h' := zy (F79 x1 S) M (X.1, X.2.1, X.2.2.set (q - 73) (6, vs.set 0 (.long x.toInt64)))) rfl (zUX_q (S := F79 x1 S) (M := M) hX) rfl (zy_out (M := M) hX.2.2.2.1) (fun _ => ?_)
      refine zpE_gen (fun nc ns => ?_)
      exact zpE_run 2 rfl (zpE_end rfl rfl (fun v hv => by
        cases hv
        exact ⟨_, _, _, rfl, rfl, zUX_out hX, b1, Or.inl ⟨x, hx, by decide, b2⟩⟩))
    · rw [hx] at q8
      cases q8
  · obtain ⟨q8, q9⟩ := q8
    cases q9
    rcases rs_79 (S := S) (x1 := x1) with ⟨x, hx⟩ | hx
    · rw [hx] at q8
      cases q8
    · rw [hx] at q8
      cases q8
      refine ⟨fun z => absurd z (by decide), fun pc2 L2 e9 => ?_⟩
      obtain ⟨L3, e3⟩ : ∃ L3, zcatch 213 3 0 [some (.ref 0), some (.int x1), some (.ref q), none] = some (14, L3) := ⟨_, rfl⟩
      rw [show zcatch 213 3 0 _ = some (14, L3) from e3] at e9
      cases e9
      exact zpE_run 1 rfl (zpE_end rfl rfl (fun v hv => by
        cases hv
        exact ⟨_, _, _, rfl, rfl, hX, ho, Or.inr ⟨0, hx, by decide⟩⟩))
end ZQ2
/-! wouldLeak: the answers, and how long the row of the leaked ones is. -/
section ZL3AB
variable {S S' : zSt} {M M' : zRt} {x1 : Int32} {q n : Nat}
theorem zM_79 (h : zE S M) (ht : 0 ≤ (S.1 4).toInt ∧ (S.1 4).toInt ≤ 5000) : zAn (R79 x1 S) (v185 x1 M) ((r185 x1 M).1 0) kc_213 := by
  have h0 : zE S (zmS M 0 (Int32.ofInt 0)) := zE_0 h
  have z1 : (Int32.ofInt 1).toInt = 1 := by decide
  have z100 : (Int32.ofInt 100).toInt = 100 := by decide
  have hq := h0.1.2.1.2.2
  have h24 := hq.2.1
  by_cases r1 : 1 ≤ x1.toInt ∧ x1.toInt ≤ 100
  · have c : C85 x1 S = true := by
      unfold C85
      rw [z1, z100, if_neg (by omega), if_neg (by omega)]
    have n1 : ¬ v112 x1 (Int32.ofInt 1) (Int32.ofInt 100) (zmS M 0 (Int32.ofInt 0)) = 0 := fun z => v112_1.mp z (by rw [z1, z100]; exact r1)
    have hr : r185 x1 M = zmS M 0 (Int32.ofInt 0) := if_neg n1
    have hv : v185 x1 M = v183 x1 (zmS M 0 (Int32.ofInt 0)) := if_neg n1
    have key : R79 x1 S = .inl (some (.int (v183 x1 (zmS M 0 (Int32.ofInt 0))))) := by
      have e9 : (S.1 10).toInt.toNat = ((zmS M 0 (Int32.ofInt 0)).2.2.1 1).length := by
        rw [hq.1, zof_0 (by omega)]
        omega
      have e8 : V48 x1 S = v183 x1 (zmS M 0 (Int32.ofInt 0)) := by
        unfold V48 v183
        rw [e9]
        exact (zE_48l h0 (zE_sk h0).2 _ (Nat.le_refl _)).1
      rw [← e8]
      exact if_pos c
    rw [hr, hv]
    exact Or.inl ⟨_, key, rfl, zM00⟩
  · have nc : ¬ C85 x1 S = true := fun z => r1 (C85_9 z)
    have n1 : v112 x1 (Int32.ofInt 1) (Int32.ofInt 100) (zmS M 0 (Int32.ofInt 0)) = 0 := v112_1.mpr (by rw [z1, z100]; exact r1)
    have hR : R79 x1 S = .inr 0 := if_neg nc
    have hr : r185 x1 M = r111 (Int32.ofInt 1) (zmS M 0 (Int32.ofInt 0)) := if_pos n1
    rw [hR, hr]
    exact Or.inr ⟨0, rfl, show Int32.ofInt 1 = kc_213 0 by decide⟩
/-- how long the row is, of a heap -/
theorem zln9_y {X : zXt} : zln9 14 (S.2 5).length (zy S M X) := ⟨100, (S.2 5).map Value.int, rfl, List.length_map ..⟩
theorem zln9_z {X : zXt} (h : zln9 14 n (zy S M X)) : (S.2 5).length = n := by
  obtain ⟨t, vs, e1, e2⟩ := h
  cases (show some (100, (S.2 5).map Value.int) = some (t, vs) from e1)
  rw [List.length_map] at e2
  exact e2
end ZL3AB
