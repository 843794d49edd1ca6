/-! What leaves a property of the heap alone: code that writes nothing but fields of a few kinds. -/
def zpq (fs : List Nat) (i : Instr) (k y : Nat) : Bool := match i with
  | .iload _ => true
  | .iload_n _ => true
  | .aload _ => true
  | .aload_n _ => true
  | .lload _ => true
  | .lload_n _ => true
  | .dload _ => true
  | .dload_n _ => true
  | .istore _ => true
  | .istore_n _ => true
  | .astore _ => true
  | .astore_n _ => true
  | .lstore _ => true
  | .lstore_n _ => true
  | .dstore _ => true
  | .dstore_n _ => true
  | .iinc _ _ => true
  | .iconst _ => true
  | .lconst _ => true
  | .bipush _ => true
  | .sipush _ => true
  | .aconst_null => true
  | .ldc2_w _ => true
  | .ifCond _ _ => true
  | .if_icmp _ _ => true
  | .iaload => true
  | .baload => true
  | .aaload => true
  | .arraylength => true
  | .getfield _ => true
  | .checkcast _ => true
  | .goto _ => true
  | .dup => true
  | .pop => true
  | .pop2 => true
  | .iadd => true
  | .isub => true
  | .imul => true
  | .idiv => true
  | .irem => true
  | .iand => true
  | .ior => true
  | .ixor => true
  | .ishl => true
  | .ishr => true
  | .iushr => true
  | .ineg => true
  | .i2l => true
  | .i2d => true
  | .i2c => true
  | .ladd => true
  | .lmul => true
  | .lcmp => true
  | .ddiv => true
  | .dmul => true
  | .d2l => true
  | .tableswitch _ _ _ _ => true
  | .lookupswitch _ _ => true
  | .ireturn => true
  | .lreturn => true
  | .dreturn => true
  | .areturn => true
  | .return_ => true
  | .athrow => true
  | .new _ => k == 9
  | .ldc_w _ => true
  | .putfield _ => fs.contains y
  | .invokestatic _ => !(k == 10)
  | .invokevirtual _ => true
  | .invokeinterface _ _ => true
  | _ => false
/-- calls of it -/
def zpc (i : Instr) (k : Nat) : Bool := match i with
  | .invokestatic _ => !(k == 12 || k == 13)
  | .invokevirtual _ => !(k == 11)
  | .invokeinterface _ _ => true
  | _ => false
section ZQI
variable {xs : List Int32} {h h' : zH} {L L' : zL} {st st' : List Value} {D y m nc ns k n c nx pc pc' : Nat} {i : Instr} {dc ds : Nat} {fs : List Nat}
theorem zput_h (e : zput zcf y k nx L st h = some (.inl (pc', L', st', h', dc, ds))) : ∃ a t vs v kd, h[a]? = some (t, vs) ∧ (zcf t)[k]? = some (y, kd) ∧ zfdk kd v = true ∧ h' = h.set a (t, vs.set k v) := by
  unfold zput zgo at e
  split at e
  · next v a r =>
    split at e
    · next cc vs e1 =>
      split at e
      · next f' kd e2 =>
        split at e
        · next e3 =>
          split at e
          · next e4 =>
            split at e
            · cases e
              exact ⟨a, cc, vs, v, kd, e1, by rw [e2, e3], e4, rfl⟩
            · cases e
          · cases e
        · cases e
      · cases e
    · cases e
  · cases e
theorem zsv2_h {j : Nat} {v : Value} (e : zsv2 L j nx v st h = some (.inl (pc', L', st', h', dc, ds))) : h' = h := by
  unfold zsv2 at e
  split at e
  · cases e
    rfl
  · cases e
theorem zoff_h {q : Nat} {d : Int} (e : zoff q d L st h = some (.inl (pc', L', st', h', dc, ds))) : h' = h := by
  unfold zoff zgo at e
  split at e
  · cases e
    rfl
  · cases e
theorem zpq_ok (hz : zpq fs i k y = true) (e : zstep zcf xs pc i nx k y n c L st h = some (.inl (pc', L', st', h', dc, ds))) : h' = h ∨ (y ∈ fs ∧ ∃ a t vs v kd, h[a]? = some (t, vs) ∧ (zcf t)[k]? = some (y, kd) ∧ zfdk kd v = true ∧ h' = h.set a (t, vs.set k v)) := by
  cases i <;> first
    | (cases hz; done)
    | (refine Or.inr ⟨?_, zput_h e⟩
       exact List.contains_iff_mem.mp hz)
    | (refine Or.inl ?_
       simp only [zstep, zldI, zldL, zldD, zldA, zsI, zsA, zsL, zsD, zinc, zpq, zbin, zbinL, zbinD, zun, zlc, zd2l, zpu, zdiv, zif, zicmp, zialoadX, zalen, zaald, zget, zchk, zdup, zpop, zpop2, zcopy, zmm, zcall, zcallV, zgetc, zret, ztab, zlook, znew, zgo] at e
       repeat' split at e
       all_goals first
         | (cases e; rfl)
         | (cases e; done)
         | exact zsv1_h e
         | exact zsv2_h e
         | exact zoff_h e
         | exact zbr_h e
         | exact zald_h e
         | (simp_all [zpq]; done))
theorem zpq_call {y' nx' : Nat} {as r : List Value} (hz : zpq fs i k y = true) (e : zstep zcf xs pc i nx k y n c L st h = some (.inr (.inl (y', as, r, nx')))) : y' = y ∧ zpc i k = true := by
  cases i <;> first
    | (cases hz; done)
    | (simp only [zstep, zldI, zldL, zldD, zldA, zsI, zsA, zsL, zsD, zsv1, zsv2, zbr, zald, zput, zinc, zpq, zbin, zbinL, zbinD, zun, zlc, zd2l, zpu, zdiv, zif, zicmp, zialoadX, zalen, zaald, zget, zchk, zdup, zpop, zpop2, zcopy, zmm, zcall, zcallV, zgetc, zret, ztab, zlook, zoff, znew, zgo] at e
       repeat' split at e
       all_goals first
         | (cases e; done)
         | (cases e; refine ⟨rfl, ?_⟩; simp_all [zpc]; done)
         | (simp_all [zpq]; done))
theorem zqc_nx {y' nx' : Nat} {as r : List Value} (hz : zpq fs i k y = true) (e : zstep zcf xs pc i nx k y n c L st h = some (.inr (.inl (y', as, r, nx')))) : nx' = nx := by
  cases i <;> first
    | (cases hz; done)
    | (simp only [zstep, zldI, zldL, zldD, zldA, zsI, zsA, zsL, zsD, zsv1, zsv2, zbr, zald, zput, zinc, zpq, zbin, zbinL, zbinD, zun, zlc, zd2l, zpu, zdiv, zif, zicmp, zialoadX, zalen, zaald, zget, zchk, zdup, zpop, zpop2, zcopy, zmm, zcall, zcallV, zgetc, zret, ztab, zlook, zoff, znew, zgo] at e
       repeat' split at e
       all_goals first
         | (cases e; done)
         | (cases e; rfl)
         | (simp_all [zpq]; done))
/-- the methods of ok write nothing but Out's fields, and call each other and those of base alone -/
def zpy (fs ok base : List Nat) (y : Nat) : Bool := (zmc y).all (fun r => zpq fs r.2.1 r.2.2.2.1 r.2.2.2.2.1 && (!(zpc r.2.1 r.2.2.2.1) || ok.contains r.2.2.2.2.1 || base.contains r.2.2.2.2.1))
theorem zinv {I : zH → Prop} {ok base : List Nat} (hok : ok.all (zpy fs ok base) = true) (hb : ∀ y ∈ base, ∀ (N : Nat) (as : List Value) (h : zH) (nc ns : Nat), I h → zpM xs N y as h nc ns (fun o => I o.2.1)) (hp : ∀ (h : zH) (a t k y kd : Nat) (vs : List Value) (v : Value), I h → h[a]? = some (t, vs) → (zcf t)[k]? = some (y, kd) → zfdk kd v = true → y ∈ fs → I (h.set a (t, vs.set k v))) : ∀ (m d y pc : Nat) (L : zL) (st : List Value) (h : zH) (nc ns : Nat) (o : zO), y ∈ ok → I h → zev xs m d y pc L st h nc ns = some o → I o.2.1
  | 0, _, _, _, _, _, _, _, _, _, _, _, e => by cases e
  | m + 1, d, y, pc, L, st, h, nc, ns, o, hy, hI, e => by
    unfold zev at e
    cases e1 : zat (zmc y) pc with
    | none =>
      rw [e1] at e
      cases e
    | some q =>
      obtain ⟨i, nx, k, yy, n9, c⟩ := q
      have hr := List.all_eq_true.mp (List.all_eq_true.mp hok y hy) _ (zat_mem e1)
      simp only [Bool.and_eq_true, Bool.or_eq_true, Bool.not_eq_true'] at hr
      obtain ⟨hq, hc⟩ := hr
      rw [e1] at e
      dsimp only at e
      cases e2 : zstep zcf xs pc i nx k yy n9 c L st h with
      | none =>
        rw [e2] at e
        cases e
      | some w =>
        rw [e2] at e
        rcases w with ⟨pc', L', st', h', dc, ds⟩ | ⟨y', as, r, nx'⟩ | ⟨r, dc, ds⟩
        · refine zinv hok hb hp m d y pc' L' st' h' _ _ o hy ?_ e
          rcases zpq_ok hq e2 with z | ⟨z, a, t, vs, v, kd, z1, z2, z3, z4⟩
          · rw [z]
            exact hI
          · rw [z4]
            exact hp _ _ _ _ _ _ _ _ hI z1 z2 z3 z
        · obtain ⟨rfl, hpc⟩ := zpq_call hq e2
          dsimp only at e
          have hcall : ∀ (d' : Nat) (L0 : zL) (o1 : zO), zen (zmL y') as = some L0 → zev xs m d' y' 0 L0 [] h nc ns = some o1 → I o1.2.1 := by
            intro d' L0 o1 hen hev
            rcases hc with (hc | hc) | hc
            · rw [hc] at hpc
              cases hpc
            · exact zinv hok hb hp m d' y' 0 L0 [] h nc ns o1 (List.contains_iff_mem.mp hc) hI hev
            · exact hb y' (List.contains_iff_mem.mp hc) m as h nc ns hI L0 hen m (Nat.le_refl _) d' o1 hev
          split at e
          · cases e
          · split at e
            · cases e
            · next d' q =>
              split at e
              · next q2 => exact zinv hok hb hp m _ y _ _ _ _ _ _ o hy (hcall _ _ _ q q2) e
              · next q2 =>
                split at e
                · cases e
                  exact hcall _ _ _ q q2
                · split at e
                  · exact zinv hok hb hp m _ y _ _ _ _ _ _ o hy (hcall _ _ _ q q2) e
                  · cases e
              · cases e
        · cases e
          exact hI
end ZQI
section ZQJ
variable {xs : List Int32} {N : Nat} {S0 : zSt} {M : zRt} {X : zXt} {kq : Nat × Nat × List Value} {nc ns : Nat}
/-- the reference's heap, but for thrown -/
def zIt (S0 : zSt) (M : zRt) (kq : Nat × Nat × List Value) (h : zH) : Prop := ∃ (t : Int32) (X' : zXt), zUX kq X' M.2.2 ∧ h = zy S0 (zmS M 0 t) X'
theorem zfX_set {a : Nat} {c : Nat × List Value} {k : Nat} (ha : 73 ≤ a) (hk : 73 ≤ k) (ne : k ≠ a) : (zfX (X.1, X.2.1, X.2.2.set (a - 73) c))[k]? = (zfX X)[k]? := by
  have l2 : (List.replicate 73 ((0 : Nat), ([] : List Value))).length = 73 := rfl
  show (List.replicate 73 _ ++ X.2.2.set (a - 73) c)[k]? = (List.replicate 73 _ ++ X.2.2)[k]?
  rw [List.getElem?_append_right (by rw [l2]; exact hk), List.getElem?_append_right (by rw [l2]; exact hk), l2, List.getElem?_set_ne (by omega)]
/-- a cell of another kind changes -/
theorem zUX_set {n a t : Nat} {vs ws : List Value} {L : (Nat → List (List Int32)) × List Int32} (ha : 73 ≤ a) (hv : (zfX X)[a]? = some (t, vs)) (ht : t ≠ 10 ∧ t ≠ 103 ∧ t ≠ 100) (hq : kq.1 ≠ a) (hX : zUN n kq X L) : zUN n kq (X.1, X.2.1, X.2.2.set (a - 73) (t, ws)) L := by
  have st : ∀ {k : Nat} {c : Nat × List Value}, 73 ≤ k → (zfX X)[k]? = some c → c.1 ≠ t → (zfX (X.1, X.2.1, X.2.2.set (a - 73) (t, ws)))[k]? = some c := by
    intro k c hk hc ne
    rw [zfX_set ha hk (fun z => by
      rw [z, hv] at hc
      cases hc
      exact ne rfl)]
    exact hc
  obtain ⟨⟨dq, k1⟩, k2, ⟨k3, k4, k5⟩, k6, k7, k8⟩ := hX
  refine ⟨⟨dq, fun i hi => ?_⟩, fun i hi => ?_, ⟨k3, st k3 k4 (fun z => ht.2.2 z.symm), k5⟩, k6, (zfX_set ha k6 hq).trans k7, k8⟩
  · obtain ⟨c1, c2, c3, c4⟩ := k1 i hi
    refine ⟨c1, ?_, c3, c4⟩
    obtain ⟨m, g⟩ := c2
    refine ⟨m, ?_⟩
    revert g c3
    show (∀ q, dq i = some q → 73 ≤ q) → _
    cases dq i with
    | none => exact fun _ g => ⟨g.1, st c1 g.2 (fun z => ht.1 z.symm)⟩
    | some q =>
      intro c3 g
      obtain ⟨vs, g1, g2, g3⟩ := g
      exact ⟨vs, st c1 g1 (fun z => ht.1 z.symm), st (c3 q rfl) g2 (fun z => ht.2.1 z.symm), g3⟩
  · obtain ⟨c1, c2, c3⟩ := k2 i hi
    refine ⟨c1, c2, fun k l z => ?_⟩
    obtain ⟨e, e1, e2, e3⟩ := c3 k l z
    exact ⟨e, e1, e2, st e2 e3 (fun z => ht.2.2 z.symm)⟩
theorem zy_lt {a t : Nat} {vs : List Value} (h : (zy S0 M X)[a]? = some (7, vs)) : a = 44 ∨ 73 ≤ a := by
  by_cases h73 : 73 ≤ a
  · exact Or.inr h73
  · left
    have e : (zy S0 M X)[a]? = (zy S0 M (X.1, X.2.1, []))[a]? := by
      rw [zy_bs, List.getElem?_append_left (by rw [zy_bl]; omega)]
    rw [e] at h
    have t9 : ∀ b, b < 73 → b ≠ 44 → ∃ c, (zy S0 M (X.1, X.2.1, []))[b]? = some c ∧ c.1 ≠ 7 := by
      intro b hb ne
      match b, hb, ne with
      | 0, _, _ => exact ⟨_, rfl, (show (5 : Nat) ≠ 7 by decide)⟩
      | 1, _, _ => exact ⟨_, rfl, (show (0 : Nat) ≠ 7 by decide)⟩
      | 2, _, _ => exact ⟨_, rfl, (show (2 : Nat) ≠ 7 by decide)⟩
      | 3, _, _ => exact ⟨_, rfl, (show (100 : Nat) ≠ 7 by decide)⟩
      | 4, _, _ => exact ⟨_, rfl, (show (2 : Nat) ≠ 7 by decide)⟩
      | 5, _, _ => exact ⟨_, rfl, (show (100 : Nat) ≠ 7 by decide)⟩
      | 6, _, _ => exact ⟨_, rfl, (show (4 : Nat) ≠ 7 by decide)⟩
      | 7, _, _ => exact ⟨_, rfl, (show (2 : Nat) ≠ 7 by decide)⟩
      | 8, _, _ => exact ⟨_, rfl, (show (100 : Nat) ≠ 7 by decide)⟩
      | 9, _, _ => exact ⟨_, rfl, (show (2 : Nat) ≠ 7 by decide)⟩
      | 10, _, _ => exact ⟨_, rfl, (show (100 : Nat) ≠ 7 by decide)⟩
      | 11, _, _ => exact ⟨_, rfl, (show (2 : Nat) ≠ 7 by decide)⟩
      | 12, _, _ => exact ⟨_, rfl, (show (100 : Nat) ≠ 7 by decide)⟩
      | 13, _, _ => exact ⟨_, rfl, (show (2 : Nat) ≠ 7 by decide)⟩
      | 14, _, _ => exact ⟨_, rfl, (show (100 : Nat) ≠ 7 by decide)⟩
      | 15, _, _ => exact ⟨_, rfl, (show (1 : Nat) ≠ 7 by decide)⟩
      | 16, _, _ => exact ⟨_, rfl, (show (2 : Nat) ≠ 7 by decide)⟩
      | 17, _, _ => exact ⟨_, rfl, (show (100 : Nat) ≠ 7 by decide)⟩
      | 18, _, _ => exact ⟨_, rfl, (show (2 : Nat) ≠ 7 by decide)⟩
      | 19, _, _ => exact ⟨_, rfl, (show (100 : Nat) ≠ 7 by decide)⟩
      | 20, _, _ => exact ⟨_, rfl, (show (2 : Nat) ≠ 7 by decide)⟩
      | 21, _, _ => exact ⟨_, rfl, (show (100 : Nat) ≠ 7 by decide)⟩
      | 22, _, _ => exact ⟨_, rfl, (show (1 : Nat) ≠ 7 by decide)⟩
      | 23, _, _ => exact ⟨_, rfl, (show (2 : Nat) ≠ 7 by decide)⟩
      | 24, _, _ => exact ⟨_, rfl, (show (100 : Nat) ≠ 7 by decide)⟩
      | 25, _, _ => exact ⟨_, rfl, (show (2 : Nat) ≠ 7 by decide)⟩
      | 26, _, _ => exact ⟨_, rfl, (show (100 : Nat) ≠ 7 by decide)⟩
      | 27, _, _ => exact ⟨_, rfl, (show (2 : Nat) ≠ 7 by decide)⟩
      | 28, _, _ => exact ⟨_, rfl, (show (100 : Nat) ≠ 7 by decide)⟩
      | 29, _, _ => exact ⟨_, rfl, (show (3 : Nat) ≠ 7 by decide)⟩
      | 30, _, _ => exact ⟨_, rfl, (show (2 : Nat) ≠ 7 by decide)⟩
      | 31, _, _ => exact ⟨_, rfl, (show (100 : Nat) ≠ 7 by decide)⟩
      | 32, _, _ => exact ⟨_, rfl, (show (2 : Nat) ≠ 7 by decide)⟩
      | 33, _, _ => exact ⟨_, rfl, (show (100 : Nat) ≠ 7 by decide)⟩
      | 34, _, _ => exact ⟨_, rfl, (show (2 : Nat) ≠ 7 by decide)⟩
      | 35, _, _ => exact ⟨_, rfl, (show (100 : Nat) ≠ 7 by decide)⟩
      | 36, _, _ => exact ⟨_, rfl, (show (2 : Nat) ≠ 7 by decide)⟩
      | 37, _, _ => exact ⟨_, rfl, (show (100 : Nat) ≠ 7 by decide)⟩
      | 38, _, _ => exact ⟨_, rfl, (show (2 : Nat) ≠ 7 by decide)⟩
      | 39, _, _ => exact ⟨_, rfl, (show (100 : Nat) ≠ 7 by decide)⟩
      | 40, _, _ => exact ⟨_, rfl, (show (2 : Nat) ≠ 7 by decide)⟩
      | 41, _, _ => exact ⟨_, rfl, (show (100 : Nat) ≠ 7 by decide)⟩
      | 42, _, _ => exact ⟨_, rfl, (show (2 : Nat) ≠ 7 by decide)⟩
      | 43, _, _ => exact ⟨_, rfl, (show (100 : Nat) ≠ 7 by decide)⟩
      | 44, _, ne => exact absurd rfl ne
      | 45, _, _ => exact ⟨_, rfl, (show (100 : Nat) ≠ 7 by decide)⟩
      | 46, _, _ => exact ⟨_, rfl, (show (104 : Nat) ≠ 7 by decide)⟩
      | 47, _, _ => exact ⟨_, rfl, (show (100 : Nat) ≠ 7 by decide)⟩
      | 48, _, _ => exact ⟨_, rfl, (show (100 : Nat) ≠ 7 by decide)⟩
      | 49, _, _ => exact ⟨_, rfl, (show (100 : Nat) ≠ 7 by decide)⟩
      | 50, _, _ => exact ⟨_, rfl, (show (100 : Nat) ≠ 7 by decide)⟩
      | 51, _, _ => exact ⟨_, rfl, (show (100 : Nat) ≠ 7 by decide)⟩
      | 52, _, _ => exact ⟨_, rfl, (show (100 : Nat) ≠ 7 by decide)⟩
      | 53, _, _ => exact ⟨_, rfl, (show (100 : Nat) ≠ 7 by decide)⟩
      | 54, _, _ => exact ⟨_, rfl, (show (100 : Nat) ≠ 7 by decide)⟩
      | 55, _, _ => exact ⟨_, rfl, (show (100 : Nat) ≠ 7 by decide)⟩
      | 56, _, _ => exact ⟨_, rfl, (show (100 : Nat) ≠ 7 by decide)⟩
      | 57, _, _ => exact ⟨_, rfl, (show (100 : Nat) ≠ 7 by decide)⟩
      | 58, _, _ => exact ⟨_, rfl, (show (100 : Nat) ≠ 7 by decide)⟩
      | 59, _, _ => exact ⟨_, rfl, (show (100 : Nat) ≠ 7 by decide)⟩
      | 60, _, _ => exact ⟨_, rfl, (show (100 : Nat) ≠ 7 by decide)⟩
      | 61, _, _ => exact ⟨_, rfl, (show (100 : Nat) ≠ 7 by decide)⟩
      | 62, _, _ => exact ⟨_, rfl, (show (100 : Nat) ≠ 7 by decide)⟩
      | 63, _, _ => exact ⟨_, rfl, (show (100 : Nat) ≠ 7 by decide)⟩
      | 64, _, _ => exact ⟨_, rfl, (show (100 : Nat) ≠ 7 by decide)⟩
      | 65, _, _ => exact ⟨_, rfl, (show (100 : Nat) ≠ 7 by decide)⟩
      | 66, _, _ => exact ⟨_, rfl, (show (100 : Nat) ≠ 7 by decide)⟩
      | 67, _, _ => exact ⟨_, rfl, (show (100 : Nat) ≠ 7 by decide)⟩
      | 68, _, _ => exact ⟨_, rfl, (show (100 : Nat) ≠ 7 by decide)⟩
      | 69, _, _ => exact ⟨_, rfl, (show (100 : Nat) ≠ 7 by decide)⟩
      | 70, _, _ => exact ⟨_, rfl, (show (100 : Nat) ≠ 7 by decide)⟩
      | 71, _, _ => exact ⟨_, rfl, (show (101 : Nat) ≠ 7 by decide)⟩
      | 72, _, _ => exact ⟨_, rfl, (show (101 : Nat) ≠ 7 by decide)⟩
      | b + 73, hb, _ => omega
    by_cases ne : a = 44
    · exact ne
    · obtain ⟨c, c1, c2⟩ := t9 a (by omega) ne
      rw [c1] at h
      cases h
      exact absurd rfl c2
theorem zIt_put : ∀ (h : zH) (a t k y kd : Nat) (vs : List Value) (v : Value), zIt S0 M kq h → h[a]? = some (t, vs) → (zcf t)[k]? = some (y, kd) → zfdk kd v = true → y ∈ [43] → zIt S0 M kq (h.set a (t, vs.set k v)) := by
  intro h a t k y kd vs v hI ha hf hv hy
  obtain rfl : y = 43 := by simpa using hy
  obtain ⟨t0, X', hX, rfl⟩ := hI
  have ht : t = 7 ∧ k = 0 ∧ kd = 0 := by
    have e : (List.range 12).all (fun t => (List.range 30).all (fun k => match (zcf t)[k]? with
      | some (y, kd) => !(y == 43) || (t == 7 && k == 0 && kd == 0)
      | none => true)) = true := by decide +kernel
    have l1 : t < 12 := by
      by_cases z : t < 12
      · exact z
      · have : zcf t = [] := zcf_out (by omega)
        rw [this] at hf
        cases hf
    have l2 : k < 30 := by
      have z := (List.getElem?_eq_some_iff.mp hf).1
      have e2 : (List.range 12).all (fun t => decide ((zcf t).length ≤ 30)) = true := by decide +kernel
      have := of_decide_eq_true (List.all_eq_true.mp e2 t (List.mem_range.mpr l1))
      omega
    have z := List.all_eq_true.mp (List.all_eq_true.mp e t (List.mem_range.mpr l1)) k (List.mem_range.mpr l2)
    rw [hf] at z
    simpa [and_assoc] using z
  obtain ⟨rfl, rfl, rfl⟩ := ht
  obtain ⟨x, rfl⟩ : ∃ x : Int32, v = .int x := by
    cases v <;> first | exact ⟨_, rfl⟩ | cases hv
  rcases zy_lt (t := 0) ha with rfl | h73
  · have e44 : vs = _ := (congrArg Prod.snd (Option.some.inj ((show (zy S0 (zmS M 0 t0) X')[44]? = some (7, _) from rfl).symm.trans ha))).symm
    refine ⟨x, X', hX, ?_⟩
    rw [e44]
    show (zy S0 (zmS M 0 t0) X').set 44 (7, _) = zy S0 (zmS M 0 x) X'
    rw [show zmS M 0 x = zmS (zmS M 0 t0) 0 x by
      show (zup M.1 0 x, M.2) = (zup (zup M.1 0 t0) 0 x, M.2)
      rw [zup2]]
    rfl
  · refine ⟨t0, (X'.1, X'.2.1, X'.2.2.set (a - 73) (7, vs.set 0 (.int x))), zUX_set h73 ((zy_ge h73).symm.trans ha) (by decide) (fun z => by
      have w := (zy_ge h73).symm.trans ha
      rw [← z, hX.2.2.2.2.1] at w
      have w2 := congrArg Prod.fst (Option.some.inj w)
      rw [hX.2.2.2.2.2] at w2
      exact absurd w2 (show ¬ (6 : Nat) = 7 by decide)) hX, ?_⟩
    rw [zy_bs, List.set_append_right _ _ (by rw [zy_bl]; exact h73), zy_bl]
    rfl
def zqo : List Nat := [111, 112, 113, 114, 117, 118, 119, 120, 121, 122, 123, 124, 125, 131, 138, 149, 156, 158, 159, 161, 162, 163, 166, 167, 168, 169, 173, 176, 177, 179, 181, 182, 183, 184, 186, 217, 219, 238, 239, 243, 153, 154, 155, 157, 160, 164, 165, 170, 174, 178, 180, 185, 187]
theorem zqo_ok : zqo.all (zpy [43] zqo []) = true := by decide +kernel
/-- what is asked of the reference leaves it, but for thrown -/
theorem f_ask {y : Nat} {as : List Value} (hy : y ∈ zqo) (hX : zUX kq X M.2.2) : zpM xs N y as (zy S0 M X) nc ns (fun o => zIt S0 M kq o.2.1) := by
  intro L0 e n hn d o eo
  exact zinv zqo_ok (fun y hy => absurd hy List.not_mem_nil) zIt_put n d y 0 L0 [] _ nc ns o hy ⟨M.1 0, X, hX, by
    rw [show zmS M 0 (M.1 0) = M from Prod.ext (funext (fun j => by
      show (if j = 0 then M.1 0 else M.1 j) = _
      split
      · next z => rw [z]
      · rfl)) rfl]⟩ eo
end ZQJ
section ZQK
variable {xs : List Int32} {h h' : zH} {L L' : zL} {st st' : List Value} {D y m nc ns k n c nx pc pc' : Nat} {i : Instr} {dc ds : Nat} {fs : List Nat}
def zbrk (i : Instr) : Bool := match i with
  | .ifCond _ _ => true
  | .if_icmp _ _ => true
  | .goto _ => true
  | _ => false
def zsw (i : Instr) : Bool := match i with
  | .tableswitch _ _ _ _ => true
  | .lookupswitch _ _ => true
  | _ => false
theorem zgo_pc (e : zgo nx L st h = some (.inl (pc', L', st', h', dc, ds))) : pc' = nx := by
  cases e
  rfl
theorem zsv1_pc {j : Nat} {v : Value} (e : zsv1 L j nx v st h = some (.inl (pc', L', st', h', dc, ds))) : pc' = nx := by
  unfold zsv1 at e
  split at e
  · cases e
    rfl
  · cases e
theorem zsv2_pc {j : Nat} {v : Value} (e : zsv2 L j nx v st h = some (.inl (pc', L', st', h', dc, ds))) : pc' = nx := by
  unfold zsv2 at e
  split at e
  · cases e
    rfl
  · cases e
theorem zbr_pc {q : ClassFile.Cond} {x z : Int32} {tg : Nat} (e : zbr q x z tg nx L st h = some (.inl (pc', L', st', h', dc, ds))) : pc' = nx ∨ pc' = tg := by
  unfold zbr zgo at e
  cases q <;> (dsimp only at e; split at e <;> (cases e; first | exact Or.inl rfl | exact Or.inr rfl))
theorem zald_pc {t : Nat} (e : zald t nx L st h = some (.inl (pc', L', st', h', dc, ds))) : pc' = nx := by
  unfold zald zgo at e
  repeat' split at e
  all_goals first | (cases e; rfl) | cases e
theorem zput_pc (e : zput zcf y k nx L st h = some (.inl (pc', L', st', h', dc, ds))) : pc' = nx := by
  unfold zput zgo at e
  repeat' split at e
  all_goals first | (cases e; rfl) | cases e
theorem zpq_pc (hz : zpq fs i k y = true) (hs : zsw i = false) (e : zstep zcf xs pc i nx k y n c L st h = some (.inl (pc', L', st', h', dc, ds))) : pc' = nx ∨ (zbrk i = true ∧ pc' = k) := by
  cases i <;> first
    | (cases hz; done)
    | (cases hs; done)
    | (simp only [zstep, zldI, zldL, zldD, zldA, zsI, zsA, zsL, zsD, zinc, zpq, zbin, zbinL, zbinD, zun, zlc, zd2l, zpu, zdiv, zif, zicmp, zialoadX, zalen, zaald, zget, zchk, zdup, zpop, zpop2, zcopy, zmm, zcall, zcallV, zgetc, zret, znew] at e
       repeat' split at e
       all_goals first
         | (cases e; done)
         | exact Or.inl (zgo_pc e)
         | exact Or.inr ⟨rfl, zgo_pc e⟩
         | exact Or.inl (zsv1_pc e)
         | exact Or.inl (zsv2_pc e)
         | exact (zbr_pc e).imp id (fun z => ⟨rfl, z⟩)
         | exact Or.inl (zald_pc e)
         | exact Or.inl (zput_pc e)
         | (cases e; exact Or.inl rfl)
         | (simp_all [zpq]; done))
/-- the rows from lo on -/
def zpyf (fs ok : List Nat) (y lo : Nat) : Bool := (zmc y).all (fun r => decide (r.1 < lo) || (zpq fs r.2.1 r.2.2.2.1 r.2.2.2.2.1 && (!(zpc r.2.1 r.2.2.2.1) || ok.contains r.2.2.2.2.1) && decide (lo ≤ r.2.2.1) && (!(zbrk r.2.1) || decide (lo ≤ r.2.2.2.1)) && !(zsw r.2.1)))
theorem zinvf {I : zH → Prop} {ok : List Nat} {y lo : Nat} (hok : ok.all (zpy fs ok []) = true) (hy : zpyf fs ok y lo = true) (hh : zmh y = []) (hp : ∀ (h : zH) (a t k y kd : Nat) (vs : List Value) (v : Value), I h → h[a]? = some (t, vs) → (zcf t)[k]? = some (y, kd) → zfdk kd v = true → y ∈ fs → I (h.set a (t, vs.set k v))) : ∀ (m d pc : Nat) (L : zL) (st : List Value) (h : zH) (nc ns : Nat) (o : zO), lo ≤ pc → I h → zev xs m d y pc L st h nc ns = some o → I o.2.1
  | 0, _, _, _, _, _, _, _, _, _, _, e => by cases e
  | m + 1, d, pc, L, st, h, nc, ns, o, hlo, hI, e => by
    unfold zev at e
    cases e1 : zat (zmc y) pc with
    | none =>
      rw [e1] at e
      cases e
    | some q =>
      obtain ⟨i, nx, k, yy, n9, c⟩ := q
      have hr := List.all_eq_true.mp hy _ (zat_mem e1)
      simp only [Bool.and_eq_true, Bool.or_eq_true, Bool.not_eq_true', decide_eq_true_eq] at hr
      obtain ⟨⟨⟨⟨hq, hc⟩, hnx⟩, hb⟩, hs⟩ := hr.resolve_left (by omega)
      rw [e1] at e
      dsimp only at e
      cases e2 : zstep zcf xs pc i nx k yy n9 c L st h with
      | none =>
        rw [e2] at e
        cases e
      | some w =>
        rw [e2] at e
        rcases w with ⟨pc', L', st', h', dc, ds⟩ | ⟨y', as, r, nx'⟩ | ⟨r, dc, ds⟩
        · refine zinvf hok hy hh hp m d pc' L' st' h' _ _ o ?_ ?_ e
          · rcases zpq_pc hq hs e2 with z | ⟨z1, z2⟩
            · omega
            · rcases hb with hb | hb
              · rw [hb] at z1
                cases z1
              · omega
          · rcases zpq_ok hq e2 with z | ⟨z, a, t, vs, v, kd, z1, z2, z3, z4⟩
            · rw [z]
              exact hI
            · rw [z4]
              exact hp _ _ _ _ _ _ _ _ hI z1 z2 z3 z
        · obtain ⟨rfl, hpc⟩ := zpq_call hq e2
          have enx : nx' = nx := zqc_nx hq e2
          dsimp only at e
          have hcall : ∀ (d' : Nat) (L0 : zL) (o1 : zO), zev xs m d' y' 0 L0 [] h nc ns = some o1 → I o1.2.1 := by
            intro d' L0 o1 hev
            rcases hc with hc | hc
            · rw [hc] at hpc
              cases hpc
            · exact zinv hok (fun y hy => absurd hy List.not_mem_nil) hp m d' y' 0 L0 [] h nc ns o1 (List.contains_iff_mem.mp hc) hI hev
          split at e
          · cases e
          · split at e
            · cases e
            · next d' q =>
              split at e
              · next q2 => exact zinvf hok hy hh hp m _ _ _ _ _ _ _ o (by omega) (hcall _ _ _ q2) e
              · next q2 =>
                rw [hh] at e
                cases e
                exact hcall _ _ _ q2
              · cases e
        · cases e
          exact hI
end ZQK
