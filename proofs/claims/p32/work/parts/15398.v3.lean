/-! No run of pure code, nor of one that stores into rows of ints, changes how long a cell is. Written by wip/v3/genlen.py. -/
def zpq5 (fs : List Nat) (i : Instr) (k y : Nat) : Bool := match i with
  | .iload _ => true
  | .iload_n _ => true
  | .aload _ => true
  | .aload_n _ => true
  | .lload _ => true
  | .lload_n _ => true
  | .dload _ => true
  | .dload_n _ => true
  | .istore _ => true
  | .istore_n _ => true
  | .astore _ => true
  | .astore_n _ => true
  | .lstore _ => true
  | .lstore_n _ => true
  | .dstore _ => true
  | .dstore_n _ => true
  | .iinc _ _ => true
  | .iconst _ => true
  | .lconst _ => true
  | .bipush _ => true
  | .sipush _ => true
  | .aconst_null => true
  | .ldc2_w _ => true
  | .ifCond _ _ => true
  | .if_icmp _ _ => true
  | .iaload => true
  | .iastore => true
  | .baload => true
  | .aaload => true
  | .arraylength => true
  | .getfield _ => true
  | .checkcast _ => true
  | .goto _ => true
  | .dup => true
  | .pop => true
  | .pop2 => true
  | .iadd => true
  | .isub => true
  | .imul => true
  | .idiv => true
  | .irem => true
  | .iand => true
  | .ior => true
  | .ixor => true
  | .ishl => true
  | .ishr => true
  | .iushr => true
  | .ineg => true
  | .i2l => true
  | .i2d => true
  | .i2c => true
  | .ladd => true
  | .lmul => true
  | .lcmp => true
  | .ddiv => true
  | .dmul => true
  | .d2l => true
  | .tableswitch _ _ _ _ => true
  | .lookupswitch _ _ => true
  | .ireturn => true
  | .lreturn => true
  | .dreturn => true
  | .areturn => true
  | .return_ => true
  | .athrow => true
  | .new _ => k == 9
  | .ldc_w _ => true
  | .putfield _ => fs.contains y
  | .invokestatic _ => !(k == 10)
  | .invokevirtual _ => true
  | .invokeinterface _ _ => true
  | _ => false
section ZQI5
variable {xs : List Int32} {h h' : zH} {L L' : zL} {st st' : List Value} {D y m nc ns k n c nx pc pc' : Nat} {i : Instr} {dc ds : Nat} {fs : List Nat}
theorem zast_h {t9 : Nat} {g9 : Int32 → Option Int32} (e : zast t9 g9 nx L st h = some (.inl (pc', L', st', h', dc, ds))) : ∃ a t vs k v, h[a]? = some (t, vs) ∧ h' = h.set a (t, vs.set k v) := by
  unfold zast zgo at e
  split at e
  · next x i a r =>
    split at e
    · next t' vs e1 =>
      split at e
      · next q =>
        subst q
        split at e
        · cases e
        · split at e
          · split at e
            · cases e
              exact ⟨a, t', vs, _, _, e1, rfl⟩
            · cases e
          · cases e
      · cases e
    · cases e
  · cases e
theorem zqc_nx5 {y' nx' : Nat} {as r : List Value} (hz : zpq5 fs i k y = true) (e : zstep zcf xs pc i nx k y n c L st h = some (.inr (.inl (y', as, r, nx')))) : nx' = nx := by
  cases i <;> first
    | (cases hz; done)
    | (simp only [zstep, zldI, zldL, zldD, zldA, zsI, zsA, zsL, zsD, zsv1, zsv2, zbr, zald, zput, zinc, zpq5, zbin, zbinL, zbinD, zun, zlc, zd2l, zpu, zdiv, zif, zicmp, zialoadX, zalen, zaald, zast, zget, zchk, zdup, zpop, zpop2, zcopy, zmm, zcall, zcallV, zgetc, zret, ztab, zlook, zoff, znew, zgo] at e
       repeat' split at e
       all_goals first
         | (cases e; done)
         | (cases e; rfl)
         | (simp_all [zpq5]; done))
end ZQI5
section ZQL5
variable {xs : List Int32} {N : Nat} {h : zH} {nc ns : Nat}
/-- how long a cell is -/
def zln9 (p n : Nat) (h : zH) : Prop := ∃ t vs, h[p]? = some (t, vs) ∧ vs.length = n
theorem zln9_set {p n : Nat} : ∀ (h : zH) (a t k : Nat) (vs : List Value) (v : Value), zln9 p n h → h[a]? = some (t, vs) → zln9 p n (h.set a (t, vs.set k v)) := by
  rintro h a t k vs v ⟨t0, ws, e1, e2⟩ ha
  by_cases q : a = p
  · subst q
    rw [ha] at e1
    cases e1
    exact ⟨t, vs.set k v, List.getElem?_set_self (List.getElem?_eq_some_iff.mp ha).1, by rw [List.length_set]; exact e2⟩
  · exact ⟨t0, ws, by rw [List.getElem?_set_ne q]; exact e1, e2⟩
end ZQL5
section ZQ2
variable {xs : List Int32} {N : Nat} {S : zSt} {M : zRt} {X : zXt} {q : Nat} {vs : List Value} {nc ns : Nat}
def zrP_79 (r : Option Value ⊕ Nat) : Prop := (∃ x : Int32, r = .inl (some (.int x))) ∨ r = .inr 0
theorem rs_79 {x1 : Int32} : (∃ x : Int32, R79 x1 S = .inl (some (.int x))) ∨ R79 x1 S = .inr 0 := by
  show zrP_79 (R79 x1 S)
  unfold R79
  repeat' first | refine zifP (P := zrP_79) ?_ ?_ | exact Or.inl ⟨_, rfl⟩ | exact Or.inr (rfl)
abbrev kc_213 : Nat → Int32 := fun E => if E = 0 then Int32.ofInt 1 else 0
end ZQ2
/-! wouldLeak: the answers, and how long the row of the leaked ones is. -/
section ZL3AB
variable {S S' : zSt} {M M' : zRt} {x1 : Int32} {q n : Nat}
theorem zM_79 (h : zE S M) (ht : 0 ≤ (S.1 4).toInt ∧ (S.1 4).toInt ≤ 5000) : zAn (R79 x1 S) (v185 x1 M) ((r185 x1 M).1 0) kc_213 := by
  have h0 : zE S (zmS M 0 (Int32.ofInt 0)) := zE_0 h
  have z1 : (Int32.ofInt 1).toInt = 1 := by decide
  have z100 : (Int32.ofInt 100).toInt = 100 := by decide
  have hq := h0.1.2.1.2.2
  have h24 := hq.2.1
  by_cases r1 : 1 ≤ x1.toInt ∧ x1.toInt ≤ 100
  · have c : C85 x1 S = true := by
      unfold C85
      rw [z1, z100, if_neg (by omega), if_neg (by omega)]
    have n1 : ¬ v112 x1 (Int32.ofInt 1) (Int32.ofInt 100) (zmS M 0 (Int32.ofInt 0)) = 0 := fun z => v112_1.mp z (by rw [z1, z100]; exact r1)
    have hr : r185 x1 M = zmS M 0 (Int32.ofInt 0) := if_neg n1
    have hv : v185 x1 M = v183 x1 (zmS M 0 (Int32.ofInt 0)) := if_neg n1
    have key : R79 x1 S = .inl (some (.int (v183 x1 (zmS M 0 (Int32.ofInt 0))))) := by
      have e9 : (S.1 10).toInt.toNat = ((zmS M 0 (Int32.ofInt 0)).2.2.1 1).length := by
        rw [hq.1, zof_0 (by omega)]
        omega
      have e8 : V48 x1 S = v183 x1 (zmS M 0 (Int32.ofInt 0)) := by
        unfold V48 v183
        rw [e9]
        exact (zE_48l h0 (zE_sk h0).2 _ (Nat.le_refl _)).1
      rw [← e8]
      exact if_pos c
    rw [hr, hv]
    exact Or.inl ⟨_, key, rfl, zM00⟩
  · have nc : ¬ C85 x1 S = true := fun z => r1 (C85_9 z)
    have n1 : v112 x1 (Int32.ofInt 1) (Int32.ofInt 100) (zmS M 0 (Int32.ofInt 0)) = 0 := v112_1.mpr (by rw [z1, z100]; exact r1)
    have hR : R79 x1 S = .inr 0 := if_neg nc
    have hr : r185 x1 M = r111 (Int32.ofInt 1) (zmS M 0 (Int32.ofInt 0)) := if_pos n1
    rw [hR, hr]
    exact Or.inr ⟨0, rfl, show Int32.ofInt 1 = kc_213 0 by decide⟩
/-- how long the row is, of a heap -/
theorem zln9_y {X : zXt} : zln9 14 (S.2 5).length (zy S M X) := ⟨100, (S.2 5).map Value.int, rfl, List.length_map ..⟩
theorem zln9_z {X : zXt} (h : zln9 14 n (zy S M X)) : (S.2 5).length = n := by
  obtain ⟨t, vs, e1, e2⟩ := h
  cases (show some (100, (S.2 5).map Value.int) = some (t, vs) from e1)
  rw [List.length_map] at e2
  exact e2
end ZL3AB
