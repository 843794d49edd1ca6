/-! Methods that change nothing. -/
def zpui : Instr → Bool
  | .iload _ => true
  | .iload_n _ => true
  | .aload _ => true
  | .aload_n _ => true
  | .lload _ => true
  | .lload_n _ => true
  | .istore _ => true
  | .istore_n _ => true
  | .astore _ => true
  | .astore_n _ => true
  | .iinc _ _ => true
  | .iconst _ => true
  | .bipush _ => true
  | .sipush _ => true
  | .ifCond _ _ => true
  | .if_icmp _ _ => true
  | .iaload => true
  | .baload => true
  | .aaload => true
  | .arraylength => true
  | .getfield _ => true
  | .checkcast _ => true
  | .goto _ => true
  | .dup => true
  | .pop => true
  | .iadd => true
  | .isub => true
  | .imul => true
  | .idiv => true
  | .irem => true
  | .iand => true
  | .ior => true
  | .ixor => true
  | .ishl => true
  | .ishr => true
  | .ireturn => true
  | .return_ => true
  | .invokestatic _ => true
  | .invokevirtual _ => true
  | .invokeinterface _ _ => true
  | _ => false
section ZPU
variable {xs : List Int32} {g : zG} {lg : Nat} {h h' : zH} {L L' : zL} {A S : List zTy} {st st' : List Value} {cs : List zCt} {D y m nc ns k n c nx pc pc' : Nat} {i : Instr} {S' : List zTy} {dc ds : Nat}
theorem zsv1_h {j : Nat} {v : Value} (e : zsv1 L j nx v st h = some (.inl (pc', L', st', h', dc, ds))) : h' = h := by
  unfold zsv1 at e
  split at e
  · cases e
    rfl
  · cases e
theorem zbr_h {q : ClassFile.Cond} {x z : Int32} {tg : Nat} (e : zbr q x z tg nx L st h = some (.inl (pc', L', st', h', dc, ds))) : h' = h := by
  unfold zbr zgo at e
  cases q <;> (dsimp only at e; split at e <;> (cases e; rfl))
theorem zald_h {t : Nat} (e : zald t nx L st h = some (.inl (pc', L', st', h', dc, ds))) : h' = h := by
  unfold zald zgo at e
  repeat' split at e
  all_goals first | (cases e; rfl) | cases e
theorem zpu_ok (hz : zpui i = true) (hk : ¬ k = 10) (e : zstep zcf xs pc i nx k y n c L st h = some (.inl (pc', L', st', h', dc, ds))) : h' = h := by
  cases i <;> first
    | (cases hz; done)
    | (simp only [zstep, zldI, zldL, zldA, zsI, zsA, zinc, zpui, zbin, zdiv, zif, zicmp, zialoadX, zalen, zaald, zget, zchk, zdup, zpop, zcopy, zmm, zcall, zcallV, zgetc, zret, zgo] at e
       repeat' split at e
       all_goals first
         | (cases e; rfl)
         | (exfalso; exact hk (by assumption))
         | (cases e)
         | exact zsv1_h e
         | exact zbr_h e
         | exact zald_h e)
end ZPU
/-- a contract of a method that changes nothing -/
def zGp (xs : List Int32) (ct : zCt) : Prop := ∀ g lg h nc ns as, zHI g lg h → zgs g lg h [] ct.as as → zMs xs ct.dep ct.y as h nc ns (fun o => ∃ v, o = (.inl v, h, nc, ns) ∧ zgo2 g lg h (as.map some) ct.rt v)
section ZPV
variable {xs : List Int32} {g : zG} {lg : Nat} {h : zH} {L : zL} {A S : List zTy} {st : List Value} {cs : List zCt} {D y m nc ns k n c nx pc : Nat} {i : Instr} {S' : List zTy} {dc ds : Nat}
def zPd (g : zG) (lg : Nat) (h : zH) (L : zL) (nc ns : Nat) (S' : List zTy) (r : List Value) : zO → Prop := fun o => ∃ v, o = (.inl v, h, nc, ns) ∧ zgs g lg h L S' (v.toList ++ r)
theorem zcg_okp (hcs : ∀ ct ∈ cs, zGp xs ct) (e : zcg cs (D + 1) y m S = some (S', dc, ds)) (hI : zHI g lg h) (hS : zgs g lg h L S st) : m ≤ st.length ∧ zcs (st.drop m) ≤ 8 ∧ zMs xs D y (st.take m).reverse h nc ns (zPd g lg h L nc ns S' (st.drop m)) := by
  unfold zcg at e
  split at e
  · next w =>
    split at e
    · next ct q =>
      cases e
      have hm := List.mem_of_find?_eq_some q
      have hp := List.find?_some q
      unfold zcp at hp
      simp only [Bool.and_eq_true, beq_iff_eq, decide_eq_true_eq] at hp
      obtain ⟨⟨⟨rfl, p2⟩, p3⟩, p4⟩ := hp
      have hl := zgs_len hS
      have hd := zgs_drop (n := m) hS
      have ha := zgs_rev (zgs_take (n := m) hS)
      refine ⟨by omega, Nat.le_trans (zcsA_ok hd) w.2, zMs_mono (by omega) (zMs_post (fun o ho => ?_) (hcs ct hm g lg h nc ns _ hI (zsbs_s p2 (zgs_fl ha))))⟩
      obtain ⟨v, rfl, b1⟩ := ho
      refine ⟨v, rfl, zgs_app (zrtT_ok ha b1 (fun T hT => ?_)) hd⟩
      rw [hT] at p4
      unfold zcr at p4
      split at p4
      · next e => cases e
      · next e =>
        cases e
        exact Or.inr ⟨_, _, _, _, rfl⟩
      · next e =>
        cases e
        exact Or.inl p4
    · cases e
  · cases e
def zpus (y : Nat) (cert : List zCe) : Bool := cert.all (fun e => match zat (zmc y) e.1 with
  | some (i, _, k, _) => zpui i && k != 10
  | none => false)
theorem p_117 : zGp xs ct_117 := by
  intro g lg h nc ns as hI hS
  obtain ⟨v, rfl, k⟩ := zin1 hS
  obtain rfl := zP_eq k
  obtain ⟨vs, m1, m2, m3, m4⟩ := hI.obj
  obtain ⟨x, y, b1, b2, b3⟩ := hI.bits
  have v1 := m4 1 (by decide)
  have v2 := m4 2 (by decide)
  rw [b1] at v1
  rw [b2] at v2
  have hz := hI.sizes
  refine ⟨_, rfl, zEs_run 1 rfl ?_⟩
  refine zEs_get rfl m1 rfl v1 ?_
  refine zEs_run 1 rfl ?_
  refine zEs_get rfl m1 rfl v2 ?_
  refine zEs_run 1 rfl ?_
  have e := Int32.toInt_add x y
  rw [zbm (by omega) (by omega)] at e
  exact zEs_end rfl rfl ⟨_, rfl, _, rfl, x + y, rfl, by omega, by omega, show _ ≤ (g.zn : Int) by omega, Or.inl rfl⟩
end ZPV
