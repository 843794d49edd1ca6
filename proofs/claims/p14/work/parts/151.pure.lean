/-! Methods that change nothing. -/
def zpu : Instr → Bool
  | .iload _ => true
  | .iload_n _ => true
  | .aload _ => true
  | .aload_n _ => true
  | .lload _ => true
  | .lload_n _ => true
  | .istore _ => true
  | .istore_n _ => true
  | .astore _ => true
  | .astore_n _ => true
  | .iinc _ _ => true
  | .iconst _ => true
  | .bipush _ => true
  | .sipush _ => true
  | .ifCond _ _ => true
  | .if_icmp _ _ => true
  | .iaload => true
  | .baload => true
  | .aaload => true
  | .arraylength => true
  | .getfield _ => true
  | .checkcast _ => true
  | .goto _ => true
  | .dup => true
  | .pop => true
  | .iadd => true
  | .isub => true
  | .imul => true
  | .idiv => true
  | .irem => true
  | .iand => true
  | .ior => true
  | .ixor => true
  | .ishl => true
  | .ishr => true
  | .ireturn => true
  | .return_ => true
  | .invokestatic _ => true
  | .invokevirtual _ => true
  | .invokeinterface _ _ => true
  | _ => false
section ZPU
variable {xs : List Int32} {g : zG} {lg : Nat} {h h' : zH} {L L' : zL} {A S : List zTy} {st st' : List Value} {cs : List zCt} {D y m nc ns k n c nx pc pc' : Nat} {i : Instr} {S' : List zTy} {dc ds : Nat}
theorem zsv1_h {j : Nat} {v : Value} (e : zsv1 L j nx v st h = some (.inl (pc', L', st', h', dc, ds))) : h' = h := by
  unfold zsv1 at e
  split at e
  · cases e
    rfl
  · cases e
theorem zbr_h {q : ClassFile.Cond} {x z : Int32} {tg : Nat} (e : zbr q x z tg nx L st h = some (.inl (pc', L', st', h', dc, ds))) : h' = h := by
  unfold zbr zgo at e
  cases q <;> (dsimp only at e; split at e <;> (cases e; rfl))
theorem zald_h {t : Nat} (e : zald t nx L st h = some (.inl (pc', L', st', h', dc, ds))) : h' = h := by
  unfold zald zgo at e
  repeat' split at e
  all_goals first | (cases e; rfl) | cases e
theorem zpu_ok (hz : zpu i = true) (e : zstep zcf xs pc i nx k y n c L st h = some (.inl (pc', L', st', h', dc, ds))) : h' = h := by
  cases i <;> first
    | (exact absurd hz (by simp [zpu]))
    | (simp only [zstep, zldI, zldL, zldA, zsI, zsA, zinc, zpu, zbin, zdiv, zif, zicmp, zialoadX, zalen, zaald, zget, zchk, zdup, zpop, zcopy, zmm, zcall, zcallV, zgetc, zret, zgo] at e
       repeat' split at e
       all_goals first
         | (cases e; rfl)
         | (cases e)
         | exact zsv1_h e
         | exact zbr_h e
         | exact zald_h e)
end ZPU
