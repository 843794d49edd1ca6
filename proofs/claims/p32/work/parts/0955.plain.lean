/-! Steps that neither call nor end. -/
def zis (o : Option zA) : Prop := ∀ q, ¬ o = some (.inr q)
theorem zis_n : zis none := fun q h => by cases h
theorem zis_go {pc : Nat} {L : zL} {st : List Value} {h : zH} : zis (zgo pc L st h) := fun q h => by cases h
theorem zis_l {x : Nat × zL × List Value × zH × Nat × Nat} : zis (some (.inl x)) := fun q h => by cases h
theorem zldI_is {L : zL} {i nx : Nat} {st : List Value} {h : zH} : zis (zldI L i nx st h) := by
  unfold zldI
  repeat' (first | exact zis_n | exact zis_go | exact zis_l | split)
theorem zldL_is {L : zL} {i nx : Nat} {st : List Value} {h : zH} : zis (zldL L i nx st h) := by
  unfold zldL
  repeat' (first | exact zis_n | exact zis_go | exact zis_l | split)
theorem zldD_is {L : zL} {i nx : Nat} {st : List Value} {h : zH} : zis (zldD L i nx st h) := by
  unfold zldD
  repeat' (first | exact zis_n | exact zis_go | exact zis_l | split)
theorem zldA_is {L : zL} {i nx : Nat} {st : List Value} {h : zH} : zis (zldA L i nx st h) := by
  unfold zldA
  repeat' (first | exact zis_n | exact zis_go | exact zis_l | split)
theorem zsv1_is {L : zL} {i nx : Nat} {v : Value} {st : List Value} {h : zH} : zis (zsv1 L i nx v st h) := by
  unfold zsv1
  repeat' (first | exact zis_n | exact zis_go | exact zis_l | split)
theorem zsv2_is {L : zL} {i nx : Nat} {v : Value} {st : List Value} {h : zH} : zis (zsv2 L i nx v st h) := by
  unfold zsv2
  repeat' (first | exact zis_n | exact zis_go | exact zis_l | exact zsv1_is | split)
theorem zsI_is {L : zL} {i nx : Nat} {st : List Value} {h : zH} : zis (zsI L i nx st h) := by
  unfold zsI
  repeat' (first | exact zis_n | exact zis_go | exact zis_l | exact zsv1_is | exact zsv2_is | split)
theorem zsA_is {L : zL} {i nx : Nat} {st : List Value} {h : zH} : zis (zsA L i nx st h) := by
  unfold zsA
  repeat' (first | exact zis_n | exact zis_go | exact zis_l | exact zsv1_is | exact zsv2_is | split)
theorem zsL_is {L : zL} {i nx : Nat} {st : List Value} {h : zH} : zis (zsL L i nx st h) := by
  unfold zsL
  repeat' (first | exact zis_n | exact zis_go | exact zis_l | exact zsv1_is | exact zsv2_is | split)
theorem zsD_is {L : zL} {i nx : Nat} {st : List Value} {h : zH} : zis (zsD L i nx st h) := by
  unfold zsD
  repeat' (first | exact zis_n | exact zis_go | exact zis_l | exact zsv1_is | exact zsv2_is | split)
theorem zinc_is {L : zL} {i nx : Nat} {n : Int} {st : List Value} {h : zH} : zis (zinc L i n nx st h) := by
  unfold zinc
  repeat' (first | exact zis_n | exact zis_go | exact zis_l | exact zsv1_is | exact zsv2_is | split)
theorem zpu_is {L : zL} {v : Value} {nx : Nat} {st : List Value} {h : zH} : zis (zpu L v nx st h) := zis_go
theorem zbin_is {f : Int32 → Int32 → Int32} {L : zL} {nx : Nat} {st : List Value} {h : zH} : zis (zbin f nx L st h) := by
  unfold zbin
  repeat' (first | exact zis_n | exact zis_go | exact zis_l | exact zsv1_is | exact zsv2_is | split)
theorem zdiv_is {f : Int32 → Int32 → Int32} {L : zL} {nx : Nat} {st : List Value} {h : zH} : zis (zdiv f nx L st h) := by
  unfold zdiv
  repeat' (first | exact zis_n | exact zis_go | exact zis_l | exact zsv1_is | exact zsv2_is | split)
theorem zun_is {f : Int32 → Value} {L : zL} {nx : Nat} {st : List Value} {h : zH} : zis (zun f nx L st h) := by
  unfold zun
  repeat' (first | exact zis_n | exact zis_go | exact zis_l | exact zsv1_is | exact zsv2_is | split)
theorem zbinL_is {f : Int64 → Int64 → Int64} {L : zL} {nx : Nat} {st : List Value} {h : zH} : zis (zbinL f nx L st h) := by
  unfold zbinL
  repeat' (first | exact zis_n | exact zis_go | exact zis_l | exact zsv1_is | exact zsv2_is | split)
theorem zlc_is {L : zL} {nx : Nat} {st : List Value} {h : zH} : zis (zlc nx L st h) := by
  unfold zlc
  repeat' (first | exact zis_n | exact zis_go | exact zis_l | exact zsv1_is | exact zsv2_is | split)
theorem zbinD_is {f : UInt64 → UInt64 → UInt64} {L : zL} {nx : Nat} {st : List Value} {h : zH} : zis (zbinD f nx L st h) := by
  unfold zbinD
  repeat' (first | exact zis_n | exact zis_go | exact zis_l | exact zsv1_is | exact zsv2_is | split)
theorem zd2l_is {L : zL} {nx : Nat} {st : List Value} {h : zH} : zis (zd2l nx L st h) := by
  unfold zd2l
  repeat' (first | exact zis_n | exact zis_go | exact zis_l | exact zsv1_is | exact zsv2_is | split)
theorem zdup_is {L : zL} {nx : Nat} {st : List Value} {h : zH} : zis (zdup nx L st h) := by
  unfold zdup
  repeat' (first | exact zis_n | exact zis_go | exact zis_l | exact zsv1_is | exact zsv2_is | split)
theorem zpop_is {L : zL} {nx : Nat} {st : List Value} {h : zH} : zis (zpop nx L st h) := by
  unfold zpop
  repeat' (first | exact zis_n | exact zis_go | exact zis_l | exact zsv1_is | exact zsv2_is | split)
theorem zpop2_is {L : zL} {nx : Nat} {st : List Value} {h : zH} : zis (zpop2 nx L st h) := by
  unfold zpop2
  repeat' (first | exact zis_n | exact zis_go | exact zis_l | exact zsv1_is | exact zsv2_is | split)
theorem zdupx1_is {L : zL} {nx : Nat} {st : List Value} {h : zH} : zis (zdupx1 nx L st h) := by
  unfold zdupx1
  repeat' (first | exact zis_n | exact zis_go | exact zis_l | exact zsv1_is | exact zsv2_is | split)
theorem zdup2_is {L : zL} {nx : Nat} {st : List Value} {h : zH} : zis (zdup2 nx L st h) := by
  unfold zdup2
  repeat' (first | exact zis_n | exact zis_go | exact zis_l | exact zsv1_is | exact zsv2_is | split)
theorem zaald_is {L : zL} {nx : Nat} {st : List Value} {h : zH} : zis (zaald nx L st h) := by
  unfold zaald
  repeat' (first | exact zis_n | exact zis_go | exact zis_l | exact zsv1_is | exact zsv2_is | split)
theorem zaast_is {L : zL} {nx : Nat} {st : List Value} {h : zH} : zis (zaast nx L st h) := by
  unfold zaast
  repeat' (first | exact zis_n | exact zis_go | exact zis_l | exact zsv1_is | exact zsv2_is | split)
theorem zmulti_is {L : zL} {nx : Nat} {st : List Value} {h : zH} : zis (zmulti nx L st h) := by
  unfold zmulti
  repeat' (first | exact zis_n | exact zis_go | exact zis_l | exact zsv1_is | exact zsv2_is | split)
theorem zcopy_is {L : zL} {nx : Nat} {st : List Value} {h : zH} : zis (zcopy nx L st h) := by
  unfold zcopy
  repeat' (first | exact zis_n | exact zis_go | exact zis_l | exact zsv1_is | exact zsv2_is | split)
theorem zoi_is {L : zL} {nx : Nat} {st : List Value} {h : zH} : zis (zoi nx L st h) := by
  unfold zoi
  repeat' (first | exact zis_n | exact zis_go | exact zis_l | exact zsv1_is | exact zsv2_is | split)
theorem zbr_is {c : ClassFile.Cond} {x y : Int32} {tg nx : Nat} {L : zL} {r : List Value} {h : zH} : zis (zbr c x y tg nx L r h) := by
  unfold zbr
  repeat' (first | exact zis_n | exact zis_go | exact zis_l | exact zsv1_is | exact zsv2_is | split)
theorem zif_is {c : ClassFile.Cond} {tg nx : Nat} {L : zL} {st : List Value} {h : zH} : zis (zif c tg nx L st h) := by
  unfold zif
  repeat' (first | exact zis_n | exact zis_go | exact zis_l | exact zsv1_is | exact zsv2_is | exact zbr_is | split)
theorem zicmp_is {c : ClassFile.Cond} {tg nx : Nat} {L : zL} {st : List Value} {h : zH} : zis (zicmp c tg nx L st h) := by
  unfold zicmp
  repeat' (first | exact zis_n | exact zis_go | exact zis_l | exact zsv1_is | exact zsv2_is | exact zbr_is | split)
theorem zoff_is {pc : Nat} {o : Int} {L : zL} {r : List Value} {h : zH} : zis (zoff pc o L r h) := by
  unfold zoff
  repeat' (first | exact zis_n | exact zis_go | exact zis_l | exact zsv1_is | exact zsv2_is | exact zbr_is | split)
theorem ztab_is {pc : Nat} {d lo hi : Int} {offs : Array Int} {L : zL} {st : List Value} {h : zH} : zis (ztab pc d lo hi offs L st h) := by
  unfold ztab
  repeat' (first | exact zis_n | exact zis_go | exact zis_l | exact zsv1_is | exact zsv2_is | exact zbr_is | exact zoff_is | split)
theorem zlook_is {pc : Nat} {d : Int} {ps : Array (Int × Int)} {L : zL} {st : List Value} {h : zH} : zis (zlook pc d ps L st h) := by
  unfold zlook
  repeat' (first | exact zis_n | exact zis_go | exact zis_l | exact zsv1_is | exact zsv2_is | exact zbr_is | exact zoff_is | split)
theorem zald_is {t nx : Nat} {L : zL} {st : List Value} {h : zH} : zis (zald t nx L st h) := by
  unfold zald
  repeat' (first | exact zis_n | exact zis_go | exact zis_l | exact zsv1_is | exact zsv2_is | exact zbr_is | exact zoff_is | split)
theorem zast_is {t : Nat} {g : Int32 → Option Int32} {nx : Nat} {L : zL} {st : List Value} {h : zH} : zis (zast t g nx L st h) := by
  unfold zast
  repeat' (first | exact zis_n | exact zis_go | exact zis_l | exact zsv1_is | exact zsv2_is | exact zbr_is | exact zoff_is | exact zald_is | split)
theorem zialoadX_is {xs : List Int32} {nx : Nat} {L : zL} {st : List Value} {h : zH} : zis (zialoadX xs nx L st h) := by
  unfold zialoadX
  repeat' (first | exact zis_n | exact zis_go | exact zis_l | exact zsv1_is | exact zsv2_is | exact zbr_is | exact zoff_is | exact zald_is | split)
theorem zalen_is {xs : List Int32} {nx : Nat} {L : zL} {st : List Value} {h : zH} : zis (zalen xs nx L st h) := by
  unfold zalen
  repeat' (first | exact zis_n | exact zis_go | exact zis_l | exact zsv1_is | exact zsv2_is | exact zbr_is | exact zoff_is | exact zald_is | split)
theorem zchk_is {k nx : Nat} {L : zL} {st : List Value} {h : zH} : zis (zchk k nx L st h) := by
  unfold zchk
  repeat' (first | exact zis_n | exact zis_go | exact zis_l | split)
theorem zacmp_is {c : ACond} {tg nx : Nat} {L : zL} {st : List Value} {h : zH} : zis (zacmp c tg nx L st h) := by
  unfold zacmp
  repeat' (first | exact zis_n | exact zis_go | exact zis_l | split)
theorem zgetc_is {nx : Nat} {L : zL} {st : List Value} {h : zH} : zis (zgetc nx L st h) := by
  unfold zgetc
  repeat' (first | exact zis_n | exact zis_go | exact zis_l | split)
theorem znewa_is {t : Nat} {v : Value} {nx : Nat} {L : zL} {st : List Value} {h : zH} : zis (znewa t v nx L st h) := by
  unfold znewa
  repeat' (first | exact zis_n | exact zis_go | exact zis_l | exact zsv1_is | exact zsv2_is | exact zbr_is | exact zoff_is | exact zald_is | split)
theorem zget_is {cf : Nat → List (Nat × Nat)} {f k nx : Nat} {L : zL} {st : List Value} {h : zH} : zis (zget cf f k nx L st h) := by
  unfold zget
  repeat' (first | exact zis_n | exact zis_go | exact zis_l | exact zsv1_is | exact zsv2_is | exact zbr_is | exact zoff_is | exact zald_is | split)
theorem zput_is {cf : Nat → List (Nat × Nat)} {f k nx : Nat} {L : zL} {st : List Value} {h : zH} : zis (zput cf f k nx L st h) := by
  unfold zput
  repeat' (first | exact zis_n | exact zis_go | exact zis_l | exact zsv1_is | exact zsv2_is | exact zbr_is | exact zoff_is | exact zald_is | split)
theorem znew_is {cf : Nat → List (Nat × Nat)} {c nx : Nat} {L : zL} {st : List Value} {h : zH} : zis (znew cf c nx L st h) := zis_l
theorem zmm_is {f : Int32 → Int32 → Int32} {nx : Nat} {L : zL} {st : List Value} {h : zH} : zis (zmm f nx L st h) := by
  unfold zmm
  repeat' (first | exact zis_n | exact zis_go | exact zis_l | exact zsv1_is | exact zsv2_is | exact zbr_is | exact zoff_is | exact zald_is | split)
def znj (i : Instr) : Bool := match i with
  | .invokestatic _ => false
  | .invokevirtual _ => false
  | .invokeinterface _ _ => false
  | .invokespecial _ => false
  | .ireturn => false
  | .lreturn => false
  | .dreturn => false
  | .areturn => false
  | .return_ => false
  | .new _ => false
  | _ => true
theorem zis_ok {cf : Nat → List (Nat × Nat)} {xs : List Int32} {pc nx k y n c : Nat} {i : Instr} {L : zL} {st : List Value} {h : zH} (hi : znj i = true) : zis (zstep cf xs pc i nx k y n c L st h) := by
  cases i <;> first | exact zis_n | exact zis_go | exact zldI_is | exact zldL_is | exact zldD_is | exact zldA_is | exact zsI_is | exact zsA_is | exact zsL_is | exact zsD_is | exact zinc_is | exact zpu_is | exact zbin_is | exact zdiv_is | exact zun_is | exact zbinL_is | exact zlc_is | exact zbinD_is | exact zd2l_is | exact zdup_is | exact zpop_is | exact zpop2_is | exact zdupx1_is | exact zdup2_is | exact zaald_is | exact zaast_is | exact zmulti_is | exact zif_is | exact zicmp_is | exact ztab_is | exact zlook_is | exact zast_is | exact zialoadX_is | exact zalen_is | exact znewa_is | exact zget_is | exact zput_is | exact znew_is | exact zald_is | exact zchk_is | exact zacmp_is | (cases hi; done) | exact zast_is | (unfold zstep; dsimp only; repeat' (first | exact zast_is | exact zpu_is | exact zis_n | split))
theorem zcallI_nx {n y nx : Nat} {st : List Value} {q : (Option Value ⊕ Nat) × Nat × Nat} : ¬ zcallI n y nx st = some (.inr (.inr q)) := by
  intro h
  unfold zcallI at h
  repeat' (first | (cases h; done) | split at h)
theorem zcallV_nx {n c y nx : Nat} {st : List Value} {h : zH} {q : (Option Value ⊕ Nat) × Nat × Nat} : ¬ zcallV n c y nx st h = some (.inr (.inr q)) := by
  intro h
  unfold zcallV at h
  repeat' (first | (cases h; done) | split at h)
theorem zcall_nx {n y nx : Nat} {st : List Value} {q : (Option Value ⊕ Nat) × Nat × Nat} : ¬ zcall n y nx st = some (.inr (.inr q)) := by
  intro h
  unfold zcall at h
  repeat' (first | (cases h; done) | split at h)
