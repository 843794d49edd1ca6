/-! Methods that change nothing. -/
def zpui : Instr → Bool
  | .iload _ => true
  | .iload_n _ => true
  | .aload _ => true
  | .aload_n _ => true
  | .lload _ => true
  | .lload_n _ => true
  | .istore _ => true
  | .istore_n _ => true
  | .astore _ => true
  | .astore_n _ => true
  | .iinc _ _ => true
  | .iconst _ => true
  | .bipush _ => true
  | .sipush _ => true
  | .ifCond _ _ => true
  | .if_icmp _ _ => true
  | .iaload => true
  | .baload => true
  | .aaload => true
  | .arraylength => true
  | .getfield _ => true
  | .checkcast _ => true
  | .goto _ => true
  | .dup => true
  | .pop => true
  | .iadd => true
  | .isub => true
  | .imul => true
  | .idiv => true
  | .irem => true
  | .iand => true
  | .ior => true
  | .ixor => true
  | .ishl => true
  | .ishr => true
  | .ireturn => true
  | .return_ => true
  | .invokestatic _ => true
  | .invokevirtual _ => true
  | .invokeinterface _ _ => true
  | _ => false
section ZPU
variable {xs : List Int32} {g : zG} {lg : Nat} {h h' : zH} {L L' : zL} {A S : List zTy} {st st' : List Value} {cs : List zCt} {D y m nc ns k n c nx pc pc' : Nat} {i : Instr} {S' : List zTy} {dc ds : Nat}
theorem zsv1_h {j : Nat} {v : Value} (e : zsv1 L j nx v st h = some (.inl (pc', L', st', h', dc, ds))) : h' = h := by
  unfold zsv1 at e
  split at e
  · cases e
    rfl
  · cases e
theorem zbr_h {q : ClassFile.Cond} {x z : Int32} {tg : Nat} (e : zbr q x z tg nx L st h = some (.inl (pc', L', st', h', dc, ds))) : h' = h := by
  unfold zbr zgo at e
  cases q <;> (dsimp only at e; split at e <;> (cases e; rfl))
theorem zald_h {t : Nat} (e : zald t nx L st h = some (.inl (pc', L', st', h', dc, ds))) : h' = h := by
  unfold zald zgo at e
  repeat' split at e
  all_goals first | (cases e; rfl) | cases e
theorem zpu_ok (hz : zpui i = true) (hk : ¬ k = 10) (e : zstep zcf xs pc i nx k y n c L st h = some (.inl (pc', L', st', h', dc, ds))) : h' = h := by
  cases i <;> first
    | (cases hz; done)
    | (simp only [zstep, zldI, zldL, zldA, zsI, zsA, zinc, zpui, zbin, zdiv, zif, zicmp, zialoadX, zalen, zaald, zget, zchk, zdup, zpop, zcopy, zmm, zcall, zcallV, zgetc, zret, zgo] at e
       repeat' split at e
       all_goals first
         | (cases e; rfl)
         | (exfalso; exact hk (by assumption))
         | (cases e)
         | exact zsv1_h e
         | exact zbr_h e
         | exact zald_h e)
end ZPU
/-- a contract of a method that changes nothing -/
def zGp (xs : List Int32) (ct : zCt) : Prop := ∀ g lg h nc ns as, zHI g lg h → zgs g lg h [] ct.as as → zMs xs ct.dep ct.y as h nc ns (fun o => ∃ v, o = (.inl v, h, nc, ns) ∧ zgo2 g lg h (as.map some) ct.rt v)
section ZPV
variable {xs : List Int32} {g : zG} {lg : Nat} {h : zH} {L : zL} {A S : List zTy} {st : List Value} {cs : List zCt} {D y m nc ns k n c nx pc : Nat} {i : Instr} {S' : List zTy} {dc ds : Nat}
def zPd (g : zG) (lg : Nat) (h : zH) (L : zL) (nc ns : Nat) (S' : List zTy) (r : List Value) : zO → Prop := fun o => ∃ v, o = (.inl v, h, nc, ns) ∧ zgs g lg h L S' (v.toList ++ r)
theorem zcg_okp (hcs : ∀ ct ∈ cs, zGp xs ct) (e : zcg cs (D + 1) y m S = some (S', dc, ds)) (hI : zHI g lg h) (hS : zgs g lg h L S st) : m ≤ st.length ∧ zcs (st.drop m) ≤ 8 ∧ zMs xs D y (st.take m).reverse h nc ns (zPd g lg h L nc ns S' (st.drop m)) := by
  unfold zcg at e
  split at e
  · next w =>
    split at e
    · next ct q =>
      cases e
      have hm := List.mem_of_find?_eq_some q
      have hp := List.find?_some q
      unfold zcp at hp
      simp only [Bool.and_eq_true, beq_iff_eq, decide_eq_true_eq] at hp
      obtain ⟨⟨⟨rfl, p2⟩, p3⟩, p4⟩ := hp
      have hl := zgs_len hS
      have hd := zgs_drop (n := m) hS
      have ha := zgs_rev (zgs_take (n := m) hS)
      refine ⟨by omega, Nat.le_trans (zcsA_ok hd) w.2, zMs_mono (by omega) (zMs_post (fun o ho => ?_) (hcs ct hm g lg h nc ns _ hI (zsbs_s p2 (zgs_fl ha))))⟩
      obtain ⟨v, rfl, b1⟩ := ho
      refine ⟨v, rfl, zgs_app (zrtT_ok ha b1 (fun T hT => ?_)) hd⟩
      rw [hT] at p4
      unfold zcr at p4
      split at p4
      · next e => cases e
      · next e =>
        cases e
        exact Or.inr ⟨_, _, _, _, rfl⟩
      · next e =>
        cases e
        exact Or.inl p4
    · cases e
  · cases e
theorem zcin_okp (e : zcin (D + 1) S = some (S', dc, ds)) (hS : zgs g lg h L S st) : 3 ≤ st.length ∧ zcs (st.drop 3) ≤ 8 ∧ zMs xs D 112 (st.take 3).reverse h nc ns (zPd g lg h L nc ns S' (st.drop 3)) := by
  unfold zcin at e
  split at e
  · next u w t r =>
    split at e
    · next a0 b tt a b0 t0 w3 e1 e2 e3 =>
      split at e
      · next q =>
        cases e
        match st, hS with
        | v1 :: v2 :: v3 :: s, hS =>
          obtain ⟨hi, rfl, -, i2, i3, -⟩ := zlo_ok e1 hS.1
          obtain ⟨lo, rfl, l1, -, -⟩ := zlo_ok e2 hS.2.1
          obtain ⟨a3, b3, c3⟩ := w3
          obtain ⟨x, rfl, -, -, -, x4⟩ := zlo_ok e3 hS.2.2.1
          refine ⟨by simp, Nat.le_trans (zcsA_ok hS.2.2.2) q.1, zMs_mono (Nat.zero_le _) (zMs_post (fun o ho => ?_) (m_112 (D := 0)))⟩
          obtain ⟨w9, w1, w2, -, rfl⟩ := ho
          refine ⟨_, rfl, ?_, hS.2.2.2⟩
          split
          · next q1 q2 q3 p4 q5 =>
            refine ⟨w9, rfl, w1, fun z => ?_⟩
            obtain ⟨z1, z2⟩ := w2 z
            have x4 : p4 + 1 = 0 ∨ L[p4 + 1 - 1]? = some (some (.int x)) := x4
            exact ⟨x, x4.resolve_left (by omega), by omega, by omega, zta_le z2 i3⟩
          · refine ⟨w9, rfl, ?_, ?_, trivial, Or.inl rfl⟩ <;> rcases w1 with rfl | rfl <;> decide
        | [], hS => exact hS.elim
        | [_], hS => exact hS.2.elim
        | [_, _], hS => exact hS.2.2.elim
      · cases e
    · cases e
  · cases e
theorem zcll_okp (hcs : ∀ ct ∈ cs, zGp xs ct) (e : zcll cs (D + 1) i k y n c S = some (S', dc, ds)) (hI : zHI g lg h) (hS : zgs g lg h L S st) : ∃ as r, zstep zcf xs pc i nx k y n c L st h = some (.inr (.inl (y, as, r, nx))) ∧ zMs xs D y as h nc ns (zPd g lg h L nc ns S' r) := by
  unfold zcll at e
  split at e
  · next j9 =>
    split at e
    · cases e
    · next q =>
      have hst : ∀ {m : Nat}, n = m → m ≤ st.length → zcs (st.drop m) ≤ 8 → zstep zcf xs pc (.invokestatic j9) nx k y n c L st h = some (.inr (.inl (y, (st.take m).reverse, st.drop m, nx))) := by
        intro m hm h1 h2
        subst hm
        refine (if_neg (fun z => q (Or.inl z))).trans ((if_neg (fun z => q (Or.inr (Or.inl z)))).trans ((if_neg (fun z => q (Or.inr (Or.inr z)))).trans ?_))
        unfold zcall
        rw [ztk_eq h1, List.append_nil]
        exact if_pos h2
      split at e
      · next q2 =>
        subst q2
        split at e
        · next q3 =>
          subst q3
          obtain ⟨p1, p2, p3⟩ := zcin_okp (xs := xs) (nc := nc) (ns := ns) e hS
          exact ⟨_, _, hst rfl p1 p2, p3⟩
        · cases e
      · obtain ⟨p1, p2, p3⟩ := zcg_okp (nc := nc) (ns := ns) hcs e hI hS
        exact ⟨_, _, hst rfl p1 p2, p3⟩
  · split at e
    · cases e
    · next q =>
      split at e
      · next q2 =>
        obtain ⟨p1, p2, p3⟩ := zcg_okp (nc := nc) (ns := ns) hcs e hI hS
        obtain ⟨a, as', ws, w1, w2⟩ := zcv_ok q2 hI (zgs_rev (zgs_take (n := n + 1) hS))
        refine ⟨_, _, (if_neg q).trans ?_, p3⟩
        rw [w1]
        exact zcallV_eq (by rw [ztk_eq p1, List.append_nil, w1]) w2 p2
      · cases e
  · split at e
    · next q2 =>
      obtain ⟨p1, p2, p3⟩ := zcg_okp (nc := nc) (ns := ns) hcs e hI hS
      obtain ⟨a, as', ws, w1, w2⟩ := zcv_ok q2 hI (zgs_rev (zgs_take (n := n + 1) hS))
      refine ⟨_, _, ?_, p3⟩
      rw [w1]
      exact zcallV_eq (by rw [ztk_eq p1, List.append_nil, w1]) w2 p2
    · cases e
  · cases e
def zpus (y : Nat) (cert : List zCe) : Bool := cert.all (fun e => match zat (zmc y) e.1 with
  | some (i, _, k, _) => zpui i && k != 10
  | none => false)
theorem zck_p {cert : List zCe} {rt : Option zTy} (hcs : ∀ ct ∈ cs, zGp xs ct) (hck : cert.all (zce y cs cert (D + 1) rt) = true) (hpu : zpus y cert = true) (as : List Value) (hI : zHI g lg h) (m : Nat) : ∀ l : List Nat, l.length = m → ∀ pc rk (bu : Nat × Nat) A S, zlkc cert pc = some (rk, bu, A, S) → ∀ L st nc ns, rk.map (zrv L) = l → zgl g lg h A L → zgs g lg h L S st → zEs xs (D + 1) y pc L st h nc ns (fun o => ∃ v, o = (.inl v, h, nc, ns) ∧ zgo2 g lg h (as.map some) rt v) := by
  refine zlx_ind m _ (fun l hl ih pc rk bu A S hlk L st nc ns hrk hA hS => ?_)
  subst hrk
  have hent := List.all_eq_true.mp hck _ (zlk_mem hlk)
  have hp := List.all_eq_true.mp hpu _ (zlk_mem hlk)
  unfold zce at hent
  dsimp only at hent hp
  split at hent
  · cases hent
  · next i nx k yy n c hrow =>
    rw [hrow] at hp
    dsimp only at hp
    rw [Bool.and_eq_true, bne_iff_ne] at hp
    obtain ⟨hp, hp10⟩ := hp
    have go : ∀ {L' : zL} {st' : List Value} {A' S' : List zTy} {pc' : Nat} {bu2 : Nat × Nat}, zed cert i A rk bu2 (pc', A', S') = true → zgl g lg h A' L' → zgs g lg h L' S' st' → zLf i L L' → zEs xs (D + 1) y pc' L' st' h nc ns (fun o => ∃ v, o = (.inl v, h, nc, ns) ∧ zgo2 g lg h (as.map some) rt v) := by
      intro L' st' A' S' pc' bu2 e1 e5 e6 e7
      unfold zed at e1
      split at e1
      · next rk' bu' A2 S2 q =>
        simp only [Bool.and_eq_true, beq_iff_eq, decide_eq_true_eq] at e1
        obtain ⟨⟨⟨⟨⟨a1, a2⟩, a3⟩, a4⟩, a5⟩, a6⟩ := e1
        have hl' : (rk'.map (zrv L')).length = m := by
          rw [List.length_map, ← a1, ← hl, List.length_map]
        exact ih _ hl' (zrd_ok hA e7 a2) pc' rk' bu' A2 S2 q L' st' nc ns rfl (zsbs_l a3 e5) (zsbs_s a4 e6)
      · cases e1
    have one : ∀ {l9 : List (Nat × List zTy × List zTy)}, l9.all (zed cert i A rk bu) = true → zOk g lg h i L l9 (zstep zcf xs pc i nx k yy n c L st h) → zEs xs (D + 1) y pc L st h nc ns (fun o => ∃ v, o = (.inl v, h, nc, ns) ∧ zgo2 g lg h (as.map some) rt v) := by
      intro l9 h9 ho
      obtain ⟨pc', L', st', h', A', S', o1, o2, o3, o4, o5, o6, o7⟩ := ho
      have hh := zpu_ok hp hp10 o1
      subst hh
      exact zEs_step hrow o1 (go (List.all_eq_true.mp h9 _ o2) o5 o6 o7)
    rw [Bool.or_eq_true] at hent
    rcases hent with hent | hent
    · unfold zrtc at hent
      split at hent
      · next t T =>
        split at hent
        · next a b c9 e1 =>
          match st, hS with
          | [v], hS =>
            obtain ⟨x, rfl, x1, x2, -⟩ := zlo_ok e1 hS.1
            simp only [Bool.and_eq_true, Bool.or_eq_true, beq_iff_eq, decide_eq_true_eq] at hent
            obtain ⟨⟨q1, q2⟩, q3⟩ := hent
            refine zEs_end (dc := 0) (ds := 0) hrow (if_pos ?_) ⟨_, rfl, _, rfl, zga_L (zsb_ok q2 (zga_fl hS.1))⟩
            rcases q1 with q1 | ⟨⟨q1, q4⟩, q5⟩
            · exact Or.inl q1
            · refine Or.inr (Or.inl ⟨q1, ?_⟩)
              rcases (show x.toInt = 0 ∨ x.toInt = 1 by omega) with z | z
              · exact Or.inl (Int32.toInt_inj.mp z)
              · exact Or.inr (Int32.toInt_inj.mp z)
          | [], hS => exact hS.elim
          | _ :: _ :: _, hS => exact hS.2.elim
        · cases hent
      · cases hp
      · cases hp
      · cases hp
      · cases hp
      · match st, hS with
        | [], hS => exact zEs_end (dc := 0) (ds := 0) hrow rfl ⟨_, rfl, rfl⟩
        | _ :: _, hS => exact hS.elim
      · cases hent
    · split at hent
      · next l9 e1 => exact one hent (zab_ok e1 hI hA hS)
      · split at hent
        · next l9 e1 => exact one hent (zmmA_ok e1 hI hA hS)
        · split at hent
          · next e0 S' dc ds e1 =>
            simp only [Bool.and_eq_true, decide_eq_true_eq] at hent
            obtain ⟨⟨b1, b2⟩, b3⟩ := hent
            obtain ⟨as', r, c1, c2⟩ := zcll_okp (xs := xs) (pc := pc) (nx := nx) (nc := nc) (ns := ns) hcs e1 hI hS
            have hi9 : ∀ j d, i ≠ .iinc j d := by
              intro j d z
              subst z
              cases e1
            refine zEs_callG hrow c1 c2 (fun v h1 nc1 ns1 w => ?_) (fun E h1 nc1 ns1 w => ?_)
            · obtain ⟨v', w0, w1⟩ := w
              cases w0
              exact go b3 hA w1 ⟨fun _ _ _ k => k, fun j d e => absurd e (hi9 j d)⟩
            · obtain ⟨v', w0, -⟩ := w
              cases w0
          · cases hent
theorem zmethp (ct : zCt) (cert : List zCe) (hcs : ∀ c ∈ cs, zGp xs c) (hok : zokM ct cs cert = true) (hpu : zpus ct.y cert = true) : zGp xs ct := by
  intro g lg h nc ns as hI hS
  unfold zokM at hok
  rw [Bool.and_eq_true, Bool.and_eq_true] at hok
  obtain ⟨⟨h1, h2⟩, h3⟩ := hok
  split at h1
  · next rk bu A S e =>
    simp only [Bool.and_eq_true, decide_eq_true_eq] at h1 h2
    obtain ⟨⟨⟨⟨⟨⟨a1, a2⟩, a3⟩, a4⟩, a5⟩, a6⟩, a7⟩ := h1
    have hl := zgs_len hS
    have a3 : S = [] := List.isEmpty_iff.mp a3
    subst a3
    obtain ⟨D, hD⟩ : ∃ q, ct.dep = q + 1 := ⟨ct.dep - 1, by omega⟩
    refine ⟨as.map some ++ List.replicate (zmL ct.y - ct.as.length) none, ?_, ?_⟩
    · unfold zen
      rw [zex_1 a4 hS, List.length_map, ← hl]
      exact if_pos a6
    · rw [hD] at h3 ⊢
      exact zck_p hcs h3 hpu as hI _ _ rfl 0 rk bu A [] e _ [] nc ns rfl (zsbs_l a7 (zgl_in hS)) trivial
  · cases h1
theorem p_117 : zGp xs ct_117 := by
  intro g lg h nc ns as hI hS
  obtain ⟨v, rfl, k⟩ := zin1 hS
  obtain rfl := zP_eq k
  obtain ⟨vs, m1, m2, m3, m4⟩ := hI.obj
  obtain ⟨x, y, b1, b2, b3⟩ := hI.bits
  have v1 := m4 1 (by decide)
  have v2 := m4 2 (by decide)
  rw [b1] at v1
  rw [b2] at v2
  have hz := hI.sizes
  refine ⟨_, rfl, zEs_run 1 rfl ?_⟩
  refine zEs_get rfl m1 rfl v1 ?_
  refine zEs_run 1 rfl ?_
  refine zEs_get rfl m1 rfl v2 ?_
  refine zEs_run 1 rfl ?_
  have e := Int32.toInt_add x y
  rw [zbm (by omega) (by omega)] at e
  exact zEs_end rfl rfl ⟨_, rfl, _, rfl, x + y, rfl, by omega, by omega, show _ ≤ (g.zn : Int) by omega, Or.inl rfl⟩
theorem p_113 : zGp xs ct_113 := zmethp (cs := []) ct_113 ce_113 (fun _ h => absurd h List.not_mem_nil) (by decide +kernel) (by decide +kernel)
theorem p_118 : zGp xs ct_118 := zmethp (cs := [ct_113]) ct_118 ce_118 (List.forall_mem_cons.mpr ⟨p_113, fun _ h => absurd h List.not_mem_nil⟩) (by decide +kernel) (by decide +kernel)
theorem p_120 : zGp xs ct_120 := zmethp (cs := [ct_118]) ct_120 ce_120 (List.forall_mem_cons.mpr ⟨p_118, fun _ h => absurd h List.not_mem_nil⟩) (by decide +kernel) (by decide +kernel)
theorem p_121 : zGp xs ct_121 := zmethp (cs := [ct_118, ct_120]) ct_121 ce_121 (List.forall_mem_cons.mpr ⟨p_118, List.forall_mem_cons.mpr ⟨p_120, fun _ h => absurd h List.not_mem_nil⟩⟩) (by decide +kernel) (by decide +kernel)
theorem p_124 : zGp xs ct_124 := zmethp (cs := []) ct_124 ce_124 (fun _ h => absurd h List.not_mem_nil) (by decide +kernel) (by decide +kernel)
theorem p_125 : zGp xs ct_125 := zmethp (cs := [ct_124]) ct_125 ce_125 (List.forall_mem_cons.mpr ⟨p_124, fun _ h => absurd h List.not_mem_nil⟩) (by decide +kernel) (by decide +kernel)
end ZPV
