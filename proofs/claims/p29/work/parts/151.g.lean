section zg0
/-! Methods that change nothing. -/
def zpui : Instr → Bool
  | .iload _ => true
  | .iload_n _ => true
  | .aload _ => true
  | .aload_n _ => true
  | .lload _ => true
  | .lload_n _ => true
  | .istore _ => true
  | .istore_n _ => true
  | .astore _ => true
  | .astore_n _ => true
  | .iinc _ _ => true
  | .iconst _ => true
  | .bipush _ => true
  | .sipush _ => true
  | .ifCond _ _ => true
  | .if_icmp _ _ => true
  | .iaload => true
  | .baload => true
  | .aaload => true
  | .arraylength => true
  | .getfield _ => true
  | .checkcast _ => true
  | .goto _ => true
  | .dup => true
  | .pop => true
  | .iadd => true
  | .isub => true
  | .imul => true
  | .idiv => true
  | .irem => true
  | .iand => true
  | .ior => true
  | .ixor => true
  | .ishl => true
  | .ishr => true
  | .ireturn => true
  | .return_ => true
  | .invokestatic _ => true
  | .invokevirtual _ => true
  | .invokeinterface _ _ => true
  | _ => false
section ZPU
variable {xs : List Int32} {g : zG} {lg : Nat} {h h' : zH} {L L' : zL} {A S : List zTy} {st st' : List Value} {cs : List zCt} {D y m nc ns k n c nx pc pc' : Nat} {i : Instr} {S' : List zTy} {dc ds : Nat}
theorem zsv1_h {j : Nat} {v : Value} (e : zsv1 L j nx v st h = some (.inl (pc', L', st', h', dc, ds))) : h' = h := by
  unfold zsv1 at e
  split at e
  · cases e
    rfl
  · cases e
theorem zbr_h {q : ClassFile.Cond} {x z : Int32} {tg : Nat} (e : zbr q x z tg nx L st h = some (.inl (pc', L', st', h', dc, ds))) : h' = h := by
  unfold zbr zgo at e
  cases q <;> (dsimp only at e; split at e <;> (cases e; rfl))
theorem zald_h {t : Nat} (e : zald t nx L st h = some (.inl (pc', L', st', h', dc, ds))) : h' = h := by
  unfold zald zgo at e
  repeat' split at e
  all_goals first | (cases e; rfl) | cases e
theorem zpu_ok (hz : zpui i = true) (hk : ¬ k = 10) (e : zstep zcf xs pc i nx k y n c L st h = some (.inl (pc', L', st', h', dc, ds))) : h' = h := by
  cases i <;> first
    | (cases hz; done)
    | (simp only [zstep, zldI, zldL, zldA, zsI, zsA, zinc, zpui, zbin, zdiv, zif, zicmp, zialoadX, zalen, zaald, zget, zchk, zdup, zpop, zcopy, zmm, zcall, zcallV, zgetc, zret, zgo] at e
       repeat' split at e
       all_goals first
         | (cases e; rfl)
         | (exfalso; exact hk (by assumption))
         | (cases e)
         | exact zsv1_h e
         | exact zbr_h e
         | exact zald_h e)
end ZPU
/-- a contract of a method that changes nothing -/
def zGp (xs : List Int32) (ct : zCt) : Prop := ∀ g lg h nc ns as, zHI g lg h → zgs g lg h [] ct.as as → zMs xs ct.dep ct.y as h nc ns (fun o => ∃ v, o = (.inl v, h, nc, ns) ∧ zgo2 g lg h (as.map some) ct.rt v)
section ZPV
variable {xs : List Int32} {g : zG} {lg : Nat} {h : zH} {L : zL} {A S : List zTy} {st : List Value} {cs : List zCt} {D y m nc ns k n c nx pc : Nat} {i : Instr} {S' : List zTy} {dc ds : Nat}
def zPd (g : zG) (lg : Nat) (h : zH) (L : zL) (nc ns : Nat) (S' : List zTy) (r : List Value) : zO → Prop := fun o => ∃ v, o = (.inl v, h, nc, ns) ∧ zgs g lg h L S' (v.toList ++ r)
theorem zcg_okp (hcs : ∀ ct ∈ cs, zGp xs ct) (e : zcg cs (D + 1) y m S = some (S', dc, ds)) (hI : zHI g lg h) (hS : zgs g lg h L S st) : m ≤ st.length ∧ zcs (st.drop m) ≤ 8 ∧ zMs xs D y (st.take m).reverse h nc ns (zPd g lg h L nc ns S' (st.drop m)) := by
  unfold zcg at e
  split at e
  · next w =>
    split at e
    · next ct q =>
      cases e
      have hm := List.mem_of_find?_eq_some q
      have hp := List.find?_some q
      unfold zcp at hp
      simp only [Bool.and_eq_true, beq_iff_eq, decide_eq_true_eq] at hp
      obtain ⟨⟨⟨rfl, p2⟩, p3⟩, p4⟩ := hp
      have hl := zgs_len hS
      have hd := zgs_drop (n := m) hS
      have ha := zgs_rev (zgs_take (n := m) hS)
      refine ⟨by omega, Nat.le_trans (zcsA_ok hd) w.2, zMs_mono (by omega) (zMs_post (fun o ho => ?_) (hcs ct hm g lg h nc ns _ hI (zsbs_s p2 (zgs_fl ha))))⟩
      obtain ⟨v, rfl, b1⟩ := ho
      refine ⟨v, rfl, zgs_app (zrtT_ok ha b1 (fun T hT => ?_)) hd⟩
      rw [hT] at p4
      unfold zcr at p4
      split at p4
      · next e => cases e
      · next e =>
        cases e
        exact Or.inr ⟨_, _, _, _, rfl⟩
      · next e =>
        cases e
        exact Or.inl p4
    · cases e
  · cases e
theorem zcin_okp (e : zcin (D + 1) S = some (S', dc, ds)) (hS : zgs g lg h L S st) : 3 ≤ st.length ∧ zcs (st.drop 3) ≤ 8 ∧ zMs xs D 112 (st.take 3).reverse h nc ns (zPd g lg h L nc ns S' (st.drop 3)) := by
  unfold zcin at e
  split at e
  · next u w t r =>
    split at e
    · next a0 b tt a b0 t0 w3 e1 e2 e3 =>
      split at e
      · next q =>
        cases e
        match st, hS with
        | v1 :: v2 :: v3 :: s, hS =>
          obtain ⟨hi, rfl, -, i2, i3, -⟩ := zlo_ok e1 hS.1
          obtain ⟨lo, rfl, l1, -, -⟩ := zlo_ok e2 hS.2.1
          obtain ⟨a3, b3, c3⟩ := w3
          obtain ⟨x, rfl, -, -, -, x4⟩ := zlo_ok e3 hS.2.2.1
          refine ⟨by simp, Nat.le_trans (zcsA_ok hS.2.2.2) q.1, zMs_mono (Nat.zero_le _) (zMs_post (fun o ho => ?_) (m_112 (D := 0)))⟩
          obtain ⟨w9, w1, w2, -, rfl⟩ := ho
          refine ⟨_, rfl, ?_, hS.2.2.2⟩
          split
          · next q1 q2 q3 p4 q5 =>
            refine ⟨w9, rfl, w1, fun z => ?_⟩
            obtain ⟨z1, z2⟩ := w2 z
            have x4 : p4 + 1 = 0 ∨ L[p4 + 1 - 1]? = some (some (.int x)) := x4
            exact ⟨x, x4.resolve_left (by omega), by omega, by omega, zta_le z2 i3⟩
          · refine ⟨w9, rfl, ?_, ?_, trivial, Or.inl rfl⟩ <;> rcases w1 with rfl | rfl <;> decide
        | [], hS => exact hS.elim
        | [_], hS => exact hS.2.elim
        | [_, _], hS => exact hS.2.2.elim
      · cases e
    · cases e
  · cases e
theorem zcll_okp (hcs : ∀ ct ∈ cs, zGp xs ct) (e : zcll cs (D + 1) i k y n c S = some (S', dc, ds)) (hI : zHI g lg h) (hS : zgs g lg h L S st) : ∃ as r, zstep zcf xs pc i nx k y n c L st h = some (.inr (.inl (y, as, r, nx))) ∧ zMs xs D y as h nc ns (zPd g lg h L nc ns S' r) := by
  unfold zcll at e
  split at e
  · next j9 =>
    split at e
    · cases e
    · next q =>
      have hst : ∀ {m : Nat}, n = m → m ≤ st.length → zcs (st.drop m) ≤ 8 → zstep zcf xs pc (.invokestatic j9) nx k y n c L st h = some (.inr (.inl (y, (st.take m).reverse, st.drop m, nx))) := by
        intro m hm h1 h2
        subst hm
        refine (if_neg (fun z => q (Or.inl z))).trans ((if_neg (fun z => q (Or.inr (Or.inl z)))).trans ((if_neg (fun z => q (Or.inr (Or.inr z)))).trans ?_))
        unfold zcall
        rw [ztk_eq h1, List.append_nil]
        exact if_pos h2
      split at e
      · next q2 =>
        subst q2
        split at e
        · next q3 =>
          subst q3
          obtain ⟨p1, p2, p3⟩ := zcin_okp (xs := xs) (nc := nc) (ns := ns) e hS
          exact ⟨_, _, hst rfl p1 p2, p3⟩
        · cases e
      · obtain ⟨p1, p2, p3⟩ := zcg_okp (nc := nc) (ns := ns) hcs e hI hS
        exact ⟨_, _, hst rfl p1 p2, p3⟩
  · split at e
    · cases e
    · next q =>
      split at e
      · next q2 =>
        obtain ⟨p1, p2, p3⟩ := zcg_okp (nc := nc) (ns := ns) hcs e hI hS
        obtain ⟨a, as', ws, w1, w2⟩ := zcv_ok q2 hI (zgs_rev (zgs_take (n := n + 1) hS))
        refine ⟨_, _, (if_neg q).trans ?_, p3⟩
        rw [w1]
        exact zcallV_eq (by rw [ztk_eq p1, List.append_nil, w1]) w2 p2
      · cases e
  · split at e
    · next q2 =>
      obtain ⟨p1, p2, p3⟩ := zcg_okp (nc := nc) (ns := ns) hcs e hI hS
      obtain ⟨a, as', ws, w1, w2⟩ := zcv_ok q2 hI (zgs_rev (zgs_take (n := n + 1) hS))
      refine ⟨_, _, ?_, p3⟩
      rw [w1]
      exact zcallV_eq (by rw [ztk_eq p1, List.append_nil, w1]) w2 p2
    · cases e
  · cases e
def zpus (y : Nat) (cert : List zCe) : Bool := cert.all (fun e => match zat (zmc y) e.1 with
  | some (i, _, k, _) => zpui i && k != 10
  | none => false)
theorem zck_p {cert : List zCe} {rt : Option zTy} (hcs : ∀ ct ∈ cs, zGp xs ct) (hck : cert.all (zce y cs cert (D + 1) rt) = true) (hpu : zpus y cert = true) (as : List Value) (hI : zHI g lg h) (m : Nat) : ∀ l : List Nat, l.length = m → ∀ pc rk (bu : Nat × Nat) A S, zlkc cert pc = some (rk, bu, A, S) → ∀ L st nc ns, rk.map (zrv L) = l → zgl g lg h A L → zgs g lg h L S st → zEs xs (D + 1) y pc L st h nc ns (fun o => ∃ v, o = (.inl v, h, nc, ns) ∧ zgo2 g lg h (as.map some) rt v) := by
  refine zlx_ind m _ (fun l hl ih pc rk bu A S hlk L st nc ns hrk hA hS => ?_)
  subst hrk
  have hent := List.all_eq_true.mp hck _ (zlk_mem hlk)
  have hp := List.all_eq_true.mp hpu _ (zlk_mem hlk)
  unfold zce at hent
  dsimp only at hent hp
  split at hent
  · cases hent
  · next i nx k yy n c hrow =>
    rw [hrow] at hp
    dsimp only at hp
    rw [Bool.and_eq_true, bne_iff_ne] at hp
    obtain ⟨hp, hp10⟩ := hp
    have go : ∀ {L' : zL} {st' : List Value} {A' S' : List zTy} {pc' : Nat} {bu2 : Nat × Nat}, zed cert i A rk bu2 (pc', A', S') = true → zgl g lg h A' L' → zgs g lg h L' S' st' → zLf i L L' → zEs xs (D + 1) y pc' L' st' h nc ns (fun o => ∃ v, o = (.inl v, h, nc, ns) ∧ zgo2 g lg h (as.map some) rt v) := by
      intro L' st' A' S' pc' bu2 e1 e5 e6 e7
      unfold zed at e1
      split at e1
      · next rk' bu' A2 S2 q =>
        simp only [Bool.and_eq_true, beq_iff_eq, decide_eq_true_eq] at e1
        obtain ⟨⟨⟨⟨⟨a1, a2⟩, a3⟩, a4⟩, a5⟩, a6⟩ := e1
        have hl' : (rk'.map (zrv L')).length = m := by
          rw [List.length_map, ← a1, ← hl, List.length_map]
        exact ih _ hl' (zrd_ok hA e7 a2) pc' rk' bu' A2 S2 q L' st' nc ns rfl (zsbs_l a3 e5) (zsbs_s a4 e6)
      · cases e1
    have one : ∀ {l9 : List (Nat × List zTy × List zTy)}, l9.all (zed cert i A rk bu) = true → zOk g lg h i L l9 (zstep zcf xs pc i nx k yy n c L st h) → zEs xs (D + 1) y pc L st h nc ns (fun o => ∃ v, o = (.inl v, h, nc, ns) ∧ zgo2 g lg h (as.map some) rt v) := by
      intro l9 h9 ho
      obtain ⟨pc', L', st', h', A', S', o1, o2, o3, o4, o5, o6, o7⟩ := ho
      have hh := zpu_ok hp hp10 o1
      subst hh
      exact zEs_step hrow o1 (go (List.all_eq_true.mp h9 _ o2) o5 o6 o7)
    rw [Bool.or_eq_true] at hent
    rcases hent with hent | hent
    · unfold zrtc at hent
      split at hent
      · next t T =>
        split at hent
        · next a b c9 e1 =>
          match st, hS with
          | [v], hS =>
            obtain ⟨x, rfl, x1, x2, -⟩ := zlo_ok e1 hS.1
            simp only [Bool.and_eq_true, Bool.or_eq_true, beq_iff_eq, decide_eq_true_eq] at hent
            obtain ⟨⟨q1, q2⟩, q3⟩ := hent
            refine zEs_end (dc := 0) (ds := 0) hrow (if_pos ?_) ⟨_, rfl, _, rfl, zga_L (zsb_ok q2 (zga_fl hS.1))⟩
            rcases q1 with q1 | ⟨⟨q1, q4⟩, q5⟩
            · exact Or.inl q1
            · refine Or.inr (Or.inl ⟨q1, ?_⟩)
              rcases (show x.toInt = 0 ∨ x.toInt = 1 by omega) with z | z
              · exact Or.inl (Int32.toInt_inj.mp z)
              · exact Or.inr (Int32.toInt_inj.mp z)
          | [], hS => exact hS.elim
          | _ :: _ :: _, hS => exact hS.2.elim
        · cases hent
      · cases hp
      · cases hp
      · cases hp
      · cases hp
      · match st, hS with
        | [], hS => exact zEs_end (dc := 0) (ds := 0) hrow rfl ⟨_, rfl, rfl⟩
        | _ :: _, hS => exact hS.elim
      · cases hent
    · split at hent
      · next l9 e1 => exact one hent (zab_ok e1 hI hA hS)
      · split at hent
        · next l9 e1 => exact one hent (zmmA_ok e1 hI hA hS)
        · split at hent
          · next e0 S' dc ds e1 =>
            simp only [Bool.and_eq_true, decide_eq_true_eq] at hent
            obtain ⟨⟨b1, b2⟩, b3⟩ := hent
            obtain ⟨as', r, c1, c2⟩ := zcll_okp (xs := xs) (pc := pc) (nx := nx) (nc := nc) (ns := ns) hcs e1 hI hS
            have hi9 : ∀ j d, i ≠ .iinc j d := by
              intro j d z
              subst z
              cases e1
            refine zEs_callG hrow c1 c2 (fun v h1 nc1 ns1 w => ?_) (fun E h1 nc1 ns1 w => ?_)
            · obtain ⟨v', w0, w1⟩ := w
              cases w0
              exact go b3 hA w1 ⟨fun _ _ _ k => k, fun j d e => absurd e (hi9 j d)⟩
            · obtain ⟨v', w0, -⟩ := w
              cases w0
          · cases hent
theorem zmethp (ct : zCt) (cert : List zCe) (hcs : ∀ c ∈ cs, zGp xs c) (hok : zokM ct cs cert = true) (hpu : zpus ct.y cert = true) : zGp xs ct := by
  intro g lg h nc ns as hI hS
  unfold zokM at hok
  rw [Bool.and_eq_true, Bool.and_eq_true] at hok
  obtain ⟨⟨h1, h2⟩, h3⟩ := hok
  split at h1
  · next rk bu A S e =>
    simp only [Bool.and_eq_true, decide_eq_true_eq] at h1 h2
    obtain ⟨⟨⟨⟨⟨⟨a1, a2⟩, a3⟩, a4⟩, a5⟩, a6⟩, a7⟩ := h1
    have hl := zgs_len hS
    have a3 : S = [] := List.isEmpty_iff.mp a3
    subst a3
    obtain ⟨D, hD⟩ : ∃ q, ct.dep = q + 1 := ⟨ct.dep - 1, by omega⟩
    refine ⟨as.map some ++ List.replicate (zmL ct.y - ct.as.length) none, ?_, ?_⟩
    · unfold zen
      rw [zex_1 a4 hS, List.length_map, ← hl]
      exact if_pos a6
    · rw [hD] at h3 ⊢
      exact zck_p hcs h3 hpu as hI _ _ rfl 0 rk bu A [] e _ [] nc ns rfl (zsbs_l a7 (zgl_in hS)) trivial
  · cases h1
theorem p_117 : zGp xs ct_117 := by
  intro g lg h nc ns as hI hS
  obtain ⟨v, rfl, k⟩ := zin1 hS
  obtain rfl := zP_eq k
  obtain ⟨vs, m1, m2, m3, m4⟩ := hI.obj
  obtain ⟨x, y, b1, b2, b3⟩ := hI.bits
  have v1 := m4 1 (by decide)
  have v2 := m4 2 (by decide)
  rw [b1] at v1
  rw [b2] at v2
  have hz := hI.sizes
  refine ⟨_, rfl, zEs_run 1 rfl ?_⟩
  refine zEs_get rfl m1 rfl v1 ?_
  refine zEs_run 1 rfl ?_
  refine zEs_get rfl m1 rfl v2 ?_
  refine zEs_run 1 rfl ?_
  have e := Int32.toInt_add x y
  rw [zbm (by omega) (by omega)] at e
  exact zEs_end rfl rfl ⟨_, rfl, _, rfl, x + y, rfl, by omega, by omega, show _ ≤ (g.zn : Int) by omega, Or.inl rfl⟩
theorem p_113 : zGp xs ct_113 := zmethp (cs := []) ct_113 ce_113 (fun _ h => absurd h List.not_mem_nil) (by decide +kernel) (by decide +kernel)
theorem p_118 : zGp xs ct_118 := zmethp (cs := [ct_113]) ct_118 ce_118 (List.forall_mem_cons.mpr ⟨p_113, fun _ h => absurd h List.not_mem_nil⟩) (by decide +kernel) (by decide +kernel)
theorem p_120 : zGp xs ct_120 := zmethp (cs := [ct_118]) ct_120 ce_120 (List.forall_mem_cons.mpr ⟨p_118, fun _ h => absurd h List.not_mem_nil⟩) (by decide +kernel) (by decide +kernel)
theorem p_121 : zGp xs ct_121 := zmethp (cs := [ct_118, ct_120]) ct_121 ce_121 (List.forall_mem_cons.mpr ⟨p_118, List.forall_mem_cons.mpr ⟨p_120, fun _ h => absurd h List.not_mem_nil⟩⟩) (by decide +kernel) (by decide +kernel)
theorem p_124 : zGp xs ct_124 := zmethp (cs := []) ct_124 ce_124 (fun _ h => absurd h List.not_mem_nil) (by decide +kernel) (by decide +kernel)
theorem p_125 : zGp xs ct_125 := zmethp (cs := [ct_124]) ct_125 ce_125 (List.forall_mem_cons.mpr ⟨p_124, fun _ h => absurd h List.not_mem_nil⟩) (by decide +kernel) (by decide +kernel)
end ZPV
end zg0
section zg1
/-! The reference's methods, by hand: tell. -/
def ce_tel : List zCe := [(0, [(.inl 17)], (0, 0), [(.inr (.inr (.inl (44, 44)))), zIA, zIA, (.inr (.inr (.inr 0))), (.inr (.inr (.inr 0))), (.inr (.inr (.inr 0))), (.inr (.inr (.inr 0)))], []),
  (1, [(.inl 16)], (0, 0), [(.inr (.inr (.inl (44, 44)))), zIA, zIA, (.inr (.inr (.inr 0))), (.inr (.inr (.inr 0))), (.inr (.inr (.inr 0))), (.inr (.inr (.inr 0)))], [(.inr (.inr (.inl (44, 44))))]),
  (2, [(.inl 15)], (0, 0), [(.inr (.inr (.inl (44, 44)))), zIA, zIA, (.inr (.inr (.inr 0))), (.inr (.inr (.inr 0))), (.inr (.inr (.inr 0))), (.inr (.inr (.inr 0)))], [(.inl (0, 0, 0, 0)), (.inr (.inr (.inl (44, 44))))]),
  (5, [(.inl 14)], (0, 0), [(.inr (.inr (.inl (44, 44)))), zIA, zIA, (.inr (.inr (.inr 0))), (.inr (.inr (.inr 0))), (.inr (.inr (.inr 0))), (.inr (.inr (.inr 0)))], []),
  (6, [(.inl 13)], (0, 0), [(.inr (.inr (.inl (44, 44)))), zIA, zIA, (.inr (.inr (.inr 0))), (.inr (.inr (.inr 0))), (.inr (.inr (.inr 0))), (.inr (.inr (.inr 0)))], [(.inl ((-2147483648), 2147483647, 0, 2))]),
  (7, [(.inl 12)], (0, 0), [(.inr (.inr (.inl (44, 44)))), zIA, zIA, (.inr (.inr (.inr 0))), (.inr (.inr (.inr 0))), (.inr (.inr (.inr 0))), (.inr (.inr (.inr 0)))], [(.inl (0, 0, 0, 0)), (.inl ((-2147483648), 2147483647, 0, 2))]),
  (8, [(.inl 11)], (0, 0), [(.inr (.inr (.inl (44, 44)))), zIA, zIA, (.inr (.inr (.inr 0))), (.inr (.inr (.inr 0))), (.inr (.inr (.inr 0))), (.inr (.inr (.inr 0)))], [(.inl (1, 1, 0, 0)), (.inl (0, 0, 0, 0)), (.inl ((-2147483648), 2147483647, 0, 2))]),
  (11, [(.inl 10)], (0, 0), [(.inr (.inr (.inl (44, 44)))), zIA, zIA, (.inr (.inr (.inr 0))), (.inr (.inr (.inr 0))), (.inr (.inr (.inr 0))), (.inr (.inr (.inr 0)))], [(.inr (.inl (1, 0, 1, 0)))]),
  (14, [(.inl 9)], (0, 0), [(.inr (.inr (.inl (44, 44)))), (.inl (0, 1, 0, 0)), zIA, (.inr (.inr (.inr 0))), (.inr (.inr (.inr 0))), (.inr (.inr (.inr 0))), (.inr (.inr (.inr 0)))], []),
  (15, [(.inl 8)], (0, 0), [(.inr (.inr (.inl (44, 44)))), (.inl (0, 1, 0, 0)), zIA, (.inr (.inr (.inr 0))), (.inr (.inr (.inr 0))), (.inr (.inr (.inr 0))), (.inr (.inr (.inr 0)))], [(.inl ((-2147483648), 2147483647, 0, 3))]),
  (16, [(.inl 7)], (0, 0), [(.inr (.inr (.inl (44, 44)))), (.inl (0, 1, 0, 0)), zIA, (.inr (.inr (.inr 0))), (.inr (.inr (.inr 0))), (.inr (.inr (.inr 0))), (.inr (.inr (.inr 0)))], [(.inl (0, 0, 0, 0)), (.inl ((-2147483648), 2147483647, 0, 3))]),
  (18, [(.inl 6)], (0, 0), [(.inr (.inr (.inl (44, 44)))), (.inl (0, 1, 0, 0)), zIA, (.inr (.inr (.inr 0))), (.inr (.inr (.inr 0))), (.inr (.inr (.inr 0))), (.inr (.inr (.inr 0)))], [(.inl (7, 7, 0, 0)), (.inl (0, 0, 0, 0)), (.inl ((-2147483648), 2147483647, 0, 3))]),
  (21, [(.inl 5)], (0, 0), [(.inr (.inr (.inl (44, 44)))), (.inl (0, 1, 0, 0)), zIA, (.inr (.inr (.inr 0))), (.inr (.inr (.inr 0))), (.inr (.inr (.inr 0))), (.inr (.inr (.inr 0)))], [(.inr (.inl (2, 0, 7, 0)))]),
  (24, [(.inl 3)], (0, 0), [(.inr (.inr (.inl (44, 44)))), zIA, zIA, (.inr (.inr (.inr 0))), (.inr (.inr (.inr 0))), (.inr (.inr (.inr 0))), (.inr (.inr (.inr 0)))], []),
  (25, [(.inl 2)], (0, 0), [(.inr (.inr (.inl (44, 44)))), zIA, zIA, (.inr (.inr (.inr 0))), (.inr (.inr (.inr 0))), (.inr (.inr (.inr 0))), (.inr (.inr (.inr 0)))], [(.inr (.inr (.inl (44, 44))))]),
  (26, [(.inl 1)], (0, 0), [(.inr (.inr (.inl (44, 44)))), zIA, zIA, (.inr (.inr (.inr 0))), (.inr (.inr (.inr 0))), (.inr (.inr (.inr 0))), (.inr (.inr (.inr 0)))], [(.inl (1, 1, 0, 0)), (.inr (.inr (.inl (44, 44))))]),
  (29, [(.inl 0)], (0, 0), [(.inr (.inr (.inl (44, 44)))), zIA, zIA, (.inr (.inr (.inr 0))), (.inr (.inr (.inr 0))), (.inr (.inr (.inr 0))), (.inr (.inr (.inr 0)))], []),
  (32, [(.inl 4)], (0, 0), [(.inr (.inr (.inl (44, 44)))), (.inl (0, 1, 0, 0)), (.inl (0, 7, 0, 0)), (.inr (.inr (.inr 0))), (.inr (.inr (.inr 0))), (.inr (.inr (.inr 0))), (.inr (.inr (.inr 0)))], [])]
def cs_tel : List zCt := []
theorem gs_tel {xs : List Int32} : ∀ ct ∈ cs_tel, zGd xs ct := fun _ h => absurd h List.not_mem_nil
section ZHN
variable {xs : List Int32} {g : zG} {lg : Nat} {h : zH} {D nc ns y pc nx k yy m c nx' : Nat} {L : zL} {r st as : List Value} {P : zO → Prop} {i : Instr}
/-- a call of a method that changes nothing -/
theorem zEs_ctp {ct : zCt} (hct : zGp xs ct) (e1 : zat (zmc y) pc = some (i, nx, k, yy, m, c)) (e2 : zstep zcf xs pc i nx k yy m c L st h = some (.inr (.inl (ct.y, as, r, nx')))) (hd : ct.dep ≤ D) (hI : zHI g lg h) (hS : zgs g lg h [] ct.as as) (kv : ∀ v, zgo2 g lg h (as.map some) ct.rt v → zEs xs (D + 1) y nx' L (v.toList ++ r) h nc ns P) : zEs xs (D + 1) y pc L st h nc ns P := by
  refine zEs_callG e1 e2 (zMs_mono hd (hct g lg h nc ns as hI hS)) (fun v h1 nc1 ns1 w => ?_) (fun E h1 nc1 ns1 w => ?_)
  · obtain ⟨v', e, b1⟩ := w
    cases e
    exact kv _ b1
  · obtain ⟨v', e, -⟩ := w
    cases e
/-- tell, as the law sees it: a reference -/
def zPtl (g : zG) (h0 : zH) (nc ns : Nat) (dc ds : Nat) (F : Value × Value × Value × Value) : zO → Prop := fun o => ∃ v g' lg' h' nc' ns', o = (.inl v, h', nc', ns') ∧ (v = some (.retAddr 3) ∨ ∃ q, v = some (.ref q)) ∧ zHI g' lg' h' ∧ zLE h0 h' ∧ g'.s = g.s ∧ g'.a = g.a ∧ zfw g' = F ∧ nc' ≤ nc + dc ∧ ns' ≤ ns + ds
theorem l_175 {b rw : Int32} (hI : zHI g lg h) (b0 : 0 ≤ b.toInt) (b1 : b.toInt ≤ 1) (r0 : 0 ≤ rw.toInt) (r1 : rw.toInt ≤ 7) {nc0 ns0 : Nat} (hn : nc ≤ nc0 + 90) (hs : ns ≤ ns0 + 4200) : ∀ (n j : Nat) (o5 o6 : Option Value) (bs : List Value), j ≤ 8 → bs.length = 16 → (∀ x ∈ bs, zbyt x = true) → 8 - j < n → zEs xs 20 175 43 [some (.ref 44), some (.int b), some (.int rw), some (.ref h.length), some (.int (Int32.ofNat j)), o5, o6] [] (zsb h j (.int 0) bs) nc ns (zPtl g h nc0 ns0 100 4300 (zfw g))
  | 0, _, _, _, _, _, _, _, hn => absurd hn (Nat.not_lt_zero _)
  | n + 1, j, o5, o6, bs, h1, h2, h3, hj => by
    have e8 : ((Int8.ofInt 8).toInt32).toInt = 8 := by decide
    have e64 : ((Int8.ofInt 64).toInt32).toInt = 64 := by decide
    have ej : (Int32.ofNat j).toInt = (j : Int) := Int32.toInt_ofNat_of_lt (by omega)
    have I2 : zHI g lg (zsb h j (.int 0) bs) := (zHI_mv hI (zapp_mv _)).1
    obtain ⟨vs, m1, m2, m3, m4⟩ := I2.obj
    refine zEs_run 2 rfl ?_
    refine zEs_icmp rfl (fun g1 => ?_) (fun g1 => ?_)
    · refine zEs_run 1 rfl ?_
      refine zEs_callG rfl (show zcallV 0 8 222 144 [.ref h.length] (zsb h j (.int 0) bs) = _ from zcallV_eq rfl zsb0 (by decide)) (m_222 (D := 14) h2 (by omega) (List.all_eq_true.mpr (fun x hx => h3 x (List.mem_of_mem_take hx)))) (fun v h9 nc1 ns1 q => ?_) (fun E h9 nc1 ns1 q => by obtain ⟨U, q⟩ := q; cases q)
      obtain ⟨U, q⟩ := q
      cases q
      exact zEs_end rfl rfl ⟨_, g, lg, _, _, _, rfl, Or.inr ⟨_, rfl⟩, (zHI_mv hI (zapp_mv U)).1, zLE_app, rfl, rfl, rfl, by omega, by omega⟩
    · have z := zF_ge_f g1
      rw [ej, e8] at z
      have t1 := Int32.toInt_mul b (Int8.ofInt 64).toInt32
      rw [e64, zbm (by omega) (by omega)] at t1
      have t2 := Int32.toInt_mul rw (Int8.ofInt 8).toInt32
      rw [e8, zbm (by omega) (by omega)] at t2
      have t3 := Int32.toInt_add (b * (Int8.ofInt 64).toInt32) (rw * (Int8.ofInt 8).toInt32)
      rw [t1, t2, zbm (by omega) (by omega)] at t3
      have t4 := Int32.toInt_add (b * (Int8.ofInt 64).toInt32 + rw * (Int8.ofInt 8).toInt32) (Int32.ofNat j)
      rw [t3, ej, zbm (by omega) (by omega)] at t4
      refine zEs_run 13 (L' := [some (.ref 44), some (.int b), some (.int rw), some (.ref h.length), some (.int (Int32.ofNat j)), some (.int (b * (Int8.ofInt 64).toInt32 + rw * (Int8.ofInt 8).toInt32 + Int32.ofNat j)), o6]) (st' := [.int (b * (Int8.ofInt 64).toInt32 + rw * (Int8.ofInt 8).toInt32 + Int32.ofNat j), .ref 44, .ref 44]) rfl ?_
      generalize b * (Int8.ofInt 64).toInt32 + rw * (Int8.ofInt 8).toInt32 + Int32.ofNat j = A at t4 ⊢
      refine zEs_ctp p_125 rfl (show zcallV 1 7 125 71 (.int A :: .ref 44 :: _) _ = _ from zcallV_eq rfl m1 (Nat.le_of_ble_eq_true rfl)) (by decide) I2 ⟨zP_in, zI_in (by omega) (by omega), trivial⟩ (fun v q => ?_)
      obtain ⟨u, rfl, q⟩ := q
      obtain ⟨w, rfl, -⟩ := zI_eq q
      refine zEs_ctp p_121 rfl (show zcallV 1 7 121 74 (.int w :: .ref 44 :: _) _ = _ from zcallV_eq rfl m1 (Nat.le_of_ble_eq_true rfl)) (by decide) I2 ⟨zP_in, zIA_ok w, trivial⟩ (fun v q => ?_)
      obtain ⟨u, rfl, q⟩ := q
      obtain ⟨kd, rfl, -⟩ := zI_eq q
      have J : ∀ x : Int32, (x = 120 ∨ x = 112 ∨ x = 46 ∨ x = 109 ∨ x = 66) → zEs xs 20 175 130 [some (.ref 44), some (.int b), some (.int rw), some (.ref h.length), some (.int (Int32.ofNat j)), some (.int A), some (.int kd)] [.int x, .ref h.length] (zsb h j (.int 0) bs) nc ns (zPtl g h nc0 ns0 100 4300 (zfw g)) := by
        intro x hx
        refine zEs_callG rfl (show zcallV 1 8 220 133 [.int x, .ref h.length] (zsb h j (.int 0) bs) = _ from zcallV_eq rfl zsb0 (by decide)) (m_220 (D := 17) h2 (by omega) hx) (fun v h9 nc1 ns1 q => ?_) (fun E h9 nc1 ns1 q => by cases q)
        cases q
        refine zEs_run 3 rfl ?_
        rw [show Int32.ofNat j + Int32.ofInt 1 = Int32.ofNat (j + 1) from (nI_succ j).symm]
        exact l_175 hI b0 b1 r0 r1 hn hs n (j + 1) _ _ _ (by omega) (by simp [h2]) (zbyt_set h3 (by rcases hx with rfl | rfl | rfl | rfl | rfl <;> decide)) (by omega)
      refine zEs_run 3 rfl ?_
      refine zEs_get rfl m1 rfl (zfld m3 (k := 22) (by decide) rfl) ?_
      obtain ⟨l2, p1, p2, p3⟩ := I2.rows 72 101 128 0 1 rfl
      obtain ⟨l1, s1, s2, s3⟩ := I2.rows 71 101 128 0 1 rfl
      refine zEs_run 1 rfl ?_
      obtain ⟨v9, v1, v2⟩ := zald_eq (nx := 84) (L := [some (.ref 44), some (.int b), some (.int rw), some (.ref h.length), some (.int (Int32.ofNat j)), some (.int A), some (.int kd)]) (r := [.ref h.length]) (j := A) p1 (by omega) (by omega)
      refine zEs_step (dc := 0) (ds := 0) rfl (show zald 101 84 _ (.int A :: .ref 72 :: _) _ = _ from v2) ?_
      refine zEs_if rfl (fun _ => ?_) (fun _ => ?_)
      · refine zEs_run 1 rfl ?_
        refine zEs_get rfl m1 rfl (zfld m3 (k := 21) (by decide) rfl) ?_
        refine zEs_run 1 rfl ?_
        obtain ⟨v8, u1, u2⟩ := zald_eq (nx := 99) (L := [some (.ref 44), some (.int b), some (.int rw), some (.ref h.length), some (.int (Int32.ofNat j)), some (.int A), some (.int kd)]) (r := [.ref h.length]) (j := A) s1 (by omega) (by omega)
        refine zEs_step (dc := 0) (ds := 0) rfl (show zald 101 99 _ (.int A :: .ref 71 :: _) _ = _ from u2) ?_
        refine zEs_if rfl (fun _ => ?_) (fun _ => ?_)
        · refine zEs_run 1 rfl ?_
          refine zEs_if rfl (fun _ => ?_) (fun _ => ?_)
          · refine zEs_run 2 rfl ?_
            refine zEs_icmp rfl (fun _ => ?_) (fun _ => ?_)
            · exact zEs_run 1 rfl (J _ (by decide))
            · exact zEs_run 2 rfl (J _ (by decide))
          · exact zEs_run 2 rfl (J _ (by decide))
        · exact zEs_run 2 rfl (J _ (by decide))
      · exact zEs_run 2 rfl (J _ (by decide))
theorem q_175 {x1 x2 : Int32} (hI : zHI g lg h) : zMs xs 20 175 [.ref 44, .int x1, .int x2] h nc ns (zPtl g h nc ns 190 8300 (zfw g)) := by
  have PM : ∀ {nc1 ns1 : Nat} {o : zO} {h1 : zH}, zLE h h1 → nc1 ≤ nc + 80 → ns1 ≤ ns + 4000 → zPtl g h1 nc1 ns1 100 4300 (zfw g) o → zPtl g h nc ns 190 8300 (zfw g) o := by
    intro nc1 ns1 o h1 l9 a b k
    obtain ⟨v, g', lg', h', nc', ns', e, b1, b2, b9, b3, b4, b5, b6, b7⟩ := k
    exact ⟨v, g', lg', h', nc', ns', e, b1, b2, zLE_tr l9 b9, b3, b4, b5, by omega, by omega⟩
  refine ⟨_, rfl, zck_g (cs := cs_tel) (cert := ce_tel) (rt := some zNo) (ex := [29, 32]) _ lg nc ns 0 0 h gs_tel (by decide +kernel) (fun v h' lg' nc' ns' b => (zno b).elim) (fun pc rk bu A S z e L st lg1 h1 nc1 ns1 b1 b2 b3 b4 b5 b6 b7 => ?_) _ _ rfl 0 _ _ _ _ rfl _ [] lg h nc ns rfl hI (zgl_in (as := [(.inr (.inr (.inl (44, 44)))), zIA, zIA]) (vs := [.ref 44, .int x1, .int x2]) (n := 4) ⟨zP_in, zIA_ok _, zIA_ok _, trivial⟩) trivial zLE_rf (Nat.le_refl _) (Nat.le_refl _) (Nat.le_refl _)⟩
  have hz := b1.sizes
  have hlen := zHI_len b1
  rcases (show pc = 29 ∨ pc = 32 by simpa using z) with rfl | rfl
  · obtain rfl : S = [] := congrArg (fun x => x.2.2.2) (Option.some.inj (e.symm.trans (show zlkc ce_tel 29 = some (_, _, _, []) from rfl)))
    obtain rfl := zgs_0 b3
    refine zEs_run 1 rfl ?_
    exact zEs_end rfl rfl ⟨_, g, lg1, _, _, _, rfl, Or.inl rfl, b1, b4, rfl, rfl, rfl, by omega, by omega⟩
  · have e2 := Option.some.inj (e.symm.trans (show zlkc ce_tel 32 = some (_, _, [(.inr (.inr (.inl (44, 44)))), (.inl (0, 1, 0, 0)), (.inl (0, 7, 0, 0)), (.inr (.inr (.inr 0))), (.inr (.inr (.inr 0))), (.inr (.inr (.inr 0))), (.inr (.inr (.inr 0)))], []) from rfl))
    obtain rfl : S = [] := congrArg (fun x => x.2.2.2) e2
    obtain rfl : A = _ := congrArg (fun x => x.2.2.1) e2
    obtain rfl := zgs_0 b3
    obtain ⟨L1, rfl, y1⟩ := zgl_P b2
    obtain ⟨bk, L2, rfl, k0, k1, y2⟩ := zgl_I y1
    obtain ⟨rw, L3, rfl, r0, r1, y3⟩ := zgl_I y2
    obtain ⟨o3, L4, rfl, y4⟩ := zgl_N y3
    obtain ⟨o4, L5, rfl, y5⟩ := zgl_N y4
    obtain ⟨o5, L6, rfl, y6⟩ := zgl_N y5
    obtain ⟨o6, L7, rfl, y7⟩ := zgl_N y6
    obtain rfl := zgl_0 y7
    refine zEs_post ?_ (fun o ho => PM (nc1 := nc1) (ns1 := ns1) b4 (by omega) (by omega) ho)
    refine zEs_run 2 (h' := h1 ++ [(8, [.null, .int 0, .int 0, .int 0])]) rfl ?_
    refine zEs_callG rfl rfl (m_221 (D := 18)) (fun v h9 nc9 ns9 q => ?_) (fun E h9 nc9 ns9 q => by cases q)
    cases q
    refine zEs_run 3 rfl ?_
    have e4 : (zcf 8).length = 4 := rfl
    exact l_175 b1 k0 k1 r0 r1 (by omega) (by omega) _ 0 _ _ _ (by omega) (by simp) (fun x hx => by rw [List.eq_of_mem_replicate hx]; decide) (Nat.lt_succ_self _)
end ZHN
end zg1
section zg2
/-! The reference's object, as it is made. -/
def ce_ini : List zCe := [(148, [(.inl 3), (.inl 0), (.inl 0), (.inl 0), (.inl 0)], (0, 0), [(.inr (.inr (.inl (44, 44)))), (.inr (.inr (.inr 0))), (.inr (.inr (.inr 0)))], []),
  (149, [(.inl 2), (.inl 0), (.inl 0), (.inl 0), (.inl 0)], (0, 0), [(.inr (.inr (.inl (44, 44)))), (.inr (.inr (.inr 0))), (.inr (.inr (.inr 0)))], [(.inl (0, 0, 0, 0))]),
  (150, [(.inl 1), (.inr (2, 1)), (.inl 6), (.inl 0), (.inl 0)], (0, 0), [(.inr (.inr (.inl (44, 44)))), (.inl (0, 2, 0, 0)), (.inr (.inr (.inr 0)))], []),
  (151, [(.inl 1), (.inr (2, 1)), (.inl 5), (.inl 0), (.inl 0)], (0, 0), [(.inr (.inr (.inl (44, 44)))), (.inl (0, 2, 0, 0)), (.inr (.inr (.inr 0)))], [(.inl (0, 2, 0, 2))]),
  (152, [(.inl 1), (.inr (2, 1)), (.inl 4), (.inl 0), (.inl 0)], (0, 0), [(.inr (.inr (.inl (44, 44)))), (.inl (0, 2, 0, 0)), (.inr (.inr (.inr 0)))], [(.inl (2, 2, 0, 0)), (.inl (0, 2, 0, 2))]),
  (155, [(.inl 1), (.inr (2, 1)), (.inl 3), (.inl 0), (.inl 0)], (0, 0), [(.inr (.inr (.inl (44, 44)))), (.inl (0, 1, 0, 0)), (.inr (.inr (.inr 0)))], []),
  (156, [(.inl 1), (.inr (2, 1)), (.inl 2), (.inl 0), (.inl 0)], (0, 0), [(.inr (.inr (.inl (44, 44)))), (.inl (0, 1, 0, 0)), (.inr (.inr (.inr 0)))], [(.inl (0, 0, 0, 0))]),
  (157, [(.inl 1), (.inr (2, 1)), (.inl 1), (.inr (8, 2)), (.inl 16)], (0, 0), [(.inr (.inr (.inl (44, 44)))), (.inl (0, 1, 0, 0)), (.inl (0, 8, 0, 0))], []),
  (158, [(.inl 1), (.inr (2, 1)), (.inl 1), (.inr (8, 2)), (.inl 15)], (0, 0), [(.inr (.inr (.inl (44, 44)))), (.inl (0, 1, 0, 0)), (.inl (0, 8, 0, 0))], [(.inl (0, 8, 0, 3))]),
  (160, [(.inl 1), (.inr (2, 1)), (.inl 1), (.inr (8, 2)), (.inl 14)], (0, 0), [(.inr (.inr (.inl (44, 44)))), (.inl (0, 1, 0, 0)), (.inl (0, 8, 0, 0))], [(.inl (8, 8, 0, 0)), (.inl (0, 8, 0, 3))]),
  (163, [(.inl 1), (.inr (2, 1)), (.inl 1), (.inr (8, 2)), (.inl 13)], (0, 0), [(.inr (.inr (.inl (44, 44)))), (.inl (0, 1, 0, 0)), (.inl (0, 7, 0, 0))], []),
  (164, [(.inl 1), (.inr (2, 1)), (.inl 1), (.inr (8, 2)), (.inl 12)], (0, 0), [(.inr (.inr (.inl (44, 44)))), (.inl (0, 1, 0, 0)), (.inl (0, 7, 0, 0))], [(.inr (.inr (.inl (44, 44))))]),
  (167, [(.inl 1), (.inr (2, 1)), (.inl 1), (.inr (8, 2)), (.inl 11)], (0, 0), [(.inr (.inr (.inl (44, 44)))), (.inl (0, 1, 0, 0)), (.inl (0, 7, 0, 0))], [(.inr (.inr (.inl (69, 69))))]),
  (168, [(.inl 1), (.inr (2, 1)), (.inl 1), (.inr (8, 2)), (.inl 10)], (0, 0), [(.inr (.inr (.inl (44, 44)))), (.inl (0, 1, 0, 0)), (.inl (0, 7, 0, 0))], [(.inl (0, 1, 0, 2)), (.inr (.inr (.inl (69, 69))))]),
  (170, [(.inl 1), (.inr (2, 1)), (.inl 1), (.inr (8, 2)), (.inl 9)], (0, 0), [(.inr (.inr (.inl (44, 44)))), (.inl (0, 1, 0, 0)), (.inl (0, 7, 0, 0))], [(.inl (8, 8, 0, 0)), (.inl (0, 1, 0, 2)), (.inr (.inr (.inl (69, 69))))]),
  (171, [(.inl 1), (.inr (2, 1)), (.inl 1), (.inr (8, 2)), (.inl 8)], (0, 0), [(.inr (.inr (.inl (44, 44)))), (.inl (0, 1, 0, 0)), (.inl (0, 7, 0, 0))], [(.inl (0, 8, 0, 0)), (.inr (.inr (.inl (69, 69))))]),
  (172, [(.inl 1), (.inr (2, 1)), (.inl 1), (.inr (8, 2)), (.inl 7)], (0, 0), [(.inr (.inr (.inl (44, 44)))), (.inl (0, 1, 0, 0)), (.inl (0, 7, 0, 0))], [(.inl (0, 7, 0, 3)), (.inl (0, 8, 0, 0)), (.inr (.inr (.inl (69, 69))))]),
  (173, [(.inl 1), (.inr (2, 1)), (.inl 1), (.inr (8, 2)), (.inl 6)], (0, 0), [(.inr (.inr (.inl (44, 44)))), (.inl (0, 1, 0, 0)), (.inl (0, 7, 0, 0))], [(.inl (0, 15, 0, 0)), (.inr (.inr (.inl (69, 69))))]),
  (174, [(.inl 1), (.inr (2, 1)), (.inl 1), (.inr (8, 2)), (.inl 5)], (0, 0), [(.inr (.inr (.inl (44, 44)))), (.inl (0, 1, 0, 0)), (.inl (0, 7, 0, 0))], [(.inl (0, 1, 0, 2)), (.inl (0, 15, 0, 0)), (.inr (.inr (.inl (69, 69))))]),
  (176, [(.inl 1), (.inr (2, 1)), (.inl 1), (.inr (8, 2)), (.inl 4)], (0, 0), [(.inr (.inr (.inl (44, 44)))), (.inl (0, 1, 0, 0)), (.inl (0, 7, 0, 0))], [(.inl (10, 10, 0, 0)), (.inl (0, 1, 0, 2)), (.inl (0, 15, 0, 0)), (.inr (.inr (.inl (69, 69))))]),
  (177, [(.inl 1), (.inr (2, 1)), (.inl 1), (.inr (8, 2)), (.inl 3)], (0, 0), [(.inr (.inr (.inl (44, 44)))), (.inl (0, 1, 0, 0)), (.inl (0, 7, 0, 0))], [(.inl (0, 10, 0, 0)), (.inl (0, 15, 0, 0)), (.inr (.inr (.inl (69, 69))))]),
  (178, [(.inl 1), (.inr (2, 1)), (.inl 1), (.inr (8, 2)), (.inl 2)], (0, 0), [(.inr (.inr (.inl (44, 44)))), (.inl (0, 1, 0, 0)), (.inl (0, 7, 0, 0))], [(.inl (0, 7, 0, 3)), (.inl (0, 10, 0, 0)), (.inl (0, 15, 0, 0)), (.inr (.inr (.inl (69, 69))))]),
  (179, [(.inl 1), (.inr (2, 1)), (.inl 1), (.inr (8, 2)), (.inl 1)], (0, 0), [(.inr (.inr (.inl (44, 44)))), (.inl (0, 1, 0, 0)), (.inl (0, 7, 0, 0))], [(.inl (0, 17, 0, 0)), (.inl (0, 15, 0, 0)), (.inr (.inr (.inl (69, 69))))]),
  (180, [(.inl 1), (.inr (2, 1)), (.inl 1), (.inr (8, 2)), (.inl 0)], (0, 0), [(.inr (.inr (.inl (44, 44)))), (.inl (0, 1, 0, 0)), (.inl (0, 7, 0, 0))], []),
  (183, [(.inl 1), (.inr (2, 1)), (.inl 1), (.inr (8, 2)), (.inl 17)], (0, 0), [(.inr (.inr (.inl (44, 44)))), (.inl (0, 1, 0, 0)), (.inl (1, 8, 0, 0))], []),
  (186, [(.inl 1), (.inr (2, 1)), (.inl 0), (.inl 0), (.inl 0)], (0, 0), [(.inr (.inr (.inl (44, 44)))), (.inl (0, 1, 0, 0)), (.inl (8, 8, 0, 0))], []),
  (189, [(.inl 1), (.inr (2, 1)), (.inl 7), (.inl 0), (.inl 0)], (0, 0), [(.inr (.inr (.inl (44, 44)))), (.inl (1, 2, 0, 0)), (.inl (8, 8, 0, 0))], []),
  (192, [(.inl 0), (.inl 0), (.inl 0), (.inl 0), (.inl 0)], (0, 0), [(.inr (.inr (.inl (44, 44)))), (.inl (2, 2, 0, 0)), (.inr (.inr (.inr 0)))], [])]
def cs_ini : List zCt := []
theorem gs_ini {xs : List Int32} : ∀ ct ∈ cs_ini, zGd xs ct := fun _ h => absurd h List.not_mem_nil
def zm0 (c st wk lg : Value) : List Value := [.int 0, .int (Int8.ofInt 8).toInt32, .int (Int32.ofInt 5), c, .int 0, .int (Int8.ofInt 16).toInt32, .int (Int8.ofInt 20).toInt32, .int 0, .int 0, .int 0, .int 0, .int (Int32.ofInt (-1)), .int 0, .int 0, .int 0, .int 0, .ref 46, .ref 67, .ref 68, .ref 69, .ref 70, .ref 71, .ref 72, st, wk, lg]
def zmT (c st wk lg : Value) (U : zH) : zH := (7, zm0 c st wk lg) :: (100, []) :: (104, (List.range 20).map (fun j => .ref (47 + j))) :: (100, List.replicate 8 (.int 0)) :: (100, List.replicate 8 (.int 0)) :: (100, List.replicate 8 (.int 0)) :: (100, List.replicate 8 (.int 0)) :: (100, List.replicate 8 (.int 0)) :: (100, List.replicate 8 (.int 0)) :: (100, List.replicate 8 (.int 0)) :: (100, List.replicate 8 (.int 0)) :: (100, List.replicate 8 (.int 0)) :: (100, List.replicate 8 (.int 0)) :: (100, List.replicate 8 (.int 0)) :: (100, List.replicate 8 (.int 0)) :: (100, List.replicate 8 (.int 0)) :: (100, List.replicate 8 (.int 0)) :: (100, List.replicate 8 (.int 0)) :: (100, List.replicate 8 (.int 0)) :: (100, List.replicate 8 (.int 0)) :: (100, List.replicate 8 (.int 0)) :: (100, List.replicate 8 (.int 0)) :: (100, List.replicate 8 (.int 0)) :: (100, List.replicate 20 (.int 0)) :: (100, List.replicate 20 (.int 0)) :: (100, List.replicate 16 (.int 0)) :: (100, List.replicate 2 (.int 0)) :: (101, List.replicate 128 (.int 0)) :: (101, List.replicate 128 (.int 0)) :: U
section ZHO
variable {xs : List Int32} {s : Nat → Int32} {a : Nat → List Int32} {D nc ns : Nat}
def zgI (s : Nat → Int32) (a : Nat → List Int32) (n : Nat) : zG := (s, a, (fun k => (zm0 (.ref 76) (.ref 73) (.ref 74) (.ref 75)).getD k .null), (fun j => 73 + j), 0, 0, n, 3, fun _ => 0)
abbrev zli : Nat × List Value := (10, [.int 0, .retAddr 1, .int 0])
set_option maxRecDepth 20000
theorem zHI_I {l : List Int32} (hl : l.length = 13) : zHI (zgI s a l.length) 0 (zx s a (zmT (.ref 76) (.ref 73) (.ref 74) (.ref 75) [zli, zli, zli, zar l])) := by
  refine ⟨rfl, ⟨_, rfl, rfl, fun k hk => ?_, fun k hk => ?_⟩, rfl, fun q t n lo hi e => ?_, ?_, ⟨(Int8.ofInt 8).toInt32, Int32.ofInt 5, rfl, rfl, ?_⟩, ⟨Nat.zero_le _, Nat.zero_le _, Nat.zero_le _, by show 8 ≤ l.length; omega, by show l.length ≤ 16; omega, Nat.le_refl _, fun j => Nat.zero_le _⟩⟩
  · rcases (show k = 0 ∨ k = 1 ∨ k = 2 ∨ k = 3 ∨ k = 4 ∨ k = 5 ∨ k = 6 ∨ k = 7 ∨ k = 8 ∨ k = 9 ∨ k = 10 ∨ k = 11 ∨ k = 12 ∨ k = 13 ∨ k = 14 ∨ k = 15 ∨ k = 16 ∨ k = 17 ∨ k = 18 ∨ k = 19 ∨ k = 20 ∨ k = 21 ∨ k = 22 ∨ k = 23 ∨ k = 24 ∨ k = 25 by omega) with rfl | rfl | rfl | rfl | rfl | rfl | rfl | rfl | rfl | rfl | rfl | rfl | rfl | rfl | rfl | rfl | rfl | rfl | rfl | rfl | rfl | rfl | rfl | rfl | rfl | rfl
    · exact ⟨_, rfl, _, rfl, by decide, by decide, trivial, Or.inl rfl⟩
    · exact ⟨_, rfl, _, rfl, by decide, by decide, trivial, Or.inl rfl⟩
    · exact ⟨_, rfl, _, rfl, by decide, by decide, trivial, Or.inl rfl⟩
    · exact ⟨_, rfl, 76, l, rfl, by decide, rfl, rfl⟩
    · exact ⟨_, rfl, _, rfl, by decide, by decide, trivial, Or.inl rfl⟩
    · exact ⟨_, rfl, _, rfl, by decide, by decide, trivial, Or.inl rfl⟩
    · exact ⟨_, rfl, _, rfl, by decide, by decide, trivial, Or.inl rfl⟩
    · exact ⟨_, rfl, _, rfl, by decide, by decide, trivial, Or.inl rfl⟩
    · exact ⟨_, rfl, _, rfl, by decide, by decide, trivial, Or.inl rfl⟩
    · exact ⟨_, rfl, _, rfl, by decide, by decide, trivial, Or.inl rfl⟩
    · exact ⟨_, rfl, _, rfl, by decide, by decide, trivial, Or.inl rfl⟩
    · exact ⟨_, rfl, _, rfl, by decide, by decide, trivial, Or.inl rfl⟩
    · exact ⟨_, rfl, _, rfl, by decide, by decide, trivial, Or.inl rfl⟩
    · exact ⟨_, rfl, _, rfl, by decide, by decide, trivial, Or.inl rfl⟩
    · exact ⟨_, rfl, _, rfl, by decide, by decide, trivial, Or.inl rfl⟩
    · exact ⟨_, rfl, _, rfl, by decide, by decide, trivial, Or.inl rfl⟩
    · exact ⟨_, rfl, _, rfl, Nat.le_refl _, Nat.le_refl _⟩
    · exact ⟨_, rfl, _, rfl, Nat.le_refl _, Nat.le_refl _⟩
    · exact ⟨_, rfl, _, rfl, Nat.le_refl _, Nat.le_refl _⟩
    · exact ⟨_, rfl, _, rfl, Nat.le_refl _, Nat.le_refl _⟩
    · exact ⟨_, rfl, _, rfl, Nat.le_refl _, Nat.le_refl _⟩
    · exact ⟨_, rfl, _, rfl, Nat.le_refl _, Nat.le_refl _⟩
    · exact ⟨_, rfl, _, rfl, Nat.le_refl _, Nat.le_refl _⟩
    · exact ⟨_, rfl, rfl⟩
    · exact ⟨_, rfl, rfl⟩
    · exact ⟨_, rfl, rfl⟩
  · rcases (show k = 1 ∨ k = 2 ∨ k = 3 ∨ k = 4 ∨ k = 13 by simpa [zfz] using hk) with rfl | rfl | rfl | rfl | rfl <;> rfl
  · have hb := zsp_b e
    rcases (show q = 47 ∨ q = 48 ∨ q = 49 ∨ q = 50 ∨ q = 51 ∨ q = 52 ∨ q = 53 ∨ q = 54 ∨ q = 55 ∨ q = 56 ∨ q = 57 ∨ q = 58 ∨ q = 59 ∨ q = 60 ∨ q = 61 ∨ q = 62 ∨ q = 63 ∨ q = 64 ∨ q = 65 ∨ q = 66 ∨ q = 67 ∨ q = 68 ∨ q = 69 ∨ q = 70 ∨ q = 71 ∨ q = 72 by omega) with rfl | rfl | rfl | rfl | rfl | rfl | rfl | rfl | rfl | rfl | rfl | rfl | rfl | rfl | rfl | rfl | rfl | rfl | rfl | rfl | rfl | rfl | rfl | rfl | rfl | rfl
    · cases (show some ((100 : Nat), (8 : Nat), ((-2147483648) : Int), (2147483647 : Int)) = some (t, n, lo, hi) from e)
      exact ⟨List.replicate 8 0, rfl, rfl, fun x hx => by rw [List.eq_of_mem_replicate hx]; decide⟩
    · cases (show some ((100 : Nat), (8 : Nat), ((-2147483648) : Int), (2147483647 : Int)) = some (t, n, lo, hi) from e)
      exact ⟨List.replicate 8 0, rfl, rfl, fun x hx => by rw [List.eq_of_mem_replicate hx]; decide⟩
    · cases (show some ((100 : Nat), (8 : Nat), ((-2147483648) : Int), (2147483647 : Int)) = some (t, n, lo, hi) from e)
      exact ⟨List.replicate 8 0, rfl, rfl, fun x hx => by rw [List.eq_of_mem_replicate hx]; decide⟩
    · cases (show some ((100 : Nat), (8 : Nat), ((-2147483648) : Int), (2147483647 : Int)) = some (t, n, lo, hi) from e)
      exact ⟨List.replicate 8 0, rfl, rfl, fun x hx => by rw [List.eq_of_mem_replicate hx]; decide⟩
    · cases (show some ((100 : Nat), (8 : Nat), ((-2147483648) : Int), (2147483647 : Int)) = some (t, n, lo, hi) from e)
      exact ⟨List.replicate 8 0, rfl, rfl, fun x hx => by rw [List.eq_of_mem_replicate hx]; decide⟩
    · cases (show some ((100 : Nat), (8 : Nat), ((-2147483648) : Int), (2147483647 : Int)) = some (t, n, lo, hi) from e)
      exact ⟨List.replicate 8 0, rfl, rfl, fun x hx => by rw [List.eq_of_mem_replicate hx]; decide⟩
    · cases (show some ((100 : Nat), (8 : Nat), ((-2147483648) : Int), (2147483647 : Int)) = some (t, n, lo, hi) from e)
      exact ⟨List.replicate 8 0, rfl, rfl, fun x hx => by rw [List.eq_of_mem_replicate hx]; decide⟩
    · cases (show some ((100 : Nat), (8 : Nat), ((-2147483648) : Int), (2147483647 : Int)) = some (t, n, lo, hi) from e)
      exact ⟨List.replicate 8 0, rfl, rfl, fun x hx => by rw [List.eq_of_mem_replicate hx]; decide⟩
    · cases (show some ((100 : Nat), (8 : Nat), ((-2147483648) : Int), (2147483647 : Int)) = some (t, n, lo, hi) from e)
      exact ⟨List.replicate 8 0, rfl, rfl, fun x hx => by rw [List.eq_of_mem_replicate hx]; decide⟩
    · cases (show some ((100 : Nat), (8 : Nat), ((-2147483648) : Int), (2147483647 : Int)) = some (t, n, lo, hi) from e)
      exact ⟨List.replicate 8 0, rfl, rfl, fun x hx => by rw [List.eq_of_mem_replicate hx]; decide⟩
    · cases (show some ((100 : Nat), (8 : Nat), ((-2147483648) : Int), (2147483647 : Int)) = some (t, n, lo, hi) from e)
      exact ⟨List.replicate 8 0, rfl, rfl, fun x hx => by rw [List.eq_of_mem_replicate hx]; decide⟩
    · cases (show some ((100 : Nat), (8 : Nat), ((-2147483648) : Int), (2147483647 : Int)) = some (t, n, lo, hi) from e)
      exact ⟨List.replicate 8 0, rfl, rfl, fun x hx => by rw [List.eq_of_mem_replicate hx]; decide⟩
    · cases (show some ((100 : Nat), (8 : Nat), ((-2147483648) : Int), (2147483647 : Int)) = some (t, n, lo, hi) from e)
      exact ⟨List.replicate 8 0, rfl, rfl, fun x hx => by rw [List.eq_of_mem_replicate hx]; decide⟩
    · cases (show some ((100 : Nat), (8 : Nat), ((-2147483648) : Int), (2147483647 : Int)) = some (t, n, lo, hi) from e)
      exact ⟨List.replicate 8 0, rfl, rfl, fun x hx => by rw [List.eq_of_mem_replicate hx]; decide⟩
    · cases (show some ((100 : Nat), (8 : Nat), ((-2147483648) : Int), (2147483647 : Int)) = some (t, n, lo, hi) from e)
      exact ⟨List.replicate 8 0, rfl, rfl, fun x hx => by rw [List.eq_of_mem_replicate hx]; decide⟩
    · cases (show some ((100 : Nat), (8 : Nat), ((-2147483648) : Int), (2147483647 : Int)) = some (t, n, lo, hi) from e)
      exact ⟨List.replicate 8 0, rfl, rfl, fun x hx => by rw [List.eq_of_mem_replicate hx]; decide⟩
    · cases (show some ((100 : Nat), (8 : Nat), ((-2147483648) : Int), (2147483647 : Int)) = some (t, n, lo, hi) from e)
      exact ⟨List.replicate 8 0, rfl, rfl, fun x hx => by rw [List.eq_of_mem_replicate hx]; decide⟩
    · cases (show some ((100 : Nat), (8 : Nat), ((-2147483648) : Int), (2147483647 : Int)) = some (t, n, lo, hi) from e)
      exact ⟨List.replicate 8 0, rfl, rfl, fun x hx => by rw [List.eq_of_mem_replicate hx]; decide⟩
    · cases (show some ((100 : Nat), (8 : Nat), ((-2147483648) : Int), (2147483647 : Int)) = some (t, n, lo, hi) from e)
      exact ⟨List.replicate 8 0, rfl, rfl, fun x hx => by rw [List.eq_of_mem_replicate hx]; decide⟩
    · cases (show some ((100 : Nat), (8 : Nat), ((-2147483648) : Int), (2147483647 : Int)) = some (t, n, lo, hi) from e)
      exact ⟨List.replicate 8 0, rfl, rfl, fun x hx => by rw [List.eq_of_mem_replicate hx]; decide⟩
    · cases (show some ((100 : Nat), (20 : Nat), ((-2147483648) : Int), (2147483647 : Int)) = some (t, n, lo, hi) from e)
      exact ⟨List.replicate 20 0, rfl, rfl, fun x hx => by rw [List.eq_of_mem_replicate hx]; decide⟩
    · cases (show some ((100 : Nat), (20 : Nat), ((-2147483648) : Int), (2147483647 : Int)) = some (t, n, lo, hi) from e)
      exact ⟨List.replicate 20 0, rfl, rfl, fun x hx => by rw [List.eq_of_mem_replicate hx]; decide⟩
    · cases (show some ((100 : Nat), (16 : Nat), (0 : Int), (19 : Int)) = some (t, n, lo, hi) from e)
      exact ⟨List.replicate 16 0, rfl, rfl, fun x hx => by rw [List.eq_of_mem_replicate hx]; decide⟩
    · cases (show some ((100 : Nat), (2 : Nat), (0 : Int), (2 : Int)) = some (t, n, lo, hi) from e)
      exact ⟨List.replicate 2 0, rfl, rfl, fun x hx => by rw [List.eq_of_mem_replicate hx]; decide⟩
    · cases (show some ((101 : Nat), (128 : Nat), (0 : Int), (1 : Int)) = some (t, n, lo, hi) from e)
      exact ⟨List.replicate 128 0, rfl, rfl, fun x hx => by rw [List.eq_of_mem_replicate hx]; decide⟩
    · cases (show some ((101 : Nat), (128 : Nat), (0 : Int), (1 : Int)) = some (t, n, lo, hi) from e)
      exact ⟨List.replicate 128 0, rfl, rfl, fun x hx => by rw [List.eq_of_mem_replicate hx]; decide⟩
  · refine ⟨fun _ => none, fun j hj => ?_⟩
    have hj : j < 3 := hj
    refine ⟨show 73 ≤ 73 + j by omega, ?_, fun q z => (by cases z), fun i hi ne => ⟨show 73 + i ≠ 73 + j by omega, fun q z => (by cases z)⟩⟩
    rcases (show j = 0 ∨ j = 1 ∨ j = 2 by omega) with rfl | rfl | rfl
    · exact ⟨[], ⟨0, rfl, rfl⟩, rfl, fun e he => (by cases he)⟩
    · exact ⟨[], ⟨0, rfl, rfl⟩, rfl, fun e he => (by cases he)⟩
    · exact ⟨[], ⟨0, rfl, rfl⟩, rfl, fun e he => (by cases he)⟩
  · show ((Int8.ofInt 8).toInt32).toInt + (Int32.ofInt 5).toInt = (l.length : Int)
    rw [hl]
    decide
theorem m_110 : zMs xs 20 110 [.ref 44] (zx s a [(7, (zcf 7).map (fun q => zdf q.2))]) nc ns (fun o => ∃ n lg' h' nc' ns', o = (.inl none, h', nc', ns') ∧ zHI (zgI s a n) lg' h' ∧ h'[76]? = some (zar (zcol 8 5)) ∧ nc' ≤ nc + 120 ∧ ns' ≤ ns + 5000) := by
  refine ⟨_, rfl, ?_⟩
  refine zEs_run 2 (h' := zx s a ((7, [.int 0, .int 0, .int 0, .null, .int 0, .int 0, .int 0, .int 0, .int 0, .int 0, .int 0, .int 0, .int 0, .int 0, .int 0, .int 0, .null, .null, .null, .null, .null, .null, .null, .null, .null, .null]) :: [])) rfl ?_
  refine zEs_run 3 (h' := zx s a ((7, [.int 0, .int (Int8.ofInt 8).toInt32, .int 0, .null, .int 0, .int 0, .int 0, .int 0, .int 0, .int 0, .int 0, .int 0, .int 0, .int 0, .int 0, .int 0, .null, .null, .null, .null, .null, .null, .null, .null, .null, .null]) :: [])) rfl ?_
  refine zEs_run 3 (h' := zx s a ((7, [.int 0, .int (Int8.ofInt 8).toInt32, .int (Int32.ofInt 5), .null, .int 0, .int 0, .int 0, .int 0, .int 0, .int 0, .int 0, .int 0, .int 0, .int 0, .int 0, .int 0, .null, .null, .null, .null, .null, .null, .null, .null, .null, .null]) :: [])) rfl ?_
  refine zEs_run 4 (h' := zx s a ((7, [.int 0, .int (Int8.ofInt 8).toInt32, .int (Int32.ofInt 5), .ref 45, .int 0, .int 0, .int 0, .int 0, .int 0, .int 0, .int 0, .int 0, .int 0, .int 0, .int 0, .int 0, .null, .null, .null, .null, .null, .null, .null, .null, .null, .null]) :: [(100, [])])) rfl ?_
  refine zEs_run 3 (h' := zx s a ((7, [.int 0, .int (Int8.ofInt 8).toInt32, .int (Int32.ofInt 5), .ref 45, .int 0, .int (Int8.ofInt 16).toInt32, .int 0, .int 0, .int 0, .int 0, .int 0, .int 0, .int 0, .int 0, .int 0, .int 0, .null, .null, .null, .null, .null, .null, .null, .null, .null, .null]) :: [(100, [])])) rfl ?_
  refine zEs_run 3 (h' := zx s a ((7, [.int 0, .int (Int8.ofInt 8).toInt32, .int (Int32.ofInt 5), .ref 45, .int 0, .int (Int8.ofInt 16).toInt32, .int (Int8.ofInt 20).toInt32, .int 0, .int 0, .int 0, .int 0, .int 0, .int 0, .int 0, .int 0, .int 0, .null, .null, .null, .null, .null, .null, .null, .null, .null, .null]) :: [(100, [])])) rfl ?_
  refine zEs_run 3 (h' := zx s a ((7, [.int 0, .int (Int8.ofInt 8).toInt32, .int (Int32.ofInt 5), .ref 45, .int 0, .int (Int8.ofInt 16).toInt32, .int (Int8.ofInt 20).toInt32, .int 0, .int 0, .int 0, .int 0, .int (Int32.ofInt (-1)), .int 0, .int 0, .int 0, .int 0, .null, .null, .null, .null, .null, .null, .null, .null, .null, .null]) :: [(100, [])])) rfl ?_
  refine zEs_run 5 (h' := zx s a ((7, [.int 0, .int (Int8.ofInt 8).toInt32, .int (Int32.ofInt 5), .ref 45, .int 0, .int (Int8.ofInt 16).toInt32, .int (Int8.ofInt 20).toInt32, .int 0, .int 0, .int 0, .int 0, .int (Int32.ofInt (-1)), .int 0, .int 0, .int 0, .int 0, .ref 46, .null, .null, .null, .null, .null, .null, .null, .null, .null]) :: [(100, []), (104, (List.range 20).map (fun j => .ref (47 + j))), (100, List.replicate 8 (.int 0)), (100, List.replicate 8 (.int 0)), (100, List.replicate 8 (.int 0)), (100, List.replicate 8 (.int 0)), (100, List.replicate 8 (.int 0)), (100, List.replicate 8 (.int 0)), (100, List.replicate 8 (.int 0)), (100, List.replicate 8 (.int 0)), (100, List.replicate 8 (.int 0)), (100, List.replicate 8 (.int 0)), (100, List.replicate 8 (.int 0)), (100, List.replicate 8 (.int 0)), (100, List.replicate 8 (.int 0)), (100, List.replicate 8 (.int 0)), (100, List.replicate 8 (.int 0)), (100, List.replicate 8 (.int 0)), (100, List.replicate 8 (.int 0)), (100, List.replicate 8 (.int 0)), (100, List.replicate 8 (.int 0)), (100, List.replicate 8 (.int 0))])) rfl ?_
  refine zEs_run 4 (h' := zx s a ((7, [.int 0, .int (Int8.ofInt 8).toInt32, .int (Int32.ofInt 5), .ref 45, .int 0, .int (Int8.ofInt 16).toInt32, .int (Int8.ofInt 20).toInt32, .int 0, .int 0, .int 0, .int 0, .int (Int32.ofInt (-1)), .int 0, .int 0, .int 0, .int 0, .ref 46, .ref 67, .null, .null, .null, .null, .null, .null, .null, .null]) :: [(100, []), (104, (List.range 20).map (fun j => .ref (47 + j))), (100, List.replicate 8 (.int 0)), (100, List.replicate 8 (.int 0)), (100, List.replicate 8 (.int 0)), (100, List.replicate 8 (.int 0)), (100, List.replicate 8 (.int 0)), (100, List.replicate 8 (.int 0)), (100, List.replicate 8 (.int 0)), (100, List.replicate 8 (.int 0)), (100, List.replicate 8 (.int 0)), (100, List.replicate 8 (.int 0)), (100, List.replicate 8 (.int 0)), (100, List.replicate 8 (.int 0)), (100, List.replicate 8 (.int 0)), (100, List.replicate 8 (.int 0)), (100, List.replicate 8 (.int 0)), (100, List.replicate 8 (.int 0)), (100, List.replicate 8 (.int 0)), (100, List.replicate 8 (.int 0)), (100, List.replicate 8 (.int 0)), (100, List.replicate 8 (.int 0)), (100, List.replicate 20 (.int 0))])) rfl ?_
  refine zEs_run 4 (h' := zx s a ((7, [.int 0, .int (Int8.ofInt 8).toInt32, .int (Int32.ofInt 5), .ref 45, .int 0, .int (Int8.ofInt 16).toInt32, .int (Int8.ofInt 20).toInt32, .int 0, .int 0, .int 0, .int 0, .int (Int32.ofInt (-1)), .int 0, .int 0, .int 0, .int 0, .ref 46, .ref 67, .ref 68, .null, .null, .null, .null, .null, .null, .null]) :: [(100, []), (104, (List.range 20).map (fun j => .ref (47 + j))), (100, List.replicate 8 (.int 0)), (100, List.replicate 8 (.int 0)), (100, List.replicate 8 (.int 0)), (100, List.replicate 8 (.int 0)), (100, List.replicate 8 (.int 0)), (100, List.replicate 8 (.int 0)), (100, List.replicate 8 (.int 0)), (100, List.replicate 8 (.int 0)), (100, List.replicate 8 (.int 0)), (100, List.replicate 8 (.int 0)), (100, List.replicate 8 (.int 0)), (100, List.replicate 8 (.int 0)), (100, List.replicate 8 (.int 0)), (100, List.replicate 8 (.int 0)), (100, List.replicate 8 (.int 0)), (100, List.replicate 8 (.int 0)), (100, List.replicate 8 (.int 0)), (100, List.replicate 8 (.int 0)), (100, List.replicate 8 (.int 0)), (100, List.replicate 8 (.int 0)), (100, List.replicate 20 (.int 0)), (100, List.replicate 20 (.int 0))])) rfl ?_
  refine zEs_run 4 (h' := zx s a ((7, [.int 0, .int (Int8.ofInt 8).toInt32, .int (Int32.ofInt 5), .ref 45, .int 0, .int (Int8.ofInt 16).toInt32, .int (Int8.ofInt 20).toInt32, .int 0, .int 0, .int 0, .int 0, .int (Int32.ofInt (-1)), .int 0, .int 0, .int 0, .int 0, .ref 46, .ref 67, .ref 68, .ref 69, .null, .null, .null, .null, .null, .null]) :: [(100, []), (104, (List.range 20).map (fun j => .ref (47 + j))), (100, List.replicate 8 (.int 0)), (100, List.replicate 8 (.int 0)), (100, List.replicate 8 (.int 0)), (100, List.replicate 8 (.int 0)), (100, List.replicate 8 (.int 0)), (100, List.replicate 8 (.int 0)), (100, List.replicate 8 (.int 0)), (100, List.replicate 8 (.int 0)), (100, List.replicate 8 (.int 0)), (100, List.replicate 8 (.int 0)), (100, List.replicate 8 (.int 0)), (100, List.replicate 8 (.int 0)), (100, List.replicate 8 (.int 0)), (100, List.replicate 8 (.int 0)), (100, List.replicate 8 (.int 0)), (100, List.replicate 8 (.int 0)), (100, List.replicate 8 (.int 0)), (100, List.replicate 8 (.int 0)), (100, List.replicate 8 (.int 0)), (100, List.replicate 8 (.int 0)), (100, List.replicate 20 (.int 0)), (100, List.replicate 20 (.int 0)), (100, List.replicate 16 (.int 0))])) rfl ?_
  refine zEs_run 4 (h' := zx s a ((7, [.int 0, .int (Int8.ofInt 8).toInt32, .int (Int32.ofInt 5), .ref 45, .int 0, .int (Int8.ofInt 16).toInt32, .int (Int8.ofInt 20).toInt32, .int 0, .int 0, .int 0, .int 0, .int (Int32.ofInt (-1)), .int 0, .int 0, .int 0, .int 0, .ref 46, .ref 67, .ref 68, .ref 69, .ref 70, .null, .null, .null, .null, .null]) :: [(100, []), (104, (List.range 20).map (fun j => .ref (47 + j))), (100, List.replicate 8 (.int 0)), (100, List.replicate 8 (.int 0)), (100, List.replicate 8 (.int 0)), (100, List.replicate 8 (.int 0)), (100, List.replicate 8 (.int 0)), (100, List.replicate 8 (.int 0)), (100, List.replicate 8 (.int 0)), (100, List.replicate 8 (.int 0)), (100, List.replicate 8 (.int 0)), (100, List.replicate 8 (.int 0)), (100, List.replicate 8 (.int 0)), (100, List.replicate 8 (.int 0)), (100, List.replicate 8 (.int 0)), (100, List.replicate 8 (.int 0)), (100, List.replicate 8 (.int 0)), (100, List.replicate 8 (.int 0)), (100, List.replicate 8 (.int 0)), (100, List.replicate 8 (.int 0)), (100, List.replicate 8 (.int 0)), (100, List.replicate 8 (.int 0)), (100, List.replicate 20 (.int 0)), (100, List.replicate 20 (.int 0)), (100, List.replicate 16 (.int 0)), (100, List.replicate 2 (.int 0))])) rfl ?_
  refine zEs_run 4 (h' := zx s a ((7, [.int 0, .int (Int8.ofInt 8).toInt32, .int (Int32.ofInt 5), .ref 45, .int 0, .int (Int8.ofInt 16).toInt32, .int (Int8.ofInt 20).toInt32, .int 0, .int 0, .int 0, .int 0, .int (Int32.ofInt (-1)), .int 0, .int 0, .int 0, .int 0, .ref 46, .ref 67, .ref 68, .ref 69, .ref 70, .ref 71, .null, .null, .null, .null]) :: [(100, []), (104, (List.range 20).map (fun j => .ref (47 + j))), (100, List.replicate 8 (.int 0)), (100, List.replicate 8 (.int 0)), (100, List.replicate 8 (.int 0)), (100, List.replicate 8 (.int 0)), (100, List.replicate 8 (.int 0)), (100, List.replicate 8 (.int 0)), (100, List.replicate 8 (.int 0)), (100, List.replicate 8 (.int 0)), (100, List.replicate 8 (.int 0)), (100, List.replicate 8 (.int 0)), (100, List.replicate 8 (.int 0)), (100, List.replicate 8 (.int 0)), (100, List.replicate 8 (.int 0)), (100, List.replicate 8 (.int 0)), (100, List.replicate 8 (.int 0)), (100, List.replicate 8 (.int 0)), (100, List.replicate 8 (.int 0)), (100, List.replicate 8 (.int 0)), (100, List.replicate 8 (.int 0)), (100, List.replicate 8 (.int 0)), (100, List.replicate 20 (.int 0)), (100, List.replicate 20 (.int 0)), (100, List.replicate 16 (.int 0)), (100, List.replicate 2 (.int 0)), (101, List.replicate 128 (.int 0))])) rfl ?_
  refine zEs_run 4 (h' := zx s a ((7, [.int 0, .int (Int8.ofInt 8).toInt32, .int (Int32.ofInt 5), .ref 45, .int 0, .int (Int8.ofInt 16).toInt32, .int (Int8.ofInt 20).toInt32, .int 0, .int 0, .int 0, .int 0, .int (Int32.ofInt (-1)), .int 0, .int 0, .int 0, .int 0, .ref 46, .ref 67, .ref 68, .ref 69, .ref 70, .ref 71, .ref 72, .null, .null, .null]) :: [(100, []), (104, (List.range 20).map (fun j => .ref (47 + j))), (100, List.replicate 8 (.int 0)), (100, List.replicate 8 (.int 0)), (100, List.replicate 8 (.int 0)), (100, List.replicate 8 (.int 0)), (100, List.replicate 8 (.int 0)), (100, List.replicate 8 (.int 0)), (100, List.replicate 8 (.int 0)), (100, List.replicate 8 (.int 0)), (100, List.replicate 8 (.int 0)), (100, List.replicate 8 (.int 0)), (100, List.replicate 8 (.int 0)), (100, List.replicate 8 (.int 0)), (100, List.replicate 8 (.int 0)), (100, List.replicate 8 (.int 0)), (100, List.replicate 8 (.int 0)), (100, List.replicate 8 (.int 0)), (100, List.replicate 8 (.int 0)), (100, List.replicate 8 (.int 0)), (100, List.replicate 8 (.int 0)), (100, List.replicate 8 (.int 0)), (100, List.replicate 20 (.int 0)), (100, List.replicate 20 (.int 0)), (100, List.replicate 16 (.int 0)), (100, List.replicate 2 (.int 0)), (101, List.replicate 128 (.int 0)), (101, List.replicate 128 (.int 0))])) rfl ?_
  refine zEs_run 3 (h' := zx s a (zmT (.ref 45) .null .null .null [(10, [.int 0, .null, .int 0])])) rfl ?_
  refine zEs_callG rfl rfl (m_242 (D := 17) (h := zx s a (zmT (.ref 45) .null .null .null []))) (fun v h9 nc9 ns9 q => ?_) (fun E h9 nc9 ns9 q => by cases q)
  cases q
  refine zEs_run 4 (h' := zx s a (zmT (.ref 45) (.ref 73) .null .null [zli, (10, [.int 0, .null, .int 0])])) rfl ?_
  refine zEs_callG rfl rfl (m_242 (D := 17) (h := zx s a (zmT (.ref 45) (.ref 73) .null .null [zli]))) (fun v h9 nc9 ns9 q => ?_) (fun E h9 nc9 ns9 q => by cases q)
  cases q
  refine zEs_run 4 (h' := zx s a (zmT (.ref 45) (.ref 73) (.ref 74) .null [zli, zli, (10, [.int 0, .null, .int 0])])) rfl ?_
  refine zEs_callG rfl rfl (m_242 (D := 17) (h := zx s a (zmT (.ref 45) (.ref 73) (.ref 74) .null [zli, zli]))) (fun v h9 nc9 ns9 q => ?_) (fun E h9 nc9 ns9 q => by cases q)
  cases q
  refine zEs_run 6 (h' := zx s a (zmT (.ref 45) (.ref 73) (.ref 74) (.ref 75) [zli, zli, zli])) rfl ?_
  refine zEs_callG rfl rfl (zMs_and (zMs_mono (show 2 ≤ 19 by decide) (m_116 (K := Int32.ofNat 8) (R := Int32.ofNat 5) (by decide) (by decide) (by decide) (by decide))) (fun N => r_116 (k := 8) (r := 5) (by decide) (Or.inr (Or.inl rfl)) (zcds_dl (8, 5) (by decide)))) (fun v h9 nc9 ns9 q => ?_) (fun E h9 nc9 ns9 q => by cases q.2)
  replace q := q.2
  cases q
  obtain ⟨l, el⟩ : ∃ l, l = zcol 8 5 := ⟨_, rfl⟩
  have hl : l.length = 13 := by
    rw [el]
    decide +kernel
  rw [← el]
  refine zEs_run 1 (h' := zx s a (zmT (.ref 76) (.ref 73) (.ref 74) (.ref 75) [zli, zli, zli, zar l])) rfl ?_
  refine zregE (cert := ce_ini) (cs := cs_ini) (rt := none) 148 gs_ini rfl (by decide +kernel) (zHI_I hl) ⟨Or.inr ⟨_, rfl, zP_in⟩, Or.inl rfl, Or.inl rfl, trivial⟩ trivial (fun v h' lg' nc' ns' c1 c2 c3 c4 c5 c6 => ?_)
  obtain rfl := (show v = none from c1)
  have hz := c2.sizes
  have t3 : (zcf 10).length = 3 := rfl
  have c5 : nc' + 2 * 0 ≤ nc + 32 + 2 * lg' + 0 := c5
  have c6 : ns' + 100 * 0 ≤ _ + 100 * lg' + 0 := c6
  refine ⟨l.length, lg', h', nc', ns', rfl, c2, c3 76 _ (by decide) (show (zx s a (zmT (.ref 76) (.ref 73) (.ref 74) (.ref 75) [zli, zli, zli, zar l]))[76]? = some (zar l) from rfl) (show ¬ (100 : Nat) = 10 by decide) (show ¬ (100 : Nat) = 103 by decide), by omega, ?_⟩
  have e0 : (Int32.ofInt 0).toNatClampNeg = 0 := by decide
  have e20 : ((Int8.ofInt 20).toInt32).toNatClampNeg = 20 := by decide
  have e16 : ((Int8.ofInt 16).toInt32).toNatClampNeg = 16 := by decide
  have e2 : (Int32.ofInt 2).toNatClampNeg = 2 := by decide
  have e128 : ((Int16.ofInt 128).toInt32).toNatClampNeg = 128 := by decide
  omega
end ZHO
end zg2
