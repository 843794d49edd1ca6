/-! Rows of the JDK's methods: rows of references, rows of rows, copies, casts, comparisons of references, classes. -/
theorem zcpt {α : Type} {vs ws : List α} {n j : Nat} (h : n ≤ vs.length) : (vs.take n ++ ws.drop n)[j]? = if j < n then vs[j]? else ws[j]? := by
  have hl : (vs.take n).length = n := by rw [List.length_take]; omega
  by_cases q : j < n
  · rw [if_pos q, List.getElem?_append_left (by omega), List.getElem?_take, if_pos q]
  · rw [if_neg q, List.getElem?_append_right (by omega), hl, List.getElem?_drop]
    congr 1
    omega
section ZJ
variable {p : Program} {l : Launch} {e : Env} {R : Room} {s : State} {m : MethodId} {args : Array Value} {below : List Frame} {meth : Method} {c : Code} {H : Heap} {locs : List Loc} {cells slots : Nat} {Q : State → Prop}
variable {xs : List Int32} {sp : Nat → Nat} {ty : Nat → ClassId} {D : va_G} {A : Nat → Prop} {ads : List Nat} {nL : Nat} {H0 : Heap}
variable {y pc nx pc' dc ds k tg : Nat} {L L' : zL} {st st' str : List Value} {h h' : zH} {ls : Array Slot}
theorem z_chk (hk : 100 ≤ k) (hs : zchk k nx L st h = some (.inl (pc', L', st', h', dc, ds))) (I : zR sp ty D A H0 nL ads L st h ls str H locs) (kk : zKK p l e R s m args below meth c cells slots Q sp ty D A H0 nL ads pc' L' st' h' dc ds)
    (row : ∀ (ws : va_W) (q0 a : Nat) (x : vp_A) (r : List Value), va_P D zcl ws H → ws[q0]? = some (a, .inl (ty (k - 100), x)) → W p l e R s m args below meth c H locs cells slots Q (F0 m nx ls (.ref a :: r)) → W p l e R s m args below meth c H locs cells slots Q (F0 m pc ls (.ref a :: r))) : W p l e R s m args below meth c H locs cells slots Q (F0 m pc ls str) := by
  obtain ⟨I1, I2, I3⟩ := I
  unfold zchk at hs
  split at hs
  · next a r =>
    split at hs
    · next t vs ha =>
      split at hs
      · next ht =>
        subst ht
        obtain ⟨_, _, rfl, hw, hr⟩ := I2
        obtain ⟨ws, b, e, rfl, w0, w1, w2, w3, -⟩ := z_W I3 ha hw
        rcases w2 with ⟨h1, -⟩ | ⟨h1, f, rfl, -⟩ | ⟨h1, f, rfl, -⟩
        · exact absurd h1 (by dsimp only; omega)
        · exact row ws _ b _ _ w3 w1 (zgo_kk hs kk I1 ⟨_, _, rfl, hw, hr⟩ I3)
        · exact row ws _ b _ _ w3 w1 (zgo_kk hs kk I1 ⟨_, _, rfl, hw, hr⟩ I3)
      · cases hs
    · cases hs
  · cases hs
theorem z_acmp {q : ACond} {off : Int} (hx : p.tables.exec = Jvm.exec) (hb : c.code = zmb y) (hdg : decode (zmb y) pc = .ok (.if_acmp q off, 3)) (hnx : nx = pc + 3) (ht : (pc : Int) + off = (tg : Int)) (hs : zacmp q tg nx L st h = some (.inl (pc', L', st', h', dc, ds))) (I : zR sp ty D A H0 nL ads L st h ls str H locs) (kk : zKK p l e R s m args below meth c cells slots Q sp ty D A H0 nL ads pc' L' st' h' dc ds) : W p l e R s m args below meth c H locs cells slots Q (F0 m pc ls str) := by
  obtain ⟨I1, I2, I3⟩ := I
  unfold zacmp at hs
  split at hs
  · next b a r =>
    split at hs
    · next hab =>
      subst hab
      subst hnx
      obtain ⟨_, _, rfl, ⟨-, rfl⟩, _, _, rfl, ⟨-, rfl⟩, hr⟩ := I2
      cases q with
      | eq => exact lv_acmp_eq (rx := some (sp a)) (ry := some (sp a)) hx hb hdg ht (fun _ => zgo_kk hs kk I1 hr I3) (fun z => absurd rfl z)
      | ne => exact lv_acmp_ne (rx := some (sp a)) (ry := some (sp a)) hx hb hdg ht (fun z => absurd rfl z) (fun _ => zgo_kk hs kk I1 hr I3)
    · cases hs
  · cases hs
theorem z_getc {j : Nat} (hX : zX xs sp ty D A y p R s m args meth c) (hdg : decode (zmb y) pc = .ok (.invokevirtual j, 3)) (hnx : nx = pc + 3) (hl : (Cond.methodLink (zon (zmo y)) j ⟨"java/lang/Object", "getClass", "()Ljava/lang/Class;"⟩) ∈ zB) (hlsz : c.maxLocals = ls.size) (hs : zgetc nx L st h = some (.inl (pc', L', st', h', dc, ds))) (I : zR sp ty D A H0 nL ads L st h ls str H locs) (kk : zKK p l e R s m args below meth c cells slots Q sp ty D A H0 nL ads pc' L' st' h' dc ds) : W p l e R s m args below meth c H locs cells slots Q (F0 m pc ls str) := by
  obtain ⟨hx, hb, hml, hret, hlk, hown, hnm, hts, hK, hA, hSP, hRf, hRl⟩ := hX
  have hdc := hSP.2.2.2.2.1
  have hMi := hSP.2.2.2.2.2.2.2.2.2.2.1
  obtain ⟨I1, I2, I3⟩ := I
  unfold zgetc at hs
  split at hs
  · next a r =>
    split at hs
    · next t vs ha =>
      split at hs
      · next ht =>
        obtain ⟨rfl, hcs⟩ := ht
        subst hnx
        obtain ⟨_, _, rfl, hw, hr⟩ := I2
        obtain ⟨ws, b, e, rfl, w0, w1, w2, w3, -⟩ := z_W I3 ha hw
        obtain ⟨f, rfl, -⟩ := z_arq (Or.inl rfl) w2
        obtain ⟨_, _, _, _, _, g2⟩ := (hK.2 3 _ rfl).2
        exact va_getC hx hb hlsz hown (hts _ hl) (va_Nw.use rfl (hdc _ (by decide +kernel))) (hts _ zj_gc2) (hts _ zj_gc3) (hts _ zj_gc4) hMi ⟨_, w3 _ _ w1, rfl, g2⟩ (by omega) (by rw [zS_cs hr]; omega) hdg (zgo_kk hs kk I1 ⟨_, _, rfl, ⟨by decide, rfl⟩, hr⟩ I3)
      · cases hs
    · cases hs
  · cases hs
theorem z_any {ws : va_W} {k b n : Nat} {f : Nat → Int32} (hK : va_K D zcl (ztys ty) s) (hC : ∀ w ∈ zN2, va_Nw w s) (w1 : va_P D zcl ws H) (g : ws[k]? = some (b, .inl (ty 0, n, .inl f))) : va_Any "java/lang/Object" s H b := by
  have h1 : H[b]? = some (vp_cell (ty 0) (n, .inl f)) := w1 k _ g
  obtain ⟨c1, t1, e1, e2, e3⟩ := Cond.castable_spec (va_Nw.use (A := #[]) rfl (hC (.castable "[I" "java/lang/Object") (by decide +kernel)))
  have e4 : s.vm.findClass "[I" = some (ty 0) := (hK.2 0 _ rfl).2
  cases Option.some.inj (e1.symm.trans e4)
  obtain ⟨kC, hkC, -⟩ := Vm.findClass_spec e1
  refine ⟨_, h1, rfl, ⟨kC, hkC⟩, fun comp hc => ?_⟩
  cases Option.some.inj (hc.symm.trans e2)
  exact e3
theorem z_newq {j : Nat} (hX : zX xs sp ty D A y p R s m args meth c) (hdg : decode (zmb y) pc = .ok (.anewarray j, 3)) (hnx : nx = pc + 3) (hl : (Cond.classLink (zon (zmo y)) j "java/lang/Object") ∈ zB) (hs : znewa 103 .null nx L st h = some (.inl (pc', L', st', h', dc, ds))) (I : zR sp ty D A s.heap nL ads L st h ls str H locs)
    (hcl : cells + dc ≤ R.cells) (hsl : slots + ds ≤ R.slots) (kk : zKK p l e R s m args below meth c cells slots Q sp ty D A s.heap nL ads pc' L' st' h' dc ds) : W p l e R s m args below meth c H locs cells slots Q (F0 m pc ls str) := by
  obtain ⟨hx, hb, hml, hret, hlk, hown, hnm, hts, hK, hA, hSP, -⟩ := hX
  have hAO := hSP.2.2.2.2.2.2.2.2.2.2.2.1
  obtain ⟨I1, I2, ws, w1, w2, w3, w4, w5, w6⟩ := I
  unfold znewa at hs
  split at hs
  · next n r =>
    split at hs
    · cases hs
    · next hn =>
      split at hs
      · next hN =>
        split at hs
        · next e9 => exact absurd e9 (by decide)
        · obtain ⟨_, r9, rfl, hv, hr⟩ := I2
          cases (show _ = Value.int _ from hv)
          cases hs
          subst hnx
          refine va_newq hx hb hown (hts _ hl) hAO hK w1 w2 w3 hA hn rfl (Nat.le_trans (Nat.mul_le_mul_right 4 hN) (by decide)) hcl hsl hdg (fun q cA H1 k1 k2 k3 k4 => ?_)
          have hcA : cA = ty 3 := by
            obtain ⟨_, _, _, _, _, g1⟩ := (k1.2 5 _ rfl).2
            obtain ⟨_, _, _, _, _, g2⟩ := (hK.2 3 _ rfl).2
            exact Option.some.inj (g1.symm.trans g2)
          subst hcA
          refine kk [q] ls (.ref q :: r9) H1 locs ⟨zLR_mono _ I1, ⟨_, _, rfl, ⟨q, ?_, rfl⟩, zS_mono _ hr⟩, z_Wapp (wn := [(q, .inl (ty 3, n.toNatClampNeg, .inr (.inr (.inr (.inr (fun _ => none))))))]) w4 w5 w6 rfl (fun k c q2 h1 h2 => ?_) k2 k3 k4⟩
          · have : ads.length = h.length := by rw [← w4, List.length_map, w5]
            rw [← this, List.getElem?_append_right (Nat.le_refl _), Nat.sub_self]
            rfl
          · cases k with
            | zero =>
              cases h1; cases h2
              refine Or.inr (Or.inr ⟨Or.inl rfl, fun _ => none, by simp, fun j x hj => ?_⟩)
              rw [List.eq_of_mem_replicate (List.mem_of_getElem? hj)]
              exact rfl
            | succ k => simp at h1
      · cases hs
  · cases hs
theorem z_copy {j : Nat} (hX : zX xs sp ty D A y p R s m args meth c) (hdg : decode (zmb y) pc = .ok (.invokestatic j, 3)) (hnx : nx = pc + 3) (hl : (Cond.methodLink (zon (zmo y)) j arraycopyName) ∈ zB) (hlsz : c.maxLocals = ls.size) (hs : zcopy nx L st h = some (.inl (pc', L', st', h', dc, ds))) (I : zR sp ty D A H0 nL ads L st h ls str H locs)
    (kk : zKK p l e R s m args below meth c cells slots Q sp ty D A H0 nL ads pc' L' st' h' dc ds) : W p l e R s m args below meth c H locs cells slots Q (F0 m pc ls str) := by
  obtain ⟨hx, hb, hml, hret, hlk, hown, hnm, hts, hK, hA, hSP, hRf, hRl⟩ := hX
  have hC := hSP.2.2.2.2.1
  obtain ⟨I1, I2, I3⟩ := I
  have z0 : (0 : Int32).toNatClampNeg = 0 := by decide
  have nw : nativeFrameWords "java/lang/System" "arraycopy" 5 + 11 ≤ 300 := by decide +kernel
  unfold zcopy at hs
  split at hs
  · next n dp d sp9 a r =>
    split at hs
    · next t vs t' ws9 ha hd9 =>
      split at hs
      · next g =>
        obtain ⟨rfl, hk, hcs, hn, rfl, rfl, hvl, hwl⟩ := g
        subst hnx
        obtain ⟨_, _, rfl, hv1, _, _, rfl, hv2, _, _, rfl, hv3, _, _, rfl, hv4, _, _, rfl, hv5, hr⟩ := I2
        cases (show _ = Value.int _ from hv1); cases (show _ = Value.int _ from hv2); cases (show _ = Value.int _ from hv4)
        obtain ⟨ws, b, e, rfl, w0, w1, w2, w3, w4, w5, w6, w7, w8⟩ := z_W I3 ha hv5
        obtain ⟨a2, hb2, rfl⟩ := hv3
        have hld : d < ws.length := by rw [← w7]; exact (List.getElem?_eq_some_iff.mp hd9).1
        obtain ⟨⟨q2, e2⟩, hq2⟩ : ∃ q, ws[d]? = some q := ⟨_, List.getElem?_eq_getElem hld⟩
        have e9 : ads[d]? = some q2 := by rw [← w6, List.getElem?_map, hq2]; rfl
        cases Option.some.inj (hb2.symm.trans e9)
        have hz2 := w8 d _ _ hd9 hq2
        have hlen : (vs.take n.toNatClampNeg ++ ws9.drop n.toNatClampNeg).length = ws9.length := by simp; omega
        rcases hk with ⟨rfl, hal⟩ | ⟨rfl, hal⟩
        · obtain ⟨f, rfl, hf⟩ := z_arr (Or.inr (Or.inr rfl)) w2
          obtain ⟨g, rfl, hg⟩ := z_arr (Or.inr (Or.inr rfl)) hz2
          refine va_copyi hx hb hlsz hown (hts _ hl) (hts _ zj_cp2) (hts _ zj_cp3) (hts _ zj_cp4) hK w3 w4 w5 _ d 2 2 w1 hq2 rfl rfl rfl (by decide) (by decide) hn (by rw [z0]; omega) (by rw [z0]; omega) (fun i hi => ?_) (by omega) (by rw [zS_cs hr]; omega) hdg (fun H1 locs1 g1 g2 g3 => ?_)
          · rw [z0, Nat.zero_add]
            obtain ⟨x, hx9⟩ : ∃ x, vs[i]? = some x := ⟨_, List.getElem?_eq_getElem (by omega)⟩
            have hm : x ∈ vs.take n.toNatClampNeg := List.mem_of_getElem? (i := i) (by rw [List.getElem?_take, if_pos hi]; exact hx9)
            have hx8 := List.all_eq_true.mp hal x hm
            rw [hf i x hx9] at hx8
            obtain ⟨h1, h2⟩ := of_decide_eq_true hx8
            simp [fits, h1, h2]
          · rw [z0] at g1 g2
            refine zgo_kk hs kk I1 hr (z_Wset w6 w7 w8 hq2 (Or.inr (Or.inl ⟨Or.inr (Or.inr rfl), va_cpy f g 0 0 n.toNatClampNeg, by dsimp only; rw [hlen], fun j x hj => ?_⟩)) g1 g2 g3)
            dsimp only at hj
            rw [zcpt hvl] at hj
            unfold va_cpy
            split at hj
            · next q => rw [hf j x hj, if_pos ⟨Nat.zero_le _, by omega⟩, Nat.zero_add, Nat.sub_zero]
            · next q => rw [hg j x hj, if_neg (by omega)]
        · obtain ⟨f, rfl, hf⟩ := z_arq (Or.inl rfl) w2
          obtain ⟨g, rfl, hg⟩ := z_arq (Or.inl rfl) hz2
          refine va_copyM hx hb hlsz hown (hts _ hl) (hts _ zj_cp2) (hts _ zj_cp3) (hts _ zj_cp4) hK w3 w4 w5 _ d 3 3 w1 hq2 rfl rfl (by decide) (by decide) hn (by rw [z0]; omega) (by rw [z0]; omega) (fun i hi y9 hy9 => ?_) (by omega) (by rw [zS_cs hr]; omega) hdg (fun H1 locs1 g1 g2 g3 => ?_)
          · rw [z0, Nat.zero_add] at hy9
            obtain ⟨x, hx9⟩ : ∃ x, vs[i]? = some x := ⟨_, List.getElem?_eq_getElem (by omega)⟩
            have hm : x ∈ vs.take n.toNatClampNeg := List.mem_of_getElem? (i := i) (by rw [List.getElem?_take, if_pos hi]; exact hx9)
            have hx8 := List.all_eq_true.mp hal x hm
            have hx7 := hf i x hx9
            rw [hy9] at hx7
            unfold zelt at hx8
            split at hx8
            · next k9 =>
              split at hx8
              · next t9 vs9 hc9 =>
                cases of_decide_eq_true hx8
                obtain ⟨a9, ha9, hb9⟩ := hx7
                cases (show Value.ref y9 = Value.ref a9 from hb9)
                have hl9 : k9 < ws.length := by rw [← w7]; exact (List.getElem?_eq_some_iff.mp hc9).1
                obtain ⟨⟨q9, e8⟩, hq9⟩ : ∃ q, ws[k9]? = some q := ⟨_, List.getElem?_eq_getElem hl9⟩
                have e7 : ads[k9]? = some q9 := by rw [← w6, List.getElem?_map, hq9]; rfl
                cases Option.some.inj (ha9.symm.trans e7)
                obtain ⟨f9, rfl, -⟩ := z_arr (Or.inl rfl) (w8 k9 _ _ hc9 hq9)
                exact z_any hK hC w3 hq9
              · cases hx8
            · cases (show Value.ref y9 = Value.null from hx7)
            · cases hx8
          · rw [z0] at g1 g2
            refine zgo_kk hs kk I1 hr (z_Wset w6 w7 w8 hq2 (Or.inr (Or.inr ⟨Or.inl rfl, va_cpy f g 0 0 n.toNatClampNeg, by dsimp only; rw [hlen], fun j x hj => ?_⟩)) g1 g2 g3)
            dsimp only at hj
            rw [zcpt hvl] at hj
            unfold va_cpy
            split at hj
            · next q =>
              rw [if_pos ⟨Nat.zero_le _, by omega⟩, Nat.zero_add, Nat.sub_zero]
              exact hf j x hj
            · next q =>
              rw [if_neg (by omega)]
              exact hg j x hj
      · cases hs
    · cases hs
  · cases hs
theorem z_multi {j : Nat} (hX : zX xs sp ty D A y p R s m args meth c) (hdg : decode (zmb y) pc = .ok (.multianewarray j 2, 4)) (hnx : nx = pc + 4) (hl : (Cond.classLink (zon (zmo y)) j "[[I") ∈ zB) (hs : zmulti nx L st h = some (.inl (pc', L', st', h', dc, ds))) (I : zR sp ty D A s.heap nL ads L st h ls str H locs)
    (hcl : cells + dc ≤ R.cells) (hsl : slots + ds ≤ R.slots) (kk : zKK p l e R s m args below meth c cells slots Q sp ty D A s.heap nL ads pc' L' st' h' dc ds) : W p l e R s m args below meth c H locs cells slots Q (F0 m pc ls str) := by
  obtain ⟨hx, hb, hml, hret, hlk, hown, hnm, hts, hK, hA, hSP, -⟩ := hX
  have hAA := hSP.2.2.2.2.2.2.2.2.2.2.2.2.2
  obtain ⟨I1, I2, ws, w1, w2, w3, w4, w5, w6⟩ := I
  unfold zmulti at hs
  split at hs
  · next k n r =>
    split at hs
    · next g =>
      obtain ⟨rfl, rfl⟩ := g
      obtain ⟨_, _, rfl, hv1, _, r9, rfl, hv2, hr⟩ := I2
      cases (show _ = Value.int _ from hv1); cases (show _ = Value.int _ from hv2)
      cases hs
      subst hnx
      have z8 : (8 : Int32).toNatClampNeg = 8 := by decide
      have z20 : (20 : Int32).toNatClampNeg = 20 := by decide
      refine va_mna (X := ws) (L := []) (f := fun _ => .inl (ty 0, 8, .inl (fun _ => 0))) (cy := ty 0) (ty := .int) (z := (8, .inl (fun _ => 0))) hx hb hown (hts _ hl) hAA (hts _ zAi) (hK.2 0 _ rfl).2 hK (by rw [show va_pl [] _ = [] from rfl, List.append_nil]; exact w1) (by rw [show va_pl [] _ = [] from rfl, List.append_nil]; exact w2) w3 hA (by decide) (by decide) z20 z8 (by decide) (by decide) (by decide) (by decide) (by decide) (by omega) (by omega) (fun c => ?_) hdg (fun q r8 cA H1 k1 k2 k3 k4 k5 k6 => ?_)
      · show ({ cls := c, slots := Array.replicate 8 (.int 0), vm := .none } : Cell) = _
        rw [arrV_new]
        rfl
      · have hcA : cA = ty 4 := Option.some.inj ((k3.2 5 _ rfl).2.symm.trans (hK.2 4 _ rfl).2)
        subst hcA
        have e1 : va_pl ([] ++ (List.range 20).map r8) (vr_up (fun _ => .inl (ty 0, 8, .inl (fun _ => 0))) ((List.range 20).map r8) (.inl (ty 0, 8, .inl (fun _ => 0)))) = ((List.range 20).map r8).map (fun a => (a, .inl (ty 0, 8, .inl (fun _ => 0)))) := (vr_rows (L := []) (l := (List.range 20).map r8) (f := fun _ => .inl (ty 0, 8, .inl (fun _ => 0))) (fun a _ z => by cases z)).symm
        rw [e1, List.append_assoc] at k4 k5
        have hal : ads.length = h.length := by rw [← w4, List.length_map, w5]
        have hwn : ∃ wn : va_W, wn = [(q, .inl (ty 4, 20, .inr (.inr (.inr (.inr (fun i => if i < 20 then some (r8 i) else none))))))] ++ ((List.range 20).map r8).map (fun a => ((a, .inl (ty 0, 8, .inl (fun _ => 0))) : Nat × va_E)) := ⟨_, rfl⟩
        obtain ⟨wn, hwn⟩ := hwn
        rw [← hwn] at k4 k5
        have kk9 := kk (wn.map (fun q => q.1)) ls (.ref q :: r9) H1 locs ⟨zLR_mono _ I1, ⟨_, _, rfl, ⟨q, ?_, rfl⟩, zS_mono _ hr⟩, z_Wapp w4 w5 w6 (by rw [hwn]; simp) (fun k c q2 h1 h2 => ?_) k4 k5 k6⟩
        · rw [show cells + 1 + 20 = cells + 21 by omega, show slots + 20 + 20 * 8 = slots + 180 by omega]
          exact kk9
        · rw [← hal, List.getElem?_append_right (Nat.le_refl _), Nat.sub_self, hwn]
          rfl
        · rw [hwn] at h2 ⊢
          cases k with
          | zero =>
            cases h1; cases h2
            refine Or.inr (Or.inr ⟨Or.inr rfl, fun i => if i < 20 then some (r8 i) else none, by simp, fun j x hj => ?_⟩)
            dsimp only at hj
            rw [List.getElem?_map] at hj
            by_cases h9 : j < 20
            · rw [List.getElem?_range h9] at hj
              cases hj
              dsimp only
              rw [if_pos h9]
              refine ⟨r8 j, ?_, rfl⟩
              rw [← hal, List.getElem?_append_right (by omega), show ads.length + 1 + j - ads.length = j + 1 by omega]
              simp [h9]
            · rw [List.getElem?_eq_none (by rw [List.length_range]; omega)] at hj
              cases hj
          | succ k =>
            have h1 : (List.replicate 20 ((100 : Nat), List.replicate 8 (Value.int 0)))[k]? = some c := h1
            have h2 : (((List.range 20).map r8).map (fun a => ((a, .inl (ty 0, 8, .inl (fun _ => 0))) : Nat × va_E)))[k]? = some q2 := h2
            rw [List.eq_of_mem_replicate (List.mem_of_getElem? h1)]
            obtain ⟨a9, -, rfl⟩ := List.mem_map.mp (List.mem_of_getElem? h2)
            refine Or.inr (Or.inl ⟨Or.inl rfl, fun _ => 0, by simp, fun j x hj => ?_⟩)
            exact (List.eq_of_mem_replicate (List.mem_of_getElem? hj))
    · cases hs
  · cases hs
end ZJ
