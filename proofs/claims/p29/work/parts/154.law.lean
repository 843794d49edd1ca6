/-! What stands between two calls of the law: the class's object, the reference's, and Out. -/
/-- the class's object tells the code c -/
def zCC (s : Nat → Int32) (a : Nat → List Int32) (c : Nat × Nat) : Prop := zRC s a c.1 c.2 ∧ (a 0).length = 16
theorem zCC_fr {W V : List Nat} {s s' : Nat → Int32} {a a' : Nat → List Int32} {c : Nat × Nat} (hk : 0 ∉ W ∧ 1 ∉ W ∧ 2 ∉ W ∧ 0 ∉ V ∧ 1 ∉ V) (f : zfr W V s a s' a') (k : zCC s a c) : zCC s' a' c := by
  obtain ⟨k0, k1, k2, k3, k4⟩ := hk
  obtain ⟨⟨b1, b2, b3, b4, b5, b6⟩, b7⟩ := k
  refine ⟨⟨b1, (f.1 0 k0).trans b2, (f.1 1 k1).trans b3, (f.1 2 k2).trans b4, ?_, ?_⟩, ?_⟩
  · rw [f.2.1 0 k3]
    exact b5
  · rw [f.2.1 1 k4]
    exact b6
  · rw [f.2.1 0 k3]
    exact b7
theorem zMf_w {g g' : zG} {c2 : Nat × Nat} {h h' : zH} (hf : zfw g' = zfw g) (hl : zLE h h') (k : zMf g c2 h) : zMf g' c2 h' := by
  obtain ⟨k1, k2, k3, q, k4, k5, k6⟩ := k
  exact ⟨k1, (show g'.f 1 = g.f 1 from congrArg (fun p => p.2.1) hf).trans k2, (show g'.f 2 = g.f 2 from congrArg (fun p => p.2.2.1) hf).trans k3, q, (show g'.f 3 = g.f 3 from congrArg (fun p => p.2.2.2) hf).trans k4, k5, hl q _ k5 k6 (show ¬ (100 : Nat) = 10 by decide) (show ¬ (100 : Nat) = 103 by decide)⟩
theorem zMf_k {g g' : zG} {c2 : Nat × Nat} {h h' : zH} (hf : g'.f = g.f) (hl : ∀ (q : Nat) l, 73 ≤ q → h[q]? = some (zar l) → h'[q]? = some (zar l)) (k : zMf g c2 h) : zMf g' c2 h' := by
  obtain ⟨k1, k2, k3, q, k4, k5, k6⟩ := k
  exact ⟨k1, by rw [hf]; exact k2, by rw [hf]; exact k3, q, by rw [hf]; exact k4, k5, hl q _ k5 k6⟩
def zWI (c c2 : Nat × Nat) (q : Nat) (h : zH) : Prop := ∃ (g : zG) (lg : Nat) (vs : List Value), zHI g lg h ∧ zaL g.a ∧ zCC g.s g.a c ∧ zMf g c2 h ∧ (0 ≤ (g.s 4).toInt ∧ (g.s 4).toInt ≤ 2000) ∧ 73 ≤ q ∧ h[q]? = some (6, vs) ∧ vs.length = 3
def zWm (c c2 : Nat × Nat) (q : Nat) (R : Option Value → Prop) (nc ns : Nat) : zO → Prop := fun o => ∃ v h' nc' ns', o = (.inl v, h', nc', ns') ∧ R v ∧ zWI c c2 q h' ∧ nc' ≤ nc + 400 ∧ ns' ≤ ns + 14000
def zWc (c c2 : Nat × Nat) (q : Nat) (R : Option Value → Prop) (Es : List Nat) (nc ns : Nat) : zO → Prop := fun o => (∃ v h' nc' ns', R v ∧ zWI c c2 q h' ∧ nc' ≤ nc + 10 ∧ ns' ≤ ns + 100 ∧ o = (.inl v, h', nc', ns')) ∨ ∃ E h' nc' ns', E ∈ Es ∧ zWI c c2 q h' ∧ nc' ≤ nc + 10 ∧ ns' ≤ ns + 100 ∧ o = (.inr E, h', nc', ns')
section ZW
variable {xs : List Int32} {g : zG} {lg : Nat} {h : zH} {D y nc ns q : Nat} {c c2 : Nat × Nat} {as : List Value} {R : Option Value → Prop} {Es W V : List Nat}
theorem zx_ge {s : Nat → Int32} {a : Nat → List Int32} {T : zH} {j : Nat} (hj : 44 ≤ j) : (zx s a T)[j]? = T[j - 44]? := by
  have e : zx s a T = zx s a [] ++ T := rfl
  have l : (zx s a []).length = 44 := rfl
  rw [e, List.getElem?_append_right (by rw [l]; exact hj), l]
theorem zHI_x (hI : zHI g lg h) : h = zx g.s g.a (h.drop 44) := by
  have e := hI.cls
  have z := List.take_append_drop 44 h
  rw [e] at z
  exact z.symm
/-- the class's cells anew -/
theorem zHI_cl {s s' : Nat → Int32} {a a' : Nat → List Int32} {T : zH} (hI : zHI g lg (zx s a T)) : zHI (s', a', g.2.2) lg (zx s' a' T) := by
  have hk : ∀ j : Nat, 44 ≤ j → (zx s' a' T)[j]? = (zx s a T)[j]? := fun j hj => (zx_ge hj).trans (zx_ge hj).symm
  refine ⟨rfl, ?_, (hk 46 (by decide)).trans hI.outer, fun j t n lo hi e => ?_, ?_, hI.bits, hI.sizes⟩
  · obtain ⟨vs, m1, m2, m3, m4⟩ := hI.obj
    refine ⟨vs, (hk 44 (by decide)).trans m1, m2, fun k hk9 => ?_, m4⟩
    obtain ⟨v, v1, v2⟩ := m3 k hk9
    exact ⟨v, v1, zfs_mo3 (fun _ _ => rfl) rfl (fun j l a b => (hk j (by omega)).trans b) v2⟩
  · obtain ⟨l, p1, p2, p3⟩ := hI.rows j t n lo hi e
    have := zsp_b e
    exact ⟨l, (hk j (by omega)).trans p1, p2, p3⟩
  · obtain ⟨E, k⟩ := hI.lists
    refine ⟨E, fun j hj => ?_⟩
    obtain ⟨k1, k2, k3, k4⟩ := k j hj
    exact ⟨k1, zLi_cg (fun i hi => hk i (by omega)) k2 k1 k3, k3, k4⟩
theorem zWI_x (hW : zWI c c2 q h) : ∃ (s : Nat → Int32) (a : Nat → List Int32) (T : zH), h = zx s a T ∧ zaL a ∧ zCC s a c ∧ (0 ≤ (s 4).toInt ∧ (s 4).toInt ≤ 2000) ∧ (∀ (s' : Nat → Int32) (a' : Nat → List Int32) (c' : Nat × Nat), zaL a' → (0 ≤ (s' 4).toInt ∧ (s' 4).toInt ≤ 2000) → zCC s' a' c' → zWI c' c2 q (zx s' a' T)) ∧ ∀ U : zH, zWI c c2 q (zx s a T ++ U) := by
  obtain ⟨g, lg, vs, hI, h1, h2, h3, h4, h5, h6, h7⟩ := hW
  have e := zHI_x hI
  refine ⟨g.s, g.a, h.drop 44, e, h1, h2, h4, fun s' a' c' k1 k2 k3 => ?_, fun U => ?_⟩
  · rw [e] at hI
    have hj : ∀ j : Nat, 73 ≤ j → (zx s' a' (h.drop 44))[j]? = h[j]? := fun j hj => by
      rw [zx_ge (by omega), ← zx_ge (s := g.s) (a := g.a) (by omega), ← e]
    refine ⟨_, lg, vs, zHI_cl hI, k1, k3, zMf_k rfl (fun j l w1 w2 => (hj j w1).trans w2) h3, k2, h5, ?_, h7⟩
    exact (hj q h5).trans h6
  · rw [← e]
    exact ⟨g, lg, vs, (zHI_mv hI (zapp_mv U)).1, h1, h2, zMf_k rfl (fun j l _ w => zapp_mv U _ _ w) h3, h4, h5, zapp_mv U _ _ h6, h7⟩
theorem zKr (hW : zWI c c2 q h) (k : ∀ (s : Nat → Int32) (a : Nat → List Int32) (T : zH), zaL a → (0 ≤ (s 4).toInt ∧ (s 4).toInt ≤ 2000) → zMs xs D y as (zx s a T) nc ns (zPr R Es (zx s a T) nc ns)) : zMs xs D y as h nc ns (zWc c c2 q R Es nc ns) := by
  obtain ⟨s, a, T, rfl, h1, h2, h3, -, -⟩ := zWI_x hW
  refine zMs_post (fun o ho => ?_) (k s a T h1 h3)
  rcases ho with ⟨v, hv, rfl⟩ | ⟨E, hE, rfl⟩
  · exact Or.inl ⟨v, _, _, _, hv, hW, by omega, by omega, rfl⟩
  · exact Or.inr ⟨E, _, _, _, hE, hW, by omega, by omega, rfl⟩
theorem zKo (hW : zWI c c2 q h) (h18 : 0 ∉ W ∧ 1 ∉ W ∧ 2 ∉ W ∧ 0 ∉ V ∧ 1 ∉ V) (h4 : 4 ∉ W) (k : ∀ (s : Nat → Int32) (a : Nat → List Int32) (T : zH), zaL a → (0 ≤ (s 4).toInt ∧ (s 4).toInt ≤ 2000) → zMs xs D y as (zx s a T) nc ns (zPo R Es W V s a T nc ns)) : zMs xs D y as h nc ns (zWc c c2 q R Es nc ns) := by
  obtain ⟨s, a, T, rfl, h1, h2, h3, K, -⟩ := zWI_x hW
  refine zMs_post (fun o ho => ?_) (k s a T h1 h3)
  rcases ho with ⟨v, s', a', hv, hf, rfl⟩ | ⟨E, hE, rfl⟩
  · have := K s' a' c hf.2.2 (by rw [hf.1 4 h4]; exact h3) (zCC_fr h18 hf h2)
    exact Or.inl ⟨v, _, _, _, hv, this, by omega, by omega, rfl⟩
  · exact Or.inr ⟨E, _, _, _, hE, hW, by omega, by omega, rfl⟩
theorem zKt (hW : zWI c c2 q h) (h18 : 0 ∉ W ∧ 1 ∉ W ∧ 2 ∉ W ∧ 0 ∉ V ∧ 1 ∉ V) (k : ∀ (s : Nat → Int32) (a : Nat → List Int32) (T : zH), zaL a → (0 ≤ (s 4).toInt ∧ (s 4).toInt ≤ 2000) → zMs xs D y as (zx s a T) nc ns (zPt Es W V s a T nc ns)) : zMs xs D y as h nc ns (zWc c c2 q zRi Es nc ns) := by
  obtain ⟨s, a, T, rfl, h1, h2, h3, K, -⟩ := zWI_x hW
  refine zMs_post (fun o ho => ?_) (k s a T h1 h3)
  rcases ho with ⟨v, s', a', hv, hf, ht, rfl⟩ | ⟨E, hE, rfl⟩
  · have := K s' a' c hf.2.2 ht (zCC_fr h18 hf h2)
    exact Or.inl ⟨v, _, _, _, hv, this, by omega, by omega, rfl⟩
  · exact Or.inr ⟨E, _, _, _, hE, hW, by omega, by omega, rfl⟩
theorem zKa (hW : zWI c c2 q h) (k : ∀ (s : Nat → Int32) (a : Nat → List Int32) (T : zH), zaL a → zMs xs D y as (zx s a T) nc ns (zPa R Es (zx s a T) nc ns)) : zMs xs D y as h nc ns (zWc c c2 q R Es nc ns) := by
  obtain ⟨s, a, T, rfl, h1, h2, h3, -, K⟩ := zWI_x hW
  refine zMs_post (fun o ho => ?_) (k s a T h1)
  rcases ho with ⟨v, U, nc', ns', hv, b1, b2, rfl⟩ | ⟨E, hE, rfl⟩
  · exact Or.inl ⟨v, _, _, _, hv, K U, b1, b2, rfl⟩
  · exact Or.inr ⟨E, _, _, _, hE, hW, by omega, by omega, rfl⟩
theorem zWI_0 (hW : zWI c c2 q h) : ∃ ws, h[0]? = some (5, ws) := by
  obtain ⟨s, a, T, rfl, -⟩ := zWI_x hW
  exact ⟨_, rfl⟩
theorem zWI_q (hW : zWI c c2 q h) : ∃ vs : List Value, h[q]? = some (6, vs) ∧ vs.length = 3 := by
  obtain ⟨g, lg, vs, hI, h1, h2, h3, h4, h5, h6, h7⟩ := hW
  exact ⟨vs, h6, h7⟩
theorem zWI_44 (hW : zWI c c2 q h) : ∃ ws, h[44]? = some (7, ws) := by
  obtain ⟨g, lg, vs, hI, -⟩ := hW
  exact zth hI
/-- Out's cell changes -/
theorem zWI_put {vs' : List Value} (hW : zWI c c2 q h) (hv : vs'.length = 3) : zWI c c2 q (h.set q (6, vs')) := by
  obtain ⟨g, lg, vs, hI, h1, h2, h3, h4, h5, h6, h7⟩ := hW
  have hk : ∀ (j : Nat) d, h[j]? = some d → d.1 ≠ 6 → (h.set q (6, vs'))[j]? = some d := fun j d e ne => by
    rw [List.getElem?_set_ne (fun z => by
      subst z
      rw [h6] at e
      cases e
      exact ne rfl)]
    exact e
  have hl : ∀ j : Nat, j < 73 → (h.set q (6, vs'))[j]? = h[j]? := fun j hj => List.getElem?_set_ne (by omega)
  refine ⟨g, lg, vs', ⟨(ztake_set (by omega)).trans hI.cls, ?_, (hl 46 (by decide)).trans hI.outer, fun j t n lo hi e => ?_, ?_, hI.bits, hI.sizes⟩, h1, h2, zMf_k rfl (fun j l _ w => hk j _ w (show (100 : Nat) ≠ 6 by decide)) h3, h4, h5, List.getElem?_set_self (List.getElem?_eq_some_iff.mp h6).1, hv⟩
  · obtain ⟨ws, m1, m2, m3, m4⟩ := hI.obj
    refine ⟨ws, (hl 44 (by decide)).trans m1, m2, fun k hk9 => ?_, m4⟩
    obtain ⟨v, v1, v2⟩ := m3 k hk9
    exact ⟨v, v1, zfs_mo3 (fun _ _ => rfl) rfl (fun j l a b => hk j _ b (show (100 : Nat) ≠ 6 by decide)) v2⟩
  · obtain ⟨l, p1, p2, p3⟩ := hI.rows j t n lo hi e
    have := zsp_b e
    exact ⟨l, (hl j (by omega)).trans p1, p2, p3⟩
  · obtain ⟨E, k⟩ := hI.lists
    refine ⟨E, fun j hj => ?_⟩
    obtain ⟨k1, ⟨es, ⟨m, z1⟩, z2, z3⟩, k3, k4⟩ := k j hj
    refine ⟨k1, ⟨es, ⟨m, ?_⟩, z2, fun e he => ?_⟩, k3, k4⟩
    · cases hE : E j with
      | none =>
        rw [hE] at z1
        exact ⟨z1.1, hk _ _ z1.2 (show (10 : Nat) ≠ 6 by decide)⟩
      | some d =>
        rw [hE] at z1
        obtain ⟨ws, a1, a2, a3⟩ := z1
        exact ⟨ws, hk _ _ a1 (show (10 : Nat) ≠ 6 by decide), hk _ _ a2 (show (103 : Nat) ≠ 6 by decide), a3⟩
    · obtain ⟨a, l, b, d⟩ := z3 e he
      exact ⟨a, l, hk _ _ b (show (100 : Nat) ≠ 6 by decide), d⟩
/-- the reference's methods, as the law sees them -/
theorem zWm_q {ct : zCt} {R : Option Value → Prop} (k : zGq xs ct) (hc : ct.dc ≤ 400) (hs : ct.ds ≤ 14000) (hR : ∀ g lg h v, zgo2 g lg h [] ct.rt v → R v) (hW : zWI c c2 q h) (ha : ∀ g lg h, zgs g lg h [] ct.as as) : zMs xs ct.dep ct.y as h nc ns (zWm c c2 q R nc ns) := by
  obtain ⟨g, lg, vs, hI, h1, h2, h3, h4, h5, h6, h7⟩ := hW
  refine zMs_post (fun o ho => ?_) (k g lg h nc ns as hI (ha g lg h))
  obtain ⟨v, g', lg', h', nc', ns', rfl, b1, b2, b3, b4, b5, b6, b7, b8⟩ := ho
  refine ⟨v, h', nc', ns', rfl, hR _ _ _ _ b1, ⟨g', lg', vs, b2, by rw [b5]; exact h1, by rw [b4, b5]; exact h2, zMf_w b6 b3 h3, by rw [b4]; exact h4, h5, b3 q _ h5 h6 (show ¬ (6 : Nat) = 10 by decide) (show ¬ (6 : Nat) = 103 by decide), h7⟩, by omega, by omega⟩
theorem zRi_of {a b : Int} (g : zG) (lg : Nat) (h : zH) (v : Option Value) (k : zgo2 g lg h [] (some ((.inl (a, b, 0, 0)))) v) : zRi v := by
  obtain ⟨w, rfl, x, rfl, -⟩ := k
  exact ⟨x, rfl⟩
def zRd (v : Option Value) : Prop := ∃ x : UInt64, v = some (.double x)
theorem zRd_of (g : zG) (lg : Nat) (h : zH) (v : Option Value) (k : zgo2 g lg h [] (some (.inr (.inr (.inr 4)))) v) : zRd v := by
  obtain ⟨w, rfl, x, rfl⟩ := k
  exact ⟨x, rfl⟩
theorem zRj_of (g : zG) (lg : Nat) (h : zH) (v : Option Value) (k : zgo2 g lg h [] (some (.inr (.inr (.inr 1)))) v) : zRj v := by
  obtain ⟨w, rfl, x, rfl⟩ := k
  exact ⟨x, rfl⟩
def zRs (v : Option Value) : Prop := v = some (.retAddr 3) ∨ ∃ q : Nat, v = some (.ref q)
theorem zWm_tell {x1 x2 : Int32} (hW : zWI c c2 q h) : zMs xs 20 175 [.ref 44, .int x1, .int x2] h nc ns (zWm c c2 q zRs nc ns) := by
  obtain ⟨g, lg, vs, hI, h1, h2, h3, h4, h5, h6, h7⟩ := hW
  refine zMs_post (fun o ho => ?_) (q_175 hI)
  obtain ⟨v, g', lg', h', nc', ns', rfl, b1, b2, b3, b4, b5, b6, b7, b8⟩ := ho
  exact ⟨v, h', nc', ns', rfl, b1, ⟨g', lg', vs, b2, by rw [b5]; exact h1, by rw [b4, b5]; exact h2, zMf_w b6 b3 h3, by rw [b4]; exact h4, h5, b3 q _ h5 h6 (show ¬ (6 : Nat) = 10 by decide) (show ¬ (6 : Nat) = 103 by decide), h7⟩, by omega, by omega⟩
/-- call, of the class and of the reference -/
theorem zWm_call (hW : zWI c c2 q h) : zMs xs (D + 0) 152 [.ref 44] h nc ns (fun o => ∃ (v : Int32) (h' : zH), o = (.inl (some (.int v)), h', nc, ns) ∧ zWI c c2 q h') := by
  obtain ⟨g, lg, vs, hI, h1, h2, h3, h4, h5, h6, h7⟩ := hW
  obtain ⟨ws, m1, m2, m3, m4⟩ := hI.obj
  obtain ⟨x, e13, -, -⟩ := zf_int m3 (k := 13) (by decide) rfl
  have hc : g.f 13 = .int x := Option.some.inj ((m4 13 (by decide)).symm.trans e13)
  refine zMs_post (fun o ho => ?_) (m_152 hI hc)
  obtain ⟨h', rfl, b1, b2⟩ := ho
  have h3' : zMf (zsf g 13 (.int (x + 1))) c2 h' := by
    obtain ⟨k1, k2, k3, j, k4, k5, k6⟩ := h3
    exact ⟨k1, k2, k3, j, k4, k5, b2 j _ k5 k6 (show ¬ (100 : Nat) = 10 by decide) (show ¬ (100 : Nat) = 103 by decide)⟩
  exact ⟨_, h', rfl, zsf g 13 (.int (x + 1)), lg, vs, b1, h1, h2, h3', h4, h5, b2 q _ h5 h6 (show ¬ (6 : Nat) = 10 by decide) (show ¬ (6 : Nat) = 103 by decide), h7⟩
theorem zKc (hW : zWI c c2 q h) : zMs xs (D + 0) 65 [.ref 0] h nc ns (fun o => ∃ (v : Int32) (h' : zH), o = (.inl (some (.int v)), h', nc, ns) ∧ zWI c c2 q h') := by
  obtain ⟨s, a, T, rfl, h1, h2, h3, K, -⟩ := zWI_x hW
  refine ⟨_, rfl, zEs_run 8 (h' := zx (zup s 18 (s 18 + 1)) a T) rfl ?_⟩
  have := K (zup s 18 (s 18 + 1)) a c h1 h3 h2
  exact zEs_end rfl rfl ⟨_, _, rfl, this⟩
theorem zts_ln {k r n : Nat} : (zts (zcol k r) n).length = 64 := zts_len _ _
/-- code, of the class and of the reference -/
def zCq (x1 x2 : Int32) (c c' : Nat × Nat) : Prop := zCd x1 x2 ∧ x1 = Int32.ofNat c'.1 ∧ x2 = Int32.ofNat c'.2 ∨ ¬ zCd x1 x2 ∧ c' = c
theorem zKcd {x1 x2 : Int32} (hW : zWI c c2 q h) : zMs xs 8 53 [.ref 0, .int x1, .int x2] h nc ns (fun o => ∃ c' : Nat × Nat, zCq x1 x2 c c' ∧ ((∃ (v : Int32) (h' : zH), o = (.inl (some (.int v)), h', nc, ns) ∧ zWI c' c2 q h') ∨ o = (.inr 0, h, nc + 1, ns + 6) ∧ zWI c' c2 q h)) := by
  have hW0 := hW
  obtain ⟨s, a, T, rfl, h1, h2, h3, K, -⟩ := zWI_x hW
  have l1 : (a 1).length = 64 := by
    rw [h2.1.2.2.2.2.2]
    exact zts_ln
  refine zMs_post (fun o ho => ?_) (zMs_and (zMs_mono (show _ ≤ 8 by decide) (k_53 (D := 0) h1)) (fun N => p_53 h1 h2.2 l1))
  obtain ⟨ho, hp⟩ := ho
  rcases hp with ⟨nr, rfl⟩ | ⟨hC, k, r, s', a', rfl, rfl, hR, l0, ea, es, rfl⟩
  · exact ⟨c, Or.inr ⟨nr, rfl⟩, Or.inr ⟨rfl, hW0⟩⟩
  · exact ⟨(k, r), Or.inl ⟨hC, rfl, rfl⟩, Or.inl ⟨_, _, rfl, K s' a' (k, r) ea (by rw [es]; exact h3) ⟨hR, l0⟩⟩⟩
theorem zWm_code {x1 x2 : Int32} (hW : zWI c c2 q h) : zMs xs 40 139 [.ref 44, .int x1, .int x2] h nc ns (fun o => ∃ (v : Int32) (h' : zH) (nc' ns' : Nat) (c' : Nat × Nat), o = (.inl (some (.int v)), h', nc', ns') ∧ zCq x1 x2 c2 c' ∧ zWI c c' q h' ∧ nc' ≤ nc + 400 ∧ ns' ≤ ns + 14000) := by
  obtain ⟨g, lg, vs, hI, h1, h2, h3, h4, h5, h6, h7⟩ := hW
  refine zMs_post (fun o ho => ?_) (zMs_mono (show 30 ≤ 40 by decide) (m_139 hI))
  obtain ⟨v, g', lg', h', nc', ns', rfl, b1, b2, b3, b4, b5, b6, b7⟩ := ho
  have w1 : zaL g'.a := by rw [b4]; exact h1
  have w2 : zCC g'.s g'.a c := by rw [b3, b4]; exact h2
  have w4 : 0 ≤ (g'.s 4).toInt ∧ (g'.s 4).toInt ≤ 2000 := by rw [b3]; exact h4
  have w6 := b2 q _ h5 h6 (show ¬ (6 : Nat) = 10 by decide) (show ¬ (6 : Nat) = 103 by decide)
  rcases b7 with ⟨nr, e⟩ | ⟨hC, k, r, rfl, rfl, M⟩
  · exact ⟨v, h', nc', ns', c2, rfl, Or.inr ⟨nr, rfl⟩, ⟨g', lg', vs, b1, w1, w2, zMf_w e b2 h3, w4, h5, w6, h7⟩, by omega, by omega⟩
  · exact ⟨v, h', nc', ns', (k, r), rfl, Or.inl ⟨hC, rfl, rfl⟩, ⟨g', lg', vs, b1, w1, w2, M, w4, h5, w6, h7⟩, by omega, by omega⟩
theorem zCq_e {x1 x2 : Int32} {c' c3 : Nat × Nat} (hb : ∀ p ∈ zcds, p.1 ≤ 10 ∧ p.2 ≤ 6) (m1 : c' ∈ zcds) (m2 : c3 ∈ zcds) (a : zCq x1 x2 c c') (b : zCq x1 x2 c c3) : c' = c3 := by
  rcases a with ⟨a1, a2, a3⟩ | ⟨a1, rfl⟩ <;> rcases b with ⟨b1, b2, b3⟩ | ⟨b1, rfl⟩
  · have p1 := hb _ m1
    have p2 := hb _ m2
    have e1 := congrArg Int32.toInt (a2.symm.trans b2)
    have e2 := congrArg Int32.toInt (a3.symm.trans b3)
    rw [zofI (by omega), zofI (by omega)] at e1 e2
    exact Prod.ext (by omega) (by omega)
  · exact absurd a1 b1
  · exact absurd b1 a1
  · rfl
theorem zWI_m1 (hW : zWI c c2 q h) : c ∈ zcds ∧ c2 ∈ zcds := by
  obtain ⟨g, lg, vs, hI, h1, h2, h3, -⟩ := hW
  exact ⟨h2.1.1, h3.1⟩
end ZW
