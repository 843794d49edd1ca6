/-! Two objects of the class side by side. -/
section ZTW
variable {xs : List Int32} {D D' Y nc ns : Nat} {as : List Value} {A B C S S' : zSt} {T : zH} {r : Option Value} {R : Option Value ⊕ Nat} {Es W V : List Nat}
def zrho (k : Nat) : Nat := k + 44
def zmv (h : zH) : zH := h.map (zrc zrho)
def zw (A B : zSt) : zH := zx A.1 A.2 (zmv (zx B.1 B.2 []))
theorem zx_ap {s : Nat → Int32} {a : Nat → List Int32} {T : zH} : zx s a T = zx s a [] ++ T := rfl
theorem zx_ln {s : Nat → Int32} {a : Nat → List Int32} : (zx s a []).length = 44 := rfl
theorem zw_ln : (zw A B).length = 88 := by
  unfold zw zmv
  rw [zx_ap, List.length_append, List.length_map, zx_ln, zx_ln]
theorem zw_R : zrh zrho (zx B.1 B.2 []) (zw A B) := by
  refine ⟨fun k c e => ?_, fun k => ?_, fun i j e => Nat.add_right_cancel e⟩
  · have l : (zx A.1 A.2 []).length ≤ k + 44 := Nat.le_add_left 44 k
    show (zx A.1 A.2 (zmv (zx B.1 B.2 [])))[k + 44]? = _
    rw [zx_ap (s := A.1) (a := A.2) (T := zmv (zx B.1 B.2 [])), List.getElem?_append_right l, zx_ln, Nat.add_sub_cancel]
    unfold zmv
    rw [List.getElem?_map, e]
    rfl
  · show (zx B.1 B.2 []).length + k + 44 = (zw A B).length + k
    rw [zw_ln, zx_ln]
    omega
theorem zw_F : zrfr zrho (zw A B) (zw A C) := by
  refine ⟨Nat.le_of_eq (zw_ln.trans zw_ln.symm), fun j hj ne => ?_⟩
  have h44 : j < 44 := by
    refine Nat.lt_of_not_le (fun z => ne (j - 44) ?_)
    show j - 44 + 44 = j
    omega
  have l : j < (zx A.1 A.2 []).length := h44
  unfold zw
  rw [zx_ap (s := A.1) (a := A.2) (T := zmv (zx C.1 C.2 [])), zx_ap (s := A.1) (a := A.2) (T := zmv (zx B.1 B.2 [])), List.getElem?_append_left l, List.getElem?_append_left l]
/-- what a call answers, and what becomes of its object, whatever lies behind it -/
def zJC (xs : List Int32) (D Y : Nat) (as : List Value) (S : zSt) (r : Option Value) (S' : zSt) : Prop := ∀ (T : zH) (nc ns : Nat), zMs xs D Y (.ref 0 :: as) (zx S.1 S.2 T) nc ns (fun o => o = (.inl r, zx S'.1 S'.2 T, nc, ns))
theorem zJ_mo (hD : D ≤ D') (g : zJC xs D Y as S r S') : zJC xs D' Y as S r S' := fun T nc ns => zMs_mono hD (g T nc ns)
theorem zJ_1 (g : zJC xs D Y as S r S') : zMs xs D Y (.ref 0 :: as) (zw S B) nc ns (fun o => o = (.inl r, zw S' B, nc, ns)) := g _ _ _
theorem zJ_2 (g : zJC xs D Y as S r S') (hy : Y ∈ zrOK) (ha : zrs zrho as = as) (hr : r.map (zrnv zrho) = r) : zMs xs D Y (.ref 44 :: as) (zw A S) nc ns (fun o => o = (.inl r, zw A S', nc, ns)) := by
  have k := zrn_M zrOK_ok hy (zw_R (A := A) (B := S)) (g [] nc ns)
  have e : zrs zrho (.ref 0 :: as) = .ref 44 :: as := congrArg (Value.ref 44 :: ·) ha
  rw [e] at k
  refine zMs_post (fun o' w => ?_) k
  obtain ⟨o, rfl, e1, R, F, e2⟩ := w
  obtain ⟨r1, h1, n1, n2⟩ := o'
  have f1 : r1 = .inl (r.map (zrnv zrho)) := e1
  have f3 : h1 = zw A S' := zrn_un (zw_R (A := A) (B := S)) R (zw_R (A := A) (B := S')) F zw_F
  have f2 : (n1, n2) = (nc, ns) := e2
  show (r1, h1, n1, n2) = _
  rw [f1, f3, hr, f2]
/-- safe and exact, joined -/
def zsP (Es : List Nat) (nc ns : Nat) (o : zO) : Prop := (∃ u h, o = (.inl u, h, nc, ns)) ∨ ∃ E h n1 n2, E ∈ Es ∧ o = (.inr E, h, n1, n2)
theorem zsP_o {Q : Option Value → Prop} {s : Nat → Int32} {a : Nat → List Int32} (T : zH) (nc ns : Nat) (o : zO) (w : zPo Q Es W V s a T nc ns o) : zsP Es nc ns o := by
  rcases w with ⟨u, s', a', _, _, rfl⟩ | ⟨E, hE, rfl⟩
  · exact Or.inl ⟨u, _, rfl⟩
  · exact Or.inr ⟨E, _, _, _, hE, rfl⟩
theorem zsP_t {s : Nat → Int32} {a : Nat → List Int32} (T : zH) (nc ns : Nat) (o : zO) (w : zPt Es W V s a T nc ns o) : zsP Es nc ns o := by
  rcases w with ⟨u, s', a', _, _, _, rfl⟩ | ⟨E, hE, rfl⟩
  · exact Or.inl ⟨u, _, rfl⟩
  · exact Or.inr ⟨E, _, _, _, hE, rfl⟩
theorem zJ_g {P1 : zH → Nat → Nat → zO → Prop} (g : ∀ (T : zH) (nc ns : Nat), zMs xs D Y (.ref 0 :: as) (zx S.1 S.2 T) nc ns (P1 T nc ns)) (hP : ∀ (T : zH) (nc ns : Nat) (o : zO), P1 T nc ns o → zsP Es nc ns o) (k : ∀ (T : zH) (nc ns N : Nat), zpM xs N Y (.ref 0 :: as) (zx S.1 S.2 T) nc ns (zOq R (zx S'.1 S'.2 T))) (hR : R = .inl r ∨ ∃ E, R = .inr E ∧ E ∉ Es) : zJC xs D Y as S r S' := fun T nc ns => zMs_post (fun o w => by
  obtain ⟨w1, w2, w3⟩ := w
  rcases hP T nc ns o w1 with ⟨u, h, rfl⟩ | ⟨E, h, n1, n2, hE, rfl⟩
  · have u2 : Sum.inl u = R := w2
    have u3 : h = zx S'.1 S'.2 T := w3
    rcases hR with z | ⟨E, z, _⟩
    · show (Sum.inl u, h, nc, ns) = _
      rw [u3, u2, z]
    · rw [z] at u2
      cases u2
  · have u2 : Sum.inr E = R := w2
    rcases hR with z | ⟨E', z, n⟩
    · rw [z] at u2
      cases u2
    · rw [z] at u2
      have u4 : E = E' := Sum.inr.inj u2
      exact absurd (u4 ▸ hE) n) (zMs_and (g T nc ns) (k T nc ns))
theorem zJ_q {Q : Option Value → Prop} {h' : zH → zH} (g : ∀ (T : zH) (nc ns : Nat), zMs xs D Y (.ref 0 :: as) (zx S.1 S.2 T) nc ns (zPr Q [] (zx S.1 S.2 T) nc ns)) (k : ∀ (T : zH) (nc ns N : Nat), zpM xs N Y (.ref 0 :: as) (zx S.1 S.2 T) nc ns (zOq R (h' T))) (hR : R = .inl r ∨ ∃ E, R = .inr E) : zJC xs D Y as S r S := fun T nc ns => zMs_post (fun o w => by
  obtain ⟨w1, w2, w3⟩ := w
  rcases w1 with ⟨u, _, rfl⟩ | ⟨E, hE, rfl⟩
  · have u2 : Sum.inl u = R := w2
    rcases hR with z | ⟨E, z⟩
    · show (Sum.inl u, zx S.1 S.2 T, nc, ns) = _
      rw [u2, z]
    · rw [z] at u2
      cases u2
  · cases hE) (zMs_and (g T nc ns) (k T nc ns))
theorem zAn_ok {v t : Int32} {kc : Nat → Int32} (h : zAn R v t kc) (t0 : t = 0) (hk : ∀ E ∈ Es, ¬ kc E = 0) : R = .inl (some (.int v)) ∨ ∃ E, R = .inr E ∧ E ∉ Es := by
  rcases h with ⟨x, e, ev, _⟩ | ⟨E, e, et⟩
  · exact Or.inl (by rw [e, ev])
  · exact Or.inr ⟨E, e, fun z => hk E z (et.symm.trans t0)⟩
theorem zAn_nx {v t : Int32} {kc : Nat → Int32} (h : zAn R v t kc) : R = .inl (some (.int v)) ∨ ∃ E, R = .inr E := by
  rcases h with ⟨x, e, ev, _⟩ | ⟨E, e, et⟩
  · exact Or.inl (by rw [e, ev])
  · exact Or.inr ⟨E, e⟩
theorem zAn_em {v t : Int32} {kc : Nat → Int32} (h : zAn R v t kc) : R = .inl (some (.int v)) ∨ ∃ E, R = .inr E ∧ E ∉ ([] : List Nat) := (zAn_nx h).imp id (fun ⟨E, e⟩ => ⟨E, e, List.not_mem_nil⟩)
end ZTW
/-! The calls of one object, told by the state of the model. -/
section ZJM
variable {xs : List Int32} {D Y : Nat} {as : List Value} {S S' : zSt} {M M' : zRt} {v : Value} {x1 x2 x3 x4 x5 : Int32}
def zIy (S : zSt) (M : zRt) : Prop := zaL S.2 ∧ zZ S M
theorem zIy_t (h : zIy S M) : 0 ≤ (S.1 4).toInt ∧ (S.1 4).toInt ≤ 2000 := h.2.1.2.2
theorem zIy_t5 (h : zIy S M) : 0 ≤ (S.1 4).toInt ∧ (S.1 4).toInt ≤ 5000 := ⟨(zIy_t h).1, by have := (zIy_t h).2; omega⟩
theorem zIy_79 (h : zIy S M) : zIy (F79 x1 S) M := ⟨ln_F79 h.1, zZ_fr fr_F79 (gm_rf (W := []) (V := []) (Y := [])) (by decide) (by decide) (by decide) (by decide) (by decide) (by decide) h.2⟩
def zJM (xs : List Int32) (Y : Nat) (as : List Value) (M : zRt) (v : Value) (M' : zRt) : Prop := ∀ S, zIy S M → ∃ S', zIy S' M' ∧ zJC xs 6 Y as S (some v) S'
theorem zm_54 (t0 : (r140 x1 x2 M).1 0 = 0) : zJM xs 54 [.int x1, .int x2] M (.int (v140 x1 x2 M)) (r140 x1 x2 M) := fun S h =>
  ⟨F54 x1 x2 S, ⟨ln_F54 h.1, zZ_54 h.2⟩, zJ_mo (D := 0 + 6) (by decide) (zJ_g (fun T nc ns => k_54 (D := 0) h.1) zsP_o (fun T nc ns N => e_54 h.1) (zAn_ok (zM_54 h.2.2.2).2 t0 (by decide)))⟩
theorem zm_55 (t0 : (r141 x1 M).1 0 = 0) : zJM xs 55 [.int x1] M (.int (v141 x1 M)) (r141 x1 M) := fun S h =>
  ⟨F55 x1 S, ⟨ln_F55 h.1, zZ_55 h.2⟩, zJ_mo (D := 0 + 6) (by decide) (zJ_g (fun T nc ns => k_55 (D := 0) h.1) zsP_o (fun T nc ns N => e_55 h.1) (zAn_ok (zM_55 h.2.2.2).2 t0 (by decide)))⟩
theorem zm_56 (t0 : (r142 x1 x2 M).1 0 = 0) : zJM xs 56 [.int x1, .int x2] M (.int (v142 x1 x2 M)) (r142 x1 x2 M) := fun S h =>
  ⟨F56 x1 x2 S, ⟨ln_F56 h.1, zZ_56 h.2⟩, zJ_mo (D := 0 + 4) (by decide) (zJ_g (fun T nc ns => k_56 (D := 0) h.1) zsP_o (fun T nc ns N => e_56 h.1) (zAn_ok (zM_56 h.2.2.2).2 t0 (by decide)))⟩
theorem zm_57 (t0 : (r143 x1 x2 x3 M).1 0 = 0) : zJM xs 57 [.int x1, .int x2, .int x3] M (.int (v143 x1 x2 x3 M)) (r143 x1 x2 x3 M) := fun S h =>
  ⟨F57 x1 x2 x3 S, ⟨ln_F57 h.1, zZ_57 h.2⟩, zJ_mo (D := 0 + 4) (by decide) (zJ_g (fun T nc ns => k_57 (D := 0) h.1) zsP_o (fun T nc ns N => e_57 h.1) (zAn_ok (R := R57 x1 x2 x3 S) (v := v143 x1 x2 x3 M) (t := (r143 x1 x2 x3 M).1 0) (kc := kc_193) (zM_57 h.2.2.2.1.2.1 h.2.2.2.1.2.2).2 t0 (by decide)))⟩
theorem zm_58 (t0 : (r144 x1 x2 x3 M).1 0 = 0) : zJM xs 58 [.int x1, .int x2, .int x3] M (.int (v144 x1 x2 x3 M)) (r144 x1 x2 x3 M) := fun S h =>
  ⟨F58 x1 x2 x3 S, ⟨ln_F58 h.1, zZ_58 h.2⟩, zJ_mo (D := 0 + 3) (by decide) (zJ_g (fun T nc ns => k_58 (D := 0) h.1) zsP_o (fun T nc ns N => e_58 h.1) (zAn_ok (R := R58 x1 x2 x3 S) (v := v144 x1 x2 x3 M) (t := (r144 x1 x2 x3 M).1 0) (kc := kc_194) (zM_58 h.2.2.2.1.2.1 h.2.2.2.1.2.2).2 t0 (by decide)))⟩
theorem zm_59 (t0 : (r145 x1 x2 x3 M).1 0 = 0) : zJM xs 59 [.int x1, .int x2, .int x3] M (.int (v145 x1 x2 x3 M)) (r145 x1 x2 x3 M) := fun S h =>
  ⟨F59 x1 x2 x3 S, ⟨ln_F59 h.1, zZ_59 h.2⟩, zJ_mo (D := 0 + 5) (by decide) (zJ_g (fun T nc ns => k_59 (D := 0) h.1) zsP_o (fun T nc ns N => e_59 h.1) (zAn_ok (zM_59 h.2.2.2).2 t0 (by decide)))⟩
theorem zm_60 (hx4 : x4 = 0 ∨ x4 = 1) (hx5 : x5 = 0 ∨ x5 = 1) (t0 : (r146 x1 x2 x3 x4 x5 M).1 0 = 0) : zJM xs 60 [.int x1, .int x2, .int x3, .int x4, .int x5] M (.int (v146 x1 x2 x3 x4 x5 M)) (r146 x1 x2 x3 x4 x5 M) := fun S h =>
  ⟨F60 x1 x2 x3 x4 x5 S, ⟨ln_F60 h.1, zZ_60 h.2⟩, zJ_mo (D := 0 + 0) (by decide) (zJ_g (fun T nc ns => k_60 (D := 0) h.1 hx4 hx5) zsP_o (fun T nc ns N => e_60 h.1) (zAn_ok (zM_60 h.2.2.2).2 t0 (by decide)))⟩
theorem zm_63 (t0 : (r150 x1 M).1 0 = 0) : zJM xs 63 [.int x1] M (.int (v150 x1 M)) (r150 x1 M) := fun S h =>
  ⟨F63 x1 S, ⟨ln_F63 h.1, zZ_63 h.2⟩, zJ_mo (D := 0 + 6) (by decide) (zJ_g (fun T nc ns => k_63 (D := 0) h.1 (zIy_t h)) zsP_t (fun T nc ns N => e_63 h.1) (zAn_ok (R := R63 x1 S) (v := v150 x1 M) (t := (r150 x1 M).1 0) (kc := kc_199) (zN_63 h.2.1).2 t0 (by decide)))⟩
theorem zm_74 (hx1 : 0 ≤ x1.toInt ∧ x1.toInt ≤ 17) : zJM xs 74 [.int x1] M (.int (v172 x1 M)) M := fun S h =>
  ⟨S, h, zJ_mo (D := 0 + 1) (by decide) (zJ_q (fun T nc ns => kn_74 (D := 0) h.1 hx1) (fun T nc ns N => e_74 h.1) (zAn_nx (zM_74 h.2.2.1 h.2.2.2).2))⟩
theorem zm_77 (hx1 : 0 ≤ x1.toInt ∧ x1.toInt ≤ 127) : zJM xs 77 [.int x1] M (.int (v178 x1 M)) M := fun S h =>
  ⟨S, h, zJ_mo (D := 0 + 5) (by decide) (zJ_q (fun T nc ns => kn_77 (D := 0) h.1 hx1) (fun T nc ns N => e_77 h.1) (zAn_nx (zM_77 h.2.2.2).2))⟩
theorem zm_78 (hx1 : 0 ≤ x1.toInt ∧ x1.toInt ≤ 1) : zJM xs 78 [.int x1] M (.int (v180 x1 M)) M := fun S h =>
  ⟨S, h, zJ_mo (D := 0 + 4) (by decide) (zJ_q (fun T nc ns => kn_78 (D := 0) h.1 hx1) (fun T nc ns N => e_78 h.1) (zAn_nx (zM_78 h.2.2.2).2))⟩
theorem zm_79 (hx1 : 1 ≤ x1.toInt ∧ x1.toInt ≤ 100) : zJM xs 79 [.int x1] M (.int (v185 x1 M)) M := fun S h =>
  ⟨F79 x1 S, zIy_79 h, zJ_mo (D := 0 + 4) (by decide) (zJ_g (Es := []) (fun T nc ns => kn_79 (D := 0) h.1 (zIy_t h) hx1) zsP_o (fun T nc ns N => e_79 h.1 (zIy_t5 h)) (zAn_em (zM_79 h.2.2.2 (zIy_t5 h))))⟩
theorem zm_81 : zJM xs 81 [] M (.long (V188 (zmS M 0 (Int32.ofInt 0)))) M := fun S h =>
  ⟨F79 z20 S, zIy_79 h, zJ_mo (D := 0 + 6) (by decide) (fun T nc ns => zMs_post (fun o w => by
    obtain ⟨w1, w2⟩ := w
    rcases w1 with ⟨u, s', a', _, _, rfl⟩ | ⟨E, hE, rfl⟩
    · obtain ⟨e1, e2⟩ := w2 u rfl
      have e2 : zx s' a' T = zx (F79 z20 S).1 (F79 z20 S).2 T := e2
      show (Sum.inl u, zx s' a' T, nc, ns) = _
      rw [e2, e1, zd_81 h.2.2.1 h.2.2.2 (zIy_t5 h)]
    · cases hE) (zMs_and (kn_81 (D := 0) h.1 (zIy_t h)) (fun N => g_81 h.1 (zIy_t5 h))))⟩
end ZJM
