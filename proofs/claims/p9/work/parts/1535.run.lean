/-! run, of the class and of the reference, word for word. -/
def zRn (x1 x2 x3 : Int32) : Prop := (1 ≤ x1.toInt ∧ x1.toInt ≤ 100) ∧ (2 ≤ x2.toInt ∧ x2.toInt ≤ 100) ∧ (0 ≤ x3.toInt ∧ x3.toInt ≤ 8)
section ZRN
variable {xs : List Int32} {g : zG} {lg : Nat} {h : zH} {D nc ns : Nat}
theorem m_112x {a b c : Int32} : zMs xs D 112 [.int a, .int b, .int c] h nc ns (fun o => ∃ w : Int32, o = (.inl (some (.int w)), h, nc, ns) ∧ (w = 1 ∧ (b.toInt ≤ a.toInt ∧ a.toInt ≤ c.toInt) ∨ w = 0 ∧ ¬ (b.toInt ≤ a.toInt ∧ a.toInt ≤ c.toInt))) := by
  refine ⟨_, rfl, zEs_run 2 rfl ?_⟩
  refine zEs_icmp rfl (fun q1 => ?_) (fun q1 => ?_)
  · have z := zF_lt_t q1
    exact zEs_run 1 rfl (zEs_end rfl rfl ⟨_, rfl, Or.inr ⟨by decide, fun k => by omega⟩⟩)
  · have z := zF_lt_f q1
    refine zEs_run 2 rfl ?_
    refine zEs_icmp rfl (fun q2 => ?_) (fun q2 => ?_)
    · have z2 := zF_gt_t q2
      exact zEs_run 1 rfl (zEs_end rfl rfl ⟨_, rfl, Or.inr ⟨by decide, fun k => by omega⟩⟩)
    · have z2 := zF_gt_f q2
      exact zEs_run 2 rfl (zEs_end rfl rfl ⟨_, rfl, Or.inl ⟨by decide, z, z2⟩⟩)
theorem m_111 {x : Int32} {vs : List Value} (m1 : h[44]? = some (7, vs)) (m2 : vs.length = 26) : zMs xs D 111 [.ref 44, .int x] h nc ns (fun o => o = (.inl (some (.int (Int32.ofInt 0))), h.set 44 (7, vs.set 0 (.int x)), nc, ns)) := by
  refine ⟨_, rfl, zEs_run 2 rfl ?_⟩
  refine zEs_put rfl m1 rfl rfl (by omega) ?_
  exact zEs_run 1 rfl (zEs_end rfl rfl rfl)
theorem m_247 {k : Int32} {vs : List Value} (m1 : h[44]? = some (7, vs)) (mk : vs[0]? = some (.int k)) : zMs xs D 247 [.ref 44] h nc ns (fun o => o = (.inl (some (.int k)), h, nc, ns)) :=
  ⟨_, rfl, zEs_run 1 rfl (zEs_get rfl m1 rfl mk (zEs_end rfl rfl rfl))⟩
theorem zst_go {vs : List Value} {k : Nat} {v : Value} {g' : zG} (hk : k < 26) (m1 : h[44]? = some (7, vs)) (l : vs.length = 26) (q : zHI g' lg (h.set 44 (7, vs.set k v)) ∧ zLE h (h.set 44 (7, vs.set k v))) : ∃ (h' : zH) (ws : List Value), h.set 44 (7, vs.set k v) = h' ∧ zHI g' lg h' ∧ zLE h h' ∧ h'[44]? = some (7, ws) ∧ ws.length = 26 ∧ ws[k]? = some v ∧ ∀ j, j ≠ k → ws[j]? = vs[j]? :=
  ⟨_, _, rfl, q.1, q.2, List.getElem?_set_self (List.getElem?_eq_some_iff.mp m1).1, by simpa using l, List.getElem?_set_self (by omega), fun j hj => List.getElem?_set_ne (fun z => hj z.symm)⟩
def zPrn (g : zG) (lg : Nat) (h : zH) (c2 x1 x2 x3 : Int32) (nc ns : Nat) : zO → Prop := fun o => ∃ (k v : Int32) (h' : zH) (vs : List Value), o = (.inl (some (.int v)), h', nc, ns) ∧ zLE h h' ∧ h'[44]? = some (7, vs) ∧ vs[0]? = some (.int k) ∧ (zRn x1 x2 x3 ∧ k = 0 ∧ v = c2 ∧ zHI (zsf g 7 (.int x3)) lg h' ∨ ¬ zRn x1 x2 x3 ∧ k = 1 ∧ zHI g lg h')
theorem m_146 {x1 x2 x3 x4 x5 c2 : Int32} (hI : zHI g lg h) (hc : g.f 7 = .int c2) (h4 : x4 = 0 ∨ x4 = 1) (h5 : x5 = 0 ∨ x5 = 1) : zMs xs (D + 1) 146 [.ref 44, .int x1, .int x2, .int x3, .int x4, .int x5] h nc ns (zPrn g lg h c2 x1 x2 x3 nc ns) := by
  obtain ⟨vs, m1, m2, m3, m4⟩ := hI.obj
  refine ⟨_, rfl, zEs_run 2 rfl ?_⟩
  refine zEs_put rfl m1 rfl rfl (by omega) ?_
  obtain ⟨h1, w1, e1, n1, le1, c1, l1, s1, k1⟩ := zst_go (by decide) m1 m2 (zHI_fld (k := 0) (v := .int (Int32.ofInt 0)) hI m1 (by decide) (zIA_ok _) (by decide))
  rw [e1]
  have f1 : w1[7]? = some (.int c2) := by
    rw [k1 7 (by decide), ← hc]
    exact m4 7 (by decide)
  have no : ¬ zRn x1 x2 x3 → zEs xs (D + 1) 146 35 [some (.ref 44), some (.int x1), some (.int x2), some (.int x3), some (.int x4), some (.int x5), none] [] h1 nc ns (zPrn g lg h c2 x1 x2 x3 nc ns) := by
    intro nr
    refine zEs_run 2 rfl ?_
    refine zEs_callG rfl (show zcallV 1 7 111 40 [.int (Int32.ofInt 1), .ref 44] h1 = _ from zcallV_eq rfl c1 (by decide)) (m_111 c1 l1) (fun v h9 nc1 ns1 q => ?_) (fun E h9 nc1 ns1 q => by cases q)
    cases q
    obtain ⟨i1, i2⟩ := zHI_fld (k := 0) (v := .int (Int32.ofInt 1)) n1 c1 (by decide) (zIA_ok _) (by decide)
    exact zEs_end rfl rfl ⟨1, _, _, _, rfl, zLE_tr le1 i2, List.getElem?_set_self (List.getElem?_eq_some_iff.mp c1).1, List.getElem?_set_self (by omega), Or.inr ⟨nr, rfl, i1⟩⟩
  have hA : (Int32.ofInt 1).toInt = 1 := by decide
  have hB : ((Int8.ofInt 100).toInt32).toInt = 100 := by decide
  have hC : (Int32.ofInt 2).toInt = 2 := by decide
  have hD : (Int32.ofInt 0).toInt = 0 := by decide
  have hE : ((Int8.ofInt 8).toInt32).toInt = 8 := by decide
  refine zEs_run 3 rfl ?_
  refine zEs_callG rfl rfl m_112x (fun v h9 nc1 ns1 q => ?_) (fun E h9 nc1 ns1 q => by obtain ⟨_, q, _⟩ := q; cases q)
  obtain ⟨w, q, hw⟩ := q
  cases q
  rw [hA, hB] at hw
  refine zEs_if rfl (fun q1 => ?_) (fun q1 => ?_)
  · rcases hw with ⟨rfl, -⟩ | ⟨rfl, z⟩
    · exact absurd (zF_eq_t q1) (by decide)
    · exact no (fun k => z k.1)
  replace hw := hw.resolve_right (fun z => by
    obtain ⟨rfl, -⟩ := z
    exact zF_eq_f q1 rfl)
  obtain ⟨-, A1⟩ := hw
  clear q1
  refine zEs_run 3 rfl ?_
  refine zEs_callG rfl rfl m_112x (fun v h9 nc1 ns1 q => ?_) (fun E h9 nc1 ns1 q => by obtain ⟨_, q, _⟩ := q; cases q)
  obtain ⟨w, q, hw⟩ := q
  cases q
  rw [hC, hB] at hw
  refine zEs_if rfl (fun q1 => ?_) (fun q1 => ?_)
  · rcases hw with ⟨rfl, -⟩ | ⟨rfl, z⟩
    · exact absurd (zF_eq_t q1) (by decide)
    · exact no (fun k => z k.2.1)
  replace hw := hw.resolve_right (fun z => by
    obtain ⟨rfl, -⟩ := z
    exact zF_eq_f q1 rfl)
  obtain ⟨-, A2⟩ := hw
  clear q1
  refine zEs_run 3 rfl ?_
  refine zEs_callG rfl rfl m_112x (fun v h9 nc1 ns1 q => ?_) (fun E h9 nc1 ns1 q => by obtain ⟨_, q, _⟩ := q; cases q)
  obtain ⟨w, q, hw⟩ := q
  cases q
  rw [hD, hE] at hw
  refine zEs_if rfl (fun q1 => ?_) (fun q1 => ?_)
  · replace hw := hw.resolve_right (fun z => by
      obtain ⟨rfl, -⟩ := z
      exact zF_ne_t q1 rfl)
    obtain ⟨-, A3⟩ := hw
    clear q1
    refine zEs_run 1 rfl ?_
    refine zEs_get rfl c1 rfl f1 ?_
    refine zEs_run 3 rfl ?_
    refine zEs_put rfl c1 rfl rfl (by omega) ?_
    obtain ⟨h2, w2, e2, n2, le2, c2', l2, s2, k2⟩ := zst_go (by decide) c1 l1 (zHI_fld (k := 5) (v := .int x1) n1 c1 (by decide) ⟨x1, rfl, A1.1, A1.2, trivial, Or.inl rfl⟩ (by decide))
    rw [e2]
    refine zEs_run 2 rfl ?_
    refine zEs_put rfl c2' rfl rfl (by omega) ?_
    obtain ⟨h3, w3, e3, n3, le3, c3, l3, s3, k3⟩ := zst_go (by decide) c2' l2 (zHI_fld (k := 6) (v := .int x2) n2 c2' (by decide) ⟨x2, rfl, A2.1, A2.2, trivial, Or.inl rfl⟩ (by decide))
    rw [e3]
    refine zEs_run 2 rfl ?_
    refine zEs_put rfl c3 rfl rfl (by omega) ?_
    obtain ⟨h4', w4, e4, n4, le4, c4, l4, s4, k4⟩ := zst_go (by decide) c3 l3 (zHI_fz (k := 7) (v := .int x3) n3 c3 (Or.inr (Or.inr rfl)) ⟨x3, rfl, A3.1, A3.2, trivial, Or.inl rfl⟩)
    rw [e4]
    refine zEs_run 2 rfl ?_
    refine zEs_put rfl c4 rfl (by rcases h4 with rfl | rfl <;> rfl) (by omega) ?_
    obtain ⟨h5', w5, e5, n5, le5, c5, l5, s5, k5⟩ := zst_go (by decide) c4 l4 (zHI_fld (k := 8) (v := .int x4) n4 c4 (by decide) ⟨x4, rfl, by rcases h4 with rfl | rfl <;> decide, by rcases h4 with rfl | rfl <;> decide, trivial, Or.inl rfl⟩ (by decide))
    rw [e5]
    refine zEs_run 2 rfl ?_
    refine zEs_put rfl c5 rfl (by rcases h5 with rfl | rfl <;> rfl) (by omega) ?_
    obtain ⟨h6, w6, e6, n6, le6, c6, l6, s6, k6⟩ := zst_go (by decide) c5 l5 (zHI_fld (k := 9) (v := .int x5) n5 c5 (by decide) ⟨x5, rfl, by rcases h5 with rfl | rfl <;> decide, by rcases h5 with rfl | rfl <;> decide, trivial, Or.inl rfl⟩ (by decide))
    rw [e6]
    refine zEs_run 1 rfl ?_
    have z0 : w6[0]? = some (.int 0) := by
      rw [k6 0 (by decide), k5 0 (by decide), k4 0 (by decide), k3 0 (by decide), k2 0 (by decide)]
      exact s1
    exact zEs_end rfl rfl ⟨0, _, _, _, rfl, zLE_tr le1 (zLE_tr le2 (zLE_tr le3 (zLE_tr le4 (zLE_tr le5 le6)))), c6, z0, Or.inl ⟨⟨A1, A2, A3⟩, rfl, rfl, n6⟩⟩
  · rcases hw with ⟨rfl, -⟩ | ⟨rfl, z⟩
    · exact absurd (zF_ne_f q1) (by decide)
    · exact no (fun k => z k.2.2)
def zPxr (s : Nat → Int32) (a : Nat → List Int32) (T : zH) (x1 x2 x3 : Int32) (nc ns : Nat) : zO → Prop := fun o => (¬ zRn x1 x2 x3 ∧ o = (.inr 0, zx s a T, nc + 1, ns + 6)) ∨ (zRn x1 x2 x3 ∧ ∃ s' : Nat → Int32, s' 14 = x3 ∧ s' 4 = s 4 ∧ o = (.inl (some (.int (s 14))), zx s' a T, nc, ns))
theorem x_60 {s : Nat → Int32} {a : Nat → List Int32} {T : zH} {x1 x2 x3 x4 x5 : Int32} (hx4 : x4 = 0 ∨ x4 = 1) (hx5 : x5 = 0 ∨ x5 = 1) : zMs xs (D + 0) 60 [.ref 0, .int x1, .int x2, .int x3, .int x4, .int x5] (zx s a T) nc ns (zPxr s a T x1 x2 x3 nc ns) := by
  refine ⟨_, rfl, ?_⟩
  have hA : (Int32.ofInt 1).toInt = 1 := by decide
  have hB : ((Int8.ofInt 100).toInt32).toInt = 100 := by decide
  have hC : (Int32.ofInt 2).toInt = 2 := by decide
  have hD : (0 : Int32).toInt = 0 := by decide
  have hE : ((Int8.ofInt 8).toInt32).toInt = 8 := by decide
  have c11 : ¬ zRn x1 x2 x3 → zEs xs (D + 0) 60 11 [some (.ref 0), some (.int x1), some (.int x2), some (.int x3), some (.int x4), some (.int x5), none] [] (zx s a T) nc ns (zPxr s a T x1 x2 x3 nc ns) :=
    fun nr => zEs_end rfl rfl (Or.inl ⟨nr, rfl⟩)
  have c32 : ¬ zRn x1 x2 x3 → zEs xs (D + 0) 60 32 [some (.ref 0), some (.int x1), some (.int x2), some (.int x3), some (.int x4), some (.int x5), none] [] (zx s a T) nc ns (zPxr s a T x1 x2 x3 nc ns) :=
    fun nr => zEs_end rfl rfl (Or.inl ⟨nr, rfl⟩)
  have c52 : ¬ zRn x1 x2 x3 → zEs xs (D + 0) 60 52 [some (.ref 0), some (.int x1), some (.int x2), some (.int x3), some (.int x4), some (.int x5), none] [] (zx s a T) nc ns (zPxr s a T x1 x2 x3 nc ns) :=
    fun nr => zEs_end rfl rfl (Or.inl ⟨nr, rfl⟩)
  refine zEs_run 2 rfl ?_
  refine zEs_icmp rfl (fun q1 => ?_) (fun q1 => ?_)
  · have z := zF_lt_t q1
    exact c11 (fun k => by
      have := k.1.1
      omega)
  · have z1 := zF_lt_f q1
    refine zEs_run 2 rfl ?_
    refine zEs_icmp rfl (fun q2 => ?_) (fun q2 => ?_)
    · have z2 := zF_le_t q2
      refine zEs_run 2 rfl ?_
      refine zEs_icmp rfl (fun q3 => ?_) (fun q3 => ?_)
      · have z := zF_lt_t q3
        exact c32 (fun k => by
          have := k.2.1.1
          omega)
      · have z3 := zF_lt_f q3
        refine zEs_run 2 rfl ?_
        refine zEs_icmp rfl (fun q4 => ?_) (fun q4 => ?_)
        · have z4 := zF_le_t q4
          refine zEs_run 1 rfl ?_
          refine zEs_if rfl (fun q5 => ?_) (fun q5 => ?_)
          · have z := zF_lt_t q5
            exact c52 (fun k => by
              have := k.2.2.1
              omega)
          · have z5 := zF_lt_f q5
            refine zEs_run 2 rfl ?_
            refine zEs_icmp rfl (fun q6 => ?_) (fun q6 => ?_)
            · have z6 := zF_le_t q6
              have hr : zRn x1 x2 x3 := ⟨⟨by omega, by omega⟩, ⟨by omega, by omega⟩, ⟨by omega, by omega⟩⟩
              rcases hx4 with rfl | rfl <;> rcases hx5 with rfl | rfl
              all_goals (refine zEs_run 21 (h' := zx (zup (zup (zup (zup (zup s 5 _) 6 _) 14 _) 15 _) 16 _) a T) rfl ?_)
              all_goals (exact zEs_end rfl rfl (Or.inr ⟨hr, zup (zup (zup (zup (zup s 5 _) 6 _) 14 x3) 15 _) 16 _, rfl, rfl, rfl⟩))
            · have z := zF_le_f q6
              exact c52 (fun k => by
                have := k.2.2.2
                omega)
        · have z := zF_le_f q4
          exact c32 (fun k => by
            have := k.2.1.2
            omega)
    · have z := zF_le_f q2
      exact c11 (fun k => by
        have := k.1.2
        omega)
end ZRN
