/-! The law's methods around the class's, and the reference's methods as the law calls them. Written by wip/gen/f155.py. -/
def zWw (c c2 : Nat × Nat) (q : Nat) (nc ns : Nat) : zO → Prop := fun o => ∃ (v : Int32) (h' : zH) (nc' ns' : Nat), o = (.inl (some (.int v)), h', nc', ns') ∧ zWI c c2 q h' ∧ nc' ≤ nc + 10 ∧ ns' ≤ ns + 100
section ZX1
variable {xs : List Int32} {h : zH} {nc ns q : Nat} {c c2 : Nat × Nat}
theorem z01 {g : zG} {lg : Nat} {L : zL} {w : Int32} (hw : w = 0 ∨ w = 1) : zga g lg h L ((.inl (0, 1, 0, 0))) (.int w) := by
  refine ⟨w, rfl, ?_, ?_, trivial, Or.inl rfl⟩ <;> rcases hw with rfl | rfl <;> decide
/-- what is asked of the code, word for word -/
def zWx (c c2 : Nat × Nat) (q : Nat) (Q : Prop) (v : Int32) (nc ns : Nat) : zO → Prop := fun o => ∃ (k : Int32) (h' : zH) (nc' ns' : Nat), o = (.inl (some (.int k)), h', nc', ns') ∧ nc' ≤ nc + 10 ∧ ns' ≤ ns + 100 ∧ zWI c c2 q h' ∧ (Q ∧ k = 0 ∧ (∃ vs : List Value, h'[q]? = some (6, vs) ∧ vs[0]? = some (.long v.toInt64)) ∨ ¬ Q ∧ k = 1)
def zQ15 (c : Nat × Nat) (x : Int32) : Prop := 0 ≤ x.toInt ∧ x.toInt ≤ (Int32.ofNat c.1 + Int32.ofNat c.2 - Int32.ofInt 1).toInt
def zQ16 (c : Nat × Nat) (x : Int32) : Prop := 0 ≤ x.toInt ∧ x.toInt ≤ (Int32.ofInt 1 <<< (Int32.ofNat c.1 &&& 31) - Int32.ofInt 1).toInt
def zQ17 (c : Nat × Nat) (x y : Int32) : Prop := (0 ≤ x.toInt ∧ x.toInt ≤ (zwm (Int32.ofNat c.1) (Int32.ofNat c.2)).toInt) ∧ (0 ≤ y.toInt ∧ y.toInt ≤ 3)
abbrev zv15 (c : Nat × Nat) (x : Int32) : Int32 := (zcol c.1 c.2).getD x.toInt.toNat 0
abbrev zv16 (c : Nat × Nat) (x : Int32) : Int32 := x ||| zsm (zcol c.1 c.2) x <<< (Int32.ofNat c.1 &&& 31)
abbrev zv17 (c : Nat × Nat) (x y : Int32) : Int32 := zmdc (zcol c.1 c.2) (Int32.ofNat c.1) x y
def zKx (E : Nat) (Q : Prop) (v : Int32) (h : zH) (nc ns : Nat) : zO → Prop := fun o => Q ∧ o = (.inl (some (.int v)), h, nc, ns) ∨ ¬ Q ∧ o = (.inr E, h, nc + 1, ns + 6)
theorem zKx66 {x1 : Int32} (hW : zWI c c2 q h) : zMs xs 8 66 [.ref 0, .int x1] h nc ns (zKx 1 (zQ15 c x1) (zv15 c x1) h nc ns) := by
  obtain ⟨s, a, T, rfl, h1, h2, h3, K, -⟩ := zWI_x hW
  have bd := zRC_bd h2.1
  refine zMs_post (fun o ho => ?_) (zMs_and (zMs_mono (show _ ≤ 8 by decide) (k_66 (D := 0) h1)) (fun N => p_66 h1))
  obtain ⟨-, hp⟩ := ho
  rcases hp with ⟨p1, p2, rfl⟩ | ⟨p1, rfl⟩
  · refine Or.inl ⟨⟨p1, by omega⟩, ?_⟩
    rw [zRC_cl h2.1 p1 p2]
  · exact Or.inr ⟨fun z => p1 ⟨z.1, by have := z.2; omega⟩, rfl⟩
theorem zKx67 {x1 : Int32} (hW : zWI c c2 q h) : zMs xs 8 67 [.ref 0, .int x1] h nc ns (zKx 0 (zQ16 c x1) (zv16 c x1) h nc ns) := by
  obtain ⟨s, a, T, rfl, h1, h2, h3, K, -⟩ := zWI_x hW
  have bd := zRC_bd h2.1
  refine zMs_post (fun o ho => ?_) (zMs_and (zMs_mono (show _ ≤ 8 by decide) (k_67 (D := 0) h1)) (fun N => p_67 h1))
  obtain ⟨-, hp⟩ := ho
  rcases hp with ⟨p1, p2, rfl⟩ | ⟨p1, rfl⟩
  · refine Or.inl ⟨⟨p1, by rw [← bd.1]; exact p2⟩, ?_⟩
    rw [zRC_en h2.1]
  · exact Or.inr ⟨fun z => p1 ⟨z.1, by rw [bd.1]; exact z.2⟩, rfl⟩
theorem zKx68 {x1 x2 : Int32} (hW : zWI c c2 q h) : zMs xs 8 68 [.ref 0, .int x1, .int x2] h nc ns (zKx 0 (zQ17 c x1 x2) (zv17 c x1 x2) h nc ns) := by
  obtain ⟨s, a, T, rfl, h1, h2, h3, K, -⟩ := zWI_x hW
  have bd := zRC_bd h2.1
  refine zMs_post (fun o ho => ?_) (zMs_and (zMs_mono (show _ ≤ 8 by decide) (k_68 (D := 0) h1)) (fun N => p_68 h1))
  obtain ⟨-, hp⟩ := ho
  rcases hp with ⟨p1, p2, rfl⟩ | ⟨p1, rfl⟩
  · refine Or.inl ⟨⟨⟨p1.1, by omega⟩, p2⟩, ?_⟩
    rw [zRC_dc h2.1]
  · exact Or.inr ⟨fun z => p1 ⟨⟨z.1.1, by have := z.1.2; omega⟩, z.2⟩, rfl⟩
/-- the reference's object, as the law sees it -/
theorem zWI_mo (hW : zWI c c2 q h) : ∃ vs : List Value, zMo h vs (Int32.ofNat c2.1) (Int32.ofNat c2.2) (zcol c2.1 c2.2) := by
  obtain ⟨g, lg, us, hI, h1, h2, ⟨k1, k2, k3, r, k4, k5, k6⟩, -⟩ := hW
  obtain ⟨vs, m1, m2, m3, m4⟩ := hI.obj
  obtain ⟨b1, b2, b3, b4, b5⟩ := zcds_kr _ k1
  exact ⟨vs, m1, m2, (m4 1 (by decide)).trans (congrArg some k2), (m4 2 (by decide)).trans (congrArg some k3), ⟨r, (m4 3 (by decide)).trans (congrArg some k4), k6⟩, by omega⟩
def zWmx (c c2 : Nat × Nat) (q : Nat) (h : zH) (Q : Prop) (v : Int32) (nc ns : Nat) : zO → Prop := fun o => ∃ (t v' : Int32) (h' : zH) (nc' ns' : Nat), o = (.inl (some (.int v')), h', nc', ns') ∧ nc' ≤ nc + 400 ∧ ns' ≤ ns + 14000 ∧ zWI c c2 q h' ∧ (∃ vs, h'[44]? = some (7, vs) ∧ vs[0]? = some (.int t)) ∧ (∀ us, h[q]? = some (6, us) → h'[q]? = some (6, us)) ∧ (Q ∧ t = 0 ∧ v' = v ∨ ¬ Q ∧ t = 1)
theorem zWmx_of {y : Nat} {as : List Value} {Q : Prop} {v : Int32} {vs : List Value} (hW : zWI c c2 q h) (m1 : h[44]? = some (7, vs)) (m2 : vs.length = 26) (k : zMs xs 40 y as h nc ns (zWm c c2 q zRi nc ns)) (p : ∀ N, zpM xs N y as h nc ns (fun o => ∃ t v' : Int32, o = (.inl (some (.int v')), h.set 44 (7, vs.set 0 (.int t)), nc, ns) ∧ (Q ∧ t = 0 ∧ v' = v ∨ ¬ Q ∧ t = 1))) : zMs xs 40 y as h nc ns (zWmx c c2 q h Q v nc ns) := by
  refine zMs_post (fun o ho => ?_) (zMs_and k p)
  obtain ⟨⟨v1, h', nc', ns', e, b1, b2, b3, b4⟩, ⟨t, v', rfl, e2⟩⟩ := ho
  cases e
  have hq : 73 ≤ q := by
    obtain ⟨_, _, _, _, _, _, _, _, hq, _⟩ := hW
    exact hq
  exact ⟨t, v', _, _, _, rfl, b3, b4, b2, ⟨_, List.getElem?_set_self (List.getElem?_eq_some_iff.mp m1).1, List.getElem?_set_self (by omega)⟩, fun us w => (List.getElem?_set_ne (by omega)).trans w, e2⟩

def zWk (x1 x2 : Int32) (c c2 : Nat × Nat) (q : Nat) (nc ns : Nat) : zO → Prop := fun o => ∃ (v : Int32) (h' : zH) (nc' ns' : Nat) (c' : Nat × Nat), o = (.inl (some (.int v)), h', nc', ns') ∧ zCq x1 x2 c c' ∧ zWI c' c2 q h' ∧ nc' ≤ nc + 10 ∧ ns' ≤ ns + 100
theorem w_189 {x1 x2 : Int32} (hW : zWI c c2 q h) : zMs xs 9 189 [.ref 0, .int x1, .int x2, .ref q] h nc ns (zWk x1 x2 c c2 q nc ns) := by
  obtain ⟨ws, hw⟩ := zWI_0 hW
  refine ⟨_, rfl, zEs_run 4 rfl ?_⟩
  refine zEs_callG rfl (show zcallV 2 5 53 7 (.int x2 :: .int x1 :: .ref 0 :: _) h = _ from zcallV_eq rfl hw (Nat.le_of_ble_eq_true rfl)) (zKcd hW) (fun v h9 nc1 ns1 w => ?_) (fun E h9 nc1 ns1 w => ?_)
  · obtain ⟨c', hq, w⟩ := w
    rcases w with ⟨v', h', w, W1⟩ | ⟨w, _⟩
    · cases w
      obtain ⟨vs, q1, q2⟩ := zWI_q W1
      refine zEs_run 1 rfl ?_
      refine zEs_put rfl q1 rfl rfl (by omega) ?_
      exact zEs_run 2 rfl (zEs_end rfl rfl ⟨_, _, _, _, c', rfl, hq, zWI_put W1 (by simpa using q2), by omega, by omega⟩)
    · cases w
  · obtain ⟨c', hq, w⟩ := w
    rcases w with ⟨v', h', w, W1⟩ | ⟨w, W1⟩
    · cases w
    · cases w
      exact Or.inr ⟨16, _, by decide, rfl, zEs_run 1 rfl (zEs_end rfl rfl ⟨_, _, _, _, c', rfl, hq, W1, by omega, by omega⟩)⟩
theorem w_190 {x1 x2 : Int32} (hW : zWI c c2 q h) : zMs xs 9 190 [.ref 0, .int x1, .int x2, .ref q] h nc ns (zWw c c2 q nc ns) := by
  obtain ⟨ws, hw⟩ := zWI_0 hW
  refine ⟨_, rfl, zEs_run 4 rfl ?_⟩
  refine zEs_callG rfl (show zcallV 2 5 54 7 (.int x2 :: .int x1 :: .ref 0 :: _) h = _ from zcallV_eq rfl hw (Nat.le_of_ble_eq_true rfl)) (zKo hW (by decide) (by decide) (fun s a T hL ht => (k_54 hL))) (fun v h9 nc1 ns1 w => ?_) (fun E h9 nc1 ns1 w => ?_)
  · rcases w with ⟨v', h', nc', ns', hv, W1, b1, b2, w⟩ | ⟨_, _, _, _, _, _, _, _, w⟩
    · cases w
      obtain ⟨x, rfl⟩ := hv
      obtain ⟨vs, q1, q2⟩ := zWI_q W1
      refine zEs_run 1 rfl ?_
      refine zEs_put rfl q1 rfl rfl (by omega) ?_
      exact zEs_run 2 rfl (zEs_end rfl rfl ⟨_, _, _, _, rfl, zWI_put W1 (by simpa using q2), by omega, by omega⟩)
    · cases w
  · rcases w with ⟨_, _, _, _, _, _, _, _, w⟩ | ⟨E', h', nc', ns', hE, W1, b1, b2, w⟩
    · cases w
    · cases w
      rcases (show E = 0 ∨ E = 1 ∨ E = 2 by simpa using hE) with rfl | rfl | rfl
      · exact Or.inr ⟨20, _, by decide, rfl, zEs_run 1 rfl (zEs_end rfl rfl ⟨_, _, _, _, rfl, W1, by omega, by omega⟩)⟩
      · exact Or.inr ⟨16, _, by decide, rfl, zEs_run 1 rfl (zEs_end rfl rfl ⟨_, _, _, _, rfl, W1, by omega, by omega⟩)⟩
      · exact Or.inr ⟨24, _, by decide, rfl, zEs_run 1 rfl (zEs_end rfl rfl ⟨_, _, _, _, rfl, W1, by omega, by omega⟩)⟩
theorem w_191 {x1 : Int32} (hW : zWI c c2 q h) : zMs xs 9 191 [.ref 0, .int x1, .ref q] h nc ns (zWw c c2 q nc ns) := by
  obtain ⟨ws, hw⟩ := zWI_0 hW
  refine ⟨_, rfl, zEs_run 3 rfl ?_⟩
  refine zEs_callG rfl (show zcallV 1 5 55 6 (.int x1 :: .ref 0 :: _) h = _ from zcallV_eq rfl hw (Nat.le_of_ble_eq_true rfl)) (zKo hW (by decide) (by decide) (fun s a T hL ht => (k_55 hL))) (fun v h9 nc1 ns1 w => ?_) (fun E h9 nc1 ns1 w => ?_)
  · rcases w with ⟨v', h', nc', ns', hv, W1, b1, b2, w⟩ | ⟨_, _, _, _, _, _, _, _, w⟩
    · cases w
      obtain ⟨x, rfl⟩ := hv
      obtain ⟨vs, q1, q2⟩ := zWI_q W1
      refine zEs_run 1 rfl ?_
      refine zEs_put rfl q1 rfl rfl (by omega) ?_
      exact zEs_run 2 rfl (zEs_end rfl rfl ⟨_, _, _, _, rfl, zWI_put W1 (by simpa using q2), by omega, by omega⟩)
    · cases w
  · rcases w with ⟨_, _, _, _, _, _, _, _, w⟩ | ⟨E', h', nc', ns', hE, W1, b1, b2, w⟩
    · cases w
    · cases w
      rcases (show E = 1 ∨ E = 2 by simpa using hE) with rfl | rfl
      · exact Or.inr ⟨14, _, by decide, rfl, zEs_run 1 rfl (zEs_end rfl rfl ⟨_, _, _, _, rfl, W1, by omega, by omega⟩)⟩
      · exact Or.inr ⟨17, _, by decide, rfl, zEs_run 1 rfl (zEs_end rfl rfl ⟨_, _, _, _, rfl, W1, by omega, by omega⟩)⟩
theorem w_192 {x1 x2 : Int32} (hW : zWI c c2 q h) : zMs xs 9 192 [.ref 0, .int x1, .int x2, .ref q] h nc ns (zWw c c2 q nc ns) := by
  obtain ⟨ws, hw⟩ := zWI_0 hW
  refine ⟨_, rfl, zEs_run 4 rfl ?_⟩
  refine zEs_callG rfl (show zcallV 2 5 56 7 (.int x2 :: .int x1 :: .ref 0 :: _) h = _ from zcallV_eq rfl hw (Nat.le_of_ble_eq_true rfl)) (zKo hW (by decide) (by decide) (fun s a T hL ht => (k_56 hL))) (fun v h9 nc1 ns1 w => ?_) (fun E h9 nc1 ns1 w => ?_)
  · rcases w with ⟨v', h', nc', ns', hv, W1, b1, b2, w⟩ | ⟨_, _, _, _, _, _, _, _, w⟩
    · cases w
      obtain ⟨x, rfl⟩ := hv
      obtain ⟨vs, q1, q2⟩ := zWI_q W1
      refine zEs_run 1 rfl ?_
      refine zEs_put rfl q1 rfl rfl (by omega) ?_
      exact zEs_run 2 rfl (zEs_end rfl rfl ⟨_, _, _, _, rfl, zWI_put W1 (by simpa using q2), by omega, by omega⟩)
    · cases w
  · rcases w with ⟨_, _, _, _, _, _, _, _, w⟩ | ⟨E', h', nc', ns', hE, W1, b1, b2, w⟩
    · cases w
    · cases w
      rcases (show E = 0 ∨ E = 1 by simpa using hE) with rfl | rfl
      · exact Or.inr ⟨20, _, by decide, rfl, zEs_run 1 rfl (zEs_end rfl rfl ⟨_, _, _, _, rfl, W1, by omega, by omega⟩)⟩
      · exact Or.inr ⟨16, _, by decide, rfl, zEs_run 1 rfl (zEs_end rfl rfl ⟨_, _, _, _, rfl, W1, by omega, by omega⟩)⟩
theorem w_193 {x1 x2 x3 : Int32} (hW : zWI c c2 q h) : zMs xs 9 193 [.ref 0, .int x1, .int x2, .int x3, .ref q] h nc ns (zWw c c2 q nc ns) := by
  obtain ⟨ws, hw⟩ := zWI_0 hW
  refine ⟨_, rfl, zEs_run 5 rfl ?_⟩
  refine zEs_callG rfl (show zcallV 3 5 57 9 (.int x3 :: .int x2 :: .int x1 :: .ref 0 :: _) h = _ from zcallV_eq rfl hw (Nat.le_of_ble_eq_true rfl)) (zKo hW (by decide) (by decide) (fun s a T hL ht => (k_57 hL))) (fun v h9 nc1 ns1 w => ?_) (fun E h9 nc1 ns1 w => ?_)
  · rcases w with ⟨v', h', nc', ns', hv, W1, b1, b2, w⟩ | ⟨_, _, _, _, _, _, _, _, w⟩
    · cases w
      obtain ⟨x, rfl⟩ := hv
      obtain ⟨vs, q1, q2⟩ := zWI_q W1
      refine zEs_run 1 rfl ?_
      refine zEs_put rfl q1 rfl rfl (by omega) ?_
      exact zEs_run 2 rfl (zEs_end rfl rfl ⟨_, _, _, _, rfl, zWI_put W1 (by simpa using q2), by omega, by omega⟩)
    · cases w
  · rcases w with ⟨_, _, _, _, _, _, _, _, w⟩ | ⟨E', h', nc', ns', hE, W1, b1, b2, w⟩
    · cases w
    · cases w
      rcases (show E = 0 ∨ E = 1 ∨ E = 2 by simpa using hE) with rfl | rfl | rfl
      · exact Or.inr ⟨22, _, by decide, rfl, zEs_run 1 rfl (zEs_end rfl rfl ⟨_, _, _, _, rfl, W1, by omega, by omega⟩)⟩
      · exact Or.inr ⟨18, _, by decide, rfl, zEs_run 1 rfl (zEs_end rfl rfl ⟨_, _, _, _, rfl, W1, by omega, by omega⟩)⟩
      · exact Or.inr ⟨26, _, by decide, rfl, zEs_run 1 rfl (zEs_end rfl rfl ⟨_, _, _, _, rfl, W1, by omega, by omega⟩)⟩
theorem w_194 {x1 x2 x3 : Int32} (hW : zWI c c2 q h) : zMs xs 9 194 [.ref 0, .int x1, .int x2, .int x3, .ref q] h nc ns (zWw c c2 q nc ns) := by
  obtain ⟨ws, hw⟩ := zWI_0 hW
  refine ⟨_, rfl, zEs_run 5 rfl ?_⟩
  refine zEs_callG rfl (show zcallV 3 5 58 9 (.int x3 :: .int x2 :: .int x1 :: .ref 0 :: _) h = _ from zcallV_eq rfl hw (Nat.le_of_ble_eq_true rfl)) (zKo hW (by decide) (by decide) (fun s a T hL ht => (k_58 hL))) (fun v h9 nc1 ns1 w => ?_) (fun E h9 nc1 ns1 w => ?_)
  · rcases w with ⟨v', h', nc', ns', hv, W1, b1, b2, w⟩ | ⟨_, _, _, _, _, _, _, _, w⟩
    · cases w
      obtain ⟨x, rfl⟩ := hv
      obtain ⟨vs, q1, q2⟩ := zWI_q W1
      refine zEs_run 1 rfl ?_
      refine zEs_put rfl q1 rfl rfl (by omega) ?_
      exact zEs_run 2 rfl (zEs_end rfl rfl ⟨_, _, _, _, rfl, zWI_put W1 (by simpa using q2), by omega, by omega⟩)
    · cases w
  · rcases w with ⟨_, _, _, _, _, _, _, _, w⟩ | ⟨E', h', nc', ns', hE, W1, b1, b2, w⟩
    · cases w
    · cases w
      rcases (show E = 0 ∨ E = 1 ∨ E = 2 by simpa using hE) with rfl | rfl | rfl
      · exact Or.inr ⟨22, _, by decide, rfl, zEs_run 1 rfl (zEs_end rfl rfl ⟨_, _, _, _, rfl, W1, by omega, by omega⟩)⟩
      · exact Or.inr ⟨18, _, by decide, rfl, zEs_run 1 rfl (zEs_end rfl rfl ⟨_, _, _, _, rfl, W1, by omega, by omega⟩)⟩
      · exact Or.inr ⟨26, _, by decide, rfl, zEs_run 1 rfl (zEs_end rfl rfl ⟨_, _, _, _, rfl, W1, by omega, by omega⟩)⟩
theorem w_195 {x1 x2 x3 : Int32} (hW : zWI c c2 q h) : zMs xs 9 195 [.ref 0, .int x1, .int x2, .int x3, .ref q] h nc ns (zWw c c2 q nc ns) := by
  obtain ⟨ws, hw⟩ := zWI_0 hW
  refine ⟨_, rfl, zEs_run 5 rfl ?_⟩
  refine zEs_callG rfl (show zcallV 3 5 59 9 (.int x3 :: .int x2 :: .int x1 :: .ref 0 :: _) h = _ from zcallV_eq rfl hw (Nat.le_of_ble_eq_true rfl)) (zKo hW (by decide) (by decide) (fun s a T hL ht => (k_59 hL))) (fun v h9 nc1 ns1 w => ?_) (fun E h9 nc1 ns1 w => ?_)
  · rcases w with ⟨v', h', nc', ns', hv, W1, b1, b2, w⟩ | ⟨_, _, _, _, _, _, _, _, w⟩
    · cases w
      obtain ⟨x, rfl⟩ := hv
      obtain ⟨vs, q1, q2⟩ := zWI_q W1
      refine zEs_run 1 rfl ?_
      refine zEs_put rfl q1 rfl rfl (by omega) ?_
      exact zEs_run 2 rfl (zEs_end rfl rfl ⟨_, _, _, _, rfl, zWI_put W1 (by simpa using q2), by omega, by omega⟩)
    · cases w
  · rcases w with ⟨_, _, _, _, _, _, _, _, w⟩ | ⟨E', h', nc', ns', hE, W1, b1, b2, w⟩
    · cases w
    · cases w
      rcases (show E = 0 ∨ E = 1 by simpa using hE) with rfl | rfl
      · exact Or.inr ⟨22, _, by decide, rfl, zEs_run 1 rfl (zEs_end rfl rfl ⟨_, _, _, _, rfl, W1, by omega, by omega⟩)⟩
      · exact Or.inr ⟨18, _, by decide, rfl, zEs_run 1 rfl (zEs_end rfl rfl ⟨_, _, _, _, rfl, W1, by omega, by omega⟩)⟩
theorem w_196 {x1 x2 x3 x4 x5 : Int32} (hW : zWI c c2 q h) (hx4 : x4 = 0 ∨ x4 = 1) (hx5 : x5 = 0 ∨ x5 = 1) : zMs xs 9 196 [.ref 0, .int x1, .int x2, .int x3, .int x4, .int x5, .ref q] h nc ns (zWw c c2 q nc ns) := by
  obtain ⟨ws, hw⟩ := zWI_0 hW
  refine ⟨_, rfl, zEs_run 7 rfl ?_⟩
  refine zEs_callG rfl (show zcallV 5 5 60 13 (.int x5 :: .int x4 :: .int x3 :: .int x2 :: .int x1 :: .ref 0 :: _) h = _ from zcallV_eq rfl hw (Nat.le_of_ble_eq_true rfl)) (zKo hW (by decide) (by decide) (fun s a T hL ht => (k_60 hL hx4 hx5))) (fun v h9 nc1 ns1 w => ?_) (fun E h9 nc1 ns1 w => ?_)
  · rcases w with ⟨v', h', nc', ns', hv, W1, b1, b2, w⟩ | ⟨_, _, _, _, _, _, _, _, w⟩
    · cases w
      obtain ⟨x, rfl⟩ := hv
      obtain ⟨vs, q1, q2⟩ := zWI_q W1
      refine zEs_run 1 rfl ?_
      refine zEs_put rfl q1 rfl rfl (by omega) ?_
      exact zEs_run 2 rfl (zEs_end rfl rfl ⟨_, _, _, _, rfl, zWI_put W1 (by simpa using q2), by omega, by omega⟩)
    · cases w
  · rcases w with ⟨_, _, _, _, _, _, _, _, w⟩ | ⟨E', h', nc', ns', hE, W1, b1, b2, w⟩
    · cases w
    · cases w
      obtain rfl : E = 0 := by simpa using hE
      · exact Or.inr ⟨22, _, by decide, rfl, zEs_run 1 rfl (zEs_end rfl rfl ⟨_, _, _, _, rfl, W1, by omega, by omega⟩)⟩
theorem w_197 {x1 x2 : Int32} (hW : zWI c c2 q h) : zMs xs 9 197 [.ref 0, .int x1, .int x2, .ref q] h nc ns (zWw c c2 q nc ns) := by
  obtain ⟨ws, hw⟩ := zWI_0 hW
  refine ⟨_, rfl, zEs_run 4 rfl ?_⟩
  refine zEs_callG rfl (show zcallV 2 5 61 7 (.int x2 :: .int x1 :: .ref 0 :: _) h = _ from zcallV_eq rfl hw (Nat.le_of_ble_eq_true rfl)) (zKo hW (by decide) (by decide) (fun s a T hL ht => (k_61 hL))) (fun v h9 nc1 ns1 w => ?_) (fun E h9 nc1 ns1 w => ?_)
  · rcases w with ⟨v', h', nc', ns', hv, W1, b1, b2, w⟩ | ⟨_, _, _, _, _, _, _, _, w⟩
    · cases w
      obtain ⟨x, rfl⟩ := hv
      obtain ⟨vs, q1, q2⟩ := zWI_q W1
      refine zEs_run 1 rfl ?_
      refine zEs_put rfl q1 rfl rfl (by omega) ?_
      exact zEs_run 2 rfl (zEs_end rfl rfl ⟨_, _, _, _, rfl, zWI_put W1 (by simpa using q2), by omega, by omega⟩)
    · cases w
  · rcases w with ⟨_, _, _, _, _, _, _, _, w⟩ | ⟨E', h', nc', ns', hE, W1, b1, b2, w⟩
    · cases w
    · cases w
      rcases (show E = 1 ∨ E = 2 by simpa using hE) with rfl | rfl
      · exact Or.inr ⟨16, _, by decide, rfl, zEs_run 1 rfl (zEs_end rfl rfl ⟨_, _, _, _, rfl, W1, by omega, by omega⟩)⟩
      · exact Or.inr ⟨20, _, by decide, rfl, zEs_run 1 rfl (zEs_end rfl rfl ⟨_, _, _, _, rfl, W1, by omega, by omega⟩)⟩
theorem w_198 {x1 x2 : Int32} (hW : zWI c c2 q h) : zMs xs 9 198 [.ref 0, .int x1, .int x2, .ref q] h nc ns (zWw c c2 q nc ns) := by
  obtain ⟨ws, hw⟩ := zWI_0 hW
  refine ⟨_, rfl, zEs_run 4 rfl ?_⟩
  refine zEs_callG rfl (show zcallV 2 5 62 7 (.int x2 :: .int x1 :: .ref 0 :: _) h = _ from zcallV_eq rfl hw (Nat.le_of_ble_eq_true rfl)) (zKo hW (by decide) (by decide) (fun s a T hL ht => (k_62 hL))) (fun v h9 nc1 ns1 w => ?_) (fun E h9 nc1 ns1 w => ?_)
  · rcases w with ⟨v', h', nc', ns', hv, W1, b1, b2, w⟩ | ⟨_, _, _, _, _, _, _, _, w⟩
    · cases w
      obtain ⟨x, rfl⟩ := hv
      obtain ⟨vs, q1, q2⟩ := zWI_q W1
      refine zEs_run 1 rfl ?_
      refine zEs_put rfl q1 rfl rfl (by omega) ?_
      exact zEs_run 2 rfl (zEs_end rfl rfl ⟨_, _, _, _, rfl, zWI_put W1 (by simpa using q2), by omega, by omega⟩)
    · cases w
  · rcases w with ⟨_, _, _, _, _, _, _, _, w⟩ | ⟨E', h', nc', ns', hE, W1, b1, b2, w⟩
    · cases w
    · cases w
      obtain rfl : E = 1 := by simpa using hE
      · exact Or.inr ⟨16, _, by decide, rfl, zEs_run 1 rfl (zEs_end rfl rfl ⟨_, _, _, _, rfl, W1, by omega, by omega⟩)⟩
theorem w_199 {x1 : Int32} (hW : zWI c c2 q h) : zMs xs 9 199 [.ref 0, .int x1, .ref q] h nc ns (zWw c c2 q nc ns) := by
  obtain ⟨ws, hw⟩ := zWI_0 hW
  refine ⟨_, rfl, zEs_run 3 rfl ?_⟩
  refine zEs_callG rfl (show zcallV 1 5 63 6 (.int x1 :: .ref 0 :: _) h = _ from zcallV_eq rfl hw (Nat.le_of_ble_eq_true rfl)) (zKt hW (by decide) (fun s a T hL ht => (k_63 hL ht))) (fun v h9 nc1 ns1 w => ?_) (fun E h9 nc1 ns1 w => ?_)
  · rcases w with ⟨v', h', nc', ns', hv, W1, b1, b2, w⟩ | ⟨_, _, _, _, _, _, _, _, w⟩
    · cases w
      obtain ⟨x, rfl⟩ := hv
      obtain ⟨vs, q1, q2⟩ := zWI_q W1
      refine zEs_run 1 rfl ?_
      refine zEs_put rfl q1 rfl rfl (by omega) ?_
      exact zEs_run 2 rfl (zEs_end rfl rfl ⟨_, _, _, _, rfl, zWI_put W1 (by simpa using q2), by omega, by omega⟩)
    · cases w
  · rcases w with ⟨_, _, _, _, _, _, _, _, w⟩ | ⟨E', h', nc', ns', hE, W1, b1, b2, w⟩
    · cases w
    · cases w
      rcases (show E = 0 ∨ E = 2 by simpa using hE) with rfl | rfl
      · exact Or.inr ⟨14, _, by decide, rfl, zEs_run 1 rfl (zEs_end rfl rfl ⟨_, _, _, _, rfl, W1, by omega, by omega⟩)⟩
      · exact Or.inr ⟨17, _, by decide, rfl, zEs_run 1 rfl (zEs_end rfl rfl ⟨_, _, _, _, rfl, W1, by omega, by omega⟩)⟩
theorem wx_200 {x1 : Int32} (hW : zWI c c2 q h) : zMs xs 9 200 [.ref 0, .int x1, .ref q] h nc ns (zWx c c2 q (zQ15 c x1) (zv15 c x1) nc ns) := by
  obtain ⟨ws, hw⟩ := zWI_0 hW
  refine ⟨_, rfl, zEs_run 3 rfl ?_⟩
  refine zEs_callG rfl (show zcallV 1 5 66 6 (.int x1 :: .ref 0 :: _) h = _ from zcallV_eq rfl hw (Nat.le_of_ble_eq_true rfl)) (zKx66 hW) (fun v h9 nc1 ns1 w => ?_) (fun E h9 nc1 ns1 w => ?_)
  · rcases w with ⟨hr, w⟩ | ⟨_, w⟩
    · cases w
      obtain ⟨vs, q1, q2⟩ := zWI_q hW
      refine zEs_run 1 rfl ?_
      refine zEs_put rfl q1 rfl rfl (by omega) ?_
      exact zEs_run 2 rfl (zEs_end rfl rfl ⟨_, _, _, _, rfl, by omega, by omega, zWI_put hW (by simpa using q2), Or.inl ⟨hr, by decide, _, List.getElem?_set_self (List.getElem?_eq_some_iff.mp q1).1, List.getElem?_set_self (by omega)⟩⟩)
    · cases w
  · rcases w with ⟨_, w⟩ | ⟨nr, w⟩
    · cases w
    · cases w
      exact Or.inr ⟨14, _, by decide, rfl, zEs_run 1 rfl (zEs_end rfl rfl ⟨_, _, _, _, rfl, by omega, by omega, hW, Or.inr ⟨nr, by decide⟩⟩)⟩
theorem w_200 {x1 : Int32} (hW : zWI c c2 q h) : zMs xs 9 200 [.ref 0, .int x1, .ref q] h nc ns (zWw c c2 q nc ns) := by
  obtain ⟨ws, hw⟩ := zWI_0 hW
  refine ⟨_, rfl, zEs_run 3 rfl ?_⟩
  refine zEs_callG rfl (show zcallV 1 5 66 6 (.int x1 :: .ref 0 :: _) h = _ from zcallV_eq rfl hw (Nat.le_of_ble_eq_true rfl)) (zKr hW (fun s a T hL ht => (k_66 hL))) (fun v h9 nc1 ns1 w => ?_) (fun E h9 nc1 ns1 w => ?_)
  · rcases w with ⟨v', h', nc', ns', hv, W1, b1, b2, w⟩ | ⟨_, _, _, _, _, _, _, _, w⟩
    · cases w
      obtain ⟨x, rfl⟩ := hv
      obtain ⟨vs, q1, q2⟩ := zWI_q W1
      refine zEs_run 1 rfl ?_
      refine zEs_put rfl q1 rfl rfl (by omega) ?_
      exact zEs_run 2 rfl (zEs_end rfl rfl ⟨_, _, _, _, rfl, zWI_put W1 (by simpa using q2), by omega, by omega⟩)
    · cases w
  · rcases w with ⟨_, _, _, _, _, _, _, _, w⟩ | ⟨E', h', nc', ns', hE, W1, b1, b2, w⟩
    · cases w
    · cases w
      obtain rfl : E = 1 := by simpa using hE
      · exact Or.inr ⟨14, _, by decide, rfl, zEs_run 1 rfl (zEs_end rfl rfl ⟨_, _, _, _, rfl, W1, by omega, by omega⟩)⟩
theorem wx_201 {x1 : Int32} (hW : zWI c c2 q h) : zMs xs 9 201 [.ref 0, .int x1, .ref q] h nc ns (zWx c c2 q (zQ16 c x1) (zv16 c x1) nc ns) := by
  obtain ⟨ws, hw⟩ := zWI_0 hW
  refine ⟨_, rfl, zEs_run 3 rfl ?_⟩
  refine zEs_callG rfl (show zcallV 1 5 67 6 (.int x1 :: .ref 0 :: _) h = _ from zcallV_eq rfl hw (Nat.le_of_ble_eq_true rfl)) (zKx67 hW) (fun v h9 nc1 ns1 w => ?_) (fun E h9 nc1 ns1 w => ?_)
  · rcases w with ⟨hr, w⟩ | ⟨_, w⟩
    · cases w
      obtain ⟨vs, q1, q2⟩ := zWI_q hW
      refine zEs_run 1 rfl ?_
      refine zEs_put rfl q1 rfl rfl (by omega) ?_
      exact zEs_run 2 rfl (zEs_end rfl rfl ⟨_, _, _, _, rfl, by omega, by omega, zWI_put hW (by simpa using q2), Or.inl ⟨hr, by decide, _, List.getElem?_set_self (List.getElem?_eq_some_iff.mp q1).1, List.getElem?_set_self (by omega)⟩⟩)
    · cases w
  · rcases w with ⟨_, w⟩ | ⟨nr, w⟩
    · cases w
    · cases w
      exact Or.inr ⟨14, _, by decide, rfl, zEs_run 1 rfl (zEs_end rfl rfl ⟨_, _, _, _, rfl, by omega, by omega, hW, Or.inr ⟨nr, by decide⟩⟩)⟩
theorem w_201 {x1 : Int32} (hW : zWI c c2 q h) : zMs xs 9 201 [.ref 0, .int x1, .ref q] h nc ns (zWw c c2 q nc ns) := by
  obtain ⟨ws, hw⟩ := zWI_0 hW
  refine ⟨_, rfl, zEs_run 3 rfl ?_⟩
  refine zEs_callG rfl (show zcallV 1 5 67 6 (.int x1 :: .ref 0 :: _) h = _ from zcallV_eq rfl hw (Nat.le_of_ble_eq_true rfl)) (zKr hW (fun s a T hL ht => (k_67 hL))) (fun v h9 nc1 ns1 w => ?_) (fun E h9 nc1 ns1 w => ?_)
  · rcases w with ⟨v', h', nc', ns', hv, W1, b1, b2, w⟩ | ⟨_, _, _, _, _, _, _, _, w⟩
    · cases w
      obtain ⟨x, rfl⟩ := hv
      obtain ⟨vs, q1, q2⟩ := zWI_q W1
      refine zEs_run 1 rfl ?_
      refine zEs_put rfl q1 rfl rfl (by omega) ?_
      exact zEs_run 2 rfl (zEs_end rfl rfl ⟨_, _, _, _, rfl, zWI_put W1 (by simpa using q2), by omega, by omega⟩)
    · cases w
  · rcases w with ⟨_, _, _, _, _, _, _, _, w⟩ | ⟨E', h', nc', ns', hE, W1, b1, b2, w⟩
    · cases w
    · cases w
      obtain rfl : E = 0 := by simpa using hE
      · exact Or.inr ⟨14, _, by decide, rfl, zEs_run 1 rfl (zEs_end rfl rfl ⟨_, _, _, _, rfl, W1, by omega, by omega⟩)⟩
theorem wx_202 {x1 x2 : Int32} (hW : zWI c c2 q h) : zMs xs 9 202 [.ref 0, .int x1, .int x2, .ref q] h nc ns (zWx c c2 q (zQ17 c x1 x2) (zv17 c x1 x2) nc ns) := by
  obtain ⟨ws, hw⟩ := zWI_0 hW
  refine ⟨_, rfl, zEs_run 4 rfl ?_⟩
  refine zEs_callG rfl (show zcallV 2 5 68 7 (.int x2 :: .int x1 :: .ref 0 :: _) h = _ from zcallV_eq rfl hw (Nat.le_of_ble_eq_true rfl)) (zKx68 hW) (fun v h9 nc1 ns1 w => ?_) (fun E h9 nc1 ns1 w => ?_)
  · rcases w with ⟨hr, w⟩ | ⟨_, w⟩
    · cases w
      obtain ⟨vs, q1, q2⟩ := zWI_q hW
      refine zEs_run 1 rfl ?_
      refine zEs_put rfl q1 rfl rfl (by omega) ?_
      exact zEs_run 2 rfl (zEs_end rfl rfl ⟨_, _, _, _, rfl, by omega, by omega, zWI_put hW (by simpa using q2), Or.inl ⟨hr, by decide, _, List.getElem?_set_self (List.getElem?_eq_some_iff.mp q1).1, List.getElem?_set_self (by omega)⟩⟩)
    · cases w
  · rcases w with ⟨_, w⟩ | ⟨nr, w⟩
    · cases w
    · cases w
      exact Or.inr ⟨16, _, by decide, rfl, zEs_run 1 rfl (zEs_end rfl rfl ⟨_, _, _, _, rfl, by omega, by omega, hW, Or.inr ⟨nr, by decide⟩⟩)⟩
theorem w_202 {x1 x2 : Int32} (hW : zWI c c2 q h) : zMs xs 9 202 [.ref 0, .int x1, .int x2, .ref q] h nc ns (zWw c c2 q nc ns) := by
  obtain ⟨ws, hw⟩ := zWI_0 hW
  refine ⟨_, rfl, zEs_run 4 rfl ?_⟩
  refine zEs_callG rfl (show zcallV 2 5 68 7 (.int x2 :: .int x1 :: .ref 0 :: _) h = _ from zcallV_eq rfl hw (Nat.le_of_ble_eq_true rfl)) (zKr hW (fun s a T hL ht => (k_68 hL))) (fun v h9 nc1 ns1 w => ?_) (fun E h9 nc1 ns1 w => ?_)
  · rcases w with ⟨v', h', nc', ns', hv, W1, b1, b2, w⟩ | ⟨_, _, _, _, _, _, _, _, w⟩
    · cases w
      obtain ⟨x, rfl⟩ := hv
      obtain ⟨vs, q1, q2⟩ := zWI_q W1
      refine zEs_run 1 rfl ?_
      refine zEs_put rfl q1 rfl rfl (by omega) ?_
      exact zEs_run 2 rfl (zEs_end rfl rfl ⟨_, _, _, _, rfl, zWI_put W1 (by simpa using q2), by omega, by omega⟩)
    · cases w
  · rcases w with ⟨_, _, _, _, _, _, _, _, w⟩ | ⟨E', h', nc', ns', hE, W1, b1, b2, w⟩
    · cases w
    · cases w
      obtain rfl : E = 0 := by simpa using hE
      · exact Or.inr ⟨16, _, by decide, rfl, zEs_run 1 rfl (zEs_end rfl rfl ⟨_, _, _, _, rfl, W1, by omega, by omega⟩)⟩
theorem w_203 {x1 : Int32} (hW : zWI c c2 q h) : zMs xs 9 203 [.ref 0, .int x1, .ref q] h nc ns (zWw c c2 q nc ns) := by
  obtain ⟨ws, hw⟩ := zWI_0 hW
  refine ⟨_, rfl, zEs_run 3 rfl ?_⟩
  refine zEs_callG rfl (show zcallV 1 5 69 6 (.int x1 :: .ref 0 :: _) h = _ from zcallV_eq rfl hw (Nat.le_of_ble_eq_true rfl)) (zKr hW (fun s a T hL ht => (k_69 hL))) (fun v h9 nc1 ns1 w => ?_) (fun E h9 nc1 ns1 w => ?_)
  · rcases w with ⟨v', h', nc', ns', hv, W1, b1, b2, w⟩ | ⟨_, _, _, _, _, _, _, _, w⟩
    · cases w
      obtain ⟨x, rfl⟩ := hv
      obtain ⟨vs, q1, q2⟩ := zWI_q W1
      refine zEs_run 1 rfl ?_
      refine zEs_put rfl q1 rfl rfl (by omega) ?_
      exact zEs_run 2 rfl (zEs_end rfl rfl ⟨_, _, _, _, rfl, zWI_put W1 (by simpa using q2), by omega, by omega⟩)
    · cases w
  · rcases w with ⟨_, _, _, _, _, _, _, _, w⟩ | ⟨E', h', nc', ns', hE, W1, b1, b2, w⟩
    · cases w
    · cases w
      obtain rfl : E = 0 := by simpa using hE
      · exact Or.inr ⟨14, _, by decide, rfl, zEs_run 1 rfl (zEs_end rfl rfl ⟨_, _, _, _, rfl, W1, by omega, by omega⟩)⟩
theorem w_204 {x1 x2 : Int32} (hW : zWI c c2 q h) : zMs xs 9 204 [.ref 0, .int x1, .int x2, .ref q] h nc ns (zWw c c2 q nc ns) := by
  obtain ⟨ws, hw⟩ := zWI_0 hW
  refine ⟨_, rfl, zEs_run 4 rfl ?_⟩
  refine zEs_callG rfl (show zcallV 2 5 70 7 (.int x2 :: .int x1 :: .ref 0 :: _) h = _ from zcallV_eq rfl hw (Nat.le_of_ble_eq_true rfl)) (zKr hW (fun s a T hL ht => (k_70 hL))) (fun v h9 nc1 ns1 w => ?_) (fun E h9 nc1 ns1 w => ?_)
  · rcases w with ⟨v', h', nc', ns', hv, W1, b1, b2, w⟩ | ⟨_, _, _, _, _, _, _, _, w⟩
    · cases w
      obtain ⟨x, rfl⟩ := hv
      obtain ⟨vs, q1, q2⟩ := zWI_q W1
      refine zEs_run 1 rfl ?_
      refine zEs_put rfl q1 rfl rfl (by omega) ?_
      exact zEs_run 2 rfl (zEs_end rfl rfl ⟨_, _, _, _, rfl, zWI_put W1 (by simpa using q2), by omega, by omega⟩)
    · cases w
  · rcases w with ⟨_, _, _, _, _, _, _, _, w⟩ | ⟨E', h', nc', ns', hE, W1, b1, b2, w⟩
    · cases w
    · cases w
      rcases (show E = 0 ∨ E = 1 by simpa using hE) with rfl | rfl
      · exact Or.inr ⟨20, _, by decide, rfl, zEs_run 1 rfl (zEs_end rfl rfl ⟨_, _, _, _, rfl, W1, by omega, by omega⟩)⟩
      · exact Or.inr ⟨16, _, by decide, rfl, zEs_run 1 rfl (zEs_end rfl rfl ⟨_, _, _, _, rfl, W1, by omega, by omega⟩)⟩
theorem w_205 {x1 x2 x3 : Int32} (hW : zWI c c2 q h) : zMs xs 9 205 [.ref 0, .int x1, .int x2, .int x3, .ref q] h nc ns (zWw c c2 q nc ns) := by
  obtain ⟨ws, hw⟩ := zWI_0 hW
  refine ⟨_, rfl, zEs_run 5 rfl ?_⟩
  refine zEs_callG rfl (show zcallV 3 5 71 9 (.int x3 :: .int x2 :: .int x1 :: .ref 0 :: _) h = _ from zcallV_eq rfl hw (Nat.le_of_ble_eq_true rfl)) (zKr hW (fun s a T hL ht => (k_71 hL))) (fun v h9 nc1 ns1 w => ?_) (fun E h9 nc1 ns1 w => ?_)
  · rcases w with ⟨v', h', nc', ns', hv, W1, b1, b2, w⟩ | ⟨_, _, _, _, _, _, _, _, w⟩
    · cases w
      obtain ⟨x, rfl⟩ := hv
      obtain ⟨vs, q1, q2⟩ := zWI_q W1
      refine zEs_run 1 rfl ?_
      refine zEs_put rfl q1 rfl rfl (by omega) ?_
      exact zEs_run 2 rfl (zEs_end rfl rfl ⟨_, _, _, _, rfl, zWI_put W1 (by simpa using q2), by omega, by omega⟩)
    · cases w
  · rcases w with ⟨_, _, _, _, _, _, _, _, w⟩ | ⟨E', h', nc', ns', hE, W1, b1, b2, w⟩
    · cases w
    · cases w
      rcases (show E = 0 ∨ E = 1 by simpa using hE) with rfl | rfl
      · exact Or.inr ⟨22, _, by decide, rfl, zEs_run 1 rfl (zEs_end rfl rfl ⟨_, _, _, _, rfl, W1, by omega, by omega⟩)⟩
      · exact Or.inr ⟨18, _, by decide, rfl, zEs_run 1 rfl (zEs_end rfl rfl ⟨_, _, _, _, rfl, W1, by omega, by omega⟩)⟩
theorem w_206 {x1 x2 : Int32} (hW : zWI c c2 q h) : zMs xs 9 206 [.ref 0, .int x1, .int x2, .ref q] h nc ns (zWw c c2 q nc ns) := by
  obtain ⟨ws, hw⟩ := zWI_0 hW
  refine ⟨_, rfl, zEs_run 4 rfl ?_⟩
  refine zEs_callG rfl (show zcallV 2 5 72 7 (.int x2 :: .int x1 :: .ref 0 :: _) h = _ from zcallV_eq rfl hw (Nat.le_of_ble_eq_true rfl)) (zKr hW (fun s a T hL ht => (k_72 hL))) (fun v h9 nc1 ns1 w => ?_) (fun E h9 nc1 ns1 w => ?_)
  · rcases w with ⟨v', h', nc', ns', hv, W1, b1, b2, w⟩ | ⟨_, _, _, _, _, _, _, _, w⟩
    · cases w
      obtain ⟨x, rfl⟩ := hv
      obtain ⟨vs, q1, q2⟩ := zWI_q W1
      refine zEs_run 1 rfl ?_
      refine zEs_put rfl q1 rfl rfl (by omega) ?_
      exact zEs_run 2 rfl (zEs_end rfl rfl ⟨_, _, _, _, rfl, zWI_put W1 (by simpa using q2), by omega, by omega⟩)
    · cases w
  · rcases w with ⟨_, _, _, _, _, _, _, _, w⟩ | ⟨E', h', nc', ns', hE, W1, b1, b2, w⟩
    · cases w
    · cases w
      rcases (show E = 0 ∨ E = 1 by simpa using hE) with rfl | rfl
      · exact Or.inr ⟨20, _, by decide, rfl, zEs_run 1 rfl (zEs_end rfl rfl ⟨_, _, _, _, rfl, W1, by omega, by omega⟩)⟩
      · exact Or.inr ⟨16, _, by decide, rfl, zEs_run 1 rfl (zEs_end rfl rfl ⟨_, _, _, _, rfl, W1, by omega, by omega⟩)⟩
theorem w_207 {x1 x2 : Int32} (hW : zWI c c2 q h) : zMs xs 9 207 [.ref 0, .int x1, .int x2, .ref q] h nc ns (zWw c c2 q nc ns) := by
  obtain ⟨ws, hw⟩ := zWI_0 hW
  refine ⟨_, rfl, zEs_run 4 rfl ?_⟩
  refine zEs_callG rfl (show zcallV 2 5 73 7 (.int x2 :: .int x1 :: .ref 0 :: _) h = _ from zcallV_eq rfl hw (Nat.le_of_ble_eq_true rfl)) (zKr hW (fun s a T hL ht => (k_73 hL))) (fun v h9 nc1 ns1 w => ?_) (fun E h9 nc1 ns1 w => ?_)
  · rcases w with ⟨v', h', nc', ns', hv, W1, b1, b2, w⟩ | ⟨_, _, _, _, _, _, _, _, w⟩
    · cases w
      obtain ⟨x, rfl⟩ := hv
      obtain ⟨vs, q1, q2⟩ := zWI_q W1
      refine zEs_run 1 rfl ?_
      refine zEs_put rfl q1 rfl rfl (by omega) ?_
      exact zEs_run 2 rfl (zEs_end rfl rfl ⟨_, _, _, _, rfl, zWI_put W1 (by simpa using q2), by omega, by omega⟩)
    · cases w
  · rcases w with ⟨_, _, _, _, _, _, _, _, w⟩ | ⟨E', h', nc', ns', hE, W1, b1, b2, w⟩
    · cases w
    · cases w
      obtain rfl : E = 1 := by simpa using hE
      · exact Or.inr ⟨16, _, by decide, rfl, zEs_run 1 rfl (zEs_end rfl rfl ⟨_, _, _, _, rfl, W1, by omega, by omega⟩)⟩
theorem w_208 {x1 : Int32} (hW : zWI c c2 q h) : zMs xs 9 208 [.ref 0, .int x1, .ref q] h nc ns (zWw c c2 q nc ns) := by
  obtain ⟨ws, hw⟩ := zWI_0 hW
  refine ⟨_, rfl, zEs_run 3 rfl ?_⟩
  refine zEs_callG rfl (show zcallV 1 5 74 6 (.int x1 :: .ref 0 :: _) h = _ from zcallV_eq rfl hw (Nat.le_of_ble_eq_true rfl)) (zKr hW (fun s a T hL ht => (k_74 hL))) (fun v h9 nc1 ns1 w => ?_) (fun E h9 nc1 ns1 w => ?_)
  · rcases w with ⟨v', h', nc', ns', hv, W1, b1, b2, w⟩ | ⟨_, _, _, _, _, _, _, _, w⟩
    · cases w
      obtain ⟨x, rfl⟩ := hv
      obtain ⟨vs, q1, q2⟩ := zWI_q W1
      refine zEs_run 1 rfl ?_
      refine zEs_put rfl q1 rfl rfl (by omega) ?_
      exact zEs_run 2 rfl (zEs_end rfl rfl ⟨_, _, _, _, rfl, zWI_put W1 (by simpa using q2), by omega, by omega⟩)
    · cases w
  · rcases w with ⟨_, _, _, _, _, _, _, _, w⟩ | ⟨E', h', nc', ns', hE, W1, b1, b2, w⟩
    · cases w
    · cases w
      obtain rfl : E = 0 := by simpa using hE
      · exact Or.inr ⟨14, _, by decide, rfl, zEs_run 1 rfl (zEs_end rfl rfl ⟨_, _, _, _, rfl, W1, by omega, by omega⟩)⟩
theorem w_209 {x1 : Int32} (hW : zWI c c2 q h) : zMs xs 9 209 [.ref 0, .int x1, .ref q] h nc ns (zWw c c2 q nc ns) := by
  obtain ⟨ws, hw⟩ := zWI_0 hW
  refine ⟨_, rfl, zEs_run 3 rfl ?_⟩
  refine zEs_callG rfl (show zcallV 1 5 75 6 (.int x1 :: .ref 0 :: _) h = _ from zcallV_eq rfl hw (Nat.le_of_ble_eq_true rfl)) (zKr hW (fun s a T hL ht => (k_75 hL))) (fun v h9 nc1 ns1 w => ?_) (fun E h9 nc1 ns1 w => ?_)
  · rcases w with ⟨v', h', nc', ns', hv, W1, b1, b2, w⟩ | ⟨_, _, _, _, _, _, _, _, w⟩
    · cases w
      obtain ⟨x, -, rfl⟩ := hv
      obtain ⟨vs, q1, q2⟩ := zWI_q W1
      refine zEs_put rfl q1 rfl rfl (by omega) ?_
      exact zEs_run 2 rfl (zEs_end rfl rfl ⟨_, _, _, _, rfl, zWI_put W1 (by simpa using q2), by omega, by omega⟩)
    · cases w
  · rcases w with ⟨_, _, _, _, _, _, _, _, w⟩ | ⟨E', h', nc', ns', hE, W1, b1, b2, w⟩
    · cases w
    · cases w
      obtain rfl : E = 1 := by simpa using hE
      · exact Or.inr ⟨13, _, by decide, rfl, zEs_run 1 rfl (zEs_end rfl rfl ⟨_, _, _, _, rfl, W1, by omega, by omega⟩)⟩
theorem w_210 {x1 x2 : Int32} (hW : zWI c c2 q h) : zMs xs 9 210 [.ref 0, .int x1, .int x2, .ref q] h nc ns (zWw c c2 q nc ns) := by
  obtain ⟨ws, hw⟩ := zWI_0 hW
  refine ⟨_, rfl, zEs_run 4 rfl ?_⟩
  refine zEs_callG rfl (show zcallV 2 5 76 7 (.int x2 :: .int x1 :: .ref 0 :: _) h = _ from zcallV_eq rfl hw (Nat.le_of_ble_eq_true rfl)) (zKa hW (fun s a T hL => (k_76 hL))) (fun v h9 nc1 ns1 w => ?_) (fun E h9 nc1 ns1 w => ?_)
  · rcases w with ⟨v', h', nc', ns', hv, W1, b1, b2, w⟩ | ⟨_, _, _, _, _, _, _, _, w⟩
    · cases w
      obtain ⟨x, rfl⟩ := hv
      obtain ⟨vs, q1, q2⟩ := zWI_q W1
      refine zEs_put rfl q1 rfl rfl (by omega) ?_
      exact zEs_run 2 rfl (zEs_end rfl rfl ⟨_, _, _, _, rfl, zWI_put W1 (by simpa using q2), by omega, by omega⟩)
    · cases w
  · rcases w with ⟨_, _, _, _, _, _, _, _, w⟩ | ⟨E', h', nc', ns', hE, W1, b1, b2, w⟩
    · cases w
    · cases w
      obtain rfl : E = 1 := by simpa using hE
      · exact Or.inr ⟨15, _, by decide, rfl, zEs_run 1 rfl (zEs_end rfl rfl ⟨_, _, _, _, rfl, W1, by omega, by omega⟩)⟩
theorem w_211 {x1 : Int32} (hW : zWI c c2 q h) : zMs xs 9 211 [.ref 0, .int x1, .ref q] h nc ns (zWw c c2 q nc ns) := by
  obtain ⟨ws, hw⟩ := zWI_0 hW
  refine ⟨_, rfl, zEs_run 3 rfl ?_⟩
  refine zEs_callG rfl (show zcallV 1 5 77 6 (.int x1 :: .ref 0 :: _) h = _ from zcallV_eq rfl hw (Nat.le_of_ble_eq_true rfl)) (zKr hW (fun s a T hL ht => (k_77 hL))) (fun v h9 nc1 ns1 w => ?_) (fun E h9 nc1 ns1 w => ?_)
  · rcases w with ⟨v', h', nc', ns', hv, W1, b1, b2, w⟩ | ⟨_, _, _, _, _, _, _, _, w⟩
    · cases w
      obtain ⟨x, rfl⟩ := hv
      obtain ⟨vs, q1, q2⟩ := zWI_q W1
      refine zEs_run 1 rfl ?_
      refine zEs_put rfl q1 rfl rfl (by omega) ?_
      exact zEs_run 2 rfl (zEs_end rfl rfl ⟨_, _, _, _, rfl, zWI_put W1 (by simpa using q2), by omega, by omega⟩)
    · cases w
  · rcases w with ⟨_, _, _, _, _, _, _, _, w⟩ | ⟨E', h', nc', ns', hE, W1, b1, b2, w⟩
    · cases w
    · cases w
      obtain rfl : E = 1 := by simpa using hE
      · exact Or.inr ⟨14, _, by decide, rfl, zEs_run 1 rfl (zEs_end rfl rfl ⟨_, _, _, _, rfl, W1, by omega, by omega⟩)⟩
theorem w_212 {x1 : Int32} (hW : zWI c c2 q h) : zMs xs 9 212 [.ref 0, .int x1, .ref q] h nc ns (zWw c c2 q nc ns) := by
  obtain ⟨ws, hw⟩ := zWI_0 hW
  refine ⟨_, rfl, zEs_run 3 rfl ?_⟩
  refine zEs_callG rfl (show zcallV 1 5 78 6 (.int x1 :: .ref 0 :: _) h = _ from zcallV_eq rfl hw (Nat.le_of_ble_eq_true rfl)) (zKr hW (fun s a T hL ht => (k_78 hL))) (fun v h9 nc1 ns1 w => ?_) (fun E h9 nc1 ns1 w => ?_)
  · rcases w with ⟨v', h', nc', ns', hv, W1, b1, b2, w⟩ | ⟨_, _, _, _, _, _, _, _, w⟩
    · cases w
      obtain ⟨x, rfl⟩ := hv
      obtain ⟨vs, q1, q2⟩ := zWI_q W1
      refine zEs_run 1 rfl ?_
      refine zEs_put rfl q1 rfl rfl (by omega) ?_
      exact zEs_run 2 rfl (zEs_end rfl rfl ⟨_, _, _, _, rfl, zWI_put W1 (by simpa using q2), by omega, by omega⟩)
    · cases w
  · rcases w with ⟨_, _, _, _, _, _, _, _, w⟩ | ⟨E', h', nc', ns', hE, W1, b1, b2, w⟩
    · cases w
    · cases w
      obtain rfl : E = 1 := by simpa using hE
      · exact Or.inr ⟨14, _, by decide, rfl, zEs_run 1 rfl (zEs_end rfl rfl ⟨_, _, _, _, rfl, W1, by omega, by omega⟩)⟩
theorem w_213 {x1 : Int32} (hW : zWI c c2 q h) : zMs xs 9 213 [.ref 0, .int x1, .ref q] h nc ns (zWw c c2 q nc ns) := by
  obtain ⟨ws, hw⟩ := zWI_0 hW
  refine ⟨_, rfl, zEs_run 3 rfl ?_⟩
  refine zEs_callG rfl (show zcallV 1 5 79 6 (.int x1 :: .ref 0 :: _) h = _ from zcallV_eq rfl hw (Nat.le_of_ble_eq_true rfl)) (zKo hW (by decide) (by decide) (fun s a T hL ht => (k_79 hL ht))) (fun v h9 nc1 ns1 w => ?_) (fun E h9 nc1 ns1 w => ?_)
  · rcases w with ⟨v', h', nc', ns', hv, W1, b1, b2, w⟩ | ⟨_, _, _, _, _, _, _, _, w⟩
    · cases w
      obtain ⟨x, rfl⟩ := hv
      obtain ⟨vs, q1, q2⟩ := zWI_q W1
      refine zEs_run 1 rfl ?_
      refine zEs_put rfl q1 rfl rfl (by omega) ?_
      exact zEs_run 2 rfl (zEs_end rfl rfl ⟨_, _, _, _, rfl, zWI_put W1 (by simpa using q2), by omega, by omega⟩)
    · cases w
  · rcases w with ⟨_, _, _, _, _, _, _, _, w⟩ | ⟨E', h', nc', ns', hE, W1, b1, b2, w⟩
    · cases w
    · cases w
      obtain rfl : E = 0 := by simpa using hE
      · exact Or.inr ⟨14, _, by decide, rfl, zEs_run 1 rfl (zEs_end rfl rfl ⟨_, _, _, _, rfl, W1, by omega, by omega⟩)⟩
theorem mm_140 {x1 x2 : Int32} (hW : zWI c c2 q h) : zMs xs 40 140 [.ref 44, .int x1, .int x2] h nc ns (zWm c c2 q zRi nc ns) := zMs_mono (show _ ≤ 40 by decide) (zWm_q (zq_of g_140 (fun T hT => by cases hT; rfl)) (by decide) (by decide) (zRi_of (a := -2147483648) (b := 2147483647)) hW (fun g lg h => ⟨zP_in, zIA_ok _, zIA_ok _, trivial⟩))
theorem mm_141 {x1 : Int32} (hW : zWI c c2 q h) : zMs xs 40 141 [.ref 44, .int x1] h nc ns (zWm c c2 q zRi nc ns) := zMs_mono (show _ ≤ 40 by decide) (zWm_q (zq_of g_141 (fun T hT => by cases hT; rfl)) (by decide) (by decide) (zRi_of (a := -2147483648) (b := 2147483647)) hW (fun g lg h => ⟨zP_in, zIA_ok _, trivial⟩))
theorem mm_142 {x1 x2 : Int32} (hW : zWI c c2 q h) : zMs xs 40 142 [.ref 44, .int x1, .int x2] h nc ns (zWm c c2 q zRi nc ns) := zMs_mono (show _ ≤ 40 by decide) (zWm_q (zq_of g_142 (fun T hT => by cases hT; rfl)) (by decide) (by decide) (zRi_of (a := -2147483648) (b := 2147483647)) hW (fun g lg h => ⟨zP_in, zIA_ok _, zIA_ok _, trivial⟩))
theorem mm_143 {x1 x2 x3 : Int32} (hW : zWI c c2 q h) (hx3 : x3 = 0 ∨ x3 = 1) : zMs xs 40 143 [.ref 44, .int x1, .int x2, .int x3] h nc ns (zWm c c2 q zRi nc ns) := zMs_mono (show _ ≤ 40 by decide) (zWm_q q_143 (by decide) (by decide) (zRi_of (a := -2147483648) (b := 2147483647)) hW (fun g lg h => ⟨zP_in, zIA_ok _, zIA_ok _, z01 hx3, trivial⟩))
theorem mm_144 {x1 x2 x3 : Int32} (hW : zWI c c2 q h) : zMs xs 40 144 [.ref 44, .int x1, .int x2, .int x3] h nc ns (zWm c c2 q zRi nc ns) := zMs_mono (show _ ≤ 40 by decide) (zWm_q q_144 (by decide) (by decide) (zRi_of (a := -2147483648) (b := 2147483647)) hW (fun g lg h => ⟨zP_in, zIA_ok _, zIA_ok _, zIA_ok _, trivial⟩))
theorem mm_145 {x1 x2 x3 : Int32} (hW : zWI c c2 q h) : zMs xs 40 145 [.ref 44, .int x1, .int x2, .int x3] h nc ns (zWm c c2 q zRi nc ns) := zMs_mono (show _ ≤ 40 by decide) (zWm_q (zq_of g_145 (fun T hT => by cases hT; rfl)) (by decide) (by decide) (zRi_of (a := -2147483648) (b := 2147483647)) hW (fun g lg h => ⟨zP_in, zIA_ok _, zIA_ok _, zIA_ok _, trivial⟩))
theorem mm_146 {x1 x2 x3 x4 x5 : Int32} (hW : zWI c c2 q h) (hx4 : x4 = 0 ∨ x4 = 1) (hx5 : x5 = 0 ∨ x5 = 1) : zMs xs 40 146 [.ref 44, .int x1, .int x2, .int x3, .int x4, .int x5] h nc ns (zWm c c2 q zRi nc ns) := zMs_mono (show _ ≤ 40 by decide) (zWm_q (zq_of g_146 (fun T hT => by cases hT; rfl)) (by decide) (by decide) (zRi_of (a := -2147483648) (b := 2147483647)) hW (fun g lg h => ⟨zP_in, zIA_ok _, zIA_ok _, zIA_ok _, z01 hx4, z01 hx5, trivial⟩))
theorem mm_147 {x1 x2 : Int32} (hW : zWI c c2 q h) : zMs xs 40 147 [.ref 44, .int x1, .int x2] h nc ns (zWm c c2 q zRi nc ns) := zMs_mono (show _ ≤ 40 by decide) (zWm_q q_147 (by decide) (by decide) (zRi_of (a := -2147483648) (b := 2147483647)) hW (fun g lg h => ⟨zP_in, zIA_ok _, zIA_ok _, trivial⟩))
theorem mm_148 {x1 x2 : Int32} (hW : zWI c c2 q h) (hx2 : x2 = 0 ∨ x2 = 1) : zMs xs 40 148 [.ref 44, .int x1, .int x2] h nc ns (zWm c c2 q zRi nc ns) := zMs_mono (show _ ≤ 40 by decide) (zWm_q (zq_of g_148 (fun T hT => by cases hT; rfl)) (by decide) (by decide) (zRi_of (a := -2147483648) (b := 2147483647)) hW (fun g lg h => ⟨zP_in, zIA_ok _, z01 hx2, trivial⟩))
theorem mm_150 {x1 : Int32} (hW : zWI c c2 q h) : zMs xs 40 150 [.ref 44, .int x1] h nc ns (zWm c c2 q zRi nc ns) := zMs_mono (show _ ≤ 40 by decide) (zWm_q q_150 (by decide) (by decide) (zRi_of (a := -2147483648) (b := 2147483647)) hW (fun g lg h => ⟨zP_in, zIA_ok _, trivial⟩))
theorem mm_151 (hW : zWI c c2 q h) : zMs xs 40 151 [.ref 44] h nc ns (zWm c c2 q zRi nc ns) := zMs_mono (show _ ≤ 40 by decide) (zWm_q q_151 (by decide) (by decide) (zRi_of (a := -2147483648) (b := 2147483647)) hW (fun g lg h => ⟨zP_in, trivial⟩))
theorem mm_153 {x1 : Int32} (hW : zWI c c2 q h) : zMs xs 40 153 [.ref 44, .int x1] h nc ns (zWm c c2 q zRi nc ns) := zMs_mono (show _ ≤ 40 by decide) (zWm_q (zq_of g_153 (fun T hT => by cases hT; rfl)) (by decide) (by decide) (zRi_of (a := -2147483648) (b := 2147483647)) hW (fun g lg h => ⟨zP_in, zIA_ok _, trivial⟩))
theorem mm_154 {x1 : Int32} (hW : zWI c c2 q h) : zMs xs 40 154 [.ref 44, .int x1] h nc ns (zWm c c2 q zRi nc ns) := zMs_mono (show _ ≤ 40 by decide) (zWm_q (zq_of g_154 (fun T hT => by cases hT; rfl)) (by decide) (by decide) (zRi_of (a := -2147483648) (b := 2147483647)) hW (fun g lg h => ⟨zP_in, zIA_ok _, trivial⟩))
theorem mm_155 {x1 x2 : Int32} (hW : zWI c c2 q h) : zMs xs 40 155 [.ref 44, .int x1, .int x2] h nc ns (zWm c c2 q zRi nc ns) := zMs_mono (show _ ≤ 40 by decide) (zWm_q (zq_of g_155 (fun T hT => by cases hT; rfl)) (by decide) (by decide) (zRi_of (a := -2147483648) (b := 2147483647)) hW (fun g lg h => ⟨zP_in, zIA_ok _, zIA_ok _, trivial⟩))
theorem mm_157 {x1 : Int32} (hW : zWI c c2 q h) : zMs xs 40 157 [.ref 44, .int x1] h nc ns (zWm c c2 q zRi nc ns) := zMs_mono (show _ ≤ 40 by decide) (zWm_q (zq_of g_157 (fun T hT => by cases hT; rfl)) (by decide) (by decide) (zRi_of (a := -2147483648) (b := 2147483647)) hW (fun g lg h => ⟨zP_in, zIA_ok _, trivial⟩))
theorem mm_160 {x1 x2 : Int32} (hW : zWI c c2 q h) : zMs xs 40 160 [.ref 44, .int x1, .int x2] h nc ns (zWm c c2 q zRi nc ns) := zMs_mono (show _ ≤ 40 by decide) (zWm_q (zq_of g_160 (fun T hT => by cases hT; rfl)) (by decide) (by decide) (zRi_of (a := -2147483648) (b := 2147483647)) hW (fun g lg h => ⟨zP_in, zIA_ok _, zIA_ok _, trivial⟩))
theorem mm_164 {x1 x2 x3 : Int32} (hW : zWI c c2 q h) : zMs xs 40 164 [.ref 44, .int x1, .int x2, .int x3] h nc ns (zWm c c2 q zRi nc ns) := zMs_mono (show _ ≤ 40 by decide) (zWm_q (zq_of g_164 (fun T hT => by cases hT; rfl)) (by decide) (by decide) (zRi_of (a := -2147483648) (b := 2147483647)) hW (fun g lg h => ⟨zP_in, zIA_ok _, zIA_ok _, zIA_ok _, trivial⟩))
theorem mm_165 {x1 x2 : Int32} (hW : zWI c c2 q h) : zMs xs 40 165 [.ref 44, .int x1, .int x2] h nc ns (zWm c c2 q zRi nc ns) := zMs_mono (show _ ≤ 40 by decide) (zWm_q (zq_of g_165 (fun T hT => by cases hT; rfl)) (by decide) (by decide) (zRi_of (a := -2147483648) (b := 2147483647)) hW (fun g lg h => ⟨zP_in, zIA_ok _, zIA_ok _, trivial⟩))
theorem mm_170 {x1 x2 : Int32} (hW : zWI c c2 q h) (hx2 : x2 = 0 ∨ x2 = 1) : zMs xs 40 170 [.ref 44, .int x1, .int x2] h nc ns (zWm c c2 q zRi nc ns) := zMs_mono (show _ ≤ 40 by decide) (zWm_q (zq_of g_170 (fun T hT => by cases hT; rfl)) (by decide) (by decide) (zRi_of (a := -2147483648) (b := 2147483647)) hW (fun g lg h => ⟨zP_in, zIA_ok _, z01 hx2, trivial⟩))
theorem mm_172 {x1 : Int32} (hW : zWI c c2 q h) : zMs xs 40 172 [.ref 44, .int x1] h nc ns (zWm c c2 q zRi nc ns) := zMs_mono (show _ ≤ 40 by decide) (zWm_q (zq_of g_172 (fun T hT => by cases hT; rfl)) (by decide) (by decide) (zRi_of (a := -2147483648) (b := 2147483647)) hW (fun g lg h => ⟨zP_in, zIA_ok _, trivial⟩))
theorem mm_174 {x1 : Int32} (hW : zWI c c2 q h) : zMs xs 40 174 [.ref 44, .int x1] h nc ns (zWm c c2 q zRd nc ns) := zMs_mono (show _ ≤ 40 by decide) (zWm_q (zq_of g_174 (fun T hT => by cases hT; rfl)) (by decide) (by decide) zRd_of hW (fun g lg h => ⟨zP_in, zIA_ok _, trivial⟩))
theorem mm_178 {x1 : Int32} (hW : zWI c c2 q h) : zMs xs 40 178 [.ref 44, .int x1] h nc ns (zWm c c2 q zRi nc ns) := zMs_mono (show _ ≤ 40 by decide) (zWm_q (zq_of g_178 (fun T hT => by cases hT; rfl)) (by decide) (by decide) (zRi_of (a := -2147483648) (b := 2147483647)) hW (fun g lg h => ⟨zP_in, zIA_ok _, trivial⟩))
theorem mm_180 {x1 : Int32} (hW : zWI c c2 q h) : zMs xs 40 180 [.ref 44, .int x1] h nc ns (zWm c c2 q zRi nc ns) := zMs_mono (show _ ≤ 40 by decide) (zWm_q (zq_of g_180 (fun T hT => by cases hT; rfl)) (by decide) (by decide) (zRi_of (a := -2147483648) (b := 2147483647)) hW (fun g lg h => ⟨zP_in, zIA_ok _, trivial⟩))
theorem mm_185 {x1 : Int32} (hW : zWI c c2 q h) : zMs xs 40 185 [.ref 44, .int x1] h nc ns (zWm c c2 q zRi nc ns) := zMs_mono (show _ ≤ 40 by decide) (zWm_q (zq_of g_185 (fun T hT => by cases hT; rfl)) (by decide) (by decide) (zRi_of (a := -2147483648) (b := 2147483647)) hW (fun g lg h => ⟨zP_in, zIA_ok _, trivial⟩))
theorem mm_187 (hW : zWI c c2 q h) : zMs xs 40 187 [.ref 44] h nc ns (zWm c c2 q zRi nc ns) := zMs_mono (show _ ≤ 40 by decide) (zWm_q (zq_of g_187 (fun T hT => by cases hT; rfl)) (by decide) (by decide) (zRi_of (a := 0) (b := 1)) hW (fun g lg h => ⟨zP_in, trivial⟩))
theorem mm_188 (hW : zWI c c2 q h) : zMs xs 40 188 [.ref 44] h nc ns (zWm c c2 q zRj nc ns) := zMs_mono (show _ ≤ 40 by decide) (zWm_q (zq_of g_188 (fun T hT => by cases hT; rfl)) (by decide) (by decide) zRj_of hW (fun g lg h => ⟨zP_in, trivial⟩))
theorem mm_175 {x1 x2 : Int32} (hW : zWI c c2 q h) : zMs xs 40 175 [.ref 44, .int x1, .int x2] h nc ns (zWm c c2 q zRs nc ns) := zMs_mono (by decide) (zWm_tell hW)
theorem mx_153 {x1 : Int32} (hW : zWI c c2 q h) : zMs xs 40 153 [.ref 44, .int x1] h nc ns (zWmx c c2 q h (zQ15 c2 x1) (zv15 c2 x1) nc ns) := by
  obtain ⟨vs, m⟩ := zWI_mo hW
  exact zWmx_of hW m.1 m.2.1 (mm_153 hW) (fun N => r_153 m)
theorem mx_154 {x1 : Int32} (hW : zWI c c2 q h) : zMs xs 40 154 [.ref 44, .int x1] h nc ns (zWmx c c2 q h (zQ16 c2 x1) (zv16 c2 x1) nc ns) := by
  obtain ⟨vs, m⟩ := zWI_mo hW
  exact zWmx_of hW m.1 m.2.1 (mm_154 hW) (fun N => r_154 m)
theorem mx_155 {x1 x2 : Int32} (hW : zWI c c2 q h) : zMs xs 40 155 [.ref 44, .int x1, .int x2] h nc ns (zWmx c c2 q h (zQ17 c2 x1 x2) (zv17 c2 x1 x2) nc ns) := by
  obtain ⟨vs, m⟩ := zWI_mo hW
  exact zWmx_of hW m.1 m.2.1 (mm_155 hW) (fun N => r_155 m)
end ZX1
