/-! Lists of int rows: what an ArrayList's cells are; size and get. -/
/-- the list at r: its data (none: the empty row of all lists), its elements -/
def zLs (h : zH) (r : Nat) (dq : Option Nat) (es : List Nat) : Prop := ∃ m : Int32, match dq with
  | none => es = [] ∧ h[r]? = some (10, [.int m, .retAddr 1, .int (Int32.ofNat es.length)])
  | some q => ∃ vs : List Value, h[r]? = some (10, [.int m, .ref q, .int (Int32.ofNat es.length)]) ∧ h[q]? = some (103, vs) ∧ es.length ≤ vs.length ∧ (0 < vs.length ∧ vs.length ≤ 1000) ∧ vs.take es.length = es.map Value.ref
section ZLL
variable {xs : List Int32} {D nc ns y pc nx k yy m c r : Nat} {h : zH} {L : zL} {rs : List Value} {P : zO → Prop} {dq : Option Nat} {es : List Nat} {j : Int32}
theorem zEs_aald {j : Int32} {a t : Nat} {vs : List Value} {v : Value} (h1 : zat (zmc y) pc = some (.aaload, nx, k, yy, m, c)) (ha : h[a]? = some (t, vs)) (ht : t = 103 ∨ t = 104) (hj : ¬ j < 0) (hv : vs[j.toNatClampNeg]? = some v) (g : zEs xs D y nx L (v :: rs) h nc ns P) : zEs xs D y pc L (.int j :: .ref a :: rs) h nc ns P := by
  refine zEs_step (dc := 0) (ds := 0) h1 ?_ g
  show zaald nx L (.int j :: .ref a :: rs) h = _
  unfold zaald
  dsimp only
  rw [ha]
  dsimp only
  rw [if_pos ht, hv]
  exact if_neg hj
theorem zLs_size (g : zLs h r dq es) : ∃ (mv d : Value), h[r]? = some (10, [mv, d, .int (Int32.ofNat es.length)]) := by
  obtain ⟨m, g⟩ := g
  cases dq with
  | none => exact ⟨_, _, g.2⟩
  | some q =>
    obtain ⟨vs, g, -⟩ := g
    exact ⟨_, _, g⟩
set_option maxRecDepth 10000
theorem m_243 (g : zLs h r dq es) : zMs xs (D + 0) 243 [.ref r] h nc ns (fun o => o = (.inl (some (.int (Int32.ofNat es.length))), h, nc, ns)) := by
  obtain ⟨mv, d, g⟩ := zLs_size g
  refine ⟨_, rfl, ?_⟩
  refine zEs_run 1 rfl ?_
  refine zEs_get rfl g rfl rfl ?_
  exact zEs_end rfl rfl rfl
theorem m_219 {n : Nat} (hn : n ≤ 1000) (h1 : 0 ≤ j.toInt) (h2 : j.toInt < n) : zMs xs (D + 0) 219 [.int j, .int (Int32.ofNat n), .null] h nc ns (fun o => o = (.inl (some (.int j)), h, nc, ns)) := by
  have hzz := zero_z
  have en : (Int32.ofNat n).toInt = (n : Int) := Int32.toInt_ofNat_of_lt (by omega)
  refine ⟨_, rfl, ?_⟩
  refine zEs_run 1 rfl ?_
  refine zEs_if rfl (fun g => ?_) (fun g => ?_)
  · have z := zF_lt_t g
    exfalso
    omega
  · refine zEs_run 2 rfl ?_
    refine zEs_icmp rfl (fun g => ?_) (fun g => ?_)
    · refine zEs_run 1 rfl ?_
      exact zEs_end rfl rfl rfl
    · have z := zF_lt_f g
      exfalso
      omega
theorem m_217 {n : Nat} (hn : n ≤ 1000) (h1 : 0 ≤ j.toInt) (h2 : j.toInt < n) : zMs xs (D + 1) 217 [.int j, .int (Int32.ofNat n)] h nc ns (fun o => o = (.inl (some (.int j)), h, nc, ns)) := by
  refine ⟨_, rfl, ?_⟩
  refine zEs_run 3 rfl ?_
  refine zEs_callG rfl rfl (m_219 hn h1 h2) (fun v h9 nc1 ns1 q => ?_) (fun E h9 nc1 ns1 q => by cases q)
  cases q
  exact zEs_end rfl rfl rfl
/-- get: an element -/
theorem m_239 (g : zLs h r dq es) (h1 : 0 ≤ j.toInt) (h2 : j.toInt < es.length) : zMs xs (D + 2) 239 [.ref r, .int j] h nc ns (fun o => ∃ e, e ∈ es ∧ o = (.inl (some (.ref e)), h, nc, ns)) := by
  have hzz := zero_z
  have g0 := g
  obtain ⟨m, g⟩ := g
  cases dq with
  | none =>
    obtain ⟨rfl, -⟩ := g
    exfalso
    simp at h2
    omega
  | some q =>
    obtain ⟨vs, k1, k2, k3, k4, k5⟩ := g
    have hj : ¬ j < 0 := fun z => by
      have z := zlt_z z
      omega
    have hjn : j.toNatClampNeg < es.length := by
      show j.toInt.toNat < _
      omega
    obtain ⟨e, he⟩ : ∃ e, es[j.toNatClampNeg]? = some e := ⟨_, List.getElem?_eq_getElem hjn⟩
    have hv : vs[j.toNatClampNeg]? = some (.ref e) := by
      have z : (vs.take es.length)[j.toNatClampNeg]? = (es.map Value.ref)[j.toNatClampNeg]? := by rw [k5]
      rw [List.getElem?_take, if_pos hjn, List.getElem?_map, he] at z
      exact z
    refine ⟨_, rfl, ?_⟩
    refine zEs_run 2 rfl ?_
    refine zEs_get rfl k1 rfl rfl ?_
    refine zEs_callG rfl rfl (m_217 (by omega) h1 h2) (fun v h9 nc1 ns1 q => ?_) (fun E h9 nc1 ns1 q => by cases q)
    cases q
    refine zEs_run 3 rfl ?_
    have key : zMs xs (D + 1) 238 [.ref r, .int j] h nc ns (fun o => o = (.inl (some (.ref e)), h, nc, ns)) := by
      refine ⟨_, rfl, ?_⟩
      refine zEs_run 1 rfl ?_
      refine zEs_get rfl k1 rfl rfl ?_
      refine zEs_run 1 rfl ?_
      refine zEs_aald rfl k2 (Or.inl rfl) hj hv ?_
      exact zEs_end rfl rfl rfl
    refine zEs_callG rfl (show zcallV 1 10 238 14 [.int j, .ref r] h = _ from zcallV_eq rfl k1 (by decide)) key (fun v h9 nc1 ns1 q => ?_) (fun E h9 nc1 ns1 q => by cases q)
    cases q
    exact zEs_end rfl rfl ⟨e, List.mem_of_getElem? he, rfl⟩
end ZLL
