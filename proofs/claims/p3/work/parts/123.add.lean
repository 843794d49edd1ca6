/-! add, from outside. -/
section ZLD
variable {xs : List Int32} {D nc ns r q n e : Nat} {h : zH} {vs w : List Value} {m : Int32} {es : List Nat} {dq : Option Nat}
set_option maxRecDepth 10000
theorem m_237 (g : zLs h r dq es) (he : h[e]? = some (100, w)) (hel : ∀ x ∈ es, ∃ w, h[x]? = some (100, w)) (hn5 : es.length ≤ 400) : zMs xs (D + 5) 237 [.ref r, .ref e] h nc ns (zAd h r e dq es nc ns (some (.int 1))) := by
  have key : ∀ (d : Value) (m : Int32) (h0 : h[r]? = some (10, [.int m, d, .int (Int32.ofNat es.length)])), (zMs xs (D + 4) 236 [.ref r, .ref e, d, .int (Int32.ofNat es.length)] (h.set r (10, [.int (m + Int32.ofInt 1), d, .int (Int32.ofNat es.length)])) nc ns (zAd (h.set r (10, [.int (m + Int32.ofInt 1), d, .int (Int32.ofNat es.length)])) r e dq es nc ns none)) → zMs xs (D + 5) 237 [.ref r, .ref e] h nc ns (zAd h r e dq es nc ns (some (.int 1))) := by
    intro d m h0 hc
    have hrl := (List.getElem?_eq_some_iff.mp h0).1
    refine ⟨_, rfl, ?_⟩
    refine zEs_run 2 rfl ?_
    refine zEs_get rfl h0 rfl rfl ?_
    refine zEs_run 2 rfl ?_
    refine zEs_put rfl h0 rfl rfl (by show 0 < 3; omega) ?_
    have h1 : (h.set r (10, [.int (m + Int32.ofInt 1), d, .int (Int32.ofNat es.length)]))[r]? = some (10, [.int (m + Int32.ofInt 1), d, .int (Int32.ofNat es.length)]) := List.getElem?_set_self hrl
    refine zEs_run 3 rfl ?_
    refine zEs_get rfl h1 rfl rfl ?_
    refine zEs_run 1 rfl ?_
    refine zEs_get rfl h1 rfl rfl ?_
    refine zEs_callG rfl (show zcallV 3 10 236 23 [.int (Int32.ofNat es.length), d, .ref e, .ref r] (h.set r (10, [.int (m + Int32.ofInt 1), d, .int (Int32.ofNat es.length)])) = _ from zcallV_eq rfl h1 (by decide)) hc (fun v h9 nc1 ns1 q => ?_) (fun E h9 nc1 ns1 q => by obtain ⟨_, _, _, _, q, _⟩ := q; cases q)
    obtain ⟨h', dq', nc', ns', q, a1, a2, a3, a4, a5, a6⟩ := q
    cases q
    refine zEs_run 1 rfl ?_
    refine zEs_end rfl rfl ⟨h9, dq', nc1, ns1, rfl, a1, by simpa using a2, by simpa using a3, a4, a5, fun k b1 b2 b3 => ?_⟩
    rw [a6 k (by simpa using b1) b2 b3, List.getElem?_set_ne (fun z => b2 z.symm)]
  obtain ⟨m, g⟩ := g
  cases dq with
  | none =>
    obtain ⟨rfl, h0⟩ := g
    have hrl := (List.getElem?_eq_some_iff.mp h0).1
    have hre : ¬ r = e := by
      intro z
      subst z
      rw [h0] at he
      cases he
    exact key _ m h0 (m_236a (List.getElem?_set_self hrl) (by rw [List.getElem?_set_ne hre]; exact he))
  | some q =>
    obtain ⟨vs, h0, h1, h2, h3, h4⟩ := g
    have hrl := (List.getElem?_eq_some_iff.mp h0).1
    have hre : ¬ r = e := by
      intro z
      subst z
      rw [h0] at he
      cases he
    have hrq : ¬ r = q := by
      intro z
      subst z
      rw [h0] at h1
      cases h1
    have g0 : (h.set r (10, [.int (m + Int32.ofInt 1), .ref q, .int (Int32.ofNat es.length)]))[r]? = some (10, [.int (m + Int32.ofInt 1), .ref q, .int (Int32.ofNat es.length)]) := List.getElem?_set_self hrl
    have g1 : (h.set r (10, [.int (m + Int32.ofInt 1), .ref q, .int (Int32.ofNat es.length)]))[q]? = some (103, vs) := by rw [List.getElem?_set_ne hrq]; exact h1
    have g2 : (h.set r (10, [.int (m + Int32.ofInt 1), .ref q, .int (Int32.ofNat es.length)]))[e]? = some (100, w) := by rw [List.getElem?_set_ne hre]; exact he
    by_cases hf : es.length < vs.length
    · exact key _ m h0 (m_236c g0 g1 hf (by omega) (by omega) h4 g2)
    · refine key _ m h0 (m_236b g0 g1 (by omega) (by omega) hn5 h4 g2 (List.all_eq_true.mpr (fun x hx => ?_)))
      rw [List.take_of_length_le (by omega)] at h4
      rw [h4] at hx
      obtain ⟨k, hk, rfl⟩ := List.mem_map.mp hx
      obtain ⟨w2, hw⟩ := hel k hk
      have hrk : ¬ r = k := by
        intro z
        subst z
        rw [h0] at hw
        cases hw
      show (match (h.set r (10, [.int (m + Int32.ofInt 1), .ref q, .int (Int32.ofNat es.length)]))[k]? with
        | some (t, _) => decide (t = 100)
        | none => false) = true
      rw [List.getElem?_set_ne hrk, hw]
      rfl
end ZLD
