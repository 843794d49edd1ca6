/-! add: room, or full. -/
section ZLD
variable {xs : List Int32} {D nc ns r q n e : Nat} {h : zH} {vs w : List Value} {m : Int32} {es : List Nat}
set_option maxRecDepth 10000
theorem m_236c (h0 : h[r]? = some (10, [.int m, .ref q, .int (Int32.ofNat es.length)])) (h1 : h[q]? = some (103, vs)) (hn : es.length < vs.length) (hc : vs.length ≤ 1000) (hn5 : es.length ≤ 500) (hvs : vs.take es.length = es.map Value.ref) (he : h[e]? = some (100, w)) : zMs xs (D + 4) 236 [.ref r, .ref e, .ref q, .int (Int32.ofNat es.length)] h nc ns (zAd h r e (some q) es nc ns none) := by
  refine ⟨_, rfl, ?_⟩
  refine zEs_run 2 rfl ?_
  refine zEs_alen rfl h1 (by decide) ?_
  refine zEs_icmp rfl (fun _ => ?_) (fun g => ?_)
  · refine l_236 h0 h1 hn hn5 he ?_
    refine ⟨_, some q, _, _, rfl, zls_fin h0 h1 hn hc hvs, Or.inl rfl, by simp, by omega, by omega, fun k a1 a2 a3 => ?_⟩
    rw [List.getElem?_set_ne (fun z => a2 z.symm), List.getElem?_set_ne (fun z => a3 (by rw [z]))]
  · have z := zF_ne_f g
    rw [zof_z (by omega), zof_z (by omega)] at z
    exfalso
    omega
theorem m_236b (h0 : h[r]? = some (10, [.int m, .ref q, .int (Int32.ofNat es.length)])) (h1 : h[q]? = some (103, vs)) (hn : vs.length = es.length) (hn0 : 0 < es.length) (hn5 : es.length ≤ 400) (hvs : vs.take es.length = es.map Value.ref) (he : h[e]? = some (100, w)) (hz : vs.all (zelt h) = true) : zMs xs (D + 4) 236 [.ref r, .ref e, .ref q, .int (Int32.ofNat es.length)] h nc ns (zAd h r e (some q) es nc ns none) := by
  have hrl := (List.getElem?_eq_some_iff.mp h0).1
  have hel := (List.getElem?_eq_some_iff.mp he).1
  have hre : ¬ r = e := by
    intro z
    subst z
    rw [h0] at he
    cases he
  obtain ⟨b1, b2⟩ := zgr_b (n := es.length) (by omega)
  have b3 : zgr es.length ≤ 700 := by
    unfold zgr
    split <;> omega
  have b4 : zgr es.length ≤ 2 * es.length + 11 := by
    unfold zgr
    split <;> omega
  refine ⟨_, rfl, ?_⟩
  refine zEs_run 2 rfl ?_
  refine zEs_alen rfl h1 (by decide) ?_
  rw [hn]
  refine zEs_icmp rfl (fun g => absurd rfl (show ¬ _ = _ from g)) (fun _ => ?_)
  refine zEs_run 1 rfl ?_
  refine zEs_callG rfl (show zcallV 0 10 241 10 [.ref r] h = _ from zcallV_eq rfl h0 (by decide)) (m_241b h0 h1 hn hn0 (by omega) hz) (fun v h9 nc1 ns1 q => ?_) (fun E h9 nc1 ns1 q => by cases q)
  cases q
  refine zEs_run 1 rfl ?_
  have k0 : ((h ++ [(103, vs ++ List.replicate (zgr es.length - es.length) Value.null)]).set r (10, [Value.int m, Value.ref h.length, Value.int (Int32.ofNat es.length)]))[r]? = some (10, [.int m, .ref h.length, .int (Int32.ofNat es.length)]) := List.getElem?_set_self (by simp; omega)
  have k1 : ((h ++ [(103, vs ++ List.replicate (zgr es.length - es.length) Value.null)]).set r (10, [Value.int m, Value.ref h.length, Value.int (Int32.ofNat es.length)]))[h.length]? = some (103, vs ++ List.replicate (zgr es.length - es.length) Value.null) := by
    rw [List.getElem?_set_ne (by omega), List.getElem?_append_right (Nat.le_refl _), Nat.sub_self]
    rfl
  have k2 : ((h ++ [(103, vs ++ List.replicate (zgr es.length - es.length) Value.null)]).set r (10, [Value.int m, Value.ref h.length, Value.int (Int32.ofNat es.length)]))[e]? = some (100, w) := by
    rw [List.getElem?_set_ne hre, List.getElem?_append_left hel]
    exact he
  refine l_236 k0 k1 (by simp; omega) (by omega) k2 ?_
  refine ⟨_, some h.length, _, _, rfl, zls_fin k0 k1 (by simp; omega) (by simp; omega) (by rw [← hvs, List.take_append_of_le_length (by omega)]), Or.inr rfl, by simp, by omega, by omega, fun k a1 a2 a3 => ?_⟩
  rw [List.getElem?_set_ne (fun z => a2 z.symm), List.getElem?_set_ne (by omega), List.getElem?_set_ne (fun z => a2 z.symm), List.getElem?_append_left a1]
end ZLD
