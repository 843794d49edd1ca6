/-! add: the three cases. -/
section ZLD
variable {xs : List Int32} {D nc ns r q n e : Nat} {h : zH} {vs w : List Value} {m : Int32} {es : List Nat}
set_option maxRecDepth 10000
theorem m_236a (h0 : h[r]? = some (10, [.int m, .retAddr 1, .int (Int32.ofNat 0)])) (he : h[e]? = some (100, w)) : zMs xs (D + 4) 236 [.ref r, .ref e, .retAddr 1, .int (Int32.ofNat 0)] h nc ns (zAd h r e none [] nc ns none) := by
  have hrl := (List.getElem?_eq_some_iff.mp h0).1
  have hel := (List.getElem?_eq_some_iff.mp he).1
  have hre : ¬ r = e := by
    intro z
    subst z
    rw [h0] at he
    cases he
  refine ⟨_, rfl, ?_⟩
  refine zEs_run 3 rfl ?_
  refine zEs_icmp rfl (fun g => absurd (show Int32.ofNat 0 = 0 from by decide) g) (fun _ => ?_)
  refine zEs_run 1 rfl ?_
  refine zEs_callG rfl (show zcallV 0 10 241 10 [.ref r] h = _ from zcallV_eq rfl h0 (by decide)) (m_241a h0) (fun v h9 nc1 ns1 q => ?_) (fun E h9 nc1 ns1 q => by cases q)
  cases q
  refine zEs_run 1 rfl ?_
  have k0 : ((h ++ [(103, List.replicate 10 Value.null)]).set r (10, [Value.int m, Value.ref h.length, Value.int (Int32.ofNat 0)]))[r]? = some (10, [.int m, .ref h.length, .int (Int32.ofNat ([] : List Nat).length)]) := List.getElem?_set_self (by simp; omega)
  have k1 : ((h ++ [(103, List.replicate 10 Value.null)]).set r (10, [Value.int m, Value.ref h.length, Value.int (Int32.ofNat 0)]))[h.length]? = some (103, List.replicate 10 Value.null) := by
    rw [List.getElem?_set_ne (by omega), List.getElem?_append_right (Nat.le_refl _), Nat.sub_self]
    rfl
  have k2 : ((h ++ [(103, List.replicate 10 Value.null)]).set r (10, [Value.int m, Value.ref h.length, Value.int (Int32.ofNat 0)]))[e]? = some (100, w) := by
    rw [List.getElem?_set_ne hre, List.getElem?_append_left hel]
    exact he
  refine l_236 (n := 0) k0 k1 (by simp) (by omega) k2 ?_
  refine ⟨_, some h.length, _, _, rfl, zls_fin (es := []) k0 k1 (by simp) (by simp) rfl, Or.inr rfl, by simp, by omega, by omega, fun k a1 a2 a3 => ?_⟩
  rw [List.getElem?_set_ne (fun z => a2 z.symm), List.getElem?_set_ne (by omega), List.getElem?_set_ne (fun z => a2 z.symm), List.getElem?_append_left a1]
end ZLD
