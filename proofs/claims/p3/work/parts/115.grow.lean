/-! grow: an empty list, and a full one. -/
section ZLG
variable {xs : List Int32} {D nc ns r : Nat} {h : zH}
set_option maxRecDepth 10000
theorem m_240a {m : Int32} (h0 : h[r]? = some (10, [.int m, .retAddr 1, .int (Int32.ofNat 0)])) : zMs xs (D + 0) 240 [.ref r, .int (Int32.ofNat 0 + Int32.ofInt 1)] h nc ns (fun o => o = (.inl (some (.ref h.length)), (h ++ [(103, List.replicate 10 Value.null)]).set r (10, [Value.int m, Value.ref h.length, Value.int (Int32.ofNat 0)]), nc + 1, ns + 10)) := by
  have hrl : r < h.length := (List.getElem?_eq_some_iff.mp h0).1
  refine ⟨_, rfl, ?_⟩
  refine zEs_run 1 rfl ?_
  refine zEs_get rfl h0 rfl rfl ?_
  refine zEs_run 3 rfl ?_
  refine zEs_if rfl (fun g => absurd (show (0 : Int32) < 0 from g) (by decide)) (fun _ => ?_)
  refine zEs_run 1 rfl ?_
  refine zEs_get rfl h0 rfl rfl ?_
  refine zEs_run 6 rfl ?_
  refine zEs_anewa rfl (by decide) (by decide) ?_
  rw [show ((fun x y : Int32 => if x < y then y else x) ((Int8.ofInt 10).toInt32) (Int32.ofNat 0 + Int32.ofInt 1)).toNatClampNeg = 10 from by decide]
  refine zEs_run 1 rfl ?_
  refine zEs_put rfl (show (h ++ [(103, List.replicate 10 Value.null)])[r]? = some (10, [.int m, .retAddr 1, .int (Int32.ofNat 0)]) from by rw [List.getElem?_append_left hrl]; exact h0) rfl rfl (by show 1 < 3; omega) ?_
  exact zEs_end rfl rfl rfl
theorem m_241a {m : Int32} (h0 : h[r]? = some (10, [.int m, .retAddr 1, .int (Int32.ofNat 0)])) : zMs xs (D + 1) 241 [.ref r] h nc ns (fun o => o = (.inl (some (.ref h.length)), (h ++ [(103, List.replicate 10 Value.null)]).set r (10, [Value.int m, Value.ref h.length, Value.int (Int32.ofNat 0)]), nc + 1, ns + 10)) := by
  refine ⟨_, rfl, ?_⟩
  refine zEs_run 2 rfl ?_
  refine zEs_get rfl h0 rfl rfl ?_
  refine zEs_run 2 rfl ?_
  refine zEs_callG rfl (show zcallV 1 10 240 10 [.int (Int32.ofNat 0 + Int32.ofInt 1), .ref r] h = _ from zcallV_eq rfl h0 (by decide)) (m_240a h0) (fun v h9 nc1 ns1 q => ?_) (fun E h9 nc1 ns1 q => by cases q)
  cases q
  exact zEs_end rfl rfl rfl
end ZLG
