/-! grow of a full list. -/
section ZLG
variable {xs : List Int32} {D nc ns r q n : Nat} {h : zH} {vs : List Value} {m : Int32}
set_option maxRecDepth 10000
theorem m_240b (h0 : h[r]? = some (10, [.int m, .ref q, .int (Int32.ofNat n)])) (h1 : h[q]? = some (103, vs)) (hv : vs.length = n) (hn0 : 0 < n) (hn : n ≤ 500) (hz : vs.all (zelt h) = true) : zMs xs (D + 2) 240 [.ref r, .int (Int32.ofNat n + Int32.ofInt 1)] h nc ns (fun o => o = (.inl (some (.ref h.length)), (h ++ [(103, vs ++ List.replicate (zgr n - n) Value.null)]).set r (10, [Value.int m, Value.ref h.length, Value.int (Int32.ofNat n)]), nc + 1, ns + zgr n)) := by
  have hrl : r < h.length := (List.getElem?_eq_some_iff.mp h0).1
  obtain ⟨b1, b2⟩ := zgr_b hn
  refine ⟨_, rfl, ?_⟩
  refine zEs_run 1 rfl ?_
  refine zEs_get rfl h0 rfl rfl ?_
  refine zEs_alen rfl h1 (by decide) ?_
  rw [hv]
  refine zEs_run 2 rfl ?_
  refine zEs_if rfl (fun _ => ?_) (fun g => ?_)
  · refine zEs_run 7 rfl ?_
    refine zEs_callG rfl rfl (m_235 hn) (fun v h9 nc1 ns1 q => ?_) (fun E h9 nc1 ns1 q => by cases q)
    cases q
    refine zEs_run 3 rfl ?_
    refine zEs_get rfl h0 rfl rfl ?_
    refine zEs_run 1 rfl ?_
    refine zEs_callG rfl rfl (m_233 (N := zgr n) h1 hv hn (by omega) b2 hz) (fun v h9 nc1 ns1 q => ?_) (fun E h9 nc1 ns1 q => by cases q)
    cases q
    refine zEs_run 1 rfl ?_
    refine zEs_put rfl (show (h ++ [(103, vs ++ List.replicate (zgr n - n) Value.null)])[r]? = some (10, [.int m, .ref q, .int (Int32.ofNat n)]) from by rw [List.getElem?_append_left hrl]; exact h0) rfl rfl (by show 1 < 3; omega) ?_
    exact zEs_end rfl rfl rfl
  · have z := zF_gt_f g
    rw [zof_z (by omega), zero_z] at z
    exfalso
    omega
theorem m_241b (h0 : h[r]? = some (10, [.int m, .ref q, .int (Int32.ofNat n)])) (h1 : h[q]? = some (103, vs)) (hv : vs.length = n) (hn0 : 0 < n) (hn : n ≤ 500) (hz : vs.all (zelt h) = true) : zMs xs (D + 3) 241 [.ref r] h nc ns (fun o => o = (.inl (some (.ref h.length)), (h ++ [(103, vs ++ List.replicate (zgr n - n) Value.null)]).set r (10, [Value.int m, Value.ref h.length, Value.int (Int32.ofNat n)]), nc + 1, ns + zgr n)) := by
  refine ⟨_, rfl, ?_⟩
  refine zEs_run 2 rfl ?_
  refine zEs_get rfl h0 rfl rfl ?_
  refine zEs_run 2 rfl ?_
  refine zEs_callG rfl (show zcallV 1 10 240 10 [.int (Int32.ofNat n + Int32.ofInt 1), .ref r] h = _ from zcallV_eq rfl h0 (by decide)) (m_240b h0 h1 hv hn0 hn hz) (fun v h9 nc1 ns1 q => ?_) (fun E h9 nc1 ns1 q => by cases q)
  cases q
  exact zEs_end rfl rfl rfl
end ZLG
