/-! add. -/
section ZLD
variable {xs : List Int32} {D nc ns r q n e : Nat} {h : zH} {vs w : List Value} {m : Int32} {P : zO → Prop}
set_option maxRecDepth 10000
theorem l_236 (h0 : h[r]? = some (10, [.int m, .ref q, .int (Int32.ofNat n)])) (h1 : h[q]? = some (103, vs)) (hn : n < vs.length) (hn5 : n ≤ 500) (he : h[e]? = some (100, w)) (hP : P (.inl none, (h.set q (103, vs.set n (.ref e))).set r (10, [Value.int m, Value.ref q, Value.int (Int32.ofNat (n + 1))]), nc, ns)) : zEs xs (D + 4) 236 11 [some (.ref r), some (.ref e), some (.ref q), some (.int (Int32.ofNat n))] [] h nc ns P := by
  obtain ⟨p1, p2⟩ := zof_n (n := n) (by omega)
  have hrq : ¬ q = r := by
    intro z
    subst z
    rw [h0] at h1
    cases h1
  refine zEs_run 3 rfl ?_
  refine zEs_aast rfl h1 he p1 (by rw [p2]; exact hn) ?_
  rw [p2]
  refine zEs_run 4 rfl ?_
  rw [show (fun x y : Int32 => x + y) (Int32.ofNat n) (Int32.ofInt 1) = Int32.ofNat (n + 1) from (nI_succ n).symm]
  refine zEs_put rfl (show (h.set q (103, vs.set n (.ref e)))[r]? = some (10, [.int m, .ref q, .int (Int32.ofNat n)]) from by rw [List.getElem?_set_ne hrq]; exact h0) rfl rfl (by show 2 < 3; omega) ?_
  exact zEs_end rfl rfl hP
end ZLD
