/-! Arrays.copyOf of a row of references. -/
section ZLC
variable {xs : List Int32} {D nc ns n N a y pc nx k yy m c : Nat} {h X : zH} {vs : List Value} {L : zL} {rs : List Value} {P : zO → Prop}
theorem zset_app1 {x w : Nat × List Value} : (h ++ [x]).set h.length w = h ++ [w] := by
  rw [List.set_append_right _ _ (Nat.le_refl _), Nat.sub_self]
  rfl
theorem zelt_app {v : Value} (g : zelt h v = true) : zelt (h ++ X) v = true := by
  unfold zelt at g ⊢
  split at g
  · next k =>
    split at g
    · next t w e =>
      rw [List.getElem?_append_left (List.getElem?_eq_some_iff.mp e).1, e]
      exact g
    · cases g
  · rfl
  · cases g
theorem zEs_getc {j : Nat} {w : List Value} (h1 : zat (zmc y) pc = some (.invokevirtual j, nx, 11, yy, m, c)) (ha : h[a]? = some (103, w)) (hr : zcs rs ≤ 8) (g : zEs xs D y nx L (.retAddr 2 :: rs) h nc ns P) : zEs xs D y pc L (.ref a :: rs) h nc ns P := by
  refine zEs_step (dc := 0) (ds := 0) h1 ?_ g
  show zgetc nx L (.ref a :: rs) h = _
  unfold zgetc
  dsimp only
  rw [ha]
  exact if_pos ⟨rfl, hr⟩
set_option maxRecDepth 10000
theorem m_234 (h0 : h[a]? = some (103, vs)) (hv : vs.length = n) (hn : n ≤ 500) (hN : n ≤ N) (hN2 : N ≤ 1001) (hz : vs.all (zelt h) = true) : zMs xs (D + 0) 234 [.ref a, .int (Int32.ofNat N), .retAddr 2] h nc ns (fun o => o = (.inl (some (.ref h.length)), h ++ [(103, vs ++ List.replicate (N - n) Value.null)], nc + 1, ns + N)) := by
  obtain ⟨q1, q2⟩ := zof_n (n := N) (by omega)
  obtain ⟨p1, p2⟩ := zof_n (n := n) (by omega)
  have hal : a < h.length := (List.getElem?_eq_some_iff.mp h0).1
  refine ⟨_, rfl, ?_⟩
  refine zEs_run 4 rfl ?_
  refine zEs_anewa rfl q1 (by rw [q2]; omega) ?_
  rw [q2]
  have g0 : (h ++ [(103, List.replicate N Value.null)])[a]? = some (103, vs) := by rw [List.getElem?_append_left hal]; exact h0
  have g1 : (h ++ [(103, List.replicate N Value.null)])[h.length]? = some (103, List.replicate N Value.null) := by
    rw [List.getElem?_append_right (Nat.le_refl _), Nat.sub_self]
    rfl
  refine zEs_run 7 rfl ?_
  refine zEs_alen rfl g0 (by decide) ?_
  rw [hv]
  refine zEs_run 2 rfl ?_
  have e : (if Int32.ofNat N < Int32.ofNat n then Int32.ofNat N else Int32.ofNat n) = Int32.ofNat n := by
    rw [if_neg]
    intro g
    have g := zlt_z g
    rw [zof_z (n := N) (by omega), zof_z (n := n) (by omega)] at g
    omega
  rw [show (fun x y : Int32 => if y < x then y else x) (Int32.ofNat n) (Int32.ofNat N) = Int32.ofNat n from e]
  refine zEs_copyq rfl g0 g1 (by
    rw [p2, List.take_of_length_le (by omega)]
    exact List.all_eq_true.mpr (fun x hx => zelt_app (List.all_eq_true.mp hz x hx))) (by decide) p1 (by rw [p2]; omega) (by rw [p2]; simp; omega) ?_
  rw [p2, List.take_of_length_le (show vs.length ≤ n by omega), List.drop_replicate, zset_app1]
  refine zEs_run 1 rfl ?_
  exact zEs_end rfl rfl rfl
theorem m_233 (h0 : h[a]? = some (103, vs)) (hv : vs.length = n) (hn : n ≤ 500) (hN : n ≤ N) (hN2 : N ≤ 1001) (hz : vs.all (zelt h) = true) : zMs xs (D + 1) 233 [.ref a, .int (Int32.ofNat N)] h nc ns (fun o => o = (.inl (some (.ref h.length)), h ++ [(103, vs ++ List.replicate (N - n) Value.null)], nc + 1, ns + N)) := by
  refine ⟨_, rfl, ?_⟩
  refine zEs_run 3 rfl ?_
  refine zEs_getc rfl h0 (Nat.le_of_ble_eq_true rfl) ?_
  refine zEs_callG rfl rfl (m_234 h0 hv hn hN hN2 hz) (fun v h9 nc1 ns1 q => ?_) (fun E h9 nc1 ns1 q => by cases q)
  cases q
  exact zEs_end rfl rfl rfl
end ZLC
