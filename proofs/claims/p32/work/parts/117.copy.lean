/-! Arrays.copyOf of a row of references. -/
section ZLC
variable {xs : List Int32} {D nc ns n N a y pc nx k yy m c : Nat} {h X : zH} {vs : List Value} {L : zL} {rs : List Value} {P : zO → Prop}
theorem zset_app1 {x w : Nat × List Value} : (h ++ [x]).set h.length w = h ++ [w] := by
  rw [List.set_append_right _ _ (Nat.le_refl _), Nat.sub_self]
  rfl
theorem zelt_app {v : Value} (g : zelt h v = true) : zelt (h ++ X) v = true := by
  unfold zelt at g ⊢
  split at g
  · next k =>
    split at g
    · next t w e =>
      rw [List.getElem?_append_left (List.getElem?_eq_some_iff.mp e).1, e]
      exact g
    · cases g
  · rfl
  · cases g
theorem zEs_getc {j : Nat} {w : List Value} (h1 : zat (zmc y) pc = some (.invokevirtual j, nx, 11, yy, m, c)) (ha : h[a]? = some (103, w)) (hr : zcs rs ≤ 8) (g : zEs xs D y nx L (.retAddr 2 :: rs) h nc ns P) : zEs xs D y pc L (.ref a :: rs) h nc ns P := by
  refine zEs_step (dc := 0) (ds := 0) h1 ?_ g
  show zgetc nx L (.ref a :: rs) h = _
  unfold zgetc
  dsimp only
  rw [ha]
  exact if_pos ⟨rfl, hr⟩
set_option maxRecDepth 10000
end ZLC
