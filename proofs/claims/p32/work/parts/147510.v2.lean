/-! The reference's columns, word for word. -/
section ZPN
variable {xs : List Int32} {N : Nat} {h : zH} {nc ns : Nat} {P : zO → Prop}
theorem zha_get {l : List Int32} : (h ++ [zar l])[h.length]? = some (100, l.map Value.int) := by
  rw [List.getElem?_append_right (Nat.le_refl _), Nat.sub_self]
  rfl
theorem zha_set {l l' : List Int32} : (h ++ [zar l]).set h.length (100, l'.map Value.int) = h ++ [zar l'] := by
  rw [List.set_append_right _ _ (Nat.le_refl _), Nat.sub_self]
  rfl
/-- a row whose first places are told, the others 0 -/
abbrev zrw (M : Nat) (acc : List Int32) : List Int32 := acc ++ List.replicate (M - acc.length) 0
theorem zrw_add {M : Nat} {acc : List Int32} {v : Int32} (hM : acc.length < M) : (zrw M acc).set acc.length v = zrw M (acc ++ [v]) := by
  show (acc ++ List.replicate (M - acc.length) 0).set acc.length v = (acc ++ [v]) ++ List.replicate (M - (acc ++ [v]).length) 0
  rw [List.set_append_right _ _ (Nat.le_refl _), Nat.sub_self, List.length_append, show [v].length = 1 from rfl, show M - acc.length = (M - (acc.length + 1)) + 1 by omega, List.replicate_succ, List.set_cons_zero, List.append_assoc]
  rfl
theorem zrw_len {M : Nat} {acc : List Int32} (hM : acc.length ≤ M) : (zrw M acc).length = M := by
  show (acc ++ List.replicate (M - acc.length) 0).length = M
  rw [List.length_append, List.length_replicate]
  omega
end ZPN
