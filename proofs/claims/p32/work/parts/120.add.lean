/-! add, whole: the list takes e; what is neither the list nor its data stays. -/
/-- what add leaves: the cells of the list anew, the rest as it was -/
def zAd (h : zH) (r e : Nat) (dq : Option Nat) (es : List Nat) (nc ns : Nat) (v : Option Value) : zO → Prop := fun o => ∃ (h' : zH) (dq' : Option Nat) (nc' ns' : Nat), o = (.inl v, h', nc', ns') ∧ zLs h' r dq' (es ++ [e]) ∧ (dq' = dq ∨ dq' = some h.length) ∧ h.length ≤ h'.length ∧ nc' ≤ nc + 1 ∧ ns' ≤ ns + (2 * es.length + 11) ∧ ∀ k, k < h.length → k ≠ r → dq ≠ some k → h'[k]? = h[k]?
section ZLD
variable {xs : List Int32} {D nc ns r q n e : Nat} {h : zH} {vs w : List Value} {m : Int32} {es : List Nat}
theorem zls_fin {h1 : zH} {vs1 : List Value} (h0 : h1[r]? = some (10, [.int m, .ref q, .int (Int32.ofNat es.length)])) (hq : h1[q]? = some (103, vs1)) (hn : es.length < vs1.length) (hn5 : vs1.length ≤ 1000) (hvs : vs1.take es.length = es.map Value.ref) : zLs ((h1.set q (103, vs1.set es.length (.ref e))).set r (10, [Value.int m, Value.ref q, Value.int (Int32.ofNat (es.length + 1))])) r (some q) (es ++ [e]) := by
  have hrq : ¬ r = q := by
    intro z
    subst z
    rw [h0] at hq
    cases hq
  have hrl := (List.getElem?_eq_some_iff.mp h0).1
  have hql := (List.getElem?_eq_some_iff.mp hq).1
  refine ⟨m, vs1.set es.length (.ref e), ?_, ?_, by simp; omega, ⟨by rw [List.length_set]; omega, by rw [List.length_set]; omega⟩, ?_⟩
  · rw [List.getElem?_set_self (by simpa using hrl), List.length_append]
    rfl
  · rw [List.getElem?_set_ne hrq, List.getElem?_set_self hql]
  · refine List.ext_getElem? (fun k => ?_)
    rw [List.length_append, List.getElem?_take]
    by_cases k1 : k < es.length
    · rw [if_pos (by simp; omega), List.getElem?_set_ne (by omega), List.map_append, List.getElem?_append_left (by simpa using k1)]
      have z : (vs1.take es.length)[k]? = (es.map Value.ref)[k]? := by rw [hvs]
      rw [List.getElem?_take, if_pos k1] at z
      exact z
    · by_cases k2 : k = es.length
      · subst k2
        rw [if_pos (by simp), List.getElem?_set_self hn, List.map_append, List.getElem?_append_right (by simp)]
        simp
      · rw [if_neg (by simp; omega)]
        exact (List.getElem?_eq_none (by simp; omega)).symm
end ZLD
