/-! column and encode of the reference. -/
section ZPT
variable {xs : List Int32} {N : Nat} {h : zH} {K R : Int32} {c : List Int32} {vs : List Value} {nc ns : Nat}
/-- the reference's object with its code -/
def zMo (h : zH) (vs : List Value) (K R : Int32) (c : List Int32) : Prop := h[44]? = some (7, vs) ∧ vs.length = 26 ∧ vs[1]? = some (.int K) ∧ vs[2]? = some (.int R) ∧ (∃ q : Nat, vs[3]? = some (.ref q) ∧ h[q]? = some (100, c.map Value.int)) ∧ c.length < 2147483648
theorem zMo_c (g : zMo h vs K R c) : zMc h K R c := by
  obtain ⟨g1, g2, g3, g4, ⟨q, g5, g6⟩, g7⟩ := g
  exact ⟨vs, q, g1, g3, g4, g5, g6, g7⟩
theorem zMo_0 {t : Int32} (g : zMo h vs K R c) : zMo (h.set 44 (7, vs.set 0 (.int t))) (vs.set 0 (.int t)) K R c := by
  obtain ⟨g1, g2, g3, g4, ⟨q, g5, g6⟩, g7⟩ := g
  refine ⟨List.getElem?_set_self (List.getElem?_eq_some_iff.mp g1).1, by simpa using g2, ?_, ?_, ⟨q, ?_, ?_⟩, g7⟩
  · rw [List.getElem?_set_ne (by decide)]
    exact g3
  · rw [List.getElem?_set_ne (by decide)]
    exact g4
  · rw [List.getElem?_set_ne (by decide)]
    exact g5
  · rw [List.getElem?_set_ne (fun e => by
      subst e
      rw [g1] at g6
      cases g6)]
    exact g6
end ZPT
