/-! Lists of int rows: what an ArrayList's cells are; size and get. -/
/-- the list at r: its data (none: the empty row of all lists), its elements -/
def zLs (h : zH) (r : Nat) (dq : Option Nat) (es : List Nat) : Prop := ∃ m : Int32, match dq with
  | none => es = [] ∧ h[r]? = some (10, [.int m, .retAddr 1, .int (Int32.ofNat es.length)])
  | some q => ∃ vs : List Value, h[r]? = some (10, [.int m, .ref q, .int (Int32.ofNat es.length)]) ∧ h[q]? = some (103, vs) ∧ es.length ≤ vs.length ∧ (0 < vs.length ∧ vs.length ≤ 1000) ∧ vs.take es.length = es.map Value.ref
section ZLL
variable {xs : List Int32} {D nc ns y pc nx k yy m c r : Nat} {h : zH} {L : zL} {rs : List Value} {P : zO → Prop} {dq : Option Nat} {es : List Nat} {j : Int32}
theorem zEs_aald {j : Int32} {a t : Nat} {vs : List Value} {v : Value} (h1 : zat (zmc y) pc = some (.aaload, nx, k, yy, m, c)) (ha : h[a]? = some (t, vs)) (ht : t = 103 ∨ t = 104) (hj : ¬ j < 0) (hv : vs[j.toNatClampNeg]? = some v) (g : zEs xs D y nx L (v :: rs) h nc ns P) : zEs xs D y pc L (.int j :: .ref a :: rs) h nc ns P := by
  refine zEs_step (dc := 0) (ds := 0) h1 ?_ g
  show zaald nx L (.int j :: .ref a :: rs) h = _
  unfold zaald
  dsimp only
  rw [ha]
  dsimp only
  rw [if_pos ht, hv]
  exact if_neg hj
theorem zLs_size (g : zLs h r dq es) : ∃ (mv d : Value), h[r]? = some (10, [mv, d, .int (Int32.ofNat es.length)]) := by
  obtain ⟨m, g⟩ := g
  cases dq with
  | none => exact ⟨_, _, g.2⟩
  | some q =>
    obtain ⟨vs, g, -⟩ := g
    exact ⟨_, _, g⟩
set_option maxRecDepth 10000
end ZLL
