/-! The reference's methods, by hand: the board, health. -/
def ct_171 : zCt := (171, [(.inr (.inr (.inl (44, 44)))), (.inl (0, 17, 0, 0))], some zIA, 8, 1, 18)
section ZHD
variable {xs : List Int32} {g : zG} {lg : Nat} {h : zH} {D nc ns y pc nx k yy m c nx' : Nat} {A S : List zTy} {L : zL} {st as r : List Value} {P : zO → Prop}
/-- a row that was made just now: its length alone -/
theorem zEs_astL {l : List Int32} {v j : Int32} {N : Nat} (h1 : zat (zmc y) pc = some (.iastore, nx, k, yy, m, c)) (hl : l.length = N) (hj : ¬ j < 0) (hn : j.toNatClampNeg < N) (g : ∀ l' : List Int32, l'.length = N → zEs xs D y nx L r (h ++ [zar l']) nc ns P) : zEs xs D y pc L (.int v :: .int j :: .ref h.length :: r) (h ++ [zar l]) nc ns P := by
  refine zEs_ast h1 (l := l) (by rw [List.getElem?_append_right (Nat.le_refl _), Nat.sub_self]; rfl) hj (by rw [hl]; exact hn) ?_
  rw [zset_app1]
  exact g _ (by rw [List.length_set]; exact hl)
end ZHD
