/-! A method whose table of kinds is in order keeps its contract. -/
section ZCH
variable {xs : List Int32} {g : zG} {lg : Nat} {h : zH} {L : zL} {A S : List zTy} {st : List Value} {cs : List zCt} {D y m nc ns k n c nx pc : Nat} {i : Instr} {S' : List zTy} {dc ds : Nat}
theorem zMs_mono {D D' y : Nat} {as : List Value} {P : zO → Prop} (hD : D ≤ D') (k : zMs xs D y as h nc ns P) : zMs xs D' y as h nc ns P := by
  obtain ⟨L0, e, o, N, p, q⟩ := k
  exact ⟨L0, e, o, N, p, fun d n hd hn => q d n (by omega) hn⟩
theorem zMs_post {D y : Nat} {as : List Value} {P P' : zO → Prop} (w : ∀ o, P o → P' o) (k : zMs xs D y as h nc ns P) : zMs xs D y as h nc ns P' := by
  obtain ⟨L0, e, o, N, p, q⟩ := k
  exact ⟨L0, e, o, N, w o p, q⟩
end ZCH
/-! A stretch of a method, up to a place. -/
