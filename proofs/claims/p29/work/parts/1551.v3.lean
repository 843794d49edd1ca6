/-! The reference's methods beside the class's state; calls that are both safe and exact. Written by wip/v3/genjm.py. -/
section ZL7
variable {xs : List Int32} {N D y : Nat} {as : List Value} {h : zH} {S : zSt} {M : zRt} {X : zXt} {q : Nat} {vs : List Value} {nc ns : Nat} {c c2 : Nat × Nat}
theorem jm_140 {x1 x2 : Int32} (hX : zUX (q, 6, vs) X M.2.2) (ho : zOu vs) : zpM xs N 140 [.ref 44, .int x1, .int x2] (zy S M X) nc ns (fun o => zJq S (r140 x1 x2 M) q o.2.1) := by
  refine zpM_post (fun o g => ?_) (f_140 (S0 := S) (x1 := x1) (x2 := x2) hX)
  exact ⟨X, vs, g.2, by rw [rl_140]; exact hX, ho⟩
theorem jm_141 {x1 : Int32} (hX : zUX (q, 6, vs) X M.2.2) (ho : zOu vs) : zpM xs N 141 [.ref 44, .int x1] (zy S M X) nc ns (fun o => zJq S (r141 x1 M) q o.2.1) := by
  refine zpM_post (fun o g => ?_) (f_141 (S0 := S) (x1 := x1) hX)
  obtain ⟨X', hX', g⟩ := g
  exact ⟨X', vs, g.2, hX', ho⟩
theorem jm_142 {x1 x2 : Int32} (hX : zUX (q, 6, vs) X M.2.2) (ho : zOu vs) : zpM xs N 142 [.ref 44, .int x1, .int x2] (zy S M X) nc ns (fun o => zJq S (r142 x1 x2 M) q o.2.1) := by
  refine zpM_post (fun o g => ?_) (f_142 (S0 := S) (x1 := x1) (x2 := x2) hX)
  exact ⟨X, vs, g.2, by rw [rl_142]; exact hX, ho⟩
theorem jm_143 {x1 x2 x3 : Int32} (hX : zUX (q, 6, vs) X M.2.2) (ho : zOu vs) : zpM xs N 143 [.ref 44, .int x1, .int x2, .int x3] (zy S M X) nc ns (fun o => zJq S (r143 x1 x2 x3 M) q o.2.1) := by
  refine zpM_post (fun o g => ?_) (f_143 (S0 := S) (x1 := x1) (x2 := x2) (x3 := x3) hX)
  obtain ⟨X', hX', g⟩ := g
  exact ⟨X', vs, g.2, hX', ho⟩
theorem jm_144 {x1 x2 x3 : Int32} (hX : zUX (q, 6, vs) X M.2.2) (ho : zOu vs) : zpM xs N 144 [.ref 44, .int x1, .int x2, .int x3] (zy S M X) nc ns (fun o => zJq S (r144 x1 x2 x3 M) q o.2.1) := by
  refine zpM_post (fun o g => ?_) (f_144 (S0 := S) (x1 := x1) (x2 := x2) (x3 := x3) hX)
  obtain ⟨X', hX', g⟩ := g
  exact ⟨X', vs, g.2, hX', ho⟩
theorem jm_145 {x1 x2 x3 : Int32} (hX : zUX (q, 6, vs) X M.2.2) (ho : zOu vs) : zpM xs N 145 [.ref 44, .int x1, .int x2, .int x3] (zy S M X) nc ns (fun o => zJq S (r145 x1 x2 x3 M) q o.2.1) := by
  refine zpM_post (fun o g => ?_) (f_145 (S0 := S) (x1 := x1) (x2 := x2) (x3 := x3) hX)
  exact ⟨X, vs, g.2, by rw [rl_145]; exact hX, ho⟩
theorem jm_146 {x1 x2 x3 x4 x5 : Int32} (hX : zUX (q, 6, vs) X M.2.2) (ho : zOu vs) : zpM xs N 146 [.ref 44, .int x1, .int x2, .int x3, .int x4, .int x5] (zy S M X) nc ns (fun o => zJq S (r146 x1 x2 x3 x4 x5 M) q o.2.1) := by
  refine zpM_post (fun o g => ?_) (f_146 (S0 := S) (x1 := x1) (x2 := x2) (x3 := x3) (x4 := x4) (x5 := x5) hX)
  exact ⟨X, vs, g.2, by rw [rl_146]; exact hX, ho⟩
theorem jm_147 {x1 x2 : Int32} (hX : zUX (q, 6, vs) X M.2.2) (ho : zOu vs) : zpM xs N 147 [.ref 44, .int x1, .int x2] (zy S M X) nc ns (fun o => zJq S (r147 x1 x2 M) q o.2.1) := by
  refine zpM_post (fun o g => ?_) (f_147 (S0 := S) (x1 := x1) (x2 := x2) hX)
  exact ⟨X, vs, g.2, by rw [rl_147]; exact hX, ho⟩
theorem jm_148 {x1 x2 : Int32} (hX : zUX (q, 6, vs) X M.2.2) (ho : zOu vs) : zpM xs N 148 [.ref 44, .int x1, .int x2] (zy S M X) nc ns (fun o => zJq S (r148 x1 x2 M) q o.2.1) := by
  refine zpM_post (fun o g => ?_) (f_148 (S0 := S) (x1 := x1) (x2 := x2) hX)
  exact ⟨X, vs, g.2, by rw [rl_148]; exact hX, ho⟩
theorem jm_150 {x1 : Int32} (hX : zUX (q, 6, vs) X M.2.2) (h20 : (M.2.1 20).length = 20) (ho : zOu vs) : zpM xs N 150 [.ref 44, .int x1] (zy S M X) nc ns (fun o => zJq S (r150 x1 M) q o.2.1) := by
  refine zpM_post (fun o g => ?_) (f_150 (S0 := S) (x1 := x1) hX h20)
  obtain ⟨X', hX', g⟩ := g
  exact ⟨X', vs, g.2, hX', ho⟩
theorem jm_151 (hX : zUX (q, 6, vs) X M.2.2) (ho : zOu vs) : zpM xs N 151 [.ref 44] (zy S M X) nc ns (fun o => zJq S (r151 M) q o.2.1) := by
  refine zpM_post (fun o g => ?_) (f_151 (S0 := S)  hX)
  obtain ⟨X', hX', g⟩ := g
  exact ⟨X', vs, g.2, hX', ho⟩
theorem jm_152 (hX : zUX (q, 6, vs) X M.2.2) (ho : zOu vs) : zpM xs N 152 [.ref 44] (zy S M X) nc ns (fun o => zJq S (r152 M) q o.2.1) := by
  refine zpM_post (fun o g => ?_) (f_152 (S0 := S)  hX)
  exact ⟨X, vs, g.2, by rw [rl_152]; exact hX, ho⟩
theorem jm_172 {x1 : Int32} (hX : zUX (q, 6, vs) X M.2.2) (ho : zOu vs) : zpM xs N 172 [.ref 44, .int x1] (zy S M X) nc ns (fun o => zJq S (r172 x1 M) q o.2.1) := by
  refine zpM_post (fun o g => ?_) (f_172 (S0 := S) (x1 := x1) hX)
  obtain ⟨X', hX', g⟩ := g
  exact ⟨X', vs, g.2, hX', ho⟩
/-- what is asked of the reference, beside -/
def zJt (S : zSt) (M : zRt) (q : Nat) (h : zH) : Prop := ∃ t : Int32, zJq S (zmS M 0 t) q h
theorem zJt_of (ho : zOu vs) (g : zIt S M (q, 6, vs) h) : zJt S M q h := by
  obtain ⟨t, X', hX', e⟩ := g
  exact ⟨t, X', vs, e, hX', ho⟩
theorem jm_ask (hy : y ∈ zqo) (hX : zUX (q, 6, vs) X M.2.2) (ho : zOu vs) : zpM xs N y as (zy S M X) nc ns (fun o => zJt S M q o.2.1) := zpM_post (fun _ g => zJt_of ho g) (f_ask hy hX)
theorem jm_175 {x1 x2 : Int32} (hX : zUX (q, 6, vs) X M.2.2) (ho : zOu vs) : zpM xs N 175 [.ref 44, .int x1, .int x2] (zy S M X) nc ns (fun o => zJt S M q o.2.1) := zpM_post (fun _ g => zJt_of ho g) (f_175 hX)
theorem jm_188 (hX : zUX (q, 6, vs) X M.2.2) (ho : zOu vs) : zpM xs N 188 [.ref 44] (zy S M X) nc ns (fun o => zJt S M q o.2.1) := zpM_post (fun _ g => zJt_of ho g) (f_188 hX)
def zJ139 (S : zSt) (M : zRt) (q : Nat) (x1 x2 : Int32) (h : zH) : Prop := (¬ zCd x1 x2 ∧ zJt S M q h) ∨ (zCd x1 x2 ∧ ∃ k r : Nat, x1 = Int32.ofNat k ∧ x2 = Int32.ofNat r ∧ (k, r) ∈ zcds ∧ zJq S (r139 k r M) q h)
theorem jm_139 {x1 x2 : Int32} (hX : zUX (q, 6, vs) X M.2.2) (ho : zOu vs) : zpM xs N 139 [.ref 44, .int x1, .int x2] (zy S M X) nc ns (fun o => zJ139 S M q x1 x2 o.2.1) := by
  refine zpM_post (fun o g => ?_) (f_139 (S0 := S) hX)
  obtain ⟨X', g | g⟩ := g
  · obtain ⟨a, b, d⟩ := g
    refine Or.inl ⟨a, Int32.ofInt 1, X', vs, ?_, b, ho⟩
    rw [d.2]
    show zy S (zup (zup M.1 0 _) 0 _, M.2) X' = zy S (zup M.1 0 _, M.2) X'
    rw [zup2]
  · obtain ⟨a, k, r, e1, e2, e3, b, d⟩ := g
    exact Or.inr ⟨a, k, r, e1, e2, e3, X', vs, d.2, b, ho⟩
theorem zWy_q {R : Option Value ⊕ Nat} {S' : zSt} {kc : Nat → Int32} {v : Option Value} (g : zWy q R S' M kc v h) : zJq S' M q h := by
  obtain ⟨k, X', ws, -, a, b, d, -⟩ := g
  exact ⟨X', ws, a, b, d⟩
/-- safe and exact -/
theorem zjo {Q : Option Value → zH → Prop} (a : zMs xs D y as h nc ns (zWw c c2 q nc ns)) (b : ∀ N, zpM xs N y as h nc ns (zNq Q)) : zMs xs D y as h nc ns (fun o => ∃ (v : Int32) (h' : zH) (nc' ns' : Nat), o = (.inl (some (.int v)), h', nc', ns') ∧ zWI c c2 q h' ∧ nc' ≤ nc + 10 ∧ ns' ≤ ns + 100 ∧ Q (some (.int v)) h') := by
  refine zMs_post (fun o ho => ?_) (zMs_and a b)
  obtain ⟨⟨v, h', nc', ns', rfl, b1, b2, b3⟩, g⟩ := ho
  exact ⟨v, h', nc', ns', rfl, b1, b2, b3, g _ rfl⟩
theorem zjn {Q : zH → Prop} (b : ∀ N, zpM xs N y as h nc ns (fun o => Q o.2.1)) : ∀ N, zpM xs N y as h nc ns (zNq (fun _ => Q)) := fun N => zpM_post (fun _ g _ _ => g) (b N)
theorem zjm {R : Option Value → Prop} {Q : zH → Prop} (a : zMs xs D y as h nc ns (zWm c c2 q R nc ns)) (b : ∀ N, zpM xs N y as h nc ns (fun o => Q o.2.1)) : zMs xs D y as h nc ns (fun o => ∃ v h' nc' ns', o = (.inl v, h', nc', ns') ∧ R v ∧ zWI c c2 q h' ∧ nc' ≤ nc + 400 ∧ ns' ≤ ns + 14000 ∧ Q h') := by
  refine zMs_post (fun o ho => ?_) (zMs_and a b)
  obtain ⟨⟨v, h', nc', ns', rfl, b0, b1, b2, b3⟩, g⟩ := ho
  exact ⟨v, h', nc', ns', rfl, b0, b1, b2, b3, g⟩
theorem zjc {R : Option Value → Prop} {Es : List Nat} {Q : zH → Prop} (a : zMs xs D y as h nc ns (zWc c c2 q R Es nc ns)) (b : ∀ N, zpM xs N y as h nc ns (fun o => Q o.2.1)) : zMs xs D y as h nc ns (fun o => zWc c c2 q R Es nc ns o ∧ Q o.2.1) := zMs_and a b
end ZL7
