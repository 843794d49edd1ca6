/-! The reference's methods, by hand: call, tick, pass. -/
def ce_tick : List zCe := [(10, [(.inl 7), (.inl 0), (.inl 0)], (0, 0), [(.inr (.inr (.inl (44, 44)))), (.inr (.inr (.inr 0)))], []),
  (11, [(.inl 6), (.inl 0), (.inl 0)], (0, 0), [(.inr (.inr (.inl (44, 44)))), (.inr (.inr (.inr 0)))], [(.inr (.inr (.inl (44, 44))))]),
  (14, [(.inl 5), (.inl 0), (.inl 0)], (0, 0), [(.inr (.inr (.inl (44, 44)))), (.inr (.inr (.inr 0)))], []),
  (15, [(.inl 4), (.inl 0), (.inl 0)], (0, 0), [(.inr (.inr (.inl (44, 44)))), (.inr (.inr (.inr 0)))], [(.inl (0, 0, 0, 0))]),
  (16, [(.inl 3), (.inr (20, 1)), (.inl 22)], (0, 0), [(.inr (.inr (.inl (44, 44)))), (.inl (0, 20, 0, 0))], []),
  (17, [(.inl 3), (.inr (20, 1)), (.inl 21)], (0, 0), [(.inr (.inr (.inl (44, 44)))), (.inl (0, 20, 0, 0))], [(.inl (0, 20, 0, 2))]),
  (18, [(.inl 3), (.inr (20, 1)), (.inl 20)], (0, 0), [(.inr (.inr (.inl (44, 44)))), (.inl (0, 20, 0, 0))], [(.inr (.inr (.inl (44, 44)))), (.inl (0, 20, 0, 2))]),
  (21, [(.inl 3), (.inr (20, 1)), (.inl 19)], (0, 0), [(.inr (.inr (.inl (44, 44)))), (.inl (0, 20, 0, 0))], [(.inr (.inr (.inl (67, 67)))), (.inl (0, 20, 0, 2))]),
  (22, [(.inl 3), (.inr (20, 1)), (.inl 18)], (0, 0), [(.inr (.inr (.inl (44, 44)))), (.inl (0, 20, 0, 0))], [(.inl (20, 20, 0, 0)), (.inl (0, 20, 0, 2))]),
  (25, [(.inl 3), (.inr (20, 1)), (.inl 17)], (0, 0), [(.inr (.inr (.inl (44, 44)))), (.inl (0, 19, 0, 0))], []),
  (26, [(.inl 3), (.inr (20, 1)), (.inl 16)], (0, 0), [(.inr (.inr (.inl (44, 44)))), (.inl (0, 19, 0, 0))], [(.inr (.inr (.inl (44, 44))))]),
  (29, [(.inl 3), (.inr (20, 1)), (.inl 15)], (0, 0), [(.inr (.inr (.inl (44, 44)))), (.inl (0, 19, 0, 0))], [(.inl (0, 2000, 0, 0))]),
  (30, [(.inl 3), (.inr (20, 1)), (.inl 14)], (0, 0), [(.inr (.inr (.inl (44, 44)))), (.inl (0, 19, 0, 0))], [(.inr (.inr (.inl (44, 44)))), (.inl (0, 2000, 0, 0))]),
  (33, [(.inl 3), (.inr (20, 1)), (.inl 13)], (0, 0), [(.inr (.inr (.inl (44, 44)))), (.inl (0, 19, 0, 0))], [(.inl (1, 100, 0, 0)), (.inl (0, 2000, 0, 0))]),
  (34, [(.inl 3), (.inr (20, 1)), (.inl 12)], (0, 0), [(.inr (.inr (.inl (44, 44)))), (.inl (0, 19, 0, 0))], [(.inl (0, 99, 0, 0))]),
  (37, [(.inl 3), (.inr (20, 1)), (.inl 11)], (0, 0), [(.inr (.inr (.inl (44, 44)))), (.inl (0, 19, 0, 0))], []),
  (38, [(.inl 3), (.inr (20, 1)), (.inl 10)], (0, 0), [(.inr (.inr (.inl (44, 44)))), (.inl (0, 19, 0, 0))], [(.inr (.inr (.inl (44, 44))))]),
  (41, [(.inl 3), (.inr (20, 1)), (.inl 9)], (0, 0), [(.inr (.inr (.inl (44, 44)))), (.inl (0, 19, 0, 0))], [(.inr (.inr (.inl (67, 67))))]),
  (42, [(.inl 3), (.inr (20, 1)), (.inl 8)], (0, 0), [(.inr (.inr (.inl (44, 44)))), (.inl (0, 19, 0, 0))], [(.inl (0, 19, 0, 2)), (.inr (.inr (.inl (67, 67))))]),
  (43, [(.inl 3), (.inr (20, 1)), (.inl 7)], (0, 0), [(.inr (.inr (.inl (44, 44)))), (.inl (0, 19, 0, 0))], [(.inl (0, 0, 0, 0)), (.inl (0, 19, 0, 2)), (.inr (.inr (.inl (67, 67))))]),
  (44, [(.inl 3), (.inr (20, 1)), (.inl 6)], (0, 0), [(.inr (.inr (.inl (44, 44)))), (.inl (0, 19, 0, 0))], []),
  (45, [(.inl 3), (.inr (20, 1)), (.inl 5)], (0, 0), [(.inr (.inr (.inl (44, 44)))), (.inl (0, 19, 0, 0))], [(.inr (.inr (.inl (44, 44))))]),
  (48, [(.inl 3), (.inr (20, 1)), (.inl 4)], (0, 0), [(.inr (.inr (.inl (44, 44)))), (.inl (0, 19, 0, 0))], [(.inr (.inr (.inl (68, 68))))]),
  (49, [(.inl 3), (.inr (20, 1)), (.inl 3)], (0, 0), [(.inr (.inr (.inl (44, 44)))), (.inl (0, 19, 0, 0))], [(.inl (0, 19, 0, 2)), (.inr (.inr (.inl (68, 68))))]),
  (50, [(.inl 3), (.inr (20, 1)), (.inl 2)], (0, 0), [(.inr (.inr (.inl (44, 44)))), (.inl (0, 19, 0, 0))], [(.inr (.inr (.inl (44, 44)))), (.inl (0, 19, 0, 2)), (.inr (.inr (.inl (68, 68))))]),
  (53, [(.inl 3), (.inr (20, 1)), (.inl 1)], (0, 0), [(.inr (.inr (.inl (44, 44)))), (.inl (0, 19, 0, 0))], [(.inl (0, 2000, 0, 0)), (.inl (0, 19, 0, 2)), (.inr (.inr (.inl (68, 68))))]),
  (54, [(.inl 3), (.inr (20, 1)), (.inl 0)], (0, 0), [(.inr (.inr (.inl (44, 44)))), (.inl (0, 19, 0, 0))], []),
  (57, [(.inl 3), (.inr (20, 1)), (.inl 23)], (0, 0), [(.inr (.inr (.inl (44, 44)))), (.inl (1, 20, 0, 0))], []),
  (60, [(.inl 2), (.inl 0), (.inl 0)], (0, 0), [(.inr (.inr (.inl (44, 44)))), (.inl (0, 20, 0, 0))], []),
  (61, [(.inl 1), (.inl 0), (.inl 0)], (0, 0), [(.inr (.inr (.inl (44, 44)))), (.inl (0, 20, 0, 0))], [(.inr (.inr (.inl (44, 44))))]),
  (64, [(.inl 0), (.inl 0), (.inl 0)], (0, 0), [(.inr (.inr (.inl (44, 44)))), (.inl (0, 20, 0, 0))], [])]
def cs_tick : List zCt := [ct_135, ct_136]
def ce_pas : List zCe := [(0, [(.inl 12)], (0, 0), [(.inr (.inr (.inl (44, 44)))), zIA, (.inr (.inr (.inr 0)))], []),
  (1, [(.inl 11)], (0, 0), [(.inr (.inr (.inl (44, 44)))), zIA, (.inr (.inr (.inr 0)))], [(.inr (.inr (.inl (44, 44))))]),
  (2, [(.inl 10)], (0, 0), [(.inr (.inr (.inl (44, 44)))), zIA, (.inr (.inr (.inr 0)))], [(.inl (0, 0, 0, 0)), (.inr (.inr (.inl (44, 44))))]),
  (5, [(.inl 9)], (0, 0), [(.inr (.inr (.inl (44, 44)))), zIA, (.inr (.inr (.inr 0)))], []),
  (6, [(.inl 8)], (0, 0), [(.inr (.inr (.inl (44, 44)))), zIA, (.inr (.inr (.inr 0)))], [(.inl ((-2147483648), 2147483647, 0, 2))]),
  (7, [(.inl 7)], (0, 0), [(.inr (.inr (.inl (44, 44)))), zIA, (.inr (.inr (.inr 0)))], [(.inl (1, 1, 0, 0)), (.inl ((-2147483648), 2147483647, 0, 2))]),
  (9, [(.inl 6)], (0, 0), [(.inr (.inr (.inl (44, 44)))), zIA, (.inr (.inr (.inr 0)))], [(.inl (100, 100, 0, 0)), (.inl (1, 1, 0, 0)), (.inl ((-2147483648), 2147483647, 0, 2))]),
  (12, [(.inl 5)], (0, 0), [(.inr (.inr (.inl (44, 44)))), zIA, (.inr (.inr (.inr 0)))], [(.inr (.inl (1, 1, 100, 0)))]),
  (15, [(.inl 4)], (0, 0), [(.inr (.inr (.inl (44, 44)))), zIA, (.inr (.inr (.inr 0)))], []),
  (16, [(.inl 3)], (0, 0), [(.inr (.inr (.inl (44, 44)))), zIA, (.inr (.inr (.inr 0)))], [(.inr (.inr (.inl (44, 44))))]),
  (17, [(.inl 2)], (0, 0), [(.inr (.inr (.inl (44, 44)))), zIA, (.inr (.inr (.inr 0)))], [(.inl (1, 1, 0, 0)), (.inr (.inr (.inl (44, 44))))]),
  (20, [(.inl 1)], (0, 0), [(.inr (.inr (.inl (44, 44)))), zIA, (.inr (.inr (.inr 0)))], [(.inl (0, 0, 0, 0))]),
  (21, [(.inl 0)], (0, 0), [(.inr (.inr (.inl (44, 44)))), (.inl (1, 100, 0, 0)), (.inr (.inr (.inr 0)))], [])]
def cs_pas : List zCt := [ct_111]
section ZHG
variable {xs : List Int32} {g : zG} {lg : Nat} {h : zH} {D nc ns : Nat}
/-- a method, as the law sees it -/
abbrev zfw (g : zG) : Value × Value × Value × Value := (g.f 13, g.f 1, g.f 2, g.f 3)
def zPq (g : zG) (h0 : zH) (nc ns : Nat) (rt : Option zTy) (dc ds : Nat) (F : Value × Value × Value × Value) : zO → Prop := fun o => ∃ v g' lg' h' nc' ns', o = (.inl v, h', nc', ns') ∧ zgo2 g' lg' h' [] rt v ∧ zHI g' lg' h' ∧ zLE h0 h' ∧ g'.s = g.s ∧ g'.a = g.a ∧ zfw g' = F ∧ nc' ≤ nc + dc ∧ ns' ≤ ns + ds
def zGq (xs : List Int32) (ct : zCt) : Prop := ∀ g lg h nc ns as, zHI g lg h → zgs g lg h [] ct.as as → zMs xs ct.dep ct.y as h nc ns (zPq g h nc ns ct.rt ct.dc ct.ds (zfw g))
def zsf (g : zG) (k : Nat) (v : Value) : zG := (g.1, g.2.1, zup g.f k v, g.2.2.2)
theorem zHI_fz {vs : List Value} {k : Nat} {v : Value} (hI : zHI g lg h) (h0 : h[44]? = some (7, vs)) (hk : k = 4 ∨ k = 13) (hv : zga g lg h [] (zfs k) v) : zHI (zsf g k v) lg (h.set 44 (7, vs.set k v)) ∧ zLE h (h.set 44 (7, vs.set k v)) := by
  obtain ⟨vs', a, b, c, d⟩ := hI.obj
  rw [h0] at a
  cases a
  have hk26 : k < 26 := by omega
  have hb : ∀ q : Nat, 73 ≤ q → (h.set 44 (7, vs.set k v))[q]? = h[q]? := fun q hq => List.getElem?_set_ne (by omega)
  have hl : zLE h (h.set 44 (7, vs.set k v)) := fun q l a b _ _ => by rw [hb q a]; exact b
  refine ⟨⟨(ztake_set (by omega)).trans hI.cls, ⟨vs.set k v, List.getElem?_set_self (List.getElem?_eq_some_iff.mp h0).1, by simpa using b, fun j hj => ?_, fun j hj => ?_⟩, ?_, ?_, ?_, ?_, hI.sizes⟩, hl⟩
  · by_cases z : j = k
    · subst z
      exact ⟨v, List.getElem?_set_self (by omega), zfs_mo (g' := zsf g j v) rfl rfl hl hv⟩
    · rw [List.getElem?_set_ne (fun w => z w.symm)]
      obtain ⟨w, w1, w2⟩ := c j hj
      exact ⟨w, w1, zfs_mo (g' := zsf g k v) rfl rfl hl w2⟩
  · by_cases z : j = k
    · subst z
      rw [List.getElem?_set_self (by omega)]
      show _ = some (if j = j then v else g.f j)
      rw [if_pos rfl]
    · rw [List.getElem?_set_ne (fun w => z w.symm)]
      show _ = some (if j = k then v else g.f j)
      rw [if_neg z]
      exact d j hj
  · rw [List.getElem?_set_ne (by omega)]
    exact hI.outer
  · intro q t n lo hi e
    have := zsp_b e
    rw [List.getElem?_set_ne (by omega)]
    exact hI.rows q t n lo hi e
  · obtain ⟨E, k⟩ := hI.lists
    refine ⟨E, fun j hj => ?_⟩
    obtain ⟨k1, k2, k3, k4⟩ := k j hj
    exact ⟨k1, zLi_cg hb k2 k1 k3, k3, k4⟩
  · obtain ⟨x, y, e1, e2, e3⟩ := hI.bits
    refine ⟨x, y, ?_, ?_, e3⟩
    · show (if 1 = k then v else g.f 1) = _
      rw [if_neg (by omega)]
      exact e1
    · show (if 2 = k then v else g.f 2) = _
      rw [if_neg (by omega)]
      exact e2
theorem zq_of {ct : zCt} (k : zGd xs ct) (hf : ∀ T, ct.rt = some T → zfree T = true) : zGq xs (ct.y, ct.as, ct.rt, ct.dep, ct.dc + 80, ct.ds + 4000) := by
  intro g lg h nc ns as hI hS
  refine zMs_post (fun o ho => ?_) (k g lg h nc ns as hI hS)
  obtain ⟨v, h', lg', nc', ns', rfl, b1, b2, b3, b4, b5, b6⟩ := ho
  have hz := b2.sizes
  refine ⟨v, g, lg', h', nc', ns', rfl, ?_, b2, b3, rfl, rfl, rfl, ?_, ?_⟩
  · show zgo2 g lg' h' [] ct.rt v
    cases e : ct.rt with
    | none =>
      rw [e] at b1
      exact b1
    | some T =>
      rw [e] at b1
      obtain ⟨w, w1, w2⟩ := b1
      exact ⟨w, w1, (zgs_free (S := [T]) (st := [w]) (L' := []) (by simp [hf T e]) ⟨w2, trivial⟩).1⟩
  · show nc' ≤ nc + (ct.dc + 80)
    omega
  · show ns' ≤ ns + (ct.ds + 4000)
    omega
def ct_150 : zCt := (150, [(.inr (.inr (.inl (44, 44)))), zIA], some zIA, 16, 80, 4000)
end ZHG
