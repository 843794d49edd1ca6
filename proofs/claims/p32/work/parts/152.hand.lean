/-! The reference's methods, by hand: tell. -/
def ce_tel : List zCe := [(0, [(.inl 17)], (0, 0), [(.inr (.inr (.inl (44, 44)))), zIA, zIA, (.inr (.inr (.inr 0))), (.inr (.inr (.inr 0))), (.inr (.inr (.inr 0))), (.inr (.inr (.inr 0)))], []),
  (1, [(.inl 16)], (0, 0), [(.inr (.inr (.inl (44, 44)))), zIA, zIA, (.inr (.inr (.inr 0))), (.inr (.inr (.inr 0))), (.inr (.inr (.inr 0))), (.inr (.inr (.inr 0)))], [(.inr (.inr (.inl (44, 44))))]),
  (2, [(.inl 15)], (0, 0), [(.inr (.inr (.inl (44, 44)))), zIA, zIA, (.inr (.inr (.inr 0))), (.inr (.inr (.inr 0))), (.inr (.inr (.inr 0))), (.inr (.inr (.inr 0)))], [(.inl (0, 0, 0, 0)), (.inr (.inr (.inl (44, 44))))]),
  (5, [(.inl 14)], (0, 0), [(.inr (.inr (.inl (44, 44)))), zIA, zIA, (.inr (.inr (.inr 0))), (.inr (.inr (.inr 0))), (.inr (.inr (.inr 0))), (.inr (.inr (.inr 0)))], []),
  (6, [(.inl 13)], (0, 0), [(.inr (.inr (.inl (44, 44)))), zIA, zIA, (.inr (.inr (.inr 0))), (.inr (.inr (.inr 0))), (.inr (.inr (.inr 0))), (.inr (.inr (.inr 0)))], [(.inl ((-2147483648), 2147483647, 0, 2))]),
  (7, [(.inl 12)], (0, 0), [(.inr (.inr (.inl (44, 44)))), zIA, zIA, (.inr (.inr (.inr 0))), (.inr (.inr (.inr 0))), (.inr (.inr (.inr 0))), (.inr (.inr (.inr 0)))], [(.inl (0, 0, 0, 0)), (.inl ((-2147483648), 2147483647, 0, 2))]),
  (8, [(.inl 11)], (0, 0), [(.inr (.inr (.inl (44, 44)))), zIA, zIA, (.inr (.inr (.inr 0))), (.inr (.inr (.inr 0))), (.inr (.inr (.inr 0))), (.inr (.inr (.inr 0)))], [(.inl (1, 1, 0, 0)), (.inl (0, 0, 0, 0)), (.inl ((-2147483648), 2147483647, 0, 2))]),
  (11, [(.inl 10)], (0, 0), [(.inr (.inr (.inl (44, 44)))), zIA, zIA, (.inr (.inr (.inr 0))), (.inr (.inr (.inr 0))), (.inr (.inr (.inr 0))), (.inr (.inr (.inr 0)))], [(.inr (.inl (1, 0, 1, 0)))]),
  (14, [(.inl 9)], (0, 0), [(.inr (.inr (.inl (44, 44)))), (.inl (0, 1, 0, 0)), zIA, (.inr (.inr (.inr 0))), (.inr (.inr (.inr 0))), (.inr (.inr (.inr 0))), (.inr (.inr (.inr 0)))], []),
  (15, [(.inl 8)], (0, 0), [(.inr (.inr (.inl (44, 44)))), (.inl (0, 1, 0, 0)), zIA, (.inr (.inr (.inr 0))), (.inr (.inr (.inr 0))), (.inr (.inr (.inr 0))), (.inr (.inr (.inr 0)))], [(.inl ((-2147483648), 2147483647, 0, 3))]),
  (16, [(.inl 7)], (0, 0), [(.inr (.inr (.inl (44, 44)))), (.inl (0, 1, 0, 0)), zIA, (.inr (.inr (.inr 0))), (.inr (.inr (.inr 0))), (.inr (.inr (.inr 0))), (.inr (.inr (.inr 0)))], [(.inl (0, 0, 0, 0)), (.inl ((-2147483648), 2147483647, 0, 3))]),
  (18, [(.inl 6)], (0, 0), [(.inr (.inr (.inl (44, 44)))), (.inl (0, 1, 0, 0)), zIA, (.inr (.inr (.inr 0))), (.inr (.inr (.inr 0))), (.inr (.inr (.inr 0))), (.inr (.inr (.inr 0)))], [(.inl (7, 7, 0, 0)), (.inl (0, 0, 0, 0)), (.inl ((-2147483648), 2147483647, 0, 3))]),
  (21, [(.inl 5)], (0, 0), [(.inr (.inr (.inl (44, 44)))), (.inl (0, 1, 0, 0)), zIA, (.inr (.inr (.inr 0))), (.inr (.inr (.inr 0))), (.inr (.inr (.inr 0))), (.inr (.inr (.inr 0)))], [(.inr (.inl (2, 0, 7, 0)))]),
  (24, [(.inl 3)], (0, 0), [(.inr (.inr (.inl (44, 44)))), zIA, zIA, (.inr (.inr (.inr 0))), (.inr (.inr (.inr 0))), (.inr (.inr (.inr 0))), (.inr (.inr (.inr 0)))], []),
  (25, [(.inl 2)], (0, 0), [(.inr (.inr (.inl (44, 44)))), zIA, zIA, (.inr (.inr (.inr 0))), (.inr (.inr (.inr 0))), (.inr (.inr (.inr 0))), (.inr (.inr (.inr 0)))], [(.inr (.inr (.inl (44, 44))))]),
  (26, [(.inl 1)], (0, 0), [(.inr (.inr (.inl (44, 44)))), zIA, zIA, (.inr (.inr (.inr 0))), (.inr (.inr (.inr 0))), (.inr (.inr (.inr 0))), (.inr (.inr (.inr 0)))], [(.inl (1, 1, 0, 0)), (.inr (.inr (.inl (44, 44))))]),
  (29, [(.inl 0)], (0, 0), [(.inr (.inr (.inl (44, 44)))), zIA, zIA, (.inr (.inr (.inr 0))), (.inr (.inr (.inr 0))), (.inr (.inr (.inr 0))), (.inr (.inr (.inr 0)))], []),
  (32, [(.inl 4)], (0, 0), [(.inr (.inr (.inl (44, 44)))), (.inl (0, 1, 0, 0)), (.inl (0, 7, 0, 0)), (.inr (.inr (.inr 0))), (.inr (.inr (.inr 0))), (.inr (.inr (.inr 0))), (.inr (.inr (.inr 0)))], [])]
def cs_tel : List zCt := []
theorem gs_tel {xs : List Int32} : ∀ ct ∈ cs_tel, zGd xs ct := fun _ h => absurd h List.not_mem_nil
section ZHN
variable {xs : List Int32} {g : zG} {lg : Nat} {h : zH} {D nc ns y pc nx k yy m c nx' : Nat} {L : zL} {r st as : List Value} {P : zO → Prop} {i : Instr}
/-- a call of a method that changes nothing -/
theorem zEs_ctp {ct : zCt} (hct : zGp xs ct) (e1 : zat (zmc y) pc = some (i, nx, k, yy, m, c)) (e2 : zstep zcf xs pc i nx k yy m c L st h = some (.inr (.inl (ct.y, as, r, nx')))) (hd : ct.dep ≤ D) (hI : zHI g lg h) (hS : zgs g lg h [] ct.as as) (kv : ∀ v, zgo2 g lg h (as.map some) ct.rt v → zEs xs (D + 1) y nx' L (v.toList ++ r) h nc ns P) : zEs xs (D + 1) y pc L st h nc ns P := by
  refine zEs_callG e1 e2 (zMs_mono hd (hct g lg h nc ns as hI hS)) (fun v h1 nc1 ns1 w => ?_) (fun E h1 nc1 ns1 w => ?_)
  · obtain ⟨v', e, b1⟩ := w
    cases e
    exact kv _ b1
  · obtain ⟨v', e, -⟩ := w
    cases e
/-- tell, as the law sees it: a reference -/
def zPtl (g : zG) (h0 : zH) (nc ns : Nat) (dc ds : Nat) (F : Value × Value × Value × Value) : zO → Prop := fun o => ∃ v g' lg' h' nc' ns', o = (.inl v, h', nc', ns') ∧ (v = some (.retAddr 3) ∨ ∃ q, v = some (.ref q)) ∧ zHI g' lg' h' ∧ zLE h0 h' ∧ g'.s = g.s ∧ g'.a = g.a ∧ zfw g' = F ∧ nc' ≤ nc + dc ∧ ns' ≤ ns + ds
end ZHN
