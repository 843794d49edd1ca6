/-! The reference's methods, by hand: a line that is used. -/
def ce_opn : List zCe := [(0, [(.inl 25)], (0, 0), [(.inr (.inr (.inl (44, 44)))), (.inl (0, 19, 0, 0)), (.inr (.inr (.inr 0))), (.inr (.inr (.inr 0)))], []),
  (1, [(.inl 24)], (0, 0), [(.inr (.inr (.inl (44, 44)))), (.inl (0, 19, 0, 0)), (.inr (.inr (.inr 0))), (.inr (.inr (.inr 0)))], [(.inr (.inr (.inl (44, 44))))]),
  (4, [(.inl 23)], (0, 0), [(.inr (.inr (.inl (44, 44)))), (.inl (0, 19, 0, 0)), (.inr (.inr (.inr 0))), (.inr (.inr (.inr 0)))], [(.inr (.inr (.inl (67, 67))))]),
  (5, [(.inl 22)], (0, 0), [(.inr (.inr (.inl (44, 44)))), (.inl (0, 19, 0, 0)), (.inr (.inr (.inr 0))), (.inr (.inr (.inr 0)))], [(.inl (0, 19, 0, 2)), (.inr (.inr (.inl (67, 67))))]),
  (6, [(.inl 21)], (0, 0), [(.inr (.inr (.inl (44, 44)))), (.inl (0, 19, 0, 0)), (.inr (.inr (.inr 0))), (.inr (.inr (.inr 0)))], [(.inl (0, 19, 0, 2)), (.inr (.inr (.inl (67, 67)))), (.inl (0, 19, 0, 2)), (.inr (.inr (.inl (67, 67))))]),
  (7, [(.inl 20)], (0, 0), [(.inr (.inr (.inl (44, 44)))), (.inl (0, 19, 0, 0)), (.inr (.inr (.inr 0))), (.inr (.inr (.inr 0)))], [zIA, (.inl (0, 19, 0, 2)), (.inr (.inr (.inl (67, 67))))]),
  (8, [(.inl 19)], (0, 0), [(.inr (.inr (.inl (44, 44)))), (.inl (0, 19, 0, 0)), (.inr (.inr (.inr 0))), (.inr (.inr (.inr 0)))], [(.inl (1, 1, 0, 0)), zIA, (.inl (0, 19, 0, 2)), (.inr (.inr (.inl (67, 67))))]),
  (9, [(.inl 18)], (0, 0), [(.inr (.inr (.inl (44, 44)))), (.inl (0, 19, 0, 0)), (.inr (.inr (.inr 0))), (.inr (.inr (.inr 0)))], [zIA, (.inl (0, 19, 0, 2)), (.inr (.inr (.inl (67, 67))))]),
  (10, [(.inl 17)], (0, 0), [(.inr (.inr (.inl (44, 44)))), (.inl (0, 19, 0, 0)), (.inr (.inr (.inr 0))), (.inr (.inr (.inr 0)))], []),
  (11, [(.inl 16)], (0, 0), [(.inr (.inr (.inl (44, 44)))), (.inl (0, 19, 0, 0)), (.inr (.inr (.inr 0))), (.inr (.inr (.inr 0)))], [(.inr (.inr (.inl (44, 44))))]),
  (14, [(.inl 15)], (0, 0), [(.inr (.inr (.inl (44, 44)))), (.inl (0, 19, 0, 0)), (.inr (.inr (.inr 0))), (.inr (.inr (.inr 0)))], [(.inr (.inr (.inl (68, 68))))]),
  (15, [(.inl 14)], (0, 0), [(.inr (.inr (.inl (44, 44)))), (.inl (0, 19, 0, 0)), (.inr (.inr (.inr 0))), (.inr (.inr (.inr 0)))], [(.inl (0, 19, 0, 2)), (.inr (.inr (.inl (68, 68))))]),
  (16, [(.inl 13)], (0, 0), [(.inr (.inr (.inl (44, 44)))), (.inl (0, 19, 0, 0)), (.inr (.inr (.inr 0))), (.inr (.inr (.inr 0)))], [(.inr (.inr (.inl (44, 44)))), (.inl (0, 19, 0, 2)), (.inr (.inr (.inl (68, 68))))]),
  (19, [(.inl 12)], (0, 0), [(.inr (.inr (.inl (44, 44)))), (.inl (0, 19, 0, 0)), (.inr (.inr (.inr 0))), (.inr (.inr (.inr 0)))], [(.inl (0, 2000, 0, 0)), (.inl (0, 19, 0, 2)), (.inr (.inr (.inl (68, 68))))]),
  (20, [(.inl 11)], (0, 0), [(.inr (.inr (.inl (44, 44)))), (.inl (0, 19, 0, 0)), (.inr (.inr (.inr 0))), (.inr (.inr (.inr 0)))], []),
  (21, [(.inl 10)], (0, 0), [(.inr (.inr (.inl (44, 44)))), (.inl (0, 19, 0, 0)), (.inr (.inr (.inr 0))), (.inr (.inr (.inr 0)))], [(.inr (.inr (.inl (44, 44))))]),
  (24, [(.inl 9)], (0, 0), [(.inr (.inr (.inl (44, 44)))), (.inl (0, 19, 0, 0)), (.inr (.inr (.inr 0))), (.inr (.inr (.inr 0)))], [(.inr (.inr (.inl (67, 67))))]),
  (25, [(.inl 8)], (0, 0), [(.inr (.inr (.inl (44, 44)))), (.inl (0, 19, 0, 0)), (.inr (.inr (.inr 0))), (.inr (.inr (.inr 0)))], [(.inl (0, 19, 0, 2)), (.inr (.inr (.inl (67, 67))))]),
  (26, [(.inl 7)], (0, 0), [(.inr (.inr (.inl (44, 44)))), (.inl (0, 19, 0, 0)), (.inr (.inr (.inr 0))), (.inr (.inr (.inr 0)))], [zIA]),
  (27, [(.inl 6)], (0, 0), [(.inr (.inr (.inl (44, 44)))), (.inl (0, 19, 0, 0)), (.inr (.inr (.inr 0))), (.inr (.inr (.inr 0)))], [(.inr (.inr (.inl (44, 44)))), zIA]),
  (30, [(.inl 5)], (0, 0), [(.inr (.inr (.inl (44, 44)))), (.inl (0, 19, 0, 0)), (.inr (.inr (.inr 0))), (.inr (.inr (.inr 0)))], [(.inl (2, 100, 0, 0)), zIA]),
  (31, [(.inl 4)], (0, 0), [(.inr (.inr (.inl (44, 44)))), (.inl (0, 19, 0, 0)), (.inr (.inr (.inr 0))), (.inr (.inr (.inr 0)))], [zIA]),
  (34, [(.inl 3)], (0, 0), [(.inr (.inr (.inl (44, 44)))), (.inl (0, 19, 0, 0)), (.inr (.inr (.inr 0))), (.inr (.inr (.inr 0)))], []),
  (35, [(.inl 2)], (0, 0), [(.inr (.inr (.inl (44, 44)))), (.inl (0, 19, 0, 0)), (.inr (.inr (.inr 0))), (.inr (.inr (.inr 0)))], []),
  (36, [(.inl 1)], (0, 0), [(.inr (.inr (.inl (44, 44)))), (.inl (0, 19, 0, 0)), (.inr (.inr (.inr 0))), (.inr (.inr (.inr 0)))], [(.inl ((-1), (-1), 0, 0))]),
  (37, [(.inl 0)], (0, 0), [(.inr (.inr (.inl (44, 44)))), (.inl (0, 19, 0, 0)), (.inl ((-1), (-1), 0, 0)), (.inr (.inr (.inr 0)))], [])]
def cs_opn : List zCt := []
theorem gs_opn {xs : List Int32} : ∀ ct ∈ cs_opn, zGd xs ct := fun _ h => absurd h List.not_mem_nil
def ct_129 : zCt := (129, [(.inr (.inr (.inl (44, 44)))), (.inl (0, 19, 0, 0))], none, 12, 0, 0)
section ZHC
variable {xs : List Int32} {g : zG} {lg : Nat} {h : zH} {D nc ns y pc nx k yy m c nx' : Nat} {A S : List zTy} {L : zL} {st as r : List Value} {P : zO → Prop}
theorem zrem_z {x z : Int32} (h1 : 0 ≤ x.toInt) (h2 : 0 < z.toInt) : (x - x / z * z).toInt = x.toInt % z.toInt := by
  have e2 := Int32.toInt_div_of_ne_right x z (by rintro rfl; have : (-1 : Int32).toInt = -1 := by decide
                                                 omega)
  rw [Int.tdiv_eq_ediv_of_nonneg (by omega)] at e2
  have hx := Int32.toInt_lt x
  have m1 := Int.emod_add_mul_ediv x.toInt z.toInt
  have m2 := Int.emod_nonneg x.toInt (show z.toInt ≠ 0 by omega)
  have m3 := Int.emod_lt_of_pos x.toInt (show 0 < z.toInt by omega)
  have m4 : 0 ≤ x.toInt / z.toInt := Int.ediv_nonneg (by omega) (by omega)
  have m5 : 0 ≤ z.toInt * (x.toInt / z.toInt) := Int.mul_nonneg (by omega) m4
  have e3 := Int32.toInt_mul (x / z) z
  rw [e2, Int.mul_comm, zbm (by omega) (by omega)] at e3
  have e4 := Int32.toInt_sub x (x / z * z)
  rw [e3, zbm (by omega) (by omega)] at e4
  omega
theorem zth (hI : zHI g lg h) : ∃ ws, h[44]? = some (7, ws) := by
  obtain ⟨vs, m, -⟩ := hI.obj
  exact ⟨vs, m⟩
theorem zI_in {x : Int32} {a b : Int} (h1 : a ≤ x.toInt) (h2 : x.toInt ≤ b) : zga g lg h L ((.inl (a, b, 0, 0))) (.int x) := ⟨x, rfl, h1, h2, trivial, Or.inl rfl⟩
theorem zP_in {q : Nat} : zga g lg h L ((.inr (.inr (.inl (q, q))))) (.ref q) := ⟨q, rfl, Nat.le_refl _, Nat.le_refl _⟩
end ZHC
