/-! The reference's methods, by hand: spare. -/
def ce_spA : List zCe := [(0, [(.inl 17)], (0, 0), [(.inr (.inr (.inl (44, 44)))), zIA, zIA, (.inr (.inr (.inr 0))), (.inr (.inr (.inr 0))), (.inr (.inr (.inr 0))), (.inr (.inr (.inr 0))), (.inr (.inr (.inr 0)))], []),
  (1, [(.inl 16)], (0, 0), [(.inr (.inr (.inl (44, 44)))), zIA, zIA, (.inr (.inr (.inr 0))), (.inr (.inr (.inr 0))), (.inr (.inr (.inr 0))), (.inr (.inr (.inr 0))), (.inr (.inr (.inr 0)))], [(.inr (.inr (.inl (44, 44))))]),
  (2, [(.inl 15)], (0, 0), [(.inr (.inr (.inl (44, 44)))), zIA, zIA, (.inr (.inr (.inr 0))), (.inr (.inr (.inr 0))), (.inr (.inr (.inr 0))), (.inr (.inr (.inr 0))), (.inr (.inr (.inr 0)))], [(.inl (0, 0, 0, 0)), (.inr (.inr (.inl (44, 44))))]),
  (5, [(.inl 14)], (0, 0), [(.inr (.inr (.inl (44, 44)))), zIA, zIA, (.inr (.inr (.inr 0))), (.inr (.inr (.inr 0))), (.inr (.inr (.inr 0))), (.inr (.inr (.inr 0))), (.inr (.inr (.inr 0)))], []),
  (6, [(.inl 13)], (0, 0), [(.inr (.inr (.inl (44, 44)))), zIA, zIA, (.inr (.inr (.inr 0))), (.inr (.inr (.inr 0))), (.inr (.inr (.inr 0))), (.inr (.inr (.inr 0))), (.inr (.inr (.inr 0)))], [(.inl ((-2147483648), 2147483647, 0, 2))]),
  (7, [(.inl 12)], (0, 0), [(.inr (.inr (.inl (44, 44)))), zIA, zIA, (.inr (.inr (.inr 0))), (.inr (.inr (.inr 0))), (.inr (.inr (.inr 0))), (.inr (.inr (.inr 0))), (.inr (.inr (.inr 0)))], [(.inl (0, 0, 0, 0)), (.inl ((-2147483648), 2147483647, 0, 2))]),
  (8, [(.inl 11)], (0, 0), [(.inr (.inr (.inl (44, 44)))), zIA, zIA, (.inr (.inr (.inr 0))), (.inr (.inr (.inr 0))), (.inr (.inr (.inr 0))), (.inr (.inr (.inr 0))), (.inr (.inr (.inr 0)))], [(.inl (1, 1, 0, 0)), (.inl (0, 0, 0, 0)), (.inl ((-2147483648), 2147483647, 0, 2))]),
  (11, [(.inl 10)], (0, 0), [(.inr (.inr (.inl (44, 44)))), zIA, zIA, (.inr (.inr (.inr 0))), (.inr (.inr (.inr 0))), (.inr (.inr (.inr 0))), (.inr (.inr (.inr 0))), (.inr (.inr (.inr 0)))], [(.inr (.inl (1, 0, 1, 0)))]),
  (14, [(.inl 9)], (0, 0), [(.inr (.inr (.inl (44, 44)))), (.inl (0, 1, 0, 0)), zIA, (.inr (.inr (.inr 0))), (.inr (.inr (.inr 0))), (.inr (.inr (.inr 0))), (.inr (.inr (.inr 0))), (.inr (.inr (.inr 0)))], []),
  (15, [(.inl 8)], (0, 0), [(.inr (.inr (.inl (44, 44)))), (.inl (0, 1, 0, 0)), zIA, (.inr (.inr (.inr 0))), (.inr (.inr (.inr 0))), (.inr (.inr (.inr 0))), (.inr (.inr (.inr 0))), (.inr (.inr (.inr 0)))], [(.inl ((-2147483648), 2147483647, 0, 3))]),
  (16, [(.inl 7)], (0, 0), [(.inr (.inr (.inl (44, 44)))), (.inl (0, 1, 0, 0)), zIA, (.inr (.inr (.inr 0))), (.inr (.inr (.inr 0))), (.inr (.inr (.inr 0))), (.inr (.inr (.inr 0))), (.inr (.inr (.inr 0)))], [(.inl (0, 0, 0, 0)), (.inl ((-2147483648), 2147483647, 0, 3))]),
  (18, [(.inl 6)], (0, 0), [(.inr (.inr (.inl (44, 44)))), (.inl (0, 1, 0, 0)), zIA, (.inr (.inr (.inr 0))), (.inr (.inr (.inr 0))), (.inr (.inr (.inr 0))), (.inr (.inr (.inr 0))), (.inr (.inr (.inr 0)))], [(.inl (7, 7, 0, 0)), (.inl (0, 0, 0, 0)), (.inl ((-2147483648), 2147483647, 0, 3))]),
  (21, [(.inl 5)], (0, 0), [(.inr (.inr (.inl (44, 44)))), (.inl (0, 1, 0, 0)), zIA, (.inr (.inr (.inr 0))), (.inr (.inr (.inr 0))), (.inr (.inr (.inr 0))), (.inr (.inr (.inr 0))), (.inr (.inr (.inr 0)))], [(.inr (.inl (2, 0, 7, 0)))]),
  (24, [(.inl 3)], (0, 0), [(.inr (.inr (.inl (44, 44)))), zIA, zIA, (.inr (.inr (.inr 0))), (.inr (.inr (.inr 0))), (.inr (.inr (.inr 0))), (.inr (.inr (.inr 0))), (.inr (.inr (.inr 0)))], []),
  (25, [(.inl 2)], (0, 0), [(.inr (.inr (.inl (44, 44)))), zIA, zIA, (.inr (.inr (.inr 0))), (.inr (.inr (.inr 0))), (.inr (.inr (.inr 0))), (.inr (.inr (.inr 0))), (.inr (.inr (.inr 0)))], [(.inr (.inr (.inl (44, 44))))]),
  (26, [(.inl 1)], (0, 0), [(.inr (.inr (.inl (44, 44)))), zIA, zIA, (.inr (.inr (.inr 0))), (.inr (.inr (.inr 0))), (.inr (.inr (.inr 0))), (.inr (.inr (.inr 0))), (.inr (.inr (.inr 0)))], [(.inl (1, 1, 0, 0)), (.inr (.inr (.inl (44, 44))))]),
  (29, [(.inl 0)], (0, 0), [(.inr (.inr (.inl (44, 44)))), zIA, zIA, (.inr (.inr (.inr 0))), (.inr (.inr (.inr 0))), (.inr (.inr (.inr 0))), (.inr (.inr (.inr 0))), (.inr (.inr (.inr 0)))], [(.inl (0, 0, 0, 0))]),
  (30, [(.inl 4)], (0, 0), [(.inr (.inr (.inl (44, 44)))), (.inl (0, 1, 0, 0)), (.inl (0, 7, 0, 0)), (.inr (.inr (.inr 0))), (.inr (.inr (.inr 0))), (.inr (.inr (.inr 0))), (.inr (.inr (.inr 0))), (.inr (.inr (.inr 0)))], [])]
def cs_spA : List zCt := [ct_111]
theorem gs_spA {xs : List Int32} : ∀ ct ∈ cs_spA, zGd xs ct := List.forall_mem_cons.mpr ⟨g_111, fun _ h => absurd h List.not_mem_nil⟩
def ce_spB : List zCe := [(95, [(.inl 7), (.inl 0), (.inl 0)], (0, 0), [(.inr (.inr (.inl (44, 44)))), (.inl (0, 1, 0, 0)), (.inl (0, 7, 0, 0)), (.inl (0, 15, 0, 0)), (.inl (0, 19, 0, 0)), (.inl (0, 19, 0, 0)), (.inr (.inr (.inr 0))), (.inr (.inr (.inr 0)))], []),
  (96, [(.inl 6), (.inl 0), (.inl 0)], (0, 0), [(.inr (.inr (.inl (44, 44)))), (.inl (0, 1, 0, 0)), (.inl (0, 7, 0, 0)), (.inl (0, 15, 0, 0)), (.inl (0, 19, 0, 0)), (.inl (0, 19, 0, 0)), (.inr (.inr (.inr 0))), (.inr (.inr (.inr 0)))], [(.inl (0, 0, 0, 0))]),
  (98, [(.inl 5), (.inr (8, 6)), (.inl 36)], (0, 0), [(.inr (.inr (.inl (44, 44)))), (.inl (0, 1, 0, 0)), (.inl (0, 7, 0, 0)), (.inl (0, 15, 0, 0)), (.inl (0, 19, 0, 0)), (.inl (0, 19, 0, 0)), (.inl (0, 8, 0, 0)), (.inr (.inr (.inr 0)))], []),
  (100, [(.inl 5), (.inr (8, 6)), (.inl 35)], (0, 0), [(.inr (.inr (.inl (44, 44)))), (.inl (0, 1, 0, 0)), (.inl (0, 7, 0, 0)), (.inl (0, 15, 0, 0)), (.inl (0, 19, 0, 0)), (.inl (0, 19, 0, 0)), (.inl (0, 8, 0, 0)), (.inr (.inr (.inr 0)))], [(.inl (0, 8, 0, 7))]),
  (102, [(.inl 5), (.inr (8, 6)), (.inl 34)], (0, 0), [(.inr (.inr (.inl (44, 44)))), (.inl (0, 1, 0, 0)), (.inl (0, 7, 0, 0)), (.inl (0, 15, 0, 0)), (.inl (0, 19, 0, 0)), (.inl (0, 19, 0, 0)), (.inl (0, 8, 0, 0)), (.inr (.inr (.inr 0)))], [(.inl (8, 8, 0, 0)), (.inl (0, 8, 0, 7))]),
  (105, [(.inl 5), (.inr (8, 6)), (.inl 33)], (0, 0), [(.inr (.inr (.inl (44, 44)))), (.inl (0, 1, 0, 0)), (.inl (0, 7, 0, 0)), (.inl (0, 15, 0, 0)), (.inl (0, 19, 0, 0)), (.inl (0, 19, 0, 0)), (.inl (0, 7, 0, 0)), (.inr (.inr (.inr 0)))], []),
  (106, [(.inl 5), (.inr (8, 6)), (.inl 32)], (0, 0), [(.inr (.inr (.inl (44, 44)))), (.inl (0, 1, 0, 0)), (.inl (0, 7, 0, 0)), (.inl (0, 15, 0, 0)), (.inl (0, 19, 0, 0)), (.inl (0, 19, 0, 0)), (.inl (0, 7, 0, 0)), (.inr (.inr (.inr 0)))], [(.inr (.inr (.inl (44, 44))))]),
  (109, [(.inl 5), (.inr (8, 6)), (.inl 31)], (0, 0), [(.inr (.inr (.inl (44, 44)))), (.inl (0, 1, 0, 0)), (.inl (0, 7, 0, 0)), (.inl (0, 15, 0, 0)), (.inl (0, 19, 0, 0)), (.inl (0, 19, 0, 0)), (.inl (0, 7, 0, 0)), (.inr (.inr (.inr 0)))], [(.inr (.inr (.inl (46, 46))))]),
  (111, [(.inl 5), (.inr (8, 6)), (.inl 30)], (0, 0), [(.inr (.inr (.inl (44, 44)))), (.inl (0, 1, 0, 0)), (.inl (0, 7, 0, 0)), (.inl (0, 15, 0, 0)), (.inl (0, 19, 0, 0)), (.inl (0, 19, 0, 0)), (.inl (0, 7, 0, 0)), (.inr (.inr (.inr 0)))], [(.inl (0, 19, 0, 5)), (.inr (.inr (.inl (46, 46))))]),
  (112, [(.inl 5), (.inr (8, 6)), (.inl 29)], (0, 0), [(.inr (.inr (.inl (44, 44)))), (.inl (0, 1, 0, 0)), (.inl (0, 7, 0, 0)), (.inl (0, 15, 0, 0)), (.inl (0, 19, 0, 0)), (.inl (0, 19, 0, 0)), (.inl (0, 7, 0, 0)), (.inr (.inr (.inr 0)))], [(.inr (.inr (.inl (47, 66))))]),
  (114, [(.inl 5), (.inr (8, 6)), (.inl 28)], (0, 0), [(.inr (.inr (.inl (44, 44)))), (.inl (0, 1, 0, 0)), (.inl (0, 7, 0, 0)), (.inl (0, 15, 0, 0)), (.inl (0, 19, 0, 0)), (.inl (0, 19, 0, 0)), (.inl (0, 7, 0, 0)), (.inr (.inr (.inr 0)))], [(.inl (0, 7, 0, 7)), (.inr (.inr (.inl (47, 66))))]),
  (115, [(.inl 5), (.inr (8, 6)), (.inl 27)], (0, 0), [(.inr (.inr (.inl (44, 44)))), (.inl (0, 1, 0, 0)), (.inl (0, 7, 0, 0)), (.inl (0, 15, 0, 0)), (.inl (0, 19, 0, 0)), (.inl (0, 19, 0, 0)), (.inl (0, 7, 0, 0)), (.inr (.inr (.inr 0)))], [zIA]),
  (117, [(.inl 5), (.inr (8, 6)), (.inl 26)], (0, 0), [(.inr (.inr (.inl (44, 44)))), (.inl (0, 1, 0, 0)), (.inl (0, 7, 0, 0)), (.inl (0, 15, 0, 0)), (.inl (0, 19, 0, 0)), (.inl (0, 19, 0, 0)), (.inl (0, 7, 0, 0)), zIA], []),
  (118, [(.inl 5), (.inr (8, 6)), (.inl 25)], (0, 0), [(.inr (.inr (.inl (44, 44)))), (.inl (0, 1, 0, 0)), (.inl (0, 7, 0, 0)), (.inl (0, 15, 0, 0)), (.inl (0, 19, 0, 0)), (.inl (0, 19, 0, 0)), (.inl (0, 7, 0, 0)), zIA], [(.inr (.inr (.inl (44, 44))))]),
  (120, [(.inl 5), (.inr (8, 6)), (.inl 24)], (0, 0), [(.inr (.inr (.inl (44, 44)))), (.inl (0, 1, 0, 0)), (.inl (0, 7, 0, 0)), (.inl (0, 15, 0, 0)), (.inl (0, 19, 0, 0)), (.inl (0, 19, 0, 0)), (.inl (0, 7, 0, 0)), zIA], [(.inl (0, 19, 0, 6)), (.inr (.inr (.inl (44, 44))))]),
  (122, [(.inl 5), (.inr (8, 6)), (.inl 23)], (0, 0), [(.inr (.inr (.inl (44, 44)))), (.inl (0, 1, 0, 0)), (.inl (0, 7, 0, 0)), (.inl (0, 15, 0, 0)), (.inl (0, 19, 0, 0)), (.inl (0, 19, 0, 0)), (.inl (0, 7, 0, 0)), zIA], [(.inl (0, 7, 0, 7)), (.inl (0, 19, 0, 6)), (.inr (.inr (.inl (44, 44))))]),
  (123, [(.inl 5), (.inr (8, 6)), (.inl 22)], (0, 0), [(.inr (.inr (.inl (44, 44)))), (.inl (0, 1, 0, 0)), (.inl (0, 7, 0, 0)), (.inl (0, 15, 0, 0)), (.inl (0, 19, 0, 0)), (.inl (0, 19, 0, 0)), (.inl (0, 7, 0, 0)), zIA], [(.inr (.inr (.inl (44, 44)))), (.inl (0, 7, 0, 7)), (.inl (0, 19, 0, 6)), (.inr (.inr (.inl (44, 44))))]),
  (125, [(.inl 5), (.inr (8, 6)), (.inl 21)], (0, 0), [(.inr (.inr (.inl (44, 44)))), (.inl (0, 1, 0, 0)), (.inl (0, 7, 0, 0)), (.inl (0, 15, 0, 0)), (.inl (0, 19, 0, 0)), (.inl (0, 19, 0, 0)), (.inl (0, 7, 0, 0)), zIA], [(.inl ((-2147483648), 2147483647, 0, 8)), (.inr (.inr (.inl (44, 44)))), (.inl (0, 7, 0, 7)), (.inl (0, 19, 0, 6)), (.inr (.inr (.inl (44, 44))))]),
  (128, [(.inl 5), (.inr (8, 6)), (.inl 20)], (0, 0), [(.inr (.inr (.inl (44, 44)))), (.inl (0, 1, 0, 0)), (.inl (0, 7, 0, 0)), (.inl (0, 15, 0, 0)), (.inl (0, 19, 0, 0)), (.inl (0, 19, 0, 0)), (.inl (0, 7, 0, 0)), zIA], [zIA, (.inl (0, 7, 0, 7)), (.inl (0, 19, 0, 6)), (.inr (.inr (.inl (44, 44))))]),
  (131, [(.inl 5), (.inr (8, 6)), (.inl 19)], (0, 0), [(.inr (.inr (.inl (44, 44)))), (.inl (0, 1, 0, 0)), (.inl (0, 7, 0, 0)), (.inl (0, 15, 0, 0)), (.inl (0, 19, 0, 0)), (.inl (0, 19, 0, 0)), (.inl (0, 7, 0, 0)), zIA], []),
  (132, [(.inl 5), (.inr (8, 6)), (.inl 18)], (0, 0), [(.inr (.inr (.inl (44, 44)))), (.inl (0, 1, 0, 0)), (.inl (0, 7, 0, 0)), (.inl (0, 15, 0, 0)), (.inl (0, 19, 0, 0)), (.inl (0, 19, 0, 0)), (.inl (0, 7, 0, 0)), zIA], [(.inr (.inr (.inl (44, 44))))]),
  (135, [(.inl 5), (.inr (8, 6)), (.inl 17)], (0, 0), [(.inr (.inr (.inl (44, 44)))), (.inl (0, 1, 0, 0)), (.inl (0, 7, 0, 0)), (.inl (0, 15, 0, 0)), (.inl (0, 19, 0, 0)), (.inl (0, 19, 0, 0)), (.inl (0, 7, 0, 0)), zIA], [(.inr (.inr (.inl (71, 71))))]),
  (136, [(.inl 5), (.inr (8, 6)), (.inl 16)], (0, 0), [(.inr (.inr (.inl (44, 44)))), (.inl (0, 1, 0, 0)), (.inl (0, 7, 0, 0)), (.inl (0, 15, 0, 0)), (.inl (0, 19, 0, 0)), (.inl (0, 19, 0, 0)), (.inl (0, 7, 0, 0)), zIA], [(.inl (0, 15, 0, 4)), (.inr (.inr (.inl (71, 71))))]),
  (138, [(.inl 5), (.inr (8, 6)), (.inl 15)], (0, 0), [(.inr (.inr (.inl (44, 44)))), (.inl (0, 1, 0, 0)), (.inl (0, 7, 0, 0)), (.inl (0, 15, 0, 0)), (.inl (0, 19, 0, 0)), (.inl (0, 19, 0, 0)), (.inl (0, 7, 0, 0)), zIA], [(.inl (8, 8, 0, 0)), (.inl (0, 15, 0, 4)), (.inr (.inr (.inl (71, 71))))]),
  (139, [(.inl 5), (.inr (8, 6)), (.inl 14)], (0, 0), [(.inr (.inr (.inl (44, 44)))), (.inl (0, 1, 0, 0)), (.inl (0, 7, 0, 0)), (.inl (0, 15, 0, 0)), (.inl (0, 19, 0, 0)), (.inl (0, 19, 0, 0)), (.inl (0, 7, 0, 0)), zIA], [(.inl (0, 120, 0, 0)), (.inr (.inr (.inl (71, 71))))]),
  (141, [(.inl 5), (.inr (8, 6)), (.inl 13)], (0, 0), [(.inr (.inr (.inl (44, 44)))), (.inl (0, 1, 0, 0)), (.inl (0, 7, 0, 0)), (.inl (0, 15, 0, 0)), (.inl (0, 19, 0, 0)), (.inl (0, 19, 0, 0)), (.inl (0, 7, 0, 0)), zIA], [(.inl (0, 7, 0, 7)), (.inl (0, 120, 0, 0)), (.inr (.inr (.inl (71, 71))))]),
  (142, [(.inl 5), (.inr (8, 6)), (.inl 12)], (0, 0), [(.inr (.inr (.inl (44, 44)))), (.inl (0, 1, 0, 0)), (.inl (0, 7, 0, 0)), (.inl (0, 15, 0, 0)), (.inl (0, 19, 0, 0)), (.inl (0, 19, 0, 0)), (.inl (0, 7, 0, 0)), zIA], [(.inl (0, 127, 0, 0)), (.inr (.inr (.inl (71, 71))))]),
  (143, [(.inl 5), (.inr (8, 6)), (.inl 11)], (0, 0), [(.inr (.inr (.inl (44, 44)))), (.inl (0, 1, 0, 0)), (.inl (0, 7, 0, 0)), (.inl (0, 15, 0, 0)), (.inl (0, 19, 0, 0)), (.inl (0, 19, 0, 0)), (.inl (0, 7, 0, 0)), zIA], [(.inl (0, 127, 0, 0)), (.inr (.inr (.inl (71, 71)))), (.inl (0, 127, 0, 0)), (.inr (.inr (.inl (71, 71))))]),
  (144, [(.inl 5), (.inr (8, 6)), (.inl 10)], (0, 0), [(.inr (.inr (.inl (44, 44)))), (.inl (0, 1, 0, 0)), (.inl (0, 7, 0, 0)), (.inl (0, 15, 0, 0)), (.inl (0, 19, 0, 0)), (.inl (0, 19, 0, 0)), (.inl (0, 7, 0, 0)), zIA], [(.inl (0, 1, 0, 0)), (.inl (0, 127, 0, 0)), (.inr (.inr (.inl (71, 71))))]),
  (145, [(.inl 5), (.inr (8, 6)), (.inl 9)], (0, 0), [(.inr (.inr (.inl (44, 44)))), (.inl (0, 1, 0, 0)), (.inl (0, 7, 0, 0)), (.inl (0, 15, 0, 0)), (.inl (0, 19, 0, 0)), (.inl (0, 19, 0, 0)), (.inl (0, 7, 0, 0)), zIA], [(.inr (.inr (.inl (44, 44)))), (.inl (0, 1, 0, 0)), (.inl (0, 127, 0, 0)), (.inr (.inr (.inl (71, 71))))]),
  (147, [(.inl 5), (.inr (8, 6)), (.inl 8)], (0, 0), [(.inr (.inr (.inl (44, 44)))), (.inl (0, 1, 0, 0)), (.inl (0, 7, 0, 0)), (.inl (0, 15, 0, 0)), (.inl (0, 19, 0, 0)), (.inl (0, 19, 0, 0)), (.inl (0, 7, 0, 0)), zIA], [(.inl ((-2147483648), 2147483647, 0, 8)), (.inr (.inr (.inl (44, 44)))), (.inl (0, 1, 0, 0)), (.inl (0, 127, 0, 0)), (.inr (.inr (.inl (71, 71))))]),
  (150, [(.inl 5), (.inr (8, 6)), (.inl 7)], (0, 0), [(.inr (.inr (.inl (44, 44)))), (.inl (0, 1, 0, 0)), (.inl (0, 7, 0, 0)), (.inl (0, 15, 0, 0)), (.inl (0, 19, 0, 0)), (.inl (0, 19, 0, 0)), (.inl (0, 7, 0, 0)), zIA], [(.inl (0, 2, 0, 0)), (.inl (0, 1, 0, 0)), (.inl (0, 127, 0, 0)), (.inr (.inr (.inl (71, 71))))]),
  (151, [(.inl 5), (.inr (8, 6)), (.inl 6)], (0, 0), [(.inr (.inr (.inl (44, 44)))), (.inl (0, 1, 0, 0)), (.inl (0, 7, 0, 0)), (.inl (0, 15, 0, 0)), (.inl (0, 19, 0, 0)), (.inl (0, 19, 0, 0)), (.inl (0, 7, 0, 0)), zIA], [(.inl (2, 2, 0, 0)), (.inl (0, 2, 0, 0)), (.inl (0, 1, 0, 0)), (.inl (0, 127, 0, 0)), (.inr (.inr (.inl (71, 71))))]),
  (154, [(.inl 5), (.inr (8, 6)), (.inl 5)], (0, 0), [(.inr (.inr (.inl (44, 44)))), (.inl (0, 1, 0, 0)), (.inl (0, 7, 0, 0)), (.inl (0, 15, 0, 0)), (.inl (0, 19, 0, 0)), (.inl (0, 19, 0, 0)), (.inl (0, 7, 0, 0)), zIA], [(.inl (0, 1, 0, 0)), (.inl (0, 127, 0, 0)), (.inr (.inr (.inl (71, 71))))]),
  (155, [(.inl 5), (.inr (8, 6)), (.inl 4)], (0, 0), [(.inr (.inr (.inl (44, 44)))), (.inl (0, 1, 0, 0)), (.inl (0, 7, 0, 0)), (.inl (0, 15, 0, 0)), (.inl (0, 19, 0, 0)), (.inl (0, 19, 0, 0)), (.inl (0, 7, 0, 0)), zIA], [(.inl (1, 1, 0, 0)), (.inl (0, 1, 0, 0)), (.inl (0, 127, 0, 0)), (.inr (.inr (.inl (71, 71))))]),
  (158, [(.inl 5), (.inr (8, 6)), (.inl 3)], (0, 0), [(.inr (.inr (.inl (44, 44)))), (.inl (0, 1, 0, 0)), (.inl (0, 7, 0, 0)), (.inl (0, 15, 0, 0)), (.inl (0, 19, 0, 0)), (.inl (0, 19, 0, 0)), (.inl (0, 7, 0, 0)), zIA], [(.inl (0, 1, 0, 0)), (.inl (0, 127, 0, 0)), (.inr (.inr (.inl (71, 71))))]),
  (159, [(.inl 5), (.inr (8, 6)), (.inl 2)], (0, 0), [(.inr (.inr (.inl (44, 44)))), (.inl (0, 1, 0, 0)), (.inl (0, 7, 0, 0)), (.inl (0, 15, 0, 0)), (.inl (0, 19, 0, 0)), (.inl (0, 19, 0, 0)), (.inl (0, 7, 0, 0)), zIA], [(.inl (0, 1, 0, 0)), (.inl (0, 1, 0, 0)), (.inl (0, 127, 0, 0)), (.inr (.inr (.inl (71, 71))))]),
  (160, [(.inl 5), (.inr (8, 6)), (.inl 1)], (0, 0), [(.inr (.inr (.inl (44, 44)))), (.inl (0, 1, 0, 0)), (.inl (0, 7, 0, 0)), (.inl (0, 15, 0, 0)), (.inl (0, 19, 0, 0)), (.inl (0, 19, 0, 0)), (.inl (0, 7, 0, 0)), zIA], [(.inl (0, 1, 0, 0)), (.inl (0, 127, 0, 0)), (.inr (.inr (.inl (71, 71))))]),
  (161, [(.inl 5), (.inr (8, 6)), (.inl 0)], (0, 0), [(.inr (.inr (.inl (44, 44)))), (.inl (0, 1, 0, 0)), (.inl (0, 7, 0, 0)), (.inl (0, 15, 0, 0)), (.inl (0, 19, 0, 0)), (.inl (0, 19, 0, 0)), (.inl (0, 7, 0, 0)), zIA], []),
  (164, [(.inl 5), (.inr (8, 6)), (.inl 37)], (0, 0), [(.inr (.inr (.inl (44, 44)))), (.inl (0, 1, 0, 0)), (.inl (0, 7, 0, 0)), (.inl (0, 15, 0, 0)), (.inl (0, 19, 0, 0)), (.inl (0, 19, 0, 0)), (.inl (1, 8, 0, 0)), zIA], []),
  (167, [(.inl 4), (.inl 0), (.inl 0)], (0, 0), [(.inr (.inr (.inl (44, 44)))), (.inl (0, 1, 0, 0)), (.inl (0, 7, 0, 0)), (.inl (0, 15, 0, 0)), (.inl (0, 19, 0, 0)), (.inl (0, 19, 0, 0)), (.inl (8, 8, 0, 0)), (.inr (.inr (.inr 0)))], []),
  (168, [(.inl 3), (.inl 0), (.inl 0)], (0, 0), [(.inr (.inr (.inl (44, 44)))), (.inl (0, 1, 0, 0)), (.inl (0, 7, 0, 0)), (.inl (0, 15, 0, 0)), (.inl (0, 19, 0, 0)), (.inl (0, 19, 0, 0)), (.inl (8, 8, 0, 0)), (.inr (.inr (.inr 0)))], [(.inr (.inr (.inl (44, 44))))]),
  (171, [(.inl 2), (.inl 0), (.inl 0)], (0, 0), [(.inr (.inr (.inl (44, 44)))), (.inl (0, 1, 0, 0)), (.inl (0, 7, 0, 0)), (.inl (0, 15, 0, 0)), (.inl (0, 19, 0, 0)), (.inl (0, 19, 0, 0)), (.inl (8, 8, 0, 0)), (.inr (.inr (.inr 0)))], [(.inr (.inr (.inl (70, 70))))]),
  (172, [(.inl 1), (.inl 0), (.inl 0)], (0, 0), [(.inr (.inr (.inl (44, 44)))), (.inl (0, 1, 0, 0)), (.inl (0, 7, 0, 0)), (.inl (0, 15, 0, 0)), (.inl (0, 19, 0, 0)), (.inl (0, 19, 0, 0)), (.inl (8, 8, 0, 0)), (.inr (.inr (.inr 0)))], [(.inl (0, 1, 0, 2)), (.inr (.inr (.inl (70, 70))))]),
  (173, [(.inl 0), (.inl 0), (.inl 0)], (0, 0), [(.inr (.inr (.inl (44, 44)))), (.inl (0, 1, 0, 0)), (.inl (0, 7, 0, 0)), (.inl (0, 15, 0, 0)), (.inl (0, 19, 0, 0)), (.inl (0, 19, 0, 0)), (.inl (8, 8, 0, 0)), (.inr (.inr (.inr 0)))], [(.inl (0, 2, 0, 0))])]
def cs_spB : List zCt := [ct_121, ct_122, ct_126]
theorem gs_spB {xs : List Int32} : ∀ ct ∈ cs_spB, zGd xs ct := List.forall_mem_cons.mpr ⟨g_121, List.forall_mem_cons.mpr ⟨g_122, List.forall_mem_cons.mpr ⟨g_126, fun _ h => absurd h List.not_mem_nil⟩⟩⟩
section ZHI2
variable {xs : List Int32} {g : zG} {lg : Nat} {h : zH} {D nc ns : Nat}
def ct_147 : zCt := (147, [(.inr (.inr (.inl (44, 44)))), zIA, zIA], some zIA, 16, 80, 4000)
theorem q_147 : zGq xs ct_147 := by
  intro g lg h nc ns as hI hS
  obtain ⟨v, w1, w2, rfl, k, k1, k2⟩ := zin3 hS
  obtain rfl := zP_eq k
  obtain ⟨x1, rfl, -⟩ := zI_eq k1
  obtain ⟨x2, rfl, -⟩ := zI_eq k2
  refine ⟨_, rfl, zregR (cert := ce_spA) (cs := cs_spA) (rt := some zIA) 0 30 gs_spA rfl rfl (by decide +kernel) hI (zgl_in (n := 5) hS) trivial (fun v h' lg' nc' ns' b1 b2 b3 b4 b5 b6 => ?_) (fun L st lg1 h1 nc1 ns1 b1 b2 b3 b4 b5 b6 b7 => ?_)⟩
  · have b5 : nc' + 2 * lg ≤ nc + 2 * lg' + 0 := b5
    have b6 : ns' + 100 * lg ≤ ns + 100 * lg' + 0 := b6
    exact zPq_ret b1 b2 b3 rfl rfl (by omega) (by omega)
  · have hz := b1.sizes
    have b6 : nc1 + 2 * lg + 0 ≤ nc + 2 * lg1 + 0 := b6
    have b7 : ns1 + 100 * lg + 0 ≤ ns + 100 * lg1 + 0 := b7
    obtain rfl := zgs_0 b3
    obtain ⟨L1, rfl, y1⟩ := zgl_P b2
    obtain ⟨bk, L2, rfl, k0, k1, y2⟩ := zgl_I y1
    obtain ⟨rw, L3, rfl, r0, r1, y3⟩ := zgl_I y2
    obtain ⟨o3, L4, rfl, y4⟩ := zgl_N y3
    obtain ⟨o4, L5, rfl, y5⟩ := zgl_N y4
    obtain ⟨o5, L6, rfl, y6⟩ := zgl_N y5
    obtain ⟨o6, L7, rfl, y7⟩ := zgl_N y6
    obtain ⟨o7, L8, rfl, y8⟩ := zgl_N y7
    obtain rfl := zgl_0 y8
    obtain ⟨vs, m1, m2, m3, m4⟩ := b1.obj
    have f20 := zfld m3 (k := 20) (by decide) rfl
    have f19 := zfld m3 (k := 19) (by decide) rfl
    obtain ⟨l, p1, p2, p3⟩ := b1.rows 70 100 2 0 2 rfl
    obtain ⟨s0, v1, v2⟩ := zald_eq (nx := 36) (L := [some (.ref 44), some (.int bk), some (.int rw), o3, o4, o5, o6, o7]) (r := []) (j := bk) p1 k0 (by omega)
    have s1 := p3 s0 (List.mem_of_getElem? v1)
    refine zEs_run 1 rfl ?_
    refine zEs_get rfl m1 rfl f20 ?_
    refine zEs_run 1 rfl ?_
    refine zEs_step (dc := 0) (ds := 0) rfl (show zald 100 36 _ (.int bk :: .ref 70 :: []) h1 = _ from v2) ?_
    refine zEs_run 1 rfl ?_
    refine zEs_icmp rfl (fun gg => ?_) (fun _ => ?_)
    · have z := zF_ne_t gg
      rw [show (Int32.ofInt 2).toInt = 2 from by decide] at z
      have t8 : ((Int8.ofInt 8).toInt32).toInt = 8 := by decide
      have t10 : ((Int8.ofInt 10).toInt32).toInt = 10 := by decide
      have e1 := Int32.toInt_mul bk (Int8.ofInt 8).toInt32
      rw [t8, zbm (by omega) (by omega)] at e1
      have e2 := Int32.toInt_add (bk * (Int8.ofInt 8).toInt32) rw
      rw [e1, zbm (by omega) (by omega)] at e2
      have e3 := Int32.toInt_mul bk (Int8.ofInt 10).toInt32
      rw [t10, zbm (by omega) (by omega)] at e3
      have e4 := Int32.toInt_add (bk * (Int8.ofInt 10).toInt32) (Int8.ofInt 8).toInt32
      rw [e3, t8, zbm (by omega) (by omega)] at e4
      have e5 := Int32.toInt_add (bk * (Int8.ofInt 10).toInt32 + (Int8.ofInt 8).toInt32) s0
      rw [e4, zbm (by omega) (by omega)] at e5
      have e6 := zinc_le (x := s0) (n := 1) (by omega) (by decide) (by decide)
      refine zEs_run 7 rfl ?_
      refine zEs_get rfl m1 rfl f19 ?_
      refine zEs_run 1 rfl ?_
      obtain ⟨l9, q1, q2, q3⟩ := b1.rows 69 100 16 0 19 rfl
      obtain ⟨ol, u1, u2⟩ := zald_eq (nx := 59) (L := [some (.ref 44), some (.int bk), some (.int rw), some (.int (bk * (Int8.ofInt 8).toInt32 + rw)), o4, o5, o6, o7]) (r := []) (j := bk * (Int8.ofInt 8).toInt32 + rw) q1 (by omega) (by omega)
      have ol1 := q3 ol (List.mem_of_getElem? u1)
      refine zEs_step (dc := 0) (ds := 0) rfl (show zald 100 59 _ (.int (bk * (Int8.ofInt 8).toInt32 + rw) :: .ref 69 :: []) h1 = _ from u2) ?_
      refine zEs_run 7 rfl ?_
      refine zEs_get rfl m1 rfl f20 ?_
      refine zEs_run 1 rfl ?_
      obtain ⟨s0', v1', v2'⟩ := zald_eq (nx := 74) (L := [some (.ref 44), some (.int bk), some (.int rw), some (.int (bk * (Int8.ofInt 8).toInt32 + rw)), some (.int ol), o5, o6, o7]) (r := [.int (bk * (Int8.ofInt 10).toInt32 + (Int8.ofInt 8).toInt32)]) (j := bk) p1 k0 (by omega)
      obtain rfl : s0 = s0' := Option.some.inj (v1.symm.trans v1')
      refine zEs_step (dc := 0) (ds := 0) rfl (show zald 100 74 _ (.int bk :: .ref 70 :: [.int (bk * (Int8.ofInt 10).toInt32 + (Int8.ofInt 8).toInt32)]) h1 = _ from v2') ?_
      refine zEs_run 3 rfl ?_
      refine zEs_get rfl m1 rfl f20 ?_
      refine zEs_run 2 rfl ?_
      obtain ⟨s2, v3, v4⟩ := zald_eq (nx := 84) (L := [some (.ref 44), some (.int bk), some (.int rw), some (.int (bk * (Int8.ofInt 8).toInt32 + rw)), some (.int ol), some (.int (bk * (Int8.ofInt 10).toInt32 + (Int8.ofInt 8).toInt32 + s0)), o6, o7]) (r := [.int bk, .ref 70]) (j := bk) p1 k0 (by omega)
      obtain rfl : s0 = s2 := Option.some.inj (v1.symm.trans v3)
      refine zEs_step (dc := 0) (ds := 0) rfl (show zald 100 84 _ (.int bk :: .ref 70 :: [.int bk, .ref 70]) h1 = _ from v4) ?_
      refine zEs_run 2 rfl ?_
      have w1 := zast_eq (f := some) (nx := 87) (L := [some (.ref 44), some (.int bk), some (.int rw), some (.int (bk * (Int8.ofInt 8).toInt32 + rw)), some (.int ol), some (.int (bk * (Int8.ofInt 10).toInt32 + (Int8.ofInt 8).toInt32 + s0)), o6, o7]) (r := []) (j := bk) (v := s0 + Int32.ofInt 1) p1 k0 (by omega) rfl
      refine zEs_step (dc := 0) (ds := 0) rfl (show zast 100 some 87 _ (.int (s0 + Int32.ofInt 1) :: .int bk :: .ref 70 :: []) h1 = _ from w1) ?_
      obtain ⟨I2, le2⟩ := zHI_row (l' := l.set bk.toInt.toNat (s0 + Int32.ofInt 1)) b1 (q := 70) rfl (by simpa using p2) (fun x hx => by
        rcases List.mem_or_eq_of_mem_set hx with hx | rfl
        · exact p3 x hx
        · omega)
      obtain ⟨vs2, n1, n2, n3, n4⟩ := I2.obj
      refine zEs_run 1 rfl ?_
      refine zEs_get rfl n1 rfl (zfld n3 (k := 19) (by decide) rfl) ?_
      refine zEs_run 2 rfl ?_
      obtain ⟨l8, c1, c2, c3⟩ := I2.rows 69 100 16 0 19 rfl
      have w2 := zast_eq (f := some) (nx := 95) (L := [some (.ref 44), some (.int bk), some (.int rw), some (.int (bk * (Int8.ofInt 8).toInt32 + rw)), some (.int ol), some (.int (bk * (Int8.ofInt 10).toInt32 + (Int8.ofInt 8).toInt32 + s0)), o6, o7]) (r := []) (j := bk * (Int8.ofInt 8).toInt32 + rw) (v := bk * (Int8.ofInt 10).toInt32 + (Int8.ofInt 8).toInt32 + s0) c1 (by omega) (by omega) rfl
      refine zEs_step (dc := 0) (ds := 0) rfl (show zast 100 some 95 _ (.int (bk * (Int8.ofInt 10).toInt32 + (Int8.ofInt 8).toInt32 + s0) :: .int (bk * (Int8.ofInt 8).toInt32 + rw) :: .ref 69 :: []) _ = _ from w2) ?_
      obtain ⟨I3, le3⟩ := zHI_row (l' := l8.set (bk * (Int8.ofInt 8).toInt32 + rw).toInt.toNat (bk * (Int8.ofInt 10).toInt32 + (Int8.ofInt 8).toInt32 + s0)) I2 (q := 69) rfl (by simpa using c2) (fun x hx => by
        rcases List.mem_or_eq_of_mem_set hx with hx | rfl
        · exact c3 x hx
        · omega)
      refine zregE (cert := ce_spB) (cs := cs_spB) (rt := some zIA) 95 gs_spB rfl (by decide +kernel) I3 ⟨Or.inr ⟨_, rfl, zP_in⟩, Or.inr ⟨_, rfl, zI_in k0 k1⟩, Or.inr ⟨_, rfl, zI_in r0 r1⟩, Or.inr ⟨_, rfl, zI_in (by omega) (by omega)⟩, Or.inr ⟨_, rfl, zI_in ol1.1 ol1.2⟩, Or.inr ⟨_, rfl, zI_in (by omega) (by omega)⟩, Or.inl rfl, Or.inl rfl, trivial⟩ trivial (fun v h' lg' nc' ns' c1 c2 c3 c4 c5 c6 => ?_)
      have l9 := zLE_tr b4 (zLE_tr le2 (zLE_tr le3 c3))
      have c5 : nc' + 2 * lg1 ≤ nc1 + 2 * lg' + 0 := c5
      have c6 : ns' + 100 * lg1 ≤ ns1 + 100 * lg' + 0 := c6
      exact zPq_ret c1 c2 l9 rfl rfl (by omega) (by omega)
    · obtain ⟨ws, hw⟩ := zth b1
      refine zEs_run 2 rfl ?_
      refine zEs_ctr g_111 rfl (show zcallV 1 7 111 45 [.int (Int32.ofInt 2), .ref 44] h1 = _ from zcallV_eq rfl hw (by decide)) (by decide) b1 ⟨zP_in, zIA_ok _, trivial⟩ (fun v h2 lg2 nc2 ns2 q I2 le2 l2 c2 s2 => ?_)
      obtain ⟨u, rfl, q⟩ := q
      obtain ⟨x, rfl, -⟩ := zI_eq q
      have d1 : ct_111.dc = 0 := rfl
      have d2 : ct_111.ds = 0 := rfl
      exact zEs_end rfl rfl (zPq_ret (rt := some zIA) (g0 := g) ⟨_, rfl, zIA_ok x⟩ I2 (zLE_tr b4 le2) rfl rfl (by omega) (by omega))
end ZHI2
