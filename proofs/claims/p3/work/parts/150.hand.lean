/-! The reference's methods, by hand: code. -/
def ce_coA : List zCe := [(0, [(.inl 21)], (0, 0), [(.inr (.inr (.inl (44, 44)))), zIA, zIA, (.inr (.inr (.inr 0))), (.inr (.inr (.inr 0))), (.inr (.inr (.inr 0))), (.inr (.inr (.inr 0)))], []),
  (1, [(.inl 20)], (0, 0), [(.inr (.inr (.inl (44, 44)))), zIA, zIA, (.inr (.inr (.inr 0))), (.inr (.inr (.inr 0))), (.inr (.inr (.inr 0))), (.inr (.inr (.inr 0)))], [(.inr (.inr (.inl (44, 44))))]),
  (2, [(.inl 19)], (0, 0), [(.inr (.inr (.inl (44, 44)))), zIA, zIA, (.inr (.inr (.inr 0))), (.inr (.inr (.inr 0))), (.inr (.inr (.inr 0))), (.inr (.inr (.inr 0)))], [(.inl (0, 0, 0, 0)), (.inr (.inr (.inl (44, 44))))]),
  (5, [(.inl 18)], (0, 0), [(.inr (.inr (.inl (44, 44)))), zIA, zIA, (.inr (.inr (.inr 0))), (.inr (.inr (.inr 0))), (.inr (.inr (.inr 0))), (.inr (.inr (.inr 0)))], []),
  (6, [(.inl 17)], (0, 0), [(.inr (.inr (.inl (44, 44)))), zIA, zIA, (.inr (.inr (.inr 0))), (.inr (.inr (.inr 0))), (.inr (.inr (.inr 0))), (.inr (.inr (.inr 0)))], [(.inl ((-2147483648), 2147483647, 0, 2))]),
  (7, [(.inl 16)], (0, 0), [(.inr (.inr (.inl (44, 44)))), zIA, zIA, (.inr (.inr (.inr 0))), (.inr (.inr (.inr 0))), (.inr (.inr (.inr 0))), (.inr (.inr (.inr 0)))], [(.inl (4, 4, 0, 0)), (.inl ((-2147483648), 2147483647, 0, 2))]),
  (9, [(.inl 15)], (0, 0), [(.inr (.inr (.inl (44, 44)))), zIA, zIA, (.inr (.inr (.inr 0))), (.inr (.inr (.inr 0))), (.inr (.inr (.inr 0))), (.inr (.inr (.inr 0)))], [(.inl (10, 10, 0, 0)), (.inl (4, 4, 0, 0)), (.inl ((-2147483648), 2147483647, 0, 2))]),
  (12, [(.inl 14)], (0, 0), [(.inr (.inr (.inl (44, 44)))), zIA, zIA, (.inr (.inr (.inr 0))), (.inr (.inr (.inr 0))), (.inr (.inr (.inr 0))), (.inr (.inr (.inr 0)))], [(.inr (.inl (1, 4, 10, 0)))]),
  (15, [(.inl 13)], (0, 0), [(.inr (.inr (.inl (44, 44)))), (.inl (4, 10, 0, 0)), zIA, (.inr (.inr (.inr 0))), (.inr (.inr (.inr 0))), (.inr (.inr (.inr 0))), (.inr (.inr (.inr 0)))], []),
  (16, [(.inl 12)], (0, 0), [(.inr (.inr (.inl (44, 44)))), (.inl (4, 10, 0, 0)), zIA, (.inr (.inr (.inr 0))), (.inr (.inr (.inr 0))), (.inr (.inr (.inr 0))), (.inr (.inr (.inr 0)))], [(.inl ((-2147483648), 2147483647, 0, 3))]),
  (17, [(.inl 11)], (0, 0), [(.inr (.inr (.inl (44, 44)))), (.inl (4, 10, 0, 0)), zIA, (.inr (.inr (.inr 0))), (.inr (.inr (.inr 0))), (.inr (.inr (.inr 0))), (.inr (.inr (.inr 0)))], [(.inl (4, 4, 0, 0)), (.inl ((-2147483648), 2147483647, 0, 3))]),
  (19, [(.inl 10)], (0, 0), [(.inr (.inr (.inl (44, 44)))), (.inl (4, 10, 0, 0)), zIA, (.inr (.inr (.inr 0))), (.inr (.inr (.inr 0))), (.inr (.inr (.inr 0))), (.inr (.inr (.inr 0)))], [(.inl (6, 6, 0, 0)), (.inl (4, 4, 0, 0)), (.inl ((-2147483648), 2147483647, 0, 3))]),
  (22, [(.inl 9)], (0, 0), [(.inr (.inr (.inl (44, 44)))), (.inl (4, 10, 0, 0)), zIA, (.inr (.inr (.inr 0))), (.inr (.inr (.inr 0))), (.inr (.inr (.inr 0))), (.inr (.inr (.inr 0)))], [(.inr (.inl (2, 4, 6, 0)))]),
  (25, [(.inl 8)], (0, 0), [(.inr (.inr (.inl (44, 44)))), (.inl (4, 10, 0, 0)), (.inl (4, 6, 0, 0)), (.inr (.inr (.inr 0))), (.inr (.inr (.inr 0))), (.inr (.inr (.inr 0))), (.inr (.inr (.inr 0)))], []),
  (26, [(.inl 7)], (0, 0), [(.inr (.inr (.inl (44, 44)))), (.inl (4, 10, 0, 0)), (.inl (4, 6, 0, 0)), (.inr (.inr (.inr 0))), (.inr (.inr (.inr 0))), (.inr (.inr (.inr 0))), (.inr (.inr (.inr 0)))], [(.inl (4, 6, 0, 3))]),
  (29, [(.inl 6)], (0, 0), [(.inr (.inr (.inl (44, 44)))), (.inl (4, 10, 0, 0)), (.inl (4, 6, 0, 0)), (.inr (.inr (.inr 0))), (.inr (.inr (.inr 0))), (.inr (.inr (.inr 0))), (.inr (.inr (.inr 0)))], [zIA]),
  (30, [(.inl 5)], (0, 0), [(.inr (.inr (.inl (44, 44)))), (.inl (4, 10, 0, 0)), (.inl (4, 6, 0, 0)), (.inr (.inr (.inr 0))), (.inr (.inr (.inr 0))), (.inr (.inr (.inr 0))), (.inr (.inr (.inr 0)))], [(.inl (4, 10, 0, 2)), zIA]),
  (33, [(.inl 3)], (0, 0), [(.inr (.inr (.inl (44, 44)))), zIA, zIA, (.inr (.inr (.inr 0))), (.inr (.inr (.inr 0))), (.inr (.inr (.inr 0))), (.inr (.inr (.inr 0)))], []),
  (34, [(.inl 2)], (0, 0), [(.inr (.inr (.inl (44, 44)))), zIA, zIA, (.inr (.inr (.inr 0))), (.inr (.inr (.inr 0))), (.inr (.inr (.inr 0))), (.inr (.inr (.inr 0)))], [(.inr (.inr (.inl (44, 44))))]),
  (35, [(.inl 1)], (0, 0), [(.inr (.inr (.inl (44, 44)))), zIA, zIA, (.inr (.inr (.inr 0))), (.inr (.inr (.inr 0))), (.inr (.inr (.inr 0))), (.inr (.inr (.inr 0)))], [(.inl (1, 1, 0, 0)), (.inr (.inr (.inl (44, 44))))]),
  (38, [(.inl 0)], (0, 0), [(.inr (.inr (.inl (44, 44)))), zIA, zIA, (.inr (.inr (.inr 0))), (.inr (.inr (.inr 0))), (.inr (.inr (.inr 0))), (.inr (.inr (.inr 0)))], [(.inl (0, 0, 0, 0))]),
  (39, [(.inl 4)], (0, 0), [(.inr (.inr (.inl (44, 44)))), (.inl (4, 10, 0, 0)), (.inl (4, 6, 0, 0)), (.inr (.inr (.inr 0))), (.inr (.inr (.inr 0))), (.inr (.inr (.inr 0))), (.inr (.inr (.inr 0)))], [])]
def cs_coA : List zCt := [ct_111, ct_115]
theorem gs_coA {xs : List Int32} : ∀ ct ∈ cs_coA, zGd xs ct := List.forall_mem_cons.mpr ⟨g_111, List.forall_mem_cons.mpr ⟨g_115, fun _ h => absurd h List.not_mem_nil⟩⟩
def ce_coB : List zCe := [(230, [(.inl 8), (.inl 0), (.inl 0), (.inl 0), (.inl 0)], (0, 0), [(.inr (.inr (.inl (44, 44)))), zIA, zIA, (.inr (.inr (.inr 0))), (.inr (.inr (.inr 0))), (.inr (.inr (.inr 0))), (.inr (.inr (.inr 0)))], []),
  (231, [(.inl 7), (.inl 0), (.inl 0), (.inl 0), (.inl 0)], (0, 0), [(.inr (.inr (.inl (44, 44)))), zIA, zIA, (.inr (.inr (.inr 0))), (.inr (.inr (.inr 0))), (.inr (.inr (.inr 0))), (.inr (.inr (.inr 0)))], [(.inl (0, 0, 0, 0))]),
  (233, [(.inl 6), (.inr (128, 5)), (.inl 8), (.inl 0), (.inl 0)], (0, 0), [(.inr (.inr (.inl (44, 44)))), zIA, zIA, (.inr (.inr (.inr 0))), (.inr (.inr (.inr 0))), (.inl (0, 128, 0, 0)), (.inr (.inr (.inr 0)))], []),
  (235, [(.inl 6), (.inr (128, 5)), (.inl 7), (.inl 0), (.inl 0)], (0, 0), [(.inr (.inr (.inl (44, 44)))), zIA, zIA, (.inr (.inr (.inr 0))), (.inr (.inr (.inr 0))), (.inl (0, 128, 0, 0)), (.inr (.inr (.inr 0)))], [(.inl (0, 128, 0, 6))]),
  (238, [(.inl 6), (.inr (128, 5)), (.inl 6), (.inl 0), (.inl 0)], (0, 0), [(.inr (.inr (.inl (44, 44)))), zIA, zIA, (.inr (.inr (.inr 0))), (.inr (.inr (.inr 0))), (.inl (0, 128, 0, 0)), (.inr (.inr (.inr 0)))], [(.inl (128, 128, 0, 0)), (.inl (0, 128, 0, 6))]),
  (241, [(.inl 6), (.inr (128, 5)), (.inl 5), (.inl 0), (.inl 0)], (0, 0), [(.inr (.inr (.inl (44, 44)))), zIA, zIA, (.inr (.inr (.inr 0))), (.inr (.inr (.inr 0))), (.inl (0, 127, 0, 0)), (.inr (.inr (.inr 0)))], []),
  (242, [(.inl 6), (.inr (128, 5)), (.inl 4), (.inl 0), (.inl 0)], (0, 0), [(.inr (.inr (.inl (44, 44)))), zIA, zIA, (.inr (.inr (.inr 0))), (.inr (.inr (.inr 0))), (.inl (0, 127, 0, 0)), (.inr (.inr (.inr 0)))], [(.inr (.inr (.inl (44, 44))))]),
  (245, [(.inl 6), (.inr (128, 5)), (.inl 3), (.inl 0), (.inl 0)], (0, 0), [(.inr (.inr (.inl (44, 44)))), zIA, zIA, (.inr (.inr (.inr 0))), (.inr (.inr (.inr 0))), (.inl (0, 127, 0, 0)), (.inr (.inr (.inr 0)))], [(.inr (.inr (.inl (71, 71))))]),
  (247, [(.inl 6), (.inr (128, 5)), (.inl 2), (.inl 0), (.inl 0)], (0, 0), [(.inr (.inr (.inl (44, 44)))), zIA, zIA, (.inr (.inr (.inr 0))), (.inr (.inr (.inr 0))), (.inl (0, 127, 0, 0)), (.inr (.inr (.inr 0)))], [(.inl (0, 127, 0, 6)), (.inr (.inr (.inl (71, 71))))]),
  (248, [(.inl 6), (.inr (128, 5)), (.inl 1), (.inl 0), (.inl 0)], (0, 0), [(.inr (.inr (.inl (44, 44)))), zIA, zIA, (.inr (.inr (.inr 0))), (.inr (.inr (.inr 0))), (.inl (0, 127, 0, 0)), (.inr (.inr (.inr 0)))], [(.inl (0, 0, 0, 0)), (.inl (0, 127, 0, 6)), (.inr (.inr (.inl (71, 71))))]),
  (249, [(.inl 6), (.inr (128, 5)), (.inl 0), (.inl 0), (.inl 0)], (0, 0), [(.inr (.inr (.inl (44, 44)))), zIA, zIA, (.inr (.inr (.inr 0))), (.inr (.inr (.inr 0))), (.inl (0, 127, 0, 0)), (.inr (.inr (.inr 0)))], []),
  (252, [(.inl 6), (.inr (128, 5)), (.inl 9), (.inl 0), (.inl 0)], (0, 0), [(.inr (.inr (.inl (44, 44)))), zIA, zIA, (.inr (.inr (.inr 0))), (.inr (.inr (.inr 0))), (.inl (1, 128, 0, 0)), (.inr (.inr (.inr 0)))], []),
  (255, [(.inl 5), (.inl 0), (.inl 0), (.inl 0), (.inl 0)], (0, 0), [(.inr (.inr (.inl (44, 44)))), zIA, zIA, (.inr (.inr (.inr 0))), (.inr (.inr (.inr 0))), (.inl (128, 128, 0, 0)), (.inr (.inr (.inr 0)))], []),
  (256, [(.inl 4), (.inl 0), (.inl 0), (.inl 0), (.inl 0)], (0, 0), [(.inr (.inr (.inl (44, 44)))), zIA, zIA, (.inr (.inr (.inr 0))), (.inr (.inr (.inr 0))), (.inl (128, 128, 0, 0)), (.inr (.inr (.inr 0)))], [(.inl (0, 0, 0, 0))]),
  (258, [(.inl 3), (.inr (20, 5)), (.inl 13), (.inl 0), (.inl 0)], (0, 0), [(.inr (.inr (.inl (44, 44)))), zIA, zIA, (.inr (.inr (.inr 0))), (.inr (.inr (.inr 0))), (.inl (0, 20, 0, 0)), (.inr (.inr (.inr 0)))], []),
  (260, [(.inl 3), (.inr (20, 5)), (.inl 12), (.inl 0), (.inl 0)], (0, 0), [(.inr (.inr (.inl (44, 44)))), zIA, zIA, (.inr (.inr (.inr 0))), (.inr (.inr (.inr 0))), (.inl (0, 20, 0, 0)), (.inr (.inr (.inr 0)))], [(.inl (0, 20, 0, 6))]),
  (261, [(.inl 3), (.inr (20, 5)), (.inl 11), (.inl 0), (.inl 0)], (0, 0), [(.inr (.inr (.inl (44, 44)))), zIA, zIA, (.inr (.inr (.inr 0))), (.inr (.inr (.inr 0))), (.inl (0, 20, 0, 0)), (.inr (.inr (.inr 0)))], [(.inr (.inr (.inl (44, 44)))), (.inl (0, 20, 0, 6))]),
  (264, [(.inl 3), (.inr (20, 5)), (.inl 10), (.inl 0), (.inl 0)], (0, 0), [(.inr (.inr (.inl (44, 44)))), zIA, zIA, (.inr (.inr (.inr 0))), (.inr (.inr (.inr 0))), (.inl (0, 20, 0, 0)), (.inr (.inr (.inr 0)))], [(.inr (.inr (.inl (46, 46)))), (.inl (0, 20, 0, 6))]),
  (265, [(.inl 3), (.inr (20, 5)), (.inl 9), (.inl 0), (.inl 0)], (0, 0), [(.inr (.inr (.inl (44, 44)))), zIA, zIA, (.inr (.inr (.inr 0))), (.inr (.inr (.inr 0))), (.inl (0, 20, 0, 0)), (.inr (.inr (.inr 0)))], [(.inl (20, 20, 0, 0)), (.inl (0, 20, 0, 6))]),
  (268, [(.inl 3), (.inr (20, 5)), (.inl 8), (.inl 0), (.inl 0)], (0, 0), [(.inr (.inr (.inl (44, 44)))), zIA, zIA, (.inr (.inr (.inr 0))), (.inr (.inr (.inr 0))), (.inl (0, 19, 0, 0)), (.inr (.inr (.inr 0)))], []),
  (269, [(.inl 3), (.inr (20, 5)), (.inl 7), (.inl 0), (.inl 0)], (0, 0), [(.inr (.inr (.inl (44, 44)))), zIA, zIA, (.inr (.inr (.inr 0))), (.inr (.inr (.inr 0))), (.inl (0, 19, 0, 0)), (.inr (.inr (.inr 0)))], [(.inr (.inr (.inl (44, 44))))]),
  (272, [(.inl 3), (.inr (20, 5)), (.inl 6), (.inl 0), (.inl 0)], (0, 0), [(.inr (.inr (.inl (44, 44)))), zIA, zIA, (.inr (.inr (.inr 0))), (.inr (.inr (.inr 0))), (.inl (0, 19, 0, 0)), (.inr (.inr (.inr 0)))], [(.inr (.inr (.inl (67, 67))))]),
  (274, [(.inl 3), (.inr (20, 5)), (.inl 5), (.inl 0), (.inl 0)], (0, 0), [(.inr (.inr (.inl (44, 44)))), zIA, zIA, (.inr (.inr (.inr 0))), (.inr (.inr (.inr 0))), (.inl (0, 19, 0, 0)), (.inr (.inr (.inr 0)))], [(.inl (0, 19, 0, 6)), (.inr (.inr (.inl (67, 67))))]),
  (275, [(.inl 3), (.inr (20, 5)), (.inl 4), (.inl 0), (.inl 0)], (0, 0), [(.inr (.inr (.inl (44, 44)))), zIA, zIA, (.inr (.inr (.inr 0))), (.inr (.inr (.inr 0))), (.inl (0, 19, 0, 0)), (.inr (.inr (.inr 0)))], [(.inl (0, 0, 0, 0)), (.inl (0, 19, 0, 6)), (.inr (.inr (.inl (67, 67))))]),
  (276, [(.inl 3), (.inr (20, 5)), (.inl 3), (.inl 0), (.inl 0)], (0, 0), [(.inr (.inr (.inl (44, 44)))), zIA, zIA, (.inr (.inr (.inr 0))), (.inr (.inr (.inr 0))), (.inl (0, 19, 0, 0)), (.inr (.inr (.inr 0)))], []),
  (277, [(.inl 3), (.inr (20, 5)), (.inl 2), (.inl 0), (.inl 0)], (0, 0), [(.inr (.inr (.inl (44, 44)))), zIA, zIA, (.inr (.inr (.inr 0))), (.inr (.inr (.inr 0))), (.inl (0, 19, 0, 0)), (.inr (.inr (.inr 0)))], [(.inl (0, 0, 0, 0))]),
  (279, [(.inl 3), (.inr (20, 5)), (.inl 1), (.inr (8, 6)), (.inl 8)], (0, 0), [(.inr (.inr (.inl (44, 44)))), zIA, zIA, (.inr (.inr (.inr 0))), (.inr (.inr (.inr 0))), (.inl (0, 19, 0, 0)), (.inl (0, 8, 0, 0))], []),
  (281, [(.inl 3), (.inr (20, 5)), (.inl 1), (.inr (8, 6)), (.inl 7)], (0, 0), [(.inr (.inr (.inl (44, 44)))), zIA, zIA, (.inr (.inr (.inr 0))), (.inr (.inr (.inr 0))), (.inl (0, 19, 0, 0)), (.inl (0, 8, 0, 0))], [(.inl (0, 8, 0, 7))]),
  (283, [(.inl 3), (.inr (20, 5)), (.inl 1), (.inr (8, 6)), (.inl 6)], (0, 0), [(.inr (.inr (.inl (44, 44)))), zIA, zIA, (.inr (.inr (.inr 0))), (.inr (.inr (.inr 0))), (.inl (0, 19, 0, 0)), (.inl (0, 8, 0, 0))], [(.inl (8, 8, 0, 0)), (.inl (0, 8, 0, 7))]),
  (286, [(.inl 3), (.inr (20, 5)), (.inl 1), (.inr (8, 6)), (.inl 5)], (0, 0), [(.inr (.inr (.inl (44, 44)))), zIA, zIA, (.inr (.inr (.inr 0))), (.inr (.inr (.inr 0))), (.inl (0, 19, 0, 0)), (.inl (0, 7, 0, 0))], []),
  (287, [(.inl 3), (.inr (20, 5)), (.inl 1), (.inr (8, 6)), (.inl 4)], (0, 0), [(.inr (.inr (.inl (44, 44)))), zIA, zIA, (.inr (.inr (.inr 0))), (.inr (.inr (.inr 0))), (.inl (0, 19, 0, 0)), (.inl (0, 7, 0, 0))], [(.inr (.inr (.inl (44, 44))))]),
  (289, [(.inl 3), (.inr (20, 5)), (.inl 1), (.inr (8, 6)), (.inl 3)], (0, 0), [(.inr (.inr (.inl (44, 44)))), zIA, zIA, (.inr (.inr (.inr 0))), (.inr (.inr (.inr 0))), (.inl (0, 19, 0, 0)), (.inl (0, 7, 0, 0))], [(.inl (0, 19, 0, 6)), (.inr (.inr (.inl (44, 44))))]),
  (291, [(.inl 3), (.inr (20, 5)), (.inl 1), (.inr (8, 6)), (.inl 2)], (0, 0), [(.inr (.inr (.inl (44, 44)))), zIA, zIA, (.inr (.inr (.inr 0))), (.inr (.inr (.inr 0))), (.inl (0, 19, 0, 0)), (.inl (0, 7, 0, 0))], [(.inl (0, 7, 0, 7)), (.inl (0, 19, 0, 6)), (.inr (.inr (.inl (44, 44))))]),
  (292, [(.inl 3), (.inr (20, 5)), (.inl 1), (.inr (8, 6)), (.inl 1)], (0, 0), [(.inr (.inr (.inl (44, 44)))), zIA, zIA, (.inr (.inr (.inr 0))), (.inr (.inr (.inr 0))), (.inl (0, 19, 0, 0)), (.inl (0, 7, 0, 0))], [(.inl (0, 0, 0, 0)), (.inl (0, 7, 0, 7)), (.inl (0, 19, 0, 6)), (.inr (.inr (.inl (44, 44))))]),
  (295, [(.inl 3), (.inr (20, 5)), (.inl 1), (.inr (8, 6)), (.inl 0)], (0, 0), [(.inr (.inr (.inl (44, 44)))), zIA, zIA, (.inr (.inr (.inr 0))), (.inr (.inr (.inr 0))), (.inl (0, 19, 0, 0)), (.inl (0, 7, 0, 0))], []),
  (298, [(.inl 3), (.inr (20, 5)), (.inl 1), (.inr (8, 6)), (.inl 9)], (0, 0), [(.inr (.inr (.inl (44, 44)))), zIA, zIA, (.inr (.inr (.inr 0))), (.inr (.inr (.inr 0))), (.inl (0, 19, 0, 0)), (.inl (1, 8, 0, 0))], []),
  (301, [(.inl 3), (.inr (20, 5)), (.inl 0), (.inl 0), (.inl 0)], (0, 0), [(.inr (.inr (.inl (44, 44)))), zIA, zIA, (.inr (.inr (.inr 0))), (.inr (.inr (.inr 0))), (.inl (0, 19, 0, 0)), (.inl (8, 8, 0, 0))], []),
  (304, [(.inl 3), (.inr (20, 5)), (.inl 14), (.inl 0), (.inl 0)], (0, 0), [(.inr (.inr (.inl (44, 44)))), zIA, zIA, (.inr (.inr (.inr 0))), (.inr (.inr (.inr 0))), (.inl (1, 20, 0, 0)), (.inl (8, 8, 0, 0))], []),
  (307, [(.inl 2), (.inl 0), (.inl 0), (.inl 0), (.inl 0)], (0, 0), [(.inr (.inr (.inl (44, 44)))), zIA, zIA, (.inr (.inr (.inr 0))), (.inr (.inr (.inr 0))), (.inl (20, 20, 0, 0)), (.inr (.inr (.inr 0)))], []),
  (308, [(.inl 1), (.inl 0), (.inl 0), (.inl 0), (.inl 0)], (0, 0), [(.inr (.inr (.inl (44, 44)))), zIA, zIA, (.inr (.inr (.inr 0))), (.inr (.inr (.inr 0))), (.inl (20, 20, 0, 0)), (.inr (.inr (.inr 0)))], [(.inr (.inr (.inl (44, 44))))]),
  (311, [(.inl 0), (.inl 0), (.inl 0), (.inl 0), (.inl 0)], (0, 0), [(.inr (.inr (.inl (44, 44)))), zIA, zIA, (.inr (.inr (.inr 0))), (.inr (.inr (.inr 0))), (.inl (20, 20, 0, 0)), (.inr (.inr (.inr 0)))], [(.inl (8, 16, 8, 0))])]
def cs_coB : List zCt := [ct_117, ct_126]
theorem gs_coB {xs : List Int32} : ∀ ct ∈ cs_coB, zGd xs ct := List.forall_mem_cons.mpr ⟨g_117, List.forall_mem_cons.mpr ⟨g_126, fun _ h => absurd h List.not_mem_nil⟩⟩
section ZHM
variable {xs : List Int32} {g : zG} {lg : Nat} {h : zH} {D nc ns y pc nx k yy m c : Nat} {L : zL} {r st : List Value} {P : zO → Prop}
theorem zEs_chk {a : Nat} {vs : List Value} (h1 : zat (zmc y) pc = some (.checkcast m, nx, 100, yy, k, c)) (ha : h[a]? = some (100, vs)) (g9 : zEs xs D y nx L (.ref a :: r) h nc ns P) : zEs xs D y pc L (.ref a :: r) h nc ns P := by
  refine zEs_step (dc := 0) (ds := 0) h1 ?_ g9
  show zchk 100 nx L (.ref a :: r) h = _
  unfold zchk
  dsimp only
  rw [ha]
  exact if_pos rfl
def zwe (g : zG) (z : Nat → Nat) : zG := (g.1, g.2.1, g.2.2.1, g.2.2.2.1, g.zs, g.zw, g.zn, g.nl, z)
theorem l_139a {K R : Int32} {r3 r4 : Nat} {S : Nat} {o6 : Option Value} {t : Nat} (ht : 3 ≤ t) (htn : t < g.nl) (hr : g.p t = r3) (hS : g.zs = S) (hS2 : S ≤ 24) : ∀ (n : Nat) (i : Int32) (z : Nat → Nat) (h : zH) (nc ns : Nat), zHI (zwe g z) lg h → (z t : Int) ≤ i.toInt → i.toInt ≤ S → (S - i.toInt).toNat < n →
    (∀ (z' : Nat → Nat) (h' : zH) (nc' ns' : Nat) (i' : Int32), zHI (zwe g z') lg h' → (∀ u, u ≠ t → z' u = z u) → (nc' : Int) ≤ nc + (S - i.toInt) → (ns' : Int) ≤ ns + 91 * (S - i.toInt) → zLE h h' → zEs xs 30 139 141 [some (.ref 44), some (.int K), some (.int R), some (.ref r3), some (.ref r4), some (.int i'), o6] [] h' nc' ns' P) → zEs xs 30 139 78 [some (.ref 44), some (.int K), some (.int R), some (.ref r3), some (.ref r4), some (.int i), o6] [] h nc ns P
  | 0, _, _, _, _, _, _, _, _, hn, _ => absurd hn (Nat.not_lt_zero _)
  | n + 1, i, z, h, nc, ns, hI, hzt, i1, hn, Z => by
    have hz := hI.sizes
    have hnl : (zwe g z).nl = g.nl := rfl
    have hzs : (zwe g z).zs = S := hS
    obtain ⟨vs, m1, m2, m3, m4⟩ := hI.obj
    have ff := zfldL (j := 0) m3 (k := 23) (by decide) rfl
    obtain ⟨ws, hw⟩ := zrow10 hI (j := 0) (by omega)
    refine zEs_run 2 rfl ?_
    refine zEs_get rfl m1 rfl ff ?_
    refine zEs_callG rfl (show zcallV 0 10 243 89 (.ref ((zwe g z).p 0) :: _) h = _ from zcallV_eq rfl hw (Nat.le_of_ble_eq_true rfl)) (zsize (D := 29) (j := 0) hI (by omega) (show (zwe g z).zs ≤ 1000 by omega)) (fun v h9 nc9 ns9 q => ?_) (fun E h9 nc9 ns9 q => by obtain ⟨_, _, q⟩ := q; cases q)
    obtain ⟨x, hx, q⟩ := q
    cases q
    have hx : x.toInt = ((zwe g z).zs : Nat) := hx
    refine zEs_icmp rfl (fun gg => ?_) (fun gg => ?_)
    · exact Z z h _ _ i hI (fun _ _ => rfl) (by omega) (by omega) zLE_rf
    · have zz := zF_ge_f gg
      have hi := zinc_le (x := i) (n := 1) (by omega) (by decide) (by decide)
      have J : ∀ (z' : Nat → Nat) (h' : zH) (nc' ns' : Nat), zHI (zwe g z') lg h' → (∀ u, u ≠ t → z' u = z u) → z' t ≤ z t + 1 → nc' ≤ nc + 1 → ns' ≤ ns + 91 → zLE h h' → zEs xs 30 139 135 [some (.ref 44), some (.int K), some (.int R), some (.ref r3), some (.ref r4), some (.int i), o6] [] h' nc' ns' P := by
        intro z' h' nc' ns' f1 f2 f3 f4 f5 f6
        refine zEs_run 2 rfl ?_
        refine l_139a ht htn hr hS hS2 n _ z' h' _ _ f1 (by omega) (by omega) (by omega) (fun z2 h2 nc2 ns2 i2 e1 e2 e3 e4 e5 => ?_)
        exact Z z2 h2 nc2 ns2 i2 e1 (fun u hu => (e2 u hu).trans (f2 u hu)) (by omega) (by omega) (zLE_tr f6 e5)
      refine zEs_run 1 rfl ?_
      refine zEs_get rfl m1 rfl ff ?_
      refine zEs_run 1 rfl ?_
      have GT : zMs xs 29 239 [.ref ((zwe g z).p 0), .int i] h (nc + 0 + 0 + 0 + 0 + 0 + 0) (ns + 0 + 0 + 0 + 0 + 0 + 0) (fun o => ∃ e l, 73 ≤ e ∧ h[e]? = some (zar l) ∧ zQj 0 l ∧ o = (.inl (some (.ref e)), h, nc, ns)) := zgetl (D := 27) (j := 0) hI (by omega) (by omega) (show i.toInt < ((zwe g z).zs : Nat) by omega)
      refine zEs_callG rfl (show zcallV 1 10 239 103 (.int i :: .ref ((zwe g z).p 0) :: _) h = _ from zcallV_eq rfl hw (Nat.le_of_ble_eq_true rfl)) GT (fun v h9 nc9 ns9 q => ?_) (fun E h9 nc9 ns9 q => by obtain ⟨_, _, _, _, _, q⟩ := q; cases q)
      obtain ⟨e, l, e1, e2, ⟨a0, a1, a2, a3, rfl, b0, b1⟩, q⟩ := q
      cases q
      refine zEs_chk rfl e2 ?_
      refine zEs_run 1 rfl ?_
      refine zEs_ald (l := [a0, a1, a2, a3]) (v := a2) rfl e2 (by decide) rfl ?_
      refine zEs_run 3 rfl ?_
      refine zEs_icmp rfl (fun _ => J z h _ _ hI (fun _ _ => rfl) (by omega) (by omega) (by omega) zLE_rf) (fun _ => ?_)
      refine zEs_run 2 rfl ?_
      refine zEs_get rfl m1 rfl ff ?_
      refine zEs_run 1 rfl ?_
      refine zEs_callG rfl (show zcallV 1 10 239 126 (.int i :: .ref ((zwe g z).p 0) :: _) h = _ from zcallV_eq rfl hw (Nat.le_of_ble_eq_true rfl)) GT (fun v h9 nc9 ns9 q => ?_) (fun E h9 nc9 ns9 q => by obtain ⟨_, _, _, _, _, q⟩ := q; cases q)
      obtain ⟨e', l', f1, f2, f3, q⟩ := q
      cases q
      refine zEs_chk rfl f2 ?_
      obtain ⟨ws2, hw2⟩ := zrow10 hI (j := t) (by omega)
      have hr2 : (zwe g z).p t = r3 := hr
      rw [hr2] at hw2
      have AD := zadd (xs := xs) (D := 24) (nc := nc) (ns := ns) (g' := zwe g (fun u => if u = t then z t + 1 else z u)) (lg' := lg) (j := t) hI (by omega) f1 f2 (by rw [zQj3 ht]; exact f3) rfl rfl rfl rfl rfl rfl (fun u hu ne => by
        unfold zsz
        split
        · rfl
        · rfl
        · rfl
        · exact if_neg ne) (by
        rw [zsz3 ht, zsz3 ht]
        exact if_pos rfl) ⟨hz.1, hz.2.1, hz.2.2.1, fun u => by
        show (if u = t then z t + 1 else z u) ≤ 24
        split
        · omega
        · exact hz.2.2.2.2.2.2 u⟩
      rw [hr2] at AD
      refine zEs_callG rfl (show zcallV 1 10 237 134 [.ref e', .ref r3] h = _ from zcallV_eq rfl hw2 (by decide)) AD (fun v h9 nc9 ns9 q => ?_) (fun E h9 nc9 ns9 q => by obtain ⟨_, _, _, q, _⟩ := q; cases q)
      obtain ⟨h', nc', ns', q, g1, g2, g3, g4, g5⟩ := q
      cases q
      refine zEs_run 1 rfl ?_
      exact J _ h9 _ _ g1 (fun u hu => if_neg hu) (by show (if t = t then z t + 1 else z t) ≤ _; rw [if_pos rfl]; omega) g4 g5 g2
theorem l_139b {K R : Int32} {r3 r4 : Nat} {S : Nat} {o6 : Option Value} {t : Nat} (ht : 3 ≤ t) (htn : t < g.nl) (hr : g.p t = r4) (hS : g.zw = S) (hS2 : S ≤ 24) : ∀ (n : Nat) (i : Int32) (z : Nat → Nat) (h : zH) (nc ns : Nat), zHI (zwe g z) lg h → (z t : Int) ≤ i.toInt → i.toInt ≤ S → (S - i.toInt).toNat < n →
    (∀ (z' : Nat → Nat) (h' : zH) (nc' ns' : Nat) (i' : Int32), zHI (zwe g z') lg h' → (∀ u, u ≠ t → z' u = z u) → (nc' : Int) ≤ nc + (S - i.toInt) → (ns' : Int) ≤ ns + 91 * (S - i.toInt) → zLE h h' → zEs xs 30 139 208 [some (.ref 44), some (.int K), some (.int R), some (.ref r3), some (.ref r4), some (.int i'), o6] [] h' nc' ns' P) → zEs xs 30 139 144 [some (.ref 44), some (.int K), some (.int R), some (.ref r3), some (.ref r4), some (.int i), o6] [] h nc ns P
  | 0, _, _, _, _, _, _, _, _, hn, _ => absurd hn (Nat.not_lt_zero _)
  | n + 1, i, z, h, nc, ns, hI, hzt, i1, hn, Z => by
    have hz := hI.sizes
    have hnl : (zwe g z).nl = g.nl := rfl
    have hzs : (zwe g z).zw = S := hS
    obtain ⟨vs, m1, m2, m3, m4⟩ := hI.obj
    have ff := zfldL (j := 1) m3 (k := 24) (by decide) rfl
    obtain ⟨ws, hw⟩ := zrow10 hI (j := 1) (by omega)
    refine zEs_run 2 rfl ?_
    refine zEs_get rfl m1 rfl ff ?_
    refine zEs_callG rfl (show zcallV 0 10 243 155 (.ref ((zwe g z).p 1) :: _) h = _ from zcallV_eq rfl hw (Nat.le_of_ble_eq_true rfl)) (zsize (D := 29) (j := 1) hI (by omega) (show (zwe g z).zw ≤ 1000 by omega)) (fun v h9 nc9 ns9 q => ?_) (fun E h9 nc9 ns9 q => by obtain ⟨_, _, q⟩ := q; cases q)
    obtain ⟨x, hx, q⟩ := q
    cases q
    have hx : x.toInt = ((zwe g z).zw : Nat) := hx
    refine zEs_icmp rfl (fun gg => ?_) (fun gg => ?_)
    · exact Z z h _ _ i hI (fun _ _ => rfl) (by omega) (by omega) zLE_rf
    · have zz := zF_ge_f gg
      have hi := zinc_le (x := i) (n := 1) (by omega) (by decide) (by decide)
      have J : ∀ (z' : Nat → Nat) (h' : zH) (nc' ns' : Nat), zHI (zwe g z') lg h' → (∀ u, u ≠ t → z' u = z u) → z' t ≤ z t + 1 → nc' ≤ nc + 1 → ns' ≤ ns + 91 → zLE h h' → zEs xs 30 139 202 [some (.ref 44), some (.int K), some (.int R), some (.ref r3), some (.ref r4), some (.int i), o6] [] h' nc' ns' P := by
        intro z' h' nc' ns' f1 f2 f3 f4 f5 f6
        refine zEs_run 2 rfl ?_
        refine l_139b ht htn hr hS hS2 n _ z' h' _ _ f1 (by omega) (by omega) (by omega) (fun z2 h2 nc2 ns2 i2 e1 e2 e3 e4 e5 => ?_)
        exact Z z2 h2 nc2 ns2 i2 e1 (fun u hu => (e2 u hu).trans (f2 u hu)) (by omega) (by omega) (zLE_tr f6 e5)
      refine zEs_run 1 rfl ?_
      refine zEs_get rfl m1 rfl ff ?_
      refine zEs_run 1 rfl ?_
      have GT : zMs xs 29 239 [.ref ((zwe g z).p 1), .int i] h (nc + 0 + 0 + 0 + 0 + 0 + 0) (ns + 0 + 0 + 0 + 0 + 0 + 0) (fun o => ∃ e l, 73 ≤ e ∧ h[e]? = some (zar l) ∧ zQj 1 l ∧ o = (.inl (some (.ref e)), h, nc, ns)) := zgetl (D := 27) (j := 1) hI (by omega) (by omega) (show i.toInt < ((zwe g z).zw : Nat) by omega)
      refine zEs_callG rfl (show zcallV 1 10 239 169 (.int i :: .ref ((zwe g z).p 1) :: _) h = _ from zcallV_eq rfl hw (Nat.le_of_ble_eq_true rfl)) GT (fun v h9 nc9 ns9 q => ?_) (fun E h9 nc9 ns9 q => by obtain ⟨_, _, _, _, _, q⟩ := q; cases q)
      obtain ⟨e, l, e1, e2, ⟨a0, a1, a2, a3, rfl, b0, b1⟩, q⟩ := q
      cases q
      refine zEs_chk rfl e2 ?_
      refine zEs_run 1 rfl ?_
      refine zEs_ald (l := [a0, a1, a2, a3]) (v := a2) rfl e2 (by decide) rfl ?_
      refine zEs_run 3 rfl ?_
      refine zEs_icmp rfl (fun _ => J z h _ _ hI (fun _ _ => rfl) (by omega) (by omega) (by omega) zLE_rf) (fun _ => ?_)
      refine zEs_run 2 rfl ?_
      refine zEs_get rfl m1 rfl ff ?_
      refine zEs_run 1 rfl ?_
      refine zEs_callG rfl (show zcallV 1 10 239 193 (.int i :: .ref ((zwe g z).p 1) :: _) h = _ from zcallV_eq rfl hw (Nat.le_of_ble_eq_true rfl)) GT (fun v h9 nc9 ns9 q => ?_) (fun E h9 nc9 ns9 q => by obtain ⟨_, _, _, _, _, q⟩ := q; cases q)
      obtain ⟨e', l', f1, f2, f3, q⟩ := q
      cases q
      refine zEs_chk rfl f2 ?_
      obtain ⟨ws2, hw2⟩ := zrow10 hI (j := t) (by omega)
      have hr2 : (zwe g z).p t = r4 := hr
      rw [hr2] at hw2
      have AD := zadd (xs := xs) (D := 24) (nc := nc) (ns := ns) (g' := zwe g (fun u => if u = t then z t + 1 else z u)) (lg' := lg) (j := t) hI (by omega) f1 f2 (by rw [zQj3 ht]; exact f3) rfl rfl rfl rfl rfl rfl (fun u hu ne => by
        unfold zsz
        split
        · rfl
        · rfl
        · rfl
        · exact if_neg ne) (by
        rw [zsz3 ht, zsz3 ht]
        exact if_pos rfl) ⟨hz.1, hz.2.1, hz.2.2.1, fun u => by
        show (if u = t then z t + 1 else z u) ≤ 24
        split
        · omega
        · exact hz.2.2.2.2.2.2 u⟩
      rw [hr2] at AD
      refine zEs_callG rfl (show zcallV 1 10 237 201 [.ref e', .ref r4] h = _ from zcallV_eq rfl hw2 (by decide)) AD (fun v h9 nc9 ns9 q => ?_) (fun E h9 nc9 ns9 q => by obtain ⟨_, _, _, q, _⟩ := q; cases q)
      obtain ⟨h', nc', ns', q, g1, g2, g3, g4, g5⟩ := q
      cases q
      refine zEs_run 1 rfl ?_
      exact J _ h9 _ _ g1 (fun u hu => if_neg hu) (by show (if t = t then z t + 1 else z t) ≤ _; rw [if_pos rfl]; omega) g4 g5 g2
def zcA (g : zG) (z : Nat → Nat) (t : Nat) : zG := (g.1, g.2.1, g.2.2.1, (fun i => if i = 0 then g.p t else if i = 3 then g.p (t + 1) else g.p i), z t, g.zw, g.zn, 4, fun u => if u = 3 then z (t + 1) else 0)
def zcB (g : zG) (z : Nat → Nat) (t : Nat) : zG := (g.1, g.2.1, g.2.2.1, (fun i => if i = 0 then g.p t else if i = 1 then g.p (t + 1) else g.p i), z t, z (t + 1), g.zn, 3, fun _ => 0)
theorem zHI_A {z : Nat → Nat} {t : Nat} {vs : List Value} (hI : zHI (zwe g z) lg h) (h0 : h[44]? = some (7, vs)) (ht : 3 ≤ t) (hn : t + 1 < g.nl) (hz : ∀ u, z u ≤ 24) : zHI (zcA g z t) lg (h.set 44 (7, vs.set 23 (.ref (g.p t)))) := by
  have hs := hI.sizes
  exact zHI_sg (g := zwe g z) (g' := zcA g z t) (lg' := lg) (j := 0) (nl' := 4) (σ := fun i => if i = 0 then t else if i = 3 then t + 1 else i) hI h0 (by decide) (by decide) (fun i hi => by
    show (if i = 0 then t else if i = 3 then t + 1 else i) < g.nl
    split
    · omega
    · split <;> omega) (fun i i' hi hi' e => by
    have e : (if i = 0 then t else if i = 3 then t + 1 else i) = (if i' = 0 then t else if i' = 3 then t + 1 else i') := e
    rcases (show i = 0 ∨ i = 1 ∨ i = 2 ∨ i = 3 by omega) with rfl | rfl | rfl | rfl <;> rcases (show i' = 0 ∨ i' = 1 ∨ i' = 2 ∨ i' = 3 by omega) with rfl | rfl | rfl | rfl <;> simp at e ⊢ <;> omega) (fun i hi ne => by
    show (if i = 0 then t else if i = 3 then t + 1 else i) = i
    rw [if_neg ne, if_neg (by omega)]) (fun i hi => by
    left
    show zQj (if i = 0 then t else if i = 3 then t + 1 else i) = zQj i
    rcases (show i = 0 ∨ i = 1 ∨ i = 2 ∨ i = 3 by omega) with rfl | rfl | rfl | rfl
    · rw [if_pos rfl, zQj3 ht]
      rfl
    · rfl
    · rfl
    · rw [if_neg (by decide), if_pos rfl, zQj3 (by omega)]
      rfl) rfl rfl rfl rfl rfl (fun i hi => by
    show (if i = 0 then g.p t else if i = 3 then g.p (t + 1) else g.p i) = g.p (if i = 0 then t else if i = 3 then t + 1 else i)
    split
    · rfl
    · split <;> rfl) (fun i hi => by
    show zsz (zcA g z t) lg i = zsz (zwe g z) lg (if i = 0 then t else if i = 3 then t + 1 else i)
    rcases (show i = 0 ∨ i = 1 ∨ i = 2 ∨ i = 3 by omega) with rfl | rfl | rfl | rfl
    · rw [if_pos rfl, zsz3 ht]
      rfl
    · rfl
    · rfl
    · rw [if_neg (by decide), if_pos rfl, zsz3 (g := zwe g z) (show 3 ≤ t + 1 by omega)]
      rfl) ⟨hz t, hs.2.1, hs.2.2.1, fun u => by
    show (if u = 3 then z (t + 1) else 0) ≤ 24
    split
    · exact hz _
    · omega⟩
theorem zHI_B {z : Nat → Nat} {t : Nat} {vs : List Value} (hI : zHI (zcA g z t) lg h) (h0 : h[44]? = some (7, vs)) (hz : ∀ u, z u ≤ 24) : zHI (zcB g z t) lg (h.set 44 (7, vs.set 24 (.ref (g.p (t + 1))))) := by
  have hs := hI.sizes
  exact zHI_sg (g' := zcB g z t) (lg' := lg) (j := 1) (nl' := 3) (σ := fun i => if i = 1 then 3 else i) hI h0 (by decide) (by decide) (fun i hi => by
    show (if i = 1 then 3 else i) < 4
    split <;> omega) (fun i i' hi hi' e => by
    have e : (if i = 1 then 3 else i) = (if i' = 1 then 3 else i') := e
    split at e <;> split at e <;> omega) (fun i hi ne => if_neg ne) (fun i hi => by
    left
    rcases (show i = 0 ∨ i = 1 ∨ i = 2 by omega) with rfl | rfl | rfl <;> rfl) rfl rfl rfl rfl rfl (fun i hi => by
    rcases (show i = 0 ∨ i = 1 ∨ i = 2 by omega) with rfl | rfl | rfl <;> rfl) (fun i hi => by
    rcases (show i = 0 ∨ i = 1 ∨ i = 2 by omega) with rfl | rfl | rfl <;> rfl) ⟨hz t, hz _, hs.2.2.1, fun u => Nat.zero_le _⟩
theorem zset_w {x y : Nat × List Value} {X : zH} (hl : 44 < h.length) : (h.set 44 x ++ X).set 44 y = (h ++ X).set 44 y := by
  rw [List.set_append_left _ _ (by simpa using hl), List.set_append_left _ _ hl, List.set_set]
theorem zst_go {vs : List Value} {k : Nat} {v : Value} {g' : zG} (hk : k < 26) (m1 : h[44]? = some (7, vs)) (l : vs.length = 26) (q : zHI g' lg (h.set 44 (7, vs.set k v)) ∧ zLE h (h.set 44 (7, vs.set k v))) : ∃ (h' : zH) (ws : List Value), h.set 44 (7, vs.set k v) = h' ∧ zHI g' lg h' ∧ zLE h h' ∧ h'[44]? = some (7, ws) ∧ ws.length = 26 ∧ ws[k]? = some v ∧ ∀ j, j ≠ k → ws[j]? = vs[j]? :=
  ⟨_, _, rfl, q.1, q.2, List.getElem?_set_self (List.getElem?_eq_some_iff.mp m1).1, by simpa using l, List.getElem?_set_self (by omega), fun j hj => List.getElem?_set_ne (fun z => hj z.symm)⟩
/-- the reference's object tells the code c2 -/
def zMf (g : zG) (c2 : Nat × Nat) (h : zH) : Prop := c2 ∈ zcds ∧ g.f 1 = .int (Int32.ofNat c2.1) ∧ g.f 2 = .int (Int32.ofNat c2.2) ∧ ∃ q : Nat, g.f 3 = .ref q ∧ 73 ≤ q ∧ h[q]? = some (zar (zcol c2.1 c2.2))
def zP139 (g : zG) (h0 : zH) (x1 x2 : Int32) (nc ns : Nat) : zO → Prop := fun o => ∃ (v : Int32) (g' : zG) (lg' : Nat) (h' : zH) (nc' ns' : Nat), o = (.inl (some (.int v)), h', nc', ns') ∧ zHI g' lg' h' ∧ zLE h0 h' ∧ g'.s = g.s ∧ g'.a = g.a ∧ nc' ≤ nc + 300 ∧ ns' ≤ ns + 13000 ∧ (¬ zCd x1 x2 ∧ zfw g' = zfw g ∨ zCd x1 x2 ∧ ∃ k r : Nat, x1 = Int32.ofNat k ∧ x2 = Int32.ofNat r ∧ zMf g' (k, r) h')
theorem m_139 {x1 x2 : Int32} (hI : zHI g lg h) : zMs xs 30 139 [.ref 44, .int x1, .int x2] h nc ns (zP139 g h x1 x2 nc ns) := by
  obtain ⟨vs0, m01, m02, m03, m04⟩ := hI.obj
  refine ⟨_, rfl, zEs_run 2 rfl ?_⟩
  refine zEs_put rfl m01 rfl rfl (by omega) ?_
  obtain ⟨h1, w1, e1, b1, le1, c1, l1, s1, k1⟩ := zst_go (by decide) m01 m02 (zHI_fld (k := 0) (v := .int (Int32.ofInt 0)) hI m01 (by decide) (zIA_ok _) (by decide))
  rw [e1]
  have no : ¬ zCd x1 x2 → zEs xs 30 139 33 [some (.ref 44), some (.int x1), some (.int x2), none, none, none, none] [] h1 nc ns (zP139 g h x1 x2 nc ns) := by
    intro nr
    refine zEs_run 2 rfl ?_
    refine zEs_callG rfl (show zcallV 1 7 111 38 [.int (Int32.ofInt 1), .ref 44] h1 = _ from zcallV_eq rfl c1 (by decide)) (m_111 c1 l1) (fun v h9 nc1 ns1 q => ?_) (fun E h9 nc1 ns1 q => by cases q)
    cases q
    obtain ⟨i1, i2⟩ := zHI_fld (k := 0) (v := .int (Int32.ofInt 1)) b1 c1 (by decide) (zIA_ok _) (by decide)
    exact zEs_end rfl rfl ⟨_, g, lg, _, _, _, rfl, i1, zLE_tr le1 i2, rfl, rfl, by omega, by omega, Or.inl ⟨nr, rfl⟩⟩
  have e4 : (Int32.ofInt 4).toInt = 4 := by decide
  have e10 : ((Int8.ofInt 10).toInt32).toInt = 10 := by decide
  have e6 : ((Int8.ofInt 6).toInt32).toInt = 6 := by decide
  refine zEs_run 3 rfl ?_
  refine zEs_callG rfl rfl m_112x (fun v h9 nc1 ns1 q => ?_) (fun E h9 nc1 ns1 q => by obtain ⟨_, q, _⟩ := q; cases q)
  obtain ⟨w, q, hw⟩ := q
  cases q
  rw [e4, e10] at hw
  refine zEs_if rfl (fun q1 => ?_) (fun q1 => ?_)
  · rcases hw with ⟨rfl, -⟩ | ⟨rfl, z⟩
    · exact absurd (zF_eq_t q1) (by decide)
    · exact no (fun k => z k.1)
  replace hw := hw.resolve_right (fun z => by
    obtain ⟨rfl, -⟩ := z
    exact zF_eq_f q1 rfl)
  obtain ⟨-, A1⟩ := hw
  clear q1
  refine zEs_run 3 rfl ?_
  refine zEs_callG rfl rfl m_112x (fun v h9 nc1 ns1 q => ?_) (fun E h9 nc1 ns1 q => by obtain ⟨_, q, _⟩ := q; cases q)
  obtain ⟨w, q, hw⟩ := q
  cases q
  rw [e4, e6] at hw
  refine zEs_if rfl (fun q1 => ?_) (fun q1 => ?_)
  · rcases hw with ⟨rfl, -⟩ | ⟨rfl, z⟩
    · exact absurd (zF_eq_t q1) (by decide)
    · exact no (fun k => z k.2.1)
  replace hw := hw.resolve_right (fun z => by
    obtain ⟨rfl, -⟩ := z
    exact zF_eq_f q1 rfl)
  obtain ⟨-, A2⟩ := hw
  clear q1
  refine zEs_run 1 rfl ?_
  refine zEs_callG rfl rfl (x_115 (D := 28) (r := x2) A2.1 A2.2) (fun v h9 nc1 ns1 q => ?_) (fun E h9 nc1 ns1 q => by cases q)
  cases q
  refine zEs_run 1 rfl ?_
  refine zEs_icmp rfl ?_ (fun q1 => no (fun k => absurd k.2.2 (Int.not_le.mpr (zF_ge_f q1))))
  intro q1
  have z5 := zF_ge_t q1
  have hC : zCd x1 x2 := ⟨A1, A2, z5⟩
  clear q1 no
  obtain ⟨k, r, hm, rfl, rfl, hk, hr⟩ := zCd_ok hC
  obtain ⟨hk4, hk10, hr4, hr6, hlen9⟩ := zcds_kr _ hm
  have eK : (Int32.ofNat k).toInt = (k : Int) := zofI (by omega)
  have eR : (Int32.ofNat r).toInt = (r : Int) := zofI (by omega)
  have hz := b1.sizes
  obtain ⟨vs, m1, m2, m3, m4⟩ := b1.obj
  have hlen := zHI_len b1
  have hl := (List.getElem?_eq_some_iff.mp m1).1
  refine zEs_run 2 rfl ?_
  refine zEs_put rfl m1 rfl rfl (by omega) ?_
  refine zEs_run 2 rfl ?_
  refine zEs_put rfl (List.getElem?_set_self hl) rfl rfl (by rw [List.length_set]; omega) ?_
  rw [List.set_set]
  refine zEs_run 3 rfl ?_
  refine zEs_callG rfl rfl (zMs_and (zMs_mono (show 2 ≤ 29 by decide) (m_116 (K := Int32.ofNat k) (R := Int32.ofNat r) (by omega) (by omega) (by omega) (by omega))) (fun N => r_116 (k := k) (r := r) hk hr (zcds_dl _ hm))) (fun v h9 nc9 ns9 q => ?_) (fun E h9 nc9 ns9 q => by cases q.2)
  replace q := q.2
  cases q
  have hl2 : ((zcol k r).length : Int) = (Int32.ofNat k).toInt + (Int32.ofNat r).toInt := by
    rw [eK, eR]
    exact congrArg Int.ofNat hlen9
  obtain ⟨l, el⟩ : ∃ l, l = zcol k r := ⟨_, rfl⟩
  rw [← el] at hl2 ⊢
  refine zEs_put rfl (zapp_mv _ _ _ (List.getElem?_set_self hl)) rfl rfl (by rw [List.length_set, List.length_set]; omega) ?_
  rw [zset_w hl, List.length_set]
  have I1 := zHI_col b1 m1 ⟨by omega, by omega⟩ ⟨by omega, by omega⟩ hl2
  have row1 : ((h1 ++ [zar l]).set 44 (7, ((vs.set 1 (.int (Int32.ofNat k))).set 2 (.int (Int32.ofNat r))).set 3 (.ref h1.length)))[h1.length]? = some (zar l) := by
    rw [List.getElem?_set_ne (by omega), List.getElem?_append_right (Nat.le_refl _), Nat.sub_self]
    rfl
  -- two new lists
  refine zEs_run 2 rfl ?_
  refine zEs_callG rfl rfl (m_242 (D := 27)) (fun v h9 nc9 ns9 q => ?_) (fun E h9 nc9 ns9 q => by cases q)
  cases q
  have I2 := zHI_new I1
  refine zEs_run 3 rfl ?_
  refine zEs_callG rfl rfl (m_242 (D := 27)) (fun v h9 nc9 ns9 q => ?_) (fun E h9 nc9 ns9 q => by cases q)
  cases q
  have I3 := zHI_new I2
  have hn3 : 3 ≤ g.nl := hz.2.2.2.2.2.1
  have z0 : (Int32.ofInt 0).toInt = 0 := by decide
  have ez : ∀ (r3 r4 : Nat), (znl (znl (zgc g (Int32.ofNat k) (Int32.ofNat r) l.length h1.length) r3) r4).ze g.nl = 0 := fun r3 r4 => (if_neg (show ¬ g.nl = g.nl + 1 by omega)).trans (if_pos rfl)
  have ez2 : ∀ (r3 r4 : Nat), (znl (znl (zgc g (Int32.ofNat k) (Int32.ofNat r) l.length h1.length) r3) r4).ze (g.nl + 1) = 0 := fun r3 r4 => if_pos rfl
  have ep : ∀ (r3 r4 : Nat), (znl (znl (zgc g (Int32.ofNat k) (Int32.ofNat r) l.length h1.length) r3) r4).p g.nl = r3 := fun r3 r4 => (if_neg (show ¬ g.nl = g.nl + 1 by omega)).trans (if_pos rfl)
  have ep2 : ∀ (r3 r4 : Nat), (znl (znl (zgc g (Int32.ofNat k) (Int32.ofNat r) l.length h1.length) r3) r4).p (g.nl + 1) = r4 := fun r3 r4 => if_pos rfl
  refine zEs_run 3 rfl ?_
  refine l_139a (lg := lg) (t := g.nl) (S := g.zs) hn3 (show g.nl < g.nl + 1 + 1 by omega) (ep _ _) rfl hz.1 _ (Int32.ofInt 0) _ _ _ _ I3 (by rw [z0]; show _ ≤ ((0 : Nat) : Int); exact Int.ofNat_le.mpr (Nat.le_of_eq (show (if g.nl = g.nl + 1 then 0 else if g.nl = g.nl then 0 else g.ze g.nl) = 0 by rw [if_neg (by omega), if_pos rfl]))) (by omega) (Nat.lt_succ_self _) (fun z1 h4 nc4 ns4 i4 J1 J2 J3 J4 J5 => ?_)
  refine zEs_run 2 rfl ?_
  refine l_139b (lg := lg) (t := g.nl + 1) (S := g.zw) (by omega) (show g.nl + 1 < g.nl + 1 + 1 by omega) (ep2 _ _) rfl hz.2.1 _ (Int32.ofInt 0) z1 h4 _ _ J1 (by rw [J2 _ (by omega), z0]; show _ ≤ ((0 : Nat) : Int); exact Int.ofNat_le.mpr (Nat.le_of_eq (show (if g.nl + 1 = g.nl + 1 then 0 else if g.nl + 1 = g.nl then 0 else g.ze (g.nl + 1)) = 0 by rw [if_pos rfl]))) (by omega) (Nat.lt_succ_self _) (fun z2 h5 nc5 ns5 i5 E1 E2 E3 E4 E5 => ?_)
  obtain ⟨vs5, q1, q2, q3, q4⟩ := E1.obj
  have hz5 := E1.sizes
  refine zEs_run 2 rfl ?_
  refine zEs_put rfl q1 rfl rfl (by omega) ?_
  have IA := zHI_A E1 q1 hn3 (show g.nl + 1 < g.nl + 1 + 1 by omega) hz5.2.2.2.2.2.2
  rw [ep] at IA
  obtain ⟨vs6, s1, s2, s3, s4⟩ := IA.obj
  refine zEs_run 2 rfl ?_
  refine zEs_put rfl s1 rfl rfl (by omega) ?_
  have IB := zHI_B IA s1 hz5.2.2.2.2.2.2
  rw [ep2] at IB
  obtain ⟨vs7, t1, t2, t3, t4⟩ := IB.obj
  refine zEs_run 3 rfl ?_
  refine zEs_callG rfl rfl (m_242 (D := 27)) (fun v h9 nc9 ns9 q => ?_) (fun E h9 nc9 ns9 q => by cases q)
  cases q
  refine zEs_put rfl (zapp_mv _ _ _ t1) rfl rfl (by omega) ?_
  have IC := zHI_c3 IB t1
  refine zregE (cert := ce_coB) (cs := cs_coB) (rt := some zIA) 230 gs_coB rfl (by decide +kernel) IC ⟨Or.inr ⟨_, rfl, zP_in⟩, Or.inr ⟨_, rfl, zIA_ok _⟩, Or.inr ⟨_, rfl, zIA_ok _⟩, Or.inl rfl, Or.inl rfl, Or.inl rfl, Or.inl rfl, trivial⟩ trivial (fun v h' lg' nc' ns' c1 c2 c3 c4 c5 c6 => ?_)
  have c5 : nc' + 2 * 0 ≤ _ + 2 * lg' + 0 := c5
  have c6 : ns' + 100 * 0 ≤ _ + 100 * lg' + 0 := c6
  have hz6 := c2.sizes
  have u1 : (zcf 10).length = 3 := rfl
  obtain ⟨y, rfl, x9, rfl, -⟩ := c1
  have lst := zLE_tr zLE_app (zLE_tr zLE_app (zLE_tr J5 (zLE_tr E5 (zLE_tr zLE_44 (zLE_tr zLE_44 (zLE_tr zLE_aw c3))))))
  refine ⟨x9, _, lg', h', nc', ns', rfl, c2, zLE_tr le1 (zLE_tr zLE_aw lst), rfl, rfl, by omega, by omega, Or.inr ⟨hC, k, r, rfl, rfl, hm, rfl, rfl, h1.length, rfl, by omega, ?_⟩⟩
  rw [← el]
  exact lst _ _ (by omega) row1 (show ¬ (100 : Nat) = 10 by decide) (show ¬ (100 : Nat) = 103 by decide)
end ZHM
