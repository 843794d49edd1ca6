/-! The reference's methods, by hand: code. -/
def ce_coA : List zCe := [(0, [(.inl 21)], (0, 0), [(.inr (.inr (.inl (44, 44)))), zIA, zIA, (.inr (.inr (.inr 0))), (.inr (.inr (.inr 0))), (.inr (.inr (.inr 0))), (.inr (.inr (.inr 0)))], []),
  (1, [(.inl 20)], (0, 0), [(.inr (.inr (.inl (44, 44)))), zIA, zIA, (.inr (.inr (.inr 0))), (.inr (.inr (.inr 0))), (.inr (.inr (.inr 0))), (.inr (.inr (.inr 0)))], [(.inr (.inr (.inl (44, 44))))]),
  (2, [(.inl 19)], (0, 0), [(.inr (.inr (.inl (44, 44)))), zIA, zIA, (.inr (.inr (.inr 0))), (.inr (.inr (.inr 0))), (.inr (.inr (.inr 0))), (.inr (.inr (.inr 0)))], [(.inl (0, 0, 0, 0)), (.inr (.inr (.inl (44, 44))))]),
  (5, [(.inl 18)], (0, 0), [(.inr (.inr (.inl (44, 44)))), zIA, zIA, (.inr (.inr (.inr 0))), (.inr (.inr (.inr 0))), (.inr (.inr (.inr 0))), (.inr (.inr (.inr 0)))], []),
  (6, [(.inl 17)], (0, 0), [(.inr (.inr (.inl (44, 44)))), zIA, zIA, (.inr (.inr (.inr 0))), (.inr (.inr (.inr 0))), (.inr (.inr (.inr 0))), (.inr (.inr (.inr 0)))], [(.inl ((-2147483648), 2147483647, 0, 2))]),
  (7, [(.inl 16)], (0, 0), [(.inr (.inr (.inl (44, 44)))), zIA, zIA, (.inr (.inr (.inr 0))), (.inr (.inr (.inr 0))), (.inr (.inr (.inr 0))), (.inr (.inr (.inr 0)))], [(.inl (4, 4, 0, 0)), (.inl ((-2147483648), 2147483647, 0, 2))]),
  (9, [(.inl 15)], (0, 0), [(.inr (.inr (.inl (44, 44)))), zIA, zIA, (.inr (.inr (.inr 0))), (.inr (.inr (.inr 0))), (.inr (.inr (.inr 0))), (.inr (.inr (.inr 0)))], [(.inl (10, 10, 0, 0)), (.inl (4, 4, 0, 0)), (.inl ((-2147483648), 2147483647, 0, 2))]),
  (12, [(.inl 14)], (0, 0), [(.inr (.inr (.inl (44, 44)))), zIA, zIA, (.inr (.inr (.inr 0))), (.inr (.inr (.inr 0))), (.inr (.inr (.inr 0))), (.inr (.inr (.inr 0)))], [(.inr (.inl (1, 4, 10, 0)))]),
  (15, [(.inl 13)], (0, 0), [(.inr (.inr (.inl (44, 44)))), (.inl (4, 10, 0, 0)), zIA, (.inr (.inr (.inr 0))), (.inr (.inr (.inr 0))), (.inr (.inr (.inr 0))), (.inr (.inr (.inr 0)))], []),
  (16, [(.inl 12)], (0, 0), [(.inr (.inr (.inl (44, 44)))), (.inl (4, 10, 0, 0)), zIA, (.inr (.inr (.inr 0))), (.inr (.inr (.inr 0))), (.inr (.inr (.inr 0))), (.inr (.inr (.inr 0)))], [(.inl ((-2147483648), 2147483647, 0, 3))]),
  (17, [(.inl 11)], (0, 0), [(.inr (.inr (.inl (44, 44)))), (.inl (4, 10, 0, 0)), zIA, (.inr (.inr (.inr 0))), (.inr (.inr (.inr 0))), (.inr (.inr (.inr 0))), (.inr (.inr (.inr 0)))], [(.inl (4, 4, 0, 0)), (.inl ((-2147483648), 2147483647, 0, 3))]),
  (19, [(.inl 10)], (0, 0), [(.inr (.inr (.inl (44, 44)))), (.inl (4, 10, 0, 0)), zIA, (.inr (.inr (.inr 0))), (.inr (.inr (.inr 0))), (.inr (.inr (.inr 0))), (.inr (.inr (.inr 0)))], [(.inl (6, 6, 0, 0)), (.inl (4, 4, 0, 0)), (.inl ((-2147483648), 2147483647, 0, 3))]),
  (22, [(.inl 9)], (0, 0), [(.inr (.inr (.inl (44, 44)))), (.inl (4, 10, 0, 0)), zIA, (.inr (.inr (.inr 0))), (.inr (.inr (.inr 0))), (.inr (.inr (.inr 0))), (.inr (.inr (.inr 0)))], [(.inr (.inl (2, 4, 6, 0)))]),
  (25, [(.inl 8)], (0, 0), [(.inr (.inr (.inl (44, 44)))), (.inl (4, 10, 0, 0)), (.inl (4, 6, 0, 0)), (.inr (.inr (.inr 0))), (.inr (.inr (.inr 0))), (.inr (.inr (.inr 0))), (.inr (.inr (.inr 0)))], []),
  (26, [(.inl 7)], (0, 0), [(.inr (.inr (.inl (44, 44)))), (.inl (4, 10, 0, 0)), (.inl (4, 6, 0, 0)), (.inr (.inr (.inr 0))), (.inr (.inr (.inr 0))), (.inr (.inr (.inr 0))), (.inr (.inr (.inr 0)))], [(.inl (4, 6, 0, 3))]),
  (29, [(.inl 6)], (0, 0), [(.inr (.inr (.inl (44, 44)))), (.inl (4, 10, 0, 0)), (.inl (4, 6, 0, 0)), (.inr (.inr (.inr 0))), (.inr (.inr (.inr 0))), (.inr (.inr (.inr 0))), (.inr (.inr (.inr 0)))], [zIA]),
  (30, [(.inl 5)], (0, 0), [(.inr (.inr (.inl (44, 44)))), (.inl (4, 10, 0, 0)), (.inl (4, 6, 0, 0)), (.inr (.inr (.inr 0))), (.inr (.inr (.inr 0))), (.inr (.inr (.inr 0))), (.inr (.inr (.inr 0)))], [(.inl (4, 10, 0, 2)), zIA]),
  (33, [(.inl 3)], (0, 0), [(.inr (.inr (.inl (44, 44)))), zIA, zIA, (.inr (.inr (.inr 0))), (.inr (.inr (.inr 0))), (.inr (.inr (.inr 0))), (.inr (.inr (.inr 0)))], []),
  (34, [(.inl 2)], (0, 0), [(.inr (.inr (.inl (44, 44)))), zIA, zIA, (.inr (.inr (.inr 0))), (.inr (.inr (.inr 0))), (.inr (.inr (.inr 0))), (.inr (.inr (.inr 0)))], [(.inr (.inr (.inl (44, 44))))]),
  (35, [(.inl 1)], (0, 0), [(.inr (.inr (.inl (44, 44)))), zIA, zIA, (.inr (.inr (.inr 0))), (.inr (.inr (.inr 0))), (.inr (.inr (.inr 0))), (.inr (.inr (.inr 0)))], [(.inl (1, 1, 0, 0)), (.inr (.inr (.inl (44, 44))))]),
  (38, [(.inl 0)], (0, 0), [(.inr (.inr (.inl (44, 44)))), zIA, zIA, (.inr (.inr (.inr 0))), (.inr (.inr (.inr 0))), (.inr (.inr (.inr 0))), (.inr (.inr (.inr 0)))], [(.inl (0, 0, 0, 0))]),
  (39, [(.inl 4)], (0, 0), [(.inr (.inr (.inl (44, 44)))), (.inl (4, 10, 0, 0)), (.inl (4, 6, 0, 0)), (.inr (.inr (.inr 0))), (.inr (.inr (.inr 0))), (.inr (.inr (.inr 0))), (.inr (.inr (.inr 0)))], [])]
def cs_coA : List zCt := [ct_111, ct_115]
def ce_coB : List zCe := [(230, [(.inl 8), (.inl 0), (.inl 0), (.inl 0), (.inl 0)], (0, 0), [(.inr (.inr (.inl (44, 44)))), zIA, zIA, (.inr (.inr (.inr 0))), (.inr (.inr (.inr 0))), (.inr (.inr (.inr 0))), (.inr (.inr (.inr 0)))], []),
  (231, [(.inl 7), (.inl 0), (.inl 0), (.inl 0), (.inl 0)], (0, 0), [(.inr (.inr (.inl (44, 44)))), zIA, zIA, (.inr (.inr (.inr 0))), (.inr (.inr (.inr 0))), (.inr (.inr (.inr 0))), (.inr (.inr (.inr 0)))], [(.inl (0, 0, 0, 0))]),
  (233, [(.inl 6), (.inr (128, 5)), (.inl 8), (.inl 0), (.inl 0)], (0, 0), [(.inr (.inr (.inl (44, 44)))), zIA, zIA, (.inr (.inr (.inr 0))), (.inr (.inr (.inr 0))), (.inl (0, 128, 0, 0)), (.inr (.inr (.inr 0)))], []),
  (235, [(.inl 6), (.inr (128, 5)), (.inl 7), (.inl 0), (.inl 0)], (0, 0), [(.inr (.inr (.inl (44, 44)))), zIA, zIA, (.inr (.inr (.inr 0))), (.inr (.inr (.inr 0))), (.inl (0, 128, 0, 0)), (.inr (.inr (.inr 0)))], [(.inl (0, 128, 0, 6))]),
  (238, [(.inl 6), (.inr (128, 5)), (.inl 6), (.inl 0), (.inl 0)], (0, 0), [(.inr (.inr (.inl (44, 44)))), zIA, zIA, (.inr (.inr (.inr 0))), (.inr (.inr (.inr 0))), (.inl (0, 128, 0, 0)), (.inr (.inr (.inr 0)))], [(.inl (128, 128, 0, 0)), (.inl (0, 128, 0, 6))]),
  (241, [(.inl 6), (.inr (128, 5)), (.inl 5), (.inl 0), (.inl 0)], (0, 0), [(.inr (.inr (.inl (44, 44)))), zIA, zIA, (.inr (.inr (.inr 0))), (.inr (.inr (.inr 0))), (.inl (0, 127, 0, 0)), (.inr (.inr (.inr 0)))], []),
  (242, [(.inl 6), (.inr (128, 5)), (.inl 4), (.inl 0), (.inl 0)], (0, 0), [(.inr (.inr (.inl (44, 44)))), zIA, zIA, (.inr (.inr (.inr 0))), (.inr (.inr (.inr 0))), (.inl (0, 127, 0, 0)), (.inr (.inr (.inr 0)))], [(.inr (.inr (.inl (44, 44))))]),
  (245, [(.inl 6), (.inr (128, 5)), (.inl 3), (.inl 0), (.inl 0)], (0, 0), [(.inr (.inr (.inl (44, 44)))), zIA, zIA, (.inr (.inr (.inr 0))), (.inr (.inr (.inr 0))), (.inl (0, 127, 0, 0)), (.inr (.inr (.inr 0)))], [(.inr (.inr (.inl (71, 71))))]),
  (247, [(.inl 6), (.inr (128, 5)), (.inl 2), (.inl 0), (.inl 0)], (0, 0), [(.inr (.inr (.inl (44, 44)))), zIA, zIA, (.inr (.inr (.inr 0))), (.inr (.inr (.inr 0))), (.inl (0, 127, 0, 0)), (.inr (.inr (.inr 0)))], [(.inl (0, 127, 0, 6)), (.inr (.inr (.inl (71, 71))))]),
  (248, [(.inl 6), (.inr (128, 5)), (.inl 1), (.inl 0), (.inl 0)], (0, 0), [(.inr (.inr (.inl (44, 44)))), zIA, zIA, (.inr (.inr (.inr 0))), (.inr (.inr (.inr 0))), (.inl (0, 127, 0, 0)), (.inr (.inr (.inr 0)))], [(.inl (0, 0, 0, 0)), (.inl (0, 127, 0, 6)), (.inr (.inr (.inl (71, 71))))]),
  (249, [(.inl 6), (.inr (128, 5)), (.inl 0), (.inl 0), (.inl 0)], (0, 0), [(.inr (.inr (.inl (44, 44)))), zIA, zIA, (.inr (.inr (.inr 0))), (.inr (.inr (.inr 0))), (.inl (0, 127, 0, 0)), (.inr (.inr (.inr 0)))], []),
  (252, [(.inl 6), (.inr (128, 5)), (.inl 9), (.inl 0), (.inl 0)], (0, 0), [(.inr (.inr (.inl (44, 44)))), zIA, zIA, (.inr (.inr (.inr 0))), (.inr (.inr (.inr 0))), (.inl (1, 128, 0, 0)), (.inr (.inr (.inr 0)))], []),
  (255, [(.inl 5), (.inl 0), (.inl 0), (.inl 0), (.inl 0)], (0, 0), [(.inr (.inr (.inl (44, 44)))), zIA, zIA, (.inr (.inr (.inr 0))), (.inr (.inr (.inr 0))), (.inl (128, 128, 0, 0)), (.inr (.inr (.inr 0)))], []),
  (256, [(.inl 4), (.inl 0), (.inl 0), (.inl 0), (.inl 0)], (0, 0), [(.inr (.inr (.inl (44, 44)))), zIA, zIA, (.inr (.inr (.inr 0))), (.inr (.inr (.inr 0))), (.inl (128, 128, 0, 0)), (.inr (.inr (.inr 0)))], [(.inl (0, 0, 0, 0))]),
  (258, [(.inl 3), (.inr (20, 5)), (.inl 13), (.inl 0), (.inl 0)], (0, 0), [(.inr (.inr (.inl (44, 44)))), zIA, zIA, (.inr (.inr (.inr 0))), (.inr (.inr (.inr 0))), (.inl (0, 20, 0, 0)), (.inr (.inr (.inr 0)))], []),
  (260, [(.inl 3), (.inr (20, 5)), (.inl 12), (.inl 0), (.inl 0)], (0, 0), [(.inr (.inr (.inl (44, 44)))), zIA, zIA, (.inr (.inr (.inr 0))), (.inr (.inr (.inr 0))), (.inl (0, 20, 0, 0)), (.inr (.inr (.inr 0)))], [(.inl (0, 20, 0, 6))]),
  (261, [(.inl 3), (.inr (20, 5)), (.inl 11), (.inl 0), (.inl 0)], (0, 0), [(.inr (.inr (.inl (44, 44)))), zIA, zIA, (.inr (.inr (.inr 0))), (.inr (.inr (.inr 0))), (.inl (0, 20, 0, 0)), (.inr (.inr (.inr 0)))], [(.inr (.inr (.inl (44, 44)))), (.inl (0, 20, 0, 6))]),
  (264, [(.inl 3), (.inr (20, 5)), (.inl 10), (.inl 0), (.inl 0)], (0, 0), [(.inr (.inr (.inl (44, 44)))), zIA, zIA, (.inr (.inr (.inr 0))), (.inr (.inr (.inr 0))), (.inl (0, 20, 0, 0)), (.inr (.inr (.inr 0)))], [(.inr (.inr (.inl (46, 46)))), (.inl (0, 20, 0, 6))]),
  (265, [(.inl 3), (.inr (20, 5)), (.inl 9), (.inl 0), (.inl 0)], (0, 0), [(.inr (.inr (.inl (44, 44)))), zIA, zIA, (.inr (.inr (.inr 0))), (.inr (.inr (.inr 0))), (.inl (0, 20, 0, 0)), (.inr (.inr (.inr 0)))], [(.inl (20, 20, 0, 0)), (.inl (0, 20, 0, 6))]),
  (268, [(.inl 3), (.inr (20, 5)), (.inl 8), (.inl 0), (.inl 0)], (0, 0), [(.inr (.inr (.inl (44, 44)))), zIA, zIA, (.inr (.inr (.inr 0))), (.inr (.inr (.inr 0))), (.inl (0, 19, 0, 0)), (.inr (.inr (.inr 0)))], []),
  (269, [(.inl 3), (.inr (20, 5)), (.inl 7), (.inl 0), (.inl 0)], (0, 0), [(.inr (.inr (.inl (44, 44)))), zIA, zIA, (.inr (.inr (.inr 0))), (.inr (.inr (.inr 0))), (.inl (0, 19, 0, 0)), (.inr (.inr (.inr 0)))], [(.inr (.inr (.inl (44, 44))))]),
  (272, [(.inl 3), (.inr (20, 5)), (.inl 6), (.inl 0), (.inl 0)], (0, 0), [(.inr (.inr (.inl (44, 44)))), zIA, zIA, (.inr (.inr (.inr 0))), (.inr (.inr (.inr 0))), (.inl (0, 19, 0, 0)), (.inr (.inr (.inr 0)))], [(.inr (.inr (.inl (67, 67))))]),
  (274, [(.inl 3), (.inr (20, 5)), (.inl 5), (.inl 0), (.inl 0)], (0, 0), [(.inr (.inr (.inl (44, 44)))), zIA, zIA, (.inr (.inr (.inr 0))), (.inr (.inr (.inr 0))), (.inl (0, 19, 0, 0)), (.inr (.inr (.inr 0)))], [(.inl (0, 19, 0, 6)), (.inr (.inr (.inl (67, 67))))]),
  (275, [(.inl 3), (.inr (20, 5)), (.inl 4), (.inl 0), (.inl 0)], (0, 0), [(.inr (.inr (.inl (44, 44)))), zIA, zIA, (.inr (.inr (.inr 0))), (.inr (.inr (.inr 0))), (.inl (0, 19, 0, 0)), (.inr (.inr (.inr 0)))], [(.inl (0, 0, 0, 0)), (.inl (0, 19, 0, 6)), (.inr (.inr (.inl (67, 67))))]),
  (276, [(.inl 3), (.inr (20, 5)), (.inl 3), (.inl 0), (.inl 0)], (0, 0), [(.inr (.inr (.inl (44, 44)))), zIA, zIA, (.inr (.inr (.inr 0))), (.inr (.inr (.inr 0))), (.inl (0, 19, 0, 0)), (.inr (.inr (.inr 0)))], []),
  (277, [(.inl 3), (.inr (20, 5)), (.inl 2), (.inl 0), (.inl 0)], (0, 0), [(.inr (.inr (.inl (44, 44)))), zIA, zIA, (.inr (.inr (.inr 0))), (.inr (.inr (.inr 0))), (.inl (0, 19, 0, 0)), (.inr (.inr (.inr 0)))], [(.inl (0, 0, 0, 0))]),
  (279, [(.inl 3), (.inr (20, 5)), (.inl 1), (.inr (8, 6)), (.inl 8)], (0, 0), [(.inr (.inr (.inl (44, 44)))), zIA, zIA, (.inr (.inr (.inr 0))), (.inr (.inr (.inr 0))), (.inl (0, 19, 0, 0)), (.inl (0, 8, 0, 0))], []),
  (281, [(.inl 3), (.inr (20, 5)), (.inl 1), (.inr (8, 6)), (.inl 7)], (0, 0), [(.inr (.inr (.inl (44, 44)))), zIA, zIA, (.inr (.inr (.inr 0))), (.inr (.inr (.inr 0))), (.inl (0, 19, 0, 0)), (.inl (0, 8, 0, 0))], [(.inl (0, 8, 0, 7))]),
  (283, [(.inl 3), (.inr (20, 5)), (.inl 1), (.inr (8, 6)), (.inl 6)], (0, 0), [(.inr (.inr (.inl (44, 44)))), zIA, zIA, (.inr (.inr (.inr 0))), (.inr (.inr (.inr 0))), (.inl (0, 19, 0, 0)), (.inl (0, 8, 0, 0))], [(.inl (8, 8, 0, 0)), (.inl (0, 8, 0, 7))]),
  (286, [(.inl 3), (.inr (20, 5)), (.inl 1), (.inr (8, 6)), (.inl 5)], (0, 0), [(.inr (.inr (.inl (44, 44)))), zIA, zIA, (.inr (.inr (.inr 0))), (.inr (.inr (.inr 0))), (.inl (0, 19, 0, 0)), (.inl (0, 7, 0, 0))], []),
  (287, [(.inl 3), (.inr (20, 5)), (.inl 1), (.inr (8, 6)), (.inl 4)], (0, 0), [(.inr (.inr (.inl (44, 44)))), zIA, zIA, (.inr (.inr (.inr 0))), (.inr (.inr (.inr 0))), (.inl (0, 19, 0, 0)), (.inl (0, 7, 0, 0))], [(.inr (.inr (.inl (44, 44))))]),
  (289, [(.inl 3), (.inr (20, 5)), (.inl 1), (.inr (8, 6)), (.inl 3)], (0, 0), [(.inr (.inr (.inl (44, 44)))), zIA, zIA, (.inr (.inr (.inr 0))), (.inr (.inr (.inr 0))), (.inl (0, 19, 0, 0)), (.inl (0, 7, 0, 0))], [(.inl (0, 19, 0, 6)), (.inr (.inr (.inl (44, 44))))]),
  (291, [(.inl 3), (.inr (20, 5)), (.inl 1), (.inr (8, 6)), (.inl 2)], (0, 0), [(.inr (.inr (.inl (44, 44)))), zIA, zIA, (.inr (.inr (.inr 0))), (.inr (.inr (.inr 0))), (.inl (0, 19, 0, 0)), (.inl (0, 7, 0, 0))], [(.inl (0, 7, 0, 7)), (.inl (0, 19, 0, 6)), (.inr (.inr (.inl (44, 44))))]),
  (292, [(.inl 3), (.inr (20, 5)), (.inl 1), (.inr (8, 6)), (.inl 1)], (0, 0), [(.inr (.inr (.inl (44, 44)))), zIA, zIA, (.inr (.inr (.inr 0))), (.inr (.inr (.inr 0))), (.inl (0, 19, 0, 0)), (.inl (0, 7, 0, 0))], [(.inl (0, 0, 0, 0)), (.inl (0, 7, 0, 7)), (.inl (0, 19, 0, 6)), (.inr (.inr (.inl (44, 44))))]),
  (295, [(.inl 3), (.inr (20, 5)), (.inl 1), (.inr (8, 6)), (.inl 0)], (0, 0), [(.inr (.inr (.inl (44, 44)))), zIA, zIA, (.inr (.inr (.inr 0))), (.inr (.inr (.inr 0))), (.inl (0, 19, 0, 0)), (.inl (0, 7, 0, 0))], []),
  (298, [(.inl 3), (.inr (20, 5)), (.inl 1), (.inr (8, 6)), (.inl 9)], (0, 0), [(.inr (.inr (.inl (44, 44)))), zIA, zIA, (.inr (.inr (.inr 0))), (.inr (.inr (.inr 0))), (.inl (0, 19, 0, 0)), (.inl (1, 8, 0, 0))], []),
  (301, [(.inl 3), (.inr (20, 5)), (.inl 0), (.inl 0), (.inl 0)], (0, 0), [(.inr (.inr (.inl (44, 44)))), zIA, zIA, (.inr (.inr (.inr 0))), (.inr (.inr (.inr 0))), (.inl (0, 19, 0, 0)), (.inl (8, 8, 0, 0))], []),
  (304, [(.inl 3), (.inr (20, 5)), (.inl 14), (.inl 0), (.inl 0)], (0, 0), [(.inr (.inr (.inl (44, 44)))), zIA, zIA, (.inr (.inr (.inr 0))), (.inr (.inr (.inr 0))), (.inl (1, 20, 0, 0)), (.inl (8, 8, 0, 0))], []),
  (307, [(.inl 2), (.inl 0), (.inl 0), (.inl 0), (.inl 0)], (0, 0), [(.inr (.inr (.inl (44, 44)))), zIA, zIA, (.inr (.inr (.inr 0))), (.inr (.inr (.inr 0))), (.inl (20, 20, 0, 0)), (.inr (.inr (.inr 0)))], []),
  (308, [(.inl 1), (.inl 0), (.inl 0), (.inl 0), (.inl 0)], (0, 0), [(.inr (.inr (.inl (44, 44)))), zIA, zIA, (.inr (.inr (.inr 0))), (.inr (.inr (.inr 0))), (.inl (20, 20, 0, 0)), (.inr (.inr (.inr 0)))], [(.inr (.inr (.inl (44, 44))))]),
  (311, [(.inl 0), (.inl 0), (.inl 0), (.inl 0), (.inl 0)], (0, 0), [(.inr (.inr (.inl (44, 44)))), zIA, zIA, (.inr (.inr (.inr 0))), (.inr (.inr (.inr 0))), (.inl (20, 20, 0, 0)), (.inr (.inr (.inr 0)))], [(.inl (8, 16, 8, 0))])]
def cs_coB : List zCt := [ct_117, ct_126]
section ZHM
variable {xs : List Int32} {g : zG} {lg : Nat} {h : zH} {D nc ns y pc nx k yy m c : Nat} {L : zL} {r st : List Value} {P : zO → Prop}
theorem zEs_chk {a : Nat} {vs : List Value} (h1 : zat (zmc y) pc = some (.checkcast m, nx, 100, yy, k, c)) (ha : h[a]? = some (100, vs)) (g9 : zEs xs D y nx L (.ref a :: r) h nc ns P) : zEs xs D y pc L (.ref a :: r) h nc ns P := by
  refine zEs_step (dc := 0) (ds := 0) h1 ?_ g9
  show zchk 100 nx L (.ref a :: r) h = _
  unfold zchk
  dsimp only
  rw [ha]
  exact if_pos rfl
def zwe (g : zG) (z : Nat → Nat) : zG := (g.1, g.2.1, g.2.2.1, g.2.2.2.1, g.zs, g.zw, g.zn, g.nl, z)
def zcA (g : zG) (z : Nat → Nat) (t : Nat) : zG := (g.1, g.2.1, g.2.2.1, (fun i => if i = 0 then g.p t else if i = 3 then g.p (t + 1) else g.p i), z t, g.zw, g.zn, 4, fun u => if u = 3 then z (t + 1) else 0)
def zcB (g : zG) (z : Nat → Nat) (t : Nat) : zG := (g.1, g.2.1, g.2.2.1, (fun i => if i = 0 then g.p t else if i = 1 then g.p (t + 1) else g.p i), z t, z (t + 1), g.zn, 3, fun _ => 0)
theorem zHI_A {z : Nat → Nat} {t : Nat} {vs : List Value} (hI : zHI (zwe g z) lg h) (h0 : h[44]? = some (7, vs)) (ht : 3 ≤ t) (hn : t + 1 < g.nl) (hz : ∀ u, z u ≤ 24) : zHI (zcA g z t) lg (h.set 44 (7, vs.set 23 (.ref (g.p t)))) := by
  have hs := hI.sizes
  exact zHI_sg (g := zwe g z) (g' := zcA g z t) (lg' := lg) (j := 0) (nl' := 4) (σ := fun i => if i = 0 then t else if i = 3 then t + 1 else i) hI h0 (by decide) (by decide) (fun i hi => by
    show (if i = 0 then t else if i = 3 then t + 1 else i) < g.nl
    split
    · omega
    · split <;> omega) (fun i i' hi hi' e => by
    have e : (if i = 0 then t else if i = 3 then t + 1 else i) = (if i' = 0 then t else if i' = 3 then t + 1 else i') := e
    rcases (show i = 0 ∨ i = 1 ∨ i = 2 ∨ i = 3 by omega) with rfl | rfl | rfl | rfl <;> rcases (show i' = 0 ∨ i' = 1 ∨ i' = 2 ∨ i' = 3 by omega) with rfl | rfl | rfl | rfl <;> simp at e ⊢ <;> omega) (fun i hi ne => by
    show (if i = 0 then t else if i = 3 then t + 1 else i) = i
    rw [if_neg ne, if_neg (by omega)]) (fun i hi => by
    left
    show zQj (if i = 0 then t else if i = 3 then t + 1 else i) = zQj i
    rcases (show i = 0 ∨ i = 1 ∨ i = 2 ∨ i = 3 by omega) with rfl | rfl | rfl | rfl
    · rw [if_pos rfl, zQj3 ht]
      rfl
    · rfl
    · rfl
    · rw [if_neg (by decide), if_pos rfl, zQj3 (by omega)]
      rfl) rfl rfl rfl rfl rfl (fun i hi => by
    show (if i = 0 then g.p t else if i = 3 then g.p (t + 1) else g.p i) = g.p (if i = 0 then t else if i = 3 then t + 1 else i)
    split
    · rfl
    · split <;> rfl) (fun i hi => by
    show zsz (zcA g z t) lg i = zsz (zwe g z) lg (if i = 0 then t else if i = 3 then t + 1 else i)
    rcases (show i = 0 ∨ i = 1 ∨ i = 2 ∨ i = 3 by omega) with rfl | rfl | rfl | rfl
    · rw [if_pos rfl, zsz3 ht]
      rfl
    · rfl
    · rfl
    · rw [if_neg (by decide), if_pos rfl, zsz3 (g := zwe g z) (show 3 ≤ t + 1 by omega)]
      rfl) ⟨hz t, hs.2.1, hs.2.2.1, fun u => by
    show (if u = 3 then z (t + 1) else 0) ≤ 24
    split
    · exact hz _
    · omega⟩
theorem zHI_B {z : Nat → Nat} {t : Nat} {vs : List Value} (hI : zHI (zcA g z t) lg h) (h0 : h[44]? = some (7, vs)) (hz : ∀ u, z u ≤ 24) : zHI (zcB g z t) lg (h.set 44 (7, vs.set 24 (.ref (g.p (t + 1))))) := by
  have hs := hI.sizes
  exact zHI_sg (g' := zcB g z t) (lg' := lg) (j := 1) (nl' := 3) (σ := fun i => if i = 1 then 3 else i) hI h0 (by decide) (by decide) (fun i hi => by
    show (if i = 1 then 3 else i) < 4
    split <;> omega) (fun i i' hi hi' e => by
    have e : (if i = 1 then 3 else i) = (if i' = 1 then 3 else i') := e
    split at e <;> split at e <;> omega) (fun i hi ne => if_neg ne) (fun i hi => by
    left
    rcases (show i = 0 ∨ i = 1 ∨ i = 2 by omega) with rfl | rfl | rfl <;> rfl) rfl rfl rfl rfl rfl (fun i hi => by
    rcases (show i = 0 ∨ i = 1 ∨ i = 2 by omega) with rfl | rfl | rfl <;> rfl) (fun i hi => by
    rcases (show i = 0 ∨ i = 1 ∨ i = 2 by omega) with rfl | rfl | rfl <;> rfl) ⟨hz t, hz _, hs.2.2.1, fun u => Nat.zero_le _⟩
theorem zset_w {x y : Nat × List Value} {X : zH} (hl : 44 < h.length) : (h.set 44 x ++ X).set 44 y = (h ++ X).set 44 y := by
  rw [List.set_append_left _ _ (by simpa using hl), List.set_append_left _ _ hl, List.set_set]
theorem zst_go {vs : List Value} {k : Nat} {v : Value} {g' : zG} (hk : k < 26) (m1 : h[44]? = some (7, vs)) (l : vs.length = 26) (q : zHI g' lg (h.set 44 (7, vs.set k v)) ∧ zLE h (h.set 44 (7, vs.set k v))) : ∃ (h' : zH) (ws : List Value), h.set 44 (7, vs.set k v) = h' ∧ zHI g' lg h' ∧ zLE h h' ∧ h'[44]? = some (7, ws) ∧ ws.length = 26 ∧ ws[k]? = some v ∧ ∀ j, j ≠ k → ws[j]? = vs[j]? :=
  ⟨_, _, rfl, q.1, q.2, List.getElem?_set_self (List.getElem?_eq_some_iff.mp m1).1, by simpa using l, List.getElem?_set_self (by omega), fun j hj => List.getElem?_set_ne (fun z => hj z.symm)⟩
/-- the reference's object tells the code c2 -/
def zMf (g : zG) (c2 : Nat × Nat) (h : zH) : Prop := c2 ∈ zcds ∧ g.f 1 = .int (Int32.ofNat c2.1) ∧ g.f 2 = .int (Int32.ofNat c2.2) ∧ ∃ q : Nat, g.f 3 = .ref q ∧ 73 ≤ q ∧ h[q]? = some (zar (zcol c2.1 c2.2))
def zP139 (g : zG) (h0 : zH) (x1 x2 : Int32) (nc ns : Nat) : zO → Prop := fun o => ∃ (v : Int32) (g' : zG) (lg' : Nat) (h' : zH) (nc' ns' : Nat), o = (.inl (some (.int v)), h', nc', ns') ∧ zHI g' lg' h' ∧ zLE h0 h' ∧ g'.s = g.s ∧ g'.a = g.a ∧ nc' ≤ nc + 300 ∧ ns' ≤ ns + 9000 ∧ (¬ zCd x1 x2 ∧ zfw g' = zfw g ∨ zCd x1 x2 ∧ ∃ k r : Nat, x1 = Int32.ofNat k ∧ x2 = Int32.ofNat r ∧ zMf g' (k, r) h')
end ZHM
