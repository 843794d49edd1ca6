def zFL : List (Nat × Nat × Nat) := [(0, 14, 0), (0, 20, 1), (0, 33, 2), (0, 37, 3), (0, 40, 4), (1, 14, 5), (1, 20, 6), (1, 23, 7), (1, 26, 8), (2, 7, 9), (3, 14, 10), (3, 20, 11), (3, 23, 12), (3, 26, 13), (3, 30, 15), (3, 33, 14), (4, 14, 16), (4, 20, 17), (4, 23, 18), (4, 26, 19), (4, 32, 20), (4, 36, 21), (4, 39, 24), (4, 43, 25), (4, 46, 26), (4, 49, 22), (4, 69, 8), (4, 72, 5), (4, 79, 6), (4, 82, 7), (4, 85, 23), (4, 95, 27), (5, 12, 28), (5, 19, 29), (5, 26, 30), (5, 35, 31), (5, 39, 32), (5, 42, 33), (5, 45, 34), (5, 55, 4), (5, 98, 37), (5, 121, 36), (5, 148, 20), (5, 167, 8), (5, 172, 21), (5, 186, 17), (5, 198, 35), (5, 201, 24), (5, 204, 25), (5, 218, 23), (5, 229, 13), (5, 230, 39), (5, 236, 0), (5, 279, 18), (5, 292, 10), (5, 295, 11), (5, 298, 12), (5, 306, 2), (5, 309, 3), (5, 312, 38), (5, 315, 14), (5, 318, 15), (5, 321, 27), (5, 406, 16)]
theorem zFL_0 : ∀ q ∈ ([(0, 14, 0), (0, 20, 1), (0, 33, 2), (0, 37, 3), (0, 40, 4), (1, 14, 5), (1, 20, 6), (1, 23, 7), (1, 26, 8), (2, 7, 9), (3, 14, 10), (3, 20, 11), (3, 23, 12), (3, 26, 13), (3, 30, 15), (3, 33, 14), (4, 14, 16), (4, 20, 17), (4, 23, 18), (4, 26, 19), (4, 32, 20), (4, 36, 21), (4, 39, 24), (4, 43, 25), (4, 46, 26), (4, 49, 22), (4, 69, 8), (4, 72, 5), (4, 79, 6), (4, 82, 7), (4, 85, 23), (4, 95, 27), (5, 12, 28), (5, 19, 29), (5, 26, 30), (5, 35, 31), (5, 39, 32), (5, 42, 33), (5, 45, 34), (5, 55, 4)] : List (Nat × Nat × Nat)), zFok q := List.forall_mem_cons.mpr ⟨Or.inl ⟨_, zw71, Or.inl rfl⟩, List.forall_mem_cons.mpr ⟨Or.inl ⟨_, zw73, Or.inl rfl⟩, List.forall_mem_cons.mpr ⟨Or.inl ⟨_, zw74, Or.inl rfl⟩, List.forall_mem_cons.mpr ⟨Or.inl ⟨_, zw76, Or.inl rfl⟩, List.forall_mem_cons.mpr ⟨Or.inl ⟨_, zw79, Or.inl rfl⟩, List.forall_mem_cons.mpr ⟨Or.inl ⟨_, zw107, Or.inl rfl⟩, List.forall_mem_cons.mpr ⟨Or.inl ⟨_, zw109, Or.inl rfl⟩, List.forall_mem_cons.mpr ⟨Or.inl ⟨_, zw111, Or.inl rfl⟩, List.forall_mem_cons.mpr ⟨Or.inl ⟨_, zw113, Or.inl rfl⟩, List.forall_mem_cons.mpr ⟨Or.inl ⟨_, zw66, Or.inl rfl⟩, List.forall_mem_cons.mpr ⟨Or.inl ⟨_, zw179, Or.inl rfl⟩, List.forall_mem_cons.mpr ⟨Or.inl ⟨_, zw181, Or.inl rfl⟩, List.forall_mem_cons.mpr ⟨Or.inl ⟨_, zw183, Or.inl rfl⟩, List.forall_mem_cons.mpr ⟨Or.inl ⟨_, zw185, Or.inl rfl⟩, List.forall_mem_cons.mpr ⟨Or.inl ⟨_, zw189, Or.inl rfl⟩, List.forall_mem_cons.mpr ⟨Or.inl ⟨_, zw187, Or.inl rfl⟩, List.forall_mem_cons.mpr ⟨Or.inl ⟨_, zw125, Or.inl rfl⟩, List.forall_mem_cons.mpr ⟨Or.inl ⟨_, zw127, Or.inl rfl⟩, List.forall_mem_cons.mpr ⟨Or.inl ⟨_, zw129, Or.inl rfl⟩, List.forall_mem_cons.mpr ⟨Or.inl ⟨_, zw131, Or.inl rfl⟩, List.forall_mem_cons.mpr ⟨Or.inl ⟨_, zw132, Or.inl rfl⟩, List.forall_mem_cons.mpr ⟨Or.inl ⟨_, zw134, Or.inl rfl⟩, List.forall_mem_cons.mpr ⟨Or.inl ⟨_, zw139, Or.inl rfl⟩, List.forall_mem_cons.mpr ⟨Or.inl ⟨_, zw141, Or.inl rfl⟩, List.forall_mem_cons.mpr ⟨Or.inl ⟨_, zw143, Or.inl rfl⟩, List.forall_mem_cons.mpr ⟨Or.inl ⟨_, zw136, Or.inl rfl⟩, List.forall_mem_cons.mpr ⟨Or.inr ⟨_, (zNF_in 0 rfl), by decide +kernel⟩, List.forall_mem_cons.mpr ⟨Or.inr ⟨_, (zNF_in 1 rfl), by decide +kernel⟩, List.forall_mem_cons.mpr ⟨Or.inr ⟨_, (zNF_in 2 rfl), by decide +kernel⟩, List.forall_mem_cons.mpr ⟨Or.inr ⟨_, (zNF_in 3 rfl), by decide +kernel⟩, List.forall_mem_cons.mpr ⟨Or.inl ⟨_, zw137, Or.inl rfl⟩, List.forall_mem_cons.mpr ⟨Or.inl ⟨_, zw144, Or.inl rfl⟩, List.forall_mem_cons.mpr ⟨Or.inl ⟨_, zw262, Or.inl rfl⟩, List.forall_mem_cons.mpr ⟨Or.inl ⟨_, zw263, Or.inl rfl⟩, List.forall_mem_cons.mpr ⟨Or.inl ⟨_, zw264, Or.inl rfl⟩, List.forall_mem_cons.mpr ⟨Or.inl ⟨_, zw265, Or.inl rfl⟩, List.forall_mem_cons.mpr ⟨Or.inl ⟨_, zw266, Or.inl rfl⟩, List.forall_mem_cons.mpr ⟨Or.inl ⟨_, zw267, Or.inl rfl⟩, List.forall_mem_cons.mpr ⟨Or.inl ⟨_, zw268, Or.inl rfl⟩, List.forall_mem_cons.mpr ⟨Or.inr ⟨_, (zNF_in 4 rfl), by decide +kernel⟩, fun _ h => absurd h List.not_mem_nil⟩⟩⟩⟩⟩⟩⟩⟩⟩⟩⟩⟩⟩⟩⟩⟩⟩⟩⟩⟩⟩⟩⟩⟩⟩⟩⟩⟩⟩⟩⟩⟩⟩⟩⟩⟩⟩⟩⟩⟩
theorem zFL_1 : ∀ q ∈ ([(5, 98, 37), (5, 121, 36), (5, 148, 20), (5, 167, 8), (5, 172, 21), (5, 186, 17), (5, 198, 35), (5, 201, 24), (5, 204, 25), (5, 218, 23), (5, 229, 13), (5, 230, 39), (5, 236, 0), (5, 279, 18), (5, 292, 10), (5, 295, 11), (5, 298, 12), (5, 306, 2), (5, 309, 3), (5, 312, 38), (5, 315, 14), (5, 318, 15), (5, 321, 27), (5, 406, 16)] : List (Nat × Nat × Nat)), zFok q := List.forall_mem_cons.mpr ⟨Or.inl ⟨_, zw271, Or.inl rfl⟩, List.forall_mem_cons.mpr ⟨Or.inl ⟨_, zw270, Or.inl rfl⟩, List.forall_mem_cons.mpr ⟨Or.inr ⟨_, (zNF_in 5 rfl), by decide +kernel⟩, List.forall_mem_cons.mpr ⟨Or.inr ⟨_, (zNF_in 6 rfl), by decide +kernel⟩, List.forall_mem_cons.mpr ⟨Or.inr ⟨_, (zNF_in 7 rfl), by decide +kernel⟩, List.forall_mem_cons.mpr ⟨Or.inr ⟨_, (zNF_in 8 rfl), by decide +kernel⟩, List.forall_mem_cons.mpr ⟨Or.inl ⟨_, zw269, Or.inl rfl⟩, List.forall_mem_cons.mpr ⟨Or.inr ⟨_, (zNF_in 9 rfl), by decide +kernel⟩, List.forall_mem_cons.mpr ⟨Or.inr ⟨_, (zNF_in 10 rfl), by decide +kernel⟩, List.forall_mem_cons.mpr ⟨Or.inr ⟨_, (zNF_in 11 rfl), by decide +kernel⟩, List.forall_mem_cons.mpr ⟨Or.inr ⟨_, (zNF_in 12 rfl), by decide +kernel⟩, List.forall_mem_cons.mpr ⟨Or.inl ⟨_, zw273, Or.inl rfl⟩, List.forall_mem_cons.mpr ⟨Or.inr ⟨_, (zNF_in 13 rfl), by decide +kernel⟩, List.forall_mem_cons.mpr ⟨Or.inr ⟨_, (zNF_in 14 rfl), by decide +kernel⟩, List.forall_mem_cons.mpr ⟨Or.inr ⟨_, (zNF_in 15 rfl), by decide +kernel⟩, List.forall_mem_cons.mpr ⟨Or.inr ⟨_, (zNF_in 16 rfl), by decide +kernel⟩, List.forall_mem_cons.mpr ⟨Or.inr ⟨_, (zNF_in 17 rfl), by decide +kernel⟩, List.forall_mem_cons.mpr ⟨Or.inr ⟨_, (zNF_in 18 rfl), by decide +kernel⟩, List.forall_mem_cons.mpr ⟨Or.inr ⟨_, (zNF_in 19 rfl), by decide +kernel⟩, List.forall_mem_cons.mpr ⟨Or.inl ⟨_, zw272, Or.inl rfl⟩, List.forall_mem_cons.mpr ⟨Or.inr ⟨_, (zNF_in 20 rfl), by decide +kernel⟩, List.forall_mem_cons.mpr ⟨Or.inr ⟨_, (zNF_in 21 rfl), by decide +kernel⟩, List.forall_mem_cons.mpr ⟨Or.inr ⟨_, (zNF_in 22 rfl), by decide +kernel⟩, List.forall_mem_cons.mpr ⟨Or.inr ⟨_, (zNF_in 23 rfl), by decide +kernel⟩, fun _ h => absurd h List.not_mem_nil⟩⟩⟩⟩⟩⟩⟩⟩⟩⟩⟩⟩⟩⟩⟩⟩⟩⟩⟩⟩⟩⟩⟩⟩
theorem zFL_ok : ∀ q ∈ zFL, zFok q := List.forall_mem_append.mpr ⟨zFL_0, zFL_1⟩
def zSL : List (Nat × Nat × Nat) := [(0, 23, 229), (3, 55, 34), (3, 59, 229), (5, 83, 82), (5, 95, 89), (5, 177, 84), (5, 182, 88), (5, 215, 85), (5, 253, 12), (5, 271, 83), (5, 362, 107), (6, 9, 248), (6, 15, 247), (6, 22, 249)]
theorem zSL_0 : ∀ q ∈ ([(0, 23, 229), (3, 55, 34), (3, 59, 229), (5, 83, 82), (5, 95, 89), (5, 177, 84), (5, 182, 88), (5, 215, 85), (5, 253, 12), (5, 271, 83), (5, 362, 107), (6, 9, 248), (6, 15, 247), (6, 22, 249)] : List (Nat × Nat × Nat)), zSok q := List.forall_mem_cons.mpr ⟨⟨zw218, zw219⟩, List.forall_mem_cons.mpr ⟨⟨zw709, zw710⟩, List.forall_mem_cons.mpr ⟨⟨zw712, zw219⟩, List.forall_mem_cons.mpr ⟨⟨zw303, zw304⟩, List.forall_mem_cons.mpr ⟨⟨zw460, zw461⟩, List.forall_mem_cons.mpr ⟨⟨zw536, zw537⟩, List.forall_mem_cons.mpr ⟨⟨zw545, zw546⟩, List.forall_mem_cons.mpr ⟨⟨zw559, zw560⟩, List.forall_mem_cons.mpr ⟨⟨zw493, zw494⟩, List.forall_mem_cons.mpr ⟨⟨zw539, zw540⟩, List.forall_mem_cons.mpr ⟨⟨zw655, zw656⟩, List.forall_mem_cons.mpr ⟨⟨zw746, zw747⟩, List.forall_mem_cons.mpr ⟨⟨zw750, zw751⟩, List.forall_mem_cons.mpr ⟨⟨zw743, zw744⟩, fun _ h => absurd h List.not_mem_nil⟩⟩⟩⟩⟩⟩⟩⟩⟩⟩⟩⟩⟩⟩
theorem zSL_ok : ∀ q ∈ zSL, zSok q := zSL_0
def zVL : List (Nat × Nat × Nat × Nat) := [(0, 43, 4, 0), (0, 46, 26, 2), (0, 50, 27, 2), (0, 53, 25, 2), (0, 56, 8, 0), (0, 59, 9, 0), (0, 62, 6, 0), (0, 66, 17, 0), (0, 69, 16, 0), (1, 30, 20, 1), (1, 34, 26, 2), (1, 38, 25, 2), (1, 42, 21, 1), (3, 36, 26, 2), (3, 40, 35, 3), (3, 44, 33, 3), (3, 48, 25, 2), (3, 51, 37, 3), (3, 64, 36, 3), (4, 52, 22, 1), (4, 55, 27, 2), (4, 58, 41, 4), (4, 62, 42, 4), (4, 66, 26, 2), (4, 75, 25, 2), (4, 88, 44, 4), (4, 91, 45, 4), (4, 98, 47, 4), (4, 102, 49, 4), (4, 106, 50, 4), (5, 48, 26, 2), (5, 52, 3, 0), (5, 59, 40, 4), (5, 86, 86, 5), (5, 89, 87, 5), (5, 92, 101, 5), (5, 102, 96, 5), (5, 106, 92, 5), (5, 109, 90, 5), (5, 112, 43, 4), (5, 115, 97, 5), (5, 118, 95, 5), (5, 124, 103, 5), (5, 128, 104, 5), (5, 131, 5, 0), (5, 137, 91, 5), (5, 140, 41, 4), (5, 143, 7, 0), (5, 152, 20, 1), (5, 163, 21, 1), (5, 189, 25, 2), (5, 212, 28, 2), (5, 223, 46, 4), (5, 226, 105, 5), (5, 239, 14, 0), (5, 247, 11, 0), (5, 250, 9, 0), (5, 256, 13, 0), (5, 263, 15, 0), (5, 266, 23, 1), (5, 276, 93, 5), (5, 282, 99, 5), (5, 285, 100, 5), (5, 303, 32, 3), (5, 326, 10, 0), (5, 346, 48, 4), (5, 349, 18, 0), (5, 352, 51, 4), (5, 353, 38, 3), (5, 354, 94, 5), (5, 359, 74, 5), (5, 366, 66, 5), (5, 369, 69, 5), (5, 372, 108, 5), (5, 376, 70, 5), (5, 379, 77, 5), (5, 382, 72, 5), (5, 385, 79, 5), (5, 388, 80, 5), (5, 399, 6, 0), (5, 408, 102, 5), (5, 411, 31, 3), (5, 414, 73, 5), (5, 418, 78, 5), (5, 421, 75, 5), (5, 425, 71, 5), (6, 26, 60, 5), (6, 30, 54, 5), (6, 33, 56, 5), (6, 36, 74, 5), (6, 40, 57, 5), (6, 44, 58, 5), (6, 48, 59, 5), (6, 51, 55, 5), (6, 54, 63, 5), (6, 57, 77, 5), (6, 60, 79, 5), (6, 63, 78, 5), (6, 66, 81, 5), (6, 70, 80, 5)]
theorem zVL_0 : ∀ q ∈ ([(0, 43, 4, 0), (0, 46, 26, 2), (0, 50, 27, 2), (0, 53, 25, 2), (0, 56, 8, 0), (0, 59, 9, 0), (0, 62, 6, 0), (0, 66, 17, 0), (0, 69, 16, 0), (1, 30, 20, 1), (1, 34, 26, 2), (1, 38, 25, 2), (1, 42, 21, 1), (3, 36, 26, 2), (3, 40, 35, 3), (3, 44, 33, 3), (3, 48, 25, 2), (3, 51, 37, 3), (3, 64, 36, 3), (4, 52, 22, 1), (4, 55, 27, 2), (4, 58, 41, 4), (4, 62, 42, 4), (4, 66, 26, 2), (4, 75, 25, 2), (4, 88, 44, 4), (4, 91, 45, 4), (4, 98, 47, 4), (4, 102, 49, 4), (4, 106, 50, 4), (5, 48, 26, 2), (5, 52, 3, 0), (5, 59, 40, 4), (5, 86, 86, 5), (5, 89, 87, 5), (5, 92, 101, 5), (5, 102, 96, 5), (5, 106, 92, 5), (5, 109, 90, 5), (5, 112, 43, 4)] : List (Nat × Nat × Nat × Nat)), zVok q := List.forall_mem_cons.mpr ⟨⟨zw214, zw216, zw0⟩, List.forall_mem_cons.mpr ⟨⟨zw224, zw207, zw208⟩, List.forall_mem_cons.mpr ⟨⟨zw225, zw226, zw227⟩, List.forall_mem_cons.mpr ⟨⟨zw229, zw230, zw231⟩, List.forall_mem_cons.mpr ⟨⟨zw455, zw456, zw457⟩, List.forall_mem_cons.mpr ⟨⟨zw483, zw484, zw485⟩, List.forall_mem_cons.mpr ⟨⟨zw487, zw379, zw380⟩, List.forall_mem_cons.mpr ⟨⟨zw672, zw674, zw25⟩, List.forall_mem_cons.mpr ⟨⟨zw676, zw678, zw26⟩, List.forall_mem_cons.mpr ⟨⟨zw246, zw247, zw248⟩, List.forall_mem_cons.mpr ⟨⟨zw250, zw207, zw208⟩, List.forall_mem_cons.mpr ⟨⟨zw241, zw230, zw231⟩, List.forall_mem_cons.mpr ⟨⟨zw242, zw243, zw244⟩, List.forall_mem_cons.mpr ⟨⟨zw500, zw207, zw208⟩, List.forall_mem_cons.mpr ⟨⟨zw692, zw694, zw28⟩, List.forall_mem_cons.mpr ⟨⟨zw705, zw707, zw31⟩, List.forall_mem_cons.mpr ⟨⟨zw696, zw230, zw231⟩, List.forall_mem_cons.mpr ⟨⟨zw697, zw699, zw29⟩, List.forall_mem_cons.mpr ⟨⟨zw701, zw703, zw30⟩, List.forall_mem_cons.mpr ⟨⟨zw237, zw238, zw239⟩, List.forall_mem_cons.mpr ⟨⟨zw251, zw226, zw227⟩, List.forall_mem_cons.mpr ⟨⟨zw252, zw253, zw254⟩, List.forall_mem_cons.mpr ⟨⟨zw256, zw258, zw1⟩, List.forall_mem_cons.mpr ⟨⟨zw261, zw207, zw208⟩, List.forall_mem_cons.mpr ⟨⟨zw260, zw230, zw231⟩, List.forall_mem_cons.mpr ⟨⟨zw435, zw437, zw8⟩, List.forall_mem_cons.mpr ⟨⟨zw439, zw441, zw9⟩, List.forall_mem_cons.mpr ⟨⟨zw568, zw570, zw17⟩, List.forall_mem_cons.mpr ⟨⟨zw617, zw619, zw21⟩, List.forall_mem_cons.mpr ⟨⟨zw621, zw623, zw22⟩, List.forall_mem_cons.mpr ⟨⟨zw206, zw207, zw208⟩, List.forall_mem_cons.mpr ⟨⟨zw210, zw211, zw212⟩, List.forall_mem_cons.mpr ⟨⟨zw233, zw234, zw235⟩, List.forall_mem_cons.mpr ⟨⟨zw374, zw376, zw3⟩, List.forall_mem_cons.mpr ⟨⟨zw398, zw400, zw4⟩, List.forall_mem_cons.mpr ⟨⟨zw423, zw425, zw6⟩, List.forall_mem_cons.mpr ⟨⟨zw402, zw404, zw5⟩, List.forall_mem_cons.mpr ⟨⟨zw463, zw465, zw12⟩, List.forall_mem_cons.mpr ⟨⟨zw427, zw429, zw7⟩, List.forall_mem_cons.mpr ⟨⟨zw431, zw432, zw433⟩, fun _ h => absurd h List.not_mem_nil⟩⟩⟩⟩⟩⟩⟩⟩⟩⟩⟩⟩⟩⟩⟩⟩⟩⟩⟩⟩⟩⟩⟩⟩⟩⟩⟩⟩⟩⟩⟩⟩⟩⟩⟩⟩⟩⟩⟩⟩
theorem zVL_1 : ∀ q ∈ ([(5, 115, 97, 5), (5, 118, 95, 5), (5, 124, 103, 5), (5, 128, 104, 5), (5, 131, 5, 0), (5, 137, 91, 5), (5, 140, 41, 4), (5, 143, 7, 0), (5, 152, 20, 1), (5, 163, 21, 1), (5, 189, 25, 2), (5, 212, 28, 2), (5, 223, 46, 4), (5, 226, 105, 5), (5, 239, 14, 0), (5, 247, 11, 0), (5, 250, 9, 0), (5, 256, 13, 0), (5, 263, 15, 0), (5, 266, 23, 1), (5, 276, 93, 5), (5, 282, 99, 5), (5, 285, 100, 5), (5, 303, 32, 3), (5, 326, 10, 0), (5, 346, 48, 4), (5, 349, 18, 0), (5, 352, 51, 4), (5, 353, 38, 3), (5, 354, 94, 5), (5, 359, 74, 5), (5, 366, 66, 5), (5, 369, 69, 5), (5, 372, 108, 5), (5, 376, 70, 5), (5, 379, 77, 5), (5, 382, 72, 5), (5, 385, 79, 5), (5, 388, 80, 5), (5, 399, 6, 0)] : List (Nat × Nat × Nat × Nat)), zVok q := List.forall_mem_cons.mpr ⟨⟨zw471, zw473, zw13⟩, List.forall_mem_cons.mpr ⟨⟨zw475, zw477, zw14⟩, List.forall_mem_cons.mpr ⟨⟨zw488, zw490, zw15⟩, List.forall_mem_cons.mpr ⟨⟨zw501, zw503, zw16⟩, List.forall_mem_cons.mpr ⟨⟨zw509, zw510, zw511⟩, List.forall_mem_cons.mpr ⟨⟨zw447, zw449, zw11⟩, List.forall_mem_cons.mpr ⟨⟨zw459, zw253, zw254⟩, List.forall_mem_cons.mpr ⟨⟨zw518, zw519, zw520⟩, List.forall_mem_cons.mpr ⟨⟨zw523, zw247, zw248⟩, List.forall_mem_cons.mpr ⟨⟨zw525, zw243, zw244⟩, List.forall_mem_cons.mpr ⟨⟨zw406, zw230, zw231⟩, List.forall_mem_cons.mpr ⟨⟨zw580, zw581, zw582⟩, List.forall_mem_cons.mpr ⟨⟨zw564, zw565, zw566⟩, List.forall_mem_cons.mpr ⟨⟨zw572, zw574, zw18⟩, List.forall_mem_cons.mpr ⟨⟨zw451, zw452, zw453⟩, List.forall_mem_cons.mpr ⟨⟨zw729, zw730, zw731⟩, List.forall_mem_cons.mpr ⟨⟨zw492, zw484, zw485⟩, List.forall_mem_cons.mpr ⟨⟨zw479, zw480, zw481⟩, List.forall_mem_cons.mpr ⟨⟨zw668, zw669, zw670⟩, List.forall_mem_cons.mpr ⟨⟨zw605, zw606, zw607⟩, List.forall_mem_cons.mpr ⟨⟨zw645, zw647, zw24⟩, List.forall_mem_cons.mpr ⟨⟨zw601, zw603, zw20⟩, List.forall_mem_cons.mpr ⟨⟨zw593, zw595, zw19⟩, List.forall_mem_cons.mpr ⟨⟨zw688, zw689, zw690⟩, List.forall_mem_cons.mpr ⟨⟨zw597, zw598, zw599⟩, List.forall_mem_cons.mpr ⟨⟨zw613, zw614, zw615⟩, List.forall_mem_cons.mpr ⟨⟨zw629, zw630, zw631⟩, List.forall_mem_cons.mpr ⟨⟨zw633, zw634, zw635⟩, List.forall_mem_cons.mpr ⟨⟨zw637, zw638, zw639⟩, List.forall_mem_cons.mpr ⟨⟨zw641, zw643, zw23⟩, List.forall_mem_cons.mpr ⟨⟨zw654, zw577, zw578⟩, List.forall_mem_cons.mpr ⟨⟨zw659, zw660, zw661⟩, List.forall_mem_cons.mpr ⟨⟨zw663, zw664, zw665⟩, List.forall_mem_cons.mpr ⟨⟨zw680, zw682, zw27⟩, List.forall_mem_cons.mpr ⟨⟨zw725, zw726, zw727⟩, List.forall_mem_cons.mpr ⟨⟨zw734, zw586, zw587⟩, List.forall_mem_cons.mpr ⟨⟨zw735, zw736, zw737⟩, List.forall_mem_cons.mpr ⟨⟨zw741, zw610, zw611⟩, List.forall_mem_cons.mpr ⟨⟨zw742, zw626, zw627⟩, List.forall_mem_cons.mpr ⟨⟨zw378, zw379, zw380⟩, fun _ h => absurd h List.not_mem_nil⟩⟩⟩⟩⟩⟩⟩⟩⟩⟩⟩⟩⟩⟩⟩⟩⟩⟩⟩⟩⟩⟩⟩⟩⟩⟩⟩⟩⟩⟩⟩⟩⟩⟩⟩⟩⟩⟩⟩⟩
theorem zVL_2 : ∀ q ∈ ([(5, 408, 102, 5), (5, 411, 31, 3), (5, 414, 73, 5), (5, 418, 78, 5), (5, 421, 75, 5), (5, 425, 71, 5), (6, 26, 60, 5), (6, 30, 54, 5), (6, 33, 56, 5), (6, 36, 74, 5), (6, 40, 57, 5), (6, 44, 58, 5), (6, 48, 59, 5), (6, 51, 55, 5), (6, 54, 63, 5), (6, 57, 77, 5), (6, 60, 79, 5), (6, 63, 78, 5), (6, 66, 81, 5), (6, 70, 80, 5)] : List (Nat × Nat × Nat × Nat)), zVok q := List.forall_mem_cons.mpr ⟨⟨zw443, zw445, zw10⟩, List.forall_mem_cons.mpr ⟨⟨zw496, zw497, zw498⟩, List.forall_mem_cons.mpr ⟨⟨zw684, zw685, zw686⟩, List.forall_mem_cons.mpr ⟨⟨zw713, zw590, zw591⟩, List.forall_mem_cons.mpr ⟨⟨zw715, zw716, zw717⟩, List.forall_mem_cons.mpr ⟨⟨zw719, zw720, zw721⟩, List.forall_mem_cons.mpr ⟨⟨zw548, zw549, zw550⟩, List.forall_mem_cons.mpr ⟨⟨zw299, zw300, zw301⟩, List.forall_mem_cons.mpr ⟨⟨zw505, zw506, zw507⟩, List.forall_mem_cons.mpr ⟨⟨zw576, zw577, zw578⟩, List.forall_mem_cons.mpr ⟨⟨zw514, zw515, zw516⟩, List.forall_mem_cons.mpr ⟨⟨zw526, zw527, zw528⟩, List.forall_mem_cons.mpr ⟨⟨zw532, zw533, zw534⟩, List.forall_mem_cons.mpr ⟨⟨zw467, zw468, zw469⟩, List.forall_mem_cons.mpr ⟨⟨zw555, zw556, zw557⟩, List.forall_mem_cons.mpr ⟨⟨zw585, zw586, zw587⟩, List.forall_mem_cons.mpr ⟨⟨zw609, zw610, zw611⟩, List.forall_mem_cons.mpr ⟨⟨zw589, zw590, zw591⟩, List.forall_mem_cons.mpr ⟨⟨zw649, zw650, zw651⟩, List.forall_mem_cons.mpr ⟨⟨zw625, zw626, zw627⟩, fun _ h => absurd h List.not_mem_nil⟩⟩⟩⟩⟩⟩⟩⟩⟩⟩⟩⟩⟩⟩⟩⟩⟩⟩⟩⟩
theorem zVL_ok : ∀ q ∈ zVL, zVok q := List.forall_mem_append.mpr ⟨zVL_0, List.forall_mem_append.mpr ⟨zVL_1, zVL_2⟩⟩
def zIL : List (Nat × Nat × Nat) := [(0, 11, 24), (1, 11, 24), (3, 11, 24), (4, 11, 24), (4, 31, 19), (5, 11, 0), (5, 18, 39), (5, 25, 29), (5, 32, 24), (6, 21, 52)]
theorem zIL_0 : ∀ q ∈ ([(0, 11, 24), (1, 11, 24), (3, 11, 24), (4, 11, 24), (4, 31, 19), (5, 11, 0), (5, 18, 39), (5, 25, 29), (5, 32, 24), (6, 21, 52)] : List (Nat × Nat × Nat)), zIok q := List.forall_mem_cons.mpr ⟨⟨Or.inl zw62, zw63, rfl⟩, List.forall_mem_cons.mpr ⟨⟨Or.inl zw106, zw63, rfl⟩, List.forall_mem_cons.mpr ⟨⟨Or.inl zw178, zw63, rfl⟩, List.forall_mem_cons.mpr ⟨⟨Or.inl zw98, zw63, rfl⟩, List.forall_mem_cons.mpr ⟨⟨Or.inr ⟨_, (zNM_in 0 rfl)⟩, zw102, rfl⟩, List.forall_mem_cons.mpr ⟨⟨Or.inr ⟨_, (zNM_in 1 rfl)⟩, zw57, rfl⟩, List.forall_mem_cons.mpr ⟨⟨Or.inr ⟨_, (zNM_in 2 rfl)⟩, zw94, rfl⟩, List.forall_mem_cons.mpr ⟨⟨Or.inr ⟨_, (zNM_in 3 rfl)⟩, zw174, rfl⟩, List.forall_mem_cons.mpr ⟨⟨Or.inl zw205, zw63, rfl⟩, List.forall_mem_cons.mpr ⟨⟨Or.inl zw48, zw49, rfl⟩, fun _ h => absurd h List.not_mem_nil⟩⟩⟩⟩⟩⟩⟩⟩⟩⟩
theorem zIL_ok : ∀ q ∈ zIL, zIok q := zIL_0
def zCL : List (Nat × Nat × Nat) := [(0, 9, 2), (1, 9, 2), (3, 9, 2), (4, 9, 2), (4, 29, 1), (5, 9, 0), (5, 16, 4), (5, 23, 3), (5, 30, 2), (6, 19, 5)]
theorem zCL_0 : ∀ q ∈ ([(0, 9, 2), (1, 9, 2), (3, 9, 2), (4, 9, 2), (4, 29, 1), (5, 9, 0), (5, 16, 4), (5, 23, 3), (5, 30, 2), (6, 19, 5)] : List (Nat × Nat × Nat)), zCok q := List.forall_mem_cons.mpr ⟨⟨zw60, zw61, zw35⟩, List.forall_mem_cons.mpr ⟨⟨zw105, zw61, zw35⟩, List.forall_mem_cons.mpr ⟨⟨zw177, zw61, zw35⟩, List.forall_mem_cons.mpr ⟨⟨zw97, zw61, zw35⟩, List.forall_mem_cons.mpr ⟨⟨zw99, zw100, zw37⟩, List.forall_mem_cons.mpr ⟨⟨zw54, zw55, zw34⟩, List.forall_mem_cons.mpr ⟨⟨zw91, zw92, zw36⟩, List.forall_mem_cons.mpr ⟨⟨zw171, zw172, zw38⟩, List.forall_mem_cons.mpr ⟨⟨zw204, zw61, zw35⟩, List.forall_mem_cons.mpr ⟨⟨zw46, zw47, zw33⟩, fun _ h => absurd h List.not_mem_nil⟩⟩⟩⟩⟩⟩⟩⟩⟩⟩
theorem zCL_ok : ∀ q ∈ zCL, zCok q := zCL_0
def zKL : List (Nat × Nat × Nat × Nat) := [(5, 329, 1, 4634204016564240384), (5, 357, 0, 58281), (5, 412, 0, 31), (6, 7, 5, 2147483647), (6, 8, 5, 790386105), (7, 265, 5, 1431655765), (7, 266, 5, 858993459), (7, 267, 5, 252645135)]
theorem zKL_0 : ∀ q ∈ ([(5, 329, 1, 4634204016564240384), (5, 357, 0, 58281), (5, 412, 0, 31), (6, 7, 5, 2147483647), (6, 8, 5, 790386105), (7, 265, 5, 1431655765), (7, 266, 5, 858993459), (7, 267, 5, 252645135)] : List (Nat × Nat × Nat × Nat)), zKok q := List.forall_mem_cons.mpr ⟨zw714, List.forall_mem_cons.mpr ⟨zw653, List.forall_mem_cons.mpr ⟨zw658, List.forall_mem_cons.mpr ⟨zw753, List.forall_mem_cons.mpr ⟨zw749, List.forall_mem_cons.mpr ⟨zw221, List.forall_mem_cons.mpr ⟨zw222, List.forall_mem_cons.mpr ⟨zw223, fun _ h => absurd h List.not_mem_nil⟩⟩⟩⟩⟩⟩⟩⟩
theorem zKL_ok : ∀ q ∈ zKL, zKok q := zKL_0
def zUL : List (Nat × Nat × Nat × Nat) := []
theorem zUL_ok : ∀ q ∈ zUL, zUok q := fun _ h => absurd h List.not_mem_nil
def zGL : List (Nat × Nat × Nat × Nat) := []
theorem zGL_ok : ∀ q ∈ zGL, zGok q := fun _ h => absurd h List.not_mem_nil
def zOL : List (Nat × Nat) := [(0, 3), (1, 3), (2, 1), (3, 3), (4, 3), (5, 3)]
theorem zOL_0 : ∀ q ∈ ([(0, 3), (1, 3), (2, 1), (3, 3), (4, 3), (5, 3)] : List (Nat × Nat)), zOok q := List.forall_mem_cons.mpr ⟨zw59, List.forall_mem_cons.mpr ⟨zw104, List.forall_mem_cons.mpr ⟨zw65, List.forall_mem_cons.mpr ⟨zw176, List.forall_mem_cons.mpr ⟨zw96, List.forall_mem_cons.mpr ⟨zw51, fun _ h => absurd h List.not_mem_nil⟩⟩⟩⟩⟩⟩
theorem zOL_ok : ∀ q ∈ zOL, zOok q := zOL_0
def zXL : List (Nat × Nat × Nat) := []
theorem zXL_ok : ∀ q ∈ zXL, zXok q := fun _ h => absurd h List.not_mem_nil
theorem zAi : (.arrayClass Jvm.ClassFile.FieldType.int : Jvm.Cond) ∈ zB := zw70
def zlaw : Nat := 214
def zTX : List (String × Nat × String) := [("Scrubward", 135, "bits is not a set of bits of a word"), ("Scrubward", 146, "there is no such bit"), ("Scrubward", 160, "there are 24 stuck cells"), ("Scrubward", 170, "span is not 1 to 60"), ("Scrubward", 175, "there are 24 weak cells"), ("Scrubward", 180, "times is not 1 to 100"), ("Scrubward", 192, "period is not 1 to 100"), ("Scrubward", 194, "limit is not 2 to 100"), ("Scrubward", 196, "steps is not 0 to 8"), ("Scrubward", 221, "the tick would be above 2000"), ("Scrubward", 261, "many is not 2 or 3"), ("Scrubward", 269, "what is not 0 to 6"), ("Scrubward", 274, "there is no such line"), ("Scrubward", 288, "what is not 0 to 4"), ("Scrubward", 290, "there is no such entry"), ("Scrubward", 301, "what is not 0 to 2"), ("Scrubward", 324, "what is not 0 to 17"), ("Scrubward", 391, "there is no such address"), ("Scrubward", 393, "there is no such bank"), ("Scrubward", 395, "there is no such row"), ("Scrubward", 397, "ticks is not 1 to 100"), ("Scrubward", 402, "data does not fit into the data bits"), ("Scrubward", 404, "the word is retired")]

def zty (c k : Nat) : FieldType := (parseFieldDescriptor (zT c k).2.2.1).getD .int
/-- a field's kind and its type -/
def zkt (kd : Nat) (t : FieldType) : Prop := match kd with
  | 0 => t = .int
  | 1 => t = .boolean
  | 2 => t = .byte
  | 3 => t = .long
  | 4 => t = .double
  | _ => (∃ n, t = .object n) ∨ ∃ q, t = .array q
def zktb (kd : Nat) (t : FieldType) : Bool := match kd, t with
  | 0, .int => true
  | 1, .boolean => true
  | 2, .byte => true
  | 3, .long => true
  | 4, .double => true
  | 5, .object _ => true
  | 5, .array _ => true
  | _, _ => false
theorem zktb_ok {kd : Nat} {t : FieldType} (h : zktb kd t = true) : zkt kd t := by
  unfold zktb at h
  split at h <;> first | rfl | exact Or.inl ⟨_, rfl⟩ | exact Or.inr ⟨_, rfl⟩ | cases h
def zcOK (c : Nat) : Prop := (∀ w ∈ u_ws (zcn c) (zT c) (zcf c).length, w ∈ zB) ∧ (∀ a, a < (zcf c).length → ∀ b, b < (zcf c).length → a ≠ b → (zT c a).2.1 ≠ (zT c b).2.1) ∧ (∀ k, k < (zcf c).length → parseFieldDescriptor (zT c k).2.2.1 = some (zty c k)) ∧ (∀ k, k < (zcf c).length → zktb ((zcf c).getD k (0, 0)).2 (zty c k) = true) ∧ (∀ k, k < (zcf c).length → defaultValue (zty c k) = zdf ((zcf c).getD k (0, 0)).2) ∧ zcl[c]? = some (zcn c, zT c, (zcf c).length)
theorem zcO0 : zcOK 0 := ⟨List.forall_mem_cons.mpr ⟨zw80, List.forall_mem_cons.mpr ⟨zw82, List.forall_mem_cons.mpr ⟨zw84, List.forall_mem_cons.mpr ⟨zw86, List.forall_mem_cons.mpr ⟨zw88, fun _ h => absurd h List.not_mem_nil⟩⟩⟩⟩⟩, by decide +kernel, by decide +kernel, by decide +kernel, by decide +kernel, rfl⟩
theorem zcO1 : zcOK 1 := ⟨List.forall_mem_cons.mpr ⟨zw116, List.forall_mem_cons.mpr ⟨zw118, List.forall_mem_cons.mpr ⟨zw120, List.forall_mem_cons.mpr ⟨zw122, fun _ h => absurd h List.not_mem_nil⟩⟩⟩⟩, by decide +kernel, by decide +kernel, by decide +kernel, by decide +kernel, rfl⟩
theorem zcO2 : zcOK 2 := ⟨List.forall_mem_cons.mpr ⟨zw67, fun _ h => absurd h List.not_mem_nil⟩, by decide +kernel, by decide +kernel, by decide +kernel, by decide +kernel, rfl⟩
theorem zcO3 : zcOK 3 := ⟨List.forall_mem_cons.mpr ⟨zw191, List.forall_mem_cons.mpr ⟨zw193, List.forall_mem_cons.mpr ⟨zw195, List.forall_mem_cons.mpr ⟨zw197, List.forall_mem_cons.mpr ⟨zw199, List.forall_mem_cons.mpr ⟨zw201, fun _ h => absurd h List.not_mem_nil⟩⟩⟩⟩⟩⟩, by decide +kernel, by decide +kernel, by decide +kernel, by decide +kernel, rfl⟩
theorem zcO4 : zcOK 4 := ⟨List.forall_mem_cons.mpr ⟨zw146, List.forall_mem_cons.mpr ⟨zw148, List.forall_mem_cons.mpr ⟨zw150, List.forall_mem_cons.mpr ⟨zw152, List.forall_mem_cons.mpr ⟨zw154, List.forall_mem_cons.mpr ⟨zw156, List.forall_mem_cons.mpr ⟨zw158, List.forall_mem_cons.mpr ⟨zw160, List.forall_mem_cons.mpr ⟨zw162, List.forall_mem_cons.mpr ⟨zw164, List.forall_mem_cons.mpr ⟨zw166, List.forall_mem_cons.mpr ⟨zw168, fun _ h => absurd h List.not_mem_nil⟩⟩⟩⟩⟩⟩⟩⟩⟩⟩⟩⟩, by decide +kernel, by decide +kernel, by decide +kernel, by decide +kernel, rfl⟩
theorem zcO5 : zcOK 5 := ⟨List.forall_mem_cons.mpr ⟨zw274, List.forall_mem_cons.mpr ⟨zw276, List.forall_mem_cons.mpr ⟨zw278, List.forall_mem_cons.mpr ⟨zw280, List.forall_mem_cons.mpr ⟨zw282, List.forall_mem_cons.mpr ⟨zw284, List.forall_mem_cons.mpr ⟨zw286, List.forall_mem_cons.mpr ⟨zw288, List.forall_mem_cons.mpr ⟨zw290, List.forall_mem_cons.mpr ⟨zw292, List.forall_mem_cons.mpr ⟨zw294, List.forall_mem_cons.mpr ⟨zw296, fun _ h => absurd h List.not_mem_nil⟩⟩⟩⟩⟩⟩⟩⟩⟩⟩⟩⟩, by decide +kernel, by decide +kernel, by decide +kernel, by decide +kernel, rfl⟩
theorem zc_ok : ∀ c, c < 6 → zcOK c := by
  intro c h
  match c, h with
  | 0, _ => exact zcO0
  | 1, _ => exact zcO1
  | 2, _ => exact zcO2
  | 3, _ => exact zcO3
  | 4, _ => exact zcO4
  | 5, _ => exact zcO5
  | n + 6, h => exact absurd h (by omega)
def zMok (y : Nat) : Prop := (zmh y = [] ∧ Jvm.Cond.code (zmn y) (zmb y) (zmL y) (zmr y) ∈ zB ∨ zmh y ≠ [] ∧ Jvm.Cond.codeWith (zmn y) (zmb y) (zmL y) (zmr y) (zmh y) ∈ zB) ∧ Jvm.Cond.initialized (zmn y).cls ∈ zB ∧ zon (zmo y) = (zmn y).cls ∧ Bundle.fit (zmn y).cls = true ∧ (parseMethodDescriptor (zmn y).desc).map (fun d => d.parameters.length) = some (zmp y) ∧ zmL y ≤ 20
theorem zM0 : zMok 0 := ⟨Or.inl ⟨rfl, zw58⟩, zw34, rfl, by decide +kernel, by decide +kernel, by decide +kernel⟩
theorem zM1 : zMok 1 := ⟨Or.inl ⟨rfl, zw512⟩, zw34, rfl, by decide +kernel, by decide +kernel, by decide +kernel⟩
theorem zM2 : zMok 2 := ⟨Or.inl ⟨rfl, zw512⟩, zw34, rfl, by decide +kernel, by decide +kernel, by decide +kernel⟩
theorem zM3 : zMok 3 := ⟨Or.inl ⟨rfl, zw213⟩, zw34, rfl, by decide +kernel, by decide +kernel, by decide +kernel⟩
theorem zM4 : zMok 4 := ⟨Or.inl ⟨rfl, zw217⟩, zw34, rfl, by decide +kernel, by decide +kernel, by decide +kernel⟩
theorem zM5 : zMok 5 := ⟨Or.inl ⟨rfl, zw512⟩, zw34, rfl, by decide +kernel, by decide +kernel, by decide +kernel⟩
theorem zM6 : zMok 6 := ⟨Or.inl ⟨rfl, zw381⟩, zw34, rfl, by decide +kernel, by decide +kernel, by decide +kernel⟩
theorem zM7 : zMok 7 := ⟨Or.inl ⟨rfl, zw521⟩, zw34, rfl, by decide +kernel, by decide +kernel, by decide +kernel⟩
theorem zM8 : zMok 8 := ⟨Or.inl ⟨rfl, zw458⟩, zw34, rfl, by decide +kernel, by decide +kernel, by decide +kernel⟩
theorem zM9 : zMok 9 := ⟨Or.inl ⟨rfl, zw486⟩, zw34, rfl, by decide +kernel, by decide +kernel, by decide +kernel⟩
theorem zM10 : zMok 10 := ⟨Or.inl ⟨rfl, zw600⟩, zw34, rfl, by decide +kernel, by decide +kernel, by decide +kernel⟩
theorem zM11 : zMok 11 := ⟨Or.inl ⟨rfl, zw732⟩, zw34, rfl, by decide +kernel, by decide +kernel, by decide +kernel⟩
theorem zM12 : zMok 12 := ⟨Or.inl ⟨rfl, zw495⟩, zw34, rfl, by decide +kernel, by decide +kernel, by decide +kernel⟩
theorem zM13 : zMok 13 := ⟨Or.inl ⟨rfl, zw482⟩, zw34, rfl, by decide +kernel, by decide +kernel, by decide +kernel⟩
theorem zM14 : zMok 14 := ⟨Or.inl ⟨rfl, zw454⟩, zw34, rfl, by decide +kernel, by decide +kernel, by decide +kernel⟩
theorem zM15 : zMok 15 := ⟨Or.inl ⟨rfl, zw671⟩, zw34, rfl, by decide +kernel, by decide +kernel, by decide +kernel⟩
theorem zM16 : zMok 16 := ⟨Or.inl ⟨rfl, zw679⟩, zw34, rfl, by decide +kernel, by decide +kernel, by decide +kernel⟩
theorem zM17 : zMok 17 := ⟨Or.inl ⟨rfl, zw675⟩, zw34, rfl, by decide +kernel, by decide +kernel, by decide +kernel⟩
theorem zM18 : zMok 18 := ⟨Or.inl ⟨rfl, zw632⟩, zw34, rfl, by decide +kernel, by decide +kernel, by decide +kernel⟩
theorem zM19 : zMok 19 := ⟨Or.inl ⟨rfl, zw103⟩, zw37, rfl, by decide +kernel, by decide +kernel, by decide +kernel⟩
theorem zM20 : zMok 20 := ⟨Or.inl ⟨rfl, zw249⟩, zw37, rfl, by decide +kernel, by decide +kernel, by decide +kernel⟩
theorem zM21 : zMok 21 := ⟨Or.inl ⟨rfl, zw245⟩, zw37, rfl, by decide +kernel, by decide +kernel, by decide +kernel⟩
theorem zM22 : zMok 22 := ⟨Or.inl ⟨rfl, zw240⟩, zw37, rfl, by decide +kernel, by decide +kernel, by decide +kernel⟩
theorem zM23 : zMok 23 := ⟨Or.inl ⟨rfl, zw608⟩, zw37, rfl, by decide +kernel, by decide +kernel, by decide +kernel⟩
theorem zM24 : zMok 24 := ⟨Or.inl ⟨rfl, zw64⟩, zw35, rfl, by decide +kernel, by decide +kernel, by decide +kernel⟩
theorem zM25 : zMok 25 := ⟨Or.inl ⟨rfl, zw232⟩, zw35, rfl, by decide +kernel, by decide +kernel, by decide +kernel⟩
theorem zM26 : zMok 26 := ⟨Or.inl ⟨rfl, zw209⟩, zw35, rfl, by decide +kernel, by decide +kernel, by decide +kernel⟩
theorem zM27 : zMok 27 := ⟨Or.inl ⟨rfl, zw228⟩, zw35, rfl, by decide +kernel, by decide +kernel, by decide +kernel⟩
theorem zM28 : zMok 28 := ⟨Or.inl ⟨rfl, zw583⟩, zw35, rfl, by decide +kernel, by decide +kernel, by decide +kernel⟩
theorem zM29 : zMok 29 := ⟨Or.inl ⟨rfl, zw175⟩, zw38, rfl, by decide +kernel, by decide +kernel, by decide +kernel⟩
theorem zM30 : zMok 30 := ⟨Or.inl ⟨rfl, zw512⟩, zw34, rfl, by decide +kernel, by decide +kernel, by decide +kernel⟩
theorem zM31 : zMok 31 := ⟨Or.inl ⟨rfl, zw499⟩, zw38, rfl, by decide +kernel, by decide +kernel, by decide +kernel⟩
theorem zM32 : zMok 32 := ⟨Or.inl ⟨rfl, zw691⟩, zw38, rfl, by decide +kernel, by decide +kernel, by decide +kernel⟩
theorem zM33 : zMok 33 := ⟨Or.inl ⟨rfl, zw708⟩, zw38, rfl, by decide +kernel, by decide +kernel, by decide +kernel⟩
theorem zM34 : zMok 34 := ⟨Or.inl ⟨rfl, zw711⟩, zw38, rfl, by decide +kernel, by decide +kernel, by decide +kernel⟩
theorem zM35 : zMok 35 := ⟨Or.inl ⟨rfl, zw695⟩, zw38, rfl, by decide +kernel, by decide +kernel, by decide +kernel⟩
theorem zM36 : zMok 36 := ⟨Or.inl ⟨rfl, zw704⟩, zw38, rfl, by decide +kernel, by decide +kernel, by decide +kernel⟩
theorem zM37 : zMok 37 := ⟨Or.inl ⟨rfl, zw700⟩, zw38, rfl, by decide +kernel, by decide +kernel, by decide +kernel⟩
theorem zM38 : zMok 38 := ⟨Or.inl ⟨rfl, zw640⟩, zw38, rfl, by decide +kernel, by decide +kernel, by decide +kernel⟩
theorem zM39 : zMok 39 := ⟨Or.inl ⟨rfl, zw95⟩, zw36, rfl, by decide +kernel, by decide +kernel, by decide +kernel⟩
theorem zM40 : zMok 40 := ⟨Or.inl ⟨rfl, zw236⟩, zw36, rfl, by decide +kernel, by decide +kernel, by decide +kernel⟩
theorem zM41 : zMok 41 := ⟨Or.inl ⟨rfl, zw255⟩, zw36, rfl, by decide +kernel, by decide +kernel, by decide +kernel⟩
theorem zM42 : zMok 42 := ⟨Or.inl ⟨rfl, zw259⟩, zw36, rfl, by decide +kernel, by decide +kernel, by decide +kernel⟩
theorem zM43 : zMok 43 := ⟨Or.inl ⟨rfl, zw434⟩, zw36, rfl, by decide +kernel, by decide +kernel, by decide +kernel⟩
theorem zM44 : zMok 44 := ⟨Or.inl ⟨rfl, zw438⟩, zw36, rfl, by decide +kernel, by decide +kernel, by decide +kernel⟩
theorem zM45 : zMok 45 := ⟨Or.inl ⟨rfl, zw442⟩, zw36, rfl, by decide +kernel, by decide +kernel, by decide +kernel⟩
theorem zM46 : zMok 46 := ⟨Or.inl ⟨rfl, zw567⟩, zw36, rfl, by decide +kernel, by decide +kernel, by decide +kernel⟩
theorem zM47 : zMok 47 := ⟨Or.inl ⟨rfl, zw571⟩, zw36, rfl, by decide +kernel, by decide +kernel, by decide +kernel⟩
theorem zM48 : zMok 48 := ⟨Or.inl ⟨rfl, zw616⟩, zw36, rfl, by decide +kernel, by decide +kernel, by decide +kernel⟩
theorem zM49 : zMok 49 := ⟨Or.inl ⟨rfl, zw620⟩, zw36, rfl, by decide +kernel, by decide +kernel, by decide +kernel⟩
theorem zM50 : zMok 50 := ⟨Or.inl ⟨rfl, zw624⟩, zw36, rfl, by decide +kernel, by decide +kernel, by decide +kernel⟩
theorem zM51 : zMok 51 := ⟨Or.inl ⟨rfl, zw636⟩, zw36, rfl, by decide +kernel, by decide +kernel, by decide +kernel⟩
theorem zM52 : zMok 52 := ⟨Or.inl ⟨rfl, zw50⟩, zw33, rfl, by decide +kernel, by decide +kernel, by decide +kernel⟩
theorem zM53 : zMok 53 := ⟨Or.inl ⟨rfl, zw512⟩, zw34, rfl, by decide +kernel, by decide +kernel, by decide +kernel⟩
theorem zM54 : zMok 54 := ⟨Or.inl ⟨rfl, zw302⟩, zw33, rfl, by decide +kernel, by decide +kernel, by decide +kernel⟩
theorem zM55 : zMok 55 := ⟨Or.inl ⟨rfl, zw470⟩, zw33, rfl, by decide +kernel, by decide +kernel, by decide +kernel⟩
theorem zM56 : zMok 56 := ⟨Or.inl ⟨rfl, zw508⟩, zw33, rfl, by decide +kernel, by decide +kernel, by decide +kernel⟩
theorem zM57 : zMok 57 := ⟨Or.inl ⟨rfl, zw517⟩, zw33, rfl, by decide +kernel, by decide +kernel, by decide +kernel⟩
theorem zM58 : zMok 58 := ⟨Or.inl ⟨rfl, zw529⟩, zw33, rfl, by decide +kernel, by decide +kernel, by decide +kernel⟩
theorem zM59 : zMok 59 := ⟨Or.inl ⟨rfl, zw535⟩, zw33, rfl, by decide +kernel, by decide +kernel, by decide +kernel⟩
theorem zM60 : zMok 60 := ⟨Or.inl ⟨rfl, zw551⟩, zw33, rfl, by decide +kernel, by decide +kernel, by decide +kernel⟩
theorem zM61 : zMok 61 := ⟨Or.inl ⟨rfl, zw512⟩, zw34, rfl, by decide +kernel, by decide +kernel, by decide +kernel⟩
theorem zM62 : zMok 62 := ⟨Or.inl ⟨rfl, zw512⟩, zw34, rfl, by decide +kernel, by decide +kernel, by decide +kernel⟩
theorem zM63 : zMok 63 := ⟨Or.inl ⟨rfl, zw558⟩, zw33, rfl, by decide +kernel, by decide +kernel, by decide +kernel⟩
theorem zM64 : zMok 64 := ⟨Or.inl ⟨rfl, zw512⟩, zw34, rfl, by decide +kernel, by decide +kernel, by decide +kernel⟩
theorem zM65 : zMok 65 := ⟨Or.inl ⟨rfl, zw512⟩, zw34, rfl, by decide +kernel, by decide +kernel, by decide +kernel⟩
theorem zM66 : zMok 66 := ⟨Or.inl ⟨rfl, zw662⟩, zw33, rfl, by decide +kernel, by decide +kernel, by decide +kernel⟩
theorem zM67 : zMok 67 := ⟨Or.inl ⟨rfl, zw512⟩, zw34, rfl, by decide +kernel, by decide +kernel, by decide +kernel⟩
theorem zM68 : zMok 68 := ⟨Or.inl ⟨rfl, zw512⟩, zw34, rfl, by decide +kernel, by decide +kernel, by decide +kernel⟩
theorem zM69 : zMok 69 := ⟨Or.inl ⟨rfl, zw666⟩, zw33, rfl, by decide +kernel, by decide +kernel, by decide +kernel⟩
theorem zM70 : zMok 70 := ⟨Or.inl ⟨rfl, zw728⟩, zw33, rfl, by decide +kernel, by decide +kernel, by decide +kernel⟩
theorem zM71 : zMok 71 := ⟨Or.inl ⟨rfl, zw722⟩, zw33, rfl, by decide +kernel, by decide +kernel, by decide +kernel⟩
theorem zM72 : zMok 72 := ⟨Or.inl ⟨rfl, zw738⟩, zw33, rfl, by decide +kernel, by decide +kernel, by decide +kernel⟩
theorem zM73 : zMok 73 := ⟨Or.inl ⟨rfl, zw687⟩, zw33, rfl, by decide +kernel, by decide +kernel, by decide +kernel⟩
theorem zM74 : zMok 74 := ⟨Or.inl ⟨rfl, zw579⟩, zw33, rfl, by decide +kernel, by decide +kernel, by decide +kernel⟩
theorem zM75 : zMok 75 := ⟨Or.inl ⟨rfl, zw718⟩, zw33, rfl, by decide +kernel, by decide +kernel, by decide +kernel⟩
theorem zM76 : zMok 76 := ⟨Or.inl ⟨rfl, zw512⟩, zw34, rfl, by decide +kernel, by decide +kernel, by decide +kernel⟩
theorem zM77 : zMok 77 := ⟨Or.inl ⟨rfl, zw588⟩, zw33, rfl, by decide +kernel, by decide +kernel, by decide +kernel⟩
theorem zM78 : zMok 78 := ⟨Or.inl ⟨rfl, zw592⟩, zw33, rfl, by decide +kernel, by decide +kernel, by decide +kernel⟩
theorem zM79 : zMok 79 := ⟨Or.inl ⟨rfl, zw612⟩, zw33, rfl, by decide +kernel, by decide +kernel, by decide +kernel⟩
theorem zM80 : zMok 80 := ⟨Or.inl ⟨rfl, zw628⟩, zw33, rfl, by decide +kernel, by decide +kernel, by decide +kernel⟩
theorem zM81 : zMok 81 := ⟨Or.inl ⟨rfl, zw652⟩, zw33, rfl, by decide +kernel, by decide +kernel, by decide +kernel⟩
theorem zM82 : zMok 82 := ⟨Or.inl ⟨rfl, zw305⟩, zw33, rfl, by decide +kernel, by decide +kernel, by decide +kernel⟩
theorem zM83 : zMok 83 := ⟨Or.inl ⟨rfl, zw541⟩, zw33, rfl, by decide +kernel, by decide +kernel, by decide +kernel⟩
theorem zM84 : zMok 84 := ⟨Or.inl ⟨rfl, zw538⟩, zw33, rfl, by decide +kernel, by decide +kernel, by decide +kernel⟩
theorem zM85 : zMok 85 := ⟨Or.inl ⟨rfl, zw561⟩, zw33, rfl, by decide +kernel, by decide +kernel, by decide +kernel⟩
theorem zM86 : zMok 86 := ⟨Or.inl ⟨rfl, zw377⟩, zw33, rfl, by decide +kernel, by decide +kernel, by decide +kernel⟩
theorem zM87 : zMok 87 := ⟨Or.inl ⟨rfl, zw401⟩, zw33, rfl, by decide +kernel, by decide +kernel, by decide +kernel⟩
theorem zM88 : zMok 88 := ⟨Or.inl ⟨rfl, zw547⟩, zw33, rfl, by decide +kernel, by decide +kernel, by decide +kernel⟩
theorem zM89 : zMok 89 := ⟨Or.inl ⟨rfl, zw462⟩, zw33, rfl, by decide +kernel, by decide +kernel, by decide +kernel⟩
theorem zM90 : zMok 90 := ⟨Or.inl ⟨rfl, zw430⟩, zw33, rfl, by decide +kernel, by decide +kernel, by decide +kernel⟩
theorem zM91 : zMok 91 := ⟨Or.inl ⟨rfl, zw450⟩, zw33, rfl, by decide +kernel, by decide +kernel, by decide +kernel⟩
theorem zM92 : zMok 92 := ⟨Or.inl ⟨rfl, zw466⟩, zw33, rfl, by decide +kernel, by decide +kernel, by decide +kernel⟩
theorem zM93 : zMok 93 := ⟨Or.inl ⟨rfl, zw648⟩, zw33, rfl, by decide +kernel, by decide +kernel, by decide +kernel⟩
theorem zM94 : zMok 94 := ⟨Or.inl ⟨rfl, zw644⟩, zw33, rfl, by decide +kernel, by decide +kernel, by decide +kernel⟩
theorem zM95 : zMok 95 := ⟨Or.inl ⟨rfl, zw478⟩, zw33, rfl, by decide +kernel, by decide +kernel, by decide +kernel⟩
theorem zM96 : zMok 96 := ⟨Or.inl ⟨rfl, zw405⟩, zw33, rfl, by decide +kernel, by decide +kernel, by decide +kernel⟩
theorem zM97 : zMok 97 := ⟨Or.inl ⟨rfl, zw474⟩, zw33, rfl, by decide +kernel, by decide +kernel, by decide +kernel⟩
theorem zM98 : zMok 98 := ⟨Or.inl ⟨rfl, zw512⟩, zw34, rfl, by decide +kernel, by decide +kernel, by decide +kernel⟩
theorem zM99 : zMok 99 := ⟨Or.inl ⟨rfl, zw604⟩, zw33, rfl, by decide +kernel, by decide +kernel, by decide +kernel⟩
theorem zM100 : zMok 100 := ⟨Or.inl ⟨rfl, zw596⟩, zw33, rfl, by decide +kernel, by decide +kernel, by decide +kernel⟩
theorem zM101 : zMok 101 := ⟨Or.inl ⟨rfl, zw426⟩, zw33, rfl, by decide +kernel, by decide +kernel, by decide +kernel⟩
theorem zM102 : zMok 102 := ⟨Or.inl ⟨rfl, zw446⟩, zw33, rfl, by decide +kernel, by decide +kernel, by decide +kernel⟩
theorem zM103 : zMok 103 := ⟨Or.inl ⟨rfl, zw491⟩, zw33, rfl, by decide +kernel, by decide +kernel, by decide +kernel⟩
theorem zM104 : zMok 104 := ⟨Or.inl ⟨rfl, zw504⟩, zw33, rfl, by decide +kernel, by decide +kernel, by decide +kernel⟩
theorem zM105 : zMok 105 := ⟨Or.inl ⟨rfl, zw575⟩, zw33, rfl, by decide +kernel, by decide +kernel, by decide +kernel⟩
theorem zM106 : zMok 106 := ⟨Or.inl ⟨rfl, zw512⟩, zw34, rfl, by decide +kernel, by decide +kernel, by decide +kernel⟩
theorem zM107 : zMok 107 := ⟨Or.inl ⟨rfl, zw657⟩, zw33, rfl, by decide +kernel, by decide +kernel, by decide +kernel⟩
theorem zM108 : zMok 108 := ⟨Or.inl ⟨rfl, zw683⟩, zw33, rfl, by decide +kernel, by decide +kernel, by decide +kernel⟩
theorem zM109 : zMok 109 := ⟨Or.inl ⟨rfl, zw512⟩, zw34, rfl, by decide +kernel, by decide +kernel, by decide +kernel⟩
theorem zM110 : zMok 110 := ⟨Or.inl ⟨rfl, zw512⟩, zw34, rfl, by decide +kernel, by decide +kernel, by decide +kernel⟩
theorem zM111 : zMok 111 := ⟨Or.inl ⟨rfl, zw512⟩, zw34, rfl, by decide +kernel, by decide +kernel, by decide +kernel⟩
theorem zM112 : zMok 112 := ⟨Or.inl ⟨rfl, zw512⟩, zw34, rfl, by decide +kernel, by decide +kernel, by decide +kernel⟩
theorem zM113 : zMok 113 := ⟨Or.inl ⟨rfl, zw512⟩, zw34, rfl, by decide +kernel, by decide +kernel, by decide +kernel⟩
theorem zM114 : zMok 114 := ⟨Or.inl ⟨rfl, zw512⟩, zw34, rfl, by decide +kernel, by decide +kernel, by decide +kernel⟩
theorem zM115 : zMok 115 := ⟨Or.inl ⟨rfl, zw512⟩, zw34, rfl, by decide +kernel, by decide +kernel, by decide +kernel⟩
theorem zM116 : zMok 116 := ⟨Or.inl ⟨rfl, zw512⟩, zw34, rfl, by decide +kernel, by decide +kernel, by decide +kernel⟩
theorem zM117 : zMok 117 := ⟨Or.inl ⟨rfl, zw512⟩, zw34, rfl, by decide +kernel, by decide +kernel, by decide +kernel⟩
theorem zM118 : zMok 118 := ⟨Or.inl ⟨rfl, zw512⟩, zw34, rfl, by decide +kernel, by decide +kernel, by decide +kernel⟩
theorem zM119 : zMok 119 := ⟨Or.inl ⟨rfl, zw512⟩, zw34, rfl, by decide +kernel, by decide +kernel, by decide +kernel⟩
theorem zM120 : zMok 120 := ⟨Or.inl ⟨rfl, zw512⟩, zw34, rfl, by decide +kernel, by decide +kernel, by decide +kernel⟩
theorem zM121 : zMok 121 := ⟨Or.inl ⟨rfl, zw512⟩, zw34, rfl, by decide +kernel, by decide +kernel, by decide +kernel⟩
theorem zM122 : zMok 122 := ⟨Or.inl ⟨rfl, zw512⟩, zw34, rfl, by decide +kernel, by decide +kernel, by decide +kernel⟩
theorem zM123 : zMok 123 := ⟨Or.inl ⟨rfl, zw512⟩, zw34, rfl, by decide +kernel, by decide +kernel, by decide +kernel⟩
theorem zM124 : zMok 124 := ⟨Or.inl ⟨rfl, zw512⟩, zw34, rfl, by decide +kernel, by decide +kernel, by decide +kernel⟩
theorem zM125 : zMok 125 := ⟨Or.inl ⟨rfl, zw512⟩, zw34, rfl, by decide +kernel, by decide +kernel, by decide +kernel⟩
theorem zM126 : zMok 126 := ⟨Or.inl ⟨rfl, zw512⟩, zw34, rfl, by decide +kernel, by decide +kernel, by decide +kernel⟩
theorem zM127 : zMok 127 := ⟨Or.inl ⟨rfl, zw512⟩, zw34, rfl, by decide +kernel, by decide +kernel, by decide +kernel⟩
theorem zM128 : zMok 128 := ⟨Or.inl ⟨rfl, zw512⟩, zw34, rfl, by decide +kernel, by decide +kernel, by decide +kernel⟩
theorem zM129 : zMok 129 := ⟨Or.inl ⟨rfl, zw512⟩, zw34, rfl, by decide +kernel, by decide +kernel, by decide +kernel⟩
theorem zM130 : zMok 130 := ⟨Or.inl ⟨rfl, zw512⟩, zw34, rfl, by decide +kernel, by decide +kernel, by decide +kernel⟩
theorem zM131 : zMok 131 := ⟨Or.inl ⟨rfl, zw512⟩, zw34, rfl, by decide +kernel, by decide +kernel, by decide +kernel⟩
theorem zM132 : zMok 132 := ⟨Or.inl ⟨rfl, zw512⟩, zw34, rfl, by decide +kernel, by decide +kernel, by decide +kernel⟩
theorem zM133 : zMok 133 := ⟨Or.inl ⟨rfl, zw512⟩, zw34, rfl, by decide +kernel, by decide +kernel, by decide +kernel⟩
theorem zM134 : zMok 134 := ⟨Or.inl ⟨rfl, zw512⟩, zw34, rfl, by decide +kernel, by decide +kernel, by decide +kernel⟩
theorem zM135 : zMok 135 := ⟨Or.inl ⟨rfl, zw512⟩, zw34, rfl, by decide +kernel, by decide +kernel, by decide +kernel⟩
theorem zM136 : zMok 136 := ⟨Or.inl ⟨rfl, zw512⟩, zw34, rfl, by decide +kernel, by decide +kernel, by decide +kernel⟩
theorem zM137 : zMok 137 := ⟨Or.inl ⟨rfl, zw512⟩, zw34, rfl, by decide +kernel, by decide +kernel, by decide +kernel⟩
theorem zM138 : zMok 138 := ⟨Or.inl ⟨rfl, zw512⟩, zw34, rfl, by decide +kernel, by decide +kernel, by decide +kernel⟩
theorem zM139 : zMok 139 := ⟨Or.inl ⟨rfl, zw512⟩, zw34, rfl, by decide +kernel, by decide +kernel, by decide +kernel⟩
theorem zM140 : zMok 140 := ⟨Or.inl ⟨rfl, zw512⟩, zw34, rfl, by decide +kernel, by decide +kernel, by decide +kernel⟩
theorem zM141 : zMok 141 := ⟨Or.inl ⟨rfl, zw512⟩, zw34, rfl, by decide +kernel, by decide +kernel, by decide +kernel⟩
theorem zM142 : zMok 142 := ⟨Or.inl ⟨rfl, zw512⟩, zw34, rfl, by decide +kernel, by decide +kernel, by decide +kernel⟩
theorem zM143 : zMok 143 := ⟨Or.inl ⟨rfl, zw512⟩, zw34, rfl, by decide +kernel, by decide +kernel, by decide +kernel⟩
theorem zM144 : zMok 144 := ⟨Or.inl ⟨rfl, zw512⟩, zw34, rfl, by decide +kernel, by decide +kernel, by decide +kernel⟩
theorem zM145 : zMok 145 := ⟨Or.inl ⟨rfl, zw512⟩, zw34, rfl, by decide +kernel, by decide +kernel, by decide +kernel⟩
theorem zM146 : zMok 146 := ⟨Or.inl ⟨rfl, zw512⟩, zw34, rfl, by decide +kernel, by decide +kernel, by decide +kernel⟩
theorem zM147 : zMok 147 := ⟨Or.inl ⟨rfl, zw512⟩, zw34, rfl, by decide +kernel, by decide +kernel, by decide +kernel⟩
theorem zM148 : zMok 148 := ⟨Or.inl ⟨rfl, zw512⟩, zw34, rfl, by decide +kernel, by decide +kernel, by decide +kernel⟩
theorem zM149 : zMok 149 := ⟨Or.inl ⟨rfl, zw512⟩, zw34, rfl, by decide +kernel, by decide +kernel, by decide +kernel⟩
theorem zM150 : zMok 150 := ⟨Or.inl ⟨rfl, zw512⟩, zw34, rfl, by decide +kernel, by decide +kernel, by decide +kernel⟩
theorem zM151 : zMok 151 := ⟨Or.inl ⟨rfl, zw512⟩, zw34, rfl, by decide +kernel, by decide +kernel, by decide +kernel⟩
theorem zM152 : zMok 152 := ⟨Or.inl ⟨rfl, zw512⟩, zw34, rfl, by decide +kernel, by decide +kernel, by decide +kernel⟩
theorem zM153 : zMok 153 := ⟨Or.inl ⟨rfl, zw512⟩, zw34, rfl, by decide +kernel, by decide +kernel, by decide +kernel⟩
theorem zM154 : zMok 154 := ⟨Or.inl ⟨rfl, zw512⟩, zw34, rfl, by decide +kernel, by decide +kernel, by decide +kernel⟩
theorem zM155 : zMok 155 := ⟨Or.inl ⟨rfl, zw512⟩, zw34, rfl, by decide +kernel, by decide +kernel, by decide +kernel⟩
theorem zM156 : zMok 156 := ⟨Or.inl ⟨rfl, zw512⟩, zw34, rfl, by decide +kernel, by decide +kernel, by decide +kernel⟩
theorem zM157 : zMok 157 := ⟨Or.inl ⟨rfl, zw512⟩, zw34, rfl, by decide +kernel, by decide +kernel, by decide +kernel⟩
theorem zM158 : zMok 158 := ⟨Or.inl ⟨rfl, zw512⟩, zw34, rfl, by decide +kernel, by decide +kernel, by decide +kernel⟩
theorem zM159 : zMok 159 := ⟨Or.inl ⟨rfl, zw512⟩, zw34, rfl, by decide +kernel, by decide +kernel, by decide +kernel⟩
theorem zM160 : zMok 160 := ⟨Or.inl ⟨rfl, zw512⟩, zw34, rfl, by decide +kernel, by decide +kernel, by decide +kernel⟩
theorem zM161 : zMok 161 := ⟨Or.inl ⟨rfl, zw512⟩, zw34, rfl, by decide +kernel, by decide +kernel, by decide +kernel⟩
theorem zM162 : zMok 162 := ⟨Or.inl ⟨rfl, zw512⟩, zw34, rfl, by decide +kernel, by decide +kernel, by decide +kernel⟩
theorem zM163 : zMok 163 := ⟨Or.inl ⟨rfl, zw512⟩, zw34, rfl, by decide +kernel, by decide +kernel, by decide +kernel⟩
theorem zM164 : zMok 164 := ⟨Or.inl ⟨rfl, zw512⟩, zw34, rfl, by decide +kernel, by decide +kernel, by decide +kernel⟩
theorem zM165 : zMok 165 := ⟨Or.inl ⟨rfl, zw512⟩, zw34, rfl, by decide +kernel, by decide +kernel, by decide +kernel⟩
theorem zM166 : zMok 166 := ⟨Or.inl ⟨rfl, zw512⟩, zw34, rfl, by decide +kernel, by decide +kernel, by decide +kernel⟩
theorem zM167 : zMok 167 := ⟨Or.inl ⟨rfl, zw512⟩, zw34, rfl, by decide +kernel, by decide +kernel, by decide +kernel⟩
theorem zM168 : zMok 168 := ⟨Or.inl ⟨rfl, zw512⟩, zw34, rfl, by decide +kernel, by decide +kernel, by decide +kernel⟩
theorem zM169 : zMok 169 := ⟨Or.inl ⟨rfl, zw512⟩, zw34, rfl, by decide +kernel, by decide +kernel, by decide +kernel⟩
theorem zM170 : zMok 170 := ⟨Or.inl ⟨rfl, zw512⟩, zw34, rfl, by decide +kernel, by decide +kernel, by decide +kernel⟩
theorem zM171 : zMok 171 := ⟨Or.inl ⟨rfl, zw512⟩, zw34, rfl, by decide +kernel, by decide +kernel, by decide +kernel⟩
theorem zM172 : zMok 172 := ⟨Or.inl ⟨rfl, zw512⟩, zw34, rfl, by decide +kernel, by decide +kernel, by decide +kernel⟩
theorem zM173 : zMok 173 := ⟨Or.inl ⟨rfl, zw512⟩, zw34, rfl, by decide +kernel, by decide +kernel, by decide +kernel⟩
theorem zM174 : zMok 174 := ⟨Or.inl ⟨rfl, zw512⟩, zw34, rfl, by decide +kernel, by decide +kernel, by decide +kernel⟩
theorem zM175 : zMok 175 := ⟨Or.inl ⟨rfl, zw512⟩, zw34, rfl, by decide +kernel, by decide +kernel, by decide +kernel⟩
theorem zM176 : zMok 176 := ⟨Or.inl ⟨rfl, zw512⟩, zw34, rfl, by decide +kernel, by decide +kernel, by decide +kernel⟩
theorem zM177 : zMok 177 := ⟨Or.inl ⟨rfl, zw512⟩, zw34, rfl, by decide +kernel, by decide +kernel, by decide +kernel⟩
theorem zM178 : zMok 178 := ⟨Or.inl ⟨rfl, zw512⟩, zw34, rfl, by decide +kernel, by decide +kernel, by decide +kernel⟩
theorem zM179 : zMok 179 := ⟨Or.inl ⟨rfl, zw512⟩, zw34, rfl, by decide +kernel, by decide +kernel, by decide +kernel⟩
theorem zM180 : zMok 180 := ⟨Or.inl ⟨rfl, zw512⟩, zw34, rfl, by decide +kernel, by decide +kernel, by decide +kernel⟩
theorem zM181 : zMok 181 := ⟨Or.inl ⟨rfl, zw512⟩, zw34, rfl, by decide +kernel, by decide +kernel, by decide +kernel⟩
theorem zM182 : zMok 182 := ⟨Or.inl ⟨rfl, zw512⟩, zw34, rfl, by decide +kernel, by decide +kernel, by decide +kernel⟩
theorem zM183 : zMok 183 := ⟨Or.inl ⟨rfl, zw512⟩, zw34, rfl, by decide +kernel, by decide +kernel, by decide +kernel⟩
theorem zM184 : zMok 184 := ⟨Or.inl ⟨rfl, zw512⟩, zw34, rfl, by decide +kernel, by decide +kernel, by decide +kernel⟩
theorem zM185 : zMok 185 := ⟨Or.inl ⟨rfl, zw512⟩, zw34, rfl, by decide +kernel, by decide +kernel, by decide +kernel⟩
theorem zM186 : zMok 186 := ⟨Or.inl ⟨rfl, zw512⟩, zw34, rfl, by decide +kernel, by decide +kernel, by decide +kernel⟩
theorem zM187 : zMok 187 := ⟨Or.inl ⟨rfl, zw512⟩, zw34, rfl, by decide +kernel, by decide +kernel, by decide +kernel⟩
theorem zM188 : zMok 188 := ⟨Or.inl ⟨rfl, zw512⟩, zw34, rfl, by decide +kernel, by decide +kernel, by decide +kernel⟩
theorem zM189 : zMok 189 := ⟨Or.inl ⟨rfl, zw512⟩, zw34, rfl, by decide +kernel, by decide +kernel, by decide +kernel⟩
theorem zM190 : zMok 190 := ⟨Or.inl ⟨rfl, zw512⟩, zw34, rfl, by decide +kernel, by decide +kernel, by decide +kernel⟩
theorem zM191 : zMok 191 := ⟨Or.inl ⟨rfl, zw512⟩, zw34, rfl, by decide +kernel, by decide +kernel, by decide +kernel⟩
theorem zM192 : zMok 192 := ⟨Or.inl ⟨rfl, zw512⟩, zw34, rfl, by decide +kernel, by decide +kernel, by decide +kernel⟩
theorem zM193 : zMok 193 := ⟨Or.inl ⟨rfl, zw512⟩, zw34, rfl, by decide +kernel, by decide +kernel, by decide +kernel⟩
theorem zM194 : zMok 194 := ⟨Or.inl ⟨rfl, zw512⟩, zw34, rfl, by decide +kernel, by decide +kernel, by decide +kernel⟩
theorem zM195 : zMok 195 := ⟨Or.inl ⟨rfl, zw512⟩, zw34, rfl, by decide +kernel, by decide +kernel, by decide +kernel⟩
theorem zM196 : zMok 196 := ⟨Or.inl ⟨rfl, zw512⟩, zw34, rfl, by decide +kernel, by decide +kernel, by decide +kernel⟩
theorem zM197 : zMok 197 := ⟨Or.inl ⟨rfl, zw512⟩, zw34, rfl, by decide +kernel, by decide +kernel, by decide +kernel⟩
theorem zM198 : zMok 198 := ⟨Or.inl ⟨rfl, zw512⟩, zw34, rfl, by decide +kernel, by decide +kernel, by decide +kernel⟩
theorem zM199 : zMok 199 := ⟨Or.inl ⟨rfl, zw512⟩, zw34, rfl, by decide +kernel, by decide +kernel, by decide +kernel⟩
theorem zM200 : zMok 200 := ⟨Or.inl ⟨rfl, zw512⟩, zw34, rfl, by decide +kernel, by decide +kernel, by decide +kernel⟩
theorem zM201 : zMok 201 := ⟨Or.inl ⟨rfl, zw512⟩, zw34, rfl, by decide +kernel, by decide +kernel, by decide +kernel⟩
theorem zM202 : zMok 202 := ⟨Or.inl ⟨rfl, zw512⟩, zw34, rfl, by decide +kernel, by decide +kernel, by decide +kernel⟩
theorem zM203 : zMok 203 := ⟨Or.inl ⟨rfl, zw512⟩, zw34, rfl, by decide +kernel, by decide +kernel, by decide +kernel⟩
theorem zM204 : zMok 204 := ⟨Or.inl ⟨rfl, zw512⟩, zw34, rfl, by decide +kernel, by decide +kernel, by decide +kernel⟩
theorem zM205 : zMok 205 := ⟨Or.inl ⟨rfl, zw512⟩, zw34, rfl, by decide +kernel, by decide +kernel, by decide +kernel⟩
theorem zM206 : zMok 206 := ⟨Or.inl ⟨rfl, zw512⟩, zw34, rfl, by decide +kernel, by decide +kernel, by decide +kernel⟩
theorem zM207 : zMok 207 := ⟨Or.inl ⟨rfl, zw512⟩, zw34, rfl, by decide +kernel, by decide +kernel, by decide +kernel⟩
theorem zM208 : zMok 208 := ⟨Or.inl ⟨rfl, zw512⟩, zw34, rfl, by decide +kernel, by decide +kernel, by decide +kernel⟩
theorem zM209 : zMok 209 := ⟨Or.inl ⟨rfl, zw512⟩, zw34, rfl, by decide +kernel, by decide +kernel, by decide +kernel⟩
theorem zM210 : zMok 210 := ⟨Or.inl ⟨rfl, zw512⟩, zw34, rfl, by decide +kernel, by decide +kernel, by decide +kernel⟩
theorem zM211 : zMok 211 := ⟨Or.inl ⟨rfl, zw512⟩, zw34, rfl, by decide +kernel, by decide +kernel, by decide +kernel⟩
theorem zM212 : zMok 212 := ⟨Or.inl ⟨rfl, zw512⟩, zw34, rfl, by decide +kernel, by decide +kernel, by decide +kernel⟩
theorem zM213 : zMok 213 := ⟨Or.inl ⟨rfl, zw512⟩, zw34, rfl, by decide +kernel, by decide +kernel, by decide +kernel⟩
theorem zM215 : zMok 215 := ⟨Or.inl ⟨rfl, zw512⟩, zw34, rfl, by decide +kernel, by decide +kernel, by decide +kernel⟩
theorem zM216 : zMok 216 := ⟨Or.inl ⟨rfl, zw512⟩, zw34, rfl, by decide +kernel, by decide +kernel, by decide +kernel⟩
theorem zM217 : zMok 217 := ⟨Or.inl ⟨rfl, zw512⟩, zw34, rfl, by decide +kernel, by decide +kernel, by decide +kernel⟩
theorem zM218 : zMok 218 := ⟨Or.inl ⟨rfl, zw512⟩, zw34, rfl, by decide +kernel, by decide +kernel, by decide +kernel⟩
theorem zM219 : zMok 219 := ⟨Or.inl ⟨rfl, zw512⟩, zw34, rfl, by decide +kernel, by decide +kernel, by decide +kernel⟩
theorem zM220 : zMok 220 := ⟨Or.inl ⟨rfl, zw512⟩, zw34, rfl, by decide +kernel, by decide +kernel, by decide +kernel⟩
theorem zM221 : zMok 221 := ⟨Or.inl ⟨rfl, zw512⟩, zw34, rfl, by decide +kernel, by decide +kernel, by decide +kernel⟩
theorem zM222 : zMok 222 := ⟨Or.inl ⟨rfl, zw512⟩, zw34, rfl, by decide +kernel, by decide +kernel, by decide +kernel⟩
theorem zM223 : zMok 223 := ⟨Or.inl ⟨rfl, zw512⟩, zw34, rfl, by decide +kernel, by decide +kernel, by decide +kernel⟩
theorem zM224 : zMok 224 := ⟨Or.inl ⟨rfl, zw512⟩, zw34, rfl, by decide +kernel, by decide +kernel, by decide +kernel⟩
theorem zM225 : zMok 225 := ⟨Or.inl ⟨rfl, zw512⟩, zw34, rfl, by decide +kernel, by decide +kernel, by decide +kernel⟩
theorem zM226 : zMok 226 := ⟨Or.inl ⟨rfl, zw512⟩, zw34, rfl, by decide +kernel, by decide +kernel, by decide +kernel⟩
theorem zM227 : zMok 227 := ⟨Or.inl ⟨rfl, zw512⟩, zw34, rfl, by decide +kernel, by decide +kernel, by decide +kernel⟩
theorem zM228 : zMok 228 := ⟨Or.inl ⟨rfl, zw512⟩, zw34, rfl, by decide +kernel, by decide +kernel, by decide +kernel⟩
theorem zM229 : zMok 229 := ⟨Or.inl ⟨rfl, zw220⟩, zw39, rfl, by decide +kernel, by decide +kernel, by decide +kernel⟩
theorem zM230 : zMok 230 := ⟨Or.inl ⟨rfl, zw512⟩, zw34, rfl, by decide +kernel, by decide +kernel, by decide +kernel⟩
theorem zM231 : zMok 231 := ⟨Or.inl ⟨rfl, zw512⟩, zw34, rfl, by decide +kernel, by decide +kernel, by decide +kernel⟩
theorem zM232 : zMok 232 := ⟨Or.inl ⟨rfl, zw512⟩, zw34, rfl, by decide +kernel, by decide +kernel, by decide +kernel⟩
theorem zM233 : zMok 233 := ⟨Or.inl ⟨rfl, zw512⟩, zw34, rfl, by decide +kernel, by decide +kernel, by decide +kernel⟩
theorem zM234 : zMok 234 := ⟨Or.inl ⟨rfl, zw512⟩, zw34, rfl, by decide +kernel, by decide +kernel, by decide +kernel⟩
theorem zM235 : zMok 235 := ⟨Or.inl ⟨rfl, zw512⟩, zw34, rfl, by decide +kernel, by decide +kernel, by decide +kernel⟩
theorem zM236 : zMok 236 := ⟨Or.inl ⟨rfl, zw512⟩, zw34, rfl, by decide +kernel, by decide +kernel, by decide +kernel⟩
theorem zM237 : zMok 237 := ⟨Or.inl ⟨rfl, zw512⟩, zw34, rfl, by decide +kernel, by decide +kernel, by decide +kernel⟩
theorem zM238 : zMok 238 := ⟨Or.inl ⟨rfl, zw512⟩, zw34, rfl, by decide +kernel, by decide +kernel, by decide +kernel⟩
theorem zM239 : zMok 239 := ⟨Or.inl ⟨rfl, zw512⟩, zw34, rfl, by decide +kernel, by decide +kernel, by decide +kernel⟩
theorem zM240 : zMok 240 := ⟨Or.inl ⟨rfl, zw512⟩, zw34, rfl, by decide +kernel, by decide +kernel, by decide +kernel⟩
theorem zM241 : zMok 241 := ⟨Or.inl ⟨rfl, zw512⟩, zw34, rfl, by decide +kernel, by decide +kernel, by decide +kernel⟩
theorem zM242 : zMok 242 := ⟨Or.inl ⟨rfl, zw512⟩, zw34, rfl, by decide +kernel, by decide +kernel, by decide +kernel⟩
theorem zM243 : zMok 243 := ⟨Or.inl ⟨rfl, zw512⟩, zw34, rfl, by decide +kernel, by decide +kernel, by decide +kernel⟩
theorem zM244 : zMok 244 := ⟨Or.inl ⟨rfl, zw512⟩, zw34, rfl, by decide +kernel, by decide +kernel, by decide +kernel⟩
theorem zM245 : zMok 245 := ⟨Or.inl ⟨rfl, zw512⟩, zw34, rfl, by decide +kernel, by decide +kernel, by decide +kernel⟩
theorem zM246 : zMok 246 := ⟨Or.inl ⟨rfl, zw512⟩, zw34, rfl, by decide +kernel, by decide +kernel, by decide +kernel⟩
theorem zM247 : zMok 247 := ⟨Or.inl ⟨rfl, zw752⟩, zw32, rfl, by decide +kernel, by decide +kernel, by decide +kernel⟩
theorem zM248 : zMok 248 := ⟨Or.inl ⟨rfl, zw748⟩, zw32, rfl, by decide +kernel, by decide +kernel, by decide +kernel⟩
theorem zM249 : zMok 249 := ⟨Or.inl ⟨rfl, zw745⟩, zw32, rfl, by decide +kernel, by decide +kernel, by decide +kernel⟩
theorem zMs_0 : ∀ y ∈ [0, 1, 2, 3, 4, 5, 6, 7, 8, 9, 10, 11, 12, 13, 14, 15, 16, 17, 18, 19, 20, 21, 22, 23, 24, 25, 26, 27, 28, 29, 30, 31, 32, 33, 34, 35, 36, 37, 38, 39], zMok y := List.forall_mem_cons.mpr ⟨zM0, List.forall_mem_cons.mpr ⟨zM1, List.forall_mem_cons.mpr ⟨zM2, List.forall_mem_cons.mpr ⟨zM3, List.forall_mem_cons.mpr ⟨zM4, List.forall_mem_cons.mpr ⟨zM5, List.forall_mem_cons.mpr ⟨zM6, List.forall_mem_cons.mpr ⟨zM7, List.forall_mem_cons.mpr ⟨zM8, List.forall_mem_cons.mpr ⟨zM9, List.forall_mem_cons.mpr ⟨zM10, List.forall_mem_cons.mpr ⟨zM11, List.forall_mem_cons.mpr ⟨zM12, List.forall_mem_cons.mpr ⟨zM13, List.forall_mem_cons.mpr ⟨zM14, List.forall_mem_cons.mpr ⟨zM15, List.forall_mem_cons.mpr ⟨zM16, List.forall_mem_cons.mpr ⟨zM17, List.forall_mem_cons.mpr ⟨zM18, List.forall_mem_cons.mpr ⟨zM19, List.forall_mem_cons.mpr ⟨zM20, List.forall_mem_cons.mpr ⟨zM21, List.forall_mem_cons.mpr ⟨zM22, List.forall_mem_cons.mpr ⟨zM23, List.forall_mem_cons.mpr ⟨zM24, List.forall_mem_cons.mpr ⟨zM25, List.forall_mem_cons.mpr ⟨zM26, List.forall_mem_cons.mpr ⟨zM27, List.forall_mem_cons.mpr ⟨zM28, List.forall_mem_cons.mpr ⟨zM29, List.forall_mem_cons.mpr ⟨zM30, List.forall_mem_cons.mpr ⟨zM31, List.forall_mem_cons.mpr ⟨zM32, List.forall_mem_cons.mpr ⟨zM33, List.forall_mem_cons.mpr ⟨zM34, List.forall_mem_cons.mpr ⟨zM35, List.forall_mem_cons.mpr ⟨zM36, List.forall_mem_cons.mpr ⟨zM37, List.forall_mem_cons.mpr ⟨zM38, List.forall_mem_cons.mpr ⟨zM39, fun _ h => absurd h List.not_mem_nil⟩⟩⟩⟩⟩⟩⟩⟩⟩⟩⟩⟩⟩⟩⟩⟩⟩⟩⟩⟩⟩⟩⟩⟩⟩⟩⟩⟩⟩⟩⟩⟩⟩⟩⟩⟩⟩⟩⟩⟩
theorem zMs_1 : ∀ y ∈ [40, 41, 42, 43, 44, 45, 46, 47, 48, 49, 50, 51, 52, 53, 54, 55, 56, 57, 58, 59, 60, 61, 62, 63, 64, 65, 66, 67, 68, 69, 70, 71, 72, 73, 74, 75, 76, 77, 78, 79], zMok y := List.forall_mem_cons.mpr ⟨zM40, List.forall_mem_cons.mpr ⟨zM41, List.forall_mem_cons.mpr ⟨zM42, List.forall_mem_cons.mpr ⟨zM43, List.forall_mem_cons.mpr ⟨zM44, List.forall_mem_cons.mpr ⟨zM45, List.forall_mem_cons.mpr ⟨zM46, List.forall_mem_cons.mpr ⟨zM47, List.forall_mem_cons.mpr ⟨zM48, List.forall_mem_cons.mpr ⟨zM49, List.forall_mem_cons.mpr ⟨zM50, List.forall_mem_cons.mpr ⟨zM51, List.forall_mem_cons.mpr ⟨zM52, List.forall_mem_cons.mpr ⟨zM53, List.forall_mem_cons.mpr ⟨zM54, List.forall_mem_cons.mpr ⟨zM55, List.forall_mem_cons.mpr ⟨zM56, List.forall_mem_cons.mpr ⟨zM57, List.forall_mem_cons.mpr ⟨zM58, List.forall_mem_cons.mpr ⟨zM59, List.forall_mem_cons.mpr ⟨zM60, List.forall_mem_cons.mpr ⟨zM61, List.forall_mem_cons.mpr ⟨zM62, List.forall_mem_cons.mpr ⟨zM63, List.forall_mem_cons.mpr ⟨zM64, List.forall_mem_cons.mpr ⟨zM65, List.forall_mem_cons.mpr ⟨zM66, List.forall_mem_cons.mpr ⟨zM67, List.forall_mem_cons.mpr ⟨zM68, List.forall_mem_cons.mpr ⟨zM69, List.forall_mem_cons.mpr ⟨zM70, List.forall_mem_cons.mpr ⟨zM71, List.forall_mem_cons.mpr ⟨zM72, List.forall_mem_cons.mpr ⟨zM73, List.forall_mem_cons.mpr ⟨zM74, List.forall_mem_cons.mpr ⟨zM75, List.forall_mem_cons.mpr ⟨zM76, List.forall_mem_cons.mpr ⟨zM77, List.forall_mem_cons.mpr ⟨zM78, List.forall_mem_cons.mpr ⟨zM79, fun _ h => absurd h List.not_mem_nil⟩⟩⟩⟩⟩⟩⟩⟩⟩⟩⟩⟩⟩⟩⟩⟩⟩⟩⟩⟩⟩⟩⟩⟩⟩⟩⟩⟩⟩⟩⟩⟩⟩⟩⟩⟩⟩⟩⟩⟩
theorem zMs_2 : ∀ y ∈ [80, 81, 82, 83, 84, 85, 86, 87, 88, 89, 90, 91, 92, 93, 94, 95, 96, 97, 98, 99, 100, 101, 102, 103, 104, 105, 106, 107, 108, 109, 110, 111, 112, 113, 114, 115, 116, 117, 118, 119], zMok y := List.forall_mem_cons.mpr ⟨zM80, List.forall_mem_cons.mpr ⟨zM81, List.forall_mem_cons.mpr ⟨zM82, List.forall_mem_cons.mpr ⟨zM83, List.forall_mem_cons.mpr ⟨zM84, List.forall_mem_cons.mpr ⟨zM85, List.forall_mem_cons.mpr ⟨zM86, List.forall_mem_cons.mpr ⟨zM87, List.forall_mem_cons.mpr ⟨zM88, List.forall_mem_cons.mpr ⟨zM89, List.forall_mem_cons.mpr ⟨zM90, List.forall_mem_cons.mpr ⟨zM91, List.forall_mem_cons.mpr ⟨zM92, List.forall_mem_cons.mpr ⟨zM93, List.forall_mem_cons.mpr ⟨zM94, List.forall_mem_cons.mpr ⟨zM95, List.forall_mem_cons.mpr ⟨zM96, List.forall_mem_cons.mpr ⟨zM97, List.forall_mem_cons.mpr ⟨zM98, List.forall_mem_cons.mpr ⟨zM99, List.forall_mem_cons.mpr ⟨zM100, List.forall_mem_cons.mpr ⟨zM101, List.forall_mem_cons.mpr ⟨zM102, List.forall_mem_cons.mpr ⟨zM103, List.forall_mem_cons.mpr ⟨zM104, List.forall_mem_cons.mpr ⟨zM105, List.forall_mem_cons.mpr ⟨zM106, List.forall_mem_cons.mpr ⟨zM107, List.forall_mem_cons.mpr ⟨zM108, List.forall_mem_cons.mpr ⟨zM109, List.forall_mem_cons.mpr ⟨zM110, List.forall_mem_cons.mpr ⟨zM111, List.forall_mem_cons.mpr ⟨zM112, List.forall_mem_cons.mpr ⟨zM113, List.forall_mem_cons.mpr ⟨zM114, List.forall_mem_cons.mpr ⟨zM115, List.forall_mem_cons.mpr ⟨zM116, List.forall_mem_cons.mpr ⟨zM117, List.forall_mem_cons.mpr ⟨zM118, List.forall_mem_cons.mpr ⟨zM119, fun _ h => absurd h List.not_mem_nil⟩⟩⟩⟩⟩⟩⟩⟩⟩⟩⟩⟩⟩⟩⟩⟩⟩⟩⟩⟩⟩⟩⟩⟩⟩⟩⟩⟩⟩⟩⟩⟩⟩⟩⟩⟩⟩⟩⟩⟩
theorem zMs_3 : ∀ y ∈ [120, 121, 122, 123, 124, 125, 126, 127, 128, 129, 130, 131, 132, 133, 134, 135, 136, 137, 138, 139, 140, 141, 142, 143, 144, 145, 146, 147, 148, 149, 150, 151, 152, 153, 154, 155, 156, 157, 158, 159], zMok y := List.forall_mem_cons.mpr ⟨zM120, List.forall_mem_cons.mpr ⟨zM121, List.forall_mem_cons.mpr ⟨zM122, List.forall_mem_cons.mpr ⟨zM123, List.forall_mem_cons.mpr ⟨zM124, List.forall_mem_cons.mpr ⟨zM125, List.forall_mem_cons.mpr ⟨zM126, List.forall_mem_cons.mpr ⟨zM127, List.forall_mem_cons.mpr ⟨zM128, List.forall_mem_cons.mpr ⟨zM129, List.forall_mem_cons.mpr ⟨zM130, List.forall_mem_cons.mpr ⟨zM131, List.forall_mem_cons.mpr ⟨zM132, List.forall_mem_cons.mpr ⟨zM133, List.forall_mem_cons.mpr ⟨zM134, List.forall_mem_cons.mpr ⟨zM135, List.forall_mem_cons.mpr ⟨zM136, List.forall_mem_cons.mpr ⟨zM137, List.forall_mem_cons.mpr ⟨zM138, List.forall_mem_cons.mpr ⟨zM139, List.forall_mem_cons.mpr ⟨zM140, List.forall_mem_cons.mpr ⟨zM141, List.forall_mem_cons.mpr ⟨zM142, List.forall_mem_cons.mpr ⟨zM143, List.forall_mem_cons.mpr ⟨zM144, List.forall_mem_cons.mpr ⟨zM145, List.forall_mem_cons.mpr ⟨zM146, List.forall_mem_cons.mpr ⟨zM147, List.forall_mem_cons.mpr ⟨zM148, List.forall_mem_cons.mpr ⟨zM149, List.forall_mem_cons.mpr ⟨zM150, List.forall_mem_cons.mpr ⟨zM151, List.forall_mem_cons.mpr ⟨zM152, List.forall_mem_cons.mpr ⟨zM153, List.forall_mem_cons.mpr ⟨zM154, List.forall_mem_cons.mpr ⟨zM155, List.forall_mem_cons.mpr ⟨zM156, List.forall_mem_cons.mpr ⟨zM157, List.forall_mem_cons.mpr ⟨zM158, List.forall_mem_cons.mpr ⟨zM159, fun _ h => absurd h List.not_mem_nil⟩⟩⟩⟩⟩⟩⟩⟩⟩⟩⟩⟩⟩⟩⟩⟩⟩⟩⟩⟩⟩⟩⟩⟩⟩⟩⟩⟩⟩⟩⟩⟩⟩⟩⟩⟩⟩⟩⟩⟩
theorem zMs_4 : ∀ y ∈ [160, 161, 162, 163, 164, 165, 166, 167, 168, 169, 170, 171, 172, 173, 174, 175, 176, 177, 178, 179, 180, 181, 182, 183, 184, 185, 186, 187, 188, 189, 190, 191, 192, 193, 194, 195, 196, 197, 198, 199], zMok y := List.forall_mem_cons.mpr ⟨zM160, List.forall_mem_cons.mpr ⟨zM161, List.forall_mem_cons.mpr ⟨zM162, List.forall_mem_cons.mpr ⟨zM163, List.forall_mem_cons.mpr ⟨zM164, List.forall_mem_cons.mpr ⟨zM165, List.forall_mem_cons.mpr ⟨zM166, List.forall_mem_cons.mpr ⟨zM167, List.forall_mem_cons.mpr ⟨zM168, List.forall_mem_cons.mpr ⟨zM169, List.forall_mem_cons.mpr ⟨zM170, List.forall_mem_cons.mpr ⟨zM171, List.forall_mem_cons.mpr ⟨zM172, List.forall_mem_cons.mpr ⟨zM173, List.forall_mem_cons.mpr ⟨zM174, List.forall_mem_cons.mpr ⟨zM175, List.forall_mem_cons.mpr ⟨zM176, List.forall_mem_cons.mpr ⟨zM177, List.forall_mem_cons.mpr ⟨zM178, List.forall_mem_cons.mpr ⟨zM179, List.forall_mem_cons.mpr ⟨zM180, List.forall_mem_cons.mpr ⟨zM181, List.forall_mem_cons.mpr ⟨zM182, List.forall_mem_cons.mpr ⟨zM183, List.forall_mem_cons.mpr ⟨zM184, List.forall_mem_cons.mpr ⟨zM185, List.forall_mem_cons.mpr ⟨zM186, List.forall_mem_cons.mpr ⟨zM187, List.forall_mem_cons.mpr ⟨zM188, List.forall_mem_cons.mpr ⟨zM189, List.forall_mem_cons.mpr ⟨zM190, List.forall_mem_cons.mpr ⟨zM191, List.forall_mem_cons.mpr ⟨zM192, List.forall_mem_cons.mpr ⟨zM193, List.forall_mem_cons.mpr ⟨zM194, List.forall_mem_cons.mpr ⟨zM195, List.forall_mem_cons.mpr ⟨zM196, List.forall_mem_cons.mpr ⟨zM197, List.forall_mem_cons.mpr ⟨zM198, List.forall_mem_cons.mpr ⟨zM199, fun _ h => absurd h List.not_mem_nil⟩⟩⟩⟩⟩⟩⟩⟩⟩⟩⟩⟩⟩⟩⟩⟩⟩⟩⟩⟩⟩⟩⟩⟩⟩⟩⟩⟩⟩⟩⟩⟩⟩⟩⟩⟩⟩⟩⟩⟩
theorem zMs_5 : ∀ y ∈ [200, 201, 202, 203, 204, 205, 206, 207, 208, 209, 210, 211, 212, 213, 215, 216, 217, 218, 219, 220, 221, 222, 223, 224, 225, 226, 227, 228, 229, 230, 231, 232, 233, 234, 235, 236, 237, 238, 239, 240], zMok y := List.forall_mem_cons.mpr ⟨zM200, List.forall_mem_cons.mpr ⟨zM201, List.forall_mem_cons.mpr ⟨zM202, List.forall_mem_cons.mpr ⟨zM203, List.forall_mem_cons.mpr ⟨zM204, List.forall_mem_cons.mpr ⟨zM205, List.forall_mem_cons.mpr ⟨zM206, List.forall_mem_cons.mpr ⟨zM207, List.forall_mem_cons.mpr ⟨zM208, List.forall_mem_cons.mpr ⟨zM209, List.forall_mem_cons.mpr ⟨zM210, List.forall_mem_cons.mpr ⟨zM211, List.forall_mem_cons.mpr ⟨zM212, List.forall_mem_cons.mpr ⟨zM213, List.forall_mem_cons.mpr ⟨zM215, List.forall_mem_cons.mpr ⟨zM216, List.forall_mem_cons.mpr ⟨zM217, List.forall_mem_cons.mpr ⟨zM218, List.forall_mem_cons.mpr ⟨zM219, List.forall_mem_cons.mpr ⟨zM220, List.forall_mem_cons.mpr ⟨zM221, List.forall_mem_cons.mpr ⟨zM222, List.forall_mem_cons.mpr ⟨zM223, List.forall_mem_cons.mpr ⟨zM224, List.forall_mem_cons.mpr ⟨zM225, List.forall_mem_cons.mpr ⟨zM226, List.forall_mem_cons.mpr ⟨zM227, List.forall_mem_cons.mpr ⟨zM228, List.forall_mem_cons.mpr ⟨zM229, List.forall_mem_cons.mpr ⟨zM230, List.forall_mem_cons.mpr ⟨zM231, List.forall_mem_cons.mpr ⟨zM232, List.forall_mem_cons.mpr ⟨zM233, List.forall_mem_cons.mpr ⟨zM234, List.forall_mem_cons.mpr ⟨zM235, List.forall_mem_cons.mpr ⟨zM236, List.forall_mem_cons.mpr ⟨zM237, List.forall_mem_cons.mpr ⟨zM238, List.forall_mem_cons.mpr ⟨zM239, List.forall_mem_cons.mpr ⟨zM240, fun _ h => absurd h List.not_mem_nil⟩⟩⟩⟩⟩⟩⟩⟩⟩⟩⟩⟩⟩⟩⟩⟩⟩⟩⟩⟩⟩⟩⟩⟩⟩⟩⟩⟩⟩⟩⟩⟩⟩⟩⟩⟩⟩⟩⟩⟩
theorem zMs_6 : ∀ y ∈ [241, 242, 243, 244, 245, 246, 247, 248, 249], zMok y := List.forall_mem_cons.mpr ⟨zM241, List.forall_mem_cons.mpr ⟨zM242, List.forall_mem_cons.mpr ⟨zM243, List.forall_mem_cons.mpr ⟨zM244, List.forall_mem_cons.mpr ⟨zM245, List.forall_mem_cons.mpr ⟨zM246, List.forall_mem_cons.mpr ⟨zM247, List.forall_mem_cons.mpr ⟨zM248, List.forall_mem_cons.mpr ⟨zM249, fun _ h => absurd h List.not_mem_nil⟩⟩⟩⟩⟩⟩⟩⟩⟩
theorem zM_ok : ∀ y, y < 250 → y ≠ 214 → zMok y := by
  intro y h1 h2
  have h : y ∈ [0, 1, 2, 3, 4, 5, 6, 7, 8, 9, 10, 11, 12, 13, 14, 15, 16, 17, 18, 19, 20, 21, 22, 23, 24, 25, 26, 27, 28, 29, 30, 31, 32, 33, 34, 35, 36, 37, 38, 39] ++ [40, 41, 42, 43, 44, 45, 46, 47, 48, 49, 50, 51, 52, 53, 54, 55, 56, 57, 58, 59, 60, 61, 62, 63, 64, 65, 66, 67, 68, 69, 70, 71, 72, 73, 74, 75, 76, 77, 78, 79] ++ [80, 81, 82, 83, 84, 85, 86, 87, 88, 89, 90, 91, 92, 93, 94, 95, 96, 97, 98, 99, 100, 101, 102, 103, 104, 105, 106, 107, 108, 109, 110, 111, 112, 113, 114, 115, 116, 117, 118, 119] ++ [120, 121, 122, 123, 124, 125, 126, 127, 128, 129, 130, 131, 132, 133, 134, 135, 136, 137, 138, 139, 140, 141, 142, 143, 144, 145, 146, 147, 148, 149, 150, 151, 152, 153, 154, 155, 156, 157, 158, 159] ++ [160, 161, 162, 163, 164, 165, 166, 167, 168, 169, 170, 171, 172, 173, 174, 175, 176, 177, 178, 179, 180, 181, 182, 183, 184, 185, 186, 187, 188, 189, 190, 191, 192, 193, 194, 195, 196, 197, 198, 199] ++ [200, 201, 202, 203, 204, 205, 206, 207, 208, 209, 210, 211, 212, 213, 215, 216, 217, 218, 219, 220, 221, 222, 223, 224, 225, 226, 227, 228, 229, 230, 231, 232, 233, 234, 235, 236, 237, 238, 239, 240] ++ [241, 242, 243, 244, 245, 246, 247, 248, 249] := by
    have e : (List.range 250).all (fun y => decide (y = 214) || decide (y ∈ ([0, 1, 2, 3, 4, 5, 6, 7, 8, 9, 10, 11, 12, 13, 14, 15, 16, 17, 18, 19, 20, 21, 22, 23, 24, 25, 26, 27, 28, 29, 30, 31, 32, 33, 34, 35, 36, 37, 38, 39] : List Nat) ++ ([40, 41, 42, 43, 44, 45, 46, 47, 48, 49, 50, 51, 52, 53, 54, 55, 56, 57, 58, 59, 60, 61, 62, 63, 64, 65, 66, 67, 68, 69, 70, 71, 72, 73, 74, 75, 76, 77, 78, 79] : List Nat) ++ ([80, 81, 82, 83, 84, 85, 86, 87, 88, 89, 90, 91, 92, 93, 94, 95, 96, 97, 98, 99, 100, 101, 102, 103, 104, 105, 106, 107, 108, 109, 110, 111, 112, 113, 114, 115, 116, 117, 118, 119] : List Nat) ++ ([120, 121, 122, 123, 124, 125, 126, 127, 128, 129, 130, 131, 132, 133, 134, 135, 136, 137, 138, 139, 140, 141, 142, 143, 144, 145, 146, 147, 148, 149, 150, 151, 152, 153, 154, 155, 156, 157, 158, 159] : List Nat) ++ ([160, 161, 162, 163, 164, 165, 166, 167, 168, 169, 170, 171, 172, 173, 174, 175, 176, 177, 178, 179, 180, 181, 182, 183, 184, 185, 186, 187, 188, 189, 190, 191, 192, 193, 194, 195, 196, 197, 198, 199] : List Nat) ++ ([200, 201, 202, 203, 204, 205, 206, 207, 208, 209, 210, 211, 212, 213, 215, 216, 217, 218, 219, 220, 221, 222, 223, 224, 225, 226, 227, 228, 229, 230, 231, 232, 233, 234, 235, 236, 237, 238, 239, 240] : List Nat) ++ ([241, 242, 243, 244, 245, 246, 247, 248, 249] : List Nat))) = true := by decide +kernel
    have h3 := List.all_eq_true.mp e y (List.mem_range.mpr h1)
    rw [Bool.or_eq_true, decide_eq_true_eq, decide_eq_true_eq] at h3
    exact h3.resolve_left h2
  exact (List.forall_mem_append.mpr ⟨List.forall_mem_append.mpr ⟨List.forall_mem_append.mpr ⟨List.forall_mem_append.mpr ⟨List.forall_mem_append.mpr ⟨List.forall_mem_append.mpr ⟨zMs_0, zMs_1⟩, zMs_2⟩, zMs_3⟩, zMs_4⟩, zMs_5⟩, zMs_6⟩) y h
