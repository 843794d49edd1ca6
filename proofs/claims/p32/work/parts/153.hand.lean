/-! The reference's object, as it is made. -/
def ce_ini : List zCe := [(148, [(.inl 3), (.inl 0), (.inl 0), (.inl 0), (.inl 0)], (0, 0), [(.inr (.inr (.inl (44, 44)))), (.inr (.inr (.inr 0))), (.inr (.inr (.inr 0)))], []),
  (149, [(.inl 2), (.inl 0), (.inl 0), (.inl 0), (.inl 0)], (0, 0), [(.inr (.inr (.inl (44, 44)))), (.inr (.inr (.inr 0))), (.inr (.inr (.inr 0)))], [(.inl (0, 0, 0, 0))]),
  (150, [(.inl 1), (.inr (2, 1)), (.inl 6), (.inl 0), (.inl 0)], (0, 0), [(.inr (.inr (.inl (44, 44)))), (.inl (0, 2, 0, 0)), (.inr (.inr (.inr 0)))], []),
  (151, [(.inl 1), (.inr (2, 1)), (.inl 5), (.inl 0), (.inl 0)], (0, 0), [(.inr (.inr (.inl (44, 44)))), (.inl (0, 2, 0, 0)), (.inr (.inr (.inr 0)))], [(.inl (0, 2, 0, 2))]),
  (152, [(.inl 1), (.inr (2, 1)), (.inl 4), (.inl 0), (.inl 0)], (0, 0), [(.inr (.inr (.inl (44, 44)))), (.inl (0, 2, 0, 0)), (.inr (.inr (.inr 0)))], [(.inl (2, 2, 0, 0)), (.inl (0, 2, 0, 2))]),
  (155, [(.inl 1), (.inr (2, 1)), (.inl 3), (.inl 0), (.inl 0)], (0, 0), [(.inr (.inr (.inl (44, 44)))), (.inl (0, 1, 0, 0)), (.inr (.inr (.inr 0)))], []),
  (156, [(.inl 1), (.inr (2, 1)), (.inl 2), (.inl 0), (.inl 0)], (0, 0), [(.inr (.inr (.inl (44, 44)))), (.inl (0, 1, 0, 0)), (.inr (.inr (.inr 0)))], [(.inl (0, 0, 0, 0))]),
  (157, [(.inl 1), (.inr (2, 1)), (.inl 1), (.inr (8, 2)), (.inl 16)], (0, 0), [(.inr (.inr (.inl (44, 44)))), (.inl (0, 1, 0, 0)), (.inl (0, 8, 0, 0))], []),
  (158, [(.inl 1), (.inr (2, 1)), (.inl 1), (.inr (8, 2)), (.inl 15)], (0, 0), [(.inr (.inr (.inl (44, 44)))), (.inl (0, 1, 0, 0)), (.inl (0, 8, 0, 0))], [(.inl (0, 8, 0, 3))]),
  (160, [(.inl 1), (.inr (2, 1)), (.inl 1), (.inr (8, 2)), (.inl 14)], (0, 0), [(.inr (.inr (.inl (44, 44)))), (.inl (0, 1, 0, 0)), (.inl (0, 8, 0, 0))], [(.inl (8, 8, 0, 0)), (.inl (0, 8, 0, 3))]),
  (163, [(.inl 1), (.inr (2, 1)), (.inl 1), (.inr (8, 2)), (.inl 13)], (0, 0), [(.inr (.inr (.inl (44, 44)))), (.inl (0, 1, 0, 0)), (.inl (0, 7, 0, 0))], []),
  (164, [(.inl 1), (.inr (2, 1)), (.inl 1), (.inr (8, 2)), (.inl 12)], (0, 0), [(.inr (.inr (.inl (44, 44)))), (.inl (0, 1, 0, 0)), (.inl (0, 7, 0, 0))], [(.inr (.inr (.inl (44, 44))))]),
  (167, [(.inl 1), (.inr (2, 1)), (.inl 1), (.inr (8, 2)), (.inl 11)], (0, 0), [(.inr (.inr (.inl (44, 44)))), (.inl (0, 1, 0, 0)), (.inl (0, 7, 0, 0))], [(.inr (.inr (.inl (69, 69))))]),
  (168, [(.inl 1), (.inr (2, 1)), (.inl 1), (.inr (8, 2)), (.inl 10)], (0, 0), [(.inr (.inr (.inl (44, 44)))), (.inl (0, 1, 0, 0)), (.inl (0, 7, 0, 0))], [(.inl (0, 1, 0, 2)), (.inr (.inr (.inl (69, 69))))]),
  (170, [(.inl 1), (.inr (2, 1)), (.inl 1), (.inr (8, 2)), (.inl 9)], (0, 0), [(.inr (.inr (.inl (44, 44)))), (.inl (0, 1, 0, 0)), (.inl (0, 7, 0, 0))], [(.inl (8, 8, 0, 0)), (.inl (0, 1, 0, 2)), (.inr (.inr (.inl (69, 69))))]),
  (171, [(.inl 1), (.inr (2, 1)), (.inl 1), (.inr (8, 2)), (.inl 8)], (0, 0), [(.inr (.inr (.inl (44, 44)))), (.inl (0, 1, 0, 0)), (.inl (0, 7, 0, 0))], [(.inl (0, 8, 0, 0)), (.inr (.inr (.inl (69, 69))))]),
  (172, [(.inl 1), (.inr (2, 1)), (.inl 1), (.inr (8, 2)), (.inl 7)], (0, 0), [(.inr (.inr (.inl (44, 44)))), (.inl (0, 1, 0, 0)), (.inl (0, 7, 0, 0))], [(.inl (0, 7, 0, 3)), (.inl (0, 8, 0, 0)), (.inr (.inr (.inl (69, 69))))]),
  (173, [(.inl 1), (.inr (2, 1)), (.inl 1), (.inr (8, 2)), (.inl 6)], (0, 0), [(.inr (.inr (.inl (44, 44)))), (.inl (0, 1, 0, 0)), (.inl (0, 7, 0, 0))], [(.inl (0, 15, 0, 0)), (.inr (.inr (.inl (69, 69))))]),
  (174, [(.inl 1), (.inr (2, 1)), (.inl 1), (.inr (8, 2)), (.inl 5)], (0, 0), [(.inr (.inr (.inl (44, 44)))), (.inl (0, 1, 0, 0)), (.inl (0, 7, 0, 0))], [(.inl (0, 1, 0, 2)), (.inl (0, 15, 0, 0)), (.inr (.inr (.inl (69, 69))))]),
  (176, [(.inl 1), (.inr (2, 1)), (.inl 1), (.inr (8, 2)), (.inl 4)], (0, 0), [(.inr (.inr (.inl (44, 44)))), (.inl (0, 1, 0, 0)), (.inl (0, 7, 0, 0))], [(.inl (10, 10, 0, 0)), (.inl (0, 1, 0, 2)), (.inl (0, 15, 0, 0)), (.inr (.inr (.inl (69, 69))))]),
  (177, [(.inl 1), (.inr (2, 1)), (.inl 1), (.inr (8, 2)), (.inl 3)], (0, 0), [(.inr (.inr (.inl (44, 44)))), (.inl (0, 1, 0, 0)), (.inl (0, 7, 0, 0))], [(.inl (0, 10, 0, 0)), (.inl (0, 15, 0, 0)), (.inr (.inr (.inl (69, 69))))]),
  (178, [(.inl 1), (.inr (2, 1)), (.inl 1), (.inr (8, 2)), (.inl 2)], (0, 0), [(.inr (.inr (.inl (44, 44)))), (.inl (0, 1, 0, 0)), (.inl (0, 7, 0, 0))], [(.inl (0, 7, 0, 3)), (.inl (0, 10, 0, 0)), (.inl (0, 15, 0, 0)), (.inr (.inr (.inl (69, 69))))]),
  (179, [(.inl 1), (.inr (2, 1)), (.inl 1), (.inr (8, 2)), (.inl 1)], (0, 0), [(.inr (.inr (.inl (44, 44)))), (.inl (0, 1, 0, 0)), (.inl (0, 7, 0, 0))], [(.inl (0, 17, 0, 0)), (.inl (0, 15, 0, 0)), (.inr (.inr (.inl (69, 69))))]),
  (180, [(.inl 1), (.inr (2, 1)), (.inl 1), (.inr (8, 2)), (.inl 0)], (0, 0), [(.inr (.inr (.inl (44, 44)))), (.inl (0, 1, 0, 0)), (.inl (0, 7, 0, 0))], []),
  (183, [(.inl 1), (.inr (2, 1)), (.inl 1), (.inr (8, 2)), (.inl 17)], (0, 0), [(.inr (.inr (.inl (44, 44)))), (.inl (0, 1, 0, 0)), (.inl (1, 8, 0, 0))], []),
  (186, [(.inl 1), (.inr (2, 1)), (.inl 0), (.inl 0), (.inl 0)], (0, 0), [(.inr (.inr (.inl (44, 44)))), (.inl (0, 1, 0, 0)), (.inl (8, 8, 0, 0))], []),
  (189, [(.inl 1), (.inr (2, 1)), (.inl 7), (.inl 0), (.inl 0)], (0, 0), [(.inr (.inr (.inl (44, 44)))), (.inl (1, 2, 0, 0)), (.inl (8, 8, 0, 0))], []),
  (192, [(.inl 0), (.inl 0), (.inl 0), (.inl 0), (.inl 0)], (0, 0), [(.inr (.inr (.inl (44, 44)))), (.inl (2, 2, 0, 0)), (.inr (.inr (.inr 0)))], [])]
def cs_ini : List zCt := []
theorem gs_ini {xs : List Int32} : ∀ ct ∈ cs_ini, zGd xs ct := fun _ h => absurd h List.not_mem_nil
def zm0 (c st wk lg : Value) : List Value := [.int 0, .int (Int8.ofInt 8).toInt32, .int (Int32.ofInt 5), c, .int 0, .int (Int8.ofInt 16).toInt32, .int (Int8.ofInt 20).toInt32, .int 0, .int 0, .int 0, .int 0, .int (Int32.ofInt (-1)), .int 0, .int 0, .int 0, .int 0, .ref 46, .ref 67, .ref 68, .ref 69, .ref 70, .ref 71, .ref 72, st, wk, lg]
def zmT (c st wk lg : Value) (U : zH) : zH := (7, zm0 c st wk lg) :: (100, []) :: (104, (List.range 20).map (fun j => .ref (47 + j))) :: (100, List.replicate 8 (.int 0)) :: (100, List.replicate 8 (.int 0)) :: (100, List.replicate 8 (.int 0)) :: (100, List.replicate 8 (.int 0)) :: (100, List.replicate 8 (.int 0)) :: (100, List.replicate 8 (.int 0)) :: (100, List.replicate 8 (.int 0)) :: (100, List.replicate 8 (.int 0)) :: (100, List.replicate 8 (.int 0)) :: (100, List.replicate 8 (.int 0)) :: (100, List.replicate 8 (.int 0)) :: (100, List.replicate 8 (.int 0)) :: (100, List.replicate 8 (.int 0)) :: (100, List.replicate 8 (.int 0)) :: (100, List.replicate 8 (.int 0)) :: (100, List.replicate 8 (.int 0)) :: (100, List.replicate 8 (.int 0)) :: (100, List.replicate 8 (.int 0)) :: (100, List.replicate 8 (.int 0)) :: (100, List.replicate 8 (.int 0)) :: (100, List.replicate 20 (.int 0)) :: (100, List.replicate 20 (.int 0)) :: (100, List.replicate 16 (.int 0)) :: (100, List.replicate 2 (.int 0)) :: (101, List.replicate 128 (.int 0)) :: (101, List.replicate 128 (.int 0)) :: U
section ZHO
variable {xs : List Int32} {s : Nat → Int32} {a : Nat → List Int32} {D nc ns : Nat}
def zgI (s : Nat → Int32) (a : Nat → List Int32) (n : Nat) : zG := (s, a, (fun k => (zm0 (.ref 76) (.ref 73) (.ref 74) (.ref 75)).getD k .null), (fun j => 73 + j), 0, 0, n, 3, fun _ => 0)
abbrev zli : Nat × List Value := (10, [.int 0, .retAddr 1, .int 0])
set_option maxRecDepth 20000
theorem zHI_I {l : List Int32} (hl : l.length = 13) : zHI (zgI s a l.length) 0 (zx s a (zmT (.ref 76) (.ref 73) (.ref 74) (.ref 75) [zli, zli, zli, zar l])) := by
  refine ⟨rfl, ⟨_, rfl, rfl, fun k hk => ?_, fun k hk => ?_⟩, rfl, fun q t n lo hi e => ?_, ?_, ⟨(Int8.ofInt 8).toInt32, Int32.ofInt 5, rfl, rfl, ?_⟩, ⟨Nat.zero_le _, Nat.zero_le _, Nat.zero_le _, by show 8 ≤ l.length; omega, by show l.length ≤ 16; omega, Nat.le_refl _, fun j => Nat.zero_le _⟩⟩
  · rcases (show k = 0 ∨ k = 1 ∨ k = 2 ∨ k = 3 ∨ k = 4 ∨ k = 5 ∨ k = 6 ∨ k = 7 ∨ k = 8 ∨ k = 9 ∨ k = 10 ∨ k = 11 ∨ k = 12 ∨ k = 13 ∨ k = 14 ∨ k = 15 ∨ k = 16 ∨ k = 17 ∨ k = 18 ∨ k = 19 ∨ k = 20 ∨ k = 21 ∨ k = 22 ∨ k = 23 ∨ k = 24 ∨ k = 25 by omega) with rfl | rfl | rfl | rfl | rfl | rfl | rfl | rfl | rfl | rfl | rfl | rfl | rfl | rfl | rfl | rfl | rfl | rfl | rfl | rfl | rfl | rfl | rfl | rfl | rfl | rfl
    · exact ⟨_, rfl, _, rfl, by decide, by decide, trivial, Or.inl rfl⟩
    · exact ⟨_, rfl, _, rfl, by decide, by decide, trivial, Or.inl rfl⟩
    · exact ⟨_, rfl, _, rfl, by decide, by decide, trivial, Or.inl rfl⟩
    · exact ⟨_, rfl, 76, l, rfl, by decide, rfl, rfl⟩
    · exact ⟨_, rfl, _, rfl, by decide, by decide, trivial, Or.inl rfl⟩
    · exact ⟨_, rfl, _, rfl, by decide, by decide, trivial, Or.inl rfl⟩
    · exact ⟨_, rfl, _, rfl, by decide, by decide, trivial, Or.inl rfl⟩
    · exact ⟨_, rfl, _, rfl, by decide, by decide, trivial, Or.inl rfl⟩
    · exact ⟨_, rfl, _, rfl, by decide, by decide, trivial, Or.inl rfl⟩
    · exact ⟨_, rfl, _, rfl, by decide, by decide, trivial, Or.inl rfl⟩
    · exact ⟨_, rfl, _, rfl, by decide, by decide, trivial, Or.inl rfl⟩
    · exact ⟨_, rfl, _, rfl, by decide, by decide, trivial, Or.inl rfl⟩
    · exact ⟨_, rfl, _, rfl, by decide, by decide, trivial, Or.inl rfl⟩
    · exact ⟨_, rfl, _, rfl, by decide, by decide, trivial, Or.inl rfl⟩
    · exact ⟨_, rfl, _, rfl, by decide, by decide, trivial, Or.inl rfl⟩
    · exact ⟨_, rfl, _, rfl, by decide, by decide, trivial, Or.inl rfl⟩
    · exact ⟨_, rfl, _, rfl, Nat.le_refl _, Nat.le_refl _⟩
    · exact ⟨_, rfl, _, rfl, Nat.le_refl _, Nat.le_refl _⟩
    · exact ⟨_, rfl, _, rfl, Nat.le_refl _, Nat.le_refl _⟩
    · exact ⟨_, rfl, _, rfl, Nat.le_refl _, Nat.le_refl _⟩
    · exact ⟨_, rfl, _, rfl, Nat.le_refl _, Nat.le_refl _⟩
    · exact ⟨_, rfl, _, rfl, Nat.le_refl _, Nat.le_refl _⟩
    · exact ⟨_, rfl, _, rfl, Nat.le_refl _, Nat.le_refl _⟩
    · exact ⟨_, rfl, rfl⟩
    · exact ⟨_, rfl, rfl⟩
    · exact ⟨_, rfl, rfl⟩
  · rcases (show k = 1 ∨ k = 2 ∨ k = 3 ∨ k = 4 ∨ k = 13 by simpa [zfz] using hk) with rfl | rfl | rfl | rfl | rfl <;> rfl
  · have hb := zsp_b e
    rcases (show q = 47 ∨ q = 48 ∨ q = 49 ∨ q = 50 ∨ q = 51 ∨ q = 52 ∨ q = 53 ∨ q = 54 ∨ q = 55 ∨ q = 56 ∨ q = 57 ∨ q = 58 ∨ q = 59 ∨ q = 60 ∨ q = 61 ∨ q = 62 ∨ q = 63 ∨ q = 64 ∨ q = 65 ∨ q = 66 ∨ q = 67 ∨ q = 68 ∨ q = 69 ∨ q = 70 ∨ q = 71 ∨ q = 72 by omega) with rfl | rfl | rfl | rfl | rfl | rfl | rfl | rfl | rfl | rfl | rfl | rfl | rfl | rfl | rfl | rfl | rfl | rfl | rfl | rfl | rfl | rfl | rfl | rfl | rfl | rfl
    · cases (show some ((100 : Nat), (8 : Nat), ((-2147483648) : Int), (2147483647 : Int)) = some (t, n, lo, hi) from e)
      exact ⟨List.replicate 8 0, rfl, rfl, fun x hx => by rw [List.eq_of_mem_replicate hx]; decide⟩
    · cases (show some ((100 : Nat), (8 : Nat), ((-2147483648) : Int), (2147483647 : Int)) = some (t, n, lo, hi) from e)
      exact ⟨List.replicate 8 0, rfl, rfl, fun x hx => by rw [List.eq_of_mem_replicate hx]; decide⟩
    · cases (show some ((100 : Nat), (8 : Nat), ((-2147483648) : Int), (2147483647 : Int)) = some (t, n, lo, hi) from e)
      exact ⟨List.replicate 8 0, rfl, rfl, fun x hx => by rw [List.eq_of_mem_replicate hx]; decide⟩
    · cases (show some ((100 : Nat), (8 : Nat), ((-2147483648) : Int), (2147483647 : Int)) = some (t, n, lo, hi) from e)
      exact ⟨List.replicate 8 0, rfl, rfl, fun x hx => by rw [List.eq_of_mem_replicate hx]; decide⟩
    · cases (show some ((100 : Nat), (8 : Nat), ((-2147483648) : Int), (2147483647 : Int)) = some (t, n, lo, hi) from e)
      exact ⟨List.replicate 8 0, rfl, rfl, fun x hx => by rw [List.eq_of_mem_replicate hx]; decide⟩
    · cases (show some ((100 : Nat), (8 : Nat), ((-2147483648) : Int), (2147483647 : Int)) = some (t, n, lo, hi) from e)
      exact ⟨List.replicate 8 0, rfl, rfl, fun x hx => by rw [List.eq_of_mem_replicate hx]; decide⟩
    · cases (show some ((100 : Nat), (8 : Nat), ((-2147483648) : Int), (2147483647 : Int)) = some (t, n, lo, hi) from e)
      exact ⟨List.replicate 8 0, rfl, rfl, fun x hx => by rw [List.eq_of_mem_replicate hx]; decide⟩
    · cases (show some ((100 : Nat), (8 : Nat), ((-2147483648) : Int), (2147483647 : Int)) = some (t, n, lo, hi) from e)
      exact ⟨List.replicate 8 0, rfl, rfl, fun x hx => by rw [List.eq_of_mem_replicate hx]; decide⟩
    · cases (show some ((100 : Nat), (8 : Nat), ((-2147483648) : Int), (2147483647 : Int)) = some (t, n, lo, hi) from e)
      exact ⟨List.replicate 8 0, rfl, rfl, fun x hx => by rw [List.eq_of_mem_replicate hx]; decide⟩
    · cases (show some ((100 : Nat), (8 : Nat), ((-2147483648) : Int), (2147483647 : Int)) = some (t, n, lo, hi) from e)
      exact ⟨List.replicate 8 0, rfl, rfl, fun x hx => by rw [List.eq_of_mem_replicate hx]; decide⟩
    · cases (show some ((100 : Nat), (8 : Nat), ((-2147483648) : Int), (2147483647 : Int)) = some (t, n, lo, hi) from e)
      exact ⟨List.replicate 8 0, rfl, rfl, fun x hx => by rw [List.eq_of_mem_replicate hx]; decide⟩
    · cases (show some ((100 : Nat), (8 : Nat), ((-2147483648) : Int), (2147483647 : Int)) = some (t, n, lo, hi) from e)
      exact ⟨List.replicate 8 0, rfl, rfl, fun x hx => by rw [List.eq_of_mem_replicate hx]; decide⟩
    · cases (show some ((100 : Nat), (8 : Nat), ((-2147483648) : Int), (2147483647 : Int)) = some (t, n, lo, hi) from e)
      exact ⟨List.replicate 8 0, rfl, rfl, fun x hx => by rw [List.eq_of_mem_replicate hx]; decide⟩
    · cases (show some ((100 : Nat), (8 : Nat), ((-2147483648) : Int), (2147483647 : Int)) = some (t, n, lo, hi) from e)
      exact ⟨List.replicate 8 0, rfl, rfl, fun x hx => by rw [List.eq_of_mem_replicate hx]; decide⟩
    · cases (show some ((100 : Nat), (8 : Nat), ((-2147483648) : Int), (2147483647 : Int)) = some (t, n, lo, hi) from e)
      exact ⟨List.replicate 8 0, rfl, rfl, fun x hx => by rw [List.eq_of_mem_replicate hx]; decide⟩
    · cases (show some ((100 : Nat), (8 : Nat), ((-2147483648) : Int), (2147483647 : Int)) = some (t, n, lo, hi) from e)
      exact ⟨List.replicate 8 0, rfl, rfl, fun x hx => by rw [List.eq_of_mem_replicate hx]; decide⟩
    · cases (show some ((100 : Nat), (8 : Nat), ((-2147483648) : Int), (2147483647 : Int)) = some (t, n, lo, hi) from e)
      exact ⟨List.replicate 8 0, rfl, rfl, fun x hx => by rw [List.eq_of_mem_replicate hx]; decide⟩
    · cases (show some ((100 : Nat), (8 : Nat), ((-2147483648) : Int), (2147483647 : Int)) = some (t, n, lo, hi) from e)
      exact ⟨List.replicate 8 0, rfl, rfl, fun x hx => by rw [List.eq_of_mem_replicate hx]; decide⟩
    · cases (show some ((100 : Nat), (8 : Nat), ((-2147483648) : Int), (2147483647 : Int)) = some (t, n, lo, hi) from e)
      exact ⟨List.replicate 8 0, rfl, rfl, fun x hx => by rw [List.eq_of_mem_replicate hx]; decide⟩
    · cases (show some ((100 : Nat), (8 : Nat), ((-2147483648) : Int), (2147483647 : Int)) = some (t, n, lo, hi) from e)
      exact ⟨List.replicate 8 0, rfl, rfl, fun x hx => by rw [List.eq_of_mem_replicate hx]; decide⟩
    · cases (show some ((100 : Nat), (20 : Nat), ((-2147483648) : Int), (2147483647 : Int)) = some (t, n, lo, hi) from e)
      exact ⟨List.replicate 20 0, rfl, rfl, fun x hx => by rw [List.eq_of_mem_replicate hx]; decide⟩
    · cases (show some ((100 : Nat), (20 : Nat), ((-2147483648) : Int), (2147483647 : Int)) = some (t, n, lo, hi) from e)
      exact ⟨List.replicate 20 0, rfl, rfl, fun x hx => by rw [List.eq_of_mem_replicate hx]; decide⟩
    · cases (show some ((100 : Nat), (16 : Nat), (0 : Int), (19 : Int)) = some (t, n, lo, hi) from e)
      exact ⟨List.replicate 16 0, rfl, rfl, fun x hx => by rw [List.eq_of_mem_replicate hx]; decide⟩
    · cases (show some ((100 : Nat), (2 : Nat), (0 : Int), (2 : Int)) = some (t, n, lo, hi) from e)
      exact ⟨List.replicate 2 0, rfl, rfl, fun x hx => by rw [List.eq_of_mem_replicate hx]; decide⟩
    · cases (show some ((101 : Nat), (128 : Nat), (0 : Int), (1 : Int)) = some (t, n, lo, hi) from e)
      exact ⟨List.replicate 128 0, rfl, rfl, fun x hx => by rw [List.eq_of_mem_replicate hx]; decide⟩
    · cases (show some ((101 : Nat), (128 : Nat), (0 : Int), (1 : Int)) = some (t, n, lo, hi) from e)
      exact ⟨List.replicate 128 0, rfl, rfl, fun x hx => by rw [List.eq_of_mem_replicate hx]; decide⟩
  · refine ⟨fun _ => none, fun j hj => ?_⟩
    have hj : j < 3 := hj
    refine ⟨show 73 ≤ 73 + j by omega, ?_, fun q z => (by cases z), fun i hi ne => ⟨show 73 + i ≠ 73 + j by omega, fun q z => (by cases z)⟩⟩
    rcases (show j = 0 ∨ j = 1 ∨ j = 2 by omega) with rfl | rfl | rfl
    · exact ⟨[], ⟨0, rfl, rfl⟩, rfl, fun e he => (by cases he)⟩
    · exact ⟨[], ⟨0, rfl, rfl⟩, rfl, fun e he => (by cases he)⟩
    · exact ⟨[], ⟨0, rfl, rfl⟩, rfl, fun e he => (by cases he)⟩
  · show ((Int8.ofInt 8).toInt32).toInt + (Int32.ofInt 5).toInt = (l.length : Int)
    rw [hl]
    decide
end ZHO
