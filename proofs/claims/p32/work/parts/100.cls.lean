/-! The class's objects: 44 cells at fixed places. -/
def zup {α : Type} (f : Nat → α) (k : Nat) (v : α) : Nat → α := fun j => if j = k then v else f j
def zar (l : List Int32) : Nat × List Value := (100, l.map Value.int)
def zx (s : Nat → Int32) (a : Nat → List Int32) (T : zH) : zH :=
  (5, [.ref 1, .ref 6, .ref 29, .ref 36, .ref 38, .ref 40, .ref 42, .int (s 14), .int (s 15), .int (s 16), .int (s 17), .int (s 18)]) ::
  (0, [.ref 2, .ref 4, .int (s 0), .int (s 1), .int (s 2)]) ::
  (2, [.ref 3]) :: zar (a 0) :: (2, [.ref 5]) :: zar (a 1) ::
  (4, [.ref 7, .ref 9, .ref 11, .ref 13, .ref 15, .ref 22, .int (s 3), .int (s 4), .int (s 5), .int (s 6), .int (s 7), .int (s 8)]) ::
  (2, [.ref 8]) :: zar (a 2) :: (2, [.ref 10]) :: zar (a 3) :: (2, [.ref 12]) :: zar (a 4) :: (2, [.ref 14]) :: zar (a 5) ::
  (1, [.ref 16, .ref 18, .ref 20, .int (s 9)]) :: (2, [.ref 17]) :: zar (a 6) :: (2, [.ref 19]) :: zar (a 7) :: (2, [.ref 21]) :: zar (a 8) ::
  (1, [.ref 23, .ref 25, .ref 27, .int (s 10)]) :: (2, [.ref 24]) :: zar (a 9) :: (2, [.ref 26]) :: zar (a 10) :: (2, [.ref 28]) :: zar (a 11) ::
  (3, [.ref 30, .ref 32, .ref 34, .int (s 11), .int (s 12), .int (s 13)]) :: (2, [.ref 31]) :: zar (a 12) :: (2, [.ref 33]) :: zar (a 13) :: (2, [.ref 35]) :: zar (a 14) ::
  (2, [.ref 37]) :: zar (a 15) :: (2, [.ref 39]) :: zar (a 16) :: (2, [.ref 41]) :: zar (a 17) :: (2, [.ref 43]) :: zar (a 18) :: T
section ZC1
variable {xs : List Int32} {s : Nat → Int32} {a : Nat → List Int32} {T : zH} {nc ns : Nat}
end ZC1
