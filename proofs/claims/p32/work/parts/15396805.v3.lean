theorem zifP {α : Type} {c : Prop} [Decidable c] {p q : α} {P : α → Prop} (h1 : P p) (h2 : P q) : P (if c then p else q) := by
  split
  · exact h1
  · exact h2
section ZQ2
variable {xs : List Int32} {N : Nat} {S : zSt} {M : zRt} {X : zXt} {q : Nat} {vs : List Value} {nc ns : Nat}
def zrP_70 (r : Option Value ⊕ Nat) : Prop := (∃ x : Int32, r = .inl (some (.int x))) ∨ r = .inr 1 ∨ r = .inr 0
theorem rs_70 {x1 x2 : Int32} : (∃ x : Int32, R70 x1 x2 S = .inl (some (.int x))) ∨ R70 x1 x2 S = .inr 1 ∨ R70 x1 x2 S = .inr 0 := by
  show zrP_70 (R70 x1 x2 S)
  unfold R70
  repeat' first | refine zifP (P := zrP_70) ?_ ?_ | exact Or.inl ⟨_, rfl⟩ | exact Or.inr (Or.inl (rfl)) | exact Or.inr (Or.inr (rfl))
abbrev kc_204 : Nat → Int32 := fun E => if E = 1 then Int32.ofInt 1 else if E = 0 then Int32.ofInt 2 else 0
theorem Fe_70 {x1 x2 : Int32} : F70 x1 x2 S = S := by
  unfold F70
  repeat' first | refine zifP (P := fun r => r = S) ?_ ?_ | exact rfl
def zrP_72 (r : Option Value ⊕ Nat) : Prop := (∃ x : Int32, r = .inl (some (.int x))) ∨ r = .inr 1 ∨ r = .inr 0
theorem rs_72 {x1 x2 : Int32} : (∃ x : Int32, R72 x1 x2 S = .inl (some (.int x))) ∨ R72 x1 x2 S = .inr 1 ∨ R72 x1 x2 S = .inr 0 := by
  show zrP_72 (R72 x1 x2 S)
  unfold R72
  repeat' first | refine zifP (P := zrP_72) ?_ ?_ | exact Or.inl ⟨_, rfl⟩ | exact Or.inr (Or.inl (rfl)) | exact Or.inr (Or.inr (rfl))
abbrev kc_206 : Nat → Int32 := fun E => if E = 1 then Int32.ofInt 1 else if E = 0 then Int32.ofInt 2 else 0
theorem Fe_72 {x1 x2 : Int32} : F72 x1 x2 S = S := by
  unfold F72
  repeat' first | refine zifP (P := fun r => r = S) ?_ ?_ | exact rfl
def zrP_74 (r : Option Value ⊕ Nat) : Prop := (∃ x : Int32, r = .inl (some (.int x))) ∨ r = .inr 0
theorem rs_74 {x1 : Int32} : (∃ x : Int32, R74 x1 S = .inl (some (.int x))) ∨ R74 x1 S = .inr 0 := by
  show zrP_74 (R74 x1 S)
  unfold R74
  repeat' first | refine zifP (P := zrP_74) ?_ ?_ | exact Or.inl ⟨_, rfl⟩ | exact Or.inr (rfl)
abbrev kc_208 : Nat → Int32 := fun E => if E = 0 then Int32.ofInt 1 else 0
theorem Fe_74 {x1 : Int32} : F74 x1 S = S := by
  unfold F74
  repeat' first | refine zifP (P := fun r => r = S) ?_ ?_ | exact rfl
def zrP_77 (r : Option Value ⊕ Nat) : Prop := (∃ x : Int32, r = .inl (some (.int x))) ∨ r = .inr 1
theorem rs_77 {x1 : Int32} : (∃ x : Int32, R77 x1 S = .inl (some (.int x))) ∨ R77 x1 S = .inr 1 := by
  show zrP_77 (R77 x1 S)
  unfold R77
  repeat' first | refine zifP (P := zrP_77) ?_ ?_ | exact Or.inl ⟨_, rfl⟩ | exact Or.inr (rfl)
abbrev kc_211 : Nat → Int32 := fun E => if E = 1 then Int32.ofInt 1 else 0
theorem Fe_77 {x1 : Int32} : F77 x1 S = S := by
  unfold F77
  repeat' first | refine zifP (P := fun r => r = S) ?_ ?_ | exact rfl
end ZQ2
section ZQ2
variable {xs : List Int32} {N : Nat} {S : zSt} {M : zRt} {X : zXt} {q : Nat} {vs : List Value} {nc ns : Nat}
def zrP_71 (r : Option Value ⊕ Nat) : Prop := (∃ x : Int32, r = .inl (some (.int x))) ∨ r = .inr 1 ∨ r = .inr 0
theorem rs_71 {x1 x2 x3 : Int32} : (∃ x : Int32, R71 x1 x2 x3 S = .inl (some (.int x))) ∨ R71 x1 x2 x3 S = .inr 1 ∨ R71 x1 x2 x3 S = .inr 0 := by
  show zrP_71 (R71 x1 x2 x3 S)
  unfold R71
  repeat' first | refine zifP (P := zrP_71) ?_ ?_ | exact Or.inl ⟨_, rfl⟩ | exact Or.inr (Or.inl (rfl)) | exact Or.inr (Or.inr (rfl))
abbrev kc_205 : Nat → Int32 := fun E => if E = 1 then Int32.ofInt 1 else if E = 0 then Int32.ofInt 2 else 0
theorem Fe_71 {x1 x2 x3 : Int32} : F71 x1 x2 x3 S = S := by
  unfold F71
  repeat' first | refine zifP (P := fun r => r = S) ?_ ?_ | exact rfl
def zrP_78 (r : Option Value ⊕ Nat) : Prop := (∃ x : Int32, r = .inl (some (.int x))) ∨ r = .inr 1
theorem rs_78 {x1 : Int32} : (∃ x : Int32, R78 x1 S = .inl (some (.int x))) ∨ R78 x1 S = .inr 1 := by
  show zrP_78 (R78 x1 S)
  unfold R78
  repeat' first | refine zifP (P := zrP_78) ?_ ?_ | exact Or.inl ⟨_, rfl⟩ | exact Or.inr (rfl)
abbrev kc_212 : Nat → Int32 := fun E => if E = 1 then Int32.ofInt 1 else 0
theorem Fe_78 {x1 : Int32} : F78 x1 S = S := by
  unfold F78
  repeat' first | refine zifP (P := fun r => r = S) ?_ ?_ | exact rfl
end ZQ2
