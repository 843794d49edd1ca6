/-! The reference's methods, by hand: health. -/
def ct_173 : zCt := (173, [(.inr (.inr (.inl (44, 44)))), (.inl (0, 1, 0, 0))], some (.inr (.inr (.inr 2))), 12, 0, 0)
section ZHE
variable {xs : List Int32} {D nc0 ns0 lg0 : Nat} {h0 : zH} {g : zG}
end ZHE
