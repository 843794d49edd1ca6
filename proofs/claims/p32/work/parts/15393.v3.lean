section ZRW
variable {S0 : zSt} {M : zRt} {X : zXt} {kq : Nat × Nat × List Value} {xs : List Int32} {N n : Nat} {nc ns : Nat} {L : (Nat → List (List Int32)) × List Int32}
/-- the elements of the first n whose bit is below w -/
def zflt (w : Int32) (src : List (List Int32)) : Nat → List (List Int32)
  | 0 => []
  | n + 1 => if (zgt (src.getD n []) (Int32.ofInt 2)).toInt < w.toInt then zflt w src n ++ [src.getD n []] else zflt w src n
theorem zflt_len {w : Int32} {src : List (List Int32)} : ∀ n, (zflt w src n).length ≤ n
  | 0 => Nat.le_refl _
  | n + 1 => by
    have := zflt_len (w := w) (src := src) n
    show (if _ then _ else _ : List (List Int32)).length ≤ _
    split
    · rw [List.length_append]
      show _ + 1 ≤ _
      omega
    · omega
end ZRW
section ZRX9
variable {S0 : zSt} {M : zRt} {X : zXt} {kq : Nat × Nat × List Value} {xs : List Int32} {N : Nat} {nc ns : Nat} {P : zO → Prop}
end ZRX9
section ZRY
variable {S0 : zSt} {M : zRt} {X : zXt} {kq : Nat × Nat × List Value} {xs : List Int32} {N : Nat} {nc ns : Nat} {P : zO → Prop}
end ZRY
/-! code, of the class. -/
section ZP53
variable {xs : List Int32} {N : Nat} {S : zSt} {T : zH} {nc ns : Nat}
end ZP53
