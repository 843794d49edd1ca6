set_option maxRecDepth 20000
section ZRE
variable {S0 : zSt} {M : zRt} {X : zXt} {kq : Nat × Nat × List Value} {xs : List Int32} {N : Nat} {nc ns : Nat}
def q162 (x1 : Int32) (M : zRt) : Nat → Nat → Int32
  | 0, k => (Int32.ofInt (-1))
  | m + 1, k => if (zgt (M.2.1 22) ((Int32.ofNat k))) = x1 then ((zrmd ((Int32.ofNat k)) (Int32.ofInt 8))) else (q162 x1 M m (k + 1))
def v162 (x1 : Int32) (M : zRt) : Int32 := q162 x1 M (Int32.ofNat (M.2.1 22).length).toInt.toNat 0
def d161 (x1 : Int32) (l4 : Int32) (M : zRt) (k : Nat) (u : Int32) : Int32 := if (zkd M.2.2.2 (zgt (M.2.1 (Int32.toNatClampNeg x1)) ((Int32.ofNat k)))) = ((0 : Int32)) then (u + (Int32.ofInt 0)) else (u + (Int32.ofInt 1))
def w161 (x1 : Int32) (l4 : Int32) (M : zRt) (u0 : Int32) : Nat → Int32
  | 0 => u0
  | k + 1 => d161 x1 l4 M k (w161 x1 l4 M u0 k)
def y161 (x1 : Int32) (l4 : Int32) (M : zRt) (u : Int32) : Int32 := u
def v161 (x1 : Int32) (M : zRt) : Int32 := y161 x1 (Int32.ofNat (M.2.1 (Int32.toNatClampNeg x1)).length) M (w161 x1 (Int32.ofNat (M.2.1 (Int32.toNatClampNeg x1)).length) M (Int32.ofInt 0) ((Int32.ofNat (M.2.1 (Int32.toNatClampNeg x1)).length)).toInt.toNat)
def v163 (x1 : Int32) (x2 : Int32) (M : zRt) : Int32 := if x2 = Int32.ofInt 0 then ((zgt (M.2.1 20) x1)) else (if x2 = Int32.ofInt 1 then ((v162 x1 M)) else (if x2 = Int32.ofInt 2 then (((M.1 4) - (zgt (M.2.1 21) x1))) else (if x2 = Int32.ofInt 3 then ((v158_0 x1 (Int32.ofInt (-1)) M)) else ((v161 x1 M)))))
def v164 (x1 : Int32) (x2 : Int32) (x3 : Int32) (M : zRt) : Int32 := if (v112 x1 (Int32.ofInt 0) (Int32.ofInt 1) (zmS M 0 (Int32.ofInt 0))) = ((0 : Int32)) then ((v111 (Int32.ofInt 1) (zmS M 0 (Int32.ofInt 0)))) else (if (v112 x2 (Int32.ofInt 0) (Int32.ofInt 9) (zmS M 0 (Int32.ofInt 0))) = ((0 : Int32)) then ((v111 (Int32.ofInt 1) (zmS M 0 (Int32.ofInt 0)))) else (if (v112 x3 (Int32.ofInt 0) (Int32.ofInt 4) (zmS M 0 (Int32.ofInt 0))) = ((0 : Int32)) then ((v111 (Int32.ofInt 2) (zmS M 0 (Int32.ofInt 0)))) else ((v163 ((x1 * (Int32.ofInt 10)) + x2) x3 (zmS M 0 (Int32.ofInt 0))))))
def r164 (x1 : Int32) (x2 : Int32) (x3 : Int32) (M : zRt) : zRt := if (v112 x1 (Int32.ofInt 0) (Int32.ofInt 1) (zmS M 0 (Int32.ofInt 0))) = ((0 : Int32)) then ((r111 (Int32.ofInt 1) (zmS M 0 (Int32.ofInt 0)))) else (if (v112 x2 (Int32.ofInt 0) (Int32.ofInt 9) (zmS M 0 (Int32.ofInt 0))) = ((0 : Int32)) then ((r111 (Int32.ofInt 1) (zmS M 0 (Int32.ofInt 0)))) else (if (v112 x3 (Int32.ofInt 0) (Int32.ofInt 4) (zmS M 0 (Int32.ofInt 0))) = ((0 : Int32)) then ((r111 (Int32.ofInt 2) (zmS M 0 (Int32.ofInt 0)))) else (zmS M 0 (Int32.ofInt 0))))
theorem gr_164 {x1 x2 x3 : Int32} : zfrM [0] [] [] (r164 x1 x2 x3 M) M := by
  unfold r164
  exact (gm_ite (gm_c gr_111 (gm_c gm_S gm_rf (by decide) (by decide) (by decide)) (by decide) (by decide) (by decide)) (gm_ite (gm_c gr_111 (gm_c gm_S gm_rf (by decide) (by decide) (by decide)) (by decide) (by decide) (by decide)) (gm_ite (gm_c gr_111 (gm_c gm_S gm_rf (by decide) (by decide) (by decide)) (by decide) (by decide) (by decide)) (gm_c gm_S gm_rf (by decide) (by decide) (by decide)))))
theorem rl_164 {x1 x2 x3 : Int32} : (r164 x1 x2 x3 M).2.2 = M.2.2 := gm_l gr_164
def q179 (x1 : Int32) (M : zRt) : Nat → Nat → Int32 → Int32
  | 0, k, wa => wa
  | m + 1, k, wa => if (zgt (M.2.1 23) x1).toInt < (Int32.ofInt 2).toInt then (if (v161 (zgt (M.2.1 22) ((x1 * (Int32.ofInt 8)) + ((Int32.ofNat k)))) M) = ((0 : Int32)) then (q179 x1 M m (k + 1) wa) else (if wa = (Int32.ofInt (-1)) then (if wa = (Int32.ofInt (-1)) then (q179 x1 M m (k + 1) ((Int32.ofNat k))) else (if (v161 (Int32.ofInt 0) M).toInt < (v161 (zgt (M.2.1 22) ((x1 * (Int32.ofInt 8)) + ((Int32.ofNat k)))) M).toInt then (q179 x1 M m (k + 1) ((Int32.ofNat k))) else (if (v161 (zgt (M.2.1 22) ((x1 * (Int32.ofInt 8)) + ((Int32.ofNat k)))) M) = (v161 (Int32.ofInt 0) M) then (if (v158_0 (Int32.ofInt 0) (Int32.ofInt (-1)) M).toInt < (v158_0 (zgt (M.2.1 22) ((x1 * (Int32.ofInt 8)) + ((Int32.ofNat k)))) (Int32.ofInt (-1)) M).toInt then (q179 x1 M m (k + 1) ((Int32.ofNat k))) else (q179 x1 M m (k + 1) wa)) else (q179 x1 M m (k + 1) wa)))) else (if wa = (Int32.ofInt (-1)) then (q179 x1 M m (k + 1) ((Int32.ofNat k))) else (if (v161 (zgt (M.2.1 22) ((x1 * (Int32.ofInt 8)) + wa)) M).toInt < (v161 (zgt (M.2.1 22) ((x1 * (Int32.ofInt 8)) + ((Int32.ofNat k)))) M).toInt then (q179 x1 M m (k + 1) ((Int32.ofNat k))) else (if (v161 (zgt (M.2.1 22) ((x1 * (Int32.ofInt 8)) + ((Int32.ofNat k)))) M) = (v161 (zgt (M.2.1 22) ((x1 * (Int32.ofInt 8)) + wa)) M) then (if (v158_0 (zgt (M.2.1 22) ((x1 * (Int32.ofInt 8)) + wa)) (Int32.ofInt (-1)) M).toInt < (v158_0 (zgt (M.2.1 22) ((x1 * (Int32.ofInt 8)) + ((Int32.ofNat k)))) (Int32.ofInt (-1)) M).toInt then (q179 x1 M m (k + 1) ((Int32.ofNat k))) else (q179 x1 M m (k + 1) wa)) else (q179 x1 M m (k + 1) wa)))))) else wa
def v179 (x1 : Int32) (M : zRt) : Int32 := q179 x1 M (Int32.ofInt 8).toInt.toNat 0 (Int32.ofInt (-1))
def v180 (x1 : Int32) (M : zRt) : Int32 := if (v112 x1 (Int32.ofInt 0) (Int32.ofInt 1) (zmS M 0 (Int32.ofInt 0))) = ((0 : Int32)) then ((v111 (Int32.ofInt 1) (zmS M 0 (Int32.ofInt 0)))) else ((v179 x1 (zmS M 0 (Int32.ofInt 0))))
def r180 (x1 : Int32) (M : zRt) : zRt := if (v112 x1 (Int32.ofInt 0) (Int32.ofInt 1) (zmS M 0 (Int32.ofInt 0))) = ((0 : Int32)) then ((r111 (Int32.ofInt 1) (zmS M 0 (Int32.ofInt 0)))) else (zmS M 0 (Int32.ofInt 0))
theorem gr_180 {x1 : Int32} : zfrM [0] [] [] (r180 x1 M) M := by
  unfold r180
  exact (gm_ite (gm_c gr_111 (gm_c gm_S gm_rf (by decide) (by decide) (by decide)) (by decide) (by decide) (by decide)) (gm_c gm_S gm_rf (by decide) (by decide) (by decide)))
theorem rl_180 {x1 : Int32} : (r180 x1 M).2.2 = M.2.2 := gm_l gr_180
end ZRE
