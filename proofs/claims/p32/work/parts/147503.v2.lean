section ZPG
variable {xs : List Int32} {N D y pc nx k yy m c tg : Nat} {i : Instr} {L : zL} {st : List Value} {h : zH} {nc ns : Nat} {P P' : zO → Prop}
theorem zpE_get {a kd : Nat} {t : Nat} {vs : List Value} {v : Value} {r : List Value} {j : Nat} (h1 : zat (zmc y) pc = some (.getfield j, nx, k, yy, m, c)) (ha : h[a]? = some (t, vs)) (hf : (zcf t)[k]? = some (yy, kd)) (hv : vs[k]? = some v) (g : zpE xs N y nx L (v :: r) h nc ns P) : zpE xs N y pc L (.ref a :: r) h nc ns P := by
  refine zpE_step (dc := 0) (ds := 0) h1 ?_ g
  show zget zcf yy k nx L (.ref a :: r) h = _
  unfold zget
  dsimp only
  rw [ha]
  dsimp only
  rw [hf]
  dsimp only
  rw [if_pos rfl, hv]
  rfl
theorem zpE_alen {a : Nat} {vs : List Value} {t : Nat} {r : List Value} (h1 : zat (zmc y) pc = some (.arraylength, nx, k, yy, m, c)) (ha : h[a]? = some (t, vs)) (ht : 100 ≤ t) (g : zpE xs N y nx L (.int (Int32.ofNat vs.length) :: r) h nc ns P) : zpE xs N y pc L (.ref a :: r) h nc ns P := by
  refine zpE_step (dc := 0) (ds := 0) h1 ?_ g
  show zalen xs nx L (.ref a :: r) h = _
  unfold zalen
  dsimp only
  rw [ha]
  exact if_pos ht
/-- a load from a row: that it is in the row comes for nothing -/
theorem zpE_ald {j : Int32} {a : Nat} {l : List Int32} {r : List Value} (h1 : zat (zmc y) pc = some (.iaload, nx, k, yy, m, c)) (ha : h[a]? = some (100, l.map Value.int)) (g : ∀ v, ¬ j < 0 → l[j.toNatClampNeg]? = some v → zpE xs N y nx L (.int v :: r) h nc ns P) : zpE xs N y pc L (.int j :: .ref a :: r) h nc ns P := by
  have en : zstep zcf xs pc .iaload nx k yy m c L (.int j :: .ref a :: r) h = match l[j.toNatClampNeg]? with
      | some v => if j < 0 then none else zgo nx L (.int v :: r) h
      | none => none := by
    show zald 100 nx L (.int j :: .ref a :: r) h = _
    unfold zald
    dsimp only
    rw [ha]
    dsimp only
    rw [if_pos rfl, List.getElem?_map]
    cases l[j.toNatClampNeg]? <;> rfl
  refine zpE_le (Nat.le_succ _) (zpE_st1 h1 (fun pc' L' st' h' dc ds e => ?_) (fun r9 e => ?_))
  · rw [en] at e
    cases hv : l[j.toNatClampNeg]? with
    | none =>
      rw [hv] at e
      cases e
    | some v =>
      rw [hv] at e
      dsimp only at e
      by_cases hj : j < 0
      · rw [if_pos hj] at e
        cases e
      · rw [if_neg hj] at e
        cases e
        exact g v hj hv
  · rw [en] at e
    cases hv : l[j.toNatClampNeg]? with
    | none =>
      rw [hv] at e
      cases e
    | some v =>
      rw [hv] at e
      dsimp only at e
      by_cases hj : j < 0
      · rw [if_pos hj] at e
        cases e
      · rw [if_neg hj] at e
        cases e
end ZPG
/-! The reference's code, word for word. -/
section ZPM
variable {xs : List Int32} {N : Nat} {h : zH} {K R : Int32} {c : List Int32} {nc ns : Nat}
theorem zcl_of {k : Nat} (hk : k < 2147483648) : (Int32.ofNat k).toNatClampNeg = k := by
  show (Int32.ofNat k).toInt.toNat = k
  rw [zofI hk]
  rfl
abbrev zcm (c : List Int32) : Nat → Int32 := fun k => c.getD k 0
abbrev zsm (c : List Int32) (w : Int32) : Int32 := zsyn (zcm c) w c.length
/-- the place of a number, from k on -/
def zfn : List Int32 → Int32 → Nat → Int32
  | [], _, _ => Int32.ofInt (-1)
  | y :: r, x, k => if y = x then Int32.ofNat k else zfn r x (k + 1)
abbrev zbm9 (c : List Int32) (w : Int32) : Int32 := zfn c (zsm c w) 0
/-- 0 clean, 1 mended, 2 bad -/
def zkd (c : List Int32) (w : Int32) : Int32 := if zsm c w = 0 then 0 else if zbm9 c w = Int32.ofInt (-1) then 2 else 1
def zme (c : List Int32) (w : Int32) : Int32 := if zkd c w = Int32.ofInt 1 then w ^^^ Int32.ofInt 1 <<< (zbm9 c w &&& 31) else w
abbrev zdo (c : List Int32) (K w : Int32) : Int32 := zme c w &&& (Int32.ofInt 1 <<< (K &&& 31) - Int32.ofInt 1)
end ZPM
