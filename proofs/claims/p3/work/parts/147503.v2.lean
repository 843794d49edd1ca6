section ZPG
variable {xs : List Int32} {N D y pc nx k yy m c tg : Nat} {i : Instr} {L : zL} {st : List Value} {h : zH} {nc ns : Nat} {P P' : zO → Prop}
theorem zpE_get {a kd : Nat} {t : Nat} {vs : List Value} {v : Value} {r : List Value} {j : Nat} (h1 : zat (zmc y) pc = some (.getfield j, nx, k, yy, m, c)) (ha : h[a]? = some (t, vs)) (hf : (zcf t)[k]? = some (yy, kd)) (hv : vs[k]? = some v) (g : zpE xs N y nx L (v :: r) h nc ns P) : zpE xs N y pc L (.ref a :: r) h nc ns P := by
  refine zpE_step (dc := 0) (ds := 0) h1 ?_ g
  show zget zcf yy k nx L (.ref a :: r) h = _
  unfold zget
  dsimp only
  rw [ha]
  dsimp only
  rw [hf]
  dsimp only
  rw [if_pos rfl, hv]
  rfl
theorem zpE_put {a kd t : Nat} {vs : List Value} {v : Value} {r : List Value} {j : Nat} (h1 : zat (zmc y) pc = some (.putfield j, nx, k, yy, m, c)) (ha : h[a]? = some (t, vs)) (hf : (zcf t)[k]? = some (yy, kd)) (hv : zfdk kd v = true) (hk : k < vs.length) (g : zpE xs N y nx L r (h.set a (t, vs.set k v)) nc ns P) : zpE xs N y pc L (v :: .ref a :: r) h nc ns P := by
  refine zpE_step (dc := 0) (ds := 0) h1 ?_ g
  show zput zcf yy k nx L (v :: .ref a :: r) h = _
  unfold zput
  dsimp only
  rw [ha]
  dsimp only
  rw [hf]
  dsimp only
  rw [if_pos rfl, if_pos hv, if_pos hk]
  rfl
theorem zpE_alen {a : Nat} {vs : List Value} {t : Nat} {r : List Value} (h1 : zat (zmc y) pc = some (.arraylength, nx, k, yy, m, c)) (ha : h[a]? = some (t, vs)) (ht : 100 ≤ t) (g : zpE xs N y nx L (.int (Int32.ofNat vs.length) :: r) h nc ns P) : zpE xs N y pc L (.ref a :: r) h nc ns P := by
  refine zpE_step (dc := 0) (ds := 0) h1 ?_ g
  show zalen xs nx L (.ref a :: r) h = _
  unfold zalen
  dsimp only
  rw [ha]
  exact if_pos ht
/-- a call on an object -/
theorem zpE_callM {j n a c9 : Nat} {vs as r : List Value} {P1 : zO → Prop} (e1 : zat (zmc y) pc = some (.invokevirtual j, nx, 0, yy, n, c9)) (hst : ztk (n + 1) [] st = some (.ref a :: as, r)) (m1 : h[a]? = some (c9, vs)) (hr : zcs r ≤ 8) (e3 : zpM xs N yy (.ref a :: as) h nc ns P1)
    (kv : ∀ v h1 nc1 ns1, P1 (.inl v, h1, nc1, ns1) → zpE xs N y nx L (v.toList ++ r) h1 nc1 ns1 P)
    (kx : ∀ E h1 nc1 ns1, P1 (.inr E, h1, nc1, ns1) → (zmh y = [] → P (.inr E, h1, nc1, ns1)) ∧ ∀ pc2 L2, zcatch y pc E L = some (pc2, L2) → zpE xs N y pc2 L2 [] h1 nc1 ns1 P) : zpE xs N y pc L st h nc ns P :=
  zpE_call e1 (show zcallV n c9 yy nx st h = _ from zcallV_eq hst m1 hr) e3 kv kx
/-- a load from a row: that it is in the row comes for nothing -/
theorem zpE_ald {j : Int32} {a : Nat} {l : List Int32} {r : List Value} (h1 : zat (zmc y) pc = some (.iaload, nx, k, yy, m, c)) (ha : h[a]? = some (100, l.map Value.int)) (g : ∀ v, ¬ j < 0 → l[j.toNatClampNeg]? = some v → zpE xs N y nx L (.int v :: r) h nc ns P) : zpE xs N y pc L (.int j :: .ref a :: r) h nc ns P := by
  have en : zstep zcf xs pc .iaload nx k yy m c L (.int j :: .ref a :: r) h = match l[j.toNatClampNeg]? with
      | some v => if j < 0 then none else zgo nx L (.int v :: r) h
      | none => none := by
    show zald 100 nx L (.int j :: .ref a :: r) h = _
    unfold zald
    dsimp only
    rw [ha]
    dsimp only
    rw [if_pos rfl, List.getElem?_map]
    cases l[j.toNatClampNeg]? <;> rfl
  refine zpE_le (Nat.le_succ _) (zpE_st1 h1 (fun pc' L' st' h' dc ds e => ?_) (fun r9 e => ?_))
  · rw [en] at e
    cases hv : l[j.toNatClampNeg]? with
    | none =>
      rw [hv] at e
      cases e
    | some v =>
      rw [hv] at e
      dsimp only at e
      by_cases hj : j < 0
      · rw [if_pos hj] at e
        cases e
      · rw [if_neg hj] at e
        cases e
        exact g v hj hv
  · rw [en] at e
    cases hv : l[j.toNatClampNeg]? with
    | none =>
      rw [hv] at e
      cases e
    | some v =>
      rw [hv] at e
      dsimp only at e
      by_cases hj : j < 0
      · rw [if_pos hj] at e
        cases e
      · rw [if_neg hj] at e
        cases e
end ZPG
/-! The reference's code, word for word. -/
section ZPM
variable {xs : List Int32} {N : Nat} {h : zH} {K R : Int32} {c : List Int32} {nc ns : Nat}
def zMc (h : zH) (K R : Int32) (c : List Int32) : Prop := ∃ (vs : List Value) (q : Nat), h[44]? = some (7, vs) ∧ vs[1]? = some (.int K) ∧ vs[2]? = some (.int R) ∧ vs[3]? = some (.ref q) ∧ h[q]? = some (100, c.map Value.int) ∧ c.length < 2147483648
theorem zcl_of {k : Nat} (hk : k < 2147483648) : (Int32.ofNat k).toNatClampNeg = k := by
  show (Int32.ofNat k).toInt.toNat = k
  rw [zofI hk]
  rfl
theorem r_113 {w : Int32} {k : Nat} : zpM xs N 113 [.int w, .int (Int32.ofNat k)] h nc ns (fun o => o = (.inl (some (.int (if zbt w k then 1 else 0))), h, nc, ns)) := by
  intro L0 e
  cases e
  refine zpE_run 6 rfl ?_
  refine zpE_icmp rfl (fun q => ?_) (fun q => ?_)
  · rw [if_neg (by
      rw [zbt, decide_eq_true_eq]
      exact zF_n1 q)]
    exact zpE_run 1 rfl (zpE_end rfl rfl rfl)
  · rw [if_pos (by
      rw [zbt, decide_eq_true_eq]
      exact zF_n0 q)]
    exact zpE_run 2 rfl (zpE_end rfl rfl rfl)
theorem r_117 (hM : zMc h K R c) : zpM xs N 117 [.ref 44] h nc ns (fun o => o = (.inl (some (.int (K + R))), h, nc, ns)) := by
  obtain ⟨vs, q, m1, m2, m3, m4, m5, m6⟩ := hM
  intro L0 e
  cases e
  refine zpE_run 1 rfl ?_
  refine zpE_get rfl m1 rfl m2 ?_
  refine zpE_run 1 rfl ?_
  refine zpE_get rfl m1 rfl m3 ?_
  exact zpE_run 1 rfl (zpE_end rfl rfl rfl)
abbrev zcm (c : List Int32) : Nat → Int32 := fun k => c.getD k 0
theorem l_118 (hM : zMc h K R c) {w : Int32} : ∀ (N k : Nat), k ≤ c.length → zpE xs N 118 4 [some (.ref 44), some (.int w), some (.int (zsyn (zcm c) w k)), some (.int (Int32.ofNat k))] [] h nc ns (fun o => o = (.inl (some (.int (zsyn (zcm c) w c.length))), h, nc, ns))
  | 0, _, _ => zpE_0
  | N + 1, k, hk => by
    have hM0 := hM
    obtain ⟨vs, q, m1, m2, m3, m4, m5, m6⟩ := hM
    refine zpE_run1 1 rfl ?_
    refine zpE_get rfl m1 rfl m4 ?_
    refine zpE_alen rfl m5 (by decide) ?_
    rw [List.length_map]
    refine zpE_icmp rfl (fun q => ?_) (fun q => ?_)
    · have z := zF_ge_t q
      rw [zofI (by omega), zofI (by omega)] at z
      obtain rfl : k = c.length := by omega
      exact zpE_run 1 rfl (zpE_end rfl rfl rfl)
    · have z := zF_ge_f q
      rw [zofI (by omega), zofI (by omega)] at z
      have G := l_118 hM0 (w := w) N (k + 1) (by omega)
      rw [← zof1] at G
      have ez : zsyn (zcm c) w (k + 1) = if zbt w k then zsyn (zcm c) w k ^^^ zcm c k else zsyn (zcm c) w k := rfl
      refine zpE_run 3 rfl ?_
      refine zpE_call rfl rfl r_113 (fun v h1 nc1 ns1 q8 => ?_) (fun E h1 nc1 ns1 q8 => by cases q8)
      cases q8
      cases hb : zbt w k with
      | true =>
        rw [ez, hb, if_pos rfl] at G
        rw [if_pos rfl]
        refine zpE_if rfl (fun q9 => ?_) (fun _ => ?_)
        · exact absurd (zF_e1 q9) (by decide)
        · refine zpE_run 1 rfl ?_
          refine zpE_get rfl m1 rfl m4 ?_
          refine zpE_run 1 rfl ?_
          refine zpE_ald rfl m5 (fun v n0 hv => ?_)
          rw [zcl_of (by omega)] at hv
          have e9 : zcm c k = v := by
            show c.getD k 0 = v
            rw [List.getD_eq_getElem?_getD, hv]
            rfl
          rw [e9] at G
          exact zpE_run 5 rfl G
      | false =>
        rw [ez, hb] at G
        have e0 : zsyn (zcm c) w k = zsyn (zcm c) w k ^^^ Int32.ofInt 0 := (Int32.xor_zero).symm
        rw [show (if (false : Bool) = true then zsyn (zcm c) w k ^^^ zcm c k else zsyn (zcm c) w k) = zsyn (zcm c) w k from rfl, e0] at G
        refine zpE_if rfl (fun _ => ?_) (fun q9 => ?_)
        · exact zpE_run 5 rfl G
        · exact absurd rfl (zF_e0 q9)
theorem r_118 (hM : zMc h K R c) {w : Int32} : zpM xs N 118 [.ref 44, .int w] h nc ns (fun o => o = (.inl (some (.int (zsyn (zcm c) w c.length))), h, nc, ns)) := by
  intro L0 e
  cases e
  exact zpE_run 4 rfl (l_118 hM N 0 (Nat.zero_le _))
abbrev zsm (c : List Int32) (w : Int32) : Int32 := zsyn (zcm c) w c.length
theorem r_119 (hM : zMc h K R c) {w : Int32} : zpM xs N 119 [.ref 44, .int w] h nc ns (fun o => o = (.inl (some (.int (w ||| zsm c w <<< (K &&& 31)))), h, nc, ns)) := by
  have hM0 := hM
  obtain ⟨vs, q, m1, m2, m3, m4, m5, m6⟩ := hM
  intro L0 e
  cases e
  refine zpE_run 3 rfl ?_
  refine zpE_callM rfl rfl m1 (Nat.le_of_ble_eq_true rfl) (r_118 hM0) (fun v h1 nc1 ns1 q8 => ?_) (fun E h1 nc1 ns1 q8 => by cases q8)
  cases q8
  refine zpE_run 1 rfl ?_
  refine zpE_get rfl m1 rfl m2 ?_
  exact zpE_run 2 rfl (zpE_end rfl rfl rfl)
/-- the place of a number, from k on -/
def zfn : List Int32 → Int32 → Nat → Int32
  | [], _, _ => Int32.ofInt (-1)
  | y :: r, x, k => if y = x then Int32.ofNat k else zfn r x (k + 1)
theorem l_120 (hM : zMc h K R c) {w x : Int32} : ∀ (N k : Nat), k ≤ c.length → zpE xs N 120 8 [some (.ref 44), some (.int w), some (.int x), some (.int (Int32.ofNat k))] [] h nc ns (fun o => o = (.inl (some (.int (zfn (c.drop k) x k))), h, nc, ns))
  | 0, _, _ => zpE_0
  | N + 1, k, hk => by
    have hM0 := hM
    obtain ⟨vs, q, m1, m2, m3, m4, m5, m6⟩ := hM
    refine zpE_run1 1 rfl ?_
    refine zpE_get rfl m1 rfl m4 ?_
    refine zpE_alen rfl m5 (by decide) ?_
    rw [List.length_map]
    refine zpE_icmp rfl (fun q => ?_) (fun q => ?_)
    · have z := zF_ge_t q
      rw [zofI (by omega), zofI (by omega)] at z
      obtain rfl : k = c.length := by omega
      rw [List.drop_length]
      exact zpE_run 1 rfl (zpE_end rfl rfl rfl)
    · have z := zF_ge_f q
      rw [zofI (by omega), zofI (by omega)] at z
      have hk9 : k < c.length := by omega
      have G := l_120 hM0 (w := w) (x := x) N (k + 1) (by omega)
      rw [← zof1] at G
      rw [List.drop_eq_getElem_cons hk9]
      refine zpE_run 1 rfl ?_
      refine zpE_get rfl m1 rfl m4 ?_
      refine zpE_run 1 rfl ?_
      refine zpE_ald rfl m5 (fun v n0 hv => ?_)
      rw [zcl_of (by omega), List.getElem?_eq_getElem hk9] at hv
      cases hv
      refine zpE_run 1 rfl ?_
      show zpE xs N 120 24 _ _ _ _ _ (fun o => o = (.inl (some (.int (if c[k] = x then Int32.ofNat k else zfn (c.drop (k + 1)) x (k + 1)))), h, nc, ns))
      refine zpE_icmp rfl (fun q9 => ?_) (fun q9 => ?_)
      · rw [if_neg (zF_n1 q9)]
        exact zpE_run 2 rfl G
      · rw [if_pos (zF_n0 q9)]
        exact zpE_run 1 rfl (zpE_end rfl rfl rfl)
abbrev zbm9 (c : List Int32) (w : Int32) : Int32 := zfn c (zsm c w) 0
theorem r_120 (hM : zMc h K R c) {w : Int32} : zpM xs N 120 [.ref 44, .int w] h nc ns (fun o => o = (.inl (some (.int (zbm9 c w))), h, nc, ns)) := by
  have hM0 := hM
  obtain ⟨vs, q0, m1, m2, m3, m4, m5, m6⟩ := hM
  intro L0 e
  cases e
  refine zpE_run 2 rfl ?_
  refine zpE_callM rfl rfl m1 (Nat.le_of_ble_eq_true rfl) (r_118 hM0) (fun v h1 nc1 ns1 q8 => ?_) (fun E h1 nc1 ns1 q8 => by cases q8)
  cases q8
  exact zpE_run 3 rfl (l_120 hM0 N 0 (Nat.zero_le _))
/-- 0 clean, 1 mended, 2 bad -/
def zkd (c : List Int32) (w : Int32) : Int32 := if zsm c w = 0 then 0 else if zbm9 c w = Int32.ofInt (-1) then 2 else 1
theorem r_121 (hM : zMc h K R c) {w : Int32} : zpM xs N 121 [.ref 44, .int w] h nc ns (fun o => o = (.inl (some (.int (zkd c w))), h, nc, ns)) := by
  have hM0 := hM
  obtain ⟨vs, q0, m1, m2, m3, m4, m5, m6⟩ := hM
  intro L0 e
  cases e
  refine zpE_run 2 rfl ?_
  refine zpE_callM rfl rfl m1 (Nat.le_of_ble_eq_true rfl) (r_118 hM0) (fun v h1 nc1 ns1 q8 => ?_) (fun E h1 nc1 ns1 q8 => by cases q8)
  cases q8
  unfold zkd
  refine zpE_if rfl (fun q => ?_) (fun q => ?_)
  · rw [if_neg (zF_n1 q)]
    refine zpE_run 2 rfl ?_
    refine zpE_callM rfl rfl m1 (Nat.le_of_ble_eq_true rfl) (r_120 hM0) (fun v h1 nc1 ns1 q8 => ?_) (fun E h1 nc1 ns1 q8 => by cases q8)
    cases q8
    refine zpE_run 1 rfl ?_
    refine zpE_icmp rfl (fun q9 => ?_) (fun q9 => ?_)
    · rw [if_neg (zF_n1 q9)]
      exact zpE_run 1 rfl (zpE_end rfl rfl rfl)
    · rw [if_pos (zF_n0 q9)]
      exact zpE_run 2 rfl (zpE_end rfl rfl rfl)
  · rw [if_pos (zF_n0 q)]
    exact zpE_run 2 rfl (zpE_end rfl rfl rfl)
def zme (c : List Int32) (w : Int32) : Int32 := if zkd c w = Int32.ofInt 1 then w ^^^ Int32.ofInt 1 <<< (zbm9 c w &&& 31) else w
theorem r_122 (hM : zMc h K R c) {w : Int32} : zpM xs N 122 [.ref 44, .int w] h nc ns (fun o => o = (.inl (some (.int (zme c w))), h, nc, ns)) := by
  have hM0 := hM
  obtain ⟨vs, q0, m1, m2, m3, m4, m5, m6⟩ := hM
  intro L0 e
  cases e
  refine zpE_run 2 rfl ?_
  refine zpE_callM rfl rfl m1 (Nat.le_of_ble_eq_true rfl) (r_121 hM0) (fun v h1 nc1 ns1 q8 => ?_) (fun E h1 nc1 ns1 q8 => by cases q8)
  cases q8
  unfold zme
  refine zpE_run 1 rfl ?_
  refine zpE_icmp rfl (fun q => ?_) (fun q => ?_)
  · rw [if_neg (zF_n1 q)]
    exact zpE_run 1 rfl (zpE_end rfl rfl rfl)
  · rw [if_pos (zF_n0 q)]
    refine zpE_run 4 rfl ?_
    refine zpE_callM rfl rfl m1 (Nat.le_of_ble_eq_true rfl) (r_120 hM0) (fun v h1 nc1 ns1 q8 => ?_) (fun E h1 nc1 ns1 q8 => by cases q8)
    cases q8
    exact zpE_run 3 rfl (zpE_end rfl rfl rfl)
abbrev zdo (c : List Int32) (K w : Int32) : Int32 := zme c w &&& (Int32.ofInt 1 <<< (K &&& 31) - Int32.ofInt 1)
theorem r_123 (hM : zMc h K R c) {w : Int32} : zpM xs N 123 [.ref 44, .int w] h nc ns (fun o => o = (.inl (some (.int (zdo c K w))), h, nc, ns)) := by
  have hM0 := hM
  obtain ⟨vs, q, m1, m2, m3, m4, m5, m6⟩ := hM
  intro L0 e
  cases e
  refine zpE_run 2 rfl ?_
  refine zpE_callM rfl rfl m1 (Nat.le_of_ble_eq_true rfl) (r_122 hM0) (fun v h1 nc1 ns1 q8 => ?_) (fun E h1 nc1 ns1 q8 => by cases q8)
  cases q8
  refine zpE_run 2 rfl ?_
  refine zpE_get rfl m1 rfl m2 ?_
  exact zpE_run 4 rfl (zpE_end rfl rfl rfl)
end ZPM
