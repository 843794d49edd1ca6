section ZPI
variable {xs : List Int32} {N y pc nx k yy m c : Nat} {L : zL} {h : zH} {nc ns : Nat} {P : zO → Prop}
theorem zpE_ast {j v : Int32} {a : Nat} {l : List Int32} {r : List Value} (h1 : zat (zmc y) pc = some (.iastore, nx, k, yy, m, c)) (ha : h[a]? = some (100, l.map Value.int)) (hj : ¬ j < 0) (hl : j.toNatClampNeg < l.length) (g : zpE xs N y nx L r (h.set a (100, (l.set j.toNatClampNeg v).map Value.int)) nc ns P) : zpE xs N y pc L (.int v :: .int j :: .ref a :: r) h nc ns P := by
  refine zpE_step (dc := 0) (ds := 0) h1 ?_ g
  show zast 100 some nx L (.int v :: .int j :: .ref a :: r) h = _
  unfold zast
  dsimp only
  rw [ha]
  dsimp only
  rw [if_pos rfl, if_neg hj, if_pos (by rw [List.length_map]; exact hl), List.map_set]
  rfl
end ZPI
section ZPJ
variable {xs : List Int32} {N : Nat} {s : Nat → Int32} {a : Nat → List Int32} {T : zH} {nc ns : Nat} {P : zO → Prop}
theorem zup2 {α : Type} {f : Nat → α} {k : Nat} {u v : α} : zup (zup f k u) k v = zup f k v := by
  funext j
  show (if j = k then v else if j = k then u else f j) = if j = k then v else f j
  split <;> rfl
theorem zrepd {l : List Int32} {v : Int32} {i : Nat} (hi : i < l.length) : (List.replicate i v ++ l.drop i).set i v = List.replicate (i + 1) v ++ l.drop (i + 1) := by
  rw [List.set_append_right _ _ (by rw [List.length_replicate]; exact Nat.le_refl _), List.length_replicate, Nat.sub_self, List.drop_eq_getElem_cons hi, List.set_cons_zero, List.replicate_succ', List.append_assoc]
  rfl
theorem l_27p (kk q r0 : Nat) {v : Int32} (hr : ∀ a, (zx s a T)[r0]? = some (2, [.ref q])) (hq : ∀ a, (zx s a T)[q]? = some (zar (a kk))) (hs : ∀ a l, (zx s a T).set q (zar l) = zx s (zup a kk l) T) (hl : (a kk).length < 2147483648) : ∀ (N i : Nat), i ≤ (a kk).length →
    zpE xs N 27 2 [some (.ref r0), some (.int v), some (.int (Int32.ofNat i))] [] (zx s (zup a kk (List.replicate i v ++ (a kk).drop i)) T) nc ns (fun o => o = (.inl none, zx s (zup a kk (List.replicate (a kk).length v)) T, nc, ns))
  | 0, _, _ => zpE_0
  | N + 1, i, hi => by
    have el : (List.replicate i v ++ (a kk).drop i).length = (a kk).length := by
      rw [List.length_append, List.length_replicate, List.length_drop]
      omega
    have e9 : zup a kk (List.replicate i v ++ (a kk).drop i) kk = List.replicate i v ++ (a kk).drop i := if_pos rfl
    have q9 := hq (zup a kk (List.replicate i v ++ (a kk).drop i))
    rw [e9] at q9
    refine zpE_run1 1 rfl ?_
    refine zpE_get rfl (hr _) rfl rfl ?_
    refine zpE_alen rfl q9 (by decide) ?_
    rw [List.length_map, el]
    refine zpE_icmp rfl (fun q1 => ?_) (fun q1 => ?_)
    · have z := zF_ge_t q1
      rw [zofI (by omega), zofI (by omega)] at z
      obtain rfl : i = (a kk).length := by omega
      refine zpE_end rfl rfl ?_
      rw [List.drop_length, List.append_nil]
      rfl
    · have z := zF_ge_f q1
      rw [zofI (by omega), zofI (by omega)] at z
      have G := l_27p kk q r0 (v := v) hr hq hs hl N (i + 1) (by omega)
      rw [← zof1, ← zrepd (by omega)] at G
      refine zpE_run 1 rfl ?_
      refine zpE_get rfl (hr _) rfl rfl ?_
      refine zpE_run 2 rfl ?_
      refine zpE_ast rfl q9 (fun z9 => by
        have z9 := zlt_z z9
        rw [zofI (by omega), zero_z] at z9
        omega) (by rw [zcl_of (by omega), el]; omega) ?_
      rw [zcl_of (by omega)]
      have es := hs (zup a kk (List.replicate i v ++ (a kk).drop i)) ((List.replicate i v ++ (a kk).drop i).set i v)
      rw [zup2] at es
      rw [show (100, List.map Value.int ((List.replicate i v ++ (a kk).drop i).set i v)) = zar ((List.replicate i v ++ (a kk).drop i).set i v) from rfl, es]
      exact zpE_run 2 rfl G
theorem p_27 (kk q r0 : Nat) {v : Int32} (hr : ∀ a, (zx s a T)[r0]? = some (2, [.ref q])) (hq : ∀ a, (zx s a T)[q]? = some (zar (a kk))) (hs : ∀ a l, (zx s a T).set q (zar l) = zx s (zup a kk l) T) (hl : (a kk).length < 2147483648) : zpM xs N 27 [.ref r0, .int v] (zx s a T) nc ns (fun o => o = (.inl none, zx s (zup a kk (List.replicate (a kk).length v)) T, nc, ns)) := by
  intro L0 e
  cases e
  have G := l_27p (xs := xs) (T := T) (nc := nc) (ns := ns) kk q r0 (v := v) hr hq hs hl N 0 (Nat.zero_le _)
  rw [List.drop_zero, List.replicate_zero, List.nil_append] at G
  rw [show zup a kk (a kk) = a by
    funext j
    show (if j = kk then a kk else a j) = a j
    split
    · next e => rw [e]
    · rfl] at G
  exact zpE_run 2 rfl G
/-- the turns by syndrome, of the first columns -/
def zts (c : List Int32) : Nat → List Int32
  | 0 => zst (List.replicate 64 (Int32.ofInt (-1))) (Int32.ofInt 0) (Int32.ofInt 0)
  | n + 1 => zst (zts c n) (c.getD n 0) (Int32.ofInt 1 <<< (Int32.ofNat n &&& 31))
def zck (n : Nat) : List Int32 := (List.range n).map (fun i => Int32.ofInt 1 <<< (Int32.ofNat i &&& 31))
/-- all columns -/
def zcol (k r : Nat) : List Int32 := zdl k r ++ zck r
theorem zck_len (n : Nat) : (zck n).length = n := by
  unfold zck
  rw [List.length_map, List.length_range]
theorem zck_s (n : Nat) : zck (n + 1) = zck n ++ [Int32.ofInt 1 <<< (Int32.ofNat n &&& 31)] := by
  unfold zck
  rw [List.range_succ, List.map_append]
  rfl
theorem zts_len (c : List Int32) : ∀ n, (zts c n).length = 64
  | 0 => by
    show (zst _ _ _).length = 64
    rw [zst_len, List.length_replicate]
  | n + 1 => by
    show (zst _ _ _).length = 64
    rw [zst_len]
    exact zts_len c n
end ZPJ
