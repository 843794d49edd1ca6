/-! The reference's columns, made by a method without an object. -/
section ZHJ
variable {xs : List Int32} {h : zH} {D nc ns y pc nx k yy m c : Nat} {L : zL} {r st : List Value} {P : zO → Prop}
theorem m_114 {x : Int32} : zMs xs (D + 0) 114 [.int x] h nc ns (fun o => ∃ v : Int32, o = (.inl (some (.int v)), h, nc, ns)) :=
  ⟨_, rfl, zEs_run 4 rfl (l_114 _ _ _ _ (Nat.lt_succ_self _))⟩
theorem zEs_newi {n : Int32} (h1 : zat (zmc y) pc = some (.newarray .int, nx, k, yy, m, c)) (hn : 0 ≤ n.toInt) (hN : n.toInt ≤ 1000) (g : zEs xs D y nx L (.ref h.length :: r) (h ++ [zar (List.replicate n.toInt.toNat 0)]) (nc + 1) (ns + n.toInt.toNat) P) : zEs xs D y pc L (.int n :: r) h nc ns P := by
  refine zEs_step (dc := 1) (ds := n.toInt.toNat) h1 ?_ g
  show znewa 100 (.int 0) nx L (.int n :: r) h = _
  unfold znewa
  dsimp only
  rw [if_neg (fun z => by
    have z := zlt_z z
    rw [zero_z] at z
    omega), if_pos (show n.toNatClampNeg ≤ 100000 from (show n.toInt.toNat ≤ 100000 by omega)), if_neg (by decide), show n.toNatClampNeg = n.toInt.toNat from rfl]
  unfold zar
  rw [List.map_replicate]
variable {K R : Int32} {N : Nat}
theorem l_116a {w : Int32} (hN : (N : Int) = K.toInt + R.toInt) (hR : 0 ≤ R.toInt) : ∀ (n : Nat) (i mm : Int32) (l : List Int32), l.length = N → 0 ≤ mm.toInt → mm.toInt ≤ K.toInt → (((Int32.ofInt 1) <<< (R &&& 31)).toInt - i.toInt).toNat < n → (∀ (l' : List Int32) (m' i' : Int32), l'.length = N → 0 ≤ m'.toInt → m'.toInt ≤ K.toInt → zEs xs 2 116 57 [some (.int K), some (.int R), some (.ref h.length), some (.int m'), some (.int w), some (.int i')] [] (h ++ [zar l']) nc ns P) → zEs xs 2 116 20 [some (.int K), some (.int R), some (.ref h.length), some (.int mm), some (.int w), some (.int i)] [] (h ++ [zar l]) nc ns P
  | 0, _, _, _, _, _, _, hn, _ => absurd hn (Nat.not_lt_zero _)
  | n + 1, i, mm, l, hl, m0, m1, hn, Z => by
    refine zEs_run 4 rfl ?_
    refine zEs_icmp rfl (fun _ => Z l mm i hl m0 m1) (fun gg => ?_)
    have z := zF_ge_f gg
    have z : i.toInt < ((Int32.ofInt 1) <<< (R &&& 31)).toInt := z
    have hb := Int32.toInt_lt ((Int32.ofInt 1) <<< (R &&& 31))
    have hi := zinc_z (x := i) (y := (Int32.ofInt 1) <<< (R &&& 31)) (Int32.lt_iff_toInt_lt.mpr z)
    refine zEs_run 2 rfl ?_
    refine zEs_icmp rfl (fun _ => Z l mm i hl m0 m1) (fun gg => ?_)
    have z2 := zF_ge_f gg
    have e := zinc_z (x := mm) (y := K) (Int32.lt_iff_toInt_lt.mpr z2)
    refine zEs_run 1 rfl ?_
    refine zEs_callG rfl rfl (m_114 (D := 1)) (fun v h9 nc9 ns9 q => ?_) (fun E h9 nc9 ns9 q => by obtain ⟨_, q⟩ := q; cases q)
    obtain ⟨v9, q⟩ := q
    cases q
    refine zEs_run 1 rfl ?_
    refine zEs_icmp rfl (fun _ => ?_) (fun _ => ?_)
    · refine zEs_run 2 rfl ?_
      exact l_116a hN hR n _ mm l hl m0 m1 (by omega) Z
    · refine zEs_run 4 rfl ?_
      refine zEs_astL (N := N) rfl hl (fun z => by
        have z := zlt_z z
        rw [zero_z] at z
        omega) (by show mm.toInt.toNat < N; omega) (fun l' hl' => ?_)
      refine zEs_run 2 rfl ?_
      exact l_116a hN hR n _ _ l' hl' (by omega) (by omega) (by omega) Z
theorem l_116b (hN : (N : Int) = K.toInt + R.toInt) (hR : 0 ≤ R.toInt) (hR2 : R.toInt ≤ 6) : ∀ (n : Nat) (w mm : Int32) (o : Option Value) (l : List Int32), l.length = N → 0 ≤ mm.toInt → mm.toInt ≤ K.toInt → 0 ≤ w.toInt → w.toInt ≤ 10 → (R.toInt + 1 - w.toInt).toNat < n → (∀ (l' : List Int32) (m' w' : Int32) (o : Option Value), l'.length = N → zEs xs 2 116 63 [some (.int K), some (.int R), some (.ref h.length), some (.int m'), some (.int w'), o] [] (h ++ [zar l']) nc ns P) → zEs xs 2 116 11 [some (.int K), some (.int R), some (.ref h.length), some (.int mm), some (.int w), o] [] (h ++ [zar l]) nc ns P
  | 0, _, _, _, _, _, _, _, _, _, hn, _ => absurd hn (Nat.not_lt_zero _)
  | n + 1, w, mm, o, l, hl, m0, m1, w0, w1, hn, Z => by
    refine zEs_run 2 rfl ?_
    refine zEs_icmp rfl (fun _ => Z l mm w o hl) (fun gg => ?_)
    have z := zF_gt_f gg
    refine zEs_run 2 rfl ?_
    refine l_116a hN hR _ _ mm l hl m0 m1 (Nat.lt_succ_self _) (fun l' m' i' hl' m0' m1' => ?_)
    have e := zinc_le (x := w) (n := 2) (by omega) (by decide) (by decide)
    refine zEs_run 2 rfl ?_
    exact l_116b hN hR hR2 n _ m' _ l' hl' m0' m1' (by omega) (by omega) (by omega) Z
theorem l_116c {mm : Int32} {o : Option Value} (hN : (N : Int) = K.toInt + R.toInt) (hK : 0 ≤ K.toInt) (hK2 : K.toInt ≤ 10) (hR : 0 ≤ R.toInt) (hR2 : R.toInt ≤ 6) (Z : ∀ l' : List Int32, l'.length = N → P (.inl (some (.ref h.length)), h ++ [zar l'], nc, ns)) : ∀ (n : Nat) (i : Int32) (l : List Int32), l.length = N → 0 ≤ i.toInt → (R.toInt - i.toInt).toNat < n → zEs xs 2 116 66 [some (.int K), some (.int R), some (.ref h.length), some (.int mm), some (.int i), o] [] (h ++ [zar l]) nc ns P
  | 0, _, _, _, _, hn => absurd hn (Nat.not_lt_zero _)
  | n + 1, i, l, hl, i0, hn => by
    refine zEs_run 2 rfl ?_
    refine zEs_icmp rfl (fun _ => ?_) (fun gg => ?_)
    · refine zEs_run 1 rfl ?_
      exact zEs_end rfl rfl (Z l hl)
    · have z := zF_ge_f gg
      have e := Int32.toInt_add K i
      rw [zbm (by omega) (by omega)] at e
      have hi := zinc_le (x := i) (n := 1) (by omega) (by decide) (by decide)
      refine zEs_run 7 rfl ?_
      refine zEs_astL (N := N) rfl hl (fun z => by
        have z := zlt_z z
        have z : (K + i).toInt < _ := z
        rw [zero_z] at z
        omega) (by show (K + i).toInt.toNat < N; omega) (fun l' hl' => ?_)
      refine zEs_run 2 rfl ?_
      exact l_116c hN hK hK2 hR hR2 Z n _ l' hl' (by omega) (by omega)
theorem m_116 (hK : 0 ≤ K.toInt) (hK2 : K.toInt ≤ 10) (hR : 0 ≤ R.toInt) (hR2 : R.toInt ≤ 6) : zMs xs 2 116 [.int K, .int R] h nc ns (fun o => ∃ l : List Int32, (l.length : Int) = K.toInt + R.toInt ∧ o = (.inl (some (.ref h.length)), h ++ [zar l], nc + 1, ns + (K.toInt + R.toInt).toNat)) := by
  have e := Int32.toInt_add K R
  rw [zbm (by omega) (by omega)] at e
  refine ⟨_, rfl, zEs_run 3 rfl ?_⟩
  refine zEs_newi rfl (show 0 ≤ (K + R).toInt by omega) (show (K + R).toInt ≤ 1000 by omega) ?_
  have hN : (((K + R).toInt.toNat : Nat) : Int) = K.toInt + R.toInt := by omega
  refine zEs_run 5 rfl ?_
  refine l_116b (N := (K + R).toInt.toNat) hN hR hR2 _ _ _ _ _ (by simp) (by decide) (show (0 : Int) ≤ K.toInt from hK) (by decide) (by decide) (Nat.lt_succ_self _) (fun l' m' w' o hl' => ?_)
  refine zEs_run 2 rfl ?_
  refine l_116c hN hK hK2 hR hR2 (fun l2 hl2 => ?_) _ _ l' hl' (by decide) (Nat.lt_succ_self _)
  exact ⟨l2, by rw [hl2]; exact hN, by
    rw [← e]
    rfl⟩
end ZHJ
