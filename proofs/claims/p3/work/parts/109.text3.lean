/-! toString. -/
section ZTX
variable {xs : List Int32} {D nc ns a b n : Nat} {h H U : zH} {P : zO → Prop} {ml : Value} {bs : List Value}
theorem zsub0 {x : Int32} : x - Int32.ofInt 0 = x := by
  rw [show Int32.ofInt 0 = 0 from by decide, Int32.sub_zero]
theorem znz16 (hn : n < 16) : (Int32.ofNat n).toInt = (n : Int) := Int32.toInt_ofNat_of_lt (by omega)
set_option maxRecDepth 10000
theorem g_225 (h0 : h[a]? = some (8, [.ref b, .int 0, ml, .int (Int32.ofNat n)])) : zMs xs (D + 0) 225 [.ref a] h nc ns (fun o => o = (.inl (some (.ref b)), h, nc, ns)) := by
  refine ⟨_, rfl, ?_⟩
  refine zEs_run 1 rfl ?_
  refine zEs_get rfl h0 rfl rfl ?_
  exact zEs_end rfl rfl rfl
theorem g_228 (h0 : h[a]? = some (8, [.ref b, .int 0, ml, .int (Int32.ofNat n)])) : zMs xs (D + 0) 228 [.ref a] h nc ns (fun o => o = (.inl (some (.int (Int32.ofNat n))), h, nc, ns)) := by
  refine ⟨_, rfl, ?_⟩
  refine zEs_run 1 rfl ?_
  refine zEs_get rfl h0 rfl rfl ?_
  exact zEs_end rfl rfl rfl
theorem g_246 (h0 : h[a]? = some (8, [.ref b, .int 0, ml, .int (Int32.ofNat n)])) : zMs xs (D + 1) 246 [.ref a] h nc ns (fun o => o = (.inl (some (.int (Int32.ofNat n))), h, nc, ns)) := by
  refine ⟨_, rfl, ?_⟩
  refine zEs_run 1 rfl ?_
  refine zEs_callG rfl (show zcallV 0 8 228 4 [.ref a] h = _ from zcallV_eq rfl h0 (by decide)) (g_228 h0) (fun v h1 nc1 ns1 q => ?_) (fun E h1 nc1 ns1 q => by cases q)
  cases q
  exact zEs_end rfl rfl rfl
theorem g_227 (h0 : h[a]? = some (8, [.ref b, .int 0, ml, .int (Int32.ofNat n)])) : zMs xs (D + 0) 227 [.ref a] h nc ns (fun o => o = (.inl (some (.int 1)), h, nc, ns)) := by
  refine ⟨_, rfl, ?_⟩
  refine zEs_run 1 rfl ?_
  refine zEs_if rfl (fun g => absurd (show (1 : Int32) = 0 from g) (by decide)) (fun _ => ?_)
  refine zEs_run 1 rfl ?_
  refine zEs_get rfl h0 rfl rfl ?_
  refine zEs_if rfl (fun g => absurd rfl (show ¬ (0 : Int32) = 0 from g)) (fun _ => ?_)
  refine zEs_run 2 rfl ?_
  exact zEs_bret rfl (Or.inr rfl) rfl
theorem g_230 (hn : n < 16) : zMs xs (D + 0) 230 [.int (Int32.ofInt 0), .int (Int32.ofNat n)] h nc ns (fun o => o = (.inl none, h, nc, ns)) := by
  refine ⟨_, rfl, ?_⟩
  refine zEs_run 2 rfl ?_
  refine zEs_icmp rfl (fun _ => ?_) (fun g => ?_)
  · exact zEs_end rfl rfl rfl
  · have z := zF_ge_f g
    rw [znz16 hn, show (Int32.ofInt 0).toInt = 0 from by decide] at z
    exfalso
    omega
theorem g_231 (hb0 : h[b]? = some (102, bs)) (hb : bs.length = 16) (hn : n < 16) (hz : (bs.take n).all zbyt = true) : zMs xs (D + 1) 231 [.ref b, .int (Int32.ofInt 0), .int (Int32.ofNat n)] h nc ns (fun o => o = (.inl (some (.ref h.length)), h ++ [(102, bs.take n)], nc + 1, ns + n)) := by
  obtain ⟨q1, q2⟩ := znat16 hn
  have hbl : b < h.length := (List.getElem?_eq_some_iff.mp hb0).1
  refine ⟨_, rfl, ?_⟩
  refine zEs_run 2 rfl ?_
  refine zEs_callG rfl rfl (g_230 hn) (fun v h1 nc1 ns1 q => ?_) (fun E h1 nc1 ns1 q => by cases q)
  cases q
  refine zEs_run 5 rfl ?_
  rw [show (fun x y : Int32 => x - y) (Int32.ofNat n) (Int32.ofInt 0) = Int32.ofNat n from zsub0]
  refine zEs_newa rfl q1 (by rw [q2]; omega) (by decide) ?_
  rw [q2]
  refine zEs_run 6 rfl ?_
  refine zEs_alen rfl (show (h ++ [(102, List.replicate n (Value.int 0))])[b]? = some (102, bs) from by rw [List.getElem?_append_left hbl]; exact hb0) (by decide) ?_
  rw [hb]
  refine zEs_run 4 rfl ?_
  have e : (if Int32.ofNat n < (fun x y : Int32 => x - y) (Int32.ofNat 16) (Int32.ofInt 0) then Int32.ofNat n else (fun x y : Int32 => x - y) (Int32.ofNat 16) (Int32.ofInt 0)) = Int32.ofNat n := by
    rw [show (fun x y : Int32 => x - y) (Int32.ofNat 16) (Int32.ofInt 0) = Int32.ofNat 16 from zsub0]
    rw [if_pos]
    rw [Int32.lt_iff_toInt_lt, znz16 hn, show (Int32.ofNat 16).toInt = 16 from by decide]
    omega
  rw [show (fun x y : Int32 => if y < x then y else x) ((fun x y : Int32 => x - y) (Int32.ofNat 16) (Int32.ofInt 0)) (Int32.ofNat n) = Int32.ofNat n from e]
  refine zEs_copyb rfl (show (h ++ [(102, List.replicate n (Value.int 0))])[b]? = some (102, bs) from by rw [List.getElem?_append_left hbl]; exact hb0) (show (h ++ [(102, List.replicate n (Value.int 0))])[h.length]? = some (102, List.replicate n (Value.int 0)) from by rw [List.getElem?_append_right (Nat.le_refl _), Nat.sub_self]; rfl) (by rw [q2]; exact hz) (by decide) q1 (by rw [q2]; omega) (by rw [q2]; simp) ?_
  rw [q2, show List.drop n (List.replicate n (Value.int 0)) = [] from by simp, List.append_nil (List.take n bs), show (h ++ [(ztag ArrayType.byte, List.replicate n (Value.int 0))]).set h.length (102, bs.take n) = h ++ [(102, bs.take n)] from by rw [List.set_append_right _ _ (Nat.le_refl _), Nat.sub_self]; rfl]
  refine zEs_run 1 rfl ?_
  exact zEs_end rfl rfl rfl
theorem g_232 (hb0 : h[b]? = some (102, bs)) (hb : bs.length = 16) (hn : n < 16) (hz : (bs.take n).all zbyt = true) : zMs xs (D + 2) 232 [.ref b, .int (Int32.ofInt 0), .int (Int32.ofNat n)] h nc ns (fun o => o = (.inl (some (.ref h.length)), h ++ [(102, bs.take n)], nc + 1, ns + n)) := by
  refine ⟨_, rfl, ?_⟩
  refine zEs_run 1 rfl ?_
  refine zEs_if rfl (fun g => absurd (show Int32.ofInt 0 = 0 from by decide) (show ¬ Int32.ofInt 0 = 0 from g)) (fun _ => ?_)
  refine zEs_run 2 rfl ?_
  refine zEs_alen rfl hb0 (by decide) ?_
  rw [hb]
  refine zEs_icmp rfl (fun g => ?_) (fun _ => ?_)
  · have z := zF_eq_t g
    rw [znz16 hn, show (Int32.ofNat 16).toInt = 16 from by decide] at z
    exfalso
    omega
  · refine zEs_run 3 rfl ?_
    refine zEs_callG rfl rfl (g_231 hb0 hb hn hz) (fun v h1 nc1 ns1 q => ?_) (fun E h1 nc1 ns1 q => by cases q)
    cases q
    exact zEs_end rfl rfl rfl
/-- toString of the builder at the end of the heap: two cells more -/
theorem m_222 (hb : bs.length = 16) (hn : n < 16) (hz : (bs.take n).all zbyt = true) : zMs xs (D + 5) 222 [.ref H.length] (zsb H n ml bs) nc ns (fun o => ∃ U, o = (.inl (some (.ref (H.length + 2))), H ++ U, nc + 2, ns + (4 + n))) := by
  have h0 : (H ++ [((8 : Nat), [Value.ref (H.length + 1), Value.int 0, ml, Value.int (Int32.ofNat n)]), (102, bs), (9, [Value.null, Value.int 0, Value.int 0, Value.int 0])])[H.length]? = some (8, [Value.ref (H.length + 1), Value.int 0, ml, Value.int (Int32.ofNat n)]) := zqj (j := 0)
  have h1 : (H ++ [((8 : Nat), [Value.ref (H.length + 1), Value.int 0, ml, Value.int (Int32.ofNat n)]), (102, bs), (9, [Value.null, Value.int 0, Value.int 0, Value.int 0])])[H.length + 1]? = some (102, bs) := zqj (j := 1)
  have h2 : (H ++ [((8 : Nat), [Value.ref (H.length + 1), Value.int 0, ml, Value.int (Int32.ofNat n)]), (102, bs), (9, [Value.null, Value.int 0, Value.int 0, Value.int 0])])[H.length + 2]? = some (9, [Value.null, Value.int 0, Value.int 0, Value.int 0]) := zqj (j := 2)
  generalize hG : H ++ [((8 : Nat), [Value.ref (H.length + 1), Value.int 0, ml, Value.int (Int32.ofNat n)]), (102, bs), (9, [Value.null, Value.int 0, Value.int 0, Value.int 0])] = G at h0 h1 h2
  have hGl : G.length = H.length + 3 := by rw [← hG]; simp
  have key216 : ∀ nc ns : Nat, zMs xs (D + 3) 216 [.ref (H.length + 2), .ref H.length, .null] G nc ns (fun o => o = (.inl none, (G ++ [(102, bs.take n)]).set (H.length + 2) (9, [.ref (H.length + 3), .int 0, .int 0, .int 0]), nc + 1, ns + n)) := by
    intro nc ns
    refine ⟨_, rfl, ?_⟩
    refine zEs_run 3 rfl ?_
    refine zEs_callG rfl (show zcallV 0 8 225 8 [.ref H.length] G = _ from zcallV_eq rfl h0 (by decide)) (g_225 h0) (fun v h9 nc1 ns1 q => ?_) (fun E h9 nc1 ns1 q => by cases q)
    cases q
    refine zEs_run 2 rfl ?_
    refine zEs_callG rfl (show zcallV 0 8 246 13 [.ref H.length] G = _ from zcallV_eq rfl h0 (by decide)) (g_246 h0) (fun v h9 nc1 ns1 q => ?_) (fun E h9 nc1 ns1 q => by cases q)
    cases q
    refine zEs_run 2 rfl ?_
    refine zEs_callG rfl (show zcallV 0 8 227 19 [.ref H.length] G = _ from zcallV_eq rfl h0 (by decide)) (g_227 h0) (fun v h9 nc1 ns1 q => ?_) (fun E h9 nc1 ns1 q => by cases q)
    cases q
    refine zEs_if rfl (fun g => absurd (show (1 : Int32) = 0 from g) (by decide)) (fun _ => ?_)
    refine zEs_run 2 rfl ?_
    refine zEs_put rfl h2 rfl rfl (by show 1 < 4; omega) ?_
    rw [show G.set (H.length + 2) (9, [Value.null, Value.int 0, Value.int 0, Value.int 0].set 1 (Value.int (Int32.ofInt 0))) = G from zset_id h2]
    refine zEs_run 4 rfl ?_
    refine zEs_callG rfl rfl (g_232 h1 hb hn hz) (fun v h9 nc1 ns1 q => ?_) (fun E h9 nc1 ns1 q => by cases q)
    cases q
    refine zEs_put rfl (show (G ++ [(102, bs.take n)])[H.length + 2]? = some (9, [Value.null, Value.int 0, Value.int 0, Value.int 0]) from by rw [List.getElem?_append_left (by omega)]; exact h2) rfl rfl (by show 0 < 4; omega) ?_
    refine zEs_run 1 rfl ?_
    refine zEs_end rfl rfl ?_
    rw [hGl]
    rfl
  refine ⟨_, rfl, ?_⟩
  refine zEs_run 3 rfl ?_
  rw [show zsb H n ml bs ++ [(9, (zcf 9).map (fun q => zdf q.2))] = G from by rw [← hG]; unfold zsb; rw [List.append_assoc]; rfl, show (zsb H n ml bs).length = H.length + 2 from by unfold zsb; simp]
  have key215 : ∀ nc ns : Nat, zMs xs (D + 4) 215 [.ref (H.length + 2), .ref H.length] G nc ns (fun o => o = (.inl none, (G ++ [(102, bs.take n)]).set (H.length + 2) (9, [.ref (H.length + 3), .int 0, .int 0, .int 0]), nc + 1, ns + n)) := by
    intro nc ns
    refine ⟨_, rfl, ?_⟩
    refine zEs_run 3 rfl ?_
    refine zEs_callG rfl rfl (key216 _ _) (fun v h9 nc1 ns1 q => ?_) (fun E h9 nc1 ns1 q => by cases q)
    cases q
    exact zEs_end rfl rfl rfl
  refine zEs_callG rfl rfl (key215 _ _) (fun v h9 nc1 ns1 q => ?_) (fun E h9 nc1 ns1 q => by cases q)
  cases q
  obtain ⟨U, hU⟩ : ∃ U : zH, (G ++ [(102, bs.take n)]).set (H.length + 2) (9, [.ref (H.length + 3), .int 0, .int 0, .int 0]) = H ++ U := ⟨([((8 : Nat), [Value.ref (H.length + 1), Value.int 0, ml, Value.int (Int32.ofNat n)]), (102, bs), (9, [Value.null, Value.int 0, Value.int 0, Value.int 0])] ++ [(102, bs.take n)]).set 2 (9, [.ref (H.length + 3), .int 0, .int 0, .int 0]), by rw [← hG, List.append_assoc, zsj]⟩
  have en : ∀ a b c d : Nat, a = b → c = d → ((.inl (some (.ref (H.length + 2))), H ++ U, a, c) : zO) = (.inl (some (.ref (H.length + 2))), H ++ U, b, d) := by
    intro a b c d e1 e2
    rw [e1, e2]
  have e4 : (zcf 9).length = 4 := rfl
  refine zEs_end rfl rfl ⟨U, ?_⟩
  rw [hU]
  exact en _ _ _ _ (by omega) (by omega)
end ZTX
