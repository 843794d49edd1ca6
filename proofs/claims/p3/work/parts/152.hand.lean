/-! The reference's methods, by hand: tell. -/
def ce_tel : List zCe := [(0, [(.inl 17)], (0, 0), [(.inr (.inr (.inl (44, 44)))), zIA, zIA, (.inr (.inr (.inr 0))), (.inr (.inr (.inr 0))), (.inr (.inr (.inr 0))), (.inr (.inr (.inr 0)))], []),
  (1, [(.inl 16)], (0, 0), [(.inr (.inr (.inl (44, 44)))), zIA, zIA, (.inr (.inr (.inr 0))), (.inr (.inr (.inr 0))), (.inr (.inr (.inr 0))), (.inr (.inr (.inr 0)))], [(.inr (.inr (.inl (44, 44))))]),
  (2, [(.inl 15)], (0, 0), [(.inr (.inr (.inl (44, 44)))), zIA, zIA, (.inr (.inr (.inr 0))), (.inr (.inr (.inr 0))), (.inr (.inr (.inr 0))), (.inr (.inr (.inr 0)))], [(.inl (0, 0, 0, 0)), (.inr (.inr (.inl (44, 44))))]),
  (5, [(.inl 14)], (0, 0), [(.inr (.inr (.inl (44, 44)))), zIA, zIA, (.inr (.inr (.inr 0))), (.inr (.inr (.inr 0))), (.inr (.inr (.inr 0))), (.inr (.inr (.inr 0)))], []),
  (6, [(.inl 13)], (0, 0), [(.inr (.inr (.inl (44, 44)))), zIA, zIA, (.inr (.inr (.inr 0))), (.inr (.inr (.inr 0))), (.inr (.inr (.inr 0))), (.inr (.inr (.inr 0)))], [(.inl ((-2147483648), 2147483647, 0, 2))]),
  (7, [(.inl 12)], (0, 0), [(.inr (.inr (.inl (44, 44)))), zIA, zIA, (.inr (.inr (.inr 0))), (.inr (.inr (.inr 0))), (.inr (.inr (.inr 0))), (.inr (.inr (.inr 0)))], [(.inl (0, 0, 0, 0)), (.inl ((-2147483648), 2147483647, 0, 2))]),
  (8, [(.inl 11)], (0, 0), [(.inr (.inr (.inl (44, 44)))), zIA, zIA, (.inr (.inr (.inr 0))), (.inr (.inr (.inr 0))), (.inr (.inr (.inr 0))), (.inr (.inr (.inr 0)))], [(.inl (1, 1, 0, 0)), (.inl (0, 0, 0, 0)), (.inl ((-2147483648), 2147483647, 0, 2))]),
  (11, [(.inl 10)], (0, 0), [(.inr (.inr (.inl (44, 44)))), zIA, zIA, (.inr (.inr (.inr 0))), (.inr (.inr (.inr 0))), (.inr (.inr (.inr 0))), (.inr (.inr (.inr 0)))], [(.inr (.inl (1, 0, 1, 0)))]),
  (14, [(.inl 9)], (0, 0), [(.inr (.inr (.inl (44, 44)))), (.inl (0, 1, 0, 0)), zIA, (.inr (.inr (.inr 0))), (.inr (.inr (.inr 0))), (.inr (.inr (.inr 0))), (.inr (.inr (.inr 0)))], []),
  (15, [(.inl 8)], (0, 0), [(.inr (.inr (.inl (44, 44)))), (.inl (0, 1, 0, 0)), zIA, (.inr (.inr (.inr 0))), (.inr (.inr (.inr 0))), (.inr (.inr (.inr 0))), (.inr (.inr (.inr 0)))], [(.inl ((-2147483648), 2147483647, 0, 3))]),
  (16, [(.inl 7)], (0, 0), [(.inr (.inr (.inl (44, 44)))), (.inl (0, 1, 0, 0)), zIA, (.inr (.inr (.inr 0))), (.inr (.inr (.inr 0))), (.inr (.inr (.inr 0))), (.inr (.inr (.inr 0)))], [(.inl (0, 0, 0, 0)), (.inl ((-2147483648), 2147483647, 0, 3))]),
  (18, [(.inl 6)], (0, 0), [(.inr (.inr (.inl (44, 44)))), (.inl (0, 1, 0, 0)), zIA, (.inr (.inr (.inr 0))), (.inr (.inr (.inr 0))), (.inr (.inr (.inr 0))), (.inr (.inr (.inr 0)))], [(.inl (7, 7, 0, 0)), (.inl (0, 0, 0, 0)), (.inl ((-2147483648), 2147483647, 0, 3))]),
  (21, [(.inl 5)], (0, 0), [(.inr (.inr (.inl (44, 44)))), (.inl (0, 1, 0, 0)), zIA, (.inr (.inr (.inr 0))), (.inr (.inr (.inr 0))), (.inr (.inr (.inr 0))), (.inr (.inr (.inr 0)))], [(.inr (.inl (2, 0, 7, 0)))]),
  (24, [(.inl 3)], (0, 0), [(.inr (.inr (.inl (44, 44)))), zIA, zIA, (.inr (.inr (.inr 0))), (.inr (.inr (.inr 0))), (.inr (.inr (.inr 0))), (.inr (.inr (.inr 0)))], []),
  (25, [(.inl 2)], (0, 0), [(.inr (.inr (.inl (44, 44)))), zIA, zIA, (.inr (.inr (.inr 0))), (.inr (.inr (.inr 0))), (.inr (.inr (.inr 0))), (.inr (.inr (.inr 0)))], [(.inr (.inr (.inl (44, 44))))]),
  (26, [(.inl 1)], (0, 0), [(.inr (.inr (.inl (44, 44)))), zIA, zIA, (.inr (.inr (.inr 0))), (.inr (.inr (.inr 0))), (.inr (.inr (.inr 0))), (.inr (.inr (.inr 0)))], [(.inl (1, 1, 0, 0)), (.inr (.inr (.inl (44, 44))))]),
  (29, [(.inl 0)], (0, 0), [(.inr (.inr (.inl (44, 44)))), zIA, zIA, (.inr (.inr (.inr 0))), (.inr (.inr (.inr 0))), (.inr (.inr (.inr 0))), (.inr (.inr (.inr 0)))], []),
  (32, [(.inl 4)], (0, 0), [(.inr (.inr (.inl (44, 44)))), (.inl (0, 1, 0, 0)), (.inl (0, 7, 0, 0)), (.inr (.inr (.inr 0))), (.inr (.inr (.inr 0))), (.inr (.inr (.inr 0))), (.inr (.inr (.inr 0)))], [])]
def cs_tel : List zCt := []
theorem gs_tel {xs : List Int32} : ∀ ct ∈ cs_tel, zGd xs ct := fun _ h => absurd h List.not_mem_nil
section ZHN
variable {xs : List Int32} {g : zG} {lg : Nat} {h : zH} {D nc ns y pc nx k yy m c nx' : Nat} {L : zL} {r st as : List Value} {P : zO → Prop} {i : Instr}
/-- a call of a method that changes nothing -/
theorem zEs_ctp {ct : zCt} (hct : zGp xs ct) (e1 : zat (zmc y) pc = some (i, nx, k, yy, m, c)) (e2 : zstep zcf xs pc i nx k yy m c L st h = some (.inr (.inl (ct.y, as, r, nx')))) (hd : ct.dep ≤ D) (hI : zHI g lg h) (hS : zgs g lg h [] ct.as as) (kv : ∀ v, zgo2 g lg h (as.map some) ct.rt v → zEs xs (D + 1) y nx' L (v.toList ++ r) h nc ns P) : zEs xs (D + 1) y pc L st h nc ns P := by
  refine zEs_callG e1 e2 (zMs_mono hd (hct g lg h nc ns as hI hS)) (fun v h1 nc1 ns1 w => ?_) (fun E h1 nc1 ns1 w => ?_)
  · obtain ⟨v', e, b1⟩ := w
    cases e
    exact kv _ b1
  · obtain ⟨v', e, -⟩ := w
    cases e
/-- tell, as the law sees it: a reference -/
def zPtl (g : zG) (h0 : zH) (nc ns : Nat) (dc ds : Nat) (F : Value × Value × Value × Value) : zO → Prop := fun o => ∃ v g' lg' h' nc' ns', o = (.inl v, h', nc', ns') ∧ (v = some (.retAddr 3) ∨ ∃ q, v = some (.ref q)) ∧ zHI g' lg' h' ∧ zLE h0 h' ∧ g'.s = g.s ∧ g'.a = g.a ∧ zfw g' = F ∧ nc' ≤ nc + dc ∧ ns' ≤ ns + ds
theorem l_175 {b rw : Int32} (hI : zHI g lg h) (b0 : 0 ≤ b.toInt) (b1 : b.toInt ≤ 1) (r0 : 0 ≤ rw.toInt) (r1 : rw.toInt ≤ 7) {nc0 ns0 : Nat} (hn : nc ≤ nc0 + 90) (hs : ns ≤ ns0 + 4200) : ∀ (n j : Nat) (o5 o6 : Option Value) (bs : List Value), j ≤ 8 → bs.length = 16 → (∀ x ∈ bs, zbyt x = true) → 8 - j < n → zEs xs 20 175 43 [some (.ref 44), some (.int b), some (.int rw), some (.ref h.length), some (.int (Int32.ofNat j)), o5, o6] [] (zsb h j (.int 0) bs) nc ns (zPtl g h nc0 ns0 100 4300 (zfw g))
  | 0, _, _, _, _, _, _, _, hn => absurd hn (Nat.not_lt_zero _)
  | n + 1, j, o5, o6, bs, h1, h2, h3, hj => by
    have e8 : ((Int8.ofInt 8).toInt32).toInt = 8 := by decide
    have e64 : ((Int8.ofInt 64).toInt32).toInt = 64 := by decide
    have ej : (Int32.ofNat j).toInt = (j : Int) := Int32.toInt_ofNat_of_lt (by omega)
    have I2 : zHI g lg (zsb h j (.int 0) bs) := (zHI_mv hI (zapp_mv _)).1
    obtain ⟨vs, m1, m2, m3, m4⟩ := I2.obj
    refine zEs_run 2 rfl ?_
    refine zEs_icmp rfl (fun g1 => ?_) (fun g1 => ?_)
    · refine zEs_run 1 rfl ?_
      refine zEs_callG rfl (show zcallV 0 8 222 144 [.ref h.length] (zsb h j (.int 0) bs) = _ from zcallV_eq rfl zsb0 (by decide)) (m_222 (D := 14) h2 (by omega) (List.all_eq_true.mpr (fun x hx => h3 x (List.mem_of_mem_take hx)))) (fun v h9 nc1 ns1 q => ?_) (fun E h9 nc1 ns1 q => by obtain ⟨U, q⟩ := q; cases q)
      obtain ⟨U, q⟩ := q
      cases q
      exact zEs_end rfl rfl ⟨_, g, lg, _, _, _, rfl, Or.inr ⟨_, rfl⟩, (zHI_mv hI (zapp_mv U)).1, zLE_app, rfl, rfl, rfl, by omega, by omega⟩
    · have z := zF_ge_f g1
      rw [ej, e8] at z
      have t1 := Int32.toInt_mul b (Int8.ofInt 64).toInt32
      rw [e64, zbm (by omega) (by omega)] at t1
      have t2 := Int32.toInt_mul rw (Int8.ofInt 8).toInt32
      rw [e8, zbm (by omega) (by omega)] at t2
      have t3 := Int32.toInt_add (b * (Int8.ofInt 64).toInt32) (rw * (Int8.ofInt 8).toInt32)
      rw [t1, t2, zbm (by omega) (by omega)] at t3
      have t4 := Int32.toInt_add (b * (Int8.ofInt 64).toInt32 + rw * (Int8.ofInt 8).toInt32) (Int32.ofNat j)
      rw [t3, ej, zbm (by omega) (by omega)] at t4
      refine zEs_run 13 (L' := [some (.ref 44), some (.int b), some (.int rw), some (.ref h.length), some (.int (Int32.ofNat j)), some (.int (b * (Int8.ofInt 64).toInt32 + rw * (Int8.ofInt 8).toInt32 + Int32.ofNat j)), o6]) (st' := [.int (b * (Int8.ofInt 64).toInt32 + rw * (Int8.ofInt 8).toInt32 + Int32.ofNat j), .ref 44, .ref 44]) rfl ?_
      generalize b * (Int8.ofInt 64).toInt32 + rw * (Int8.ofInt 8).toInt32 + Int32.ofNat j = A at t4 ⊢
      refine zEs_ctp p_125 rfl (show zcallV 1 7 125 71 (.int A :: .ref 44 :: _) _ = _ from zcallV_eq rfl m1 (Nat.le_of_ble_eq_true rfl)) (by decide) I2 ⟨zP_in, zI_in (by omega) (by omega), trivial⟩ (fun v q => ?_)
      obtain ⟨u, rfl, q⟩ := q
      obtain ⟨w, rfl, -⟩ := zI_eq q
      refine zEs_ctp p_121 rfl (show zcallV 1 7 121 74 (.int w :: .ref 44 :: _) _ = _ from zcallV_eq rfl m1 (Nat.le_of_ble_eq_true rfl)) (by decide) I2 ⟨zP_in, zIA_ok w, trivial⟩ (fun v q => ?_)
      obtain ⟨u, rfl, q⟩ := q
      obtain ⟨kd, rfl, -⟩ := zI_eq q
      have J : ∀ x : Int32, (x = 120 ∨ x = 112 ∨ x = 46 ∨ x = 109 ∨ x = 66) → zEs xs 20 175 130 [some (.ref 44), some (.int b), some (.int rw), some (.ref h.length), some (.int (Int32.ofNat j)), some (.int A), some (.int kd)] [.int x, .ref h.length] (zsb h j (.int 0) bs) nc ns (zPtl g h nc0 ns0 100 4300 (zfw g)) := by
        intro x hx
        refine zEs_callG rfl (show zcallV 1 8 220 133 [.int x, .ref h.length] (zsb h j (.int 0) bs) = _ from zcallV_eq rfl zsb0 (by decide)) (m_220 (D := 17) h2 (by omega) hx) (fun v h9 nc1 ns1 q => ?_) (fun E h9 nc1 ns1 q => by cases q)
        cases q
        refine zEs_run 3 rfl ?_
        rw [show Int32.ofNat j + Int32.ofInt 1 = Int32.ofNat (j + 1) from (nI_succ j).symm]
        exact l_175 hI b0 b1 r0 r1 hn hs n (j + 1) _ _ _ (by omega) (by simp [h2]) (zbyt_set h3 (by rcases hx with rfl | rfl | rfl | rfl | rfl <;> decide)) (by omega)
      refine zEs_run 3 rfl ?_
      refine zEs_get rfl m1 rfl (zfld m3 (k := 22) (by decide) rfl) ?_
      obtain ⟨l2, p1, p2, p3⟩ := I2.rows 72 101 128 0 1 rfl
      obtain ⟨l1, s1, s2, s3⟩ := I2.rows 71 101 128 0 1 rfl
      refine zEs_run 1 rfl ?_
      obtain ⟨v9, v1, v2⟩ := zald_eq (nx := 84) (L := [some (.ref 44), some (.int b), some (.int rw), some (.ref h.length), some (.int (Int32.ofNat j)), some (.int A), some (.int kd)]) (r := [.ref h.length]) (j := A) p1 (by omega) (by omega)
      refine zEs_step (dc := 0) (ds := 0) rfl (show zald 101 84 _ (.int A :: .ref 72 :: _) _ = _ from v2) ?_
      refine zEs_if rfl (fun _ => ?_) (fun _ => ?_)
      · refine zEs_run 1 rfl ?_
        refine zEs_get rfl m1 rfl (zfld m3 (k := 21) (by decide) rfl) ?_
        refine zEs_run 1 rfl ?_
        obtain ⟨v8, u1, u2⟩ := zald_eq (nx := 99) (L := [some (.ref 44), some (.int b), some (.int rw), some (.ref h.length), some (.int (Int32.ofNat j)), some (.int A), some (.int kd)]) (r := [.ref h.length]) (j := A) s1 (by omega) (by omega)
        refine zEs_step (dc := 0) (ds := 0) rfl (show zald 101 99 _ (.int A :: .ref 71 :: _) _ = _ from u2) ?_
        refine zEs_if rfl (fun _ => ?_) (fun _ => ?_)
        · refine zEs_run 1 rfl ?_
          refine zEs_if rfl (fun _ => ?_) (fun _ => ?_)
          · refine zEs_run 2 rfl ?_
            refine zEs_icmp rfl (fun _ => ?_) (fun _ => ?_)
            · exact zEs_run 1 rfl (J _ (by decide))
            · exact zEs_run 2 rfl (J _ (by decide))
          · exact zEs_run 2 rfl (J _ (by decide))
        · exact zEs_run 2 rfl (J _ (by decide))
      · exact zEs_run 2 rfl (J _ (by decide))
theorem q_175 {x1 x2 : Int32} (hI : zHI g lg h) : zMs xs 20 175 [.ref 44, .int x1, .int x2] h nc ns (zPtl g h nc ns 190 8300 (zfw g)) := by
  have PM : ∀ {nc1 ns1 : Nat} {o : zO} {h1 : zH}, zLE h h1 → nc1 ≤ nc + 80 → ns1 ≤ ns + 4000 → zPtl g h1 nc1 ns1 100 4300 (zfw g) o → zPtl g h nc ns 190 8300 (zfw g) o := by
    intro nc1 ns1 o h1 l9 a b k
    obtain ⟨v, g', lg', h', nc', ns', e, b1, b2, b9, b3, b4, b5, b6, b7⟩ := k
    exact ⟨v, g', lg', h', nc', ns', e, b1, b2, zLE_tr l9 b9, b3, b4, b5, by omega, by omega⟩
  refine ⟨_, rfl, zck_g (cs := cs_tel) (cert := ce_tel) (rt := some zNo) (ex := [29, 32]) _ lg nc ns 0 0 h gs_tel (by decide +kernel) (fun v h' lg' nc' ns' b => (zno b).elim) (fun pc rk bu A S z e L st lg1 h1 nc1 ns1 b1 b2 b3 b4 b5 b6 b7 => ?_) _ _ rfl 0 _ _ _ _ rfl _ [] lg h nc ns rfl hI (zgl_in (as := [(.inr (.inr (.inl (44, 44)))), zIA, zIA]) (vs := [.ref 44, .int x1, .int x2]) (n := 4) ⟨zP_in, zIA_ok _, zIA_ok _, trivial⟩) trivial zLE_rf (Nat.le_refl _) (Nat.le_refl _) (Nat.le_refl _)⟩
  have hz := b1.sizes
  have hlen := zHI_len b1
  rcases (show pc = 29 ∨ pc = 32 by simpa using z) with rfl | rfl
  · obtain rfl : S = [] := congrArg (fun x => x.2.2.2) (Option.some.inj (e.symm.trans (show zlkc ce_tel 29 = some (_, _, _, []) from rfl)))
    obtain rfl := zgs_0 b3
    refine zEs_run 1 rfl ?_
    exact zEs_end rfl rfl ⟨_, g, lg1, _, _, _, rfl, Or.inl rfl, b1, b4, rfl, rfl, rfl, by omega, by omega⟩
  · have e2 := Option.some.inj (e.symm.trans (show zlkc ce_tel 32 = some (_, _, [(.inr (.inr (.inl (44, 44)))), (.inl (0, 1, 0, 0)), (.inl (0, 7, 0, 0)), (.inr (.inr (.inr 0))), (.inr (.inr (.inr 0))), (.inr (.inr (.inr 0))), (.inr (.inr (.inr 0)))], []) from rfl))
    obtain rfl : S = [] := congrArg (fun x => x.2.2.2) e2
    obtain rfl : A = _ := congrArg (fun x => x.2.2.1) e2
    obtain rfl := zgs_0 b3
    obtain ⟨L1, rfl, y1⟩ := zgl_P b2
    obtain ⟨bk, L2, rfl, k0, k1, y2⟩ := zgl_I y1
    obtain ⟨rw, L3, rfl, r0, r1, y3⟩ := zgl_I y2
    obtain ⟨o3, L4, rfl, y4⟩ := zgl_N y3
    obtain ⟨o4, L5, rfl, y5⟩ := zgl_N y4
    obtain ⟨o5, L6, rfl, y6⟩ := zgl_N y5
    obtain ⟨o6, L7, rfl, y7⟩ := zgl_N y6
    obtain rfl := zgl_0 y7
    refine zEs_post ?_ (fun o ho => PM (nc1 := nc1) (ns1 := ns1) b4 (by omega) (by omega) ho)
    refine zEs_run 2 (h' := h1 ++ [(8, [.null, .int 0, .int 0, .int 0])]) rfl ?_
    refine zEs_callG rfl rfl (m_221 (D := 18)) (fun v h9 nc9 ns9 q => ?_) (fun E h9 nc9 ns9 q => by cases q)
    cases q
    refine zEs_run 3 rfl ?_
    have e4 : (zcf 8).length = 4 := rfl
    exact l_175 b1 k0 k1 r0 r1 (by omega) (by omega) _ 0 _ _ _ (by omega) (by simp) (fun x hx => by rw [List.eq_of_mem_replicate hx]; decide) (Nat.lt_succ_self _)
end ZHN
