/-! The reference's methods, by hand: health. -/
def ct_173 : zCt := (173, [(.inr (.inr (.inl (44, 44)))), (.inl (0, 1, 0, 0))], some (.inr (.inr (.inr 2))), 12, 0, 0)
section ZHE
variable {xs : List Int32} {D nc0 ns0 lg0 : Nat} {h0 : zH} {g : zG}
theorem l_173 {bk : Int32} (hb0 : 0 ≤ bk.toInt) (hb1 : bk.toInt ≤ 1) : ∀ (n : Nat) (i : Int32) (j : Nat) (lg : Nat) (h : zH) (nc ns : Nat), zHI g lg h → zLE h0 h → lg0 ≤ lg → nc + 2 * lg0 ≤ nc0 + 2 * lg → ns + 100 * lg0 ≤ ns0 + 100 * lg → 64 * bk.toInt ≤ i.toInt → i.toInt ≤ 64 * bk.toInt + 64 → (j : Int) ≤ i.toInt - 64 * bk.toInt → (64 * bk.toInt + 64 - i.toInt).toNat < n → zEs xs 12 173 7 [some (.ref 44), some (.int bk), some (.int (Int32.ofNat j)), some (.int i)] [] h nc ns (zPm g lg0 h0 nc0 ns0 (some (.inr (.inr (.inr 2)))) 0 0 [.ref 44, .int bk])
  | 0, _, _, _, _, _, _, _, _, _, _, _, _, _, _, hn => absurd hn (Nat.not_lt_zero _)
  | n + 1, i, j, lg, h, nc, ns, hI, hl, a1, a2, a3, c1, c2, c3, hn => by
    have t64 : ((Int8.ofInt 64).toInt32).toInt = 64 := by decide
    have e1 := Int32.toInt_mul (Int8.ofInt 64).toInt32 bk
    rw [t64, zbm (by omega) (by omega)] at e1
    have e2 := Int32.toInt_add ((Int8.ofInt 64).toInt32 * bk) (Int8.ofInt 64).toInt32
    rw [e1, t64, zbm (by omega) (by omega)] at e2
    refine zEs_run 6 rfl ?_
    refine zEs_icmp rfl (fun _ => ?_) (fun gg => ?_)
    · refine zEs_run 3 rfl ?_
      refine zEs_ddiv rfl (zdd_1 (k := j) (by omega)).1 ?_
      exact zEs_end rfl rfl ⟨_, h, lg, _, _, rfl, ⟨_, rfl, j, by omega, rfl⟩, hI, hl, a1, a2, a3⟩
    · have z := zF_ge_f gg
      have z : i.toInt < 64 * bk.toInt + 64 := by
        rw [← e2]
        exact z
      have hi := zinc_le (x := i) (n := 1) (by omega) (by decide) (by decide)
      have J : ∀ (w : Int32) (j' : Nat) (lg' : Nat) (h' : zH) (nc' ns' : Nat), zHI g lg' h' → zLE h0 h' → lg0 ≤ lg' → nc' + 2 * lg0 ≤ nc0 + 2 * lg' → ns' + 100 * lg0 ≤ ns0 + 100 * lg' → (j' : Int) ≤ j + 1 → Int32.ofNat j + w = Int32.ofNat j' → zEs xs 12 173 45 [some (.ref 44), some (.int bk), some (.int (Int32.ofNat j)), some (.int i)] [.int w, .int (Int32.ofNat j)] h' nc' ns' (zPm g lg0 h0 nc0 ns0 (some (.inr (.inr (.inr 2)))) 0 0 [.ref 44, .int bk]) := by
        intro w j' lg' h' nc' ns' f1 f2 f3 f4 f5 f6 f7
        refine zEs_run 4 rfl ?_
        rw [show (fun x y : Int32 => x + y) (Int32.ofNat j) w = Int32.ofNat j' from f7]
        exact l_173 hb0 hb1 n _ j' lg' h' _ _ f1 f2 f3 f4 f5 (by omega) (by omega) (by omega) (by omega)
      obtain ⟨ws, hw⟩ := zth hI
      refine zEs_run 4 rfl ?_
      refine zEs_ctr g_125 rfl (show zcallV 1 7 125 25 (.int i :: .ref 44 :: _) h = _ from zcallV_eq rfl hw (Nat.le_of_ble_eq_true rfl)) (by decide) hI ⟨zP_in, zI_in (by omega) (by omega), trivial⟩ (fun v h1 lg1 nc1 ns1 q I1 le1 l1 k1 s1 => ?_)
      obtain ⟨u, rfl, q⟩ := q
      obtain ⟨x, rfl, -⟩ := zI_eq q
      obtain ⟨ws1, hw1⟩ := zth I1
      refine zEs_ctr g_121 rfl (show zcallV 1 7 121 28 (.int x :: .ref 44 :: _) h1 = _ from zcallV_eq rfl hw1 (Nat.le_of_ble_eq_true rfl)) (by decide) I1 ⟨zP_in, zIA_ok x, trivial⟩ (fun v h2 lg2 nc2 ns2 q I2 le2 l2 k2 s2 => ?_)
      obtain ⟨u2, rfl, q⟩ := q
      obtain ⟨x2, rfl, -⟩ := zI_eq q
      have d1 : ct_125.dc = 0 := rfl
      have d2 : ct_125.ds = 0 := rfl
      have d3 : ct_121.dc = 0 := rfl
      have d4 : ct_121.ds = 0 := rfl
      have K1 : zEs xs 12 173 44 [some (.ref 44), some (.int bk), some (.int (Int32.ofNat j)), some (.int i)] [.int (Int32.ofNat j)] h2 nc2 ns2 (zPm g lg0 h0 nc0 ns0 (some (.inr (.inr (.inr 2)))) 0 0 [.ref 44, .int bk]) := by
        refine zEs_run 1 rfl ?_
        refine J _ j lg2 h2 _ _ I2 (zLE_tr hl (zLE_tr le1 le2)) (by omega) (by omega) (by omega) (by omega) ?_
        show Int32.ofNat j + Int32.ofInt 0 = _
        rw [show Int32.ofInt 0 = 0 from by decide, Int32.add_zero]
      refine zEs_if rfl (fun _ => K1) (fun _ => ?_)
      obtain ⟨vs, m1, m2, m3, m4⟩ := I2.obj
      refine zEs_run 1 rfl ?_
      refine zEs_get rfl m1 rfl (zfld m3 (k := 21) (by decide) rfl) ?_
      refine zEs_run 1 rfl ?_
      obtain ⟨l, p1, p2, p3⟩ := I2.rows 71 101 128 0 1 rfl
      obtain ⟨v9, v1, v2⟩ := zald_eq (nx := 37) (L := [some (.ref 44), some (.int bk), some (.int (Int32.ofNat j)), some (.int i)]) (r := [.int (Int32.ofNat j)]) (j := i) p1 (by omega) (by omega)
      refine zEs_step (dc := 0) (ds := 0) rfl (show zald 101 37 _ (.int i :: .ref 71 :: _) h2 = _ from v2) ?_
      refine zEs_if rfl (fun _ => K1) (fun _ => ?_)
      refine zEs_run 2 rfl ?_
      exact J _ (j + 1) lg2 h2 _ _ I2 (zLE_tr hl (zLE_tr le1 le2)) (by omega) (by omega) (by omega) (by omega) (nI_succ j).symm
theorem g_173 : zGd xs ct_173 := by
  intro g lg h nc ns as hI hS
  obtain ⟨v, w1, rfl, k, k1⟩ := zin2 hS
  obtain rfl := zP_eq k
  obtain ⟨x1, rfl, x1l, x1u, -⟩ := zI_eq k1
  have t64 : ((Int8.ofInt 64).toInt32).toInt = 64 := by decide
  have e1 := Int32.toInt_mul (Int8.ofInt 64).toInt32 x1
  rw [t64, zbm (by omega) (by omega)] at e1
  refine ⟨_, rfl, zEs_run 6 rfl ?_⟩
  have e1 : ((fun x y : Int32 => x * y) (Int8.ofInt 64).toInt32 x1).toInt = 64 * x1.toInt := e1
  exact l_173 x1l x1u _ _ 0 lg h nc ns hI zLE_rf (Nat.le_refl _) (Nat.le_refl _) (Nat.le_refl _) (by omega) (by omega) (by omega) (Nat.lt_succ_self _)
end ZHE
