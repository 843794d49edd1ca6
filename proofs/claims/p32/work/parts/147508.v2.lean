/-! The fifteen codes. -/
def zcds : List (Nat × Nat) := [(4, 4), (4, 5), (5, 5), (6, 5), (7, 5), (8, 5), (9, 5), (10, 5), (4, 6), (5, 6), (6, 6), (7, 6), (8, 6), (9, 6), (10, 6)]
/-- the turn of a syndrome -/
def ztn (c : List Int32) (x : Int32) : Int32 := if x = 0 then 0 else if zfn c x 0 = Int32.ofInt (-1) then Int32.ofInt (-1) else Int32.ofInt 1 <<< (zfn c x 0 &&& 31)
theorem zcds_dl : ∀ q ∈ zcds, (zdl q.1 q.2).length = q.1 := by
  have e : zcds.all (fun q => decide ((zdl q.1 q.2).length = q.1)) = true := by decide +kernel
  exact fun q hq => of_decide_eq_true (List.all_eq_true.mp e q hq)
theorem zcds_tn : ∀ q ∈ zcds, ∀ x, x < 64 → zgt (zts (zcol q.1 q.2) (q.1 + q.2)) (Int32.ofNat x) = ztn (zcol q.1 q.2) (Int32.ofNat x) := by
  have e : zcds.all (fun q => (List.range 64).all (fun x => decide (zgt (zts (zcol q.1 q.2) (q.1 + q.2)) (Int32.ofNat x) = ztn (zcol q.1 q.2) (Int32.ofNat x)))) = true := by decide +kernel
  exact fun q hq x hx => of_decide_eq_true (List.all_eq_true.mp (List.all_eq_true.mp e q hq) x (List.mem_range.mpr hx))
/-- a number below 64 -/
def zl64 (x : Int32) : Prop := ∃ n : Nat, n < 64 ∧ x = Int32.ofNat n
theorem zl64_xor {x y : Int32} (hx : zl64 x) (hy : zl64 y) : zl64 (x ^^^ y) := by
  obtain ⟨n, hn, rfl⟩ := hx
  obtain ⟨m, hm, rfl⟩ := hy
  refine ⟨n ^^^ m, Nat.xor_lt_two_pow (n := 6) hn hm, ?_⟩
  have e : (List.range 64).all (fun n => (List.range 64).all (fun m => decide (Int32.ofNat n ^^^ Int32.ofNat m = Int32.ofNat (n ^^^ m)))) = true := by decide +kernel
  exact of_decide_eq_true (List.all_eq_true.mp (List.all_eq_true.mp e n (List.mem_range.mpr hn)) m (List.mem_range.mpr hm))
theorem zsyn_l {c : Nat → Int32} {w : Int32} (h : ∀ k, zl64 (c k)) : ∀ n, zl64 (zsyn c w n)
  | 0 => ⟨0, by decide, rfl⟩
  | n + 1 => by
    show zl64 (if zbt w n then zsyn c w n ^^^ c n else zsyn c w n)
    split
    · exact zl64_xor (zsyn_l h n) (h n)
    · exact zsyn_l h n
theorem zsyn_congr {c d : Nat → Int32} {w : Int32} : ∀ n, (∀ k, k < n → c k = d k) → zsyn c w n = zsyn d w n
  | 0, _ => rfl
  | n + 1, h => by
    show (if zbt w n then zsyn c w n ^^^ c n else zsyn c w n) = (if zbt w n then zsyn d w n ^^^ d n else zsyn d w n)
    rw [zsyn_congr n (fun k hk => h k (by omega)), h n (by omega)]
theorem zcol_l : ∀ q ∈ zcds, ∀ k, zl64 (zcm (zcol q.1 q.2) k) := by
  have e : zcds.all (fun q => (List.range 16).all (fun k => (List.range 64).any (fun n => decide (zcm (zcol q.1 q.2) k = Int32.ofNat n)))) = true := by decide +kernel
  have e2 : zcds.all (fun q => decide ((zcol q.1 q.2).length ≤ 16)) = true := by decide +kernel
  intro q hq k
  by_cases hk : k < 16
  · obtain ⟨n, hn, z⟩ := List.any_eq_true.mp (List.all_eq_true.mp (List.all_eq_true.mp e q hq) k (List.mem_range.mpr hk))
    exact ⟨n, List.mem_range.mp hn, of_decide_eq_true z⟩
  · have l := of_decide_eq_true (List.all_eq_true.mp e2 q hq)
    refine ⟨0, by decide, ?_⟩
    show (zcol q.1 q.2).getD k 0 = 0
    rw [List.getD_eq_getElem?_getD, List.getElem?_eq_none (by omega)]
    rfl
