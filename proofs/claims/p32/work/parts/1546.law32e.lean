/-! The law of the two objects. -/
set_option maxRecDepth 20000
section ZLW
variable {xs : List Int32} {P : zO → Prop} {A B : zSt} {M : zRt} {p l s d mi kk at9 : Int32} {o9 o10 o11 o12 o13 o14 o15 o16 o17 : Option Value} {n m q t b nc ns j : Nat} {r : List Value} {h : zH} {D : Nat}
theorem zAd1 {k : Nat} : Int32.ofNat k + Int32.ofInt 1 = Int32.ofNat (k + 1) := by
  rw [show Int32.ofInt 1 = Int32.ofNat 1 from rfl, ← Int32.ofNat_add]
theorem zlcm2 (x : Int64) : lg_cmp x x = 0 := by
  unfold lg_cmp
  rw [if_neg (Int64.lt_irrefl : ¬ x < x), if_pos rfl]
def zl32 (p l s d mi k : Int32) (o9 o10 o11 o12 o13 o14 o15 o16 o17 : Option Value) : zL := [some (.retAddr 0), some (.ref 0), some (.ref 44), some (.int p), some (.int l), some (.int s), some (.int d), some (.int mi), some (.int k), o9, o10, o11, o12, o13, o14, o15, o16, o17]
def zb32 (p l s d mi k at9 : Int32) (n m q : Nat) (o15 o16 o17 : Option Value) : zL := [some (.retAddr 0), some (.ref 0), some (.ref 44), some (.int p), some (.int l), some (.int s), some (.int d), some (.int mi), some (.int k), some (.int at9), some (.int (Int32.ofNat n)), some (.int (Int32.ofNat (n / 64))), some (.int (Int32.ofNat (n / 8 % 8))), some (.int (Int32.ofNat m)), some (.int (Int32.ofNat q)), o15, o16, o17]
/-- what the loop goes on with -/
def zK32 (xs : List Int32) (P : zO → Prop) (p l s d mi k at9 : Int32) (n m q : Nat) (t b nc ns : Nat) : Prop := ∀ (A B : zSt) (M : zRt) (o15 o16 o17 : Option Value), zMI M (t + 30) (b + 240) → zIy A M → zIy B M → zEs xs 7 214 524 (zb32 p l s d mi k at9 n m q o15 o16 o17) [] (zw A B) nc ns P
theorem zIy_w (h : zIy A M) : (M.2.2.1 1).length ≤ 24 := h.2.2.2.1.2.1.2.2.2.1
theorem zm_80 (h : zMI M t b) (hb : b ≤ 900000) : zJM xs 80 [] M (.int (Int32.ofInt 1)) M := fun S hS =>
  ⟨S, hS, zJ_mo (D := 0 + 3) (by decide) (zJ_q (Q := zRb) (fun T nc ns => k_80 (D := 0) hS.1) (fun T nc ns N => e_80 hS.1) (Or.inl (by rw [zV80_1 hS.2.2.2 h hb])))⟩
theorem zc_236 (hM : zMI M t b) (hA : zIy A M) (hB : zIy B M) (hn : n < 128) (h1 : 1 ≤ m) (h2 : m ≤ 30) (hq : q < 13) (hb : b ≤ 800000) (ht : t ≤ 1900) (K : zK32 xs P p l s d mi kk at9 n m q t b nc ns) : zEs xs 7 214 236 (zb32 p l s d mi kk at9 n m q o15 o16 o17) [] (zw A B) nc ns P := by
  have t0 := zt_140 (m := 7 * m) hM hn (by omega)
  obtain ⟨A', hA', jA⟩ := zm_54 (xs := xs) t0 A hA
  obtain ⟨B', hB', jB⟩ := zm_54 (xs := xs) t0 B hB
  have hM' := zMI_mo (Nat.le_add_right t 30) (show _ ≤ b + 240 by omega) (zMI_54 (m := 7 * m) hM hn (by omega) (by omega))
  have e9 : Int32.ofInt 7 * Int32.ofNat m = Int32.ofNat (7 * m) := by
    rw [show Int32.ofInt 7 = Int32.ofNat 7 from rfl, ← Int32.ofNat_mul]
  refine zEs_run 5 (L' := (zb32 p l s d mi kk at9 n m q o15 o16 o17)) (st' := [.int (Int32.ofInt 7 * Int32.ofNat m), .int (Int32.ofNat n), .ref 0]) rfl ?_
  rw [e9]
  refine zEs_callG rfl rfl (zJ_1 jA) (fun v h9 nc9 ns9 w => ?_) (fun E h9 nc9 ns9 w => by cases w)
  cases w
  refine zEs_run 5 (L' := (zb32 p l s d mi kk at9 n m q o15 o16 o17)) (st' := [.int (Int32.ofInt 7 * Int32.ofNat m), .int (Int32.ofNat n), .ref 44, .int (v140 (Int32.ofNat n) (Int32.ofNat (7 * m)) M)]) rfl ?_
  rw [e9]
  refine zEs_callG rfl rfl (zJ_2 jB (by decide) rfl rfl) (fun v h9 nc9 ns9 w => ?_) (fun E h9 nc9 ns9 w => by cases w)
  cases w
  exact zEs_icmp rfl (fun _ => K A' B' _ o15 o16 o17 hM' hA' hB') (fun g => absurd rfl (zF_e0 g))
theorem zc_263 (hM : zMI M t b) (hA : zIy A M) (hB : zIy B M) (hn : n < 128) (h1 : 1 ≤ m) (h2 : m ≤ 30) (hq : q < 13) (hb : b ≤ 800000) (ht : t ≤ 1900) (K : zK32 xs P p l s d mi kk at9 n m q t b nc ns) : zEs xs 7 214 263 (zb32 p l s d mi kk at9 n m q o15 o16 o17) [] (zw A B) nc ns P := by
  have t0 := zt_142 hM hn hq
  obtain ⟨A', hA', jA⟩ := zm_56 (xs := xs) t0 A hA
  obtain ⟨B', hB', jB⟩ := zm_56 (xs := xs) t0 B hB
  have hM' := zMI_mo (Nat.le_add_right t 30) (show _ ≤ b + 240 by omega) (zMI_56 hM t0 (by omega))
  refine zEs_run 5 (L' := (zb32 p l s d mi kk at9 n m q o15 o16 o17)) (st' := [.int (Int32.ofInt 1 <<< (Int32.ofNat q &&& 31)), .int (Int32.ofNat n), .ref 0]) rfl ?_
  refine zEs_callG rfl rfl (zJ_1 jA) (fun v h9 nc9 ns9 w => ?_) (fun E h9 nc9 ns9 w => by cases w)
  cases w
  refine zEs_run 5 (L' := (zb32 p l s d mi kk at9 n m q o15 o16 o17)) (st' := [.int (Int32.ofInt 1 <<< (Int32.ofNat q &&& 31)), .int (Int32.ofNat n), .ref 44, .int (v142 (Int32.ofNat n) (Int32.ofInt 1 <<< (Int32.ofNat q &&& 31)) M)]) rfl ?_
  refine zEs_callG rfl rfl (zJ_2 jB (by decide) rfl rfl) (fun v h9 nc9 ns9 w => ?_) (fun E h9 nc9 ns9 w => by cases w)
  cases w
  exact zEs_icmp rfl (fun _ => K A' B' _ o15 o16 o17 hM' hA' hB') (fun g => absurd rfl (zF_e0 g))
theorem zc_431 (hM : zMI M t b) (hA : zIy A M) (hB : zIy B M) (hn : n < 128) (h1 : 1 ≤ m) (h2 : m ≤ 30) (hq : q < 13) (hb : b ≤ 800000) (ht : t ≤ 1900) (K : zK32 xs P p l s d mi kk at9 n m q t b nc ns) : zEs xs 7 214 431 (zb32 p l s d mi kk at9 n m q o15 o16 o17) [] (zw A B) nc ns P := by
  have t0 := zt_141 hM hn
  obtain ⟨A', hA', jA⟩ := zm_55 (xs := xs) t0 A hA
  obtain ⟨B', hB', jB⟩ := zm_55 (xs := xs) t0 B hB
  have hM' := zMI_mo (Nat.le_add_right t 30) (show _ ≤ b + 240 by omega) (zMI_55 hM hn (by omega))
  refine zEs_run 2 (L' := (zb32 p l s d mi kk at9 n m q o15 o16 o17)) (st' := [.int (Int32.ofNat n), .ref 0]) rfl ?_
  refine zEs_callG rfl rfl (zJ_1 jA) (fun v h9 nc9 ns9 w => ?_) (fun E h9 nc9 ns9 w => by cases w)
  cases w
  refine zEs_run 2 (L' := (zb32 p l s d mi kk at9 n m q o15 o16 o17)) (st' := [.int (Int32.ofNat n), .ref 44, .int (v141 (Int32.ofNat n) M)]) rfl ?_
  refine zEs_callG rfl rfl (zJ_2 jB (by decide) rfl rfl) (fun v h9 nc9 ns9 w => ?_) (fun E h9 nc9 ns9 w => by cases w)
  cases w
  exact zEs_icmp rfl (fun _ => K A' B' _ o15 o16 o17 hM' hA' hB') (fun g => absurd rfl (zF_e0 g))
def zbg (m : Nat) : Int32 := if m ≤ 9 then Int32.ofInt 0 else Int32.ofInt 1
theorem zh_299 (hm : m ≤ 30) (K : zEs xs D 214 316 (zb32 p l s d mi kk at9 n m q o15 o16 o17) (.int (zbg m) :: .int (Int32.ofNat q) :: .int (Int32.ofNat n) :: .ref 0 :: r) h nc ns P) : zEs xs D 214 299 (zb32 p l s d mi kk at9 n m q o15 o16 o17) r h nc ns P := by
  refine zEs_run 5 (L' := (zb32 p l s d mi kk at9 n m q o15 o16 o17)) (st' := .int (Int32.ofInt 9) :: .int (Int32.ofNat m) :: .int (Int32.ofNat q) :: .int (Int32.ofNat n) :: .ref 0 :: r) rfl ?_
  refine zEs_icmp rfl (fun g => ?_) (fun g => ?_)
  · have g := zF_le_t g
    rw [zofI (by omega), show (Int32.ofInt 9).toInt = 9 by decide] at g
    rw [show zbg m = Int32.ofInt 0 from if_pos (by omega)] at K
    exact zEs_run 1 rfl K
  · have g := zF_le_f g
    rw [zofI (by omega), show (Int32.ofInt 9).toInt = 9 by decide] at g
    rw [show zbg m = Int32.ofInt 1 from if_neg (by omega)] at K
    exact zEs_run 2 rfl K
theorem zh_319 (hm : m ≤ 30) (K : zEs xs D 214 336 (zb32 p l s d mi kk at9 n m q o15 o16 o17) (.int (zbg m) :: .int (Int32.ofNat q) :: .int (Int32.ofNat n) :: .ref 44 :: r) h nc ns P) : zEs xs D 214 319 (zb32 p l s d mi kk at9 n m q o15 o16 o17) r h nc ns P := by
  refine zEs_run 5 (L' := (zb32 p l s d mi kk at9 n m q o15 o16 o17)) (st' := .int (Int32.ofInt 9) :: .int (Int32.ofNat m) :: .int (Int32.ofNat q) :: .int (Int32.ofNat n) :: .ref 44 :: r) rfl ?_
  refine zEs_icmp rfl (fun g => ?_) (fun g => ?_)
  · have g := zF_le_t g
    rw [zofI (by omega), show (Int32.ofInt 9).toInt = 9 by decide] at g
    rw [show zbg m = Int32.ofInt 0 from if_pos (by omega)] at K
    exact zEs_run 1 rfl K
  · have g := zF_le_f g
    rw [zofI (by omega), show (Int32.ofInt 9).toInt = 9 by decide] at g
    rw [show zbg m = Int32.ofInt 1 from if_neg (by omega)] at K
    exact zEs_run 2 rfl K
theorem zc_288 (hM : zMI M t b) (hA : zIy A M) (hB : zIy B M) (hn : n < 128) (h1 : 1 ≤ m) (h2 : m ≤ 30) (hq : q < 13) (hb : b ≤ 800000) (ht : t ≤ 1900) (K : zK32 xs P p l s d mi kk at9 n m q t b nc ns) : zEs xs 7 214 288 (zb32 p l s d mi kk at9 n m q o15 o16 o17) [] (zw A B) nc ns P := by
  obtain ⟨A0, hA0, j0⟩ := zm_74 (xs := xs) (M := M) (x1 := Int32.ofInt 14) (by decide) A hA
  refine zEs_run 2 (L' := (zb32 p l s d mi kk at9 n m q o15 o16 o17)) (st' := [.int (Int32.ofInt 14), .ref 0]) rfl ?_
  refine zEs_callG rfl rfl (zJ_1 j0) (fun v h9 nc9 ns9 w => ?_) (fun E h9 nc9 ns9 w => by cases w)
  cases w
  refine zEs_run 1 (L' := (zb32 p l s d mi kk at9 n m q o15 o16 o17)) (st' := [.int (Int32.ofInt 24), .int (v172 (Int32.ofInt 14) M)]) rfl ?_
  refine zEs_icmp rfl (fun _ => K A0 B _ o15 o16 o17 (zMI_mo (Nat.le_add_right t 30) (Nat.le_add_right b 240) hM) hA0 hB) (fun g => ?_)
  have g := zF_ge_f g
  rw [zv172_14, show (Int32.ofInt 24).toInt = 24 by decide] at g
  have t0 := zt_143 (x3 := zbg m) hM hn hq g
  obtain ⟨A', hA', jA⟩ := zm_57 (xs := xs) t0 A0 hA0
  obtain ⟨B', hB', jB⟩ := zm_57 (xs := xs) t0 B hB
  have hM' := zMI_mo (Nat.le_add_right t 30) (show _ ≤ b + 240 by omega) (zMI_57 hM t0 (by omega))
  refine zh_299 h2 ?_
  refine zEs_callG rfl rfl (zJ_1 jA) (fun v h9 nc9 ns9 w => ?_) (fun E h9 nc9 ns9 w => by cases w)
  cases w
  refine zh_319 h2 ?_
  refine zEs_callG rfl rfl (zJ_2 jB (by decide) rfl rfl) (fun v h9 nc9 ns9 w => ?_) (fun E h9 nc9 ns9 w => by cases w)
  cases w
  exact zEs_icmp rfl (fun _ => K A' B' _ o15 o16 o17 hM' hA' hB') (fun g => absurd rfl (zF_e0 g))
theorem zc_344 (hM : zMI M t b) (hA : zIy A M) (hB : zIy B M) (hn : n < 128) (h1 : 1 ≤ m) (h2 : m ≤ 30) (hq : q < 13) (hb : b ≤ 800000) (ht : t ≤ 1900) (K : zK32 xs P p l s d mi kk at9 n m q t b nc ns) : zEs xs 7 214 344 (zb32 p l s d mi kk at9 n m q o15 o16 o17) [] (zw A B) nc ns P := by
  obtain ⟨A0, hA0, j0⟩ := zm_74 (xs := xs) (M := M) (x1 := Int32.ofInt 15) (by decide) A hA
  refine zEs_run 2 (L' := (zb32 p l s d mi kk at9 n m q o15 o16 o17)) (st' := [.int (Int32.ofInt 15), .ref 0]) rfl ?_
  refine zEs_callG rfl rfl (zJ_1 j0) (fun v h9 nc9 ns9 w => ?_) (fun E h9 nc9 ns9 w => by cases w)
  cases w
  refine zEs_run 1 (L' := (zb32 p l s d mi kk at9 n m q o15 o16 o17)) (st' := [.int (Int32.ofInt 24), .int (v172 (Int32.ofInt 15) M)]) rfl ?_
  refine zEs_icmp rfl (fun _ => K A0 B _ o15 o16 o17 (zMI_mo (Nat.le_add_right t 30) (Nat.le_add_right b 240) hM) hA0 hB) (fun g => ?_)
  have g := zF_ge_f g
  rw [zv172_15, show (Int32.ofInt 24).toInt = 24 by decide] at g
  have t0 := zt_144 hM hn hq h1 h2 g
  obtain ⟨A', hA', jA⟩ := zm_58 (xs := xs) t0 A0 hA0
  obtain ⟨B', hB', jB⟩ := zm_58 (xs := xs) t0 B hB
  have hM' := zMI_mo (Nat.le_add_right t 30) (show _ ≤ b + 240 by omega) (zMI_58 hM t0 (by omega))
  refine zEs_run 4 (L' := (zb32 p l s d mi kk at9 n m q o15 o16 o17)) (st' := [.int (Int32.ofNat m), .int (Int32.ofNat q), .int (Int32.ofNat n), .ref 0]) rfl ?_
  refine zEs_callG rfl rfl (zJ_1 jA) (fun v h9 nc9 ns9 w => ?_) (fun E h9 nc9 ns9 w => by cases w)
  cases w
  refine zEs_run 4 (L' := (zb32 p l s d mi kk at9 n m q o15 o16 o17)) (st' := [.int (Int32.ofNat m), .int (Int32.ofNat q), .int (Int32.ofNat n), .ref 44, .int (v144 (Int32.ofNat n) (Int32.ofNat q) (Int32.ofNat m) M)]) rfl ?_
  refine zEs_callG rfl rfl (zJ_2 jB (by decide) rfl rfl) (fun v h9 nc9 ns9 w => ?_) (fun E h9 nc9 ns9 w => by cases w)
  cases w
  exact zEs_icmp rfl (fun _ => K A' B' _ o15 o16 o17 hM' hA' hB') (fun g => absurd rfl (zF_e0 g))
/-- hammered one by one -/
theorem zl_398 {x15 y : Int32} (hn : n < 128) (hm : m ≤ 30) (hy : y = zgt (M.2.1 22) (Int32.ofNat (n / 64) * Int32.ofInt 8 + Int32.ofNat (n / 8 % 8))) (hM : M.1 0 = 0) (K : ∀ (B' : zSt) (x16 : Int32), zIy B' (zit (r129 y) m M) → (0 < m → x16 = zgt ((zit (r129 y) m M).2.1 20) y) → zEs xs 7 214 422 (zb32 p l s d mi kk at9 n m q (some (.int x15)) (some (.int x16)) (some (.int (Int32.ofNat m)))) [] (zw A B') nc ns P) : ∀ (g i : Nat) (B : zSt) (x16 : Int32), i + g = m → zIy B (zit (r129 y) i M) → (0 < i → x16 = zgt ((zit (r129 y) i M).2.1 20) y) → zEs xs 7 214 398 (zb32 p l s d mi kk at9 n m q (some (.int x15)) (some (.int x16)) (some (.int (Int32.ofNat i)))) [] (zw A B) nc ns P
  | 0, i, B, x16, hi, hB, hx => by
    have him : i = m := by omega
    refine zEs_run 2 (L' := (zb32 p l s d mi kk at9 n m q (some (.int x15)) (some (.int x16)) (some (.int (Int32.ofNat i))))) (st' := [.int (Int32.ofNat m), .int (Int32.ofNat i)]) rfl ?_
    refine zEs_icmp rfl (fun _ => ?_) (fun q9 => ?_)
    · rw [him] at hB hx ⊢
      exact K B x16 hB hx
    · have q9 := zF_ge_f q9
      rw [him] at q9
      omega
  | g' + 1, i, B, x16, hi, hB, hx => by
    have ei : (Int32.ofNat i).toInt = i := zofI (by omega)
    have em : (Int32.ofNat m).toInt = m := zofI (by omega)
    refine zEs_run 2 (L' := (zb32 p l s d mi kk at9 n m q (some (.int x15)) (some (.int x16)) (some (.int (Int32.ofNat i))))) (st' := [.int (Int32.ofNat m), .int (Int32.ofNat i)]) rfl ?_
    refine zEs_icmp rfl (fun q9 => ?_) (fun q9 => ?_)
    · have q9 := zF_ge_t q9
      omega
    · have q9 := zF_ge_f q9
      obtain ⟨e1, e2⟩ := z145_1 (M := M) (k := i) (a := n / 64) (b := n / 8 % 8) (by omega) (by omega) hy hM
      have t0 : (r145 (Int32.ofNat (n / 64)) (Int32.ofNat (n / 8 % 8)) (Int32.ofInt 1) (zit (r129 y) i M)).1 0 = 0 := by
        rw [e1]
        exact ((it129_fr (i + 1)).1 0 (by decide)).trans hM
      obtain ⟨B', hB', jB⟩ := zm_59 (xs := xs) t0 B hB
      rw [e1] at hB'
      rw [e2] at jB
      refine zEs_run 4 (L' := (zb32 p l s d mi kk at9 n m q (some (.int x15)) (some (.int x16)) (some (.int (Int32.ofNat i))))) (st' := [.int (Int32.ofInt 1), .int (Int32.ofNat (n / 8 % 8)), .int (Int32.ofNat (n / 64)), .ref 44]) rfl ?_
      refine zEs_callG rfl rfl (zJ_2 jB (by decide) rfl rfl) (fun v h9 nc9 ns9 w => ?_) (fun E h9 nc9 ns9 w => by cases w)
      cases w
      refine zEs_run 3 (L' := (zb32 p l s d mi kk at9 n m q (some (.int x15)) (some (.int (zgt ((zit (r129 y) (i + 1) M).2.1 20) y))) (some (.int (Int32.ofNat i + Int32.ofInt 1))))) (st' := []) rfl ?_
      rw [zAd1]
      exact zl_398 hn hm hy hM K g' (i + 1) B' _ (by omega) hB' (fun _ => rfl)
theorem zc_380 (hM : zMI M t b) (hA : zIy A M) (hB : zIy B M) (hn : n < 128) (h1 : 1 ≤ m) (h2 : m ≤ 30) (hq : q < 13) (hb : b ≤ 800000) (ht : t ≤ 1900) (K : zK32 xs P p l s d mi kk at9 n m q t b nc ns) : zEs xs 7 214 380 (zb32 p l s d mi kk at9 n m q o15 o16 o17) [] (zw A B) nc ns P := by
  obtain ⟨y, hy⟩ : ∃ y, y = zgt (M.2.1 22) (Int32.ofNat (n / 64) * Int32.ofInt 8 + Int32.ofNat (n / 8 % 8)) := ⟨_, rfl⟩
  obtain ⟨e1, e2⟩ := z145_it (M := M) (a := n / 64) (b := n / 8 % 8) (by omega) (by omega) h1 (show m ≤ 100 by omega)
  rw [← hy] at e1 e2
  have t0 : (r145 (Int32.ofNat (n / 64)) (Int32.ofNat (n / 8 % 8)) (Int32.ofNat m) M).1 0 = 0 := by
    rw [e1]
    exact ((it129_fr m).1 0 (by decide)).trans zt0
  obtain ⟨A', hA', jA⟩ := zm_59 (xs := xs) t0 A hA
  rw [e1] at hA'
  rw [e2] at jA
  have hM' := zMI_mo (Nat.le_add_right t 30) (show _ ≤ b + 240 by omega) (zMI_ih (k := m) (l := y) hM (by omega))
  refine zEs_run 4 (L' := (zb32 p l s d mi kk at9 n m q o15 o16 o17)) (st' := [.int (Int32.ofNat m), .int (Int32.ofNat (n / 8 % 8)), .int (Int32.ofNat (n / 64)), .ref 0]) rfl ?_
  refine zEs_callG rfl rfl (zJ_1 jA) (fun v h9 nc9 ns9 w => ?_) (fun E h9 nc9 ns9 w => by cases w)
  cases w
  refine zEs_run 5 (L' := (zb32 p l s d mi kk at9 n m q (some (.int (zgt ((zit (r129 y) m (zmS M 0 (Int32.ofInt 0))).2.1 20) y))) (some (.int (Int32.ofInt 0))) (some (.int (Int32.ofNat 0))))) (st' := []) rfl ?_
  refine zl_398 (M := zmS M 0 (Int32.ofInt 0)) (m := m) (y := y) hn h2 hy zt0 (fun B' x16 hB' hx => ?_) m 0 B (Int32.ofInt 0) (by omega) ⟨hB.1, zZ_0 hB.2⟩ (fun z => absurd z (Nat.lt_irrefl 0))
  refine zEs_run 2 (L' := (zb32 p l s d mi kk at9 n m q (some (.int (zgt ((zit (r129 y) m (zmS M 0 (Int32.ofInt 0))).2.1 20) y))) (some (.int x16)) (some (.int (Int32.ofNat m))))) (st' := [.int x16, .int (zgt ((zit (r129 y) m (zmS M 0 (Int32.ofInt 0))).2.1 20) y)]) rfl ?_
  exact zEs_icmp rfl (fun _ => K A' B' _ _ _ _ hM' hA' hB') (fun g => absurd (hx h1).symm (zF_e0 g))
/-- passed tick by tick, and asked in between -/
theorem zl_459 {x15 : Int32} (hn : n < 128) (hm : m ≤ 30) (hM : zMI M t b) (hb : b ≤ 800000) (ht : t ≤ 1900) (K : ∀ B' : zSt, zIy B' (zit r137 m (zmS M 0 (Int32.ofInt 0))) → zEs xs 7 214 512 (zb32 p l s d mi kk at9 n m q (some (.int x15)) (some (.int (Int32.ofNat m))) (o17)) [] (zw A B') nc ns P) : ∀ (g i : Nat) (B : zSt), i + g = m → zIy B (zit r137 i (zmS M 0 (Int32.ofInt 0))) → zEs xs 7 214 459 (zb32 p l s d mi kk at9 n m q (some (.int x15)) (some (.int (Int32.ofNat i))) (o17)) [] (zw A B) nc ns P
  | 0, i, B, hi, hB => by
    have him : i = m := by omega
    refine zEs_run 2 (L' := (zb32 p l s d mi kk at9 n m q (some (.int x15)) (some (.int (Int32.ofNat i))) (o17))) (st' := [.int (Int32.ofNat m), .int (Int32.ofNat i)]) rfl ?_
    refine zEs_icmp rfl (fun _ => ?_) (fun q9 => ?_)
    · rw [him] at hB ⊢
      exact K B hB
    · have q9 := zF_ge_f q9
      rw [him] at q9
      omega
  | g' + 1, i, B, hi, hB => by
    have ei : (Int32.ofNat i).toInt = i := zofI (by omega)
    have em : (Int32.ofNat m).toInt = m := zofI (by omega)
    refine zEs_run 2 (L' := (zb32 p l s d mi kk at9 n m q (some (.int x15)) (some (.int (Int32.ofNat i))) (o17))) (st' := [.int (Int32.ofNat m), .int (Int32.ofNat i)]) rfl ?_
    refine zEs_icmp rfl (fun q9 => ?_) (fun q9 => ?_)
    · have q9 := zF_ge_t q9
      omega
    · have q9 := zF_ge_f q9
      have hMi := zMI_it (k := i) hM (by omega) (by omega)
      have e1 := z150_1 (M := zmS M 0 (Int32.ofInt 0)) (k := i) (by have := hM.2.2.1.2; show (M.1 4).toInt + _ ≤ _; omega) hM.2.2.1.1 zt0
      have hMj := zMI_it (k := i + 1) hM (by omega) (by omega)
      obtain ⟨Ma, hMa⟩ : ∃ Ma, Ma = zit r137 i (zmS M 0 (Int32.ofInt 0)) := ⟨_, rfl⟩
      rw [← hMa] at hB hMi e1
      have x77 : 0 ≤ (Int32.ofNat n).toInt ∧ (Int32.ofNat n).toInt ≤ 127 := by
        rw [zofI (by omega)]
        omega
      have x78 : 0 ≤ (Int32.ofNat (n / 64)).toInt ∧ (Int32.ofNat (n / 64)).toInt ≤ 1 := by
        rw [zofI (by omega)]
        omega
      obtain ⟨B1, hB1, j1⟩ := zm_77 (xs := xs) x77 B hB
      obtain ⟨B2, hB2, j2⟩ := zm_79 (xs := xs) (x1 := Int32.ofInt 9) (by decide) B1 hB1
      obtain ⟨B3, hB3, j3⟩ := zm_78 (xs := xs) x78 B2 hB2
      have t0 : (r150 (Int32.ofInt 1) Ma).1 0 = 0 := by
        rw [e1]
        exact hMj.1
      obtain ⟨B4, hB4, j4⟩ := zm_63 (xs := xs) t0 B3 hB3
      rw [e1] at hB4
      refine zEs_run 2 (L' := (zb32 p l s d mi kk at9 n m q (some (.int x15)) (some (.int (Int32.ofNat i))) (o17))) (st' := [.int (Int32.ofNat n), .ref 44]) rfl ?_
      refine zEs_callG rfl rfl (zJ_2 j1 (by decide) rfl rfl) (fun v h9 nc9 ns9 w => ?_) (fun E h9 nc9 ns9 w => by cases w)
      cases w
      refine zEs_run 1 (L' := (zb32 p l s d mi kk at9 n m q (some (.int x15)) (some (.int (Int32.ofNat i))) (o17))) (st' := [.int (Int32.ofInt (-1)), .int (v178 (Int32.ofNat n) Ma)]) rfl ?_
      refine zEs_icmp rfl (fun g => ?_) (fun _ => ?_)
      · have g := zF_lt_t g
        have z := zv178_ge hMi hn
        rw [show (Int32.ofInt (-1)).toInt = -1 by decide] at g
        omega
      refine zEs_run 2 (L' := (zb32 p l s d mi kk at9 n m q (some (.int x15)) (some (.int (Int32.ofNat i))) (o17))) (st' := [.int (Int32.ofInt 9), .ref 44]) rfl ?_
      refine zEs_callG rfl rfl (zJ_2 j2 (by decide) rfl rfl) (fun v h9 nc9 ns9 w => ?_) (fun E h9 nc9 ns9 w => by cases w)
      cases w
      refine zEs_run 1 (L' := (zb32 p l s d mi kk at9 n m q (some (.int x15)) (some (.int (Int32.ofNat i))) (o17))) (st' := [.int (Int32.ofInt 24), .int (v185 (Int32.ofInt 9) Ma)]) rfl ?_
      refine zEs_icmp rfl (fun g => ?_) (fun _ => ?_)
      · have g := zF_gt_t g
        have z := zv185_le (zIy_w hB)
        rw [show (Int32.ofInt 24).toInt = 24 by decide] at g
        omega
      refine zEs_run 2 (L' := (zb32 p l s d mi kk at9 n m q (some (.int x15)) (some (.int (Int32.ofNat i))) (o17))) (st' := [.int (Int32.ofNat (n / 64)), .ref 44]) rfl ?_
      refine zEs_callG rfl rfl (zJ_2 j3 (by decide) rfl rfl) (fun v h9 nc9 ns9 w => ?_) (fun E h9 nc9 ns9 w => by cases w)
      cases w
      refine zEs_run 1 (L' := (zb32 p l s d mi kk at9 n m q (some (.int x15)) (some (.int (Int32.ofNat i))) (o17))) (st' := [.int (Int32.ofInt 7), .int (v180 (Int32.ofNat (n / 64)) Ma)]) rfl ?_
      refine zEs_icmp rfl (fun _ => ?_) (fun g => ?_)
      · refine zEs_run 2 (L' := (zb32 p l s d mi kk at9 n m q (some (.int x15)) (some (.int (Int32.ofNat i))) (o17))) (st' := [.int (Int32.ofInt 1), .ref 44]) rfl ?_
        refine zEs_callG rfl rfl (zJ_2 j4 (by decide) rfl rfl) (fun v h9 nc9 ns9 w => ?_) (fun E h9 nc9 ns9 w => by cases w)
        cases w
        refine zEs_run 3 (L' := (zb32 p l s d mi kk at9 n m q (some (.int x15)) (some (.int (Int32.ofNat i + Int32.ofInt 1))) (o17))) (st' := []) rfl ?_
        rw [zAd1]
        exact zl_459 hn hm hM hb ht K g' (i + 1) B4 (by omega) hB4
      · have g := zF_le_f g
        have z := zv180_le (M := Ma) (p := n / 64) (by omega)
        rw [show (Int32.ofInt 7).toInt = 7 by decide] at g
        omega
theorem zc_448 (hM : zMI M t b) (hA : zIy A M) (hB : zIy B M) (hn : n < 128) (h1 : 1 ≤ m) (h2 : m ≤ 30) (hq : q < 13) (hb : b ≤ 800000) (ht : t ≤ 1900) (K : zK32 xs P p l s d mi kk at9 n m q t b nc ns) : zEs xs 7 214 448 (zb32 p l s d mi kk at9 n m q o15 o16 o17) [] (zw A B) nc ns P := by
  have tt := hM.2.2.1
  obtain ⟨e1, e2⟩ := z150_it (M := M) h1 (show m ≤ 100 by omega) tt.1 (by omega)
  have hMj := zMI_it (k := m) hM (by omega) (by omega)
  have t0 : (r150 (Int32.ofNat m) M).1 0 = 0 := by
    rw [e1]
    exact hMj.1
  obtain ⟨A', hA', jA⟩ := zm_63 (xs := xs) t0 A hA
  rw [e1] at hA'
  rw [e2] at jA
  have hM' := zMI_mo (show t + m ≤ t + 30 by omega) (show b + 8 * m ≤ b + 240 by omega) hMj
  refine zEs_run 2 (L' := (zb32 p l s d mi kk at9 n m q o15 o16 o17)) (st' := [.int (Int32.ofNat m), .ref 0]) rfl ?_
  refine zEs_callG rfl rfl (zJ_1 jA) (fun v h9 nc9 ns9 w => ?_) (fun E h9 nc9 ns9 w => by cases w)
  cases w
  refine zEs_run 3 (L' := (zb32 p l s d mi kk at9 n m q (some (.int ((zit r137 m (zmS M 0 (Int32.ofInt 0))).1 4))) (some (.int (Int32.ofNat 0))) (o17))) (st' := []) rfl ?_
  refine zl_459 (m := m) hn h2 hM hb ht (fun B' hB' => ?_) m 0 B (by omega) ⟨hB.1, zZ_0 hB.2⟩
  obtain ⟨B2, hB2, j2⟩ := zm_74 (xs := xs) (x1 := Int32.ofInt 0) (by decide) B' hB'
  rw [zv172_0] at j2
  refine zEs_run 2 (L' := (zb32 p l s d mi kk at9 n m q (some (.int ((zit r137 m (zmS M 0 (Int32.ofInt 0))).1 4))) (some (.int (Int32.ofNat m))) (o17))) (st' := [.int (Int32.ofInt 0), .ref 44]) rfl ?_
  refine zEs_callG rfl rfl (zJ_2 j2 (by decide) rfl rfl) (fun v h9 nc9 ns9 w => ?_) (fun E h9 nc9 ns9 w => by cases w)
  cases w
  refine zEs_run 1 (L' := (zb32 p l s d mi kk at9 n m q (some (.int ((zit r137 m (zmS M 0 (Int32.ofInt 0))).1 4))) (some (.int (Int32.ofNat m))) (o17))) (st' := [.int ((zit r137 m (zmS M 0 (Int32.ofInt 0))).1 4), .int ((zit r137 m (zmS M 0 (Int32.ofInt 0))).1 4)]) rfl ?_
  exact zEs_icmp rfl (fun _ => K A' B2 _ _ _ _ hM' hA' hB2) (fun g => absurd rfl (zF_e0 g))
/-- the digests are one -/
theorem zc_524 (hM : zMI M t b) (hA : zIy A M) (hB : zIy B M) (K : ∀ A' B' : zSt, zIy A' M → zIy B' M → zEs xs 7 214 112 (zl32 p l s d mi (Int32.ofNat (j + 1)) o9 o10 o11 o12 o13 o14 o15 o16 o17) [] (zw A' B') nc ns P) : zEs xs 7 214 524 (zl32 p l s d mi (Int32.ofNat j) o9 o10 o11 o12 o13 o14 o15 o16 o17) [] (zw A B) nc ns P := by
  have K2 : ∀ A' B' : zSt, zIy A' M → zIy B' M → zEs xs 7 214 546 (zl32 p l s d mi (Int32.ofNat j) o9 o10 o11 o12 o13 o14 o15 o16 o17) [] (zw A' B') nc ns P := fun A' B' a b => by
    refine zEs_run 2 (L' := zl32 p l s d mi (Int32.ofNat j + Int32.ofInt 1) o9 o10 o11 o12 o13 o14 o15 o16 o17) (st' := []) rfl ?_
    rw [zAd1]
    exact K A' B' a b
  refine zEs_run 2 (L' := zl32 p l s d mi (Int32.ofNat j) o9 o10 o11 o12 o13 o14 o15 o16 o17) (st' := [.int (Int32.ofInt 13), .int (Int32.ofNat j)]) rfl ?_
  refine zEs_irem rfl (by decide) ?_
  refine zEs_if rfl (fun _ => K2 A B hA hB) (fun _ => ?_)
  obtain ⟨A', hA', jA⟩ := zm_81 (xs := xs) A hA
  obtain ⟨B', hB', jB⟩ := zm_81 (xs := xs) B hB
  refine zEs_run 1 (L' := zl32 p l s d mi (Int32.ofNat j) o9 o10 o11 o12 o13 o14 o15 o16 o17) (st' := [.ref 0]) rfl ?_
  refine zEs_callG rfl rfl (zJ_1 jA) (fun v h9 nc9 ns9 w => ?_) (fun E h9 nc9 ns9 w => by cases w)
  cases w
  refine zEs_run 1 (L' := zl32 p l s d mi (Int32.ofNat j) o9 o10 o11 o12 o13 o14 o15 o16 o17) (st' := [.ref 44, .long (V188 (zmS M 0 (Int32.ofInt 0)))]) rfl ?_
  refine zEs_callG rfl rfl (zJ_2 jB (by decide) rfl rfl) (fun v h9 nc9 ns9 w => ?_) (fun E h9 nc9 ns9 w => by cases w)
  cases w
  refine zEs_run 1 (L' := zl32 p l s d mi (Int32.ofNat j) o9 o10 o11 o12 o13 o14 o15 o16 o17) (st' := [.int (lg_cmp (V188 (zmS M 0 (Int32.ofInt 0))) (V188 (zmS M 0 (Int32.ofInt 0))))]) rfl ?_
  exact zEs_if rfl (fun _ => K2 A' B' hA' hB') (fun g => absurd (zlcm2 _) (zF_e0 g))
/-- the law's end -/
theorem zc_552 (hP : ∀ h : zH, P (.inl (some (.int 1)), h, nc, ns)) (hb : b ≤ 900000) (hM : zMI M t b) (hA : zIy A M) (hB : zIy B M) : zEs xs 7 214 552 (zl32 p l s d mi (Int32.ofNat j) o9 o10 o11 o12 o13 o14 o15 o16 o17) [] (zw A B) nc ns P := by
  obtain ⟨A1, hA1, jA⟩ := zm_81 (xs := xs) A hA
  obtain ⟨B1, hB1, jB⟩ := zm_81 (xs := xs) B hB
  obtain ⟨A2, hA2, jA2⟩ := zm_80 (xs := xs) hM hb A1 hA1
  obtain ⟨B2, hB2, jB2⟩ := zm_80 (xs := xs) hM hb B1 hB1
  refine zEs_run 1 (L' := zl32 p l s d mi (Int32.ofNat j) o9 o10 o11 o12 o13 o14 o15 o16 o17) (st' := [.ref 0]) rfl ?_
  refine zEs_callG rfl rfl (zJ_1 jA) (fun v h9 nc9 ns9 w => ?_) (fun E h9 nc9 ns9 w => by cases w)
  cases w
  refine zEs_run 1 (L' := zl32 p l s d mi (Int32.ofNat j) o9 o10 o11 o12 o13 o14 o15 o16 o17) (st' := [.ref 44, .long (V188 (zmS M 0 (Int32.ofInt 0)))]) rfl ?_
  refine zEs_callG rfl rfl (zJ_2 jB (by decide) rfl rfl) (fun v h9 nc9 ns9 w => ?_) (fun E h9 nc9 ns9 w => by cases w)
  cases w
  refine zEs_run 1 (L' := zl32 p l s d mi (Int32.ofNat j) o9 o10 o11 o12 o13 o14 o15 o16 o17) (st' := [.int (lg_cmp (V188 (zmS M 0 (Int32.ofInt 0))) (V188 (zmS M 0 (Int32.ofInt 0))))]) rfl ?_
  refine zEs_if rfl (fun g => absurd (zlcm2 _) (zF_n1 g)) (fun _ => ?_)
  refine zEs_run 1 (L' := zl32 p l s d mi (Int32.ofNat j) o9 o10 o11 o12 o13 o14 o15 o16 o17) (st' := [.ref 0]) rfl ?_
  refine zEs_callG rfl rfl (zJ_1 jA2) (fun v h9 nc9 ns9 w => ?_) (fun E h9 nc9 ns9 w => by cases w)
  cases w
  refine zEs_if rfl (fun g => absurd (zF_e1 g) (by decide)) (fun _ => ?_)
  refine zEs_run 1 (L' := zl32 p l s d mi (Int32.ofNat j) o9 o10 o11 o12 o13 o14 o15 o16 o17) (st' := [.ref 44]) rfl ?_
  refine zEs_callG rfl rfl (zJ_2 jB2 (by decide) rfl rfl) (fun v h9 nc9 ns9 w => ?_) (fun E h9 nc9 ns9 w => by cases w)
  cases w
  refine zEs_if rfl (fun g => absurd (zF_e1 g) (by decide)) (fun _ => ?_)
  refine zEs_run 2 (L' := zl32 p l s d mi (Int32.ofNat j) o9 o10 o11 o12 o13 o14 o15 o16 o17) (st' := [.int (Int32.ofInt 1)]) rfl ?_
  exact zEs_end rfl rfl (hP _)
/-- the law, from its loop on -/
theorem zl_112 (hN : xs.length ≤ 100000) (hP : ∀ h : zH, P (.inl (some (.int 1)), h, nc, ns)) : ∀ (g j : Nat) (A B : zSt) (M : zRt) (o9 o10 o11 o12 o13 o14 o15 o16 o17 : Option Value), j + g = 40 → zMI M (30 * j) (240 * j) → zIy A M → zIy B M → zEs xs 7 214 112 (zl32 p l s d mi (Int32.ofNat j) o9 o10 o11 o12 o13 o14 o15 o16 o17) [] (zw A B) nc ns P
  | 0, j, A, B, M, o9, o10, o11, o12, o13, o14, o15, o16, o17, hj, hM, hA, hB => by
    obtain rfl : j = 40 := by omega
    refine zEs_run 2 (L' := (zl32 p l s d mi (Int32.ofNat 40) o9 o10 o11 o12 o13 o14 o15 o16 o17)) (st' := [.int (Int32.ofInt 40), .int (Int32.ofNat 40)]) rfl ?_
    refine zEs_icmp rfl (fun _ => zc_552 hP (by omega) hM hA hB) (fun q9 => ?_)
    have q9 := zF_ge_f q9
    exact absurd q9 (by decide)
  | g' + 1, j, A, B, M, o9, o10, o11, o12, o13, o14, o15, o16, o17, hj, hM, hA, hB => by
    have ej : (Int32.ofNat j).toInt = j := zofI (by omega)
    refine zEs_run 2 (L' := (zl32 p l s d mi (Int32.ofNat j) o9 o10 o11 o12 o13 o14 o15 o16 o17)) (st' := [.int (Int32.ofInt 40), .int (Int32.ofNat j)]) rfl ?_
    refine zEs_icmp rfl (fun q9 => ?_) (fun _ => ?_)
    · have q9 := zF_ge_t q9
      rw [ej, show (Int32.ofInt 40).toInt = 40 by decide] at q9
      omega
    · have ea : Int32.ofInt 10 + Int32.ofInt 7 * Int32.ofNat j = Int32.ofNat (10 + 7 * j) := by
        rw [show Int32.ofInt 10 = Int32.ofNat 10 from rfl, show Int32.ofInt 7 = Int32.ofNat 7 from rfl, ← Int32.ofNat_mul, ← Int32.ofNat_add]
      refine zEs_run 6 (L' := zl32 p l s d mi (Int32.ofNat j) (some (.int (Int32.ofInt 10 + Int32.ofInt 7 * Int32.ofNat j))) o10 o11 o12 o13 o14 o15 o16 o17) (st' := []) rfl ?_
      rw [ea]
      refine zEs_run 3 (L' := zl32 p l s d mi (Int32.ofNat j) (some (.int (Int32.ofNat (10 + 7 * j)))) o10 o11 o12 o13 o14 o15 o16 o17) (st' := [.int (Int32.ofNat 128), .int (Int32.ofNat (10 + 7 * j)), .retAddr 0]) rfl ?_
      refine zEs_callG rfl rfl (zMs_mono (show 1 ≤ 6 by decide) (zm_249 hN (by omega) (by decide) (by decide))) (fun v h9 nc9 ns9 w => ?_) (fun E h9 nc9 ns9 w => by obtain ⟨_, _, w⟩ := w; cases w)
      obtain ⟨n, hn, w⟩ := w
      cases w
      refine zEs_run 3 (L' := zl32 p l s d mi (Int32.ofNat j) (some (.int (Int32.ofNat (10 + 7 * j)))) (some (.int (Int32.ofNat n))) o11 o12 o13 o14 o15 o16 o17) (st' := [.int (Int32.ofNat 64), .int (Int32.ofNat n)]) rfl ?_
      refine zEs_idiv rfl (by decide) ?_
      rw [zdiv9 (by omega) (by decide)]
      refine zEs_run 3 (L' := zl32 p l s d mi (Int32.ofNat j) (some (.int (Int32.ofNat (10 + 7 * j)))) (some (.int (Int32.ofNat n))) (some (.int (Int32.ofNat (n / 64)))) o12 o13 o14 o15 o16 o17) (st' := [.int (Int32.ofNat 8), .int (Int32.ofNat n)]) rfl ?_
      refine zEs_idiv rfl (by decide) ?_
      rw [zdiv9 (by omega) (by decide)]
      refine zEs_run 1 (L' := zl32 p l s d mi (Int32.ofNat j) (some (.int (Int32.ofNat (10 + 7 * j)))) (some (.int (Int32.ofNat n))) (some (.int (Int32.ofNat (n / 64)))) o12 o13 o14 o15 o16 o17) (st' := [.int (Int32.ofNat 8), .int (Int32.ofNat (n / 8))]) rfl ?_
      refine zEs_irem rfl (by decide) ?_
      rw [zrem9 (by omega) (by decide)]
      refine zEs_run 7 (L' := zl32 p l s d mi (Int32.ofNat j) (some (.int (Int32.ofNat (10 + 7 * j)))) (some (.int (Int32.ofNat n))) (some (.int (Int32.ofNat (n / 64)))) (some (.int (Int32.ofNat (n / 8 % 8)))) o13 o14 o15 o16 o17) (st' := [.int (Int32.ofNat 30), .int (Int32.ofNat (10 + 7 * j) + Int32.ofInt 1), .retAddr 0, .int (Int32.ofInt 1)]) rfl ?_
      rw [zAd1]
      refine zEs_callG rfl rfl (zMs_mono (show 1 ≤ 6 by decide) (zm_249 hN (by omega) (by decide) (by decide))) (fun v h9 nc9 ns9 w => ?_) (fun E h9 nc9 ns9 w => by obtain ⟨_, _, w⟩ := w; cases w)
      obtain ⟨m, hm, w⟩ := w
      cases w
      have em : Int32.ofInt 1 + Int32.ofNat m = Int32.ofNat (m + 1) := by
        rw [Int32.add_comm]
        exact zAd1
      refine zEs_run 2 (L' := zl32 p l s d mi (Int32.ofNat j) (some (.int (Int32.ofNat (10 + 7 * j)))) (some (.int (Int32.ofNat n))) (some (.int (Int32.ofNat (n / 64)))) (some (.int (Int32.ofNat (n / 8 % 8)))) (some (.int (Int32.ofInt 1 + Int32.ofNat m))) o14 o15 o16 o17) (st' := []) rfl ?_
      rw [em]
      refine zEs_run 5 (L' := zl32 p l s d mi (Int32.ofNat j) (some (.int (Int32.ofNat (10 + 7 * j)))) (some (.int (Int32.ofNat n))) (some (.int (Int32.ofNat (n / 64)))) (some (.int (Int32.ofNat (n / 8 % 8)))) (some (.int (Int32.ofNat (m + 1)))) o14 o15 o16 o17) (st' := [.int (Int32.ofNat 13), .int (Int32.ofNat (10 + 7 * j) + Int32.ofNat 2), .retAddr 0]) rfl ?_
      rw [← Int32.ofNat_add]
      refine zEs_callG rfl rfl (zMs_mono (show 1 ≤ 6 by decide) (zm_249 hN (by omega) (by decide) (by decide))) (fun v h9 nc9 ns9 w => ?_) (fun E h9 nc9 ns9 w => by obtain ⟨_, _, w⟩ := w; cases w)
      obtain ⟨q, hq, w⟩ := w
      cases w
      refine zEs_run 6 (L' := zl32 p l s d mi (Int32.ofNat j) (some (.int (Int32.ofNat (10 + 7 * j)))) (some (.int (Int32.ofNat n))) (some (.int (Int32.ofNat (n / 64)))) (some (.int (Int32.ofNat (n / 8 % 8)))) (some (.int (Int32.ofNat (m + 1)))) (some (.int (Int32.ofNat q))) o15 o16 o17) (st' := [.int (Int32.ofNat 9), .int (Int32.ofNat (10 + 7 * j) + Int32.ofNat 3), .retAddr 0]) rfl ?_
      rw [← Int32.ofNat_add]
      refine zEs_callG rfl rfl (zMs_mono (show 1 ≤ 6 by decide) (zm_249 hN (by omega) (by decide) (by decide))) (fun v h9 nc9 ns9 w => ?_) (fun E h9 nc9 ns9 w => by obtain ⟨_, _, w⟩ := w; cases w)
      obtain ⟨c, hc, w⟩ := w
      cases w
      have K : zK32 xs P p l s d mi (Int32.ofNat j) (Int32.ofNat (10 + 7 * j)) n (m + 1) q (30 * j) (240 * j) nc ns := fun A' B' M' p15 p16 p17 hM' hA' hB' => zc_524 hM' hA' hB' (fun A2 B2 hA2 hB2 => zl_112 hN hP g' (j + 1) A2 B2 M' _ _ _ _ _ _ _ _ _ (by omega) (zMI_mo (by omega) (by omega) hM') hA2 hB2)
      refine zEs_tab [236, 263, 288, 344, 380, 431, 448] rfl (by decide) rfl (List.forall_mem_cons.mpr ⟨?_, List.forall_mem_cons.mpr ⟨?_, List.forall_mem_cons.mpr ⟨?_, List.forall_mem_cons.mpr ⟨?_, List.forall_mem_cons.mpr ⟨?_, List.forall_mem_cons.mpr ⟨?_, List.forall_mem_cons.mpr ⟨?_, fun _ h => absurd h List.not_mem_nil⟩⟩⟩⟩⟩⟩⟩)
      · exact zc_236 (m := m + 1) hM hA hB hn (by omega) (by omega) hq (by omega) (by omega) K
      · exact zc_263 (m := m + 1) hM hA hB hn (by omega) (by omega) hq (by omega) (by omega) K
      · exact zc_288 (m := m + 1) hM hA hB hn (by omega) (by omega) hq (by omega) (by omega) K
      · exact zc_344 (m := m + 1) hM hA hB hn (by omega) (by omega) hq (by omega) (by omega) K
      · exact zc_380 (m := m + 1) hM hA hB hn (by omega) (by omega) hq (by omega) (by omega) K
      · exact zc_431 (m := m + 1) hM hA hB hn (by omega) (by omega) hq (by omega) (by omega) K
      · exact zc_448 (m := m + 1) hM hA hB hn (by omega) (by omega) hq (by omega) (by omega) K
end ZLW
