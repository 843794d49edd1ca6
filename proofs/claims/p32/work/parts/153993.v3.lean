/-! digest: of both. -/
section ZL3AC
variable {S S' : zSt} {M M' : zRt} {x1 : Int32} {k n m e l w : Nat} {d : Int64}
theorem zD1_cg {f g : Nat → Int32} : ∀ (n : Nat) (d : Int64), (∀ i, i < n → f i = g i) → zD1 f n d = zD1 g n d
  | 0, _, _ => rfl
  | n + 1, d, h => by
    show zmx (zD1 f n d) (f n).toInt64 = zmx (zD1 g n d) (g n).toInt64
    rw [zD1_cg n d (fun i hi => h i (by omega)), h n (by omega)]
theorem zD2_cg {f g : Nat → Nat → Int32} {m : Nat} : ∀ (n : Nat) (d : Int64), (∀ i j, i < n → j < m → f i j = g i j) → zD2 f m n d = zD2 g m n d
  | 0, _, _ => rfl
  | n + 1, d, h => by
    show zD1 (f n) m (zD2 f m n d) = zD1 (g n) m (zD2 g m n d)
    rw [zD2_cg n d (fun i j hi hj => h i j (by omega) hj), zD1_cg m _ (fun j hj => h n j (by omega) hj)]
theorem zD3_cg {a b c a' b' c' : Nat → Int32} : ∀ (n : Nat) (d : Int64), (∀ i, i < n → a i = a' i ∧ b i = b' i ∧ c i = c' i) → zD3 a b c n d = zD3 a' b' c' n d
  | 0, _, _ => rfl
  | n + 1, d, h => by
    show zmx (zmx (zmx (zD3 a b c n d) (a n).toInt64) (b n).toInt64) (c n).toInt64 = zmx (zmx (zmx (zD3 a' b' c' n d) (a' n).toInt64) (b' n).toInt64) (c' n).toInt64
    obtain ⟨h1, h2, h3⟩ := h n (by omega)
    rw [zD3_cg n d (fun i hi => h i (by omega)), h1, h2, h3]
theorem zDB_cg {f g : Nat → Int64 → Int64} : ∀ (n : Nat) (d : Int64), (∀ i, i < n → f i = g i) → zDB f n d = zDB g n d
  | 0, _, _ => rfl
  | n + 1, d, h => by
    show f n (zDB f n d) = g n (zDB g n d)
    rw [zDB_cg n d (fun i hi => h i (by omega)), h n (by omega)]
theorem zbk_cg {b0 b1 sp b0' b1' sp' : Int32} {he he' : UInt64} {f g : Nat → Nat → Int32} (h0 : b0 = b0') (h1 : b1 = b1') (h2 : sp = sp') (h3 : he = he') (h4 : ∀ i j, i < 10 → j < 5 → f i j = g i j) : zbk b0 b1 sp he f = zbk b0' b1' sp' he' g := by
  subst h0 h1 h2 h3
  funext d
  unfold zbk
  exact zD2_cg _ _ h4
theorem zdgv_cg {bd co bd' co' a b c a' b' c' : Nat → Int32} {u u' ne ne' : Nat} {f2 f3 f2' f3' lk lk' : Int32} {so so' : Int64} {bk bk' : Nat → Int64 → Int64} {en en' : Nat → Nat → Int32} (h1 : ∀ i, i < 18 → bd i = bd' i) (hu : u = u') (h2 : ∀ i, i < u → co i = co' i) (e2 : f2 = f2') (e3 : f3 = f3') (h3 : ∀ i, i < 2 → bk i = bk' i) (h4 : ∀ i, i < 128 → a i = a' i ∧ b i = b' i ∧ c i = c' i) (hn : ne = ne') (h5 : ∀ i j, i < ne → j < 3 → en i j = en' i j) (hl : lk = lk') (hs : so = so') : zdgv bd co u f2 f3 bk a b c en ne lk so = zdgv bd' co' u' f2' f3' bk' a' b' c' en' ne' lk' so' := by
  subst hu e2 e3 hn hl hs
  unfold zdgv
  rw [zD1_cg 18 _ h1, zD1_cg u _ h2, zDB_cg 2 _ h3, zD3_cg 128 _ h4, zD2_cg ne _ h5]
theorem zAn_q {R : Option Value ⊕ Nat} {v t : Int32} {kc : Nat → Int32} (h : zAn R v t kc) (hr : ∀ E, R = .inr E → ¬ kc E = 0) (ht : t = 0) : zri R = v := by
  rcases h with ⟨x, r1, r2, r3⟩ | ⟨E, r1, r2⟩
  · rw [r1]
    exact r2.symm
  · exact absurd (r2.symm.trans ht) (hr E r1)
theorem zAfl_q {R : Option Value ⊕ Nat} {v : UInt64} {t : Int32} {kc : Nat → Int32} (h : zAfl R v t kc) (hr : ∀ E, R = .inr E → ¬ kc E = 0) (ht : t = 0) : zrfd R = v := by
  rcases h with ⟨x, r1, r2, r3⟩ | ⟨E, r1, r2⟩
  · rw [r1]
    exact r2.symm
  · exact absurd (r2.symm.trans ht) (hr E r1)
theorem zn112 {b : Int32} (hk : k ≤ n) (hn : n < 1000) (e : b.toInt = (n : Int)) : ¬ v112 (Int32.ofNat k) (Int32.ofInt 0) b M = 0 := fun z => v112_1.mp z (by
  rw [zofI (by omega), show (Int32.ofInt 0).toInt = 0 by decide, e]
  omega)
theorem zd_74 (hp : zSp S M) (h : zE S M) (hk : k < 18) : zb81 S k = zmbd (zmS M 0 (Int32.ofInt 0)) k := by
  have n1 : ¬ v112 (Int32.ofNat k) (Int32.ofInt 0) (Int32.ofInt 17) (zmS M 0 (Int32.ofInt 0)) = 0 := zn112 (n := 17) (by omega) (by decide) (by decide)
  have hr : r172 (Int32.ofNat k) M = (zmS M 0 (Int32.ofInt 0)) := (if_neg n1)
  have hv : v172 (Int32.ofNat k) M = v171 (Int32.ofNat k) (zmS M 0 (Int32.ofInt 0)) := (if_neg n1)
  have z := (zM_74 (x1 := Int32.ofNat k) hp h).2
  rw [hr, hv] at z
  exact zAn_q z (fun E e9 => by rcases rs_74 (S := S) (x1 := Int32.ofNat k) with ⟨x, hx⟩ | hx <;> rw [hx] at e9 <;> cases e9 <;> decide) zM00
theorem zd_69_2 (h : zE S M) : zri (R69 (Int32.ofInt 2) S) = v156 (Int32.ofInt 2) (zmS M 0 (Int32.ofInt 0)) := by
  have n1 : ¬ v112 (Int32.ofInt 2) (Int32.ofInt 2) (Int32.ofInt 3) (zmS M 0 (Int32.ofInt 0)) = 0 := fun z => v112_1.mp z (by decide)
  have hr : r157 (Int32.ofInt 2) M = (zmS M 0 (Int32.ofInt 0)) := (if_neg n1)
  have hv : v157 (Int32.ofInt 2) M = v156 (Int32.ofInt 2) (zmS M 0 (Int32.ofInt 0)) := (if_neg n1)
  have z := (zM_69 (x1 := Int32.ofInt 2) h).2
  rw [hr, hv] at z
  exact zAn_q z (fun E e9 => by rcases rs_69 (S := S) (x1 := Int32.ofInt 2) with ⟨x, hx⟩ | hx <;> rw [hx] at e9 <;> cases e9 <;> decide) zM00
theorem zd_69_3 (h : zE S M) : zri (R69 (Int32.ofInt 3) S) = v156 (Int32.ofInt 3) (zmS M 0 (Int32.ofInt 0)) := by
  have n1 : ¬ v112 (Int32.ofInt 3) (Int32.ofInt 2) (Int32.ofInt 3) (zmS M 0 (Int32.ofInt 0)) = 0 := fun z => v112_1.mp z (by decide)
  have hr : r157 (Int32.ofInt 3) M = (zmS M 0 (Int32.ofInt 0)) := (if_neg n1)
  have hv : v157 (Int32.ofInt 3) M = v156 (Int32.ofInt 3) (zmS M 0 (Int32.ofInt 0)) := (if_neg n1)
  have z := (zM_69 (x1 := Int32.ofInt 3) h).2
  rw [hr, hv] at z
  exact zAn_q z (fun E e9 => by rcases rs_69 (S := S) (x1 := Int32.ofInt 3) with ⟨x, hx⟩ | hx <;> rw [hx] at e9 <;> cases e9 <;> decide) zM00
theorem zd_73 {x2 : Int32} (h : zE S M) (hk : k < 2) : zri (R73 (Int32.ofNat k) x2 S) = u169_1 (Int32.ofNat k) x2 (zmS M 0 (Int32.ofInt 0)) := by
  have n1 : ¬ v112 (Int32.ofNat k) (Int32.ofInt 0) (Int32.ofInt 1) (zmS M 0 (Int32.ofInt 0)) = 0 := zn112 (n := 1) (by omega) (by decide) (by decide)
  have hr : r170 (Int32.ofNat k) x2 M = (zmS M 0 (Int32.ofInt 0)) := (if_neg n1)
  have hv : v170 (Int32.ofNat k) x2 M = u169_1 (Int32.ofNat k) x2 (zmS M 0 (Int32.ofInt 0)) := (if_neg n1)
  have z := (zM_73 (x1 := Int32.ofNat k) (x2 := x2) h).2
  rw [hr, hv] at z
  exact zAn_q z (fun E e9 => by rcases rs_73 (S := S) (x1 := Int32.ofNat k) (x2 := x2) with ⟨x, hx⟩ | hx <;> rw [hx] at e9 <;> cases e9 <;> decide) zM00
theorem zd_78 (h : zE S M) (hk : k < 2) : zri (R78 (Int32.ofNat k) S) = v179 (Int32.ofNat k) (zmS M 0 (Int32.ofInt 0)) := by
  have n1 : ¬ v112 (Int32.ofNat k) (Int32.ofInt 0) (Int32.ofInt 1) (zmS M 0 (Int32.ofInt 0)) = 0 := zn112 (n := 1) (by omega) (by decide) (by decide)
  have hr : r180 (Int32.ofNat k) M = (zmS M 0 (Int32.ofInt 0)) := (if_neg n1)
  have hv : v180 (Int32.ofNat k) M = v179 (Int32.ofNat k) (zmS M 0 (Int32.ofInt 0)) := (if_neg n1)
  have z := (zM_78 (x1 := Int32.ofNat k) h).2
  rw [hr, hv] at z
  exact zAn_q z (fun E e9 => by rcases rs_78 (S := S) (x1 := Int32.ofNat k) with ⟨x, hx⟩ | hx <;> rw [hx] at e9 <;> cases e9 <;> decide) zM00
theorem zd_75 (h : zE S M) (hk : k < 2) : zrfd (R75 (Int32.ofNat k) S) = v173 (Int32.ofNat k) (zmS M 0 (Int32.ofInt 0)) := by
  have n1 : ¬ v112 (Int32.ofNat k) (Int32.ofInt 0) (Int32.ofInt 1) (zmS M 0 (Int32.ofInt 0)) = 0 := zn112 (n := 1) (by omega) (by decide) (by decide)
  have hr : r174 (Int32.ofNat k) M = (zmS M 0 (Int32.ofInt 0)) := (if_neg n1)
  have hv : v174 (Int32.ofNat k) M = v173 (Int32.ofNat k) (zmS M 0 (Int32.ofInt 0)) := (if_neg n1)
  have z := (zM_75 (x1 := Int32.ofNat k) h).2
  rw [hr, hv] at z
  exact zAfl_q z (fun E e9 => by rcases rs_75 (S := S) (x1 := Int32.ofNat k) with ⟨x, hx⟩ | hx <;> rw [hx] at e9 <;> cases e9 <;> decide) zM00
theorem zd_71 (h : zE S M) (hk : k < 2) (hl : l < 10) (hw : w < 5) : zlnw (Int32.ofNat k) S l w = zmn9 (Int32.ofNat k) (zmS M 0 (Int32.ofInt 0)) l w := by
  show zri (R71 (Int32.ofNat k) (Int32.ofNat l) (Int32.ofNat w) S) = v163 (Int32.ofNat k * (Int8.ofInt 10).toInt32 + Int32.ofNat l) (Int32.ofNat w) (zmS M 0 (Int32.ofInt 0))
  rw [show (Int8.ofInt 10).toInt32 = Int32.ofInt 10 by decide]
  have n1 : ¬ v112 (Int32.ofNat k) (Int32.ofInt 0) (Int32.ofInt 1) (zmS M 0 (Int32.ofInt 0)) = 0 := zn112 (n := 1) (by omega) (by decide) (by decide)
  have n2 : ¬ v112 (Int32.ofNat l) (Int32.ofInt 0) (Int32.ofInt 9) (zmS M 0 (Int32.ofInt 0)) = 0 := zn112 (n := 9) (by omega) (by decide) (by decide)
  have n3 : ¬ v112 (Int32.ofNat w) (Int32.ofInt 0) (Int32.ofInt 4) (zmS M 0 (Int32.ofInt 0)) = 0 := zn112 (n := 4) (by omega) (by decide) (by decide)
  have hr : r164 (Int32.ofNat k) (Int32.ofNat l) (Int32.ofNat w) M = (zmS M 0 (Int32.ofInt 0)) := (((if_neg n1).trans (if_neg n2)).trans (if_neg n3))
  have hv : v164 (Int32.ofNat k) (Int32.ofNat l) (Int32.ofNat w) M = v163 (Int32.ofNat k * Int32.ofInt 10 + Int32.ofNat l) (Int32.ofNat w) (zmS M 0 (Int32.ofInt 0)) := (((if_neg n1).trans (if_neg n2)).trans (if_neg n3))
  have z := (zM_71 (x1 := Int32.ofNat k) (x2 := Int32.ofNat l) (x3 := Int32.ofNat w) h).2
  rw [hr, hv] at z
  exact zAn_q z (fun E e9 => by rcases rs_71 (S := S) (x1 := Int32.ofNat k) (x2 := Int32.ofNat l) (x3 := Int32.ofNat w) with ⟨x, hx⟩ | hx | hx <;> rw [hx] at e9 <;> cases e9 <;> decide) zM00
theorem zd_70_0 (h : zE S M) (hk : k < 128) : zo81 (Int32.ofInt 0) S k = zmw (Int32.ofInt 0) (zmS M 0 (Int32.ofInt 0)) k := by
  have n1 : ¬ v138 (Int32.ofNat k) (zmS M 0 (Int32.ofInt 0)) = 0 := zn112 (n := 127) (by omega) (by decide) (by decide)
  have n2 : ¬ v112 (Int32.ofInt 0) (Int32.ofInt 0) (Int32.ofInt 6) (zmS M 0 (Int32.ofInt 0)) = 0 := fun z => v112_1.mp z (by decide)
  have hr : r160 (Int32.ofNat k) (Int32.ofInt 0) M = (zmS M 0 (Int32.ofInt 0)) := ((if_neg n1).trans (if_neg n2))
  have hv : v160 (Int32.ofNat k) (Int32.ofInt 0) M = v159 (Int32.ofNat k) (Int32.ofInt 0) (zmS M 0 (Int32.ofInt 0)) := ((if_neg n1).trans (if_neg n2))
  have z := (zM_70 (x1 := Int32.ofNat k) (x2 := Int32.ofInt 0) h).2
  rw [hr, hv] at z
  exact zAn_q z (fun E e9 => by rcases rs_70 (S := S) (x1 := Int32.ofNat k) (x2 := Int32.ofInt 0) with ⟨x, hx⟩ | hx | hx <;> rw [hx] at e9 <;> cases e9 <;> decide) zM00
theorem zd_70_2 (h : zE S M) (hk : k < 128) : zo81 (Int32.ofInt 2) S k = zmw (Int32.ofInt 2) (zmS M 0 (Int32.ofInt 0)) k := by
  have n1 : ¬ v138 (Int32.ofNat k) (zmS M 0 (Int32.ofInt 0)) = 0 := zn112 (n := 127) (by omega) (by decide) (by decide)
  have n2 : ¬ v112 (Int32.ofInt 2) (Int32.ofInt 0) (Int32.ofInt 6) (zmS M 0 (Int32.ofInt 0)) = 0 := fun z => v112_1.mp z (by decide)
  have hr : r160 (Int32.ofNat k) (Int32.ofInt 2) M = (zmS M 0 (Int32.ofInt 0)) := ((if_neg n1).trans (if_neg n2))
  have hv : v160 (Int32.ofNat k) (Int32.ofInt 2) M = v159 (Int32.ofNat k) (Int32.ofInt 2) (zmS M 0 (Int32.ofInt 0)) := ((if_neg n1).trans (if_neg n2))
  have z := (zM_70 (x1 := Int32.ofNat k) (x2 := Int32.ofInt 2) h).2
  rw [hr, hv] at z
  exact zAn_q z (fun E e9 => by rcases rs_70 (S := S) (x1 := Int32.ofNat k) (x2 := Int32.ofInt 2) with ⟨x, hx⟩ | hx | hx <;> rw [hx] at e9 <;> cases e9 <;> decide) zM00
theorem zd_77 (h : zE S M) (hk : k < 128) : zr81 S k = zmrd (zmS M 0 (Int32.ofInt 0)) k := by
  have n1 : ¬ v138 (Int32.ofNat k) (zmS M 0 (Int32.ofInt 0)) = 0 := zn112 (n := 127) (by omega) (by decide) (by decide)
  have hr : r178 (Int32.ofNat k) M = (zmS M 0 (Int32.ofInt 0)) := (if_neg n1)
  have hv : v178 (Int32.ofNat k) M = v177 (Int32.ofNat k) (zmS M 0 (Int32.ofInt 0)) := (if_neg n1)
  have z := (zM_77 (x1 := Int32.ofNat k) h).2
  rw [hr, hv] at z
  exact zAn_q z (fun E e9 => by rcases rs_77 (S := S) (x1 := Int32.ofNat k) with ⟨x, hx⟩ | hx <;> rw [hx] at e9 <;> cases e9 <;> decide) zM00
theorem zd_72 (h : zE S M) (he : e < (M.2.2.1 2).length) (hw : w < 3) : ze81 S e w = zmE (zmS M 0 (Int32.ofInt 0)) e w := by
  have n1 : ¬ v112 (Int32.ofNat e) (Int32.ofInt 0) (Int32.ofNat ((zmS M 0 (Int32.ofInt 0)).2.2.1 2).length - Int32.ofInt 1) (zmS M 0 (Int32.ofInt 0)) = 0 := fun z => v112_1.mp z (by
    have h40 : (M.2.2.1 2).length ≤ 40 := (zE_lg h).2.1
    rw [show ((zmS M 0 (Int32.ofInt 0)).2.2.1 2).length = (M.2.2.1 2).length from rfl, zlnm1 h40, zofI (by omega), show (Int32.ofInt 0).toInt = 0 by decide]
    omega)
  have n2 : ¬ v112 (Int32.ofNat w) (Int32.ofInt 0) (Int32.ofInt 2) (zmS M 0 (Int32.ofInt 0)) = 0 := zn112 (n := 2) (by omega) (by decide) (by decide)
  have hr : r165 (Int32.ofNat e) (Int32.ofNat w) M = (zmS M 0 (Int32.ofInt 0)) := ((if_neg n1).trans (if_neg n2))
  have hv : v165 (Int32.ofNat e) (Int32.ofNat w) M = zgt (((zmS M 0 (Int32.ofInt 0)).2.2.1 2).getD (Int32.toNatClampNeg (Int32.ofNat e)) []) (Int32.ofNat w) := ((if_neg n1).trans (if_neg n2))
  have z := (zM_72 (x1 := Int32.ofNat e) (x2 := Int32.ofNat w) h).2
  rw [hr, hv] at z
  exact zAn_q z (fun E e9 => by rcases rs_72 (S := S) (x1 := Int32.ofNat e) (x2 := Int32.ofNat w) with ⟨x, hx⟩ | hx | hx <;> rw [hx] at e9 <;> cases e9 <;> decide) zM00
theorem zd_79 (h : zE S M) (ht : 0 ≤ (S.1 4).toInt ∧ (S.1 4).toInt ≤ 5000) : zri (R79 z20 S) = v183 z20 (zmS M 0 (Int32.ofInt 0)) := by
  have n1 : ¬ v112 z20 (Int32.ofInt 1) (Int32.ofInt 100) (zmS M 0 (Int32.ofInt 0)) = 0 := fun z => v112_1.mp z (by decide)
  have hr : r185 z20 M = (zmS M 0 (Int32.ofInt 0)) := (if_neg n1)
  have hv : v185 z20 M = v183 z20 (zmS M 0 (Int32.ofInt 0)) := (if_neg n1)
  have z := zM_79 (x1 := z20) h ht
  rw [hr, hv] at z
  exact zAn_q z (fun E e9 => by rcases rs_79 (S := S) (x1 := z20) with ⟨x, hx⟩ | hx <;> rw [hx] at e9 <;> cases e9 <;> decide) zM00
theorem zE_F79 (h : zE S M) : zE (F79 x1 S) M := ⟨zB3_fr fr_F79 (gm_rf (W := []) (V := []) (Y := [])) (by decide) (by decide) h.1, zX9_fr fr_F79 (gm_rf (W := []) (V := []) (Y := [])) (by decide) (by decide) h.2⟩
theorem zd_81 (hp : zSp S M) (h : zE S M) (ht : 0 ≤ (S.1 4).toInt ∧ (S.1 4).toInt ≤ 5000) : V81 S = V188 (zmS M 0 (Int32.ofInt 0)) := by
  obtain ⟨a, r, c1, c2, c3, c4, c5⟩ := zE_co h
  obtain ⟨b1, b2, b3, b4, b5⟩ := zcds_kr _ c1.1
  have b2 : a ≤ 10 := b2
  have b4 : r ≤ 6 := b4
  have b5 : (zcol a r).length = a + r := b5
  obtain ⟨q1, q2, q3, q4, ⟨t, q5⟩, q6⟩ := c1
  have hn : (S.1 2).toInt.toNat = a + r := by
    rw [q4, zof_0 (by omega)]
    omega
  have hm : (zmS M 0 (Int32.ofInt 0)).2.2.2 = zcol a r := c4
  unfold V81 V188
  refine zdgv_cg (fun i hi => zd_74 hp h hi) ?_ (fun i hi => ?_) (zd_69_2 h) (zd_69_3 h) (fun i hi => ?_) (fun i hi => ⟨zd_70_0 h hi, zd_70_2 h hi, zd_77 h hi⟩) ?_ (fun i j hi hj => ?_) (zd_79 h ht) ?_
  · rw [hn, hm, b5, zof_0 (by omega)]
    omega
  · rw [hn] at hi
    show zgt (S.2 0) (Int32.ofNat i) = zgt (zmS M 0 (Int32.ofInt 0)).2.2.2 (Int32.ofNat i)
    rw [hm, q5, zgt_n (by omega), zgt_n (by omega), List.getD_eq_getElem?_getD, List.getD_eq_getElem?_getD, List.getElem?_append_left (by omega)]
  · exact zbk_cg (zd_73 h hi) (zd_73 h hi) (zd_78 h hi) (zd_75 h hi) (fun l w hl hw => zd_71 h hi hl hw)
  · rw [(zE_lg h).1]
  · have e9 : (S.1 11).toInt.toNat = (M.2.2.1 2).length := by
      have := (zE_lg h).2.1
      rw [(zE_lg h).1, zof_0 (by omega)]
      omega
    rw [e9] at hi
    exact zd_72 h hi hj
  · rw [zE_80 (zE_0 (t := Int32.ofInt 0) (zE_F79 (x1 := z20) h)), show (Int32.ofInt 0).toInt64 = Int64.ofNat 0 by decide, show (Int32.ofInt 1).toInt64 = Int64.ofNat 1 by decide]
end ZL3AC
