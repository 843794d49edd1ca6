/-! digest and tell of the reference: they leave it, but for thrown. -/
section ZL4
variable {xs : List Int32} {N : Nat} {S0 : zSt} {M : zRt} {X : zXt} {kq : Nat × Nat × List Value} {nc ns : Nat}
theorem z188_ok : zpyf [43] zqo 188 36 = true := by decide +kernel
theorem l_188r : ∀ (N k : Nat) (d : Int64) (X : zXt) (nc ns : Nat), zUX kq X M.2.2 → zpE xs N 188 11 [some (.ref 44), some (.long d), none, some (.int (Int32.ofNat k)), none, none, none] [] (zy S0 (zmS M 0 (Int32.ofInt 0)) X) nc ns (fun o => zIt S0 M kq o.2.1)
  | 0, _, _, _, _, _, _ => zpE_0
  | N + 1, k, d, X, nc, ns, hX => by
    refine zpE_run1 1 rfl ?_
    refine zpE_icmp rfl (fun _ => ?_) (fun _ => ?_)
    · intro n hn d o e
      exact zinvf zqo_ok z188_ok rfl zIt_put n d 36 _ _ _ _ _ o (Nat.le_refl _) ⟨_, X, hX, rfl⟩ e
    · refine zpE_run 5 (L' := [some (.ref 44), some (.long d), none, some (.int (Int32.ofNat k)), none, none, none]) (st' := [.int (Int32.ofNat k), .ref 44, .long (d * Int64.ofNat 31)]) rfl ?_
      refine zpE_call rfl rfl (f_171 (M := zmS M 0 (Int32.ofInt 0)) (x1 := Int32.ofNat k) hX) (fun v h1 nc1 ns1 q8 => ?_) (fun E h1 nc1 ns1 q8 => by obtain ⟨_, _, q8, _⟩ := q8; cases q8)
      obtain ⟨X2, hX2, q8, q9⟩ := q8
      cases q8
      cases q9
      have G := fun d nc ns => l_188r N (k + 1) d X2 nc ns hX2
      rw [← zof1] at G
      exact zpE_run 5 rfl (G _ _ _)
theorem f_188 (hX : zUX kq X M.2.2) : zpM xs N 188 [.ref 44] (zy S0 M X) nc ns (fun o => zIt S0 M kq o.2.1) := by
  intro L0 e
  cases e
  refine zpE_run 3 (st' := []) (h' := zy S0 (zmS M 0 (Int32.ofInt 0)) X) rfl ?_
  exact zpE_run 4 rfl (l_188r N 0 _ X _ _ hX)
/-- new cells behind -/
theorem zy_apU {U : zH} : zy S0 M X ++ U = zy S0 M (X.1, X.2.1, X.2.2 ++ U) := by
  rw [zy_bs, List.append_assoc]
  rfl
theorem l_175r {b rw : Int32} (hX : zUX kq X M.2.2) : ∀ (N j : Nat) (o5 o6 : Option Value) (bs : List Value) (nc ns : Nat), j ≤ 8 → bs.length = 16 → (∀ x ∈ bs, zbyt x = true) → zpE xs N 175 43 [some (.ref 44), some (.int b), some (.int rw), some (.ref (zy S0 M X).length), some (.int (Int32.ofNat j)), o5, o6] [] (zsb (zy S0 M X) j (.int 0) bs) nc ns (fun o => ∃ X', zUX kq X' M.2.2 ∧ o.2.1 = zy S0 M X')
  | 0, _, _, _, _, _, _, _, _, _ => zpE_0
  | N + 1, j, o5, o6, bs, nc, ns, h1, h2, h3 => by
    have e8 : ((Int8.ofInt 8).toInt32).toInt = 8 := by decide
    have ej : (Int32.ofNat j).toInt = (j : Int) := Int32.toInt_ofNat_of_lt (by omega)
    refine zpE_run1 1 (L' := [some (.ref 44), some (.int b), some (.int rw), some (.ref (zy S0 M X).length), some (.int (Int32.ofNat j)), o5, o6]) (st' := [.int (Int8.ofInt 8).toInt32, .int (Int32.ofNat j)]) rfl ?_
    refine zpE_icmp rfl (fun g1 => ?_) (fun g1 => ?_)
    · refine zpE_run 1 rfl ?_
      refine zpE_call rfl (show zcallV 0 8 222 144 [.ref (zy S0 M X).length] (zsb (zy S0 M X) j (.int 0) bs) = _ from zcallV_eq rfl zsb0 (by decide)) (zpM_of (m_222 (D := 14) h2 (by omega) (List.all_eq_true.mpr (fun x hx => h3 x (List.mem_of_mem_take hx))))) (fun v h9 nc1 ns1 q => ?_) (fun E h9 nc1 ns1 q => by obtain ⟨U, q⟩ := q; cases q)
      obtain ⟨U, q⟩ := q
      cases q
      exact zpE_end rfl rfl ⟨_, zUN_ap hX, zy_apU⟩
    · have z := zF_ge_f g1
      rw [ej, e8] at z
      have J : ∀ (x A kd : Int32) (nc ns : Nat), (x = 120 ∨ x = 112 ∨ x = 46 ∨ x = 109 ∨ x = 66) → zpE xs N 175 130 [some (.ref 44), some (.int b), some (.int rw), some (.ref (zy S0 M X).length), some (.int (Int32.ofNat j)), some (.int A), some (.int kd)] [.int x, .ref (zy S0 M X).length] (zsb (zy S0 M X) j (.int 0) bs) nc ns (fun o => ∃ X', zUX kq X' M.2.2 ∧ o.2.1 = zy S0 M X') := by
        intro x A kd nc ns hx
        refine zpE_call rfl (show zcallV 1 8 220 133 [.int x, .ref (zy S0 M X).length] (zsb (zy S0 M X) j (.int 0) bs) = _ from zcallV_eq rfl zsb0 (by decide)) (zpM_of (m_220 (D := 17) h2 (by omega) hx)) (fun v h9 nc1 ns1 q => ?_) (fun E h9 nc1 ns1 q => by cases q)
        cases q
        have G := fun nc ns => l_175r (b := b) (rw := rw) hX N (j + 1) (some (.int A)) (some (.int kd)) (bs.set j (.int x.toInt8.toInt32)) nc ns (by omega) (by simp [h2]) (zbyt_set h3 (by rcases hx with rfl | rfl | rfl | rfl | rfl <;> decide))
        rw [← zof1] at G
        exact zpE_run 3 rfl (G _ _)
      obtain ⟨l0, hl⟩ : ∃ l, l = (zy S0 M X).length := ⟨_, rfl⟩
      obtain ⟨X2, hX2, e2⟩ : ∃ X2, zUX kq X2 M.2.2 ∧ zsb (zy S0 M X) j (.int 0) bs = zy S0 M X2 := ⟨_, zUN_ap hX, zy_apU⟩
      rw [← hl, e2] at J
      rw [← hl, e2]
      refine zpE_run 13 (L' := [some (.ref 44), some (.int b), some (.int rw), some (.ref l0), some (.int (Int32.ofNat j)), some (.int (b * (Int8.ofInt 64).toInt32 + rw * (Int8.ofInt 8).toInt32 + Int32.ofNat j)), o6]) (st' := [.int (b * (Int8.ofInt 64).toInt32 + rw * (Int8.ofInt 8).toInt32 + Int32.ofNat j), .ref 44, .ref 44]) rfl ?_
      generalize b * (Int8.ofInt 64).toInt32 + rw * (Int8.ofInt 8).toInt32 + Int32.ofNat j = A
      refine zpE_call rfl rfl (f_125 (M := M) (x1 := A) hX2) (fun v h1 nc1 ns1 q8 => ?_) (fun E h1 nc1 ns1 q8 => by cases q8.1)
      obtain ⟨q8, q9⟩ := q8
      cases q8
      cases q9
      refine zpE_call rfl rfl (r_121 (zy_mc (M := M) hX2)) (fun v h1 nc1 ns1 q8 => ?_) (fun E h1 nc1 ns1 q8 => by cases q8)
      cases q8
      generalize zkd M.2.2.2 (v125 A M) = kd
      refine zpE_run 5 (L' := [some (.ref 44), some (.int b), some (.int rw), some (.ref l0), some (.int (Int32.ofNat j)), some (.int A), some (.int kd)]) (st' := [.int A, .ref 72, .ref l0]) rfl ?_
      refine zpE_bly rfl (zy_g72 (M := M)) (fun _ _ => ?_)
      refine zpE_gen (fun nc ns => ?_)
      refine zpE_if rfl (fun _ => ?_) (fun _ => ?_)
      · refine zpE_run 3 (st' := [.int A, .ref 71, .ref l0]) rfl ?_
        refine zpE_bly rfl (zy_g71 (M := M)) (fun _ _ => ?_)
        refine zpE_gen (fun nc ns => ?_)
        refine zpE_if rfl (fun _ => ?_) (fun _ => ?_)
        · refine zpE_run 1 rfl ?_
          refine zpE_if rfl (fun _ => ?_) (fun _ => ?_)
          · refine zpE_run 2 rfl ?_
            refine zpE_icmp rfl (fun _ => ?_) (fun _ => ?_)
            · exact zpE_run 1 rfl (J _ _ _ _ _ (by decide))
            · exact zpE_run 2 rfl (J _ _ _ _ _ (by decide))
          · exact zpE_run 2 rfl (J _ _ _ _ _ (by decide))
        · exact zpE_run 2 rfl (J _ _ _ _ _ (by decide))
      · exact zpE_run 2 rfl (J _ _ _ _ _ (by decide))
theorem zIt_w {M : zRt} {t : Int32} {h : zH} (g : ∃ X', zUX kq X' M.2.2 ∧ h = zy S0 (zmS M 0 t) X') : zIt S0 M kq h := by
  obtain ⟨X', a, b⟩ := g
  exact ⟨t, X', a, b⟩
theorem f_175 {x1 x2 : Int32} (hX : zUX kq X M.2.2) : zpM xs N 175 [.ref 44, .int x1, .int x2] (zy S0 M X) nc ns (fun o => zIt S0 M kq o.2.1) := by
  intro L0 e
  cases e
  have T : ∀ (nc ns : Nat) , zpE xs N 175 32 [some (.ref 44), some (.int x1), some (.int x2), none, none, none, none] [] (zy S0 (zmS M 0 (Int32.ofInt 0)) X) nc ns (fun o => zIt S0 M kq o.2.1) := by
    intro nc ns
    refine zpE_post ?_ (fun o g => zIt_w (t := Int32.ofInt 0) g)
    refine zpE_run 2 (st' := [.ref (zy S0 (zmS M 0 (Int32.ofInt 0)) X).length, .ref (zy S0 (zmS M 0 (Int32.ofInt 0)) X).length]) (h' := zy S0 (zmS M 0 (Int32.ofInt 0)) X ++ [(8, [.null, .int 0, .int 0, .int 0])]) rfl ?_
    refine zpE_call rfl rfl (zpM_of (m_221 (D := 18) (H := zy S0 (zmS M 0 (Int32.ofInt 0)) X))) (fun v h9 nc9 ns9 q => ?_) (fun E h9 nc9 ns9 q => by cases q)
    cases q
    refine zpE_run 3 rfl ?_
    exact l_175r (M := zmS M 0 (Int32.ofInt 0)) hX N 0 _ _ _ _ _ (Nat.zero_le _) (by simp) (fun x hx => by rw [List.eq_of_mem_replicate hx]; decide)
  have F : ∀ (nc ns : Nat) , zpE xs N 175 24 [some (.ref 44), some (.int x1), some (.int x2), none, none, none, none] [] (zy S0 (zmS M 0 (Int32.ofInt 0)) X) nc ns (fun o => zIt S0 M kq o.2.1) := by
    intro nc ns
    refine zpE_run 4 (h' := zy S0 (zmS M 0 (Int32.ofInt 1)) X) (st' := [.retAddr 3]) rfl ?_
    exact zpE_end rfl rfl ⟨_, X, hX, rfl⟩
  refine zpE_run 6 (st' := [.int (Int32.ofInt 1), .int (Int32.ofInt 0), .int x1]) (h' := zy S0 (zmS M 0 (Int32.ofInt 0)) X) rfl ?_
  refine zpE_call rfl rfl (f_112 (M := zmS M 0 (Int32.ofInt 0)) hX) (fun v h1 nc1 ns1 q8 => ?_) (fun E h1 nc1 ns1 q8 => by cases q8.1)
  obtain ⟨q8, q9⟩ := q8
  cases q8
  cases q9
  refine zpE_if rfl (fun _ => F _ _) (fun _ => ?_)
  refine zpE_run 3 (st' := [.int ((Int8.ofInt 7).toInt32), .int (Int32.ofInt 0), .int x2]) rfl ?_
  refine zpE_call rfl rfl (f_112 (M := zmS M 0 (Int32.ofInt 0)) hX) (fun v h1 nc1 ns1 q8 => ?_) (fun E h1 nc1 ns1 q8 => by cases q8.1)
  obtain ⟨q8, q9⟩ := q8
  cases q8
  cases q9
  exact zpE_if rfl (fun _ => T _ _) (fun _ => F _ _)
end ZL4
/-! What is asked of the class leaves it; Out's cell changes alone. -/
section ZL5
variable {xs : List Int32} {N : Nat} {S : zSt} {M : zRt} {X : zXt} {q : Nat} {vs : List Value} {nc ns : Nat}
def zJq (S : zSt) (M : zRt) (q : Nat) (h : zH) : Prop := ∃ (X : zXt) (ws : List Value), h = zy S M X ∧ zUX (q, 6, ws) X M.2.2 ∧ zOu ws
theorem zy_t6 (b : Nat) (hb : b < 73) : ∃ c, (zy S M (X.1, X.2.1, []))[b]? = some c ∧ c.1 ≠ 6 := by
  match b, hb with
  | 0, _ => exact ⟨_, rfl, (show (5 : Nat) ≠ 6 by decide)⟩
  | 1, _ => exact ⟨_, rfl, (show (0 : Nat) ≠ 6 by decide)⟩
  | 2, _ => exact ⟨_, rfl, (show (2 : Nat) ≠ 6 by decide)⟩
  | 3, _ => exact ⟨_, rfl, (show (100 : Nat) ≠ 6 by decide)⟩
  | 4, _ => exact ⟨_, rfl, (show (2 : Nat) ≠ 6 by decide)⟩
  | 5, _ => exact ⟨_, rfl, (show (100 : Nat) ≠ 6 by decide)⟩
  | 6, _ => exact ⟨_, rfl, (show (4 : Nat) ≠ 6 by decide)⟩
  | 7, _ => exact ⟨_, rfl, (show (2 : Nat) ≠ 6 by decide)⟩
  | 8, _ => exact ⟨_, rfl, (show (100 : Nat) ≠ 6 by decide)⟩
  | 9, _ => exact ⟨_, rfl, (show (2 : Nat) ≠ 6 by decide)⟩
  | 10, _ => exact ⟨_, rfl, (show (100 : Nat) ≠ 6 by decide)⟩
  | 11, _ => exact ⟨_, rfl, (show (2 : Nat) ≠ 6 by decide)⟩
  | 12, _ => exact ⟨_, rfl, (show (100 : Nat) ≠ 6 by decide)⟩
  | 13, _ => exact ⟨_, rfl, (show (2 : Nat) ≠ 6 by decide)⟩
  | 14, _ => exact ⟨_, rfl, (show (100 : Nat) ≠ 6 by decide)⟩
  | 15, _ => exact ⟨_, rfl, (show (1 : Nat) ≠ 6 by decide)⟩
  | 16, _ => exact ⟨_, rfl, (show (2 : Nat) ≠ 6 by decide)⟩
  | 17, _ => exact ⟨_, rfl, (show (100 : Nat) ≠ 6 by decide)⟩
  | 18, _ => exact ⟨_, rfl, (show (2 : Nat) ≠ 6 by decide)⟩
  | 19, _ => exact ⟨_, rfl, (show (100 : Nat) ≠ 6 by decide)⟩
  | 20, _ => exact ⟨_, rfl, (show (2 : Nat) ≠ 6 by decide)⟩
  | 21, _ => exact ⟨_, rfl, (show (100 : Nat) ≠ 6 by decide)⟩
  | 22, _ => exact ⟨_, rfl, (show (1 : Nat) ≠ 6 by decide)⟩
  | 23, _ => exact ⟨_, rfl, (show (2 : Nat) ≠ 6 by decide)⟩
  | 24, _ => exact ⟨_, rfl, (show (100 : Nat) ≠ 6 by decide)⟩
  | 25, _ => exact ⟨_, rfl, (show (2 : Nat) ≠ 6 by decide)⟩
  | 26, _ => exact ⟨_, rfl, (show (100 : Nat) ≠ 6 by decide)⟩
  | 27, _ => exact ⟨_, rfl, (show (2 : Nat) ≠ 6 by decide)⟩
  | 28, _ => exact ⟨_, rfl, (show (100 : Nat) ≠ 6 by decide)⟩
  | 29, _ => exact ⟨_, rfl, (show (3 : Nat) ≠ 6 by decide)⟩
  | 30, _ => exact ⟨_, rfl, (show (2 : Nat) ≠ 6 by decide)⟩
  | 31, _ => exact ⟨_, rfl, (show (100 : Nat) ≠ 6 by decide)⟩
  | 32, _ => exact ⟨_, rfl, (show (2 : Nat) ≠ 6 by decide)⟩
  | 33, _ => exact ⟨_, rfl, (show (100 : Nat) ≠ 6 by decide)⟩
  | 34, _ => exact ⟨_, rfl, (show (2 : Nat) ≠ 6 by decide)⟩
  | 35, _ => exact ⟨_, rfl, (show (100 : Nat) ≠ 6 by decide)⟩
  | 36, _ => exact ⟨_, rfl, (show (2 : Nat) ≠ 6 by decide)⟩
  | 37, _ => exact ⟨_, rfl, (show (100 : Nat) ≠ 6 by decide)⟩
  | 38, _ => exact ⟨_, rfl, (show (2 : Nat) ≠ 6 by decide)⟩
  | 39, _ => exact ⟨_, rfl, (show (100 : Nat) ≠ 6 by decide)⟩
  | 40, _ => exact ⟨_, rfl, (show (2 : Nat) ≠ 6 by decide)⟩
  | 41, _ => exact ⟨_, rfl, (show (100 : Nat) ≠ 6 by decide)⟩
  | 42, _ => exact ⟨_, rfl, (show (2 : Nat) ≠ 6 by decide)⟩
  | 43, _ => exact ⟨_, rfl, (show (100 : Nat) ≠ 6 by decide)⟩
  | 44, _ => exact ⟨_, rfl, (show (7 : Nat) ≠ 6 by decide)⟩
  | 45, _ => exact ⟨_, rfl, (show (100 : Nat) ≠ 6 by decide)⟩
  | 46, _ => exact ⟨_, rfl, (show (104 : Nat) ≠ 6 by decide)⟩
  | 47, _ => exact ⟨_, rfl, (show (100 : Nat) ≠ 6 by decide)⟩
  | 48, _ => exact ⟨_, rfl, (show (100 : Nat) ≠ 6 by decide)⟩
  | 49, _ => exact ⟨_, rfl, (show (100 : Nat) ≠ 6 by decide)⟩
  | 50, _ => exact ⟨_, rfl, (show (100 : Nat) ≠ 6 by decide)⟩
  | 51, _ => exact ⟨_, rfl, (show (100 : Nat) ≠ 6 by decide)⟩
  | 52, _ => exact ⟨_, rfl, (show (100 : Nat) ≠ 6 by decide)⟩
  | 53, _ => exact ⟨_, rfl, (show (100 : Nat) ≠ 6 by decide)⟩
  | 54, _ => exact ⟨_, rfl, (show (100 : Nat) ≠ 6 by decide)⟩
  | 55, _ => exact ⟨_, rfl, (show (100 : Nat) ≠ 6 by decide)⟩
  | 56, _ => exact ⟨_, rfl, (show (100 : Nat) ≠ 6 by decide)⟩
  | 57, _ => exact ⟨_, rfl, (show (100 : Nat) ≠ 6 by decide)⟩
  | 58, _ => exact ⟨_, rfl, (show (100 : Nat) ≠ 6 by decide)⟩
  | 59, _ => exact ⟨_, rfl, (show (100 : Nat) ≠ 6 by decide)⟩
  | 60, _ => exact ⟨_, rfl, (show (100 : Nat) ≠ 6 by decide)⟩
  | 61, _ => exact ⟨_, rfl, (show (100 : Nat) ≠ 6 by decide)⟩
  | 62, _ => exact ⟨_, rfl, (show (100 : Nat) ≠ 6 by decide)⟩
  | 63, _ => exact ⟨_, rfl, (show (100 : Nat) ≠ 6 by decide)⟩
  | 64, _ => exact ⟨_, rfl, (show (100 : Nat) ≠ 6 by decide)⟩
  | 65, _ => exact ⟨_, rfl, (show (100 : Nat) ≠ 6 by decide)⟩
  | 66, _ => exact ⟨_, rfl, (show (100 : Nat) ≠ 6 by decide)⟩
  | 67, _ => exact ⟨_, rfl, (show (100 : Nat) ≠ 6 by decide)⟩
  | 68, _ => exact ⟨_, rfl, (show (100 : Nat) ≠ 6 by decide)⟩
  | 69, _ => exact ⟨_, rfl, (show (100 : Nat) ≠ 6 by decide)⟩
  | 70, _ => exact ⟨_, rfl, (show (100 : Nat) ≠ 6 by decide)⟩
  | 71, _ => exact ⟨_, rfl, (show (101 : Nat) ≠ 6 by decide)⟩
  | 72, _ => exact ⟨_, rfl, (show (101 : Nat) ≠ 6 by decide)⟩
  | b + 73, hb => omega
theorem zy_lt6 {a : Nat} {vs : List Value} (h : (zy S M X)[a]? = some (6, vs)) : 73 ≤ a := by
  by_cases h73 : 73 ≤ a
  · exact h73
  · have e : (zy S M X)[a]? = (zy S M (X.1, X.2.1, []))[a]? := by
      rw [zy_bs, List.getElem?_append_left (by rw [zy_bl]; omega)]
    rw [e] at h
    obtain ⟨c, c1, c2⟩ := zy_t6 (S := S) (M := M) (X := X) a (by omega)
    rw [c1] at h
    cases h
    exact absurd rfl c2
theorem zJq_put : ∀ (h : zH) (a t k y kd : Nat) (vs : List Value) (v : Value), zJq S M q h → h[a]? = some (t, vs) → (zcf t)[k]? = some (y, kd) → zfdk kd v = true → y ∈ [40, 41, 42] → zJq S M q (h.set a (t, vs.set k v)) := by
  intro h a t k y kd vs v hI ha hf hv hy
  obtain ⟨X, ws, rfl, hX, ho⟩ := hI
  have ht : t = 6 ∧ (k = 0 ∧ kd = (zcf 6)[0]!.2 ∨ k = 1 ∧ kd = (zcf 6)[1]!.2 ∨ k = 2) := by
    have e : (List.range 12).all (fun t => (List.range 30).all (fun k => match (zcf t)[k]? with
      | some (y, kd) => !(y == 40 || y == 41 || y == 42) || (t == 6 && (k == 0 && kd == (zcf 6)[0]!.2 || k == 1 && kd == (zcf 6)[1]!.2 || k == 2))
      | none => true)) = true := by decide +kernel
    have l1 : t < 12 := by
      by_cases z : t < 12
      · exact z
      · have : zcf t = [] := zcf_out (by omega)
        rw [this] at hf
        cases hf
    have l2 : k < 30 := by
      have z := (List.getElem?_eq_some_iff.mp hf).1
      have e2 : (List.range 12).all (fun t => decide ((zcf t).length ≤ 30)) = true := by decide +kernel
      have := of_decide_eq_true (List.all_eq_true.mp e2 t (List.mem_range.mpr l1))
      omega
    have z := List.all_eq_true.mp (List.all_eq_true.mp e t (List.mem_range.mpr l1)) k (List.mem_range.mpr l2)
    rw [hf] at z
    have hy : y = 40 ∨ y = 41 ∨ y = 42 := by simpa using hy
    rcases hy with rfl | rfl | rfl <;> simpa [and_assoc, or_assoc] using z
  obtain ⟨rfl, hk⟩ := ht
  have h73 := zy_lt6 ha
  have hs : ∀ c, (zy S M X).set a c = zy S M (X.1, X.2.1, X.2.2.set (a - 73) c) := by
    intro c
    rw [zy_bs, List.set_append_right _ _ (by rw [zy_bl]; exact h73), zy_bl]
    rfl
  by_cases hq : a = q
  · subst hq
    have e6 := zUX_q (S := S) (M := M) hX
    have e6 : vs = ws := (congrArg Prod.snd (Option.some.inj (e6.symm.trans ha))).symm
    subst e6
    refine ⟨_, vs.set k v, hs _, zUX_out hX, ?_⟩
    obtain ⟨x, b, c, rfl⟩ := ho
    rcases hk with ⟨rfl, rfl⟩ | ⟨rfl, rfl⟩ | rfl
    · obtain ⟨x', rfl⟩ : ∃ x', v = .long x' := by
        cases v <;> first | exact ⟨_, rfl⟩ | cases hv
      exact ⟨x', b, c, rfl⟩
    · obtain ⟨x', rfl⟩ : ∃ x', v = .double x' := by
        cases v <;> first | exact ⟨_, rfl⟩ | cases hv
      exact ⟨x, x', c, rfl⟩
    · exact ⟨x, b, v, rfl⟩
  · exact ⟨_, ws, hs _, zUX_set h73 ((zy_ge h73).symm.trans ha) (by decide) (fun z => hq z.symm) hX, ho⟩
def zqc : List Nat := [5, 6, 7, 8, 9, 10, 11, 12, 13, 14, 15, 16, 17, 18, 23, 25, 28, 32, 33, 34, 35, 36, 37, 38, 42, 51, 66, 67, 68, 69, 70, 71, 72, 73, 74, 75, 77, 78, 80, 82, 83, 86, 88, 89, 90, 91, 92, 93, 94, 95, 96, 97, 99, 100, 200, 201, 202, 203, 204, 205, 206, 207, 208, 209, 211, 212, 229]
theorem zqc_ok : zqc.all (zpy [40, 41, 42] zqc []) = true := by decide +kernel
theorem pw_ask {y : Nat} {as : List Value} (hy : y ∈ zqc) (hX : zUX (q, 6, vs) X M.2.2) (ho : zOu vs) : zpM xs N y as (zy S M X) nc ns (fun o => zJq S M q o.2.1) := by
  intro L0 e n hn d o eo
  exact zinv zqc_ok (fun y hy => absurd hy List.not_mem_nil) zJq_put n d y 0 L0 [] _ nc ns o hy ⟨X, vs, rfl, hX, ho⟩ eo
end ZL5
/-! The law's calls of the class: code, tell, wouldLeak; digest. -/
section ZL6
variable {xs : List Int32} {N : Nat} {S : zSt} {M : zRt} {X : zXt} {q : Nat} {vs : List Value} {nc ns : Nat}
/-- the same, and what Out's first word holds -/
def zJl (S : zSt) (M : zRt) (q : Nat) (x : Int64) (h : zH) : Prop := ∃ (X : zXt) (ws : List Value), h = zy S M X ∧ zUX (q, 6, ws) X M.2.2 ∧ zOu ws ∧ ws[0]? = some (.long x)
theorem zJl_q {x : Int64} {h : zH} (g : zJl S M q x h) : zJq S M q h := by
  obtain ⟨X, ws, a, b, c, -⟩ := g
  exact ⟨X, ws, a, b, c⟩
def zJ53 (S : zSt) (M : zRt) (q : Nat) (x1 x2 : Int32) : Option Value → zH → Prop := fun v h => (¬ zCd x1 x2 ∧ v = some (.int 1) ∧ zJq S M q h) ∨ (zCd x1 x2 ∧ ∃ (k r : Nat) (S1 : zSt), x1 = Int32.ofNat k ∧ x2 = Int32.ofNat r ∧ (k, r) ∈ zcds ∧ zMk S S1 k r ∧ v = some (.int 0) ∧ zJl (F53t S1) M q (Int32.ofNat (k + r)).toInt64 h)
theorem pw_189 {x1 x2 : Int32} (HL : zaL S.2) (h0 : (S.2 0).length = 16) (h1 : (S.2 1).length = 64) (hX : zUX (q, 6, vs) X M.2.2) (ho : zOu vs) : zpM xs N 189 [.ref 0, .int x1, .int x2, .ref q] (zy S M X) nc ns (zNq (zJ53 S M q x1 x2)) := by
  intro L0 e
  cases e
  refine zpE_run 4 (L' := [some (.ref 0), some (.int x1), some (.int x2), some (.ref q), none]) (st' := [.int x2, .int x1, .ref 0, .ref q]) rfl ?_
  refine zpE_call rfl rfl (e_53 (S := S) (x1 := x1) (x2 := x2) HL h0 h1) (fun v h9 nc1 ns1 q8 => ?_) (fun E h9 nc1 ns1 q8 => ?_)
  · rcases q8 with ⟨-, q8, -⟩ | ⟨hc, k, r, S1, e1, e2, e3, mk, q8, q9⟩
    · cases q8
    · cases q8
      cases q9
      obtain ⟨S2, hS2⟩ : ∃ S2, S2 = F53t S1 := ⟨_, rfl⟩
      rw [← hS2]
      refine zpE_run 1 (L' := [some (.ref 0), some (.int x1), some (.int x2), some (.ref q), none]) (st' := [.long (Int32.ofNat (k + r)).toInt64, .ref q]) (h' := zy S2 M X) rfl ?_
      obtain ⟨b1, b2, b3⟩ := zOu_0 (a := (Int32.ofNat (k + r)).toInt64) ho
      refine zpE_putb (h' := zy S2 M (X.1, X.2.1, X.2.2.set (q - 73) (6, vs.set 0 (.long (Int32.ofNat (k + r)).toInt64)))) rfl (zUX_q (S := S2) (M := M) hX) rfl (zy_out (M := M) hX.2.2.2.1) (fun _ => ?_)
      refine zpE_gen (fun nc ns => ?_)
      exact zpE_run 2 rfl (zpE_end rfl rfl (fun v hv => by
        cases hv
        exact Or.inr ⟨hc, k, r, S1, e1, e2, e3, mk, by decide, _, _, by rw [← hS2], zUX_out hX, b1, b2⟩))
  · rcases q8 with ⟨hc, q8, q9⟩ | ⟨_, _, _, _, _, _, _, _, q8, _⟩
    · cases q8
      cases q9
      refine ⟨fun z => absurd z (by decide), fun pc2 L2 e9 => ?_⟩
      obtain ⟨L3, e3⟩ : ∃ L3, zcatch 189 4 0 [some (.ref 0), some (.int x1), some (.int x2), some (.ref q), none] = some (16, L3) := ⟨_, rfl⟩
      rw [show zcatch 189 4 0 _ = some (16, L3) from e3] at e9
      cases e9
      exact zpE_run 1 rfl (zpE_end rfl rfl (fun v hv => by
        cases hv
        exact Or.inl ⟨hc, by decide, X, vs, rfl, hX, ho⟩))
    · cases q8
theorem pw_210 {x1 x2 : Int32} (HL : zaL S.2) (hX : zUX (q, 6, vs) X M.2.2) (ho : zOu vs) : zpM xs N 210 [.ref 0, .int x1, .int x2, .ref q] (zy S M X) nc ns (fun o => zJq S M q o.2.1) := by
  intro L0 e
  cases e
  refine zpE_run 4 (L' := [some (.ref 0), some (.int x1), some (.int x2), some (.ref q), none]) (st' := [.int x2, .int x1, .ref 0, .ref q]) rfl ?_
  refine zpE_call rfl rfl (zpM_of (k_76 (D := 0) (s := S.1) (a := S.2) (x1 := x1) (x2 := x2) HL)) (fun v h9 nc1 ns1 q8 => ?_) (fun E h9 nc1 ns1 q8 => ?_)
  · rcases q8 with ⟨v', U, nc', ns', hv, -, -, q8⟩ | ⟨_, _, q8⟩
    · cases q8
      obtain ⟨r, rfl⟩ := hv
      show zpE xs N 210 7 _ _ (zy S M X ++ U) _ _ _
      rw [zy_apU]
      have hX2 := zUN_ap (U := U) hX
      refine zpE_putb (h' := zy S M (X.1, X.2.1, (X.2.2 ++ U).set (q - 73) (6, vs.set 2 (.ref r)))) rfl (zUX_q (S := S) (M := M) hX2) rfl (zy_out (M := M) (X := (X.1, X.2.1, X.2.2 ++ U)) hX.2.2.2.1) (fun _ => ?_)
      refine zpE_gen (fun nc ns => ?_)
      refine zpE_run 2 rfl (zpE_end rfl rfl ?_)
      obtain ⟨a, b, c, rfl⟩ := ho
      exact ⟨_, _, rfl, zUX_out (X := (X.1, X.2.1, X.2.2 ++ U)) hX2, a, b, _, rfl⟩
    · cases q8
  · rcases q8 with ⟨_, _, _, _, _, _, _, q8⟩ | ⟨E', hE, q8⟩
    · cases q8
    · cases q8
      obtain rfl : E = 1 := by simpa using hE
      refine ⟨fun z => absurd z (by decide), fun pc2 L2 e9 => ?_⟩
      obtain ⟨L3, e3⟩ : ∃ L3, zcatch 210 4 1 [some (.ref 0), some (.int x1), some (.int x2), some (.ref q), none] = some (15, L3) := ⟨_, rfl⟩
      rw [show zcatch 210 4 1 _ = some (15, L3) from e3] at e9
      cases e9
      exact zpE_run 1 rfl (zpE_end rfl rfl ⟨X, vs, rfl, hX, ho⟩)
/-- but for the row of what has leaked -/
def zJ5 (S : zSt) (M : zRt) (q : Nat) (h : zH) : Prop := ∃ S' : zSt, zfr [] [5] S.1 S.2 S'.1 S'.2 ∧ zJq S' M q h
theorem zfr_s5 (HL : zaL S.2) : zfr [] [5] S.1 S.2 S.1 S.2 := ⟨fun _ _ => rfl, fun _ _ => rfl, HL⟩
theorem pw_213 {x1 : Int32} (HL : zaL S.2) (ht : 0 ≤ (S.1 4).toInt ∧ (S.1 4).toInt ≤ 2000) (hX : zUX (q, 6, vs) X M.2.2) (ho : zOu vs) : zpM xs N 213 [.ref 0, .int x1, .ref q] (zy S M X) nc ns (fun o => zJ5 S M q o.2.1) := by
  intro L0 e
  cases e
  refine zpE_run 3 (L' := [some (.ref 0), some (.int x1), some (.ref q), none]) (st' := [.int x1, .ref 0, .ref q]) rfl ?_
  refine zpE_call rfl rfl (zpM_of (k_79 (D := 0) (s := S.1) (a := S.2) (x1 := x1) HL ht)) (fun v h9 nc1 ns1 q8 => ?_) (fun E h9 nc1 ns1 q8 => ?_)
  · rcases q8 with ⟨v', s', a', hv, hf, q8⟩ | ⟨_, _, q8⟩
    · cases q8
      obtain ⟨x, rfl⟩ := hv
      obtain ⟨S2, hS2⟩ : ∃ S2 : zSt, S2 = (s', a') := ⟨_, rfl⟩
      show zpE xs N 213 6 _ _ (zy (s', a') M X) _ _ _
      rw [← hS2]
      refine zpE_run 1 (L' := [some (.ref 0), some (.int x1), some (.ref q), none]) (st' := [.long x.toInt64, .ref q]) (h' := zy S2 M X) rfl ?_
      obtain ⟨b1, b2, b3⟩ := zOu_0 (a := x.toInt64) ho
      refine zpE_putb (h' := zy S2 M (X.1, X.2.1, X.2.2.set (q - 73) (6, vs.set 0 (.long x.toInt64)))) rfl (zUX_q (S := S2) (M := M) hX) rfl (zy_out (M := M) hX.2.2.2.1) (fun _ => ?_)
      refine zpE_gen (fun nc ns => ?_)
      exact zpE_run 2 rfl (zpE_end rfl rfl ⟨S2, by rw [hS2]; exact hf, _, _, rfl, zUX_out hX, b1⟩)
    · cases q8
  · rcases q8 with ⟨_, _, _, _, _, q8⟩ | ⟨E', hE, q8⟩
    · cases q8
    · cases q8
      obtain rfl : E = 0 := by simpa using hE
      refine ⟨fun z => absurd z (by decide), fun pc2 L2 e9 => ?_⟩
      obtain ⟨L3, e3⟩ : ∃ L3, zcatch 213 3 0 [some (.ref 0), some (.int x1), some (.ref q), none] = some (14, L3) := ⟨_, rfl⟩
      rw [show zcatch 213 3 0 _ = some (14, L3) from e3] at e9
      cases e9
      exact zpE_run 1 rfl (zpE_end rfl rfl ⟨S, zfr_s5 HL, X, vs, rfl, hX, ho⟩)
theorem pw_81 (HL : zaL S.2) (ht : 0 ≤ (S.1 4).toInt ∧ (S.1 4).toInt ≤ 2000) (hX : zUX (q, 6, vs) X M.2.2) (ho : zOu vs) : zpM xs N 81 [.ref 0] (zy S M X) nc ns (fun o => zJ5 S M q o.2.1) := by
  intro L0 e
  refine zpE_post (zpM_of (kn_81 (D := 0) (s := S.1) (a := S.2) HL ht) L0 e) (fun o ho2 => ?_)
  rcases ho2 with ⟨v', s', a', hv, hf, rfl⟩ | ⟨_, _, rfl⟩
  · exact ⟨(s', a'), hf, X, vs, rfl, hX, ho⟩
  · exact ⟨S, zfr_s5 HL, X, vs, rfl, hX, ho⟩
end ZL6
