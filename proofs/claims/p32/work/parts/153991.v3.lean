/-! digest: word for word. Written by wip/v3/gendig.py. -/
def zmx (d v : Int64) : Int64 := d * Int64.ofNat 31 + v
def zD1 (f : Nat → Int32) : Nat → Int64 → Int64
  | 0, d => d
  | n + 1, d => zmx (zD1 f n d) (f n).toInt64
def zD2 (g : Nat → Nat → Int32) (m : Nat) : Nat → Int64 → Int64
  | 0, d => d
  | n + 1, d => zD1 (g n) m (zD2 g m n d)
def zD3 (f g k : Nat → Int32) : Nat → Int64 → Int64
  | 0, d => d
  | n + 1, d => zmx (zmx (zmx (zD3 f g k n d) (f n).toInt64) (g n).toInt64) (k n).toInt64
def zDB (f : Nat → Int64 → Int64) : Nat → Int64 → Int64
  | 0, d => d
  | n + 1, d => f n (zDB f n d)
def zbk (b0 b1 sp : Int32) (he : UInt64) (ln : Nat → Nat → Int32) (d : Int64) : Int64 := zD2 ln 5 10 (zmx (zmx (zmx (zmx d b0.toInt64) b1.toInt64) sp.toInt64) (FP.d2l (FP.dmul (UInt64.ofNat 4634204016564240384) he)))
def zdgv (bd co : Nat → Int32) (w : Nat) (f2 f3 : Int32) (bk : Nat → Int64 → Int64) (a b c : Nat → Int32) (en : Nat → Nat → Int32) (ne : Nat) (lk : Int32) (so : Int64) : Int64 :=
  zmx (zmx (zD2 en 3 ne (zD3 a b c 128 (zDB bk 2 (zmx (zmx (zD1 co w (zD1 bd 18 (Int64.ofNat 58281))) f2.toInt64) f3.toInt64)))) lk.toInt64) so
def zri (r : Option Value ⊕ Nat) : Int32 := match r with
  | .inl (some (.int x)) => x
  | _ => 0
def zrfd (r : Option Value ⊕ Nat) : UInt64 := match r with
  | .inl (some (.double x)) => x
  | _ => 0
def zNi (v : Int32) (h : zH) : zO → Prop := fun o => ∀ w, o.1 = .inl w → w = some (.int v) ∧ o.2.1 = h
def zNf (v : UInt64) (h : zH) : zO → Prop := fun o => ∀ w, o.1 = .inl w → w = some (.double v) ∧ o.2.1 = h
def zNg (v : Int64) (h : zH) : zO → Prop := fun o => ∀ w, o.1 = .inl w → w = some (.long v) ∧ o.2.1 = h
section ZDG
variable {xs : List Int32} {N y pc nx k yy m c : Nat} {i : Instr} {L : zL} {st : List Value} {h h' : zH} {nc ns : Nat} {P : zO → Prop} {S F : zSt} {T : zH} {x1 x2 x3 : Int32} {o : zO}
theorem zNi_of {R : Option Value ⊕ Nat} (hr : ∀ w, R = .inl w → ∃ x, w = some (.int x)) (hF : F = S) (g : zOq R (zx F.1 F.2 T) o) : zNi (zri R) (zx S.1 S.2 T) o := by
  intro w hw
  obtain ⟨g1, g2⟩ := g
  rw [hw] at g1
  obtain ⟨x, rfl⟩ := hr w g1.symm
  subst hF
  rw [← g1]
  exact ⟨rfl, g2⟩
theorem zNf_of {R : Option Value ⊕ Nat} (hr : ∀ w, R = .inl w → ∃ x, w = some (.double x)) (hF : F = S) (g : zOq R (zx F.1 F.2 T) o) : zNf (zrfd R) (zx S.1 S.2 T) o := by
  intro w hw
  obtain ⟨g1, g2⟩ := g
  rw [hw] at g1
  obtain ⟨x, rfl⟩ := hr w g1.symm
  subst hF
  rw [← g1]
  exact ⟨rfl, g2⟩
theorem zpE_ci {y' nx' : Nat} {as r : List Value} {v : Int32} (e1 : zat (zmc y) pc = some (i, nx, k, yy, m, c)) (e2 : zstep zcf xs pc i nx k yy m c L st h = some (.inr (.inl (y', as, r, nx')))) (e3 : zpM xs N y' as h nc ns (zNi v h')) (hm : ∀ E pc2 L2, zcatch y pc E L = some (pc2, L2) → False) (hp : ∀ E h1 nc1 ns1, P (.inr E, h1, nc1, ns1)) (kv : ∀ nc1 ns1, zpE xs N y nx' L (.int v :: r) h' nc1 ns1 P) : zpE xs N y pc L st h nc ns P :=
  zpE_call e1 e2 e3 (fun w h1 nc1 ns1 q => by
    obtain ⟨a, b⟩ := q w rfl
    have b : h1 = h' := b
    subst a b
    exact kv _ _) (fun E h1 nc1 ns1 _ => ⟨fun _ => hp _ _ _ _, fun pc2 L2 e => absurd e (hm E pc2 L2)⟩)
theorem zpE_cf {y' nx' : Nat} {as r : List Value} {v : UInt64} (e1 : zat (zmc y) pc = some (i, nx, k, yy, m, c)) (e2 : zstep zcf xs pc i nx k yy m c L st h = some (.inr (.inl (y', as, r, nx')))) (e3 : zpM xs N y' as h nc ns (zNf v h')) (hm : ∀ E pc2 L2, zcatch y pc E L = some (pc2, L2) → False) (hp : ∀ E h1 nc1 ns1, P (.inr E, h1, nc1, ns1)) (kv : ∀ nc1 ns1, zpE xs N y nx' L (.double v :: r) h' nc1 ns1 P) : zpE xs N y pc L st h nc ns P :=
  zpE_call e1 e2 e3 (fun w h1 nc1 ns1 q => by
    obtain ⟨a, b⟩ := q w rfl
    have b : h1 = h' := b
    subst a b
    exact kv _ _) (fun E h1 nc1 ns1 _ => ⟨fun _ => hp _ _ _ _, fun pc2 L2 e => absurd e (hm E pc2 L2)⟩)
theorem zpE_cg {y' nx' : Nat} {as r : List Value} {v : Int64} (e1 : zat (zmc y) pc = some (i, nx, k, yy, m, c)) (e2 : zstep zcf xs pc i nx k yy m c L st h = some (.inr (.inl (y', as, r, nx')))) (e3 : zpM xs N y' as h nc ns (zNg v h')) (hm : ∀ E pc2 L2, zcatch y pc E L = some (pc2, L2) → False) (hp : ∀ E h1 nc1 ns1, P (.inr E, h1, nc1, ns1)) (kv : ∀ nc1 ns1, zpE xs N y nx' L (.long v :: r) h' nc1 ns1 P) : zpE xs N y pc L st h nc ns P :=
  zpE_call e1 e2 e3 (fun w h1 nc1 ns1 q => by
    obtain ⟨a, b⟩ := q w rfl
    have b : h1 = h' := b
    subst a b
    exact kv _ _) (fun E h1 nc1 ns1 _ => ⟨fun _ => hp _ _ _ _, fun pc2 L2 e => absurd e (hm E pc2 L2)⟩)
theorem zpE_dmul {x z : UInt64} {r : List Value} (h1 : zat (zmc y) pc = some (.dmul, nx, k, yy, m, c)) (g : zpE xs N y nx L (.double (FP.dmul x z) :: r) h nc ns P) : zpE xs N y pc L (.double z :: .double x :: r) h nc ns P := by
  have en : zstep zcf xs pc .dmul nx k yy m c L (.double z :: .double x :: r) h = if (FP.dmul x z) &&& 0x7fffffffffffffff ≤ 0x7ff0000000000000 then zgo nx L (.double (FP.dmul x z) :: r) h else none := rfl
  by_cases hz : (FP.dmul x z) &&& 0x7fffffffffffffff ≤ 0x7ff0000000000000
  · exact zpE_step (dc := 0) (ds := 0) h1 (by rw [en, if_pos hz]; rfl) g
  · refine zpE_le (Nat.le_succ _) (zpE_st1 h1 (fun pc' L' st' h' dc ds e => ?_) (fun r9 e => ?_)) <;> (rw [en, if_neg hz] at e; cases e)
theorem g_107 {d v : Int64} : zpM xs N 107 [.long d, .long v] h nc ns (zNg (zmx d v) h) := by
  intro L0 e
  cases e
  refine zpE_run 5 (st' := [.long (zmx d v)]) rfl ?_
  exact zpE_end rfl rfl (fun w hw => by
    cases hw
    exact ⟨rfl, rfl⟩)
theorem zk_out {n a : Nat} {b : Int32} (e : b.toInt = (n : Int)) (hn : n < 100000) (hk : a ≤ n) (g : b.toInt ≤ (Int32.ofNat a).toInt) : a = n := by
  rw [zofI (by omega)] at g
  omega
theorem zk_in {n a : Nat} {b : Int32} (e : b.toInt = (n : Int)) (hn : n < 100000) (hk : a ≤ n) (g : (Int32.ofNat a).toInt < b.toInt) : a + 1 ≤ n := by
  rw [zofI (by omega)] at g
  omega
theorem g_69 (HL : zaL S.2) : zpM xs N 69 [.ref 0, .int x1] (zx S.1 S.2 T) nc ns (zNi (zri (R69 x1 S)) (zx S.1 S.2 T)) :=
  zpM_post (fun o g => zNi_of (F := F69 x1 S) (fun w e => by
    rcases rs_69 (S := S) (x1 := x1) with ⟨x, hx⟩ | hx
    · rw [hx] at e
      cases e
      exact ⟨x, rfl⟩
    · rw [hx] at e
      cases e
    ) Fe_69 g) (e_69 (S := S) (x1 := x1) HL)
theorem g_70 (HL : zaL S.2) : zpM xs N 70 [.ref 0, .int x1, .int x2] (zx S.1 S.2 T) nc ns (zNi (zri (R70 x1 x2 S)) (zx S.1 S.2 T)) :=
  zpM_post (fun o g => zNi_of (F := F70 x1 x2 S) (fun w e => by
    rcases rs_70 (S := S) (x1 := x1) (x2 := x2) with ⟨x, hx⟩ | hx | hx
    · rw [hx] at e
      cases e
      exact ⟨x, rfl⟩
    · rw [hx] at e
      cases e
    · rw [hx] at e
      cases e
    ) Fe_70 g) (e_70 (S := S) (x1 := x1) (x2 := x2) HL)
theorem g_71 (HL : zaL S.2) : zpM xs N 71 [.ref 0, .int x1, .int x2, .int x3] (zx S.1 S.2 T) nc ns (zNi (zri (R71 x1 x2 x3 S)) (zx S.1 S.2 T)) :=
  zpM_post (fun o g => zNi_of (F := F71 x1 x2 x3 S) (fun w e => by
    rcases rs_71 (S := S) (x1 := x1) (x2 := x2) (x3 := x3) with ⟨x, hx⟩ | hx | hx
    · rw [hx] at e
      cases e
      exact ⟨x, rfl⟩
    · rw [hx] at e
      cases e
    · rw [hx] at e
      cases e
    ) Fe_71 g) (e_71 (S := S) (x1 := x1) (x2 := x2) (x3 := x3) HL)
theorem g_72 (HL : zaL S.2) : zpM xs N 72 [.ref 0, .int x1, .int x2] (zx S.1 S.2 T) nc ns (zNi (zri (R72 x1 x2 S)) (zx S.1 S.2 T)) :=
  zpM_post (fun o g => zNi_of (F := F72 x1 x2 S) (fun w e => by
    rcases rs_72 (S := S) (x1 := x1) (x2 := x2) with ⟨x, hx⟩ | hx | hx
    · rw [hx] at e
      cases e
      exact ⟨x, rfl⟩
    · rw [hx] at e
      cases e
    · rw [hx] at e
      cases e
    ) Fe_72 g) (e_72 (S := S) (x1 := x1) (x2 := x2) HL)
theorem g_73 (HL : zaL S.2) : zpM xs N 73 [.ref 0, .int x1, .int x2] (zx S.1 S.2 T) nc ns (zNi (zri (R73 x1 x2 S)) (zx S.1 S.2 T)) :=
  zpM_post (fun o g => zNi_of (F := F73 x1 x2 S) (fun w e => by
    rcases rs_73 (S := S) (x1 := x1) (x2 := x2) with ⟨x, hx⟩ | hx
    · rw [hx] at e
      cases e
      exact ⟨x, rfl⟩
    · rw [hx] at e
      cases e
    ) Fe_73 g) (e_73 (S := S) (x1 := x1) (x2 := x2) HL)
theorem g_74 (HL : zaL S.2) : zpM xs N 74 [.ref 0, .int x1] (zx S.1 S.2 T) nc ns (zNi (zri (R74 x1 S)) (zx S.1 S.2 T)) :=
  zpM_post (fun o g => zNi_of (F := F74 x1 S) (fun w e => by
    rcases rs_74 (S := S) (x1 := x1) with ⟨x, hx⟩ | hx
    · rw [hx] at e
      cases e
      exact ⟨x, rfl⟩
    · rw [hx] at e
      cases e
    ) Fe_74 g) (e_74 (S := S) (x1 := x1) HL)
theorem g_77 (HL : zaL S.2) : zpM xs N 77 [.ref 0, .int x1] (zx S.1 S.2 T) nc ns (zNi (zri (R77 x1 S)) (zx S.1 S.2 T)) :=
  zpM_post (fun o g => zNi_of (F := F77 x1 S) (fun w e => by
    rcases rs_77 (S := S) (x1 := x1) with ⟨x, hx⟩ | hx
    · rw [hx] at e
      cases e
      exact ⟨x, rfl⟩
    · rw [hx] at e
      cases e
    ) Fe_77 g) (e_77 (S := S) (x1 := x1) HL)
theorem g_78 (HL : zaL S.2) : zpM xs N 78 [.ref 0, .int x1] (zx S.1 S.2 T) nc ns (zNi (zri (R78 x1 S)) (zx S.1 S.2 T)) :=
  zpM_post (fun o g => zNi_of (F := F78 x1 S) (fun w e => by
    rcases rs_78 (S := S) (x1 := x1) with ⟨x, hx⟩ | hx
    · rw [hx] at e
      cases e
      exact ⟨x, rfl⟩
    · rw [hx] at e
      cases e
    ) Fe_78 g) (e_78 (S := S) (x1 := x1) HL)
theorem g_75 (HL : zaL S.2) : zpM xs N 75 [.ref 0, .int x1] (zx S.1 S.2 T) nc ns (zNf (zrfd (R75 x1 S)) (zx S.1 S.2 T)) :=
  zpM_post (fun o g => zNf_of (F := F75 x1 S) (fun w e => by
    rcases rs_75 (S := S) (x1 := x1) with ⟨x, hx⟩ | hx
    · rw [hx] at e
      cases e
      exact ⟨x, rfl⟩
    · rw [hx] at e
      cases e
    ) Fe_75 g) (e_75 (S := S) (x1 := x1) HL)
theorem g_79 (HL : zaL S.2) (hs : 0 ≤ (S.1 4).toInt ∧ (S.1 4).toInt ≤ 5000) : zpM xs N 79 [.ref 0, .int x1] (zx S.1 S.2 T) nc ns (zNi (zri (R79 x1 S)) (zx (F79 x1 S).1 (F79 x1 S).2 T)) :=
  zpM_post (fun o g => zNi_of (F := F79 x1 S) (S := F79 x1 S) (fun w e => by
    rcases rs_79 (S := S) (x1 := x1) with ⟨x, hx⟩ | hx
    · rw [hx] at e
      cases e
      exact ⟨x, rfl⟩
    · rw [hx] at e
      cases e
    ) rfl g) (e_79 (S := S) (x1 := x1) HL hs)
theorem g_80 (HL : zaL S.2) : zpM xs N 80 [.ref 0] (zx S.1 S.2 T) nc ns (zNi (V80 S) (zx S.1 S.2 T)) :=
  zpM_post (fun o g w hw => by
    obtain ⟨g1, g2⟩ := g
    rw [hw] at g1
    cases g1
    exact ⟨rfl, g2⟩) (e_80 (S := S) HL)
theorem g_66 (HL : zaL S.2) : zpM xs N 66 [.ref 0, .int x1] (zx S.1 S.2 T) nc ns (zNi (zgt (S.2 0) x1) (zx S.1 S.2 T)) :=
  zpM_post (fun o g w hw => by
    rcases g with ⟨_, _, g⟩ | ⟨_, g⟩
    · rw [g] at hw
      cases hw
      rw [g]
      exact ⟨rfl, rfl⟩
    · rw [g] at hw
      cases hw) (p_66 (s := S.1) (a := S.2) (x := x1) HL)
end ZDG
section ZDH
variable {xs : List Int32} {N : Nat} {nc ns : Nat} {P : zO → Prop} {S : zSt} {T : zH} {x1 x2 x3 : Int32} {d d0 : Int64}
def zlnw (b : Int32) (S : zSt) (l w : Nat) : Int32 := zri (R71 b (Int32.ofNat l) (Int32.ofNat w) S)
theorem l108i {b : Int32} {l N0 : Nat} {u : Int64} (HL : zaL S.2) (hp : ∀ E h1 nc1 ns1, P (.inr E, h1, nc1, ns1)) (K : ∀ (nc ns : Nat), zpE xs N0 108 99 [some (.ref 0), some (.long u), none, some (.int b), some (.long (zD1 (zlnw b S l) 5 d0)), none, some (.int (Int32.ofNat l)), some (.int (Int32.ofNat 5))] [] (zx S.1 S.2 T) nc ns P) : ∀ (N k nc ns : Nat), N ≤ N0 → k ≤ 5 → zpE xs N 108 70 [some (.ref 0), some (.long u), none, some (.int b), some (.long (zD1 (zlnw b S l) k d0)), none, some (.int (Int32.ofNat l)), some (.int (Int32.ofNat k))] [] (zx S.1 S.2 T) nc ns P
  | 0, _, _, _, _, _ => zpE_0
  | N + 1, k, nc, ns, hN, hk => by
    refine zpE_run1 1 (L' := [some (.ref 0), some (.long u), none, some (.int b), some (.long (zD1 (zlnw b S l) k d0)), none, some (.int (Int32.ofNat l)), some (.int (Int32.ofNat k))]) (st' := [.int (Int32.ofInt 5), .int (Int32.ofNat k)]) rfl ?_
    refine zpE_icmp rfl (fun q => ?_) (fun q => ?_)
    · obtain rfl := zk_out (n := 5) (by decide) (by decide) hk (zF_ge_t q)
      exact zpE_le (by omega) (K _ _)
    · have hk2 := zk_in (n := 5) (by decide) (by decide) hk (zF_ge_f q)
      refine zpE_run 5 (L' := [some (.ref 0), some (.long u), none, some (.int b), some (.long (zD1 (zlnw b S l) k d0)), none, some (.int (Int32.ofNat l)), some (.int (Int32.ofNat k))]) (st' := [.int (Int32.ofNat k), .int (Int32.ofNat l), .int b, .ref 0, .long (zD1 (zlnw b S l) k d0)]) rfl ?_
      refine zpE_ci rfl rfl (g_71 (S := S) (x1 := b) (x2 := Int32.ofNat l) (x3 := Int32.ofNat k) HL) (fun E pc2 L2 e => by cases e) hp (fun nc ns => ?_)
      refine zpE_run 1 (st' := [.long (zlnw b S l k).toInt64, .long (zD1 (zlnw b S l) k d0)]) rfl ?_
      refine zpE_cg rfl rfl g_107 (fun E pc2 L2 e => by cases e) hp (fun nc ns => ?_)
      refine zpE_run 3 (L' := [some (.ref 0), some (.long u), none, some (.int b), some (.long (zmx (zD1 (zlnw b S l) k d0) (zlnw b S l k).toInt64)), none, some (.int (Int32.ofNat l)), some (.int (Int32.ofNat k + Int32.ofInt 1))]) (st' := []) rfl ?_
      have G := fun nc ns => l108i HL hp K N (k + 1) nc ns (by omega) hk2
      rw [← zof1] at G
      exact G _ _
theorem l108o {b : Int32} {N0 : Nat} {u : Int64} (HL : zaL S.2) (hp : ∀ E h1 nc1 ns1, P (.inr E, h1, nc1, ns1)) (K : ∀ (o7 : Option Value) (nc ns : Nat), zpE xs N0 108 105 [some (.ref 0), some (.long u), none, some (.int b), some (.long (zD2 (zlnw b S) 5 10 d0)), none, some (.int (Int32.ofNat 10)), o7] [] (zx S.1 S.2 T) nc ns P) : ∀ (N k : Nat) (o7 : Option Value) (nc ns : Nat), N ≤ N0 → k ≤ 10 → zpE xs N 108 60 [some (.ref 0), some (.long u), none, some (.int b), some (.long (zD2 (zlnw b S) 5 k d0)), none, some (.int (Int32.ofNat k)), o7] [] (zx S.1 S.2 T) nc ns P
  | 0, _, _, _, _, _, _ => zpE_0
  | N + 1, k, o7, nc, ns, hN, hk => by
    refine zpE_run1 1 (L' := [some (.ref 0), some (.long u), none, some (.int b), some (.long (zD2 (zlnw b S) 5 k d0)), none, some (.int (Int32.ofNat k)), o7]) (st' := [.int ((Int8.ofInt 10).toInt32), .int (Int32.ofNat k)]) rfl ?_
    refine zpE_icmp rfl (fun q => ?_) (fun q => ?_)
    · obtain rfl := zk_out (n := 10) (by decide) (by decide) hk (zF_ge_t q)
      exact zpE_le (by omega) (K _ _ _)
    · have hk2 := zk_in (n := 10) (by decide) (by decide) hk (zF_ge_f q)
      refine zpE_run 2 (L' := [some (.ref 0), some (.long u), none, some (.int b), some (.long (zD2 (zlnw b S) 5 k d0)), none, some (.int (Int32.ofNat k)), some (.int (Int32.ofNat 0))]) (st' := []) rfl ?_
      refine l108i (N0 := N) (l := k) (d0 := zD2 (zlnw b S) 5 k d0) HL hp (fun nc ns => ?_) N 0 _ _ (Nat.le_refl _) (Nat.zero_le _)
      refine zpE_run 2 (L' := [some (.ref 0), some (.long u), none, some (.int b), some (.long (zD1 (zlnw b S k) 5 (zD2 (zlnw b S) 5 k d0))), none, some (.int (Int32.ofNat k + Int32.ofInt 1)), some (.int (Int32.ofNat 5))]) (st' := []) rfl ?_
      have G := fun o7 nc ns => l108o HL hp K N (k + 1) o7 nc ns (by omega) hk2
      rw [← zof1] at G
      exact G _ _ _
def zcBk (S : zSt) (b : Int32) : Int64 → Int64 := zbk (zri (R73 b (Int32.ofInt 0) S)) (zri (R73 b (Int32.ofInt 1) S)) (zri (R78 b S)) (zrfd (R75 b S)) (zlnw b S)
theorem zNg_r {v : Int64} {h : zH} : ∀ E h1 nc1 ns1, zNg v h (.inr E, h1, nc1, ns1) := fun _ _ _ _ _ hw => by cases hw
theorem g_108 {b : Int32} (HL : zaL S.2) : zpM xs N 108 [.ref 0, .long d, .int b] (zx S.1 S.2 T) nc ns (zNg (zcBk S b d) (zx S.1 S.2 T)) := by
  intro L0 e
  cases e
  refine zpE_run 4 (L' := [some (.ref 0), some (.long d), none, some (.int b), none, none, none, none]) (st' := [.int (Int32.ofInt 0), .int b, .ref 0, .long d]) rfl ?_
  refine zpE_ci rfl rfl (g_73 (S := S) (x1 := b) (x2 := Int32.ofInt 0) HL) (fun E pc2 L2 e => by cases e) zNg_r (fun nc ns => ?_)
  refine zpE_run 1 rfl ?_
  refine zpE_cg rfl rfl g_107 (fun E pc2 L2 e => by cases e) zNg_r (fun nc ns => ?_)
  obtain ⟨d1, h1⟩ : ∃ d1, d1 = zmx d (zri (R73 b (Int32.ofInt 0) S)).toInt64 := ⟨_, rfl⟩
  rw [← h1]
  refine zpE_run 5 (L' := [some (.ref 0), some (.long d), none, some (.int b), some (.long d1), none, none, none]) (st' := [.int (Int32.ofInt 1), .int b, .ref 0, .long d1]) rfl ?_
  refine zpE_ci rfl rfl (g_73 (S := S) (x1 := b) (x2 := Int32.ofInt 1) HL) (fun E pc2 L2 e => by cases e) zNg_r (fun nc ns => ?_)
  refine zpE_run 1 rfl ?_
  refine zpE_cg rfl rfl g_107 (fun E pc2 L2 e => by cases e) zNg_r (fun nc ns => ?_)
  obtain ⟨d2, h2⟩ : ∃ d2, d2 = zmx d1 (zri (R73 b (Int32.ofInt 1) S)).toInt64 := ⟨_, rfl⟩
  rw [← h2]
  refine zpE_run 4 (L' := [some (.ref 0), some (.long d), none, some (.int b), some (.long d2), none, none, none]) (st' := [.int b, .ref 0, .long d2]) rfl ?_
  refine zpE_ci rfl rfl (g_78 (S := S) (x1 := b) HL) (fun E pc2 L2 e => by cases e) zNg_r (fun nc ns => ?_)
  refine zpE_run 1 rfl ?_
  refine zpE_cg rfl rfl g_107 (fun E pc2 L2 e => by cases e) zNg_r (fun nc ns => ?_)
  obtain ⟨d3, h3⟩ : ∃ d3, d3 = zmx d2 (zri (R78 b S)).toInt64 := ⟨_, rfl⟩
  rw [← h3]
  refine zpE_run 5 (L' := [some (.ref 0), some (.long d), none, some (.int b), some (.long d3), none, none, none]) (st' := [.int b, .ref 0, .double (UInt64.ofNat 4634204016564240384), .long d3]) rfl ?_
  refine zpE_cf rfl rfl (g_75 (S := S) (x1 := b) HL) (fun E pc2 L2 e => by cases e) zNg_r (fun nc ns => ?_)
  refine zpE_dmul rfl ?_
  refine zpE_run 1 rfl ?_
  refine zpE_cg rfl rfl g_107 (fun E pc2 L2 e => by cases e) zNg_r (fun nc ns => ?_)
  obtain ⟨d4, h4⟩ : ∃ d4, d4 = zmx d3 (FP.d2l (FP.dmul (UInt64.ofNat 4634204016564240384) (zrfd (R75 b S)))) := ⟨_, rfl⟩
  rw [← h4]
  refine zpE_run 3 (L' := [some (.ref 0), some (.long d), none, some (.int b), some (.long d4), none, some (.int (Int32.ofNat 0)), none]) (st' := []) rfl ?_
  have ev : zcBk S b d = zD2 (zlnw b S) 5 10 d4 := by
    rw [h4, h3, h2, h1]
    rfl
  rw [ev]
  refine l108o (N0 := N) (d0 := d4) HL zNg_r (fun o7 nc ns => ?_) N 0 _ _ _ (Nat.le_refl _) (Nat.zero_le _)
  refine zpE_run 1 rfl ?_
  exact zpE_end rfl rfl (fun w hw => by
    cases hw
    exact ⟨rfl, rfl⟩)
end ZDH
section ZDI
variable {xs : List Int32} {N : Nat} {nc ns : Nat} {P : zO → Prop} {S : zSt} {T : zH} {x1 x2 x3 : Int32} {d d0 : Int64}
def zb81 (S : zSt) (k : Nat) : Int32 := zri (R74 (Int32.ofNat k) S)
def zc81 (S : zSt) (k : Nat) : Int32 := zgt (S.2 0) (Int32.ofNat k)
def zB81 (S : zSt) (k : Nat) : Int64 → Int64 := zcBk S (Int32.ofNat k)
def zo81 (w : Int32) (S : zSt) (k : Nat) : Int32 := zri (R70 (Int32.ofNat k) w S)
def zr81 (S : zSt) (k : Nat) : Int32 := zri (R77 (Int32.ofNat k) S)
def ze81 (S : zSt) (e w : Nat) : Int32 := zri (R72 (Int32.ofNat e) (Int32.ofNat w) S)
abbrev z20 : Int32 := (Int8.ofInt 20).toInt32
def V81 (S : zSt) : Int64 := zdgv (zb81 S) (zc81 S) (S.1 2).toInt.toNat (zri (R69 (Int32.ofInt 2) S)) (zri (R69 (Int32.ofInt 3) S)) (zB81 S) (zo81 (Int32.ofInt 0) S) (zo81 (Int32.ofInt 2) S) (zr81 S) (ze81 S) (S.1 11).toInt.toNat (zri (R79 z20 S)) (if V80 (F79 z20 S) = ((0 : Int32)) then Int64.ofNat 0 else Int64.ofNat 1)
theorem l81a {N0 : Nat} (HL : zaL S.2) (hp : ∀ E h1 nc1 ns1, P (.inr E, h1, nc1, ns1)) (K : ∀ (nc ns : Nat), zpE xs N0 81 29 [some (.ref 0), some (.long (zD1 (zb81 S) 18 d0)), none, some (.int (Int32.ofNat 18)), none] [] (zx S.1 S.2 T) nc ns P) : ∀ (N k nc ns : Nat), N ≤ N0 → k ≤ 18 → zpE xs N 81 6 [some (.ref 0), some (.long (zD1 (zb81 S) k d0)), none, some (.int (Int32.ofNat k)), none] [] (zx S.1 S.2 T) nc ns P
  | 0, _, _, _, _, _ => zpE_0
  | N + 1, k, nc, ns, hN, hk => by
    refine zpE_run1 1 (L' := [some (.ref 0), some (.long (zD1 (zb81 S) k d0)), none, some (.int (Int32.ofNat k)), none]) (st' := [.int ((Int8.ofInt 18).toInt32), .int (Int32.ofNat k)]) rfl ?_
    refine zpE_icmp rfl (fun q => ?_) (fun q => ?_)
    · obtain rfl := zk_out (n := 18) (by decide) (by decide) hk (zF_ge_t q)
      exact zpE_le (by omega) (K _ _)
    · have hk2 := zk_in (n := 18) (by decide) (by decide) hk (zF_ge_f q)
      refine zpE_run 3 (L' := [some (.ref 0), some (.long (zD1 (zb81 S) k d0)), none, some (.int (Int32.ofNat k)), none]) (st' := [.int (Int32.ofNat k), .ref 0, .long (zD1 (zb81 S) k d0)]) rfl ?_
      refine zpE_ci rfl rfl (g_74 (S := S) (x1 := Int32.ofNat k) HL) (fun E pc2 L2 e => by cases e) hp (fun nc ns => ?_)
      refine zpE_run 1 (st' := [.long (zb81 S k).toInt64, .long (zD1 (zb81 S) k d0)]) rfl ?_
      refine zpE_cg rfl rfl g_107 (fun E pc2 L2 e => by cases e) hp (fun nc ns => ?_)
      refine zpE_run 3 (L' := [some (.ref 0), some (.long (zmx (zD1 (zb81 S) k d0) (zb81 S k).toInt64)), none, some (.int (Int32.ofNat k + Int32.ofInt 1)), none]) (st' := []) rfl ?_
      have G := fun nc ns => l81a HL hp K N (k + 1) nc ns (by omega) hk2
      rw [← zof1] at G
      exact G _ _
theorem l81b {N0 : Nat} (HL : zaL S.2) (hp : ∀ E h1 nc1 ns1, P (.inr E, h1, nc1, ns1)) (K : ∀ (nc ns : Nat), zpE xs N0 81 59 [some (.ref 0), some (.long (zD1 (zc81 S) (S.1 2).toInt.toNat d0)), none, some (.int (Int32.ofNat (S.1 2).toInt.toNat)), none] [] (zx S.1 S.2 T) nc ns P) : ∀ (N k nc ns : Nat), N ≤ N0 → k ≤ (S.1 2).toInt.toNat → zpE xs N 81 31 [some (.ref 0), some (.long (zD1 (zc81 S) k d0)), none, some (.int (Int32.ofNat k)), none] [] (zx S.1 S.2 T) nc ns P
  | 0, _, _, _, _, _ => zpE_0
  | N + 1, k, nc, ns, hN, hk => by
    refine zpE_run1 3 (L' := [some (.ref 0), some (.long (zD1 (zc81 S) k d0)), none, some (.int (Int32.ofNat k)), none]) (st' := [.int (S.1 2), .int (Int32.ofNat k)]) rfl ?_
    refine zpE_icmp rfl (fun q => ?_) (fun q => ?_)
    · have e := zlp_out (Int.not_lt.mpr (zF_ge_t q)) hk
      rw [e]
      exact zpE_le (by omega) (K _ _)
    · have hk2 := zlp_in (zF_ge_f q) hk
      refine zpE_run 3 (L' := [some (.ref 0), some (.long (zD1 (zc81 S) k d0)), none, some (.int (Int32.ofNat k)), none]) (st' := [.int (Int32.ofNat k), .ref 0, .long (zD1 (zc81 S) k d0)]) rfl ?_
      refine zpE_ci rfl rfl (g_66 (S := S) (x1 := Int32.ofNat k) HL) (fun E pc2 L2 e => by cases e) hp (fun nc ns => ?_)
      refine zpE_run 1 (st' := [.long (zc81 S k).toInt64, .long (zD1 (zc81 S) k d0)]) rfl ?_
      refine zpE_cg rfl rfl g_107 (fun E pc2 L2 e => by cases e) hp (fun nc ns => ?_)
      refine zpE_run 3 (L' := [some (.ref 0), some (.long (zmx (zD1 (zc81 S) k d0) (zc81 S k).toInt64)), none, some (.int (Int32.ofNat k + Int32.ofInt 1)), none]) (st' := []) rfl ?_
      have G := fun nc ns => l81b HL hp K N (k + 1) nc ns (by omega) hk2
      rw [← zof1] at G
      exact G _ _
theorem l81c {N0 : Nat} (HL : zaL S.2) (hp : ∀ E h1 nc1 ns1, P (.inr E, h1, nc1, ns1)) (K : ∀ (nc ns : Nat), zpE xs N0 81 101 [some (.ref 0), some (.long (zDB (zB81 S) 2 d0)), none, some (.int (Int32.ofNat 2)), none] [] (zx S.1 S.2 T) nc ns P) : ∀ (N k nc ns : Nat), N ≤ N0 → k ≤ 2 → zpE xs N 81 83 [some (.ref 0), some (.long (zDB (zB81 S) k d0)), none, some (.int (Int32.ofNat k)), none] [] (zx S.1 S.2 T) nc ns P
  | 0, _, _, _, _, _ => zpE_0
  | N + 1, k, nc, ns, hN, hk => by
    refine zpE_run1 1 (L' := [some (.ref 0), some (.long (zDB (zB81 S) k d0)), none, some (.int (Int32.ofNat k)), none]) (st' := [.int (Int32.ofInt 2), .int (Int32.ofNat k)]) rfl ?_
    refine zpE_icmp rfl (fun q => ?_) (fun q => ?_)
    · obtain rfl := zk_out (n := 2) (by decide) (by decide) hk (zF_ge_t q)
      exact zpE_le (by omega) (K _ _)
    · have hk2 := zk_in (n := 2) (by decide) (by decide) hk (zF_ge_f q)
      refine zpE_run 3 (L' := [some (.ref 0), some (.long (zDB (zB81 S) k d0)), none, some (.int (Int32.ofNat k)), none]) (st' := [.int (Int32.ofNat k), .long (zDB (zB81 S) k d0), .ref 0]) rfl ?_
      refine zpE_cg rfl rfl (g_108 (S := S) (b := Int32.ofNat k) HL) (fun E pc2 L2 e => by cases e) hp (fun nc ns => ?_)
      refine zpE_run 3 (L' := [some (.ref 0), some (.long (zB81 S k (zDB (zB81 S) k d0))), none, some (.int (Int32.ofNat k + Int32.ofInt 1)), none]) (st' := []) rfl ?_
      have G := fun nc ns => l81c HL hp K N (k + 1) nc ns (by omega) hk2
      rw [← zof1] at G
      exact G _ _
theorem l81d {N0 : Nat} (HL : zaL S.2) (hp : ∀ E h1 nc1 ns1, P (.inr E, h1, nc1, ns1)) (K : ∀ (nc ns : Nat), zpE xs N0 81 151 [some (.ref 0), some (.long (zD3 (zo81 (Int32.ofInt 0) S) (zo81 (Int32.ofInt 2) S) (zr81 S) 128 d0)), none, some (.int (Int32.ofNat 128)), none] [] (zx S.1 S.2 T) nc ns P) : ∀ (N k nc ns : Nat), N ≤ N0 → k ≤ 128 → zpE xs N 81 103 [some (.ref 0), some (.long (zD3 (zo81 (Int32.ofInt 0) S) (zo81 (Int32.ofInt 2) S) (zr81 S) k d0)), none, some (.int (Int32.ofNat k)), none] [] (zx S.1 S.2 T) nc ns P
  | 0, _, _, _, _, _ => zpE_0
  | N + 1, k, nc, ns, hN, hk => by
    refine zpE_run1 1 (L' := [some (.ref 0), some (.long (zD3 (zo81 (Int32.ofInt 0) S) (zo81 (Int32.ofInt 2) S) (zr81 S) k d0)), none, some (.int (Int32.ofNat k)), none]) (st' := [.int ((Int16.ofInt 128).toInt32), .int (Int32.ofNat k)]) rfl ?_
    refine zpE_icmp rfl (fun q => ?_) (fun q => ?_)
    · obtain rfl := zk_out (n := 128) (by decide) (by decide) hk (zF_ge_t q)
      exact zpE_le (by omega) (K _ _)
    · have hk2 := zk_in (n := 128) (by decide) (by decide) hk (zF_ge_f q)
      have G := fun nc ns => l81d HL hp K N (k + 1) nc ns (by omega) hk2
      have eG : zD3 (zo81 (Int32.ofInt 0) S) (zo81 (Int32.ofInt 2) S) (zr81 S) (k + 1) d0 = zmx (zmx (zmx (zD3 (zo81 (Int32.ofInt 0) S) (zo81 (Int32.ofInt 2) S) (zr81 S) k d0) (zo81 (Int32.ofInt 0) S k).toInt64) (zo81 (Int32.ofInt 2) S k).toInt64) (zr81 S k).toInt64 := rfl
      rw [← zof1, eG] at G
      generalize zD3 (zo81 (Int32.ofInt 0) S) (zo81 (Int32.ofInt 2) S) (zr81 S) k d0 = u at G ⊢
      refine zpE_run 4 (L' := [some (.ref 0), some (.long (u)), none, some (.int (Int32.ofNat k)), none]) (st' := [.int (Int32.ofInt 0), .int (Int32.ofNat k), .ref 0, .long (u)]) rfl ?_
      refine zpE_ci rfl rfl (g_70 (S := S) (x1 := Int32.ofNat k) (x2 := Int32.ofInt 0) HL) (fun E pc2 L2 e => by cases e) hp (fun nc ns => ?_)
      refine zpE_run 1 (st' := [.long (zo81 (Int32.ofInt 0) S k).toInt64, .long (u)]) rfl ?_
      refine zpE_cg rfl rfl g_107 (fun E pc2 L2 e => by cases e) hp (fun nc ns => ?_)
      generalize zmx u (zo81 (Int32.ofInt 0) S k).toInt64 = u1 at G ⊢
      refine zpE_run 5 (L' := [some (.ref 0), some (.long (u1)), none, some (.int (Int32.ofNat k)), none]) (st' := [.int (Int32.ofInt 2), .int (Int32.ofNat k), .ref 0, .long (u1)]) rfl ?_
      refine zpE_ci rfl rfl (g_70 (S := S) (x1 := Int32.ofNat k) (x2 := Int32.ofInt 2) HL) (fun E pc2 L2 e => by cases e) hp (fun nc ns => ?_)
      refine zpE_run 1 (st' := [.long (zo81 (Int32.ofInt 2) S k).toInt64, .long (u1)]) rfl ?_
      refine zpE_cg rfl rfl g_107 (fun E pc2 L2 e => by cases e) hp (fun nc ns => ?_)
      generalize zmx u1 (zo81 (Int32.ofInt 2) S k).toInt64 = u2 at G ⊢
      refine zpE_run 4 (L' := [some (.ref 0), some (.long (u2)), none, some (.int (Int32.ofNat k)), none]) (st' := [.int (Int32.ofNat k), .ref 0, .long (u2)]) rfl ?_
      refine zpE_ci rfl rfl (g_77 (S := S) (x1 := Int32.ofNat k) HL) (fun E pc2 L2 e => by cases e) hp (fun nc ns => ?_)
      refine zpE_run 1 (st' := [.long (zr81 S k).toInt64, .long (u2)]) rfl ?_
      refine zpE_cg rfl rfl g_107 (fun E pc2 L2 e => by cases e) hp (fun nc ns => ?_)
      refine zpE_run 3 (L' := [some (.ref 0), some (.long (zmx u2 (zr81 S k).toInt64)), none, some (.int (Int32.ofNat k + Int32.ofInt 1)), none]) (st' := []) rfl ?_
      exact G _ _
theorem l81f {N0 l : Nat} (HL : zaL S.2) (hp : ∀ E h1 nc1 ns1, P (.inr E, h1, nc1, ns1)) (K : ∀ (nc ns : Nat), zpE xs N0 81 192 [some (.ref 0), some (.long (zD1 (ze81 S l) 3 d0)), none, some (.int (Int32.ofNat l)), some (.int (Int32.ofNat 3))] [] (zx S.1 S.2 T) nc ns P) : ∀ (N k nc ns : Nat), N ≤ N0 → k ≤ 3 → zpE xs N 81 167 [some (.ref 0), some (.long (zD1 (ze81 S l) k d0)), none, some (.int (Int32.ofNat l)), some (.int (Int32.ofNat k))] [] (zx S.1 S.2 T) nc ns P
  | 0, _, _, _, _, _ => zpE_0
  | N + 1, k, nc, ns, hN, hk => by
    refine zpE_run1 1 (L' := [some (.ref 0), some (.long (zD1 (ze81 S l) k d0)), none, some (.int (Int32.ofNat l)), some (.int (Int32.ofNat k))]) (st' := [.int (Int32.ofInt 3), .int (Int32.ofNat k)]) rfl ?_
    refine zpE_icmp rfl (fun q => ?_) (fun q => ?_)
    · obtain rfl := zk_out (n := 3) (by decide) (by decide) hk (zF_ge_t q)
      exact zpE_le (by omega) (K _ _)
    · have hk2 := zk_in (n := 3) (by decide) (by decide) hk (zF_ge_f q)
      refine zpE_run 4 (L' := [some (.ref 0), some (.long (zD1 (ze81 S l) k d0)), none, some (.int (Int32.ofNat l)), some (.int (Int32.ofNat k))]) (st' := [.int (Int32.ofNat k), .int (Int32.ofNat l), .ref 0, .long (zD1 (ze81 S l) k d0)]) rfl ?_
      refine zpE_ci rfl rfl (g_72 (S := S) (x1 := Int32.ofNat l) (x2 := Int32.ofNat k) HL) (fun E pc2 L2 e => by cases e) hp (fun nc ns => ?_)
      refine zpE_run 1 (st' := [.long (ze81 S l k).toInt64, .long (zD1 (ze81 S l) k d0)]) rfl ?_
      refine zpE_cg rfl rfl g_107 (fun E pc2 L2 e => by cases e) hp (fun nc ns => ?_)
      refine zpE_run 3 (L' := [some (.ref 0), some (.long (zmx (zD1 (ze81 S l) k d0) (ze81 S l k).toInt64)), none, some (.int (Int32.ofNat l)), some (.int (Int32.ofNat k + Int32.ofInt 1))]) (st' := []) rfl ?_
      have G := fun nc ns => l81f HL hp K N (k + 1) nc ns (by omega) hk2
      rw [← zof1] at G
      exact G _ _
theorem l81e {N0 : Nat} (HL : zaL S.2) (hp : ∀ E h1 nc1 ns1, P (.inr E, h1, nc1, ns1)) (K : ∀ (o4 : Option Value) (nc ns : Nat), zpE xs N0 81 198 [some (.ref 0), some (.long (zD2 (ze81 S) 3 (S.1 11).toInt.toNat d0)), none, some (.int (Int32.ofNat (S.1 11).toInt.toNat)), o4] [] (zx S.1 S.2 T) nc ns P) : ∀ (N k : Nat) (o4 : Option Value) (nc ns : Nat), N ≤ N0 → k ≤ (S.1 11).toInt.toNat → zpE xs N 81 153 [some (.ref 0), some (.long (zD2 (ze81 S) 3 k d0)), none, some (.int (Int32.ofNat k)), o4] [] (zx S.1 S.2 T) nc ns P
  | 0, _, _, _, _, _, _ => zpE_0
  | N + 1, k, o4, nc, ns, hN, hk => by
    refine zpE_run1 3 (L' := [some (.ref 0), some (.long (zD2 (ze81 S) 3 k d0)), none, some (.int (Int32.ofNat k)), o4]) (st' := [.int (S.1 11), .int (Int32.ofNat k)]) rfl ?_
    refine zpE_icmp rfl (fun q => ?_) (fun q => ?_)
    · have e := zlp_out (Int.not_lt.mpr (zF_ge_t q)) hk
      rw [e]
      exact zpE_le (by omega) (K _ _ _)
    · have hk2 := zlp_in (zF_ge_f q) hk
      refine zpE_run 2 (L' := [some (.ref 0), some (.long (zD2 (ze81 S) 3 k d0)), none, some (.int (Int32.ofNat k)), some (.int (Int32.ofNat 0))]) (st' := []) rfl ?_
      refine l81f (N0 := N) (l := k) (d0 := zD2 (ze81 S) 3 k d0) HL hp (fun nc ns => ?_) N 0 _ _ (Nat.le_refl _) (Nat.zero_le _)
      refine zpE_run 2 (L' := [some (.ref 0), some (.long (zD1 (ze81 S k) 3 (zD2 (ze81 S) 3 k d0))), none, some (.int (Int32.ofNat k + Int32.ofInt 1)), some (.int (Int32.ofNat 3))]) (st' := []) rfl ?_
      have G := fun o4 nc ns => l81e HL hp K N (k + 1) o4 nc ns (by omega) hk2
      rw [← zof1] at G
      exact G _ _ _
theorem l81g {o3 o4 : Option Value} (HL : zaL S.2) (hs : 0 ≤ (S.1 4).toInt ∧ (S.1 4).toInt ≤ 5000) : zpE xs N 81 198 [some (.ref 0), some (.long d0), none, o3, o4] [] (zx S.1 S.2 T) nc ns (zNg (zmx (zmx d0 (zri (R79 z20 S)).toInt64) (if V80 (F79 z20 S) = ((0 : Int32)) then Int64.ofNat 0 else Int64.ofNat 1)) (zx (F79 z20 S).1 (F79 z20 S).2 T)) := by
  refine zpE_run 3 (L' := [some (.ref 0), some (.long d0), none, o3, o4]) (st' := [.int z20, .ref 0, .long d0]) rfl ?_
  refine zpE_ci rfl rfl (g_79 (S := S) (x1 := z20) HL hs) (fun E pc2 L2 e => by cases e) zNg_r (fun nc ns => ?_)
  have HL5 : zaL (F79 z20 S).2 := ln_F79 HL
  generalize F79 z20 S = S5 at HL5 ⊢
  refine zpE_run 1 (st' := [.long (zri (R79 z20 S)).toInt64, .long d0]) rfl ?_
  refine zpE_cg rfl rfl g_107 (fun E pc2 L2 e => by cases e) zNg_r (fun nc ns => ?_)
  generalize zmx d0 (zri (R79 z20 S)).toInt64 = d1
  refine zpE_run 3 (L' := [some (.ref 0), some (.long d1), none, o3, o4]) (st' := [.ref 0, .long d1]) rfl ?_
  refine zpE_ci rfl rfl (g_80 (S := S5) HL5) (fun E pc2 L2 e => by cases e) zNg_r (fun nc ns => ?_)
  refine zpE_if rfl (fun q => ?_) (fun q => ?_)
  · rw [if_pos (zF_e1 q)]
    refine zpE_run 1 (st' := [.long (Int64.ofNat 0), .long d1]) rfl ?_
    refine zpE_cg rfl rfl g_107 (fun E pc2 L2 e => by cases e) zNg_r (fun nc ns => ?_)
    exact zpE_end rfl rfl (fun w hw => by
      cases hw
      exact ⟨rfl, rfl⟩)
  · rw [if_neg (zF_e0 q)]
    refine zpE_run 2 (st' := [.long (Int64.ofNat 1), .long d1]) rfl ?_
    refine zpE_cg rfl rfl g_107 (fun E pc2 L2 e => by cases e) zNg_r (fun nc ns => ?_)
    exact zpE_end rfl rfl (fun w hw => by
      cases hw
      exact ⟨rfl, rfl⟩)
theorem g_81 (HL : zaL S.2) (hs : 0 ≤ (S.1 4).toInt ∧ (S.1 4).toInt ≤ 5000) : zpM xs N 81 [.ref 0] (zx S.1 S.2 T) nc ns (zNg (V81 S) (zx (F79 z20 S).1 (F79 z20 S).2 T)) := by
  intro L0 e
  cases e
  refine zpE_run 4 (L' := [some (.ref 0), some (.long (Int64.ofNat 58281)), none, some (.int (Int32.ofNat 0)), none]) (st' := []) rfl ?_
  refine l81a (N0 := N) (d0 := Int64.ofNat 58281) HL zNg_r (fun nc ns => ?_) N 0 _ _ (Nat.le_refl _) (Nat.zero_le _)
  obtain ⟨d1, h1⟩ : ∃ d1, d1 = zD1 (zb81 S) 18 (Int64.ofNat 58281) := ⟨_, rfl⟩
  rw [← h1]
  refine zpE_run 2 (L' := [some (.ref 0), some (.long d1), none, some (.int (Int32.ofNat 0)), none]) (st' := []) rfl ?_
  refine l81b (N0 := N) (d0 := d1) HL zNg_r (fun nc ns => ?_) N 0 _ _ (Nat.le_refl _) (Nat.zero_le _)
  obtain ⟨d2, h2⟩ : ∃ d2, d2 = zD1 (zc81 S) (S.1 2).toInt.toNat d1 := ⟨_, rfl⟩
  rw [← h2]
  generalize Int32.ofNat (S.1 2).toInt.toNat = w2
  refine zpE_run 3 (L' := [some (.ref 0), some (.long d2), none, some (.int w2), none]) (st' := [.int (Int32.ofInt 2), .ref 0, .long d2]) rfl ?_
  refine zpE_ci rfl rfl (g_69 (S := S) (x1 := Int32.ofInt 2) HL) (fun E pc2 L2 e => by cases e) zNg_r (fun nc ns => ?_)
  refine zpE_run 1 (st' := [.long (zri (R69 (Int32.ofInt 2) S)).toInt64, .long d2]) rfl ?_
  refine zpE_cg rfl rfl g_107 (fun E pc2 L2 e => by cases e) zNg_r (fun nc ns => ?_)
  obtain ⟨d3, h3⟩ : ∃ d3, d3 = zmx d2 (zri (R69 (Int32.ofInt 2) S)).toInt64 := ⟨_, rfl⟩
  rw [← h3]
  refine zpE_run 4 (L' := [some (.ref 0), some (.long d3), none, some (.int w2), none]) (st' := [.int (Int32.ofInt 3), .ref 0, .long d3]) rfl ?_
  refine zpE_ci rfl rfl (g_69 (S := S) (x1 := Int32.ofInt 3) HL) (fun E pc2 L2 e => by cases e) zNg_r (fun nc ns => ?_)
  refine zpE_run 1 (st' := [.long (zri (R69 (Int32.ofInt 3) S)).toInt64, .long d3]) rfl ?_
  refine zpE_cg rfl rfl g_107 (fun E pc2 L2 e => by cases e) zNg_r (fun nc ns => ?_)
  obtain ⟨d4, h4⟩ : ∃ d4, d4 = zmx d3 (zri (R69 (Int32.ofInt 3) S)).toInt64 := ⟨_, rfl⟩
  rw [← h4]
  refine zpE_run 3 (L' := [some (.ref 0), some (.long d4), none, some (.int (Int32.ofNat 0)), none]) (st' := []) rfl ?_
  refine l81c (N0 := N) (d0 := d4) HL zNg_r (fun nc ns => ?_) N 0 _ _ (Nat.le_refl _) (Nat.zero_le _)
  obtain ⟨d5, h5⟩ : ∃ d5, d5 = zDB (zB81 S) 2 d4 := ⟨_, rfl⟩
  rw [← h5]
  refine zpE_run 2 (L' := [some (.ref 0), some (.long d5), none, some (.int (Int32.ofNat 0)), none]) (st' := []) rfl ?_
  refine l81d (N0 := N) (d0 := d5) HL zNg_r (fun nc ns => ?_) N 0 _ _ (Nat.le_refl _) (Nat.zero_le _)
  obtain ⟨d6, h6⟩ : ∃ d6, d6 = zD3 (zo81 (Int32.ofInt 0) S) (zo81 (Int32.ofInt 2) S) (zr81 S) 128 d5 := ⟨_, rfl⟩
  rw [← h6]
  refine zpE_run 2 (L' := [some (.ref 0), some (.long d6), none, some (.int (Int32.ofNat 0)), none]) (st' := []) rfl ?_
  refine l81e (N0 := N) (d0 := d6) HL zNg_r (fun o4 nc ns => ?_) N 0 _ _ _ (Nat.le_refl _) (Nat.zero_le _)
  obtain ⟨d7, h7⟩ : ∃ d7, d7 = zD2 (ze81 S) 3 (S.1 11).toInt.toNat d6 := ⟨_, rfl⟩
  rw [← h7]
  have ev : V81 S = zmx (zmx d7 (zri (R79 z20 S)).toInt64) (if V80 (F79 z20 S) = ((0 : Int32)) then Int64.ofNat 0 else Int64.ofNat 1) := by
    rw [h7, h6, h5, h4, h3, h2, h1]
    rfl
  rw [ev]
  exact l81g HL hs
end ZDI
