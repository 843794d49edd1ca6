/-! The law: a call, safe and exact. Written by wip/v3/f156z.py. -/
def zPb (nc ns : Nat) : zO → Prop := fun o => ∃ h' nc' ns', o = (.inl (some (.int 1)), h', nc', ns') ∧ nc' ≤ nc ∧ ns' ≤ ns
section ZX2
variable {xs : List Int32} {h : zH} {nc ns nc0 ns0 q D y pc nx kk yy m cy : Nat} {i : Int32} {L : zL} {r : List Value} {P : zO → Prop}
theorem zEs_scr {j v : Int32} (e1 : zat (zmc y) pc = some (.iaload, nx, kk, yy, m, cy)) (hj : ¬ j < 0) (hv : xs[j.toNatClampNeg]? = some v) (g9 : zEs xs D y nx L (.int v :: r) h nc ns P) : zEs xs D y pc L (.int j :: .retAddr 0 :: r) h nc ns P := by
  refine zEs_step (dc := 0) (ds := 0) e1 ?_ g9
  show (if j < 0 then none else match xs[j.toNatClampNeg]? with
    | some x => zgo nx L (.int x :: r) h
    | none => none) = _
  rw [if_neg hj, hv]
  rfl
theorem zEs_sk {k : Int} (e1 : zat (zmc y) pc = some (.iaload, nx, kk, yy, m, cy)) (h0 : 0 ≤ i.toInt) (h1 : i.toInt + 6 ≤ xs.length) (hN : xs.length ≤ 100000) (hk : 0 < k) (hk2 : k < 6) (g9 : ∀ v : Int32, zEs xs D y nx L (.int v :: r) h nc ns P) : zEs xs D y pc L (.int (i + Int32.ofInt k) :: .retAddr 0 :: r) h nc ns P := by
  have e := zinc_le (x := i) (n := k) (by omega) hk (by omega)
  have hlt : (i + Int32.ofInt k).toInt.toNat < xs.length := by omega
  exact zEs_scr e1 (fun z => by
    have z := zlt_z z
    rw [zero_z] at z
    omega) (show xs[(i + Int32.ofInt k).toInt.toNat]? = some _ from List.getElem?_eq_getElem hlt) (g9 _)
theorem zEs_sk9 {k : Int} (e1 : zat (zmc y) pc = some (.iaload, nx, kk, yy, m, cy)) (h0 : 0 ≤ i.toInt) (h1 : i.toInt + 6 ≤ xs.length) (hN : xs.length ≤ 100000) (hk : 0 < k) (hk2 : k < 6) (g9 : ∀ v : Int32, xs[(i + Int32.ofInt k).toInt.toNat]? = some v → zEs xs D y nx L (.int v :: r) h nc ns P) : zEs xs D y pc L (.int (i + Int32.ofInt k) :: .retAddr 0 :: r) h nc ns P := by
  have e := zinc_le (x := i) (n := k) (by omega) hk (by omega)
  have hlt : (i + Int32.ofInt k).toInt.toNat < xs.length := by omega
  exact zEs_scr e1 (fun z => by
    have z := zlt_z z
    rw [zero_z] at z
    omega) (show xs[(i + Int32.ofInt k).toInt.toNat]? = some _ from List.getElem?_eq_getElem hlt) (g9 _ (List.getElem?_eq_getElem hlt))
end ZX2
section ZL8
variable {xs : List Int32} {h : zH} {nc ns q : Nat} {S : zSt} {M : zRt}
def zAA (S : zSt) (M : zRt) : Prop := zaL S.2 ∧ zZ S M
theorem zAA_l0 (hA : zAA S M) : (S.2 0).length = 16 := hA.2.1.1.1
theorem zAA_l1 (hA : zAA S M) : (S.2 1).length = 64 := hA.2.1.1.2.1
theorem zAA_20 (hA : zAA S M) : (M.2.1 20).length = 20 := hA.2.1.1.2.2
theorem zAA_t (hA : zAA S M) : 0 ≤ (S.1 4).toInt ∧ (S.1 4).toInt ≤ 2000 := hA.2.1.2.2
theorem qw_190 {x1 x2 : Int32} (hJ : zJq S M q h) (hA : zAA S M) : ∀ N, zpM xs N 190 [.ref 0, .int x1, .int x2, .ref q] h nc ns (zNq (fun _ => zJq (F54 x1 x2 S) M q)) := by
  obtain ⟨X, vs, rfl, hX, ho⟩ := hJ
  exact fun N => zpM_post (fun o g v hv => zWy_q (g v hv)) (pw_190 hA.1 hX ho)
theorem qw_191 {x1 : Int32} (hJ : zJq S M q h) (hA : zAA S M) : ∀ N, zpM xs N 191 [.ref 0, .int x1, .ref q] h nc ns (zNq (fun _ => zJq (F55 x1 S) M q)) := by
  obtain ⟨X, vs, rfl, hX, ho⟩ := hJ
  exact fun N => zpM_post (fun o g v hv => zWy_q (g v hv)) (pw_191 hA.1 hX ho)
theorem qw_192 {x1 x2 : Int32} (hJ : zJq S M q h) (hA : zAA S M) : ∀ N, zpM xs N 192 [.ref 0, .int x1, .int x2, .ref q] h nc ns (zNq (fun _ => zJq (F56 x1 x2 S) M q)) := by
  obtain ⟨X, vs, rfl, hX, ho⟩ := hJ
  exact fun N => zpM_post (fun o g v hv => zWy_q (g v hv)) (pw_192 hA.1 hX ho)
theorem qw_193 {x1 x2 x3 : Int32} (hJ : zJq S M q h) (hA : zAA S M) : ∀ N, zpM xs N 193 [.ref 0, .int x1, .int x2, .int x3, .ref q] h nc ns (zNq (fun _ => zJq (F57 x1 x2 x3 S) M q)) := by
  obtain ⟨X, vs, rfl, hX, ho⟩ := hJ
  exact fun N => zpM_post (fun o g v hv => zWy_q (g v hv)) (pw_193 hA.1 hX ho)
theorem qw_194 {x1 x2 x3 : Int32} (hJ : zJq S M q h) (hA : zAA S M) : ∀ N, zpM xs N 194 [.ref 0, .int x1, .int x2, .int x3, .ref q] h nc ns (zNq (fun _ => zJq (F58 x1 x2 x3 S) M q)) := by
  obtain ⟨X, vs, rfl, hX, ho⟩ := hJ
  exact fun N => zpM_post (fun o g v hv => zWy_q (g v hv)) (pw_194 hA.1 hX ho)
theorem qw_195 {x1 x2 x3 : Int32} (hJ : zJq S M q h) (hA : zAA S M) : ∀ N, zpM xs N 195 [.ref 0, .int x1, .int x2, .int x3, .ref q] h nc ns (zNq (fun _ => zJq (F59 x1 x2 x3 S) M q)) := by
  obtain ⟨X, vs, rfl, hX, ho⟩ := hJ
  exact fun N => zpM_post (fun o g v hv => zWy_q (g v hv)) (pw_195 hA.1 hX ho)
theorem qw_196 {x1 x2 x3 x4 x5 : Int32} (hJ : zJq S M q h) (hA : zAA S M) : ∀ N, zpM xs N 196 [.ref 0, .int x1, .int x2, .int x3, .int x4, .int x5, .ref q] h nc ns (zNq (fun _ => zJq (F60 x1 x2 x3 x4 x5 S) M q)) := by
  obtain ⟨X, vs, rfl, hX, ho⟩ := hJ
  exact fun N => zpM_post (fun o g v hv => zWy_q (g v hv)) (pw_196 hA.1 hX ho)
theorem qw_197 {x1 x2 : Int32} (hJ : zJq S M q h) (hA : zAA S M) : ∀ N, zpM xs N 197 [.ref 0, .int x1, .int x2, .ref q] h nc ns (zNq (fun _ => zJq (F61 x1 x2 S) M q)) := by
  obtain ⟨X, vs, rfl, hX, ho⟩ := hJ
  exact fun N => zpM_post (fun o g v hv => zWy_q (g v hv)) (pw_197 hA.1 hX ho)
theorem qw_198 {x1 x2 : Int32} (hJ : zJq S M q h) (hA : zAA S M) : ∀ N, zpM xs N 198 [.ref 0, .int x1, .int x2, .ref q] h nc ns (zNq (fun _ => zJq (F62 x1 x2 S) M q)) := by
  obtain ⟨X, vs, rfl, hX, ho⟩ := hJ
  exact fun N => zpM_post (fun o g v hv => zWy_q (g v hv)) (pw_198 hA.1 hX ho)
theorem qw_199 {x1 : Int32} (hJ : zJq S M q h) (hA : zAA S M) : ∀ N, zpM xs N 199 [.ref 0, .int x1, .ref q] h nc ns (zNq (fun _ => zJq (F63 x1 S) M q)) := by
  obtain ⟨X, vs, rfl, hX, ho⟩ := hJ
  exact fun N => zpM_post (fun o g v hv => zWy_q (g v hv)) (pw_199 hA.1 hX ho)
theorem qw_189 {x1 x2 : Int32} (hJ : zJq S M q h) (hA : zAA S M) : ∀ N, zpM xs N 189 [.ref 0, .int x1, .int x2, .ref q] h nc ns (zNq (zJ53 S M q x1 x2)) := by
  obtain ⟨X, vs, rfl, hX, ho⟩ := hJ
  exact fun N => pw_189 hA.1 (zAA_l0 hA) (zAA_l1 hA) hX ho
theorem qw_ask {y : Nat} {as : List Value} (hy : y ∈ zqc) (hJ : zJq S M q h) : ∀ N, zpM xs N y as h nc ns (fun o => zJq S M q o.2.1) := by
  obtain ⟨X, vs, rfl, hX, ho⟩ := hJ
  exact fun N => pw_ask hy hX ho
theorem qw_210 {x1 x2 : Int32} (hJ : zJq S M q h) (hA : zAA S M) : ∀ N, zpM xs N 210 [.ref 0, .int x1, .int x2, .ref q] h nc ns (fun o => zJq S M q o.2.1) := by
  obtain ⟨X, vs, rfl, hX, ho⟩ := hJ
  exact fun N => pw_210 hA.1 hX ho
theorem qw_213 {x1 : Int32} (hJ : zJq S M q h) (hA : zAA S M) : ∀ N, zpM xs N 213 [.ref 0, .int x1, .ref q] h nc ns (fun o => zJ5 S M q o.2.1) := by
  obtain ⟨X, vs, rfl, hX, ho⟩ := hJ
  exact fun N => pw_213 hA.1 (zAA_t hA) hX ho
theorem qw_81 (hJ : zJq S M q h) (hA : zAA S M) : ∀ N, zpM xs N 81 [.ref 0] h nc ns (fun o => zJ5 S M q o.2.1) := by
  obtain ⟨X, vs, rfl, hX, ho⟩ := hJ
  exact fun N => pw_81 hA.1 (zAA_t hA) hX ho
theorem qw_64 (hJ : zJq S M q h) (hA : zAA S M) : ∀ N, zpM xs N 64 [.ref 0] h nc ns (fun o => zJq (F64 S) M q o.2.1) := by
  obtain ⟨X, vs, rfl, hX, ho⟩ := hJ
  exact fun N => zpM_post (fun o g => ⟨X, vs, g.2, hX, ho⟩) (e_64 (S := S) hA.1)
theorem qw_64v (hJ : zJq S M q h) (hA : zAA S M) : ∀ N, zpM xs N 64 [.ref 0] h nc ns (fun o => o.1 = .inl (some (.int (V64 S))) ∧ zJq (F64 S) M q o.2.1) := by
  obtain ⟨X, vs, rfl, hX, ho⟩ := hJ
  exact fun N => zpM_post (fun o g => ⟨g.1, X, vs, g.2, hX, ho⟩) (e_64 (S := S) hA.1)
theorem qw_65 (hJ : zJq S M q h) (hA : zAA S M) : ∀ N, zpM xs N 65 [.ref 0] h nc ns (fun o => zJq (F65 S) M q o.2.1) := by
  obtain ⟨X, vs, rfl, hX, ho⟩ := hJ
  exact fun N => zpM_post (fun o g => ⟨X, vs, g.2, hX, ho⟩) (e_65 (S := S) hA.1)
theorem qm_140 {x1 x2 : Int32} (hJ : zJq S M q h) : ∀ N, zpM xs N 140 [.ref 44, .int x1, .int x2] h nc ns (fun o => zJq S (r140 x1 x2 M) q o.2.1) := by
  obtain ⟨X, vs, rfl, hX, ho⟩ := hJ
  exact fun N => jm_140 hX ho
theorem qm_141 {x1 : Int32} (hJ : zJq S M q h) : ∀ N, zpM xs N 141 [.ref 44, .int x1] h nc ns (fun o => zJq S (r141 x1 M) q o.2.1) := by
  obtain ⟨X, vs, rfl, hX, ho⟩ := hJ
  exact fun N => jm_141 hX ho
theorem qm_142 {x1 x2 : Int32} (hJ : zJq S M q h) : ∀ N, zpM xs N 142 [.ref 44, .int x1, .int x2] h nc ns (fun o => zJq S (r142 x1 x2 M) q o.2.1) := by
  obtain ⟨X, vs, rfl, hX, ho⟩ := hJ
  exact fun N => jm_142 hX ho
theorem qm_143 {x1 x2 x3 : Int32} (hJ : zJq S M q h) : ∀ N, zpM xs N 143 [.ref 44, .int x1, .int x2, .int x3] h nc ns (fun o => zJq S (r143 x1 x2 x3 M) q o.2.1) := by
  obtain ⟨X, vs, rfl, hX, ho⟩ := hJ
  exact fun N => jm_143 hX ho
theorem qm_144 {x1 x2 x3 : Int32} (hJ : zJq S M q h) : ∀ N, zpM xs N 144 [.ref 44, .int x1, .int x2, .int x3] h nc ns (fun o => zJq S (r144 x1 x2 x3 M) q o.2.1) := by
  obtain ⟨X, vs, rfl, hX, ho⟩ := hJ
  exact fun N => jm_144 hX ho
theorem qm_145 {x1 x2 x3 : Int32} (hJ : zJq S M q h) : ∀ N, zpM xs N 145 [.ref 44, .int x1, .int x2, .int x3] h nc ns (fun o => zJq S (r145 x1 x2 x3 M) q o.2.1) := by
  obtain ⟨X, vs, rfl, hX, ho⟩ := hJ
  exact fun N => jm_145 hX ho
theorem qm_146 {x1 x2 x3 x4 x5 : Int32} (hJ : zJq S M q h) : ∀ N, zpM xs N 146 [.ref 44, .int x1, .int x2, .int x3, .int x4, .int x5] h nc ns (fun o => zJq S (r146 x1 x2 x3 x4 x5 M) q o.2.1) := by
  obtain ⟨X, vs, rfl, hX, ho⟩ := hJ
  exact fun N => jm_146 hX ho
theorem qm_147 {x1 x2 : Int32} (hJ : zJq S M q h) : ∀ N, zpM xs N 147 [.ref 44, .int x1, .int x2] h nc ns (fun o => zJq S (r147 x1 x2 M) q o.2.1) := by
  obtain ⟨X, vs, rfl, hX, ho⟩ := hJ
  exact fun N => jm_147 hX ho
theorem qm_148 {x1 x2 : Int32} (hJ : zJq S M q h) : ∀ N, zpM xs N 148 [.ref 44, .int x1, .int x2] h nc ns (fun o => zJq S (r148 x1 x2 M) q o.2.1) := by
  obtain ⟨X, vs, rfl, hX, ho⟩ := hJ
  exact fun N => jm_148 hX ho
theorem qm_150 {x1 : Int32} (h20 : (M.2.1 20).length = 20) (hJ : zJq S M q h) : ∀ N, zpM xs N 150 [.ref 44, .int x1] h nc ns (fun o => zJq S (r150 x1 M) q o.2.1) := by
  obtain ⟨X, vs, rfl, hX, ho⟩ := hJ
  exact fun N => jm_150 hX h20 ho
theorem qm_151 (hJ : zJq S M q h) : ∀ N, zpM xs N 151 [.ref 44] h nc ns (fun o => zJq S (r151 M) q o.2.1) := by
  obtain ⟨X, vs, rfl, hX, ho⟩ := hJ
  exact fun N => jm_151 hX ho
theorem qm_152 (hJ : zJq S M q h) : ∀ N, zpM xs N 152 [.ref 44] h nc ns (fun o => zJq S (r152 M) q o.2.1) := by
  obtain ⟨X, vs, rfl, hX, ho⟩ := hJ
  exact fun N => jm_152 hX ho
theorem qm_172 {x1 : Int32} (hJ : zJq S M q h) : ∀ N, zpM xs N 172 [.ref 44, .int x1] h nc ns (fun o => zJq S (r172 x1 M) q o.2.1) := by
  obtain ⟨X, vs, rfl, hX, ho⟩ := hJ
  exact fun N => jm_172 hX ho
theorem qm_ask {y : Nat} {as : List Value} (hy : y ∈ zqo) (hJ : zJq S M q h) : ∀ N, zpM xs N y as h nc ns (fun o => zJt S M q o.2.1) := by
  obtain ⟨X, vs, rfl, hX, ho⟩ := hJ
  exact fun N => jm_ask hy hX ho
theorem qm_175 {x1 x2 : Int32} (hJ : zJq S M q h) : ∀ N, zpM xs N 175 [.ref 44, .int x1, .int x2] h nc ns (fun o => zJt S M q o.2.1) := by
  obtain ⟨X, vs, rfl, hX, ho⟩ := hJ
  exact fun N => jm_175 hX ho
theorem qm_188 (hJ : zJq S M q h) : ∀ N, zpM xs N 188 [.ref 44] h nc ns (fun o => zJt S M q o.2.1) := by
  obtain ⟨X, vs, rfl, hX, ho⟩ := hJ
  exact fun N => jm_188 hX ho
theorem qm_139 {x1 x2 : Int32} (hJ : zJq S M q h) : ∀ N, zpM xs N 139 [.ref 44, .int x1, .int x2] h nc ns (fun o => zJ139 S M q x1 x2 o.2.1) := by
  obtain ⟨X, vs, rfl, hX, ho⟩ := hJ
  exact fun N => jm_139 hX ho
/-- the answer of the reference's, and Out as it stands -/
def zJv (S : zSt) (M : zRt) (q : Nat) (vs : List Value) (x : Int32) : Option Value → zH → Prop := fun v h => v = some (.int x) ∧ ∃ X, h = zy S M X ∧ zUX (q, 6, vs) X M.2.2

theorem qw_80v (hJ : zJq S M q h) (hA : zAA S M) : ∀ N, zpM xs N 80 [.ref 0] h nc ns (fun o => o.1 = .inl (some (.int (V80 S))) ∧ zJq S M q o.2.1) := by
  obtain ⟨X, vs, rfl, hX, ho⟩ := hJ
  exact fun N => zpM_post (fun o g => ⟨g.1, X, vs, g.2, hX, ho⟩) (e_80 (S := S) hA.1)
theorem qm_187v (hJ : zJq S M q h) : ∀ N, zpM xs N 187 [.ref 44] h nc ns (fun o => o.1 = .inl (some (.int (v187 M))) ∧ zJq S (zmS M 0 (Int32.ofInt 0)) q o.2.1) := by
  obtain ⟨X, vs, rfl, hX, ho⟩ := hJ
  exact fun N => zpM_post (fun o g => ⟨g.1, X, vs, g.2, hX, ho⟩) (f_187 (S0 := S) hX)
theorem zSo (h : zZ S M) : V80 S = v187 M := zE_80 (zE_0 h.2.2)
theorem zjmq {c c2 : Nat × Nat} {D y : Nat} {as : List Value} {R : Option Value → Prop} {Q : Option Value → zH → Prop} (a : zMs xs D y as h nc ns (zWm c c2 q R nc ns)) (b : ∀ N, zpM xs N y as h nc ns (zNq Q)) : zMs xs D y as h nc ns (fun o => ∃ v h' nc' ns', o = (.inl v, h', nc', ns') ∧ R v ∧ zWI c c2 q h' ∧ nc' ≤ nc + 400 ∧ ns' ≤ ns + 14000 ∧ Q v h') := by
  refine zMs_post (fun o ho => ?_) (zMs_and a b)
  obtain ⟨⟨v, h', nc', ns', rfl, b0, b1, b2, b3⟩, g⟩ := ho
  exact ⟨v, h', nc', ns', rfl, b0, b1, b2, b3, g _ rfl⟩
theorem zAA_0 {t : Int32} (hA : zAA S M) : zAA S (zmS M 0 t) := ⟨hA.1, zZ_0 hA.2⟩
theorem zAA_172 {x1 : Int32} (hA : zAA S M) : zAA S (r172 x1 M) := ⟨hA.1, zZ_172 hA.2⟩
theorem zAA_5 {S' : zSt} (f : zfr [] [5] S.1 S.2 S'.1 S'.2) (hA : zAA S M) : zAA S' M := ⟨f.2.2, zZ_5 f hA.2⟩
def zbq (v : Int32) : Int32 := if v = 0 then Int32.ofInt 0 else Int32.ofInt 1
theorem zbq_1 {v : Int32} (g : v = 0) : Int32.ofInt 0 = zbq v := by
  unfold zbq
  rw [if_pos g]
theorem zbq_2 {v : Int32} (g : ¬ v = 0) : Int32.ofInt 1 = zbq v := by
  unfold zbq
  rw [if_neg g]
theorem zjo9 {c c2 : Nat × Nat} {x1 x2 : Int32} {D y : Nat} {as : List Value} {Q : Option Value → zH → Prop} (a : zMs xs D y as h nc ns (zWk x1 x2 c c2 q nc ns)) (b : ∀ N, zpM xs N y as h nc ns (zNq Q)) : zMs xs D y as h nc ns (fun o => ∃ (v : Int32) (h' : zH) (nc' ns' : Nat) (c' : Nat × Nat), o = (.inl (some (.int v)), h', nc', ns') ∧ zCq x1 x2 c c' ∧ zWI c' c2 q h' ∧ nc' ≤ nc + 10 ∧ ns' ≤ ns + 100 ∧ Q (some (.int v)) h') := by
  refine zMs_post (fun o ho => ?_) (zMs_and a b)
  obtain ⟨⟨v, h', nc', ns', c', rfl, b0, b1, b2, b3⟩, g⟩ := ho
  exact ⟨v, h', nc', ns', c', rfl, b0, b1, b2, b3, g _ rfl⟩
theorem zkr_e {k r k2 r2 : Nat} (a : (k, r) ∈ zcds) (b : (k2, r2) ∈ zcds) (e1 : Int32.ofNat k = Int32.ofNat k2) (e2 : Int32.ofNat r = Int32.ofNat r2) : k = k2 ∧ r = r2 := by
  have p1 := zcds_kr _ a
  have p2 := zcds_kr _ b
  have e1 := congrArg Int32.toInt e1
  have e2 := congrArg Int32.toInt e2
  simp only at p1 p2
  rw [zofI (by omega), zofI (by omega)] at e1 e2
  omega
theorem zlcm (x : Int64) : lg_cmp x x = 0 := by
  unfold lg_cmp
  rw [if_neg (Int64.lt_irrefl : ¬ x < x), if_pos rfl]
theorem zAA_63 {x1 : Int32} (hA : zAA S M) : zAA (F63 x1 S) (r150 x1 M) := ⟨ln_F63 hA.1, zZ_63 hA.2⟩
theorem zAA_54 {x1 x2 : Int32} (hA : zAA S M) : zAA (F54 x1 x2 S) (r140 x1 x2 M) := ⟨ln_F54 hA.1, zZ_54 hA.2⟩
theorem zAA_55 {x1 : Int32} (hA : zAA S M) : zAA (F55 x1 S) (r141 x1 M) := ⟨ln_F55 hA.1, zZ_55 hA.2⟩
theorem zAA_56 {x1 x2 : Int32} (hA : zAA S M) : zAA (F56 x1 x2 S) (r142 x1 x2 M) := ⟨ln_F56 hA.1, zZ_56 hA.2⟩
theorem zAA_57 {x1 x2 x3 : Int32} (hA : zAA S M) : zAA (F57 x1 x2 x3 S) (r143 x1 x2 x3 M) := ⟨ln_F57 hA.1, zZ_57 hA.2⟩
theorem zAA_58 {x1 x2 x3 : Int32} (hA : zAA S M) : zAA (F58 x1 x2 x3 S) (r144 x1 x2 x3 M) := ⟨ln_F58 hA.1, zZ_58 hA.2⟩
theorem zAA_59 {x1 x2 x3 : Int32} (hA : zAA S M) : zAA (F59 x1 x2 x3 S) (r145 x1 x2 x3 M) := ⟨ln_F59 hA.1, zZ_59 hA.2⟩
theorem zAA_60 {x1 x2 x3 x4 x5 : Int32} (hA : zAA S M) : zAA (F60 x1 x2 x3 x4 x5 S) (r146 x1 x2 x3 x4 x5 M) := ⟨ln_F60 hA.1, zZ_60 hA.2⟩
theorem zAA_61 {x1 x2 : Int32} (hA : zAA S M) : zAA (F61 x1 x2 S) (r147 x1 x2 M) := ⟨ln_F61 hA.1, zZ_61 hA.2⟩
theorem zAA_62 {x1 x2 : Int32} (hx : x2 = 0 ∨ x2 = 1) (hA : zAA S M) : zAA (F62 x1 x2 S) (r148 x1 x2 M) := ⟨ln_F62 hA.1, zZ_62 hx hA.2⟩
theorem zAA_64 (hA : zAA S M) : zAA (F64 S) (r151 M) := ⟨ln_F64 hA.1, zZ_64 hA.2⟩
theorem zAA_65 (hA : zAA S M) : zAA (F65 S) (r152 M) := ⟨ln_F65 hA.1, zZ_65 hA.2⟩
theorem zC9_54 {x1 x2 : Int32} (h : zZ S M) : zAn (R54 x1 x2 S) (v140 x1 x2 M) ((r140 x1 x2 M).1 0) kc_190 := (zM_54 h.2.2).2
theorem zC9_55 {x1 : Int32} (h : zZ S M) : zAn (R55 x1 S) (v141 x1 M) ((r141 x1 M).1 0) kc_191 := (zM_55 h.2.2).2
theorem zC9_56 {x1 x2 : Int32} (h : zZ S M) : zAn (R56 x1 x2 S) (v142 x1 x2 M) ((r142 x1 x2 M).1 0) kc_192 := (zM_56 h.2.2).2
theorem zC9_57 {x1 x2 x3 : Int32} (h : zZ S M) : zAn (R57 x1 x2 x3 S) (v143 x1 x2 x3 M) ((r143 x1 x2 x3 M).1 0) kc_193 := (zM_57 h.2.2.1.2.1 h.2.2.1.2.2).2
theorem zC9_58 {x1 x2 x3 : Int32} (h : zZ S M) : zAn (R58 x1 x2 x3 S) (v144 x1 x2 x3 M) ((r144 x1 x2 x3 M).1 0) kc_194 := (zM_58 h.2.2.1.2.1 h.2.2.1.2.2).2
theorem zC9_59 {x1 x2 x3 : Int32} (h : zZ S M) : zAn (R59 x1 x2 x3 S) (v145 x1 x2 x3 M) ((r145 x1 x2 x3 M).1 0) kc_195 := (zM_59 h.2.2).2
theorem zC9_60 {x1 x2 x3 x4 x5 : Int32} (h : zZ S M) : zAn (R60 x1 x2 x3 x4 x5 S) (v146 x1 x2 x3 x4 x5 M) ((r146 x1 x2 x3 x4 x5 M).1 0) kc_196 := (zM_60 h.2.2).2
theorem zC9_61 {x1 x2 : Int32} (h : zZ S M) : zAn (R61 x1 x2 S) (v147 x1 x2 M) ((r147 x1 x2 M).1 0) kc_197 := (zM_61 ⟨h.1, h.2.2.1.1⟩).2
theorem zC9_62 {x1 x2 : Int32} (hx : x2 = 0 ∨ x2 = 1) (h : zZ S M) : zAn (R62 x1 x2 S) (v148 x1 x2 M) ((r148 x1 x2 M).1 0) kc_198 := (zM_62 hx ⟨h.1, h.2.2.1.1⟩).2
theorem zC9_63 {x1 : Int32} (h : zZ S M) : zAn (R63 x1 S) (v150 x1 M) ((r150 x1 M).1 0) kc_199 := (zN_63 h.1).2
theorem zAA_53 {S1 : zSt} {k r : Nat} (hc : (k, r) ∈ zcds) (mk : zMk S S1 k r) (hA : zAA S M) : zAA (F53t S1) (r139 k r M) := by
  have e : zZ (F53t S1) (r139 k r M) := zZ_53 hc mk hA.2
  refine ⟨?_, e⟩
  have f : zfrm [2, 3, 9, 10, 11] [2, 3, 6, 7, 8, 9, 10, 11, 17] (F53t S1) S1 := by
    unfold F53t
    exact fm_c fr_F30 (fm_c fm_F (fm_c fr_F40 fm_rf (by decide) (by decide)) (by decide) (by decide)) (by decide) (by decide)
  obtain ⟨m1, m2, m3, m4, m5⟩ := mk
  refine fm_L f (fun j => ?_)
  by_cases j0 : j = 0
  · subst j0
    rw [m3]
    decide
  · by_cases j1 : j = 1
    · subst j1
      rw [m4, zts_len]
      decide
    · rw [m5 j j0 j1]
      exact hA.1 j
end ZL8
section ZL9
variable {xs : List Int32} {h : zH} {nc ns nc0 ns0 q : Nat} {c : Nat × Nat} {i : Int32} {o5 o6 o7 : Option Value} {S : zSt} {M : zRt}
set_option maxRecDepth 20000
theorem lj_c176 (hW : zWI c c q h) (hJ : zJq S M q h) (hA : zAA S M) (h0 : 0 ≤ i.toInt) (h1 : i.toInt + 6 ≤ xs.length) (hN : xs.length ≤ 100000) (K : ∀ (c' : Nat × Nat) (S' : zSt) (M' : zRt) (p5 p6 p7 : Option Value) (h' : zH) (nc' ns' : Nat), zWI c' c' q h' → zJq S' M' q h' → zAA S' M' → nc' ≤ nc + 410 → ns' ≤ ns + 14100 → zEs xs 41 214 1272 [some (.retAddr 0), some (.ref 0), some (.ref 44), some (.ref q), some (.int i), p5, p6, p7] [] h' nc' ns' (zPb nc0 ns0)) : zEs xs 41 214 176 [some (.retAddr 0), some (.ref 0), some (.ref 44), some (.ref q), some (.int i), o5, o6, o7] [] h nc ns (zPb nc0 ns0) := by
  refine zEs_run 5 rfl ?_
  refine zEs_sk9 (k := 1) rfl h0 h1 hN (by decide) (by decide) (fun v1 s1 => ?_)
  refine zEs_run 4 rfl ?_
  refine zEs_sk9 (k := 2) rfl h0 h1 hN (by decide) (by decide) (fun v2 s2 => ?_)
  refine zEs_run 1 rfl ?_
  refine zEs_callG rfl rfl (zMs_mono (show 9 ≤ 40 by decide) (zjo9 (w_189 hW) (qw_189 hJ hA))) (fun v h9 nc1 ns1 z => ?_) (fun E h9 nc1 ns1 z => by obtain ⟨_, _, _, _, _, z, _⟩ := z; cases z)
  obtain ⟨k1, h1_, nc1_, ns1_, c1, z, hq1, W1, a1, d1, J1⟩ := z
  cases z
  refine zEs_run 6 rfl ?_
  refine zEs_sk9 (k := 1) rfl h0 h1 hN (by decide) (by decide) (fun v3 s3 => ?_)
  have q3 : v1 = v3 := Option.some.inj (s1.symm.trans s3)
  subst q3
  refine zEs_run 4 rfl ?_
  refine zEs_sk9 (k := 2) rfl h0 h1 hN (by decide) (by decide) (fun v4 s4 => ?_)
  have q4 : v2 = v4 := Option.some.inj (s2.symm.trans s4)
  subst q4
  obtain ⟨ws2, hw2⟩ := zWI_44 W1
  rcases J1 with ⟨nr, -, J1⟩ | ⟨hc, k, r, S1, e1, e2, e3, mk, -, J1⟩
  · refine zEs_callG rfl (show zcallV 2 7 139 211 (.int v2 :: .int v1 :: .ref 44 :: _) _ = _ from zcallV_eq rfl hw2 (Nat.le_of_ble_eq_true rfl)) (zMs_and (zWm_code W1) (qm_139 J1)) (fun v h9 nc1 ns1 z => ?_) (fun E h9 nc1 ns1 z => by obtain ⟨⟨_, _, _, _, _, z, _⟩, _⟩ := z; cases z)
    obtain ⟨⟨v2_, h2_, nc2_, ns2_, c2_, z, hq2, W2, a2, d2⟩, J2⟩ := z
    cases z
    obtain rfl := zCq_e (fun p hp => ⟨(zcds_kr p hp).2.1, (zcds_kr p hp).2.2.2.1⟩) (zWI_m1 W2).2 (zWI_m1 W2).1 hq2 hq1
    refine zEs_run 2 rfl ?_
    replace J2 := (J2.resolve_right (fun y9 => nr y9.1)).2
    obtain ⟨t, J2⟩ := J2
    exact K _ _ _ _ _ _ _ _ _ W2 J2 (zAA_0 hA) (by omega) (by omega)
  · replace J1 := zJl_q J1
    refine zEs_callG rfl (show zcallV 2 7 139 211 (.int v2 :: .int v1 :: .ref 44 :: _) _ = _ from zcallV_eq rfl hw2 (Nat.le_of_ble_eq_true rfl)) (zMs_and (zWm_code W1) (qm_139 J1)) (fun v h9 nc1 ns1 z => ?_) (fun E h9 nc1 ns1 z => by obtain ⟨⟨_, _, _, _, _, z, _⟩, _⟩ := z; cases z)
    obtain ⟨⟨v2_, h2_, nc2_, ns2_, c2_, z, hq2, W2, a2, d2⟩, J2⟩ := z
    cases z
    obtain rfl := zCq_e (fun p hp => ⟨(zcds_kr p hp).2.1, (zcds_kr p hp).2.2.2.1⟩) (zWI_m1 W2).2 (zWI_m1 W2).1 hq2 hq1
    refine zEs_run 2 rfl ?_
    replace J2 := (J2.resolve_left (fun y9 => y9.1 hc)).2
    obtain ⟨k2, r2, f1, f2, f3, J2⟩ := J2
    obtain ⟨rfl, rfl⟩ := zkr_e e3 f3 (e1.symm.trans f1) (e2.symm.trans f2)
    exact K _ _ _ _ _ _ _ _ _ W2 J2 (zAA_53 e3 mk hA) (by omega) (by omega)
theorem lj_c216 (hW : zWI c c q h) (hJ : zJq S M q h) (hA : zAA S M) (h0 : 0 ≤ i.toInt) (h1 : i.toInt + 6 ≤ xs.length) (hN : xs.length ≤ 100000) (K : ∀ (c' : Nat × Nat) (S' : zSt) (M' : zRt) (p5 p6 p7 : Option Value) (h' : zH) (nc' ns' : Nat), zWI c' c' q h' → zJq S' M' q h' → zAA S' M' → nc' ≤ nc + 410 → ns' ≤ ns + 14100 → zEs xs 41 214 1272 [some (.retAddr 0), some (.ref 0), some (.ref 44), some (.ref q), some (.int i), p5, p6, p7] [] h' nc' ns' (zPb nc0 ns0)) : zEs xs 41 214 216 [some (.retAddr 0), some (.ref 0), some (.ref 44), some (.ref q), some (.int i), o5, o6, o7] [] h nc ns (zPb nc0 ns0) := by
  refine zEs_run 5 rfl ?_
  refine zEs_sk9 (k := 1) rfl h0 h1 hN (by decide) (by decide) (fun v1 s1 => ?_)
  refine zEs_run 4 rfl ?_
  refine zEs_sk9 (k := 2) rfl h0 h1 hN (by decide) (by decide) (fun v2 s2 => ?_)
  refine zEs_run 1 rfl ?_
  refine zEs_callG rfl rfl (zMs_mono (show 9 ≤ 40 by decide) (zjo (w_190 hW) (qw_190 hJ hA))) (fun v h9 nc1 ns1 z => ?_) (fun E h9 nc1 ns1 z => by obtain ⟨_, _, _, _, z, _⟩ := z; cases z)
  obtain ⟨k1, h1_, nc1_, ns1_, z, W1, a1, d1, J1⟩ := z
  cases z
  refine zEs_run 6 rfl ?_
  refine zEs_sk9 (k := 1) rfl h0 h1 hN (by decide) (by decide) (fun v3 s3 => ?_)
  have q3 : v1 = v3 := Option.some.inj (s1.symm.trans s3)
  subst q3
  refine zEs_run 4 rfl ?_
  refine zEs_sk9 (k := 2) rfl h0 h1 hN (by decide) (by decide) (fun v4 s4 => ?_)
  have q4 : v2 = v4 := Option.some.inj (s2.symm.trans s4)
  subst q4
  obtain ⟨ws2, hw2⟩ := zWI_44 W1
  refine zEs_callG rfl (show zcallV 2 7 140 251 (.int v2 :: .int v1 :: .ref 44 :: _) _ = _ from zcallV_eq rfl hw2 (Nat.le_of_ble_eq_true rfl)) (zjm (mm_140 W1) (qm_140 J1)) (fun v h9 nc1 ns1 z => ?_) (fun E h9 nc1 ns1 z => by obtain ⟨_, _, _, _, z, _⟩ := z; cases z)
  obtain ⟨v2_, h2_, nc2_, ns2_, z, hv2, W2, a2, d2, J2⟩ := z
  cases z
  obtain ⟨k2, rfl⟩ := hv2
  refine zEs_run 2 rfl ?_
  exact K _ _ _ _ _ _ _ _ _ W2 J2 (zAA_54 hA) (by omega) (by omega)
theorem lj_c256 (hW : zWI c c q h) (hJ : zJq S M q h) (hA : zAA S M) (h0 : 0 ≤ i.toInt) (h1 : i.toInt + 6 ≤ xs.length) (hN : xs.length ≤ 100000) (K : ∀ (c' : Nat × Nat) (S' : zSt) (M' : zRt) (p5 p6 p7 : Option Value) (h' : zH) (nc' ns' : Nat), zWI c' c' q h' → zJq S' M' q h' → zAA S' M' → nc' ≤ nc + 410 → ns' ≤ ns + 14100 → zEs xs 41 214 1272 [some (.retAddr 0), some (.ref 0), some (.ref 44), some (.ref q), some (.int i), p5, p6, p7] [] h' nc' ns' (zPb nc0 ns0)) : zEs xs 41 214 256 [some (.retAddr 0), some (.ref 0), some (.ref 44), some (.ref q), some (.int i), o5, o6, o7] [] h nc ns (zPb nc0 ns0) := by
  refine zEs_run 5 rfl ?_
  refine zEs_sk9 (k := 1) rfl h0 h1 hN (by decide) (by decide) (fun v1 s1 => ?_)
  refine zEs_run 1 rfl ?_
  refine zEs_callG rfl rfl (zMs_mono (show 9 ≤ 40 by decide) (zjo (w_191 hW) (qw_191 hJ hA))) (fun v h9 nc1 ns1 z => ?_) (fun E h9 nc1 ns1 z => by obtain ⟨_, _, _, _, z, _⟩ := z; cases z)
  obtain ⟨k1, h1_, nc1_, ns1_, z, W1, a1, d1, J1⟩ := z
  cases z
  refine zEs_run 6 rfl ?_
  refine zEs_sk9 (k := 1) rfl h0 h1 hN (by decide) (by decide) (fun v2 s2 => ?_)
  have q2 : v1 = v2 := Option.some.inj (s1.symm.trans s2)
  subst q2
  obtain ⟨ws2, hw2⟩ := zWI_44 W1
  refine zEs_callG rfl (show zcallV 1 7 141 279 (.int v1 :: .ref 44 :: _) _ = _ from zcallV_eq rfl hw2 (Nat.le_of_ble_eq_true rfl)) (zjm (mm_141 W1) (qm_141 J1)) (fun v h9 nc1 ns1 z => ?_) (fun E h9 nc1 ns1 z => by obtain ⟨_, _, _, _, z, _⟩ := z; cases z)
  obtain ⟨v2_, h2_, nc2_, ns2_, z, hv2, W2, a2, d2, J2⟩ := z
  cases z
  obtain ⟨k2, rfl⟩ := hv2
  refine zEs_run 2 rfl ?_
  exact K _ _ _ _ _ _ _ _ _ W2 J2 (zAA_55 hA) (by omega) (by omega)
theorem lj_c284 (hW : zWI c c q h) (hJ : zJq S M q h) (hA : zAA S M) (h0 : 0 ≤ i.toInt) (h1 : i.toInt + 6 ≤ xs.length) (hN : xs.length ≤ 100000) (K : ∀ (c' : Nat × Nat) (S' : zSt) (M' : zRt) (p5 p6 p7 : Option Value) (h' : zH) (nc' ns' : Nat), zWI c' c' q h' → zJq S' M' q h' → zAA S' M' → nc' ≤ nc + 410 → ns' ≤ ns + 14100 → zEs xs 41 214 1272 [some (.retAddr 0), some (.ref 0), some (.ref 44), some (.ref q), some (.int i), p5, p6, p7] [] h' nc' ns' (zPb nc0 ns0)) : zEs xs 41 214 284 [some (.retAddr 0), some (.ref 0), some (.ref 44), some (.ref q), some (.int i), o5, o6, o7] [] h nc ns (zPb nc0 ns0) := by
  refine zEs_run 5 rfl ?_
  refine zEs_sk9 (k := 1) rfl h0 h1 hN (by decide) (by decide) (fun v1 s1 => ?_)
  refine zEs_run 4 rfl ?_
  refine zEs_sk9 (k := 2) rfl h0 h1 hN (by decide) (by decide) (fun v2 s2 => ?_)
  refine zEs_run 1 rfl ?_
  refine zEs_callG rfl rfl (zMs_mono (show 9 ≤ 40 by decide) (zjo (w_192 hW) (qw_192 hJ hA))) (fun v h9 nc1 ns1 z => ?_) (fun E h9 nc1 ns1 z => by obtain ⟨_, _, _, _, z, _⟩ := z; cases z)
  obtain ⟨k1, h1_, nc1_, ns1_, z, W1, a1, d1, J1⟩ := z
  cases z
  refine zEs_run 6 rfl ?_
  refine zEs_sk9 (k := 1) rfl h0 h1 hN (by decide) (by decide) (fun v3 s3 => ?_)
  have q3 : v1 = v3 := Option.some.inj (s1.symm.trans s3)
  subst q3
  refine zEs_run 4 rfl ?_
  refine zEs_sk9 (k := 2) rfl h0 h1 hN (by decide) (by decide) (fun v4 s4 => ?_)
  have q4 : v2 = v4 := Option.some.inj (s2.symm.trans s4)
  subst q4
  obtain ⟨ws2, hw2⟩ := zWI_44 W1
  refine zEs_callG rfl (show zcallV 2 7 142 319 (.int v2 :: .int v1 :: .ref 44 :: _) _ = _ from zcallV_eq rfl hw2 (Nat.le_of_ble_eq_true rfl)) (zjm (mm_142 W1) (qm_142 J1)) (fun v h9 nc1 ns1 z => ?_) (fun E h9 nc1 ns1 z => by obtain ⟨_, _, _, _, z, _⟩ := z; cases z)
  obtain ⟨v2_, h2_, nc2_, ns2_, z, hv2, W2, a2, d2, J2⟩ := z
  cases z
  obtain ⟨k2, rfl⟩ := hv2
  refine zEs_run 2 rfl ?_
  exact K _ _ _ _ _ _ _ _ _ W2 J2 (zAA_56 hA) (by omega) (by omega)
theorem lj_c324 (hW : zWI c c q h) (hJ : zJq S M q h) (hA : zAA S M) (h0 : 0 ≤ i.toInt) (h1 : i.toInt + 6 ≤ xs.length) (hN : xs.length ≤ 100000) (K : ∀ (c' : Nat × Nat) (S' : zSt) (M' : zRt) (p5 p6 p7 : Option Value) (h' : zH) (nc' ns' : Nat), zWI c' c' q h' → zJq S' M' q h' → zAA S' M' → nc' ≤ nc + 410 → ns' ≤ ns + 14100 → zEs xs 41 214 1272 [some (.retAddr 0), some (.ref 0), some (.ref 44), some (.ref q), some (.int i), p5, p6, p7] [] h' nc' ns' (zPb nc0 ns0)) : zEs xs 41 214 324 [some (.retAddr 0), some (.ref 0), some (.ref 44), some (.ref q), some (.int i), o5, o6, o7] [] h nc ns (zPb nc0 ns0) := by
  refine zEs_run 5 rfl ?_
  refine zEs_sk9 (k := 1) rfl h0 h1 hN (by decide) (by decide) (fun v1 s1 => ?_)
  refine zEs_run 4 rfl ?_
  refine zEs_sk9 (k := 2) rfl h0 h1 hN (by decide) (by decide) (fun v2 s2 => ?_)
  refine zEs_run 4 rfl ?_
  refine zEs_sk9 (k := 3) rfl h0 h1 hN (by decide) (by decide) (fun v3 s3 => ?_)
  suffices J1_ : ∀ w : Int32, (w = 0 ∨ w = 1) → w = zbq v3 → zEs xs 41 214 351 [some (.retAddr 0), some (.ref 0), some (.ref 44), some (.ref q), some (.int i), o5, o6, o7] (.int w :: [.int v2, .int v1, .ref 0]) h _ _ (zPb nc0 ns0) by
    refine zEs_if rfl (fun g9 => ?_) (fun g9 => ?_)
    · exact zEs_run 1 rfl (J1_ _ (by decide) (zbq_1 g9))
    · exact zEs_run 2 rfl (J1_ _ (by decide) (zbq_2 g9))
  intro v4 b4 s4
  refine zEs_run 1 rfl ?_
  refine zEs_callG rfl rfl (zMs_mono (show 9 ≤ 40 by decide) (zjo (w_193 hW) (qw_193 hJ hA))) (fun v h9 nc1 ns1 z => ?_) (fun E h9 nc1 ns1 z => by obtain ⟨_, _, _, _, z, _⟩ := z; cases z)
  obtain ⟨k1, h1_, nc1_, ns1_, z, W1, a1, d1, J1⟩ := z
  cases z
  refine zEs_run 6 rfl ?_
  refine zEs_sk9 (k := 1) rfl h0 h1 hN (by decide) (by decide) (fun v5 s5 => ?_)
  have q5 : v1 = v5 := Option.some.inj (s1.symm.trans s5)
  subst q5
  refine zEs_run 4 rfl ?_
  refine zEs_sk9 (k := 2) rfl h0 h1 hN (by decide) (by decide) (fun v6 s6 => ?_)
  have q6 : v2 = v6 := Option.some.inj (s2.symm.trans s6)
  subst q6
  refine zEs_run 4 rfl ?_
  refine zEs_sk9 (k := 3) rfl h0 h1 hN (by decide) (by decide) (fun v7 s7 => ?_)
  have q7 : v3 = v7 := Option.some.inj (s3.symm.trans s7)
  subst q7
  suffices J2_ : ∀ w : Int32, (w = 0 ∨ w = 1) → w = zbq v3 → zEs xs 41 214 384 [some (.retAddr 0), some (.ref 0), some (.ref 44), some (.ref q), some (.int i), some (.int k1), o6, o7] (.int w :: [.int v2, .int v1, .ref 44]) h9 _ _ (zPb nc0 ns0) by
    refine zEs_if rfl (fun g9 => ?_) (fun g9 => ?_)
    · exact zEs_run 1 rfl (J2_ _ (by decide) (zbq_1 g9))
    · exact zEs_run 2 rfl (J2_ _ (by decide) (zbq_2 g9))
  intro v8 b8 s8
  have q8 : v4 = v8 := s4.trans s8.symm
  subst q8
  obtain ⟨ws2, hw2⟩ := zWI_44 W1
  refine zEs_callG rfl (show zcallV 3 7 143 387 (.int v4 :: .int v2 :: .int v1 :: .ref 44 :: _) _ = _ from zcallV_eq rfl hw2 (Nat.le_of_ble_eq_true rfl)) (zjm (mm_143 W1 b4) (qm_143 J1)) (fun v h9 nc1 ns1 z => ?_) (fun E h9 nc1 ns1 z => by obtain ⟨_, _, _, _, z, _⟩ := z; cases z)
  obtain ⟨v2_, h2_, nc2_, ns2_, z, hv2, W2, a2, d2, J2⟩ := z
  cases z
  obtain ⟨k2, rfl⟩ := hv2
  refine zEs_run 2 rfl ?_
  exact K _ _ _ _ _ _ _ _ _ W2 J2 (zAA_57 hA) (by omega) (by omega)
theorem lj_c392 (hW : zWI c c q h) (hJ : zJq S M q h) (hA : zAA S M) (h0 : 0 ≤ i.toInt) (h1 : i.toInt + 6 ≤ xs.length) (hN : xs.length ≤ 100000) (K : ∀ (c' : Nat × Nat) (S' : zSt) (M' : zRt) (p5 p6 p7 : Option Value) (h' : zH) (nc' ns' : Nat), zWI c' c' q h' → zJq S' M' q h' → zAA S' M' → nc' ≤ nc + 410 → ns' ≤ ns + 14100 → zEs xs 41 214 1272 [some (.retAddr 0), some (.ref 0), some (.ref 44), some (.ref q), some (.int i), p5, p6, p7] [] h' nc' ns' (zPb nc0 ns0)) : zEs xs 41 214 392 [some (.retAddr 0), some (.ref 0), some (.ref 44), some (.ref q), some (.int i), o5, o6, o7] [] h nc ns (zPb nc0 ns0) := by
  refine zEs_run 5 rfl ?_
  refine zEs_sk9 (k := 1) rfl h0 h1 hN (by decide) (by decide) (fun v1 s1 => ?_)
  refine zEs_run 4 rfl ?_
  refine zEs_sk9 (k := 2) rfl h0 h1 hN (by decide) (by decide) (fun v2 s2 => ?_)
  refine zEs_run 4 rfl ?_
  refine zEs_sk9 (k := 3) rfl h0 h1 hN (by decide) (by decide) (fun v3 s3 => ?_)
  refine zEs_run 1 rfl ?_
  refine zEs_callG rfl rfl (zMs_mono (show 9 ≤ 40 by decide) (zjo (w_194 hW) (qw_194 hJ hA))) (fun v h9 nc1 ns1 z => ?_) (fun E h9 nc1 ns1 z => by obtain ⟨_, _, _, _, z, _⟩ := z; cases z)
  obtain ⟨k1, h1_, nc1_, ns1_, z, W1, a1, d1, J1⟩ := z
  cases z
  refine zEs_run 6 rfl ?_
  refine zEs_sk9 (k := 1) rfl h0 h1 hN (by decide) (by decide) (fun v4 s4 => ?_)
  have q4 : v1 = v4 := Option.some.inj (s1.symm.trans s4)
  subst q4
  refine zEs_run 4 rfl ?_
  refine zEs_sk9 (k := 2) rfl h0 h1 hN (by decide) (by decide) (fun v5 s5 => ?_)
  have q5 : v2 = v5 := Option.some.inj (s2.symm.trans s5)
  subst q5
  refine zEs_run 4 rfl ?_
  refine zEs_sk9 (k := 3) rfl h0 h1 hN (by decide) (by decide) (fun v6 s6 => ?_)
  have q6 : v3 = v6 := Option.some.inj (s3.symm.trans s6)
  subst q6
  obtain ⟨ws2, hw2⟩ := zWI_44 W1
  refine zEs_callG rfl (show zcallV 3 7 144 439 (.int v3 :: .int v2 :: .int v1 :: .ref 44 :: _) _ = _ from zcallV_eq rfl hw2 (Nat.le_of_ble_eq_true rfl)) (zjm (mm_144 W1) (qm_144 J1)) (fun v h9 nc1 ns1 z => ?_) (fun E h9 nc1 ns1 z => by obtain ⟨_, _, _, _, z, _⟩ := z; cases z)
  obtain ⟨v2_, h2_, nc2_, ns2_, z, hv2, W2, a2, d2, J2⟩ := z
  cases z
  obtain ⟨k2, rfl⟩ := hv2
  refine zEs_run 2 rfl ?_
  exact K _ _ _ _ _ _ _ _ _ W2 J2 (zAA_58 hA) (by omega) (by omega)
theorem lj_c444 (hW : zWI c c q h) (hJ : zJq S M q h) (hA : zAA S M) (h0 : 0 ≤ i.toInt) (h1 : i.toInt + 6 ≤ xs.length) (hN : xs.length ≤ 100000) (K : ∀ (c' : Nat × Nat) (S' : zSt) (M' : zRt) (p5 p6 p7 : Option Value) (h' : zH) (nc' ns' : Nat), zWI c' c' q h' → zJq S' M' q h' → zAA S' M' → nc' ≤ nc + 410 → ns' ≤ ns + 14100 → zEs xs 41 214 1272 [some (.retAddr 0), some (.ref 0), some (.ref 44), some (.ref q), some (.int i), p5, p6, p7] [] h' nc' ns' (zPb nc0 ns0)) : zEs xs 41 214 444 [some (.retAddr 0), some (.ref 0), some (.ref 44), some (.ref q), some (.int i), o5, o6, o7] [] h nc ns (zPb nc0 ns0) := by
  refine zEs_run 5 rfl ?_
  refine zEs_sk9 (k := 1) rfl h0 h1 hN (by decide) (by decide) (fun v1 s1 => ?_)
  refine zEs_run 4 rfl ?_
  refine zEs_sk9 (k := 2) rfl h0 h1 hN (by decide) (by decide) (fun v2 s2 => ?_)
  refine zEs_run 4 rfl ?_
  refine zEs_sk9 (k := 3) rfl h0 h1 hN (by decide) (by decide) (fun v3 s3 => ?_)
  refine zEs_run 1 rfl ?_
  refine zEs_callG rfl rfl (zMs_mono (show 9 ≤ 40 by decide) (zjo (w_195 hW) (qw_195 hJ hA))) (fun v h9 nc1 ns1 z => ?_) (fun E h9 nc1 ns1 z => by obtain ⟨_, _, _, _, z, _⟩ := z; cases z)
  obtain ⟨k1, h1_, nc1_, ns1_, z, W1, a1, d1, J1⟩ := z
  cases z
  refine zEs_run 6 rfl ?_
  refine zEs_sk9 (k := 1) rfl h0 h1 hN (by decide) (by decide) (fun v4 s4 => ?_)
  have q4 : v1 = v4 := Option.some.inj (s1.symm.trans s4)
  subst q4
  refine zEs_run 4 rfl ?_
  refine zEs_sk9 (k := 2) rfl h0 h1 hN (by decide) (by decide) (fun v5 s5 => ?_)
  have q5 : v2 = v5 := Option.some.inj (s2.symm.trans s5)
  subst q5
  refine zEs_run 4 rfl ?_
  refine zEs_sk9 (k := 3) rfl h0 h1 hN (by decide) (by decide) (fun v6 s6 => ?_)
  have q6 : v3 = v6 := Option.some.inj (s3.symm.trans s6)
  subst q6
  obtain ⟨ws2, hw2⟩ := zWI_44 W1
  refine zEs_callG rfl (show zcallV 3 7 145 491 (.int v3 :: .int v2 :: .int v1 :: .ref 44 :: _) _ = _ from zcallV_eq rfl hw2 (Nat.le_of_ble_eq_true rfl)) (zjm (mm_145 W1) (qm_145 J1)) (fun v h9 nc1 ns1 z => ?_) (fun E h9 nc1 ns1 z => by obtain ⟨_, _, _, _, z, _⟩ := z; cases z)
  obtain ⟨v2_, h2_, nc2_, ns2_, z, hv2, W2, a2, d2, J2⟩ := z
  cases z
  obtain ⟨k2, rfl⟩ := hv2
  refine zEs_run 2 rfl ?_
  exact K _ _ _ _ _ _ _ _ _ W2 J2 (zAA_59 hA) (by omega) (by omega)
theorem lj_c496 (hW : zWI c c q h) (hJ : zJq S M q h) (hA : zAA S M) (h0 : 0 ≤ i.toInt) (h1 : i.toInt + 6 ≤ xs.length) (hN : xs.length ≤ 100000) (K : ∀ (c' : Nat × Nat) (S' : zSt) (M' : zRt) (p5 p6 p7 : Option Value) (h' : zH) (nc' ns' : Nat), zWI c' c' q h' → zJq S' M' q h' → zAA S' M' → nc' ≤ nc + 410 → ns' ≤ ns + 14100 → zEs xs 41 214 1272 [some (.retAddr 0), some (.ref 0), some (.ref 44), some (.ref q), some (.int i), p5, p6, p7] [] h' nc' ns' (zPb nc0 ns0)) : zEs xs 41 214 496 [some (.retAddr 0), some (.ref 0), some (.ref 44), some (.ref q), some (.int i), o5, o6, o7] [] h nc ns (zPb nc0 ns0) := by
  refine zEs_run 5 rfl ?_
  refine zEs_sk9 (k := 1) rfl h0 h1 hN (by decide) (by decide) (fun v1 s1 => ?_)
  refine zEs_run 4 rfl ?_
  refine zEs_sk9 (k := 2) rfl h0 h1 hN (by decide) (by decide) (fun v2 s2 => ?_)
  refine zEs_run 4 rfl ?_
  refine zEs_sk9 (k := 3) rfl h0 h1 hN (by decide) (by decide) (fun v3 s3 => ?_)
  refine zEs_run 4 rfl ?_
  refine zEs_sk9 (k := 4) rfl h0 h1 hN (by decide) (by decide) (fun v4 s4 => ?_)
  suffices J1_ : ∀ w : Int32, (w = 0 ∨ w = 1) → w = zbq v4 → zEs xs 41 214 529 [some (.retAddr 0), some (.ref 0), some (.ref 44), some (.ref q), some (.int i), o5, o6, o7] (.int w :: [.int v3, .int v2, .int v1, .ref 0]) h _ _ (zPb nc0 ns0) by
    refine zEs_if rfl (fun g9 => ?_) (fun g9 => ?_)
    · exact zEs_run 1 rfl (J1_ _ (by decide) (zbq_1 g9))
    · exact zEs_run 2 rfl (J1_ _ (by decide) (zbq_2 g9))
  intro v5 b5 s5
  refine zEs_run 4 rfl ?_
  refine zEs_sk9 (k := 5) rfl h0 h1 hN (by decide) (by decide) (fun v6 s6 => ?_)
  suffices J2_ : ∀ w : Int32, (w = 0 ∨ w = 1) → w = zbq v6 → zEs xs 41 214 543 [some (.retAddr 0), some (.ref 0), some (.ref 44), some (.ref q), some (.int i), o5, o6, o7] (.int w :: [.int v5, .int v3, .int v2, .int v1, .ref 0]) h _ _ (zPb nc0 ns0) by
    refine zEs_if rfl (fun g9 => ?_) (fun g9 => ?_)
    · exact zEs_run 1 rfl (J2_ _ (by decide) (zbq_1 g9))
    · exact zEs_run 2 rfl (J2_ _ (by decide) (zbq_2 g9))
  intro v7 b7 s7
  refine zEs_run 1 rfl ?_
  refine zEs_callG rfl rfl (zMs_mono (show 9 ≤ 40 by decide) (zjo (w_196 hW b5 b7) (qw_196 hJ hA))) (fun v h9 nc1 ns1 z => ?_) (fun E h9 nc1 ns1 z => by obtain ⟨_, _, _, _, z, _⟩ := z; cases z)
  obtain ⟨k1, h1_, nc1_, ns1_, z, W1, a1, d1, J1⟩ := z
  cases z
  refine zEs_run 6 rfl ?_
  refine zEs_sk9 (k := 1) rfl h0 h1 hN (by decide) (by decide) (fun v8 s8 => ?_)
  have q8 : v1 = v8 := Option.some.inj (s1.symm.trans s8)
  subst q8
  refine zEs_run 4 rfl ?_
  refine zEs_sk9 (k := 2) rfl h0 h1 hN (by decide) (by decide) (fun v9 s9 => ?_)
  have q9 : v2 = v9 := Option.some.inj (s2.symm.trans s9)
  subst q9
  refine zEs_run 4 rfl ?_
  refine zEs_sk9 (k := 3) rfl h0 h1 hN (by decide) (by decide) (fun v10 s10 => ?_)
  have q10 : v3 = v10 := Option.some.inj (s3.symm.trans s10)
  subst q10
  refine zEs_run 4 rfl ?_
  refine zEs_sk9 (k := 4) rfl h0 h1 hN (by decide) (by decide) (fun v11 s11 => ?_)
  have q11 : v4 = v11 := Option.some.inj (s4.symm.trans s11)
  subst q11
  suffices J3_ : ∀ w : Int32, (w = 0 ∨ w = 1) → w = zbq v4 → zEs xs 41 214 582 [some (.retAddr 0), some (.ref 0), some (.ref 44), some (.ref q), some (.int i), some (.int k1), o6, o7] (.int w :: [.int v3, .int v2, .int v1, .ref 44]) h9 _ _ (zPb nc0 ns0) by
    refine zEs_if rfl (fun g9 => ?_) (fun g9 => ?_)
    · exact zEs_run 1 rfl (J3_ _ (by decide) (zbq_1 g9))
    · exact zEs_run 2 rfl (J3_ _ (by decide) (zbq_2 g9))
  intro v12 b12 s12
  have q12 : v5 = v12 := s5.trans s12.symm
  subst q12
  refine zEs_run 4 rfl ?_
  refine zEs_sk9 (k := 5) rfl h0 h1 hN (by decide) (by decide) (fun v13 s13 => ?_)
  have q13 : v6 = v13 := Option.some.inj (s6.symm.trans s13)
  subst q13
  suffices J4_ : ∀ w : Int32, (w = 0 ∨ w = 1) → w = zbq v6 → zEs xs 41 214 596 [some (.retAddr 0), some (.ref 0), some (.ref 44), some (.ref q), some (.int i), some (.int k1), o6, o7] (.int w :: [.int v5, .int v3, .int v2, .int v1, .ref 44]) h9 _ _ (zPb nc0 ns0) by
    refine zEs_if rfl (fun g9 => ?_) (fun g9 => ?_)
    · exact zEs_run 1 rfl (J4_ _ (by decide) (zbq_1 g9))
    · exact zEs_run 2 rfl (J4_ _ (by decide) (zbq_2 g9))
  intro v14 b14 s14
  have q14 : v7 = v14 := s7.trans s14.symm
  subst q14
  obtain ⟨ws2, hw2⟩ := zWI_44 W1
  refine zEs_callG rfl (show zcallV 5 7 146 599 (.int v7 :: .int v5 :: .int v3 :: .int v2 :: .int v1 :: .ref 44 :: _) _ = _ from zcallV_eq rfl hw2 (Nat.le_of_ble_eq_true rfl)) (zjm (mm_146 W1 b5 b7) (qm_146 J1)) (fun v h9 nc1 ns1 z => ?_) (fun E h9 nc1 ns1 z => by obtain ⟨_, _, _, _, z, _⟩ := z; cases z)
  obtain ⟨v2_, h2_, nc2_, ns2_, z, hv2, W2, a2, d2, J2⟩ := z
  cases z
  obtain ⟨k2, rfl⟩ := hv2
  refine zEs_run 2 rfl ?_
  exact K _ _ _ _ _ _ _ _ _ W2 J2 (zAA_60 hA) (by omega) (by omega)
theorem lj_c604 (hW : zWI c c q h) (hJ : zJq S M q h) (hA : zAA S M) (h0 : 0 ≤ i.toInt) (h1 : i.toInt + 6 ≤ xs.length) (hN : xs.length ≤ 100000) (K : ∀ (c' : Nat × Nat) (S' : zSt) (M' : zRt) (p5 p6 p7 : Option Value) (h' : zH) (nc' ns' : Nat), zWI c' c' q h' → zJq S' M' q h' → zAA S' M' → nc' ≤ nc + 410 → ns' ≤ ns + 14100 → zEs xs 41 214 1272 [some (.retAddr 0), some (.ref 0), some (.ref 44), some (.ref q), some (.int i), p5, p6, p7] [] h' nc' ns' (zPb nc0 ns0)) : zEs xs 41 214 604 [some (.retAddr 0), some (.ref 0), some (.ref 44), some (.ref q), some (.int i), o5, o6, o7] [] h nc ns (zPb nc0 ns0) := by
  refine zEs_run 5 rfl ?_
  refine zEs_sk9 (k := 1) rfl h0 h1 hN (by decide) (by decide) (fun v1 s1 => ?_)
  refine zEs_run 4 rfl ?_
  refine zEs_sk9 (k := 2) rfl h0 h1 hN (by decide) (by decide) (fun v2 s2 => ?_)
  refine zEs_run 1 rfl ?_
  refine zEs_callG rfl rfl (zMs_mono (show 9 ≤ 40 by decide) (zjo (w_197 hW) (qw_197 hJ hA))) (fun v h9 nc1 ns1 z => ?_) (fun E h9 nc1 ns1 z => by obtain ⟨_, _, _, _, z, _⟩ := z; cases z)
  obtain ⟨k1, h1_, nc1_, ns1_, z, W1, a1, d1, J1⟩ := z
  cases z
  refine zEs_run 6 rfl ?_
  refine zEs_sk9 (k := 1) rfl h0 h1 hN (by decide) (by decide) (fun v3 s3 => ?_)
  have q3 : v1 = v3 := Option.some.inj (s1.symm.trans s3)
  subst q3
  refine zEs_run 4 rfl ?_
  refine zEs_sk9 (k := 2) rfl h0 h1 hN (by decide) (by decide) (fun v4 s4 => ?_)
  have q4 : v2 = v4 := Option.some.inj (s2.symm.trans s4)
  subst q4
  obtain ⟨ws2, hw2⟩ := zWI_44 W1
  refine zEs_callG rfl (show zcallV 2 7 147 639 (.int v2 :: .int v1 :: .ref 44 :: _) _ = _ from zcallV_eq rfl hw2 (Nat.le_of_ble_eq_true rfl)) (zjm (mm_147 W1) (qm_147 J1)) (fun v h9 nc1 ns1 z => ?_) (fun E h9 nc1 ns1 z => by obtain ⟨_, _, _, _, z, _⟩ := z; cases z)
  obtain ⟨v2_, h2_, nc2_, ns2_, z, hv2, W2, a2, d2, J2⟩ := z
  cases z
  obtain ⟨k2, rfl⟩ := hv2
  refine zEs_run 2 rfl ?_
  exact K _ _ _ _ _ _ _ _ _ W2 J2 (zAA_61 hA) (by omega) (by omega)
theorem lj_c644 (hW : zWI c c q h) (hJ : zJq S M q h) (hA : zAA S M) (h0 : 0 ≤ i.toInt) (h1 : i.toInt + 6 ≤ xs.length) (hN : xs.length ≤ 100000) (K : ∀ (c' : Nat × Nat) (S' : zSt) (M' : zRt) (p5 p6 p7 : Option Value) (h' : zH) (nc' ns' : Nat), zWI c' c' q h' → zJq S' M' q h' → zAA S' M' → nc' ≤ nc + 410 → ns' ≤ ns + 14100 → zEs xs 41 214 1272 [some (.retAddr 0), some (.ref 0), some (.ref 44), some (.ref q), some (.int i), p5, p6, p7] [] h' nc' ns' (zPb nc0 ns0)) : zEs xs 41 214 644 [some (.retAddr 0), some (.ref 0), some (.ref 44), some (.ref q), some (.int i), o5, o6, o7] [] h nc ns (zPb nc0 ns0) := by
  refine zEs_run 5 rfl ?_
  refine zEs_sk9 (k := 1) rfl h0 h1 hN (by decide) (by decide) (fun v1 s1 => ?_)
  refine zEs_run 4 rfl ?_
  refine zEs_sk9 (k := 2) rfl h0 h1 hN (by decide) (by decide) (fun v2 s2 => ?_)
  suffices J1_ : ∀ w : Int32, (w = 0 ∨ w = 1) → w = zbq v2 → zEs xs 41 214 665 [some (.retAddr 0), some (.ref 0), some (.ref 44), some (.ref q), some (.int i), o5, o6, o7] (.int w :: [.int v1, .ref 0]) h _ _ (zPb nc0 ns0) by
    refine zEs_if rfl (fun g9 => ?_) (fun g9 => ?_)
    · exact zEs_run 1 rfl (J1_ _ (by decide) (zbq_1 g9))
    · exact zEs_run 2 rfl (J1_ _ (by decide) (zbq_2 g9))
  intro v3 b3 s3
  refine zEs_run 1 rfl ?_
  refine zEs_callG rfl rfl (zMs_mono (show 9 ≤ 40 by decide) (zjo (w_198 hW) (qw_198 hJ hA))) (fun v h9 nc1 ns1 z => ?_) (fun E h9 nc1 ns1 z => by obtain ⟨_, _, _, _, z, _⟩ := z; cases z)
  obtain ⟨k1, h1_, nc1_, ns1_, z, W1, a1, d1, J1⟩ := z
  cases z
  refine zEs_run 6 rfl ?_
  refine zEs_sk9 (k := 1) rfl h0 h1 hN (by decide) (by decide) (fun v4 s4 => ?_)
  have q4 : v1 = v4 := Option.some.inj (s1.symm.trans s4)
  subst q4
  refine zEs_run 4 rfl ?_
  refine zEs_sk9 (k := 2) rfl h0 h1 hN (by decide) (by decide) (fun v5 s5 => ?_)
  have q5 : v2 = v5 := Option.some.inj (s2.symm.trans s5)
  subst q5
  suffices J2_ : ∀ w : Int32, (w = 0 ∨ w = 1) → w = zbq v2 → zEs xs 41 214 692 [some (.retAddr 0), some (.ref 0), some (.ref 44), some (.ref q), some (.int i), some (.int k1), o6, o7] (.int w :: [.int v1, .ref 44]) h9 _ _ (zPb nc0 ns0) by
    refine zEs_if rfl (fun g9 => ?_) (fun g9 => ?_)
    · exact zEs_run 1 rfl (J2_ _ (by decide) (zbq_1 g9))
    · exact zEs_run 2 rfl (J2_ _ (by decide) (zbq_2 g9))
  intro v6 b6 s6
  have q6 : v3 = v6 := s3.trans s6.symm
  subst q6
  obtain ⟨ws2, hw2⟩ := zWI_44 W1
  refine zEs_callG rfl (show zcallV 2 7 148 695 (.int v3 :: .int v1 :: .ref 44 :: _) _ = _ from zcallV_eq rfl hw2 (Nat.le_of_ble_eq_true rfl)) (zjm (mm_148 W1 b3) (qm_148 J1)) (fun v h9 nc1 ns1 z => ?_) (fun E h9 nc1 ns1 z => by obtain ⟨_, _, _, _, z, _⟩ := z; cases z)
  obtain ⟨v2_, h2_, nc2_, ns2_, z, hv2, W2, a2, d2, J2⟩ := z
  cases z
  obtain ⟨k2, rfl⟩ := hv2
  refine zEs_run 2 rfl ?_
  exact K _ _ _ _ _ _ _ _ _ W2 J2 (zAA_62 b3 hA) (by omega) (by omega)
theorem lj_c700 (hW : zWI c c q h) (hJ : zJq S M q h) (hA : zAA S M) (h0 : 0 ≤ i.toInt) (h1 : i.toInt + 6 ≤ xs.length) (hN : xs.length ≤ 100000) (K : ∀ (c' : Nat × Nat) (S' : zSt) (M' : zRt) (p5 p6 p7 : Option Value) (h' : zH) (nc' ns' : Nat), zWI c' c' q h' → zJq S' M' q h' → zAA S' M' → nc' ≤ nc + 410 → ns' ≤ ns + 14100 → zEs xs 41 214 1272 [some (.retAddr 0), some (.ref 0), some (.ref 44), some (.ref q), some (.int i), p5, p6, p7] [] h' nc' ns' (zPb nc0 ns0)) : zEs xs 41 214 700 [some (.retAddr 0), some (.ref 0), some (.ref 44), some (.ref q), some (.int i), o5, o6, o7] [] h nc ns (zPb nc0 ns0) := by
  refine zEs_run 5 rfl ?_
  refine zEs_sk9 (k := 1) rfl h0 h1 hN (by decide) (by decide) (fun v1 s1 => ?_)
  refine zEs_run 1 rfl ?_
  refine zEs_callG rfl rfl (zMs_mono (show 9 ≤ 40 by decide) (zjo (w_199 hW) (qw_199 hJ hA))) (fun v h9 nc1 ns1 z => ?_) (fun E h9 nc1 ns1 z => by obtain ⟨_, _, _, _, z, _⟩ := z; cases z)
  obtain ⟨k1, h1_, nc1_, ns1_, z, W1, a1, d1, J1⟩ := z
  cases z
  refine zEs_run 6 rfl ?_
  refine zEs_sk9 (k := 1) rfl h0 h1 hN (by decide) (by decide) (fun v2 s2 => ?_)
  have q2 : v1 = v2 := Option.some.inj (s1.symm.trans s2)
  subst q2
  obtain ⟨ws2, hw2⟩ := zWI_44 W1
  refine zEs_callG rfl (show zcallV 1 7 150 723 (.int v1 :: .ref 44 :: _) _ = _ from zcallV_eq rfl hw2 (Nat.le_of_ble_eq_true rfl)) (zjm (mm_150 W1) (qm_150 (zAA_20 hA) J1)) (fun v h9 nc1 ns1 z => ?_) (fun E h9 nc1 ns1 z => by obtain ⟨_, _, _, _, z, _⟩ := z; cases z)
  obtain ⟨v2_, h2_, nc2_, ns2_, z, hv2, W2, a2, d2, J2⟩ := z
  cases z
  obtain ⟨k2, rfl⟩ := hv2
  refine zEs_run 2 rfl ?_
  exact K _ _ _ _ _ _ _ _ _ W2 J2 (zAA_63 hA) (by omega) (by omega)
theorem lj_c728 (hW : zWI c c q h) (hJ : zJq S M q h) (hA : zAA S M) (h0 : 0 ≤ i.toInt) (h1 : i.toInt + 6 ≤ xs.length) (hN : xs.length ≤ 100000) (K : ∀ (c' : Nat × Nat) (S' : zSt) (M' : zRt) (p5 p6 p7 : Option Value) (h' : zH) (nc' ns' : Nat), zWI c' c' q h' → zJq S' M' q h' → zAA S' M' → nc' ≤ nc + 410 → ns' ≤ ns + 14100 → zEs xs 41 214 1272 [some (.retAddr 0), some (.ref 0), some (.ref 44), some (.ref q), some (.int i), p5, p6, p7] [] h' nc' ns' (zPb nc0 ns0)) : zEs xs 41 214 728 [some (.retAddr 0), some (.ref 0), some (.ref 44), some (.ref q), some (.int i), o5, o6, o7] [] h nc ns (zPb nc0 ns0) := by
  refine zEs_run 1 rfl ?_
  obtain ⟨ws1, hw1⟩ := zWI_0 hW
  have e1 : ∀ rs, zcs rs ≤ 8 → zcallV 0 5 64 732 (.ref 0 :: rs) h = some (.inr (.inl (64, [.ref 0], rs, 732))) := fun rs hr => zcallV_eq rfl hw1 hr
  refine zEs_callG rfl (e1 _ (by decide)) (zMs_mono (show 9 ≤ 40 by decide) (zjc (zKo (D := 9) hW (by decide) (by decide) (fun s a T hL ht => k_64 hL)) (qw_64 hJ hA))) (fun v h9 nc1 ns1 z => ?_) (fun E h9 nc1 ns1 z => by obtain ⟨z, -⟩ := z; rcases z with ⟨_, _, _, _, _, _, _, _, z⟩ | ⟨_, _, _, _, z, _⟩ <;> cases z)
  obtain ⟨z, J1⟩ := z
  replace z := z.resolve_right (fun y9 => by obtain ⟨_, _, _, _, y9, _⟩ := y9; cases y9)
  obtain ⟨v1_, h1_, nc1_, ns1_, hv1, W1, a1, d1, z⟩ := z
  cases z
  obtain ⟨k1, rfl⟩ := hv1
  refine zEs_run 2 rfl ?_
  obtain ⟨ws2, hw2⟩ := zWI_44 W1
  refine zEs_callG rfl (show zcallV 0 7 151 737 (.ref 44 :: _) _ = _ from zcallV_eq rfl hw2 (Nat.le_of_ble_eq_true rfl)) (zjm (mm_151 W1) (qm_151 J1)) (fun v h9 nc1 ns1 z => ?_) (fun E h9 nc1 ns1 z => by obtain ⟨_, _, _, _, z, _⟩ := z; cases z)
  obtain ⟨v2_, h2_, nc2_, ns2_, z, hv2, W2, a2, d2, J2⟩ := z
  cases z
  obtain ⟨k2, rfl⟩ := hv2
  refine zEs_run 2 rfl ?_
  exact K _ _ _ _ _ _ _ _ _ W2 J2 (zAA_64 hA) (by omega) (by omega)
theorem lj_c741 (hW : zWI c c q h) (hJ : zJq S M q h) (hA : zAA S M) (h0 : 0 ≤ i.toInt) (h1 : i.toInt + 6 ≤ xs.length) (hN : xs.length ≤ 100000) (K : ∀ (c' : Nat × Nat) (S' : zSt) (M' : zRt) (p5 p6 p7 : Option Value) (h' : zH) (nc' ns' : Nat), zWI c' c' q h' → zJq S' M' q h' → zAA S' M' → nc' ≤ nc + 410 → ns' ≤ ns + 14100 → zEs xs 41 214 1272 [some (.retAddr 0), some (.ref 0), some (.ref 44), some (.ref q), some (.int i), p5, p6, p7] [] h' nc' ns' (zPb nc0 ns0)) : zEs xs 41 214 741 [some (.retAddr 0), some (.ref 0), some (.ref 44), some (.ref q), some (.int i), o5, o6, o7] [] h nc ns (zPb nc0 ns0) := by
  refine zEs_run 1 rfl ?_
  obtain ⟨ws1, hw1⟩ := zWI_0 hW
  have e1 : ∀ rs, zcs rs ≤ 8 → zcallV 0 5 65 745 (.ref 0 :: rs) h = some (.inr (.inl (65, [.ref 0], rs, 745))) := fun rs hr => zcallV_eq rfl hw1 hr
  refine zEs_callG rfl (e1 _ (by decide)) (zMs_and (zKc (D := 40) hW) (qw_65 hJ hA)) (fun v h9 nc1 ns1 z => ?_) (fun E h9 nc1 ns1 z => by obtain ⟨⟨_, _, z, _⟩, _⟩ := z; cases z)
  obtain ⟨⟨v1_, h', z, W1⟩, J1⟩ := z
  cases z
  refine zEs_run 2 rfl ?_
  obtain ⟨ws2, hw2⟩ := zWI_44 W1
  refine zEs_callG rfl (show zcallV 0 7 152 750 (.ref 44 :: _) _ = _ from zcallV_eq rfl hw2 (Nat.le_of_ble_eq_true rfl)) (zMs_and (zWm_call (D := 40) W1) (qm_152 J1)) (fun v h9 nc1 ns1 z => ?_) (fun E h9 nc1 ns1 z => by obtain ⟨⟨_, _, z, _⟩, _⟩ := z; cases z)
  obtain ⟨⟨v2_, h', z, W2⟩, J2⟩ := z
  cases z
  refine zEs_run 2 rfl ?_
  exact K _ _ _ _ _ _ _ _ _ W2 J2 (zAA_65 hA) (by omega) (by omega)
theorem lj_c754 (hW : zWI c c q h) (hJ : zJq S M q h) (hA : zAA S M) (h0 : 0 ≤ i.toInt) (h1 : i.toInt + 6 ≤ xs.length) (hN : xs.length ≤ 100000) (K : ∀ (c' : Nat × Nat) (S' : zSt) (M' : zRt) (p5 p6 p7 : Option Value) (h' : zH) (nc' ns' : Nat), zWI c' c' q h' → zJq S' M' q h' → zAA S' M' → nc' ≤ nc + 410 → ns' ≤ ns + 14100 → zEs xs 41 214 1272 [some (.retAddr 0), some (.ref 0), some (.ref 44), some (.ref q), some (.int i), p5, p6, p7] [] h' nc' ns' (zPb nc0 ns0)) : zEs xs 41 214 754 [some (.retAddr 0), some (.ref 0), some (.ref 44), some (.ref q), some (.int i), o5, o6, o7] [] h nc ns (zPb nc0 ns0) := by
  refine zEs_run 5 rfl ?_
  refine zEs_sk9 (k := 1) rfl h0 h1 hN (by decide) (by decide) (fun v1 s1 => ?_)
  refine zEs_run 1 rfl ?_
  refine zEs_callG rfl rfl (zMs_mono (show 9 ≤ 40 by decide) (zjo (w_200 hW) (zjn (qw_ask (by decide) hJ)))) (fun v h9 nc1 ns1 z => ?_) (fun E h9 nc1 ns1 z => by obtain ⟨_, _, _, _, z, _⟩ := z; cases z)
  obtain ⟨k1, h1_, nc1_, ns1_, z, W1, a1, d1, J1⟩ := z
  cases z
  refine zEs_run 6 rfl ?_
  refine zEs_sk9 (k := 1) rfl h0 h1 hN (by decide) (by decide) (fun v2 s2 => ?_)
  have q2 : v1 = v2 := Option.some.inj (s1.symm.trans s2)
  subst q2
  obtain ⟨ws2, hw2⟩ := zWI_44 W1
  refine zEs_callG rfl (show zcallV 1 7 153 777 (.int v1 :: .ref 44 :: _) _ = _ from zcallV_eq rfl hw2 (Nat.le_of_ble_eq_true rfl)) (zjm (mm_153 W1) (qm_ask (y := 153) (by decide) J1)) (fun v h9 nc1 ns1 z => ?_) (fun E h9 nc1 ns1 z => by obtain ⟨_, _, _, _, z, _⟩ := z; cases z)
  obtain ⟨v2_, h2_, nc2_, ns2_, z, hv2, W2, a2, d2, J2⟩ := z
  cases z
  obtain ⟨t_, J2⟩ := J2
  obtain ⟨k2, rfl⟩ := hv2
  refine zEs_run 2 rfl ?_
  exact K _ _ _ _ _ _ _ _ _ W2 J2 (zAA_0 hA) (by omega) (by omega)
theorem lj_c782 (hW : zWI c c q h) (hJ : zJq S M q h) (hA : zAA S M) (h0 : 0 ≤ i.toInt) (h1 : i.toInt + 6 ≤ xs.length) (hN : xs.length ≤ 100000) (K : ∀ (c' : Nat × Nat) (S' : zSt) (M' : zRt) (p5 p6 p7 : Option Value) (h' : zH) (nc' ns' : Nat), zWI c' c' q h' → zJq S' M' q h' → zAA S' M' → nc' ≤ nc + 410 → ns' ≤ ns + 14100 → zEs xs 41 214 1272 [some (.retAddr 0), some (.ref 0), some (.ref 44), some (.ref q), some (.int i), p5, p6, p7] [] h' nc' ns' (zPb nc0 ns0)) : zEs xs 41 214 782 [some (.retAddr 0), some (.ref 0), some (.ref 44), some (.ref q), some (.int i), o5, o6, o7] [] h nc ns (zPb nc0 ns0) := by
  refine zEs_run 5 rfl ?_
  refine zEs_sk9 (k := 1) rfl h0 h1 hN (by decide) (by decide) (fun v1 s1 => ?_)
  refine zEs_run 1 rfl ?_
  refine zEs_callG rfl rfl (zMs_mono (show 9 ≤ 40 by decide) (zjo (w_201 hW) (zjn (qw_ask (by decide) hJ)))) (fun v h9 nc1 ns1 z => ?_) (fun E h9 nc1 ns1 z => by obtain ⟨_, _, _, _, z, _⟩ := z; cases z)
  obtain ⟨k1, h1_, nc1_, ns1_, z, W1, a1, d1, J1⟩ := z
  cases z
  refine zEs_run 6 rfl ?_
  refine zEs_sk9 (k := 1) rfl h0 h1 hN (by decide) (by decide) (fun v2 s2 => ?_)
  have q2 : v1 = v2 := Option.some.inj (s1.symm.trans s2)
  subst q2
  obtain ⟨ws2, hw2⟩ := zWI_44 W1
  refine zEs_callG rfl (show zcallV 1 7 154 805 (.int v1 :: .ref 44 :: _) _ = _ from zcallV_eq rfl hw2 (Nat.le_of_ble_eq_true rfl)) (zjm (mm_154 W1) (qm_ask (y := 154) (by decide) J1)) (fun v h9 nc1 ns1 z => ?_) (fun E h9 nc1 ns1 z => by obtain ⟨_, _, _, _, z, _⟩ := z; cases z)
  obtain ⟨v2_, h2_, nc2_, ns2_, z, hv2, W2, a2, d2, J2⟩ := z
  cases z
  obtain ⟨t_, J2⟩ := J2
  obtain ⟨k2, rfl⟩ := hv2
  refine zEs_run 2 rfl ?_
  exact K _ _ _ _ _ _ _ _ _ W2 J2 (zAA_0 hA) (by omega) (by omega)
theorem lj_c810 (hW : zWI c c q h) (hJ : zJq S M q h) (hA : zAA S M) (h0 : 0 ≤ i.toInt) (h1 : i.toInt + 6 ≤ xs.length) (hN : xs.length ≤ 100000) (K : ∀ (c' : Nat × Nat) (S' : zSt) (M' : zRt) (p5 p6 p7 : Option Value) (h' : zH) (nc' ns' : Nat), zWI c' c' q h' → zJq S' M' q h' → zAA S' M' → nc' ≤ nc + 410 → ns' ≤ ns + 14100 → zEs xs 41 214 1272 [some (.retAddr 0), some (.ref 0), some (.ref 44), some (.ref q), some (.int i), p5, p6, p7] [] h' nc' ns' (zPb nc0 ns0)) : zEs xs 41 214 810 [some (.retAddr 0), some (.ref 0), some (.ref 44), some (.ref q), some (.int i), o5, o6, o7] [] h nc ns (zPb nc0 ns0) := by
  refine zEs_run 5 rfl ?_
  refine zEs_sk9 (k := 1) rfl h0 h1 hN (by decide) (by decide) (fun v1 s1 => ?_)
  refine zEs_run 4 rfl ?_
  refine zEs_sk9 (k := 2) rfl h0 h1 hN (by decide) (by decide) (fun v2 s2 => ?_)
  refine zEs_run 1 rfl ?_
  refine zEs_callG rfl rfl (zMs_mono (show 9 ≤ 40 by decide) (zjo (w_202 hW) (zjn (qw_ask (by decide) hJ)))) (fun v h9 nc1 ns1 z => ?_) (fun E h9 nc1 ns1 z => by obtain ⟨_, _, _, _, z, _⟩ := z; cases z)
  obtain ⟨k1, h1_, nc1_, ns1_, z, W1, a1, d1, J1⟩ := z
  cases z
  refine zEs_run 6 rfl ?_
  refine zEs_sk9 (k := 1) rfl h0 h1 hN (by decide) (by decide) (fun v3 s3 => ?_)
  have q3 : v1 = v3 := Option.some.inj (s1.symm.trans s3)
  subst q3
  refine zEs_run 4 rfl ?_
  refine zEs_sk9 (k := 2) rfl h0 h1 hN (by decide) (by decide) (fun v4 s4 => ?_)
  have q4 : v2 = v4 := Option.some.inj (s2.symm.trans s4)
  subst q4
  obtain ⟨ws2, hw2⟩ := zWI_44 W1
  refine zEs_callG rfl (show zcallV 2 7 155 845 (.int v2 :: .int v1 :: .ref 44 :: _) _ = _ from zcallV_eq rfl hw2 (Nat.le_of_ble_eq_true rfl)) (zjm (mm_155 W1) (qm_ask (y := 155) (by decide) J1)) (fun v h9 nc1 ns1 z => ?_) (fun E h9 nc1 ns1 z => by obtain ⟨_, _, _, _, z, _⟩ := z; cases z)
  obtain ⟨v2_, h2_, nc2_, ns2_, z, hv2, W2, a2, d2, J2⟩ := z
  cases z
  obtain ⟨t_, J2⟩ := J2
  obtain ⟨k2, rfl⟩ := hv2
  refine zEs_run 2 rfl ?_
  exact K _ _ _ _ _ _ _ _ _ W2 J2 (zAA_0 hA) (by omega) (by omega)
theorem lj_c850 (hW : zWI c c q h) (hJ : zJq S M q h) (hA : zAA S M) (h0 : 0 ≤ i.toInt) (h1 : i.toInt + 6 ≤ xs.length) (hN : xs.length ≤ 100000) (K : ∀ (c' : Nat × Nat) (S' : zSt) (M' : zRt) (p5 p6 p7 : Option Value) (h' : zH) (nc' ns' : Nat), zWI c' c' q h' → zJq S' M' q h' → zAA S' M' → nc' ≤ nc + 410 → ns' ≤ ns + 14100 → zEs xs 41 214 1272 [some (.retAddr 0), some (.ref 0), some (.ref 44), some (.ref q), some (.int i), p5, p6, p7] [] h' nc' ns' (zPb nc0 ns0)) : zEs xs 41 214 850 [some (.retAddr 0), some (.ref 0), some (.ref 44), some (.ref q), some (.int i), o5, o6, o7] [] h nc ns (zPb nc0 ns0) := by
  refine zEs_run 5 rfl ?_
  refine zEs_sk9 (k := 1) rfl h0 h1 hN (by decide) (by decide) (fun v1 s1 => ?_)
  refine zEs_run 1 rfl ?_
  refine zEs_callG rfl rfl (zMs_mono (show 9 ≤ 40 by decide) (zjo (w_203 hW) (zjn (qw_ask (by decide) hJ)))) (fun v h9 nc1 ns1 z => ?_) (fun E h9 nc1 ns1 z => by obtain ⟨_, _, _, _, z, _⟩ := z; cases z)
  obtain ⟨k1, h1_, nc1_, ns1_, z, W1, a1, d1, J1⟩ := z
  cases z
  refine zEs_run 6 rfl ?_
  refine zEs_sk9 (k := 1) rfl h0 h1 hN (by decide) (by decide) (fun v2 s2 => ?_)
  have q2 : v1 = v2 := Option.some.inj (s1.symm.trans s2)
  subst q2
  obtain ⟨ws2, hw2⟩ := zWI_44 W1
  refine zEs_callG rfl (show zcallV 1 7 157 873 (.int v1 :: .ref 44 :: _) _ = _ from zcallV_eq rfl hw2 (Nat.le_of_ble_eq_true rfl)) (zjm (mm_157 W1) (qm_ask (y := 157) (by decide) J1)) (fun v h9 nc1 ns1 z => ?_) (fun E h9 nc1 ns1 z => by obtain ⟨_, _, _, _, z, _⟩ := z; cases z)
  obtain ⟨v2_, h2_, nc2_, ns2_, z, hv2, W2, a2, d2, J2⟩ := z
  cases z
  obtain ⟨t_, J2⟩ := J2
  obtain ⟨k2, rfl⟩ := hv2
  refine zEs_run 2 rfl ?_
  exact K _ _ _ _ _ _ _ _ _ W2 J2 (zAA_0 hA) (by omega) (by omega)
theorem lj_c878 (hW : zWI c c q h) (hJ : zJq S M q h) (hA : zAA S M) (h0 : 0 ≤ i.toInt) (h1 : i.toInt + 6 ≤ xs.length) (hN : xs.length ≤ 100000) (K : ∀ (c' : Nat × Nat) (S' : zSt) (M' : zRt) (p5 p6 p7 : Option Value) (h' : zH) (nc' ns' : Nat), zWI c' c' q h' → zJq S' M' q h' → zAA S' M' → nc' ≤ nc + 410 → ns' ≤ ns + 14100 → zEs xs 41 214 1272 [some (.retAddr 0), some (.ref 0), some (.ref 44), some (.ref q), some (.int i), p5, p6, p7] [] h' nc' ns' (zPb nc0 ns0)) : zEs xs 41 214 878 [some (.retAddr 0), some (.ref 0), some (.ref 44), some (.ref q), some (.int i), o5, o6, o7] [] h nc ns (zPb nc0 ns0) := by
  refine zEs_run 5 rfl ?_
  refine zEs_sk9 (k := 1) rfl h0 h1 hN (by decide) (by decide) (fun v1 s1 => ?_)
  refine zEs_run 4 rfl ?_
  refine zEs_sk9 (k := 2) rfl h0 h1 hN (by decide) (by decide) (fun v2 s2 => ?_)
  refine zEs_run 1 rfl ?_
  refine zEs_callG rfl rfl (zMs_mono (show 9 ≤ 40 by decide) (zjo (w_204 hW) (zjn (qw_ask (by decide) hJ)))) (fun v h9 nc1 ns1 z => ?_) (fun E h9 nc1 ns1 z => by obtain ⟨_, _, _, _, z, _⟩ := z; cases z)
  obtain ⟨k1, h1_, nc1_, ns1_, z, W1, a1, d1, J1⟩ := z
  cases z
  refine zEs_run 6 rfl ?_
  refine zEs_sk9 (k := 1) rfl h0 h1 hN (by decide) (by decide) (fun v3 s3 => ?_)
  have q3 : v1 = v3 := Option.some.inj (s1.symm.trans s3)
  subst q3
  refine zEs_run 4 rfl ?_
  refine zEs_sk9 (k := 2) rfl h0 h1 hN (by decide) (by decide) (fun v4 s4 => ?_)
  have q4 : v2 = v4 := Option.some.inj (s2.symm.trans s4)
  subst q4
  obtain ⟨ws2, hw2⟩ := zWI_44 W1
  refine zEs_callG rfl (show zcallV 2 7 160 913 (.int v2 :: .int v1 :: .ref 44 :: _) _ = _ from zcallV_eq rfl hw2 (Nat.le_of_ble_eq_true rfl)) (zjm (mm_160 W1) (qm_ask (y := 160) (by decide) J1)) (fun v h9 nc1 ns1 z => ?_) (fun E h9 nc1 ns1 z => by obtain ⟨_, _, _, _, z, _⟩ := z; cases z)
  obtain ⟨v2_, h2_, nc2_, ns2_, z, hv2, W2, a2, d2, J2⟩ := z
  cases z
  obtain ⟨t_, J2⟩ := J2
  obtain ⟨k2, rfl⟩ := hv2
  refine zEs_run 2 rfl ?_
  exact K _ _ _ _ _ _ _ _ _ W2 J2 (zAA_0 hA) (by omega) (by omega)
theorem lj_c918 (hW : zWI c c q h) (hJ : zJq S M q h) (hA : zAA S M) (h0 : 0 ≤ i.toInt) (h1 : i.toInt + 6 ≤ xs.length) (hN : xs.length ≤ 100000) (K : ∀ (c' : Nat × Nat) (S' : zSt) (M' : zRt) (p5 p6 p7 : Option Value) (h' : zH) (nc' ns' : Nat), zWI c' c' q h' → zJq S' M' q h' → zAA S' M' → nc' ≤ nc + 410 → ns' ≤ ns + 14100 → zEs xs 41 214 1272 [some (.retAddr 0), some (.ref 0), some (.ref 44), some (.ref q), some (.int i), p5, p6, p7] [] h' nc' ns' (zPb nc0 ns0)) : zEs xs 41 214 918 [some (.retAddr 0), some (.ref 0), some (.ref 44), some (.ref q), some (.int i), o5, o6, o7] [] h nc ns (zPb nc0 ns0) := by
  refine zEs_run 5 rfl ?_
  refine zEs_sk9 (k := 1) rfl h0 h1 hN (by decide) (by decide) (fun v1 s1 => ?_)
  refine zEs_run 4 rfl ?_
  refine zEs_sk9 (k := 2) rfl h0 h1 hN (by decide) (by decide) (fun v2 s2 => ?_)
  refine zEs_run 4 rfl ?_
  refine zEs_sk9 (k := 3) rfl h0 h1 hN (by decide) (by decide) (fun v3 s3 => ?_)
  refine zEs_run 1 rfl ?_
  refine zEs_callG rfl rfl (zMs_mono (show 9 ≤ 40 by decide) (zjo (w_205 hW) (zjn (qw_ask (by decide) hJ)))) (fun v h9 nc1 ns1 z => ?_) (fun E h9 nc1 ns1 z => by obtain ⟨_, _, _, _, z, _⟩ := z; cases z)
  obtain ⟨k1, h1_, nc1_, ns1_, z, W1, a1, d1, J1⟩ := z
  cases z
  refine zEs_run 6 rfl ?_
  refine zEs_sk9 (k := 1) rfl h0 h1 hN (by decide) (by decide) (fun v4 s4 => ?_)
  have q4 : v1 = v4 := Option.some.inj (s1.symm.trans s4)
  subst q4
  refine zEs_run 4 rfl ?_
  refine zEs_sk9 (k := 2) rfl h0 h1 hN (by decide) (by decide) (fun v5 s5 => ?_)
  have q5 : v2 = v5 := Option.some.inj (s2.symm.trans s5)
  subst q5
  refine zEs_run 4 rfl ?_
  refine zEs_sk9 (k := 3) rfl h0 h1 hN (by decide) (by decide) (fun v6 s6 => ?_)
  have q6 : v3 = v6 := Option.some.inj (s3.symm.trans s6)
  subst q6
  obtain ⟨ws2, hw2⟩ := zWI_44 W1
  refine zEs_callG rfl (show zcallV 3 7 164 965 (.int v3 :: .int v2 :: .int v1 :: .ref 44 :: _) _ = _ from zcallV_eq rfl hw2 (Nat.le_of_ble_eq_true rfl)) (zjm (mm_164 W1) (qm_ask (y := 164) (by decide) J1)) (fun v h9 nc1 ns1 z => ?_) (fun E h9 nc1 ns1 z => by obtain ⟨_, _, _, _, z, _⟩ := z; cases z)
  obtain ⟨v2_, h2_, nc2_, ns2_, z, hv2, W2, a2, d2, J2⟩ := z
  cases z
  obtain ⟨t_, J2⟩ := J2
  obtain ⟨k2, rfl⟩ := hv2
  refine zEs_run 2 rfl ?_
  exact K _ _ _ _ _ _ _ _ _ W2 J2 (zAA_0 hA) (by omega) (by omega)
theorem lj_c970 (hW : zWI c c q h) (hJ : zJq S M q h) (hA : zAA S M) (h0 : 0 ≤ i.toInt) (h1 : i.toInt + 6 ≤ xs.length) (hN : xs.length ≤ 100000) (K : ∀ (c' : Nat × Nat) (S' : zSt) (M' : zRt) (p5 p6 p7 : Option Value) (h' : zH) (nc' ns' : Nat), zWI c' c' q h' → zJq S' M' q h' → zAA S' M' → nc' ≤ nc + 410 → ns' ≤ ns + 14100 → zEs xs 41 214 1272 [some (.retAddr 0), some (.ref 0), some (.ref 44), some (.ref q), some (.int i), p5, p6, p7] [] h' nc' ns' (zPb nc0 ns0)) : zEs xs 41 214 970 [some (.retAddr 0), some (.ref 0), some (.ref 44), some (.ref q), some (.int i), o5, o6, o7] [] h nc ns (zPb nc0 ns0) := by
  refine zEs_run 5 rfl ?_
  refine zEs_sk9 (k := 1) rfl h0 h1 hN (by decide) (by decide) (fun v1 s1 => ?_)
  refine zEs_run 4 rfl ?_
  refine zEs_sk9 (k := 2) rfl h0 h1 hN (by decide) (by decide) (fun v2 s2 => ?_)
  refine zEs_run 1 rfl ?_
  refine zEs_callG rfl rfl (zMs_mono (show 9 ≤ 40 by decide) (zjo (w_206 hW) (zjn (qw_ask (by decide) hJ)))) (fun v h9 nc1 ns1 z => ?_) (fun E h9 nc1 ns1 z => by obtain ⟨_, _, _, _, z, _⟩ := z; cases z)
  obtain ⟨k1, h1_, nc1_, ns1_, z, W1, a1, d1, J1⟩ := z
  cases z
  refine zEs_run 6 rfl ?_
  refine zEs_sk9 (k := 1) rfl h0 h1 hN (by decide) (by decide) (fun v3 s3 => ?_)
  have q3 : v1 = v3 := Option.some.inj (s1.symm.trans s3)
  subst q3
  refine zEs_run 4 rfl ?_
  refine zEs_sk9 (k := 2) rfl h0 h1 hN (by decide) (by decide) (fun v4 s4 => ?_)
  have q4 : v2 = v4 := Option.some.inj (s2.symm.trans s4)
  subst q4
  obtain ⟨ws2, hw2⟩ := zWI_44 W1
  refine zEs_callG rfl (show zcallV 2 7 165 1005 (.int v2 :: .int v1 :: .ref 44 :: _) _ = _ from zcallV_eq rfl hw2 (Nat.le_of_ble_eq_true rfl)) (zjm (mm_165 W1) (qm_ask (y := 165) (by decide) J1)) (fun v h9 nc1 ns1 z => ?_) (fun E h9 nc1 ns1 z => by obtain ⟨_, _, _, _, z, _⟩ := z; cases z)
  obtain ⟨v2_, h2_, nc2_, ns2_, z, hv2, W2, a2, d2, J2⟩ := z
  cases z
  obtain ⟨t_, J2⟩ := J2
  obtain ⟨k2, rfl⟩ := hv2
  refine zEs_run 2 rfl ?_
  exact K _ _ _ _ _ _ _ _ _ W2 J2 (zAA_0 hA) (by omega) (by omega)
theorem lj_c1010 (hW : zWI c c q h) (hJ : zJq S M q h) (hA : zAA S M) (h0 : 0 ≤ i.toInt) (h1 : i.toInt + 6 ≤ xs.length) (hN : xs.length ≤ 100000) (K : ∀ (c' : Nat × Nat) (S' : zSt) (M' : zRt) (p5 p6 p7 : Option Value) (h' : zH) (nc' ns' : Nat), zWI c' c' q h' → zJq S' M' q h' → zAA S' M' → nc' ≤ nc + 410 → ns' ≤ ns + 14100 → zEs xs 41 214 1272 [some (.retAddr 0), some (.ref 0), some (.ref 44), some (.ref q), some (.int i), p5, p6, p7] [] h' nc' ns' (zPb nc0 ns0)) : zEs xs 41 214 1010 [some (.retAddr 0), some (.ref 0), some (.ref 44), some (.ref q), some (.int i), o5, o6, o7] [] h nc ns (zPb nc0 ns0) := by
  refine zEs_run 5 rfl ?_
  refine zEs_sk9 (k := 1) rfl h0 h1 hN (by decide) (by decide) (fun v1 s1 => ?_)
  refine zEs_run 4 rfl ?_
  refine zEs_sk9 (k := 2) rfl h0 h1 hN (by decide) (by decide) (fun v2 s2 => ?_)
  suffices J1_ : ∀ w : Int32, (w = 0 ∨ w = 1) → w = zbq v2 → zEs xs 41 214 1031 [some (.retAddr 0), some (.ref 0), some (.ref 44), some (.ref q), some (.int i), o5, o6, o7] (.int w :: [.int v1, .ref 0]) h _ _ (zPb nc0 ns0) by
    refine zEs_if rfl (fun g9 => ?_) (fun g9 => ?_)
    · exact zEs_run 1 rfl (J1_ _ (by decide) (zbq_1 g9))
    · exact zEs_run 2 rfl (J1_ _ (by decide) (zbq_2 g9))
  intro v3 b3 s3
  refine zEs_run 1 rfl ?_
  refine zEs_callG rfl rfl (zMs_mono (show 9 ≤ 40 by decide) (zjo (w_207 hW) (zjn (qw_ask (by decide) hJ)))) (fun v h9 nc1 ns1 z => ?_) (fun E h9 nc1 ns1 z => by obtain ⟨_, _, _, _, z, _⟩ := z; cases z)
  obtain ⟨k1, h1_, nc1_, ns1_, z, W1, a1, d1, J1⟩ := z
  cases z
  refine zEs_run 6 rfl ?_
  refine zEs_sk9 (k := 1) rfl h0 h1 hN (by decide) (by decide) (fun v4 s4 => ?_)
  have q4 : v1 = v4 := Option.some.inj (s1.symm.trans s4)
  subst q4
  refine zEs_run 4 rfl ?_
  refine zEs_sk9 (k := 2) rfl h0 h1 hN (by decide) (by decide) (fun v5 s5 => ?_)
  have q5 : v2 = v5 := Option.some.inj (s2.symm.trans s5)
  subst q5
  suffices J2_ : ∀ w : Int32, (w = 0 ∨ w = 1) → w = zbq v2 → zEs xs 41 214 1058 [some (.retAddr 0), some (.ref 0), some (.ref 44), some (.ref q), some (.int i), some (.int k1), o6, o7] (.int w :: [.int v1, .ref 44]) h9 _ _ (zPb nc0 ns0) by
    refine zEs_if rfl (fun g9 => ?_) (fun g9 => ?_)
    · exact zEs_run 1 rfl (J2_ _ (by decide) (zbq_1 g9))
    · exact zEs_run 2 rfl (J2_ _ (by decide) (zbq_2 g9))
  intro v6 b6 s6
  have q6 : v3 = v6 := s3.trans s6.symm
  subst q6
  obtain ⟨ws2, hw2⟩ := zWI_44 W1
  refine zEs_callG rfl (show zcallV 2 7 170 1061 (.int v3 :: .int v1 :: .ref 44 :: _) _ = _ from zcallV_eq rfl hw2 (Nat.le_of_ble_eq_true rfl)) (zjm (mm_170 W1 b3) (qm_ask (y := 170) (by decide) J1)) (fun v h9 nc1 ns1 z => ?_) (fun E h9 nc1 ns1 z => by obtain ⟨_, _, _, _, z, _⟩ := z; cases z)
  obtain ⟨v2_, h2_, nc2_, ns2_, z, hv2, W2, a2, d2, J2⟩ := z
  cases z
  obtain ⟨t_, J2⟩ := J2
  obtain ⟨k2, rfl⟩ := hv2
  refine zEs_run 2 rfl ?_
  exact K _ _ _ _ _ _ _ _ _ W2 J2 (zAA_0 hA) (by omega) (by omega)
theorem lj_c1066 (hW : zWI c c q h) (hJ : zJq S M q h) (hA : zAA S M) (h0 : 0 ≤ i.toInt) (h1 : i.toInt + 6 ≤ xs.length) (hN : xs.length ≤ 100000) (K : ∀ (c' : Nat × Nat) (S' : zSt) (M' : zRt) (p5 p6 p7 : Option Value) (h' : zH) (nc' ns' : Nat), zWI c' c' q h' → zJq S' M' q h' → zAA S' M' → nc' ≤ nc + 410 → ns' ≤ ns + 14100 → zEs xs 41 214 1272 [some (.retAddr 0), some (.ref 0), some (.ref 44), some (.ref q), some (.int i), p5, p6, p7] [] h' nc' ns' (zPb nc0 ns0)) : zEs xs 41 214 1066 [some (.retAddr 0), some (.ref 0), some (.ref 44), some (.ref q), some (.int i), o5, o6, o7] [] h nc ns (zPb nc0 ns0) := by
  refine zEs_run 5 rfl ?_
  refine zEs_sk9 (k := 1) rfl h0 h1 hN (by decide) (by decide) (fun v1 s1 => ?_)
  refine zEs_run 1 rfl ?_
  refine zEs_callG rfl rfl (zMs_mono (show 9 ≤ 40 by decide) (zjo (w_208 hW) (zjn (qw_ask (by decide) hJ)))) (fun v h9 nc1 ns1 z => ?_) (fun E h9 nc1 ns1 z => by obtain ⟨_, _, _, _, z, _⟩ := z; cases z)
  obtain ⟨k1, h1_, nc1_, ns1_, z, W1, a1, d1, J1⟩ := z
  cases z
  refine zEs_run 6 rfl ?_
  refine zEs_sk9 (k := 1) rfl h0 h1 hN (by decide) (by decide) (fun v2 s2 => ?_)
  have q2 : v1 = v2 := Option.some.inj (s1.symm.trans s2)
  subst q2
  obtain ⟨ws2, hw2⟩ := zWI_44 W1
  refine zEs_callG rfl (show zcallV 1 7 172 1089 (.int v1 :: .ref 44 :: _) _ = _ from zcallV_eq rfl hw2 (Nat.le_of_ble_eq_true rfl)) (zjm (mm_172 W1) (qm_172 J1)) (fun v h9 nc1 ns1 z => ?_) (fun E h9 nc1 ns1 z => by obtain ⟨_, _, _, _, z, _⟩ := z; cases z)
  obtain ⟨v2_, h2_, nc2_, ns2_, z, hv2, W2, a2, d2, J2⟩ := z
  cases z
  obtain ⟨k2, rfl⟩ := hv2
  refine zEs_run 2 rfl ?_
  exact K _ _ _ _ _ _ _ _ _ W2 J2 (zAA_172 hA) (by omega) (by omega)
theorem lj_c1094 (hW : zWI c c q h) (hJ : zJq S M q h) (hA : zAA S M) (h0 : 0 ≤ i.toInt) (h1 : i.toInt + 6 ≤ xs.length) (hN : xs.length ≤ 100000) (K : ∀ (c' : Nat × Nat) (S' : zSt) (M' : zRt) (p5 p6 p7 : Option Value) (h' : zH) (nc' ns' : Nat), zWI c' c' q h' → zJq S' M' q h' → zAA S' M' → nc' ≤ nc + 410 → ns' ≤ ns + 14100 → zEs xs 41 214 1272 [some (.retAddr 0), some (.ref 0), some (.ref 44), some (.ref q), some (.int i), p5, p6, p7] [] h' nc' ns' (zPb nc0 ns0)) : zEs xs 41 214 1094 [some (.retAddr 0), some (.ref 0), some (.ref 44), some (.ref q), some (.int i), o5, o6, o7] [] h nc ns (zPb nc0 ns0) := by
  refine zEs_run 5 rfl ?_
  refine zEs_sk9 (k := 1) rfl h0 h1 hN (by decide) (by decide) (fun v1 s1 => ?_)
  refine zEs_run 1 rfl ?_
  refine zEs_callG rfl rfl (zMs_mono (show 9 ≤ 40 by decide) (zjo (w_209 hW) (zjn (qw_ask (by decide) hJ)))) (fun v h9 nc1 ns1 z => ?_) (fun E h9 nc1 ns1 z => by obtain ⟨_, _, _, _, z, _⟩ := z; cases z)
  obtain ⟨k1, h1_, nc1_, ns1_, z, W1, a1, d1, J1⟩ := z
  cases z
  refine zEs_run 6 rfl ?_
  refine zEs_sk9 (k := 1) rfl h0 h1 hN (by decide) (by decide) (fun v2 s2 => ?_)
  have q2 : v1 = v2 := Option.some.inj (s1.symm.trans s2)
  subst q2
  obtain ⟨ws2, hw2⟩ := zWI_44 W1
  refine zEs_callG rfl (show zcallV 1 7 174 1117 (.int v1 :: .ref 44 :: _) _ = _ from zcallV_eq rfl hw2 (Nat.le_of_ble_eq_true rfl)) (zjm (mm_174 W1) (qm_ask (y := 174) (by decide) J1)) (fun v h9 nc1 ns1 z => ?_) (fun E h9 nc1 ns1 z => by obtain ⟨_, _, _, _, z, _⟩ := z; cases z)
  obtain ⟨v2_, h2_, nc2_, ns2_, z, hv2, W2, a2, d2, J2⟩ := z
  cases z
  obtain ⟨t_, J2⟩ := J2
  obtain ⟨k2, rfl⟩ := hv2
  refine zEs_run 2 rfl ?_
  exact K _ _ _ _ _ _ _ _ _ W2 J2 (zAA_0 hA) (by omega) (by omega)
theorem lj_c1122 (hW : zWI c c q h) (hJ : zJq S M q h) (hA : zAA S M) (h0 : 0 ≤ i.toInt) (h1 : i.toInt + 6 ≤ xs.length) (hN : xs.length ≤ 100000) (K : ∀ (c' : Nat × Nat) (S' : zSt) (M' : zRt) (p5 p6 p7 : Option Value) (h' : zH) (nc' ns' : Nat), zWI c' c' q h' → zJq S' M' q h' → zAA S' M' → nc' ≤ nc + 410 → ns' ≤ ns + 14100 → zEs xs 41 214 1272 [some (.retAddr 0), some (.ref 0), some (.ref 44), some (.ref q), some (.int i), p5, p6, p7] [] h' nc' ns' (zPb nc0 ns0)) : zEs xs 41 214 1122 [some (.retAddr 0), some (.ref 0), some (.ref 44), some (.ref q), some (.int i), o5, o6, o7] [] h nc ns (zPb nc0 ns0) := by
  refine zEs_run 5 rfl ?_
  refine zEs_sk9 (k := 1) rfl h0 h1 hN (by decide) (by decide) (fun v1 s1 => ?_)
  refine zEs_run 4 rfl ?_
  refine zEs_sk9 (k := 2) rfl h0 h1 hN (by decide) (by decide) (fun v2 s2 => ?_)
  refine zEs_run 1 rfl ?_
  refine zEs_callG rfl rfl (zMs_mono (show 9 ≤ 40 by decide) (zjo (w_210 hW) (zjn (qw_210 hJ hA)))) (fun v h9 nc1 ns1 z => ?_) (fun E h9 nc1 ns1 z => by obtain ⟨_, _, _, _, z, _⟩ := z; cases z)
  obtain ⟨k1, h1_, nc1_, ns1_, z, W1, a1, d1, J1⟩ := z
  cases z
  refine zEs_run 6 rfl ?_
  refine zEs_sk9 (k := 1) rfl h0 h1 hN (by decide) (by decide) (fun v3 s3 => ?_)
  have q3 : v1 = v3 := Option.some.inj (s1.symm.trans s3)
  subst q3
  refine zEs_run 4 rfl ?_
  refine zEs_sk9 (k := 2) rfl h0 h1 hN (by decide) (by decide) (fun v4 s4 => ?_)
  have q4 : v2 = v4 := Option.some.inj (s2.symm.trans s4)
  subst q4
  obtain ⟨ws2, hw2⟩ := zWI_44 W1
  refine zEs_callG rfl (show zcallV 2 7 175 1157 (.int v2 :: .int v1 :: .ref 44 :: _) _ = _ from zcallV_eq rfl hw2 (Nat.le_of_ble_eq_true rfl)) (zjm (mm_175 W1) (qm_175 J1)) (fun v h9 nc1 ns1 z => ?_) (fun E h9 nc1 ns1 z => by obtain ⟨_, _, _, _, z, _⟩ := z; cases z)
  obtain ⟨v2_, h2_, nc2_, ns2_, z, hv2, W2, a2, d2, J2⟩ := z
  cases z
  obtain ⟨t_, J2⟩ := J2
  rcases hv2 with rfl | ⟨k2, rfl⟩
  · refine zEs_run 2 rfl ?_
    exact K _ _ _ _ _ _ _ _ _ W2 J2 (zAA_0 hA) (by omega) (by omega)
  · refine zEs_run 2 rfl ?_
    exact K _ _ _ _ _ _ _ _ _ W2 J2 (zAA_0 hA) (by omega) (by omega)
theorem lj_c1162 (hW : zWI c c q h) (hJ : zJq S M q h) (hA : zAA S M) (h0 : 0 ≤ i.toInt) (h1 : i.toInt + 6 ≤ xs.length) (hN : xs.length ≤ 100000) (K : ∀ (c' : Nat × Nat) (S' : zSt) (M' : zRt) (p5 p6 p7 : Option Value) (h' : zH) (nc' ns' : Nat), zWI c' c' q h' → zJq S' M' q h' → zAA S' M' → nc' ≤ nc + 410 → ns' ≤ ns + 14100 → zEs xs 41 214 1272 [some (.retAddr 0), some (.ref 0), some (.ref 44), some (.ref q), some (.int i), p5, p6, p7] [] h' nc' ns' (zPb nc0 ns0)) : zEs xs 41 214 1162 [some (.retAddr 0), some (.ref 0), some (.ref 44), some (.ref q), some (.int i), o5, o6, o7] [] h nc ns (zPb nc0 ns0) := by
  refine zEs_run 5 rfl ?_
  refine zEs_sk9 (k := 1) rfl h0 h1 hN (by decide) (by decide) (fun v1 s1 => ?_)
  refine zEs_run 1 rfl ?_
  refine zEs_callG rfl rfl (zMs_mono (show 9 ≤ 40 by decide) (zjo (w_211 hW) (zjn (qw_ask (by decide) hJ)))) (fun v h9 nc1 ns1 z => ?_) (fun E h9 nc1 ns1 z => by obtain ⟨_, _, _, _, z, _⟩ := z; cases z)
  obtain ⟨k1, h1_, nc1_, ns1_, z, W1, a1, d1, J1⟩ := z
  cases z
  refine zEs_run 6 rfl ?_
  refine zEs_sk9 (k := 1) rfl h0 h1 hN (by decide) (by decide) (fun v2 s2 => ?_)
  have q2 : v1 = v2 := Option.some.inj (s1.symm.trans s2)
  subst q2
  obtain ⟨ws2, hw2⟩ := zWI_44 W1
  refine zEs_callG rfl (show zcallV 1 7 178 1185 (.int v1 :: .ref 44 :: _) _ = _ from zcallV_eq rfl hw2 (Nat.le_of_ble_eq_true rfl)) (zjm (mm_178 W1) (qm_ask (y := 178) (by decide) J1)) (fun v h9 nc1 ns1 z => ?_) (fun E h9 nc1 ns1 z => by obtain ⟨_, _, _, _, z, _⟩ := z; cases z)
  obtain ⟨v2_, h2_, nc2_, ns2_, z, hv2, W2, a2, d2, J2⟩ := z
  cases z
  obtain ⟨t_, J2⟩ := J2
  obtain ⟨k2, rfl⟩ := hv2
  refine zEs_run 2 rfl ?_
  exact K _ _ _ _ _ _ _ _ _ W2 J2 (zAA_0 hA) (by omega) (by omega)
theorem lj_c1190 (hW : zWI c c q h) (hJ : zJq S M q h) (hA : zAA S M) (h0 : 0 ≤ i.toInt) (h1 : i.toInt + 6 ≤ xs.length) (hN : xs.length ≤ 100000) (K : ∀ (c' : Nat × Nat) (S' : zSt) (M' : zRt) (p5 p6 p7 : Option Value) (h' : zH) (nc' ns' : Nat), zWI c' c' q h' → zJq S' M' q h' → zAA S' M' → nc' ≤ nc + 410 → ns' ≤ ns + 14100 → zEs xs 41 214 1272 [some (.retAddr 0), some (.ref 0), some (.ref 44), some (.ref q), some (.int i), p5, p6, p7] [] h' nc' ns' (zPb nc0 ns0)) : zEs xs 41 214 1190 [some (.retAddr 0), some (.ref 0), some (.ref 44), some (.ref q), some (.int i), o5, o6, o7] [] h nc ns (zPb nc0 ns0) := by
  refine zEs_run 5 rfl ?_
  refine zEs_sk9 (k := 1) rfl h0 h1 hN (by decide) (by decide) (fun v1 s1 => ?_)
  refine zEs_run 1 rfl ?_
  refine zEs_callG rfl rfl (zMs_mono (show 9 ≤ 40 by decide) (zjo (w_212 hW) (zjn (qw_ask (by decide) hJ)))) (fun v h9 nc1 ns1 z => ?_) (fun E h9 nc1 ns1 z => by obtain ⟨_, _, _, _, z, _⟩ := z; cases z)
  obtain ⟨k1, h1_, nc1_, ns1_, z, W1, a1, d1, J1⟩ := z
  cases z
  refine zEs_run 6 rfl ?_
  refine zEs_sk9 (k := 1) rfl h0 h1 hN (by decide) (by decide) (fun v2 s2 => ?_)
  have q2 : v1 = v2 := Option.some.inj (s1.symm.trans s2)
  subst q2
  obtain ⟨ws2, hw2⟩ := zWI_44 W1
  refine zEs_callG rfl (show zcallV 1 7 180 1213 (.int v1 :: .ref 44 :: _) _ = _ from zcallV_eq rfl hw2 (Nat.le_of_ble_eq_true rfl)) (zjm (mm_180 W1) (qm_ask (y := 180) (by decide) J1)) (fun v h9 nc1 ns1 z => ?_) (fun E h9 nc1 ns1 z => by obtain ⟨_, _, _, _, z, _⟩ := z; cases z)
  obtain ⟨v2_, h2_, nc2_, ns2_, z, hv2, W2, a2, d2, J2⟩ := z
  cases z
  obtain ⟨t_, J2⟩ := J2
  obtain ⟨k2, rfl⟩ := hv2
  refine zEs_run 2 rfl ?_
  exact K _ _ _ _ _ _ _ _ _ W2 J2 (zAA_0 hA) (by omega) (by omega)
theorem lj_c1218 (hW : zWI c c q h) (hJ : zJq S M q h) (hA : zAA S M) (h0 : 0 ≤ i.toInt) (h1 : i.toInt + 6 ≤ xs.length) (hN : xs.length ≤ 100000) (K : ∀ (c' : Nat × Nat) (S' : zSt) (M' : zRt) (p5 p6 p7 : Option Value) (h' : zH) (nc' ns' : Nat), zWI c' c' q h' → zJq S' M' q h' → zAA S' M' → nc' ≤ nc + 410 → ns' ≤ ns + 14100 → zEs xs 41 214 1272 [some (.retAddr 0), some (.ref 0), some (.ref 44), some (.ref q), some (.int i), p5, p6, p7] [] h' nc' ns' (zPb nc0 ns0)) : zEs xs 41 214 1218 [some (.retAddr 0), some (.ref 0), some (.ref 44), some (.ref q), some (.int i), o5, o6, o7] [] h nc ns (zPb nc0 ns0) := by
  refine zEs_run 5 rfl ?_
  refine zEs_sk9 (k := 1) rfl h0 h1 hN (by decide) (by decide) (fun v1 s1 => ?_)
  refine zEs_run 1 rfl ?_
  refine zEs_callG rfl rfl (zMs_mono (show 9 ≤ 40 by decide) (zjo (w_213 hW) (zjn (qw_213 hJ hA)))) (fun v h9 nc1 ns1 z => ?_) (fun E h9 nc1 ns1 z => by obtain ⟨_, _, _, _, z, _⟩ := z; cases z)
  obtain ⟨k1, h1_, nc1_, ns1_, z, W1, a1, d1, J1⟩ := z
  cases z
  obtain ⟨S1_, fr1, J1⟩ := J1
  refine zEs_run 6 rfl ?_
  refine zEs_sk9 (k := 1) rfl h0 h1 hN (by decide) (by decide) (fun v2 s2 => ?_)
  have q2 : v1 = v2 := Option.some.inj (s1.symm.trans s2)
  subst q2
  obtain ⟨ws2, hw2⟩ := zWI_44 W1
  refine zEs_callG rfl (show zcallV 1 7 185 1241 (.int v1 :: .ref 44 :: _) _ = _ from zcallV_eq rfl hw2 (Nat.le_of_ble_eq_true rfl)) (zjm (mm_185 W1) (qm_ask (y := 185) (by decide) J1)) (fun v h9 nc1 ns1 z => ?_) (fun E h9 nc1 ns1 z => by obtain ⟨_, _, _, _, z, _⟩ := z; cases z)
  obtain ⟨v2_, h2_, nc2_, ns2_, z, hv2, W2, a2, d2, J2⟩ := z
  cases z
  obtain ⟨t_, J2⟩ := J2
  obtain ⟨k2, rfl⟩ := hv2
  refine zEs_run 2 rfl ?_
  exact K _ _ _ _ _ _ _ _ _ W2 J2 (zAA_0 (zAA_5 fr1 hA)) (by omega) (by omega)
theorem lj_c1246 (hW : zWI c c q h) (hJ : zJq S M q h) (hA : zAA S M) (h0 : 0 ≤ i.toInt) (h1 : i.toInt + 6 ≤ xs.length) (hN : xs.length ≤ 100000) (K : ∀ (c' : Nat × Nat) (S' : zSt) (M' : zRt) (p5 p6 p7 : Option Value) (h' : zH) (nc' ns' : Nat), zWI c' c' q h' → zJq S' M' q h' → zAA S' M' → nc' ≤ nc + 410 → ns' ≤ ns + 14100 → zEs xs 41 214 1272 [some (.retAddr 0), some (.ref 0), some (.ref 44), some (.ref q), some (.int i), p5, p6, p7] [] h' nc' ns' (zPb nc0 ns0)) : zEs xs 41 214 1246 [some (.retAddr 0), some (.ref 0), some (.ref 44), some (.ref q), some (.int i), o5, o6, o7] [] h nc ns (zPb nc0 ns0) := by
  refine zEs_run 1 rfl ?_
  obtain ⟨ws1, hw1⟩ := zWI_0 hW
  have e1 : ∀ rs, zcs rs ≤ 8 → zcallV 0 5 80 1250 (.ref 0 :: rs) h = some (.inr (.inl (80, [.ref 0], rs, 1250))) := fun rs hr => zcallV_eq rfl hw1 hr
  refine zEs_callG rfl (e1 _ (by decide)) (zMs_mono (show 9 ≤ 40 by decide) (zMs_and (zKr (D := 9) hW (fun s a T hL ht => k_80 hL)) (qw_80v hJ hA))) (fun v h9 nc1 ns1 z => ?_) (fun E h9 nc1 ns1 z => by obtain ⟨z, -⟩ := z; rcases z with ⟨_, _, _, _, _, _, _, _, z⟩ | ⟨_, _, _, _, z, _⟩ <;> cases z)
  obtain ⟨z, u80, J1⟩ := z
  replace z := z.resolve_right (fun y9 => by obtain ⟨_, _, _, _, y9, _⟩ := y9; cases y9)
  obtain ⟨v1_, h1_, nc1_, ns1_, hv1, W1, a1, d1, z⟩ := z
  cases z
  replace u80 := Sum.inl.inj u80
  subst u80
  refine zEs_run 1 rfl ?_
  obtain ⟨ws2, hw2⟩ := zWI_44 W1
  refine zEs_callG rfl (show zcallV 0 7 187 1254 (.ref 44 :: _) _ = _ from zcallV_eq rfl hw2 (Nat.le_of_ble_eq_true rfl)) (zMs_and (mm_187 W1) (qm_187v J1)) (fun v h9 nc1 ns1 z => ?_) (fun E h9 nc1 ns1 z => by obtain ⟨⟨_, _, _, _, z, _⟩, _⟩ := z; cases z)
  obtain ⟨⟨v2_, h2_, nc2_, ns2_, z, hv2, W2, a2, d2⟩, u187, J2⟩ := z
  cases z
  replace u187 := Sum.inl.inj u187
  subst u187
  rw [← zSo hA.2]
  refine zEs_icmp rfl (fun _ => ?_) (fun g9 => absurd rfl g9)
  exact K _ _ _ _ _ _ _ _ _ W2 J2 (zAA_0 hA) (by omega) (by omega)
theorem lj_c1259 (hW : zWI c c q h) (hJ : zJq S M q h) (hA : zAA S M) (h0 : 0 ≤ i.toInt) (h1 : i.toInt + 6 ≤ xs.length) (hN : xs.length ≤ 100000) (K : ∀ (c' : Nat × Nat) (S' : zSt) (M' : zRt) (p5 p6 p7 : Option Value) (h' : zH) (nc' ns' : Nat), zWI c' c' q h' → zJq S' M' q h' → zAA S' M' → nc' ≤ nc + 410 → ns' ≤ ns + 14100 → zEs xs 41 214 1272 [some (.retAddr 0), some (.ref 0), some (.ref 44), some (.ref q), some (.int i), p5, p6, p7] [] h' nc' ns' (zPb nc0 ns0)) : zEs xs 41 214 1259 [some (.retAddr 0), some (.ref 0), some (.ref 44), some (.ref q), some (.int i), o5, o6, o7] [] h nc ns (zPb nc0 ns0) := by
  refine zEs_run 1 rfl ?_
  obtain ⟨ws1, hw1⟩ := zWI_0 hW
  have e1 : ∀ rs, zcs rs ≤ 8 → zcallV 0 5 81 1263 (.ref 0 :: rs) h = some (.inr (.inl (81, [.ref 0], rs, 1263))) := fun rs hr => zcallV_eq rfl hw1 hr
  refine zEs_callG rfl (e1 _ (by decide)) (zMs_mono (show 9 ≤ 40 by decide) (zjc (zKo (D := 9) hW (by decide) (by decide) (fun s a T hL ht => kn_81 hL ht)) (qw_81 hJ hA))) (fun v h9 nc1 ns1 z => ?_) (fun E h9 nc1 ns1 z => by obtain ⟨z, -⟩ := z; rcases z with ⟨_, _, _, _, _, _, _, _, z⟩ | ⟨_, _, _, _, z, _⟩ <;> cases z)
  obtain ⟨z, J1⟩ := z
  replace z := z.resolve_right (fun y9 => by obtain ⟨_, _, _, _, y9, _⟩ := y9; cases y9)
  obtain ⟨v1_, h1_, nc1_, ns1_, hv1, W1, a1, d1, z⟩ := z
  cases z
  obtain ⟨k1, rfl⟩ := hv1
  obtain ⟨S1_, fr1, J1⟩ := J1
  refine zEs_run 2 rfl ?_
  obtain ⟨ws2, hw2⟩ := zWI_44 W1
  refine zEs_callG rfl (show zcallV 0 7 188 1268 (.ref 44 :: _) _ = _ from zcallV_eq rfl hw2 (Nat.le_of_ble_eq_true rfl)) (zjm (mm_188 W1) (qm_188 J1)) (fun v h9 nc1 ns1 z => ?_) (fun E h9 nc1 ns1 z => by obtain ⟨_, _, _, _, z, _⟩ := z; cases z)
  obtain ⟨v2_, h2_, nc2_, ns2_, z, hv2, W2, a2, d2, J2⟩ := z
  cases z
  obtain ⟨t_, J2⟩ := J2
  obtain ⟨k2, rfl⟩ := hv2
  refine zEs_run 2 rfl ?_
  exact K _ _ _ _ _ _ _ _ _ W2 J2 (zAA_0 (zAA_5 fr1 hA)) (by omega) (by omega)
end ZL9
