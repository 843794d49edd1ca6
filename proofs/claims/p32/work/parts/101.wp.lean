/-! Runs with a postcondition: from a point, deep enough, the machine comes to an end that satisfies P. -/
def zEs (xs : List Int32) (D y pc : Nat) (L : zL) (st : List Value) (h : zH) (nc ns : Nat) (P : zO → Prop) : Prop := ∃ (o : zO) (N : Nat), P o ∧ ∀ d n, D ≤ d → N ≤ n → zev xs n d y pc L st h nc ns = some o
/-- a whole call -/
def zMs (xs : List Int32) (D y : Nat) (as : List Value) (h : zH) (nc ns : Nat) (P : zO → Prop) : Prop := ∃ L0, zen (zmL y) as = some L0 ∧ zEs xs D y 0 L0 [] h nc ns P
section ZS
variable {xs : List Int32} {D y pc nx k yy m c tg : Nat} {i : Instr} {L : zL} {st : List Value} {h : zH} {nc ns : Nat} {P P' : zO → Prop}
theorem zEs_post (g : zEs xs D y pc L st h nc ns P) (w : ∀ o, P o → P' o) : zEs xs D y pc L st h nc ns P' := by
  obtain ⟨o, N, g1, g2⟩ := g
  exact ⟨o, N, w o g1, g2⟩
theorem zEs_step {pc' dc ds : Nat} {L' : zL} {st' : List Value} {h' : zH} (h1 : zat (zmc y) pc = some (i, nx, k, yy, m, c)) (h2 : zstep zcf xs pc i nx k yy m c L st h = some (.inl (pc', L', st', h', dc, ds))) (h3 : zEs xs D y pc' L' st' h' (nc + dc) (ns + ds) P) : zEs xs D y pc L st h nc ns P := by
  obtain ⟨o, N, g0, g⟩ := h3
  refine ⟨o, N + 1, g0, fun d n hd hn => ?_⟩
  obtain ⟨n, rfl⟩ : ∃ q, n = q + 1 := ⟨n - 1, by omega⟩
  unfold zev
  rw [h1]
  dsimp only
  rw [h2]
  exact g d n hd (by omega)
theorem zEs_run : ∀ (n : Nat) {pc pc' nc ns nc' ns' : Nat} {L L' : zL} {st st' : List Value} {h h' : zH}, zrun xs y n pc L st h nc ns = some (pc', L', st', h', nc', ns') → zEs xs D y pc' L' st' h' nc' ns' P → zEs xs D y pc L st h nc ns P
  | 0, pc, pc', nc, ns, nc', ns', L, L', st, st', h, h', e, k => by
    cases (show some _ = some _ from e)
    exact k
  | n + 1, pc, pc', nc, ns, nc', ns', L, L', st, st', h, h', e, k => by
    unfold zrun at e
    split at e
    · cases e
    · next h1 =>
      split at e
      · next h2 => exact zEs_step h1 h2 (zEs_run n e k)
      · cases e
theorem zEs_end {dc ds : Nat} {r : Option Value ⊕ Nat} (h1 : zat (zmc y) pc = some (i, nx, k, yy, m, c)) (h2 : zstep zcf xs pc i nx k yy m c L st h = some (.inr (.inr (r, dc, ds)))) (h3 : P (r, h, nc + dc, ns + ds)) : zEs xs D y pc L st h nc ns P := by
  refine ⟨_, 1, h3, fun d n hd hn => ?_⟩
  obtain ⟨n, rfl⟩ : ∃ q, n = q + 1 := ⟨n - 1, by omega⟩
  unfold zev
  rw [h1]
  dsimp only
  rw [h2]
/-- a call, whatever comes of it -/
theorem zEs_callG {y' nx' : Nat} {as r : List Value} {P1 : zO → Prop} (e1 : zat (zmc y) pc = some (i, nx, k, yy, m, c)) (e2 : zstep zcf xs pc i nx k yy m c L st h = some (.inr (.inl (y', as, r, nx')))) (e3 : zMs xs D y' as h nc ns P1)
    (kv : ∀ v h1 nc1 ns1, P1 (.inl v, h1, nc1, ns1) → zEs xs (D + 1) y nx' L (v.toList ++ r) h1 nc1 ns1 P)
    (kx : ∀ E h1 nc1 ns1, P1 (.inr E, h1, nc1, ns1) → (zmh y = [] ∧ P (.inr E, h1, nc1, ns1)) ∨ ∃ pc2 L2, zmh y ≠ [] ∧ zcatch y pc E L = some (pc2, L2) ∧ zEs xs (D + 1) y pc2 L2 [] h1 nc1 ns1 P) : zEs xs (D + 1) y pc L st h nc ns P := by
  obtain ⟨L0, hL, ⟨r0, h1, nc1, ns1⟩, N1, p1, g1⟩ := e3
  cases r0 with
  | inl v =>
    obtain ⟨o, N2, p2, g2⟩ := kv v h1 nc1 ns1 p1
    refine ⟨o, N1 + N2 + 1, p2, fun d n hd hn => ?_⟩
    obtain ⟨n, rfl⟩ : ∃ q, n = q + 1 := ⟨n - 1, by omega⟩
    obtain ⟨d, rfl⟩ : ∃ q, d = q + 1 := ⟨d - 1, by omega⟩
    unfold zev
    rw [e1]
    dsimp only
    rw [e2]
    dsimp only
    rw [hL]
    dsimp only
    rw [g1 d n (by omega) (by omega)]
    dsimp only
    exact g2 (d + 1) n hd (by omega)
  | inr E =>
    rcases kx E h1 nc1 ns1 p1 with ⟨q1, q2⟩ | ⟨pc2, L2, q1, q2, o, N2, p2, g2⟩
    · refine ⟨_, N1 + 1, q2, fun d n hd hn => ?_⟩
      obtain ⟨n, rfl⟩ : ∃ q, n = q + 1 := ⟨n - 1, by omega⟩
      obtain ⟨d, rfl⟩ : ∃ q, d = q + 1 := ⟨d - 1, by omega⟩
      unfold zev
      rw [e1]
      dsimp only
      rw [e2]
      dsimp only
      rw [hL]
      dsimp only
      rw [g1 d n (by omega) (by omega)]
      dsimp only
      rw [q1]
    · refine ⟨o, N1 + N2 + 1, p2, fun d n hd hn => ?_⟩
      obtain ⟨n, rfl⟩ : ∃ q, n = q + 1 := ⟨n - 1, by omega⟩
      obtain ⟨d, rfl⟩ : ∃ q, d = q + 1 := ⟨d - 1, by omega⟩
      unfold zev
      rw [e1]
      dsimp only
      rw [e2]
      dsimp only
      rw [hL]
      dsimp only
      rw [g1 d n (by omega) (by omega)]
      dsimp only
      split
      · next q => exact absurd q q1
      · rw [q2]
        exact g2 (d + 1) n hd (by omega)
/-- what a condition says -/
def zcq (q : ClassFile.Cond) (x y : Int32) : Prop := match q with
  | .eq => x = y
  | .ne => ¬ x = y
  | .lt => x < y
  | .ge => y ≤ x
  | .gt => y < x
  | .le => x ≤ y
def zcn9 (q : ClassFile.Cond) (x y : Int32) : Prop := match q with
  | .eq => ¬ x = y
  | .ne => x = y
  | .lt => ¬ x < y
  | .ge => ¬ y ≤ x
  | .gt => ¬ y < x
  | .le => ¬ x ≤ y
theorem zbr_t {q : ClassFile.Cond} {x y : Int32} {r : List Value} (g : zcq q x y) : zbr q x y tg nx L r h = zgo tg L r h := by
  cases q <;> first | exact if_pos g | exact if_neg g
theorem zbr_f {q : ClassFile.Cond} {x y : Int32} {r : List Value} (g : zcn9 q x y) : zbr q x y tg nx L r h = zgo nx L r h := by
  cases q <;> first | exact if_neg g | exact if_pos g
theorem zcq_em (q : ClassFile.Cond) (x y : Int32) : zcq q x y ∨ zcn9 q x y := by
  cases q <;> first | exact Classical.em _ | exact (Classical.em _).symm
theorem zEs_icmp {q : ClassFile.Cond} {o : Int} {x z : Int32} {r : List Value} (h1 : zat (zmc y) pc = some (.if_icmp q o, nx, tg, yy, m, c)) (kt : zcq q x z → zEs xs D y tg L r h nc ns P) (kf : zcn9 q x z → zEs xs D y nx L r h nc ns P) : zEs xs D y pc L (.int z :: .int x :: r) h nc ns P := by
  rcases zcq_em q x z with g | g
  · exact zEs_step h1 (zbr_t g) (kt g)
  · exact zEs_step h1 (zbr_f g) (kf g)
theorem zEs_if {q : ClassFile.Cond} {o : Int} {x : Int32} {r : List Value} (h1 : zat (zmc y) pc = some (.ifCond q o, nx, tg, yy, m, c)) (kt : zcq q x 0 → zEs xs D y tg L r h nc ns P) (kf : zcn9 q x 0 → zEs xs D y nx L r h nc ns P) : zEs xs D y pc L (.int x :: r) h nc ns P := by
  rcases zcq_em q x 0 with g | g
  · exact zEs_step h1 (zbr_t g) (kt g)
  · exact zEs_step h1 (zbr_f g) (kf g)
theorem zEs_irem {x z : Int32} {r : List Value} (h1 : zat (zmc y) pc = some (.irem, nx, k, yy, m, c)) (hz : ¬ z = 0) (g : zEs xs D y nx L (.int (x - x / z * z) :: r) h nc ns P) : zEs xs D y pc L (.int z :: .int x :: r) h nc ns P :=
  zEs_step (dc := 0) (ds := 0) h1 (show zdiv (fun x y => x - x / y * y) nx L (.int z :: .int x :: r) h = some (.inl (nx, L, .int (x - x / z * z) :: r, h, 0, 0)) from if_neg hz) g
theorem zEs_ald {j : Int32} {a : Nat} {l : List Int32} {v : Int32} {r : List Value} (h1 : zat (zmc y) pc = some (.iaload, nx, k, yy, m, c)) (ha : h[a]? = some (100, l.map Value.int)) (hj : ¬ j < 0) (hv : l[j.toNatClampNeg]? = some v) (g : zEs xs D y nx L (.int v :: r) h nc ns P) : zEs xs D y pc L (.int j :: .ref a :: r) h nc ns P := by
  refine zEs_step (dc := 0) (ds := 0) h1 ?_ g
  show zald 100 nx L (.int j :: .ref a :: r) h = _
  unfold zald
  dsimp only
  rw [ha]
  dsimp only
  rw [if_pos rfl, List.getElem?_map, hv]
  exact if_neg hj
theorem zEs_ast {j v : Int32} {a : Nat} {l : List Int32} {r : List Value} (h1 : zat (zmc y) pc = some (.iastore, nx, k, yy, m, c)) (ha : h[a]? = some (100, l.map Value.int)) (hj : ¬ j < 0) (hl : j.toNatClampNeg < l.length) (g : zEs xs D y nx L r (h.set a (100, (l.set j.toNatClampNeg v).map Value.int)) nc ns P) : zEs xs D y pc L (.int v :: .int j :: .ref a :: r) h nc ns P := by
  refine zEs_step (dc := 0) (ds := 0) h1 ?_ g
  show zast 100 some nx L (.int v :: .int j :: .ref a :: r) h = _
  unfold zast
  dsimp only
  rw [ha]
  dsimp only
  rw [if_pos rfl, if_neg hj, if_pos (by rw [List.length_map]; exact hl), List.map_set]
  rfl
theorem zEs_alen {a : Nat} {vs : List Value} {t : Nat} {r : List Value} (h1 : zat (zmc y) pc = some (.arraylength, nx, k, yy, m, c)) (ha : h[a]? = some (t, vs)) (ht : 100 ≤ t) (g : zEs xs D y nx L (.int (Int32.ofNat vs.length) :: r) h nc ns P) : zEs xs D y pc L (.ref a :: r) h nc ns P := by
  refine zEs_step (dc := 0) (ds := 0) h1 ?_ g
  show zalen xs nx L (.ref a :: r) h = _
  unfold zalen
  dsimp only
  rw [ha]
  exact if_pos ht
theorem zEs_get {a kd : Nat} {t : Nat} {vs : List Value} {v : Value} {r : List Value} {j : Nat} (h1 : zat (zmc y) pc = some (.getfield j, nx, k, yy, m, c)) (ha : h[a]? = some (t, vs)) (hf : (zcf t)[k]? = some (yy, kd)) (hv : vs[k]? = some v) (g : zEs xs D y nx L (v :: r) h nc ns P) : zEs xs D y pc L (.ref a :: r) h nc ns P := by
  refine zEs_step (dc := 0) (ds := 0) h1 ?_ g
  show zget zcf yy k nx L (.ref a :: r) h = _
  unfold zget
  dsimp only
  rw [ha]
  dsimp only
  rw [hf]
  dsimp only
  rw [if_pos rfl, hv]
  rfl
end ZS
/-! Int32 facts. -/
theorem zlt_z {x y : Int32} (h : x < y) : x.toInt < y.toInt := Int32.lt_iff_toInt_lt.mp h
theorem znl_z {x y : Int32} (h : ¬ y ≤ x) : x.toInt < y.toInt := zlt_z (Int32.not_le.mp h)
theorem zinc_z {x y : Int32} (h : x < y) : (x + Int32.ofInt 1).toInt = x.toInt + 1 := by
  have h1 := zlt_z h
  have h2 := Int32.toInt_lt y
  have h3 := Int32.le_toInt x
  rw [Int32.toInt_add, Int32.toInt_ofInt]
  have e : (1 : Int).bmod Int32.size = 1 := by decide
  rw [e, Int.bmod_def]
  omega
theorem zdec {x y : Int32} (h : ¬ y ≤ x) : (y.toInt - (x + Int32.ofInt 1).toInt).toNat < (y.toInt - x.toInt).toNat := by
  have h := Int32.not_le.mp h
  have h1 := zlt_z h
  rw [zinc_z h]
  omega
/-- what Ints.get tells -/
def zgt (l : List Int32) (i : Int32) : Int32 := if i < 0 then 0 else l.getD i.toNatClampNeg 0
def zst (l : List Int32) (i v : Int32) : List Int32 := if i < 0 then l else l.set i.toNatClampNeg v
theorem zst_len (l : List Int32) (i v : Int32) : (zst l i v).length = l.length := by
  unfold zst
  split <;> simp
theorem zle_len {i : Int32} {n : Nat} (hn : n < 2147483648) (h0 : ¬ i < 0) : Int32.ofNat n ≤ i ↔ n ≤ i.toNatClampNeg := by
  have h0 := Int32.not_lt.mp h0
  have h1 := Int32.le_iff_toInt_le.mp h0
  have e : (0 : Int32).toInt = 0 := by decide
  rw [e] at h1
  rw [Int32.le_iff_toInt_le, Int32.toInt_ofNat_of_lt (by omega)]
  show (n : Int) ≤ i.toInt ↔ n ≤ i.toInt.toNat
  omega
section ZI
variable {xs : List Int32} {D : Nat} {h : zH} {nc ns r q : Nat} {l : List Int32} {i v : Int32}
theorem m_25 (hr : h[r]? = some (2, [.ref q])) (hq : h[q]? = some (zar l)) (hl : l.length < 2147483648) : zMs xs D 25 [.ref r, .int i] h nc ns (fun o => o = (.inl (some (.int (zgt l i))), h, nc, ns)) := by
  refine ⟨_, rfl, ?_⟩
  refine zEs_run 1 rfl ?_
  refine zEs_if rfl (fun g => ?_) (fun g => ?_)
  · have g : i < 0 := g
    refine zEs_run 1 rfl (zEs_end rfl rfl ?_)
    unfold zgt
    rw [if_pos g]
    rfl
  · have g : ¬ i < 0 := g
    refine zEs_run 2 rfl ?_
    refine zEs_get rfl hr rfl rfl ?_
    refine zEs_alen rfl hq (by decide) ?_
    rw [List.length_map]
    refine zEs_icmp rfl (fun g1 => ?_) (fun g1 => ?_)
    · have g1 := (zle_len hl g).mp g1
      refine zEs_run 1 rfl (zEs_end rfl rfl ?_)
      unfold zgt
      rw [if_neg g, List.getD_eq_getElem?_getD, List.getElem?_eq_none g1]
      rfl
    · have g1 : ¬ l.length ≤ i.toNatClampNeg := fun z => g1 ((zle_len hl g).mpr z)
      obtain ⟨w, hw⟩ : ∃ w, l[i.toNatClampNeg]? = some w := ⟨_, List.getElem?_eq_getElem (by omega)⟩
      refine zEs_run 1 rfl ?_
      refine zEs_get rfl hr rfl rfl ?_
      refine zEs_run 1 rfl ?_
      refine zEs_ald rfl hq g hw ?_
      refine zEs_run 1 rfl (zEs_end rfl rfl ?_)
      unfold zgt
      rw [if_neg g, List.getD_eq_getElem?_getD, hw]
      rfl
theorem m_26 (hr : h[r]? = some (2, [.ref q])) (hq : h[q]? = some (zar l)) (hl : l.length < 2147483648) : zMs xs D 26 [.ref r, .int i, .int v] h nc ns (fun o => o = (.inl none, h.set q (zar (zst l i v)), nc, ns)) := by
  have hsame : h.set q (zar l) = h := by
    refine List.ext_getElem? (fun j => ?_)
    by_cases e : j = q
    · subst e
      rw [List.getElem?_set_self (List.getElem?_eq_some_iff.mp hq).1, hq]
    · rw [List.getElem?_set_ne (fun z => e z.symm)]
  refine ⟨_, rfl, ?_⟩
  refine zEs_run 1 rfl ?_
  refine zEs_if rfl (fun g => ?_) (fun g => ?_)
  · have g : i < 0 := g
    refine zEs_end rfl rfl ?_
    unfold zst
    rw [if_pos g, hsame]
    rfl
  · have g : ¬ i < 0 := g
    refine zEs_run 2 rfl ?_
    refine zEs_get rfl hr rfl rfl ?_
    refine zEs_alen rfl hq (by decide) ?_
    rw [List.length_map]
    refine zEs_icmp rfl (fun g1 => ?_) (fun g1 => ?_)
    · have g1 := (zle_len hl g).mp g1
      refine zEs_end rfl rfl ?_
      unfold zst
      rw [if_neg g, List.set_eq_of_length_le g1, hsame]
      rfl
    · have g1 : ¬ l.length ≤ i.toNatClampNeg := fun z => g1 ((zle_len hl g).mpr z)
      refine zEs_run 1 rfl ?_
      refine zEs_get rfl hr rfl rfl ?_
      refine zEs_run 2 rfl ?_
      refine zEs_ast rfl hq g (by omega) ?_
      refine zEs_end rfl rfl ?_
      unfold zst
      rw [if_neg g]
      rfl
theorem zne_rq {h : zH} {r q : Nat} {l : List Int32} (hr : h[r]? = some (2, [.ref q])) (hq : h[q]? = some (zar l)) : ¬ q = r := by
  intro e
  subst e
  rw [hr] at hq
  cases hq
theorem zset_q {h : zH} {q : Nat} {l l' : List Int32} (hq : h[q]? = some (zar l)) : (h.set q (zar l'))[q]? = some (zar l') := List.getElem?_set_self (List.getElem?_eq_some_iff.mp hq).1
theorem zset_r {h : zH} {r q : Nat} {x : List Value} {l' : List Int32} (e : ¬ q = r) (hr : h[r]? = some (2, x)) : (h.set q (zar l'))[r]? = some (2, x) := by rw [List.getElem?_set_ne e]; exact hr
theorem zset_2 {h : zH} {q : Nat} {l' l2 : List Int32} : (h.set q (zar l')).set q (zar l2) = h.set q (zar l2) := List.set_set ..
theorem zset_id {h : zH} {q : Nat} {c : Nat × List Value} (hq : h[q]? = some c) : h.set q c = h := by
  refine List.ext_getElem? (fun j => ?_)
  by_cases e : j = q
  · subst e
    rw [List.getElem?_set_self (List.getElem?_eq_some_iff.mp hq).1, hq]
  · rw [List.getElem?_set_ne (fun z => e z.symm)]
theorem zinc_nn {x y : Int32} (h0 : ¬ x < 0) (h : ¬ y ≤ x) : ¬ x + Int32.ofInt 1 < 0 := by
  intro g
  have h1 := zlt_z g
  rw [zinc_z (Int32.not_le.mp h)] at h1
  have h2 := Int32.le_iff_toInt_le.mp (Int32.not_lt.mp h0)
  have e : (0 : Int32).toInt = 0 := by decide
  rw [e] at h1 h2
  omega
theorem l_27 (hr : h[r]? = some (2, [.ref q])) (hq : h[q]? = some (zar l)) (hl : l.length < 2147483648) : ∀ (n : Nat) (i : Int32) (l' : List Int32), l'.length = l.length → ¬ i < 0 → ((Int32.ofNat l.length).toInt - i.toInt).toNat < n → zEs xs D 27 2 [some (.ref r), some (.int v), some (.int i)] [] (h.set q (zar l')) nc ns (fun o => ∃ l2, l2.length = l.length ∧ o = (.inl none, h.set q (zar l2), nc, ns))
  | 0, i, l', e, h0, hn => by omega
  | n + 1, i, l', e, h0, hn => by
    have hrq := zne_rq hr hq
    refine zEs_run 2 rfl ?_
    refine zEs_get rfl (zset_r hrq hr) rfl rfl ?_
    refine zEs_alen rfl (zset_q hq) (by decide) ?_
    rw [List.length_map, e]
    refine zEs_icmp rfl (fun g1 => ?_) (fun g1 => ?_)
    · exact zEs_end rfl rfl ⟨l', e, rfl⟩
    · have g1 : ¬ Int32.ofNat l.length ≤ i := g1
      have g2 : ¬ l.length ≤ i.toNatClampNeg := fun z => g1 ((zle_len hl h0).mpr z)
      refine zEs_run 1 rfl ?_
      refine zEs_get rfl (zset_r hrq hr) rfl rfl ?_
      refine zEs_run 2 rfl ?_
      refine zEs_ast rfl (zset_q hq) h0 (by omega) ?_
      refine zEs_run 2 rfl ?_
      rw [show ((100 : Nat), (l'.set i.toNatClampNeg v).map Value.int) = zar (l'.set i.toNatClampNeg v) from rfl, zset_2]
      exact l_27 hr hq hl n _ _ (by simp [e]) (zinc_nn h0 g1) (Nat.lt_of_lt_of_le (zdec g1) (by omega))
theorem m_27 (hr : h[r]? = some (2, [.ref q])) (hq : h[q]? = some (zar l)) (hl : l.length < 2147483648) : zMs xs D 27 [.ref r, .int v] h nc ns (fun o => ∃ l2, l2.length = l.length ∧ o = (.inl none, h.set q (zar l2), nc, ns)) := by
  refine ⟨_, rfl, ?_⟩
  refine zEs_run 2 rfl ?_
  have g := l_27 (xs := xs) (D := D) (nc := nc) (ns := ns) (v := v) hr hq hl _ (Int32.ofInt 0) l rfl (by decide) (Nat.lt_succ_self _)
  rw [zset_id hq] at g
  exact g
theorem l_28 (hr : h[r]? = some (2, [.ref q])) (hq : h[q]? = some (zar l)) (hl : l.length < 2147483648) : ∀ (n : Nat) (i w : Int32), ¬ i < 0 → ((Int32.ofNat l.length).toInt - i.toInt).toNat < n → zEs xs D 28 4 [some (.ref r), some (.int w), some (.int i)] [] h nc ns (fun o => ∃ v, o = (.inl (some (.int v)), h, nc, ns))
  | 0, i, w, h0, hn => by omega
  | n + 1, i, w, h0, hn => by
    refine zEs_run 2 rfl ?_
    refine zEs_get rfl hr rfl rfl ?_
    refine zEs_alen rfl hq (by decide) ?_
    rw [List.length_map]
    refine zEs_icmp rfl (fun g1 => ?_) (fun g1 => ?_)
    · exact zEs_run 1 rfl (zEs_end rfl rfl ⟨_, rfl⟩)
    · have g1 : ¬ Int32.ofNat l.length ≤ i := g1
      have g2 : ¬ l.length ≤ i.toNatClampNeg := fun z => g1 ((zle_len hl h0).mpr z)
      obtain ⟨w2, hw⟩ : ∃ w, l[i.toNatClampNeg]? = some w := ⟨_, List.getElem?_eq_getElem (by omega)⟩
      refine zEs_run 2 rfl ?_
      refine zEs_get rfl hr rfl rfl ?_
      refine zEs_run 1 rfl ?_
      refine zEs_ald rfl hq h0 hw ?_
      refine zEs_run 4 rfl ?_
      exact l_28 hr hq hl n _ _ (zinc_nn h0 g1) (Nat.lt_of_lt_of_le (zdec g1) (by omega))
theorem m_28 (hr : h[r]? = some (2, [.ref q])) (hq : h[q]? = some (zar l)) (hl : l.length < 2147483648) : zMs xs D 28 [.ref r] h nc ns (fun o => ∃ v, o = (.inl (some (.int v)), h, nc, ns)) := by
  refine ⟨_, rfl, ?_⟩
  refine zEs_run 4 rfl ?_
  exact l_28 hr hq hl _ _ _ (by decide) (Nat.lt_succ_self _)
set_option maxRecDepth 20000 in
theorem m_229 : zMs xs D 229 [.int v] h nc ns (fun o => ∃ v, o = (.inl (some (.int v)), h, nc, ns)) := by
  refine ⟨_, rfl, ?_⟩
  refine zEs_run 41 rfl ?_
  exact zEs_end rfl rfl ⟨_, rfl⟩
end ZI
