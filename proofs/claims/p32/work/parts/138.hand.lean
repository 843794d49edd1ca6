/-! The reference's methods, by hand: rules; note, open-up of a line. -/
def ce_note : List zCe := [(0, [(.inl 22)], (0, 0), [(.inr (.inr (.inl (44, 44)))), zIA, zIA], []),
  (1, [(.inl 21)], (0, 0), [(.inr (.inr (.inl (44, 44)))), zIA, zIA], [(.inr (.inr (.inl (44, 44))))]),
  (2, [(.inl 20)], (0, 0), [(.inr (.inr (.inl (44, 44)))), zIA, zIA], [(.inr (.inr (.inl (44, 44)))), (.inr (.inr (.inl (44, 44))))]),
  (5, [(.inl 19)], (0, 0), [(.inr (.inr (.inl (44, 44)))), zIA, zIA], [zIA, (.inr (.inr (.inl (44, 44))))]),
  (6, [(.inl 18)], (0, 0), [(.inr (.inr (.inl (44, 44)))), zIA, zIA], [(.inl ((-2147483648), 2147483647, 0, 3)), zIA, (.inr (.inr (.inl (44, 44))))]),
  (7, [(.inl 17)], (0, 0), [(.inr (.inr (.inl (44, 44)))), zIA, zIA], [(.inl ((-1), (-1), 0, 0)), (.inl ((-2147483648), 2147483647, 0, 3)), zIA, (.inr (.inr (.inl (44, 44))))]),
  (10, [(.inl 16)], (0, 0), [(.inr (.inr (.inl (44, 44)))), zIA, (.inl ((-1), (-1), 0, 0))], [zIA, (.inr (.inr (.inl (44, 44))))]),
  (11, [(.inl 15)], (0, 0), [(.inr (.inr (.inl (44, 44)))), zIA, (.inl ((-1), (-1), 0, 0))], [(.inl (0, 0, 0, 0)), zIA, (.inr (.inr (.inl (44, 44))))]),
  (14, [(.inl 14)], (0, 0), [(.inr (.inr (.inl (44, 44)))), zIA, zIA], [zIA, (.inr (.inr (.inl (44, 44))))]),
  (15, [(.inl 13)], (0, 0), [(.inr (.inr (.inl (44, 44)))), zIA, zIA], [(.inl (0, 1, 0, 0)), zIA, (.inr (.inr (.inl (44, 44))))]),
  (16, [(.inl 12)], (0, 0), [(.inr (.inr (.inl (44, 44)))), zIA, zIA], [zIA, (.inr (.inr (.inl (44, 44))))]),
  (19, [(.inl 11)], (0, 0), [(.inr (.inr (.inl (44, 44)))), zIA, zIA], []),
  (20, [(.inl 10)], (0, 0), [(.inr (.inr (.inl (44, 44)))), zIA, zIA], [(.inr (.inr (.inl (44, 44))))]),
  (21, [(.inl 9)], (0, 0), [(.inr (.inr (.inl (44, 44)))), zIA, zIA], [(.inr (.inr (.inl (44, 44)))), (.inr (.inr (.inl (44, 44))))]),
  (24, [(.inl 8)], (0, 0), [(.inr (.inr (.inl (44, 44)))), zIA, zIA], [zIA, (.inr (.inr (.inl (44, 44))))]),
  (25, [(.inl 7)], (0, 0), [(.inr (.inr (.inl (44, 44)))), zIA, zIA], [(.inl ((-2147483648), 2147483647, 0, 3)), zIA, (.inr (.inr (.inl (44, 44))))]),
  (26, [(.inl 6)], (0, 0), [(.inr (.inr (.inl (44, 44)))), zIA, zIA], [(.inl ((-1), (-1), 0, 0)), (.inl ((-2147483648), 2147483647, 0, 3)), zIA, (.inr (.inr (.inl (44, 44))))]),
  (29, [(.inl 5)], (0, 0), [(.inr (.inr (.inl (44, 44)))), zIA, (.inl ((-1), (-1), 0, 0))], [zIA, (.inr (.inr (.inl (44, 44))))]),
  (30, [(.inl 4)], (0, 0), [(.inr (.inr (.inl (44, 44)))), zIA, (.inl ((-1), (-1), 0, 0))], [(.inl (1, 1, 0, 0)), zIA, (.inr (.inr (.inl (44, 44))))]),
  (33, [(.inl 3)], (0, 0), [(.inr (.inr (.inl (44, 44)))), zIA, zIA], [zIA, (.inr (.inr (.inl (44, 44))))]),
  (34, [(.inl 2)], (0, 0), [(.inr (.inr (.inl (44, 44)))), zIA, zIA], [(.inl (0, 1, 0, 0)), zIA, (.inr (.inr (.inl (44, 44))))]),
  (35, [(.inl 1)], (0, 0), [(.inr (.inr (.inl (44, 44)))), zIA, zIA], [zIA, (.inr (.inr (.inl (44, 44))))]),
  (38, [(.inl 0)], (0, 0), [(.inr (.inr (.inl (44, 44)))), zIA, zIA], [])]
def cs_note : List zCt := []
theorem gs_note {xs : List Int32} : ∀ ct ∈ cs_note, zGd xs ct := fun _ h => absurd h List.not_mem_nil
def ct_130 : zCt := (130, [(.inr (.inr (.inl (44, 44)))), zIA, zIA], none, 10, 0, 0)
section ZHB
variable {xs : List Int32} {g : zG} {lg : Nat} {h : zH} {D nc ns y pc nx k yy m c nx' : Nat} {A S : List zTy} {L : zL} {st as r : List Value} {P : zO → Prop} {i : Instr} {t : zTy} {a b : Int} {tt s q j : Nat}
theorem zgl_P (k : zgl g lg h ((.inr (.inr (.inl (q, q)))) :: A) L) : ∃ L', L = some (.ref q) :: L' ∧ zgl g lg h A L' := by
  match L, k with
  | o :: L', k =>
    rcases k.1 with e | ⟨v, rfl, e⟩
    · cases e
    · obtain rfl := zP_eq e
      exact ⟨L', rfl, k.2⟩
  | [], k => exact k.elim
theorem zgl_I (k : zgl g lg h ((.inl (a, b, tt, s)) :: A) L) : ∃ (x : Int32) (L' : zL), L = some (.int x) :: L' ∧ a ≤ x.toInt ∧ x.toInt ≤ b ∧ zgl g lg h A L' := by
  match L, k with
  | o :: L', k =>
    rcases k.1 with e | ⟨v, rfl, e⟩
    · cases e
    · obtain ⟨x, rfl, e1, e2, -⟩ := e
      exact ⟨x, L', rfl, e1, e2, k.2⟩
  | [], k => exact k.elim
theorem zgl_N (k : zgl g lg h ((.inr (.inr (.inr 0))) :: A) L) : ∃ (o : Option Value) (L' : zL), L = o :: L' ∧ zgl g lg h A L' := by
  match L, k with
  | o :: L', k => exact ⟨o, L', rfl, k.2⟩
  | [], k => exact k.elim
theorem zgl_0 (k : zgl g lg h [] L) : L = [] := by
  match L, k with
  | o :: L', k => exact k.elim
  | [], k => rfl
theorem zgs_P (k : zgs g lg h L ((.inr (.inr (.inl (q, q)))) :: S) st) : ∃ st', st = .ref q :: st' ∧ zgs g lg h L S st' := by
  match st, k with
  | v :: s, k =>
    obtain rfl := zP_eq k.1
    exact ⟨s, rfl, k.2⟩
  | [], k => exact k.elim
theorem zgs_I (k : zgs g lg h L ((.inl (a, b, tt, s)) :: S) st) : ∃ (x : Int32) (st' : List Value), st = .int x :: st' ∧ a ≤ x.toInt ∧ x.toInt ≤ b ∧ zgs g lg h L S st' := by
  match st, k with
  | v :: s, k =>
    obtain ⟨x, rfl, e1, e2, -⟩ := k.1
    exact ⟨x, s, rfl, e1, e2, k.2⟩
  | [], k => exact k.elim
theorem zgs_0 (k : zgs g lg h L [] st) : st = [] := by
  match st, k with
  | o :: L', k => exact k.elim
  | [], k => rfl
/-- a call of a method with a contract -/
theorem zEs_ctr {ct : zCt} (hct : zGd xs ct) (e1 : zat (zmc y) pc = some (i, nx, k, yy, m, c)) (e2 : zstep zcf xs pc i nx k yy m c L st h = some (.inr (.inl (ct.y, as, r, nx')))) (hd : ct.dep ≤ D) (hI : zHI g lg h) (hS : zgs g lg h [] ct.as as)
    (kv : ∀ v h' lg' nc' ns', zgo2 g lg' h' (as.map some) ct.rt v → zHI g lg' h' → zLE h h' → lg ≤ lg' → nc' + 2 * lg ≤ nc + 2 * lg' + ct.dc → ns' + 100 * lg ≤ ns + 100 * lg' + ct.ds → zEs xs (D + 1) y nx' L (v.toList ++ r) h' nc' ns' P) : zEs xs (D + 1) y pc L st h nc ns P := by
  refine zEs_callG e1 e2 (zMs_mono hd (hct g lg h nc ns as hI hS)) (fun v h1 nc1 ns1 w => ?_) (fun E h1 nc1 ns1 w => ?_)
  · obtain ⟨v', h', lg', nc', ns', e, b1, b2, b3, b4, b5, b6⟩ := w
    cases e
    exact kv _ _ _ _ _ b1 b2 b3 b4 b5 b6
  · obtain ⟨v', h', lg', nc', ns', e, -⟩ := w
    cases e
/-- a row that was made just now -/
theorem zEs_astF {l : List Int32} {v : Int32} {n : Nat} (h1 : zat (zmc y) pc = some (.iastore, nx, k, yy, m, c)) (hn : n < l.length) (hn2 : n < 1000) (g : zEs xs D y nx L r (h ++ [zar (l.set n v)]) nc ns P) : zEs xs D y pc L (.int v :: .int (Int32.ofNat n) :: .ref h.length :: r) (h ++ [zar l]) nc ns P := by
  obtain ⟨p1, p2⟩ := zof_n (n := n) (by omega)
  refine zEs_ast h1 (l := l) (by rw [List.getElem?_append_right (Nat.le_refl _), Nat.sub_self]; rfl) p1 (by rw [p2]; exact hn) ?_
  rw [p2, zset_app1]
  exact g
theorem zrow10 (hI : zHI g lg h) (hj : j < g.nl) : ∃ ws, h[g.p j]? = some (10, ws) := by
  obtain ⟨dq, es, k1, -⟩ := zls_of hI hj
  obtain ⟨a, b, z⟩ := zLs_size k1
  exact ⟨_, z⟩
theorem zfld {vs : List Value} {k : Nat} (m3 : ∀ k, k < 26 → ∃ v, vs[k]? = some v ∧ zga g lg h [] (zfs k) v) (hk : k < 26) (e : zfs k = (.inr (.inr (.inl (q, q))))) : vs[k]? = some (.ref q) := by
  obtain ⟨v, k1, k2⟩ := m3 k hk
  rw [e] at k2
  obtain rfl := zP_eq k2
  exact k1
theorem zfldL {vs : List Value} {k : Nat} (m3 : ∀ k, k < 26 → ∃ v, vs[k]? = some v ∧ zga g lg h [] (zfs k) v) (hk : k < 26) (e : zfs k = (.inr (.inr (.inr (j + 8))))) : vs[k]? = some (.ref (g.p j)) := by
  obtain ⟨v, k1, k2⟩ := m3 k hk
  rw [e] at k2
  obtain rfl := (show v = _ from k2)
  exact k1
end ZHB
