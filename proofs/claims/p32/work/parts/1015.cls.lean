/-! The class's objects: what a method may change, and what comes of it. -/
def zaL (a : Nat → List Int32) : Prop := ∀ k, (a k).length < 2147483648
def zfr (W V : List Nat) (s : Nat → Int32) (a : Nat → List Int32) (s' : Nat → Int32) (a' : Nat → List Int32) : Prop := (∀ k, k ∉ W → s' k = s k) ∧ (∀ k, k ∉ V → a' k = a k) ∧ zaL a'
section ZFR
variable {W V W' V' : List Nat} {s s1 s2 : Nat → Int32} {a a1 a2 : Nat → List Int32} {k : Nat} {v : Int32} {l : List Int32}
theorem zfr_rf (h : zaL a) : zfr W V s a s a := ⟨fun _ _ => rfl, fun _ _ => rfl, h⟩
theorem zfr_tr (h1 : zfr W V s a s1 a1) (h2 : zfr W V s1 a1 s2 a2) : zfr W V s a s2 a2 := ⟨fun k hk => (h2.1 k hk).trans (h1.1 k hk), fun k hk => (h2.2.1 k hk).trans (h1.2.1 k hk), h2.2.2⟩
theorem zfr_mo (h : zfr W V s a s1 a1) (hW : ∀ k ∈ W, k ∈ W') (hV : ∀ k ∈ V, k ∈ V') : zfr W' V' s a s1 a1 := ⟨fun k hk => h.1 k (fun z => hk (hW k z)), fun k hk => h.2.1 k (fun z => hk (hV k z)), h.2.2⟩
theorem zfr_s (h : zfr W V s a s1 a1) (hk : k ∈ W) : zfr W V s a (zup s1 k v) a1 := ⟨fun j hj => by
  unfold zup
  rw [if_neg (show ¬ j = k from fun e => hj (by rw [e]; exact hk))]
  exact h.1 j hj, h.2⟩
theorem zfr_a (h : zfr W V s a s1 a1) (hk : k ∈ V) (hl : l.length < 2147483648) : zfr W V s a s1 (zup a1 k l) := ⟨h.1, fun j hj => by
  unfold zup
  rw [if_neg (show ¬ j = k from fun e => hj (by rw [e]; exact hk))]
  exact h.2.1 j hj, fun j => by
  unfold zup
  split
  · exact hl
  · exact h.2.2 j⟩
end ZFR
def zRi (v : Option Value) : Prop := ∃ x : Int32, v = some (.int x)
def zRb (v : Option Value) : Prop := ∃ x : Int32, (x = 0 ∨ x = 1) ∧ v = some (.int x)
def zRv (v : Option Value) : Prop := v = none
def zRj (v : Option Value) : Prop := ∃ x : Int64, v = some (.long x)
/-- nothing is changed: a value, or one of the exceptions Es -/
def zPr (R : Option Value → Prop) (Es : List Nat) (h : zH) (nc ns : Nat) : zO → Prop := fun o => (∃ v, R v ∧ o = (.inl v, h, nc, ns)) ∨ ∃ E, E ∈ Es ∧ o = (.inr E, h, nc + 1, ns + 6)
/-- only W, V are changed -/
def zPo (R : Option Value → Prop) (Es : List Nat) (W V : List Nat) (s : Nat → Int32) (a : Nat → List Int32) (T : zH) (nc ns : Nat) : zO → Prop := fun o => (∃ v s' a', R v ∧ zfr W V s a s' a' ∧ o = (.inl v, zx s' a' T, nc, ns)) ∨ ∃ E, E ∈ Es ∧ o = (.inr E, zx s a T, nc + 1, ns + 6)
section ZCR
variable {xs : List Int32} {D y pc nx nx' k yy m c y' : Nat} {i : Instr} {L : zL} {st as r : List Value} {h T : zH} {nc ns : Nat} {P : zO → Prop} {Es W V : List Nat} {s : Nat → Int32} {a : Nat → List Int32}
theorem zEs_cr {R : Option Value → Prop} (e1 : zat (zmc y) pc = some (i, nx, k, yy, m, c)) (e2 : zstep zcf xs pc i nx k yy m c L st h = some (.inr (.inl (y', as, r, nx')))) (e3 : zMs xs D y' as h nc ns (zPr R Es h nc ns)) (hx : ∀ E ∈ Es, zmh y = [] ∧ P (.inr E, h, nc + 1, ns + 6)) (kv : ∀ v, R v → zEs xs (D + 1) y nx' L (v.toList ++ r) h nc ns P) : zEs xs (D + 1) y pc L st h nc ns P := by
  refine zEs_callG e1 e2 e3 (fun v h1 nc1 ns1 g => ?_) (fun E h1 nc1 ns1 g => ?_)
  · rcases g with ⟨v', hv, g⟩ | ⟨E, -, g⟩
    · cases g
      exact kv v hv
    · cases g
  · rcases g with ⟨v', hv, g⟩ | ⟨E, hE, g⟩
    · cases g
    · cases g
      exact Or.inl (hx E hE)
theorem zEs_ci (e1 : zat (zmc y) pc = some (i, nx, k, yy, m, c)) (e2 : zstep zcf xs pc i nx k yy m c L st h = some (.inr (.inl (y', as, r, nx')))) (e3 : zMs xs D y' as h nc ns (zPr zRi Es h nc ns)) (hx : ∀ E ∈ Es, zmh y = [] ∧ P (.inr E, h, nc + 1, ns + 6)) (kv : ∀ x : Int32, zEs xs (D + 1) y nx' L (.int x :: r) h nc ns P) : zEs xs (D + 1) y pc L st h nc ns P :=
  zEs_cr e1 e2 e3 hx (fun v hv => by obtain ⟨x, rfl⟩ := hv; exact kv x)
theorem zEs_cb (e1 : zat (zmc y) pc = some (i, nx, k, yy, m, c)) (e2 : zstep zcf xs pc i nx k yy m c L st h = some (.inr (.inl (y', as, r, nx')))) (e3 : zMs xs D y' as h nc ns (zPr zRb Es h nc ns)) (hx : ∀ E ∈ Es, zmh y = [] ∧ P (.inr E, h, nc + 1, ns + 6)) (kv : ∀ x : Int32, (x = 0 ∨ x = 1) → zEs xs (D + 1) y nx' L (.int x :: r) h nc ns P) : zEs xs (D + 1) y pc L st h nc ns P :=
  zEs_cr e1 e2 e3 hx (fun v hv => by obtain ⟨x, hx, rfl⟩ := hv; exact kv x hx)
theorem zEs_cj (e1 : zat (zmc y) pc = some (i, nx, k, yy, m, c)) (e2 : zstep zcf xs pc i nx k yy m c L st h = some (.inr (.inl (y', as, r, nx')))) (e3 : zMs xs D y' as h nc ns (zPr zRj Es h nc ns)) (hx : ∀ E ∈ Es, zmh y = [] ∧ P (.inr E, h, nc + 1, ns + 6)) (kv : ∀ x : Int64, zEs xs (D + 1) y nx' L (.long x :: r) h nc ns P) : zEs xs (D + 1) y pc L st h nc ns P :=
  zEs_cr e1 e2 e3 hx (fun v hv => by obtain ⟨x, rfl⟩ := hv; exact kv x)
theorem zEs_cv (e1 : zat (zmc y) pc = some (i, nx, k, yy, m, c)) (e2 : zstep zcf xs pc i nx k yy m c L st h = some (.inr (.inl (y', as, r, nx')))) (e3 : zMs xs D y' as h nc ns (zPr zRv Es h nc ns)) (hx : ∀ E ∈ Es, zmh y = [] ∧ P (.inr E, h, nc + 1, ns + 6)) (kv : zEs xs (D + 1) y nx' L r h nc ns P) : zEs xs (D + 1) y pc L st h nc ns P :=
  zEs_cr e1 e2 e3 hx (fun v hv => by cases (show v = none from hv); exact kv)
theorem zEs_wr {R : Option Value → Prop} (e1 : zat (zmc y) pc = some (i, nx, k, yy, m, c)) (e2 : zstep zcf xs pc i nx k yy m c L st (zx s a T) = some (.inr (.inl (y', as, r, nx')))) (e3 : zMs xs D y' as (zx s a T) nc ns (zPo R Es W V s a T nc ns)) (hx : ∀ E ∈ Es, zmh y = [] ∧ P (.inr E, zx s a T, nc + 1, ns + 6)) (kv : ∀ v s' a', R v → zfr W V s a s' a' → zEs xs (D + 1) y nx' L (v.toList ++ r) (zx s' a' T) nc ns P) : zEs xs (D + 1) y pc L st (zx s a T) nc ns P := by
  refine zEs_callG e1 e2 e3 (fun v h1 nc1 ns1 g => ?_) (fun E h1 nc1 ns1 g => ?_)
  · rcases g with ⟨v', s', a', hv, hf, g⟩ | ⟨E, -, g⟩
    · cases g
      exact kv v s' a' hv hf
    · cases g
  · rcases g with ⟨v', s', a', hv, hf, g⟩ | ⟨E, hE, g⟩
    · cases g
    · cases g
      exact Or.inl (hx E hE)
theorem zEs_wi (e1 : zat (zmc y) pc = some (i, nx, k, yy, m, c)) (e2 : zstep zcf xs pc i nx k yy m c L st (zx s a T) = some (.inr (.inl (y', as, r, nx')))) (e3 : zMs xs D y' as (zx s a T) nc ns (zPo zRi Es W V s a T nc ns)) (hx : ∀ E ∈ Es, zmh y = [] ∧ P (.inr E, zx s a T, nc + 1, ns + 6)) (kv : ∀ (x : Int32) s' a', zfr W V s a s' a' → zEs xs (D + 1) y nx' L (.int x :: r) (zx s' a' T) nc ns P) : zEs xs (D + 1) y pc L st (zx s a T) nc ns P :=
  zEs_wr e1 e2 e3 hx (fun v s' a' hv hf => by obtain ⟨x, rfl⟩ := hv; exact kv x s' a' hf)
theorem zEs_wv (e1 : zat (zmc y) pc = some (i, nx, k, yy, m, c)) (e2 : zstep zcf xs pc i nx k yy m c L st (zx s a T) = some (.inr (.inl (y', as, r, nx')))) (e3 : zMs xs D y' as (zx s a T) nc ns (zPo zRv Es W V s a T nc ns)) (hx : ∀ E ∈ Es, zmh y = [] ∧ P (.inr E, zx s a T, nc + 1, ns + 6)) (kv : ∀ s' a', zfr W V s a s' a' → zEs xs (D + 1) y nx' L r (zx s' a' T) nc ns P) : zEs xs (D + 1) y pc L st (zx s a T) nc ns P :=
  zEs_wr e1 e2 e3 hx (fun v s' a' hv hf => by cases (show v = none from hv); exact kv s' a' hf)
/-- the class's int rows -/
theorem x_25 (k q r0 : Nat) {j : Int32} (hr : (zx s a T)[r0]? = some (2, [.ref q])) (hq : (zx s a T)[q]? = some (zar (a k))) (hL : zaL a) : zMs xs D 25 [.ref r0, .int j] (zx s a T) nc ns (zPr zRi [] (zx s a T) nc ns) := by
  obtain ⟨L0, g1, g2⟩ := m_25 (xs := xs) (D := D) (nc := nc) (ns := ns) (i := j) hr hq (hL k)
  exact ⟨L0, g1, zEs_post g2 (fun o ho => Or.inl ⟨_, ⟨_, rfl⟩, ho⟩)⟩
theorem x_28 (k q r0 : Nat) (hr : (zx s a T)[r0]? = some (2, [.ref q])) (hq : (zx s a T)[q]? = some (zar (a k))) (hL : zaL a) : zMs xs D 28 [.ref r0] (zx s a T) nc ns (zPr zRi [] (zx s a T) nc ns) := by
  obtain ⟨L0, g1, g2⟩ := m_28 (xs := xs) (D := D) (nc := nc) (ns := ns) hr hq (hL k)
  exact ⟨L0, g1, zEs_post g2 (fun o ho => by obtain ⟨v, rfl⟩ := ho; exact Or.inl ⟨_, ⟨_, rfl⟩, rfl⟩)⟩
theorem x_26 (k q r0 : Nat) {j v : Int32} (hr : (zx s a T)[r0]? = some (2, [.ref q])) (hq : (zx s a T)[q]? = some (zar (a k))) (hs : ∀ l, (zx s a T).set q (zar l) = zx s (zup a k l) T) (hL : zaL a) : zMs xs D 26 [.ref r0, .int j, .int v] (zx s a T) nc ns (zPo zRv [] [] [k] s a T nc ns) := by
  obtain ⟨L0, g1, g2⟩ := m_26 (xs := xs) (D := D) (nc := nc) (ns := ns) (i := j) (v := v) hr hq (hL k)
  refine ⟨L0, g1, zEs_post g2 (fun o ho => Or.inl ⟨_, s, zup a k (zst (a k) j v), rfl, zfr_a (zfr_rf hL) List.mem_cons_self (by rw [zst_len]; exact hL k), ?_⟩)⟩
  rw [ho, hs]
theorem x_27 (k q r0 : Nat) {v : Int32} (hr : (zx s a T)[r0]? = some (2, [.ref q])) (hq : (zx s a T)[q]? = some (zar (a k))) (hs : ∀ l, (zx s a T).set q (zar l) = zx s (zup a k l) T) (hL : zaL a) : zMs xs D 27 [.ref r0, .int v] (zx s a T) nc ns (zPo zRv [] [] [k] s a T nc ns) := by
  obtain ⟨L0, g1, g2⟩ := m_27 (xs := xs) (D := D) (nc := nc) (ns := ns) (v := v) hr hq (hL k)
  refine ⟨L0, g1, zEs_post g2 (fun o ho => ?_)⟩
  obtain ⟨l2, e, rfl⟩ := ho
  exact Or.inl ⟨_, s, zup a k l2, rfl, zfr_a (zfr_rf hL) List.mem_cons_self (by rw [e]; exact hL k), by rw [hs]⟩
theorem x_229 {v : Int32} : zMs xs D 229 [.int v] h nc ns (zPr zRi [] h nc ns) := by
  obtain ⟨L0, g1, g2⟩ := m_229 (xs := xs) (D := D) (nc := nc) (ns := ns) (h := h) (v := v)
  exact ⟨L0, g1, zEs_post g2 (fun o ho => by obtain ⟨v, rfl⟩ := ho; exact Or.inl ⟨_, ⟨_, rfl⟩, rfl⟩)⟩
/-- switches: every place that the table names -/
theorem zEs_tab {d lo hi : Int} {offs : Array Int} {x : Int32} (ts : List Nat) (h1 : zat (zmc y) pc = some (.tableswitch d lo hi offs, nx, k, yy, m, c)) (ht : (d :: offs.toList).all (fun o => match (pc : Int) + o with
  | .ofNat t => ts.contains t
  | .negSucc _ => false) = true) (hl : offs.size = (hi + 1 - lo).toNat) (kk : ∀ t ∈ ts, zEs xs D y t L r h nc ns P) : zEs xs D y pc L (.int x :: r) h nc ns P := by
  have key : ∀ o, o ∈ d :: offs.toList → ∃ t, t ∈ ts ∧ zoff pc o L r h = zgo t L r h := by
    intro o ho
    have g := List.all_eq_true.mp ht o ho
    unfold zoff
    split at g
    · next t e =>
      rw [e]
      exact ⟨t, List.contains_iff_mem.mp g, rfl⟩
    · cases g
  by_cases q : x.toInt < lo ∨ hi < x.toInt
  · obtain ⟨t, g1, g2⟩ := key d List.mem_cons_self
    refine zEs_step (dc := 0) (ds := 0) h1 ?_ (kk t g1)
    exact (if_pos q).trans g2
  · have hlt : (x.toInt - lo).toNat < offs.size := by omega
    obtain ⟨t, g1, g2⟩ := key offs[(x.toInt - lo).toNat] (List.mem_cons_of_mem _ (by simp))
    refine zEs_step (dc := 0) (ds := 0) h1 ?_ (kk t g1)
    refine (if_neg q).trans ?_
    rw [Array.getElem?_eq_getElem hlt]
    exact g2
theorem zEs_bret {x : Int32} (h1 : zat (zmc y) pc = some (.ireturn, nx, 1, yy, m, c)) (hx : x = 0 ∨ x = 1) (h3 : P (.inl (some (.int x)), h, nc, ns)) : zEs xs D y pc L [.int x] h nc ns P :=
  zEs_end (dc := 0) (ds := 0) h1 (show (if (1 : Nat) = 0 ∨ ((1 : Nat) = 1 ∧ (x = 0 ∨ x = 1)) ∨ ((1 : Nat) = 2 ∧ 0 ≤ x ∧ x ≤ 255) then zret (some (.int x)) else none) = _ from if_pos (Or.inr (Or.inl ⟨rfl, hx⟩))) h3
end ZCR
/-- loops that count up to a bound that is reached -/
theorem zdec_le {x y b : Int32} {n : Int} (h : ¬ y < x) (hb : y.toInt ≤ b.toInt) (hb2 : b.toInt < 2147483000) (hn : 0 < n) (hn2 : n < 100) : (b.toInt + 1 - (x + Int32.ofInt n).toInt).toNat < (b.toInt + 1 - x.toInt).toNat := by
  have h1 := Int32.le_iff_toInt_le.mp (Int32.not_lt.mp h)
  have h3 := Int32.le_toInt x
  rw [Int32.toInt_add, Int32.toInt_ofInt]
  have e : n.bmod Int32.size = n := by
    rw [Int.bmod_def, show ((Int32.size : Nat) : Int) = 4294967296 from rfl]
    split <;> omega
  rw [e, Int.bmod_def]
  split <;> omega
