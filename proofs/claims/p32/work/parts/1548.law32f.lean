/-! The two objects as they are made, and the whole law. -/
set_option maxRecDepth 20000
section ZNW2
variable {xs : List Int32} {P : zO → Prop} {D nc ns : Nat} {A B : zSt} {M : zRt} {s : Nat → Int32} {a : Nat → List Int32}
def zPb (nc ns : Nat) : zO → Prop := fun o => ∃ h' nc' ns', o = (.inl (some (.int 1)), h', nc', ns') ∧ nc' ≤ nc ∧ ns' ≤ ns
def zMst9 : zRt := (zMini.1, fun j => if j = 22 then zr22 else zMini.2.1 j, zMini.2.2)
theorem zrp0 {n : Nat} {j : Int32} : zgt (List.replicate n (0 : Int32)) j = 0 := by
  unfold zgt
  split
  · rfl
  · rw [List.getD_eq_getElem?_getD, List.getElem?_replicate]
    split <;> rfl
theorem zMI_ini : zMI zMst9 0 0 := by
  refine ⟨rfl, ⟨by decide +kernel, by decide +kernel⟩, by decide +kernel, by decide +kernel, fun j => (show zgt (List.replicate 128 (0 : Int32)) j = 0 from zrp0), rfl, by decide +kernel, by decide +kernel, by decide +kernel, by decide +kernel, fun j => ?_⟩
  have e : zgt (zMst9.2.1 20) j = 0 := (show zgt (List.replicate 20 (0 : Int32)) j = 0 from zrp0)
  rw [e]
  decide
theorem zIy_ini (hL : zaL a) (hS : ∃ S1 : zSt, zNw S1 ∧ s = (F40 (Int32.ofNat 13) S1).1 ∧ a = (F40 (Int32.ofNat 13) S1).2) : zIy (s, a) zMst9 :=
  ⟨hL, (zAA_ini (M := zMst9) hS rfl (fun j hj => if_neg hj) rfl rfl (fun j hj => of_decide_eq_true (List.all_eq_true.mp (show (List.range 16).all (fun j => decide (zgt zr22 (Int32.ofNat j) = Int32.ofNat (j / 8 * 10 + j % 8))) = true by decide +kernel) j (List.mem_range.mpr hj)))).1⟩
/-- the second object, behind the first -/
theorem zm_52 : zMs xs (D + 6) 52 [.ref 44] (zx s a [(5, (zcf 5).map (fun q => zdf q.2))]) nc ns (fun o => ∃ (B : zSt) (nc' ns' : Nat), zIy B zMst9 ∧ nc' ≤ nc + 60 ∧ ns' ≤ ns + 2000 ∧ o = (.inl none, zw (s, a) B, nc', ns')) := by
  have R : zrh zrho [(5, (zcf 5).map (fun q => zdf q.2))] (zx s a [(5, (zcf 5).map (fun q => zdf q.2))]) := by
    refine ⟨fun k c e => ?_, fun k => ?_, fun i j e => Nat.add_right_cancel e⟩
    · match k with
      | 0 =>
        have e' : some (5, (zcf 5).map (fun q => zdf q.2)) = some c := e
        cases e'
        rfl
      | k + 1 => exact absurd e (by simp)
    · show 1 + k + 44 = 45 + k
      omega
  have g := zrn_M zrOK_ok (by decide) R (m_52f (xs := xs) (D := D) (nc := nc) (ns := ns))
  refine zMs_post (fun o' w => ?_) g
  obtain ⟨o, ⟨s2, a2, nc', ns', hL, -, hS, b1, b2, rfl⟩, e1, Ra, Fa, e2⟩ := w
  obtain ⟨r1, h1, n1, n2⟩ := o'
  have f1 : r1 = .inl none := e1
  have f2 : (n1, n2) = (nc', ns') := e2
  have Fb : zrfr zrho (zx s a [(5, (zcf 5).map (fun q => zdf q.2))]) (zw (s, a) (s2, a2)) := by
    refine ⟨?_, fun j hj ne => ?_⟩
    · rw [zw_ln]
      show 45 ≤ 88
      decide
    · have hj : j < 45 := hj
      have h44 : j < 44 := by
        refine Nat.lt_of_not_le (fun z => ne (j - 44) ?_)
        show j - 44 + 44 = j
        omega
      have l : j < (zx s a []).length := h44
      show (zx s a (zmv (zx s2 a2 [])))[j]? = (zx s a [(5, (zcf 5).map (fun q => zdf q.2))])[j]?
      rw [zx_ap (s := s) (a := a) (T := zmv (zx s2 a2 [])), zx_ap (s := s) (a := a) (T := [(5, (zcf 5).map (fun q => zdf q.2))]), List.getElem?_append_left l, List.getElem?_append_left l]
  have f3 : h1 = zw (s, a) (s2, a2) := zrn_un R Ra (zw_R (A := (s, a)) (B := (s2, a2))) Fa Fb
  refine ⟨(s2, a2), nc', ns', zIy_ini hL hS, b1, b2, ?_⟩
  show (r1, h1, n1, n2) = _
  rw [f1, f3, f2]
def zl30 (o3 o4 o5 o6 o7 : Option Value) : zL := [some (.retAddr 0), some (.ref 0), some (.ref 44), o3, o4, o5, o6, o7, none, none, none, none, none, none, none, none, none, none]
theorem zc_78 {p l e : Nat} {d mi : Int32} (hN : xs.length ≤ 100000) (hP : ∀ h : zH, P (.inl (some (.int 1)), h, nc, ns)) (ha : 1 ≤ p ∧ p ≤ 100) (hc : 2 ≤ l ∧ l ≤ 100) (he : e ≤ 8) (hd : d = 0 ∨ d = 1) (hmi : mi = 0 ∨ mi = 1) (hM : zMI M 0 0) (hA : zIy A M) (hB : zIy B M) : zEs xs 7 214 78 (zl30 (some (.int (Int32.ofNat p))) (some (.int (Int32.ofNat l))) (some (.int (Int32.ofNat e))) (some (.int d)) (some (.int mi))) [] (zw A B) nc ns P := by
  obtain ⟨t0, hM'⟩ := zMI_146 (x4 := d) (x5 := mi) ha hc he hM
  obtain ⟨A', hA', jA⟩ := zm_60 (xs := xs) hd hmi t0 A hA
  obtain ⟨B', hB', jB⟩ := zm_60 (xs := xs) hd hmi t0 B hB
  refine zEs_run 6 (L' := zl30 (some (.int (Int32.ofNat p))) (some (.int (Int32.ofNat l))) (some (.int (Int32.ofNat e))) (some (.int d)) (some (.int mi))) (st' := [.int mi, .int d, .int (Int32.ofNat e), .int (Int32.ofNat l), .int (Int32.ofNat p), .ref 0]) rfl ?_
  refine zEs_callG rfl rfl (zJ_1 jA) (fun v h9 nc9 ns9 w => ?_) (fun E h9 nc9 ns9 w => by cases w)
  cases w
  refine zEs_run 6 (L' := zl30 (some (.int (Int32.ofNat p))) (some (.int (Int32.ofNat l))) (some (.int (Int32.ofNat e))) (some (.int d)) (some (.int mi))) (st' := [.int mi, .int d, .int (Int32.ofNat e), .int (Int32.ofNat l), .int (Int32.ofNat p), .ref 44, .int (v146 (Int32.ofNat p) (Int32.ofNat l) (Int32.ofNat e) d mi M)]) rfl ?_
  refine zEs_callG rfl rfl (zJ_2 jB (by decide) rfl rfl) (fun v h9 nc9 ns9 w => ?_) (fun E h9 nc9 ns9 w => by cases w)
  cases w
  refine zEs_icmp rfl (fun _ => ?_) (fun g => absurd rfl (zF_e0 g))
  refine zEs_run 2 (L' := zl32 (Int32.ofNat p) (Int32.ofNat l) (Int32.ofNat e) d mi (Int32.ofNat 0) none none none none none none none none none) (st' := []) rfl ?_
  exact zl_112 hN hP 40 0 A' B' _ none none none none none none none none none (by omega) hM' hA' hB'
theorem zc_60 {p l e : Nat} {d : Int32} (hN : xs.length ≤ 100000) (hP : ∀ h : zH, P (.inl (some (.int 1)), h, nc, ns)) (ha : 1 ≤ p ∧ p ≤ 100) (hc : 2 ≤ l ∧ l ≤ 100) (he : e ≤ 8) (hd : d = 0 ∨ d = 1) (hM : zMI M 0 0) (hA : zIy A M) (hB : zIy B M) : zEs xs 7 214 60 (zl30 (some (.int (Int32.ofNat p))) (some (.int (Int32.ofNat l))) (some (.int (Int32.ofNat e))) none none) [.int d] (zw A B) nc ns P := by
  have K : ∀ mi : Int32, (mi = 0 ∨ mi = 1) → zEs xs 7 214 76 (zl30 (some (.int (Int32.ofNat p))) (some (.int (Int32.ofNat l))) (some (.int (Int32.ofNat e))) (some (.int d)) none) [.int mi] (zw A B) nc ns P := fun mi hmi => by
    refine zEs_run 1 (L' := zl30 (some (.int (Int32.ofNat p))) (some (.int (Int32.ofNat l))) (some (.int (Int32.ofNat e))) (some (.int d)) (some (.int mi))) (st' := []) rfl ?_
    exact zc_78 hN hP ha hc he hd hmi hM hA hB
  refine zEs_run 4 (L' := zl30 (some (.int (Int32.ofNat p))) (some (.int (Int32.ofNat l))) (some (.int (Int32.ofNat e))) (some (.int d)) none) (st' := [.int (Int32.ofNat 2), .int (Int32.ofNat 4), .retAddr 0]) rfl ?_
  refine zEs_callG rfl rfl (zMs_mono (show 1 ≤ 6 by decide) (zm_249 hN (by decide) (by decide) (by decide))) (fun v h9 nc9 ns9 w => ?_) (fun E h9 nc9 ns9 w => by obtain ⟨_, _, w⟩ := w; cases w)
  obtain ⟨y, hy, w⟩ := w
  cases w
  refine zEs_if rfl (fun _ => ?_) (fun _ => ?_)
  · exact zEs_run 1 rfl (K (Int32.ofInt 0) (Or.inl rfl))
  · exact zEs_run 2 rfl (K (Int32.ofInt 1) (Or.inr rfl))
theorem m32_214 (hN : xs.length ≤ 100000) : zMs xs 7 214 [.retAddr 0] [] 0 0 (zPb 600086 7301442) := by
  refine ⟨_, rfl, zEs_run 2 (h' := [(5, (zcf 5).map (fun q => zdf q.2))]) rfl ?_⟩
  refine zEs_callG rfl rfl (m_52f (D := 0)) (fun v h9 nc9 ns9 w => ?_) (fun E h9 nc9 ns9 w => by obtain ⟨_, _, _, _, _, _, _, _, _, w⟩ := w; cases w)
  obtain ⟨s, a, nc1, ns1, hL, hC, hS, b1, b2, w⟩ := w
  cases w
  refine zEs_run 3 (h' := zx s a [(5, (zcf 5).map (fun q => zdf q.2))]) rfl ?_
  refine zEs_callG rfl (show zcallI 0 52 15 [.ref 44, .ref 44] = some (.inr (.inl (52, [.ref 44], [.ref 44], 15))) from rfl) (zm_52 (D := 0)) (fun v h9 nc9 ns9 w => ?_) (fun E h9 nc9 ns9 w => by obtain ⟨_, _, _, _, _, _, w⟩ := w; cases w)
  obtain ⟨B, nc2, ns2, hB, b3, b4, w⟩ := w
  cases w
  have hA := zIy_ini hL hS
  have t5 : (zcf 5).length = 12 := rfl
  have hP : ∀ h : zH, zPb 600086 7301442 (.inl (some (.int 1)), h, nc9, ns9) := fun h => ⟨h, nc9, ns9, rfl, by omega, by omega⟩
  refine zEs_run 5 (L' := zl30 none none none none none) (st' := [.int (Int32.ofNat 20), .int (Int32.ofNat 0), .retAddr 0, .int (Int32.ofInt 2)]) rfl ?_
  refine zEs_callG rfl rfl (zMs_mono (show 1 ≤ 6 by decide) (zm_249 hN (by decide) (by decide) (by decide))) (fun v h9 nc9 ns9 w => ?_) (fun E h9 nc9 ns9 w => by obtain ⟨_, _, w⟩ := w; cases w)
  obtain ⟨y0, hy0, w⟩ := w
  cases w
  have e2 : ∀ y : Nat, Int32.ofInt 2 + Int32.ofNat y = Int32.ofNat (2 + y) := fun y => by
    rw [show Int32.ofInt 2 = Int32.ofNat 2 from rfl, ← Int32.ofNat_add]
  refine zEs_run 6 (L' := zl30 (some (.int (Int32.ofInt 2 + Int32.ofNat y0))) none none none none) (st' := [.int (Int32.ofNat 8), .int (Int32.ofNat 1), .retAddr 0, .int (Int32.ofInt 2)]) rfl ?_
  rw [e2]
  refine zEs_callG rfl rfl (zMs_mono (show 1 ≤ 6 by decide) (zm_249 hN (by decide) (by decide) (by decide))) (fun v h9 nc9 ns9 w => ?_) (fun E h9 nc9 ns9 w => by obtain ⟨_, _, w⟩ := w; cases w)
  obtain ⟨y1, hy1, w⟩ := w
  cases w
  refine zEs_run 5 (L' := zl30 (some (.int (Int32.ofNat (2 + y0)))) (some (.int (Int32.ofInt 2 + Int32.ofNat y1))) none none none) (st' := [.int (Int32.ofNat 9), .int (Int32.ofNat 2), .retAddr 0]) rfl ?_
  rw [e2]
  refine zEs_callG rfl rfl (zMs_mono (show 1 ≤ 6 by decide) (zm_249 hN (by decide) (by decide) (by decide))) (fun v h9 nc9 ns9 w => ?_) (fun E h9 nc9 ns9 w => by obtain ⟨_, _, w⟩ := w; cases w)
  obtain ⟨y2, hy2, w⟩ := w
  cases w
  refine zEs_run 4 (L' := zl30 (some (.int (Int32.ofNat (2 + y0)))) (some (.int (Int32.ofNat (2 + y1)))) (some (.int (Int32.ofNat y2))) none none) (st' := [.int (Int32.ofNat 2), .int (Int32.ofNat 3), .retAddr 0]) rfl ?_
  refine zEs_callG rfl rfl (zMs_mono (show 1 ≤ 6 by decide) (zm_249 hN (by decide) (by decide) (by decide))) (fun v h9 nc9 ns9 w => ?_) (fun E h9 nc9 ns9 w => by obtain ⟨_, _, w⟩ := w; cases w)
  obtain ⟨y3, hy3, w⟩ := w
  cases w
  refine zEs_if rfl (fun _ => ?_) (fun _ => ?_)
  · exact zEs_run 1 rfl (zc_60 (d := Int32.ofInt 0) hN hP (by omega) (by omega) (by omega) (Or.inl rfl) zMI_ini hA hB)
  · exact zEs_run 2 rfl (zc_60 (d := Int32.ofInt 1) hN hP (by omega) (by omega) (by omega) (Or.inr rfl) zMI_ini hA hB)
end ZNW2
