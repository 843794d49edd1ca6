/-! One step, whatever the instruction: the rows' check, and the lemma. -/
def zlen (i : Instr) : Nat := match i with
  | .iload _ | .lload _ | .dload _ | .aload _ | .istore _ | .lstore _ | .dstore _ | .astore _ | .bipush _ | .ldc _ | .newarray _ => 2
  | .iinc _ _ | .sipush _ | .ldc_w _ | .ldc2_w _ | .ifCond _ _ | .if_icmp _ _ | .goto _ | .getfield _ | .putfield _ | .getstatic _ | .new _ | .anewarray _ | .checkcast _ | .invokestatic _ | .invokevirtual _ | .invokespecial _ | .if_acmp _ _ | .ifnonnull _ => 3
  | .multianewarray _ _ => 4
  | .invokeinterface _ _ => 5
  | .tableswitch _ _ _ _ | .lookupswitch _ _ => 0
  | _ => 1
def zlk (y : Nat) (i : Instr) (pc k yy n c : Nat) : Bool := match i with
  | .ifCond _ off => decide ((pc : Int) + off = (k : Int))
  | .if_icmp _ off => decide ((pc : Int) + off = (k : Int))
  | .goto off => decide ((pc : Int) + off = (k : Int))
  | .ldc j => decide (k = 0) && decide ((zmo y, j, 5, yy) ∈ zKL)
  | .getstatic _ => false
  | .checkcast _ => false
  | .if_acmp _ _ => false
  | .anewarray _ => false
  | .multianewarray _ _ => false
  | .ldc_w j => decide ((zmo y, j, 5, yy) ∈ zKL)
  | .ldc2_w j => decide ((zmo y, j, k, yy) ∈ zKL)
  | .baload => false
  | .bastore => false
  | .aaload => false
  | .aastore => false
  | .lookupswitch _ ps => (ps.toList.zip (ps.toList.drop 1)).all (fun (a, next) => decide (a.1 < next.1))
  | .getfield j => decide ((zmo y, j, yy) ∈ zFL)
  | .putfield j => decide ((zmo y, j, yy) ∈ zFL) && (decide ((zFT yy).2.2.2 = false) || (decide ((zmn y).name = "<init>") && decide ((zFT yy).1 = zon (zmo y))))
  | .new j => (decide (k = 9) && decide ((y, pc, j, yy) ∈ zTL) && decide (zmh y = [])) || (decide (k ≠ 9) && decide ((zmo y, j, c) ∈ zCL) && decide (c < 6))
  | .invokestatic j => if k = 10 ∨ k = 12 ∨ k = 13 then false else (decide ((zmo y, j, yy) ∈ zSL) && decide (yy < 250) && decide (yy ≠ zlaw) && decide (zmp yy = n))
  | .invokevirtual j => if k = 11 ∨ k = 6 then false else decide ((zmo y, j, yy, c) ∈ zVL) && decide (yy < 250) && decide (yy ≠ zlaw) && decide (zmp yy = n) && decide (c < 6) && decide (zmh yy = [])
  | .invokeinterface _ _ => false
  | .invokespecial j => if k = 8 then decide ((zmo y, j) ∈ zOL) else if k = 7 then false else decide ((zmo y, j, yy) ∈ zIL) && decide (yy < 250) && decide (yy ≠ zlaw) && decide (zmp yy = n) && decide (zmh yy = []) && decide (zmr yy = none)
  | .ireturn => decide (k = 0 ∧ zmr y = some .int) || decide (k = 1 ∧ zmr y = some .boolean) || decide (k = 2 ∧ zmr y = some .char)
  | .lreturn => decide (zmr y = some .long)
  | .dreturn => decide (zmr y = some .double)
  | .areturn => (match zmr y with
    | some (.object _) => true
    | some (.array _) => true
    | _ => false)
  | .return_ => decide (zmr y = none)
  | _ => true
def zrok (y : Nat) (r : zRow) : Bool := match decode (zmb y) r.1 with
  | .ok (i, len) => decide (i = r.2.1) && decide (r.2.2.1 = r.1 + len) && (decide (zlen i = len) || decide (zlen i = 0)) && zlk y i r.1 r.2.2.2.1 r.2.2.2.2.1 r.2.2.2.2.2.1 r.2.2.2.2.2.2
  | .error _ => false
theorem zrok_ok {y pc nx k yy n c : Nat} {i : Instr} (h : zrok y (pc, i, nx, k, yy, n, c) = true) : ∃ len, decode (zmb y) pc = .ok (i, len) ∧ nx = pc + len ∧ (zlen i = len ∨ zlen i = 0) ∧ zlk y i pc k yy n c = true := by
  unfold zrok at h
  dsimp only at h
  split at h
  · next i' len he =>
    simp only [Bool.and_eq_true, Bool.or_eq_true, decide_eq_true_eq] at h
    obtain ⟨⟨⟨rfl, h2⟩, h3⟩, h4⟩ := h
    exact ⟨len, he, h2, h3, h4⟩
  · cases h
theorem zrok1 {y pc nx k yy n c : Nat} {i : Instr} (h : zrok y (pc, i, nx, k, yy, n, c) = true) (hz : zlen i ≠ 0) : decode (zmb y) pc = .ok (i, zlen i) ∧ nx = pc + zlen i ∧ zlk y i pc k yy n c = true := by
  obtain ⟨len, h1, h2, h3, h4⟩ := zrok_ok h
  have e : zlen i = len := h3.resolve_right hz
  rw [e]
  exact ⟨h1, h2, h4⟩
section ZY
variable {p : Program} {l : Launch} {e : Env} {R : Room} {s : State} {m : MethodId} {args : Array Value} {below : List Frame} {meth : Method} {c : Code} {H : Heap} {locs : List Loc} {cells slots : Nat} {Q : State → Prop}
variable {xs : List Int32} {sp : Nat → Nat} {ty : Nat → ClassId} {D : va_G} {A : Nat → Prop} {ads : List Nat}
variable {y pc nx k yy n c9 pc' dc ds : Nat} {L L' : zL} {st st' str : List Value} {h h' : zH} {ls : Array Slot}
theorem z_fget {idx f ci kd k : Nat} (hX : zX xs sp ty D A y p R s m args meth c) (hl : zFok (zmo y, idx, f)) (hdg : decode (zmb y) pc = .ok (.getfield idx, 3)) {ws : va_W} {j a : Nat} {vs : List Value} {v : Value} {r : List Value} (w1 : va_P D zcl ws H) (hj : ws[j]? = some (a, .inr (ci, vs))) (hf : (zcf ci)[k]? = some (f, kd)) (hv : vs[k]? = some v)
    (kk : W p l e R s m args below meth c H locs cells slots Q (F0 m (pc + 3) ls (v :: r))) : W p l e R s m args below meth c H locs cells slots Q (F0 m pc ls (.ref a :: r)) := by
  obtain ⟨hx, hb, hml, hret, hlk, hown, hnm, hts, hK, hA, hSP, -⟩ := hX
  have hci : ci < 6 := by
    by_cases q : ci < 6
    · exact q
    · rw [zcf_out (by omega)] at hf
      cases hf
  obtain ⟨o1, o2, o3, o4, o5, o6⟩ := zc_ok ci hci
  have hk : k < (zcf ci).length := (List.getElem?_eq_some_iff.mp hf).1
  have hT : zT ci k = zFT f := by
    unfold zT
    rw [List.getD_eq_getElem?_getD, hf]
    rfl
  unfold zFok at hl
  rw [← hT] at hl
  rcases hl with ⟨ref, q1, q2⟩ | ⟨host, q1, q3⟩
  · exact va_get (D := D) (ci := ci) hx hb hts o1 hown hK w1 j hj o6 k hk (hts _ q1) (fun x h9 => by
      rcases q2 with rfl | q2
      · exact h9
      · exact u_same (hts _ q2) x h9) hv hdg kk
  · exact va_getN (D := D) (ci := ci) hx hb hts o1 hown hK w1 j hj o6 k hk (va_Nw.use rfl (hSP.1 _ q1)) (fun x h9 => h9) hv hdg kk
theorem z_fput {idx f ci kd k : Nat} (hX : zX xs sp ty D A y p R s m args meth c) (hl : zFok (zmo y, idx, f)) (hfin : (zFT f).2.2.2 = false ∨ ((zmn y).name = "<init>" ∧ (zFT f).1 = zon (zmo y))) (hdg : decode (zmb y) pc = .ok (.putfield idx, 3)) {ws : va_W} {j a : Nat} {vs : List Value} {v : Value} {r : List Value} (w1 : va_P D zcl ws H) (w2 : va_D A ws) (w3 : va_S A s.heap H locs) (hj : ws[j]? = some (a, .inr (ci, vs))) (hf : (zcf ci)[k]? = some (f, kd)) (hv : ∀ t9, zkt kd t9 → narrow t9 v = v ∧ fits t9 v = true) (hkl : k < vs.length)
    (kk : ∀ (H1 : Heap) (locs1 : List Loc), va_P D zcl (ws.set j (a, .inr (ci, vs.set k v))) H1 → va_D A (ws.set j (a, .inr (ci, vs.set k v))) → va_S A s.heap H1 locs1 → W p l e R s m args below meth c H1 locs1 cells slots Q (F0 m (pc + 3) ls r)) : W p l e R s m args below meth c H locs cells slots Q (F0 m pc ls (v :: .ref a :: r)) := by
  obtain ⟨hx, hb, hml, hret, hlk, hown, hnm, hts, hK, hA, hSP, -⟩ := hX
  have hci : ci < 6 := by
    by_cases q : ci < 6
    · exact q
    · rw [zcf_out (by omega)] at hf
      cases hf
  obtain ⟨o1, o2, o3, o4, o5, o6⟩ := zc_ok ci hci
  have hk : k < (zcf ci).length := (List.getElem?_eq_some_iff.mp hf).1
  have hT : zT ci k = zFT f := by
    unfold zT
    rw [List.getD_eq_getElem?_getD, hf]
    rfl
  have hkt : zkt kd (zty ci k) := by
    have := o4 k hk
    rw [List.getD_eq_getElem?_getD, hf] at this
    exact zktb_ok this
  obtain ⟨g1, g2⟩ := hv _ hkt
  unfold zFok at hl
  rw [← hT] at hl hfin
  rcases hfin with hfin | ⟨hfn, hfd⟩
  · rcases hl with ⟨ref, q1, q2⟩ | ⟨host, q1, q3⟩
    · exact va_put (D := D) (ci := ci) hx hb hts o1 (zty ci) o3 o2 hown hK w1 w2 w3 j hj o6 k hk (hts _ q1) (fun x h9 => by
        rcases q2 with rfl | q2
        · exact h9
        · exact u_same (hts _ q2) x h9) hfin (o3 k hk) g1 g2 hkl hdg kk
    · exact va_putN (D := D) (ci := ci) hx hb hts o1 (zty ci) o3 o2 hown hK w1 w2 w3 j hj o6 k hk (va_Nw.use rfl (hSP.1 _ q1)) (fun x h9 => h9) hfin (o3 k hk) g1 g2 hkl hdg kk
  · by_cases hff : (zT ci k).2.2.2 = true
    · rcases hl with ⟨ref, q1, q2⟩ | ⟨host, q1, q3⟩
      · exact va_putF (D := D) (ci := ci) hx hb hts o1 (zty ci) o3 o2 hown hK w1 w2 w3 j hj o6 k hk (hts _ q1) (fun x h9 => by
          rcases q2 with rfl | q2
          · exact h9
          · exact u_same (hts _ q2) x h9) hff (hnm hfn) hfd (o3 k hk) g1 g2 hkl hdg kk
      · exact absurd hfd q3
    · have hff : (zT ci k).2.2.2 = false := by simpa using hff
      rcases hl with ⟨ref, q1, q2⟩ | ⟨host, q1, q3⟩
      · exact va_put (D := D) (ci := ci) hx hb hts o1 (zty ci) o3 o2 hown hK w1 w2 w3 j hj o6 k hk (hts _ q1) (fun x h9 => by
          rcases q2 with rfl | q2
          · exact h9
          · exact u_same (hts _ q2) x h9) hff (o3 k hk) g1 g2 hkl hdg kk
      · exact va_putN (D := D) (ci := ci) hx hb hts o1 (zty ci) o3 o2 hown hK w1 w2 w3 j hj o6 k hk (va_Nw.use rfl (hSP.1 _ q1)) (fun x h9 => h9) hff (o3 k hk) g1 g2 hkl hdg kk
theorem zcall_ne {q : Nat × zL × List Value × zH × Nat × Nat} : ¬ zcall n yy nx st = some (.inl q) := by
  intro hs
  unfold zcall at hs
  split at hs
  · split at hs <;> cases hs
  · cases hs
theorem zcallV_ne {q : Nat × zL × List Value × zH × Nat × Nat} : ¬ zcallV n c9 yy nx st h = some (.inl q) := by
  intro hs
  unfold zcallV at hs
  split at hs
  · split at hs
    · split at hs
      · split at hs
        · split at hs <;> cases hs
        · cases hs
      · cases hs
    · cases hs
  · cases hs
theorem zcallI_ne {q : Nat × zL × List Value × zH × Nat × Nat} : ¬ zcallI n yy nx st = some (.inl q) := by
  intro hs
  unfold zcallI at hs
  split at hs
  · split at hs
    · split at hs <;> cases hs
    · cases hs
  · cases hs
theorem zirt_ne {q : Nat × zL × List Value × zH × Nat × Nat} : ¬ (match st with
      | [.int v] => if k = 0 ∨ (k = 1 ∧ (v = 0 ∨ v = 1)) ∨ (k = 2 ∧ 0 ≤ v ∧ v ≤ 255) then zret (some (.int v)) else none
      | _ => none) = some (.inl q) := by
  intro hs
  split at hs
  · split at hs <;> cases hs
  · cases hs
theorem zlrt_ne {q : Nat × zL × List Value × zH × Nat × Nat} : ¬ (match st with
      | [.long v] => zret (some (.long v))
      | _ => none) = some (.inl q) := by
  intro hs
  split at hs <;> cases hs
theorem zdrt_ne {q : Nat × zL × List Value × zH × Nat × Nat} : ¬ (match st with
      | [.double v] => zret (some (.double v))
      | _ => none) = some (.inl q) := by
  intro hs
  split at hs <;> cases hs
theorem zart_ne {q : Nat × zL × List Value × zH × Nat × Nat} : ¬ (match st with
      | [.ref v] => zret (some (.ref v))
      | [.retAddr v] => zret (some (.retAddr v))
      | _ => none) = some (.inl q) := by
  intro hs
  split at hs <;> cases hs
theorem zvrt_ne {q : Nat × zL × List Value × zH × Nat × Nat} : ¬ (match st with
      | [] => zret none
      | _ => none) = some (.inl q) := by
  intro hs
  split at hs <;> cases hs
theorem z_mm (f : Int32 → Int32 → Int32) {nL : Nat} {H0 : Heap} (hs : zmm f nx L st h = some (.inl (pc', L', st', h', dc, ds))) (I : zR sp ty D A H0 nL ads L st h ls str H locs) (kk : zKK p l e R s m args below meth c cells slots Q sp ty D A H0 nL ads pc' L' st' h' dc ds)
    (row : ∀ (x y : Int32) (r : List Value), (r.map fun v => v.category).sum ≤ 8 → W p l e R s m args below meth c H locs cells slots Q (F0 m nx ls (.int (f x y) :: r)) → W p l e R s m args below meth c H locs cells slots Q (F0 m pc ls (.int y :: .int x :: r))) : W p l e R s m args below meth c H locs cells slots Q (F0 m pc ls str) := by
  obtain ⟨I1, I2, I3⟩ := I
  unfold zmm at hs
  split at hs
  · split at hs
    · next g =>
      obtain ⟨_, _, rfl, hv, _, _, rfl, hw, hr⟩ := I2
      cases (show _ = Value.int _ from hv); cases (show _ = Value.int _ from hw)
      exact row _ _ _ (by rw [zS_cs hr]; exact g) (zgo_kk hs kk I1 ⟨_, _, rfl, rfl, hr⟩ I3)
    · cases hs
  · cases hs
theorem zkl {o j kd v : Nat} (h : (o, j, kd, v) ∈ zKL) : zKok (o, j, kd, v) := zKL_ok _ h
set_option maxHeartbeats 4000000 in
theorem z_step_ok {i : Instr} (hX : zX xs sp ty D A y p R s m args meth c) (hr : zrok y (pc, i, nx, k, yy, n, c9) = true) (hs : zstep zcf xs pc i nx k yy n c9 L st h = some (.inl (pc', L', st', h', dc, ds))) (I : zR sp ty D A s.heap (zmL y) ads L st h ls str H locs)
    (hcl : cells + dc ≤ R.cells) (hsl : slots + ds ≤ R.slots) (kk : zKK p l e R s m args below meth c cells slots Q sp ty D A s.heap (zmL y) ads pc' L' st' h' dc ds) : W p l e R s m args below meth c H locs cells slots Q (F0 m pc ls str) := by
  have hX0 := hX
  obtain ⟨hx, hb, hml, hret, hlk, hown, hnm, hts, hK, hA, hSP, hRf, hRl⟩ := hX
  have hlsz : c.maxLocals = ls.size := by
    obtain ⟨-, lv, hlv, -⟩ := I.1
    rw [hml, hlv.1]
  cases i with
  | iload j =>
    obtain ⟨hd, rfl, -⟩ := zrok1 hr (Nat.succ_ne_zero _)
    exact z_ldI hs I kk (fun x g w => lv_iload hx hb hd g w)
  | iload_n j =>
    obtain ⟨hd, rfl, -⟩ := zrok1 hr (Nat.succ_ne_zero _)
    exact z_ldI hs I kk (fun x g w => lv_iload_n hx hb hd rfl g w)
  | lload j =>
    obtain ⟨hd, rfl, -⟩ := zrok1 hr (Nat.succ_ne_zero _)
    exact z_ldL hs I kk (fun x g w => lv_lload hx hb hd g w)
  | lload_n j =>
    obtain ⟨hd, rfl, -⟩ := zrok1 hr (Nat.succ_ne_zero _)
    exact z_ldL hs I kk (fun x g w => lv_lload_n hx hb hd rfl g w)
  | dload j =>
    obtain ⟨hd, rfl, -⟩ := zrok1 hr (Nat.succ_ne_zero _)
    exact z_ldD hs I kk (fun x g w => lv_dload hx hb hd g w)
  | aload j =>
    obtain ⟨hd, rfl, -⟩ := zrok1 hr (Nat.succ_ne_zero _)
    exact z_ldA hs I kk (fun x g w => lv_aload hx hb hd g w) (fun g w => lv_aloadN hx hb hd g w)
  | aload_n j =>
    obtain ⟨hd, rfl, -⟩ := zrok1 hr (Nat.succ_ne_zero _)
    exact z_ldA hs I kk (fun x g w => lv_aload_n hx hb hd rfl g w) (fun g w => lv_aload_nN hx hb hd rfl g w)
  | istore j =>
    obtain ⟨hd, rfl, -⟩ := zrok1 hr (Nat.succ_ne_zero _)
    obtain ⟨I1, I2, I3⟩ := I
    have hs : zsI L j (pc + 2) st h = _ := hs
    unfold zsI at hs
    split at hs
    · obtain ⟨_, _, rfl, hv, hr9⟩ := I2
      cases (show _ = Value.int _ from hv)
      exact z_sv1 hs hv I1 hr9 I3 kk (fun lv g1 g2 w => lv_istore hx hb hd g1 g2 rfl w)
    · cases hs
  | istore_n j =>
    obtain ⟨hd, rfl, -⟩ := zrok1 hr (Nat.succ_ne_zero _)
    obtain ⟨I1, I2, I3⟩ := I
    have hs : zsI L j (pc + 1) st h = _ := hs
    unfold zsI at hs
    split at hs
    · obtain ⟨_, _, rfl, hv, hr9⟩ := I2
      cases (show _ = Value.int _ from hv)
      exact z_sv1 hs hv I1 hr9 I3 kk (fun lv g1 g2 w => lv_istore_n hx hb hd rfl g1 g2 rfl w)
    · cases hs
  | astore j =>
    obtain ⟨hd, rfl, -⟩ := zrok1 hr (Nat.succ_ne_zero _)
    obtain ⟨I1, I2, I3⟩ := I
    have hs : zsA L j (pc + 2) st h = _ := hs
    unfold zsA at hs
    split at hs
    · obtain ⟨_, _, rfl, hv, hr9⟩ := I2
      obtain ⟨a, -, rfl⟩ := id hv
      exact z_sv1 hs hv I1 hr9 I3 kk (fun lv g1 g2 w => lv_astore hx hb hd g1 g2 rfl w)
    · obtain ⟨_, _, rfl, hv, hr9⟩ := I2
      obtain ⟨-, rfl⟩ := id hv
      exact z_sv1 hs hv I1 hr9 I3 kk (fun lv g1 g2 w => lv_astore hx hb hd g1 g2 rfl w)
    · cases hs
  | astore_n j =>
    obtain ⟨hd, rfl, -⟩ := zrok1 hr (Nat.succ_ne_zero _)
    obtain ⟨I1, I2, I3⟩ := I
    have hs : zsA L j (pc + 1) st h = _ := hs
    unfold zsA at hs
    split at hs
    · obtain ⟨_, _, rfl, hv, hr9⟩ := I2
      obtain ⟨a, -, rfl⟩ := id hv
      exact z_sv1 hs hv I1 hr9 I3 kk (fun lv g1 g2 w => lv_astore_n hx hb hd rfl g1 g2 rfl w)
    · obtain ⟨_, _, rfl, hv, hr9⟩ := I2
      obtain ⟨-, rfl⟩ := id hv
      exact z_sv1 hs hv I1 hr9 I3 kk (fun lv g1 g2 w => lv_astore_n hx hb hd rfl g1 g2 rfl w)
    · cases hs
  | lstore j =>
    obtain ⟨hd, rfl, -⟩ := zrok1 hr (Nat.succ_ne_zero _)
    obtain ⟨I1, I2, I3⟩ := I
    have hs : zsL L j (pc + 2) st h = _ := hs
    unfold zsL at hs
    split at hs
    · obtain ⟨_, _, rfl, hv, hr9⟩ := I2
      cases (show _ = Value.long _ from hv)
      exact z_sv2 hs hv I1 hr9 I3 kk (fun lv g1 g2 w => lv_lstore hx hb hd g1 g2 rfl w)
    · cases hs
  | lstore_n j =>
    obtain ⟨hd, rfl, -⟩ := zrok1 hr (Nat.succ_ne_zero _)
    obtain ⟨I1, I2, I3⟩ := I
    have hs : zsL L j (pc + 1) st h = _ := hs
    unfold zsL at hs
    split at hs
    · obtain ⟨_, _, rfl, hv, hr9⟩ := I2
      cases (show _ = Value.long _ from hv)
      exact z_sv2 hs hv I1 hr9 I3 kk (fun lv g1 g2 w => lv_lstore_n hx hb hd rfl g1 g2 rfl w)
    · cases hs
  | dstore j =>
    obtain ⟨hd, rfl, -⟩ := zrok1 hr (Nat.succ_ne_zero _)
    obtain ⟨I1, I2, I3⟩ := I
    have hs : zsD L j (pc + 2) st h = _ := hs
    unfold zsD at hs
    split at hs
    · obtain ⟨_, _, rfl, hv, hr9⟩ := I2
      cases (show _ = Value.double _ from hv)
      exact z_sv2 hs hv I1 hr9 I3 kk (fun lv g1 g2 w => lv_dstore hx hb hd g1 g2 rfl w)
    · cases hs
  | iinc j z =>
    obtain ⟨hd, rfl, -⟩ := zrok1 hr (Nat.succ_ne_zero _)
    obtain ⟨I1, I2, I3⟩ := I
    have hs : zinc L j z (pc + 3) st h = _ := hs
    unfold zinc at hs
    split at hs
    · next x hx9 =>
      obtain ⟨h0, lv0, g0, g9⟩ := id I1
      obtain ⟨v', hv, hin⟩ := g9 j _ hx9
      cases (show _ = Value.int _ from hv)
      obtain ⟨L1, e1, e2⟩ : ∃ L1, zst1 (.int (x + Int32.ofInt z)) j L = some L1 ∧ zgo (pc + 3) L1 st h = some (.inl (pc', L', st', h', dc, ds)) := by
        unfold zsv1 at hs
        split at hs
        · next L1 h1 => exact ⟨L1, h1, hs⟩
        · cases hs
      obtain ⟨q1, q2, q3, q4⟩ := zst1_spec e1
      obtain ⟨kx, hkx⟩ := List.getElem?_of_mem hin
      refine lv_iinc (v := x + Int32.ofInt z) hx hb hd g0 hkx rfl (by omega) rfl (fun ls' g => zgo_kk e2 kk ⟨by omega, _, g, fun j2 w hj => ?_⟩ I2 I3)
      by_cases e9 : j2 = j
      · subst e9
        rw [q3] at hj
        cases hj
        exact ⟨_, rfl, List.mem_cons_self⟩
      · obtain ⟨r1, r2⟩ := q4 j2 w e9 hj
        obtain ⟨w', a, b⟩ := g9 j2 w r1
        refine ⟨w', a, List.mem_cons_of_mem _ (List.mem_filter.mpr ⟨b, ?_⟩)⟩
        have hc := zV_cat a
        by_cases e3 : j2 + 1 = j
        · rw [r2 e3] at hc
          simp [e9, hc]
        · simp [e9, e3]
    · cases hs
  | iconst z =>
    obtain ⟨hd, rfl, -⟩ := zrok1 hr (Nat.succ_ne_zero _)
    exact z_pu (v := .int (Int32.ofInt z)) (v' := .int (Int32.ofInt z)) rfl hs I kk (fun w => lv_iconst hx hb hd rfl w)
  | bipush z =>
    obtain ⟨hd, rfl, -⟩ := zrok1 hr (Nat.succ_ne_zero _)
    exact z_pu (v := .int (Int8.ofInt z).toInt32) (v' := .int (Int8.ofInt z).toInt32) rfl hs I kk (fun w => lv_bipush hx hb hd rfl w)
  | sipush z =>
    obtain ⟨hd, rfl, -⟩ := zrok1 hr (Nat.succ_ne_zero _)
    exact z_pu (v := .int (Int16.ofInt z).toInt32) (v' := .int (Int16.ofInt z).toInt32) rfl hs I kk (fun w => lv_sipush hx hb hd rfl w)
  | lconst z =>
    obtain ⟨hd, rfl, -⟩ := zrok1 hr (Nat.succ_ne_zero _)
    exact z_pu (v := .long (Int64.ofNat z)) (v' := .long (Int64.ofNat z)) rfl hs I kk (fun w => lv_lconst hx hb hd rfl w)
  | aconst_null =>
    obtain ⟨hd, rfl, -⟩ := zrok1 hr (Nat.succ_ne_zero _)
    exact z_pu (v := .null) (v' := .null) rfl hs I kk (fun w => lv_null hx hb hd w)
  | ldc j =>
    obtain ⟨hd, rfl, hl⟩ := zrok1 hr (Nat.succ_ne_zero _)
    replace hs : (if k = 0 then zpu L (.int (Int32.ofNat yy)) (pc + 2) st h else if k = 2 then zpu L (.retAddr 2) (pc + 2) st h else if k = 3 then zpu L (.retAddr 3) (pc + 2) st h else none) = some (.inl (pc', L', st', h', dc, ds)) := hs
    replace hl : (decide (k = 0) && decide ((zmo y, j, 5, yy) ∈ zKL)) = true := hl
    simp only [Bool.and_eq_true, decide_eq_true_eq] at hl
    obtain ⟨rfl, hl⟩ := hl
    rw [if_pos rfl] at hs
    exact z_pu (v := .int (Int32.ofNat yy)) (v' := .int (Int32.ofNat yy)) rfl hs I kk (fun w => lv_ldc hx hb hown (hts _ (zkl hl)) hd w)
  | getstatic j =>
    obtain ⟨-, -, hl⟩ := zrok1 hr (Nat.succ_ne_zero _)
    cases (show false = true from hl)
  | checkcast j =>
    obtain ⟨-, -, hl⟩ := zrok1 hr (Nat.succ_ne_zero _)
    cases (show false = true from hl)
  | if_acmp q off =>
    obtain ⟨-, -, hl⟩ := zrok1 hr (Nat.succ_ne_zero _)
    cases (show false = true from hl)
  | ldc_w j =>
    obtain ⟨hd, rfl, hl⟩ := zrok1 hr (Nat.succ_ne_zero _)
    have hs : (if k = 0 then zpu L (.int (Int32.ofNat yy)) (pc + 3) st h else none) = some (.inl (pc', L', st', h', dc, ds)) := hs
    split at hs
    · next hk0 =>
      have hl := zkl (of_decide_eq_true (show decide ((zmo y, j, 5, yy) ∈ zKL) = true from hl))
      exact z_pu (v := .int (Int32.ofNat yy)) (v' := .int (Int32.ofNat yy)) rfl hs I kk (fun w => lv_ldcw hx hb hown (hts _ hl) hd w)
    · cases hs
  | ldc2_w j =>
    obtain ⟨hd, rfl, hl⟩ := zrok1 hr (Nat.succ_ne_zero _)
    have hs : (if k = 0 then zpu L (.long (Int64.ofNat yy)) (pc + 3) st h else if k = 1 then zpu L (.double (UInt64.ofNat yy)) (pc + 3) st h else none) = some (.inl (pc', L', st', h', dc, ds)) := hs
    have hl := zkl (of_decide_eq_true (show decide ((zmo y, j, k, yy) ∈ zKL) = true from hl))
    split at hs
    · next hk0 =>
      subst hk0
      exact z_pu (v := .long (Int64.ofNat yy)) (v' := .long (Int64.ofNat yy)) rfl hs I kk (fun w => lv_ldc2 hx hb hown (hts _ hl) hd w)
    · split at hs
      · next hk0 =>
        subst hk0
        exact z_pu (v := .double (UInt64.ofNat yy)) (v' := .double (UInt64.ofNat yy)) rfl hs I kk (fun w => lv_ldc2d hx hb hown (hts _ hl) hd w)
      · cases hs
  | iadd =>
    obtain ⟨hd, rfl, -⟩ := zrok1 hr (Nat.succ_ne_zero _)
    exact z_bin _ hs I kk (fun x y r w => lv_iadd hx hb hd w)
  | isub =>
    obtain ⟨hd, rfl, -⟩ := zrok1 hr (Nat.succ_ne_zero _)
    exact z_bin _ hs I kk (fun x y r w => lv_isub hx hb hd w)
  | imul =>
    obtain ⟨hd, rfl, -⟩ := zrok1 hr (Nat.succ_ne_zero _)
    exact z_bin _ hs I kk (fun x y r w => lv_imul hx hb hd w)
  | iand =>
    obtain ⟨hd, rfl, -⟩ := zrok1 hr (Nat.succ_ne_zero _)
    exact z_bin _ hs I kk (fun x y r w => lv_iand hx hb hd w)
  | ior =>
    obtain ⟨hd, rfl, -⟩ := zrok1 hr (Nat.succ_ne_zero _)
    exact z_bin _ hs I kk (fun x y r w => lv_ior hx hb hd w)
  | ixor =>
    obtain ⟨hd, rfl, -⟩ := zrok1 hr (Nat.succ_ne_zero _)
    exact z_bin _ hs I kk (fun x y r w => lv_ixor hx hb hd w)
  | ishl =>
    obtain ⟨hd, rfl, -⟩ := zrok1 hr (Nat.succ_ne_zero _)
    exact z_bin _ hs I kk (fun x y r w => lv_ishl hx hb hd w)
  | ishr =>
    obtain ⟨hd, rfl, -⟩ := zrok1 hr (Nat.succ_ne_zero _)
    exact z_bin _ hs I kk (fun x y r w => lv_ishr hx hb hd w)
  | iushr =>
    obtain ⟨hd, rfl, -⟩ := zrok1 hr (Nat.succ_ne_zero _)
    exact z_bin _ hs I kk (fun x y r w => lv_iushr hx hb hd rfl w)
  | idiv =>
    obtain ⟨hd, rfl, -⟩ := zrok1 hr (Nat.succ_ne_zero _)
    exact z_div _ hs I kk (fun x y r g w => lv_idiv hx hb hd g w)
  | irem =>
    obtain ⟨hd, rfl, -⟩ := zrok1 hr (Nat.succ_ne_zero _)
    exact z_div _ hs I kk (fun x y r g w => lv_irem hx hb hd g w)
  | ineg =>
    obtain ⟨hd, rfl, -⟩ := zrok1 hr (Nat.succ_ne_zero _)
    exact z_un (fun x => .int (-x)) (fun _ => rfl) hs I kk (fun x r w => lv_ineg hx hb hd w)
  | i2l =>
    obtain ⟨hd, rfl, -⟩ := zrok1 hr (Nat.succ_ne_zero _)
    exact z_un (fun x => .long x.toInt64) (fun _ => rfl) hs I kk (fun x r w => lv_i2l hx hb hd rfl w)
  | i2b =>
    obtain ⟨hd, rfl, -⟩ := zrok1 hr (Nat.succ_ne_zero _)
    exact z_un (fun x => .int x.toInt8.toInt32) (fun _ => rfl) hs I kk (fun x r w => lv_i2b hx hb hd rfl w)
  | i2c =>
    obtain ⟨hd, rfl, -⟩ := zrok1 hr (Nat.succ_ne_zero _)
    exact z_un (fun x => .int (x.toUInt32 % 65536).toInt32) (fun _ => rfl) hs I kk (fun x r w => lv_i2c hx hb hd rfl w)
  | i2d =>
    obtain ⟨hd, rfl, -⟩ := zrok1 hr (Nat.succ_ne_zero _)
    exact z_un (fun x => .double (FP.i2d x)) (fun _ => rfl) hs I kk (fun x r w => lv_i2d hx hb hd w)
  | lcmp =>
    obtain ⟨hd, rfl, -⟩ := zrok1 hr (Nat.succ_ne_zero _)
    exact z_lcmp hs I kk (fun x y r w => W.lcmp hx hb hd w)
  | ladd =>
    obtain ⟨hd, rfl, -⟩ := zrok1 hr (Nat.succ_ne_zero _)
    exact z_binL _ hs I kk (fun x y r w => lv_ladd hx hb hd w)
  | lmul =>
    obtain ⟨hd, rfl, -⟩ := zrok1 hr (Nat.succ_ne_zero _)
    exact z_binL _ hs I kk (fun x y r w => lv_lmul hx hb hd w)
  | ddiv =>
    obtain ⟨hd, rfl, -⟩ := zrok1 hr (Nat.succ_ne_zero _)
    exact z_binD _ hs I kk (fun x y r g w => lv_ddiv hx hb hd g w)
  | dmul =>
    obtain ⟨hd, rfl, -⟩ := zrok1 hr (Nat.succ_ne_zero _)
    exact z_binD _ hs I kk (fun x y r g w => lv_dmul hx hb hd g w)
  | d2l =>
    obtain ⟨hd, rfl, -⟩ := zrok1 hr (Nat.succ_ne_zero _)
    exact z_d2l hs I kk (fun x r w => lv_d2l hx hb hd w)
  | dup =>
    obtain ⟨hd, rfl, -⟩ := zrok1 hr (Nat.succ_ne_zero _)
    exact z_dup hs I kk (fun v r g w => lv_dup hx hb hd g w)
  | pop =>
    obtain ⟨hd, rfl, -⟩ := zrok1 hr (Nat.succ_ne_zero _)
    exact z_pop hs I kk (fun v r g w => lv_pop hx hb hd g w)
  | pop2 =>
    obtain ⟨hd, rfl, -⟩ := zrok1 hr (Nat.succ_ne_zero _)
    exact z_pop2 hs I kk (fun v r g w => lv_pop2_2 hx hb hd g w)
  | dup_x1 =>
    obtain ⟨hd, rfl, -⟩ := zrok1 hr (Nat.succ_ne_zero _)
    exact z_dupx1 hs I kk (fun v w r g g2 k9 => lv_dup_x1 hx hb hd g g2 k9)
  | dup2 =>
    obtain ⟨hd, rfl, -⟩ := zrok1 hr (Nat.succ_ne_zero _)
    exact z_dup2 hs I kk (fun v w r g g2 k9 => lv_dup2_11 hx hb hd g g2 k9)
  | ifCond q off =>
    obtain ⟨hd, rfl, hl⟩ := zrok1 hr (Nat.succ_ne_zero _)
    have ht := of_decide_eq_true (show decide ((pc : Int) + off = (k : Int)) = true from hl)
    obtain ⟨I1, I2, I3⟩ := I
    have hs : zif q k (pc + 3) L st h = _ := hs
    unfold zif at hs
    split at hs
    · obtain ⟨_, _, rfl, hv, hr9⟩ := I2
      cases (show _ = Value.int _ from hv)
      refine z_br hs I1 hr9 I3 kk ?_
      cases q with
      | eq => exact fun a b => lv_if_eq hx hb hd ht a b
      | ne => exact fun a b => lv_if_ne hx hb hd ht a b
      | lt => exact fun a b => lv_if_lt hx hb hd ht a b
      | ge => exact fun a b => lv_if_ge hx hb hd ht a b
      | gt => exact fun a b => lv_if_gt hx hb hd ht a b
      | le => exact fun a b => lv_if_le hx hb hd ht a b
    · cases hs
  | if_icmp q off =>
    obtain ⟨hd, rfl, hl⟩ := zrok1 hr (Nat.succ_ne_zero _)
    have ht := of_decide_eq_true (show decide ((pc : Int) + off = (k : Int)) = true from hl)
    obtain ⟨I1, I2, I3⟩ := I
    have hs : zicmp q k (pc + 3) L st h = _ := hs
    unfold zicmp at hs
    split at hs
    · obtain ⟨_, _, rfl, hv, _, _, rfl, hw, hr9⟩ := I2
      cases (show _ = Value.int _ from hv); cases (show _ = Value.int _ from hw)
      refine z_br hs I1 hr9 I3 kk ?_
      cases q with
      | eq => exact fun a b => lv_icmp_eq hx hb hd ht a b
      | ne => exact fun a b => lv_icmp_ne hx hb hd ht a b
      | lt => exact fun a b => lv_icmp_lt hx hb hd ht a b
      | ge => exact fun a b => lv_icmp_ge hx hb hd ht a b
      | gt => exact fun a b => lv_icmp_gt hx hb hd ht a b
      | le => exact fun a b => lv_icmp_le hx hb hd ht a b
    · cases hs
  | goto off =>
    obtain ⟨hd, rfl, hl⟩ := zrok1 hr (Nat.succ_ne_zero _)
    have ht := of_decide_eq_true (show decide ((pc : Int) + off = (k : Int)) = true from hl)
    exact z_goto hs I kk (fun w => lv_goto hx hb hd ht w)
  | tableswitch d lo hi os =>
    obtain ⟨len, hd, -, -, -⟩ := zrok_ok hr
    obtain ⟨I1, I2, I3⟩ := I
    have hs : ztab pc d lo hi os L st h = _ := hs
    unfold ztab at hs
    split at hs
    · obtain ⟨_, _, rfl, hv, hr9⟩ := I2
      cases (show _ = Value.int _ from hv)
      split at hs
      · next g =>
        obtain ⟨tg, ht, w⟩ := z_off hs I1 hr9 I3 kk
        exact lv_tableOut hx hb hd g ht w
      · next g =>
        split at hs
        · next o ho =>
          obtain ⟨tg, ht, w⟩ := z_off hs I1 hr9 I3 kk
          exact lv_tableIn hx hb hd (fun q => g (Or.inl q)) (fun q => g (Or.inr q)) ho ht w
        · cases hs
    · cases hs
  | lookupswitch d ps =>
    obtain ⟨len, hd, -, -, hl⟩ := zrok_ok hr
    obtain ⟨I1, I2, I3⟩ := I
    have hs : zlook pc d ps L st h = _ := hs
    unfold zlook at hs
    split at hs
    · obtain ⟨_, _, rfl, hv, hr9⟩ := I2
      cases (show _ = Value.int _ from hv)
      obtain ⟨tg, ht, w⟩ := z_off hs I1 hr9 I3 kk
      exact lv_lookup hx hb hd hl rfl ht w
    · cases hs
  | iaload =>
    obtain ⟨hd, rfl, -⟩ := zrok1 hr (Nat.succ_ne_zero _)
    exact z_ialoadX hs I kk (fun ws k a n f i r g1 g2 g3 w => va_iald (D := D) hx hb hK g1 k 0 g2 rfl g3 hd w) (fun i r g1 g2 w => va_sld hx hb hSP.2.2.2.1.1 hSP.2.2.2.1.2.1 hSP.2.2.2.1.2.2 g1 g2 hd w)
  | iastore =>
    obtain ⟨hd, rfl, -⟩ := zrok1 hr (Nat.succ_ne_zero _)
    exact z_ast (g := some) (Or.inl rfl) hs I kk (fun ws k a n f i x z r g0 g1 g2 g3 g4 g5 w => by
      cases g0
      exact va_iast (D := D) hx hb hK g1 g2 g3 k 0 g4 rfl g5 hd w)
  | baload =>
    obtain ⟨-, -, hl⟩ := zrok1 hr (Nat.succ_ne_zero _)
    cases (show false = true from hl)
  | bastore =>
    obtain ⟨-, -, hl⟩ := zrok1 hr (Nat.succ_ne_zero _)
    cases (show false = true from hl)
  | aaload =>
    obtain ⟨-, -, hl⟩ := zrok1 hr (Nat.succ_ne_zero _)
    cases (show false = true from hl)
  | arraylength =>
    obtain ⟨hd, rfl, -⟩ := zrok1 hr (Nat.succ_ne_zero _)
    refine z_alen hSP hs I kk (fun ws t k a x r h1 h2 g1 g2 w => ?_) (fun r g w => va_slen hx hb hSP.2.2.2.1.1 hSP.2.2.2.1.2.1 hSP.2.2.2.1.2.2 g hd w)
    · obtain ⟨t9, e9⟩ : ∃ t9, (ztys ty)[t - 100]? = some (ty (t - 100), t9) := by
        rcases (show t = 100 ∨ t = 101 ∨ t = 102 ∨ t = 103 ∨ t = 104 by omega) with rfl | rfl | rfl | rfl | rfl <;> exact ⟨_, rfl⟩
      exact va_alen (D := D) hx hb hK g1 k (t - 100) g2 e9 rfl hd w
  | newarray t =>
    obtain ⟨hd, e, -⟩ := zrok1 hr (Nat.succ_ne_zero _)
    exact z_newa hX0 hd e hs I hcl hsl kk
  | getfield j =>
    obtain ⟨hd, rfl, hl⟩ := zrok1 hr (Nat.succ_ne_zero _)
    have hl := zFL_ok _ (of_decide_eq_true (show decide ((zmo y, j, yy) ∈ zFL) = true from hl))
    exact z_get hs I kk (fun ws j a ci kd vs v r g1 g2 g3 g4 w => z_fget hX0 hl hd g1 g2 g3 g4 w)
  | putfield j =>
    obtain ⟨hd, rfl, hl⟩ := zrok1 hr (Nat.succ_ne_zero _)
    have hl : (decide ((zmo y, j, yy) ∈ zFL) && (decide ((zFT yy).2.2.2 = false) || (decide ((zmn y).name = "<init>") && decide ((zFT yy).1 = zon (zmo y))))) = true := hl
    simp only [Bool.and_eq_true, Bool.or_eq_true, decide_eq_true_eq] at hl
    exact z_put hs I kk (fun ws j a ci kd vs v r g1 g2 g3 g4 g5 g6 g7 w => z_fput hX0 (zFL_ok _ hl.1) hl.2 hd g1 g2 g3 g4 g5 g6 g7 w)
  | new j =>
    obtain ⟨hd, e, hl⟩ := zrok1 hr (Nat.succ_ne_zero _)
    have hs : (if k = 9 then (if zcs st ≤ 8 then some (.inr (.inr (.inr yy, 1, 6))) else none) else znew zcf c9 nx L st h) = some (.inl (pc', L', st', h', dc, ds)) := hs
    have hl : ((decide (k = 9) && decide ((y, pc, j, yy) ∈ zTL) && decide (zmh y = [])) || (decide (k ≠ 9) && decide ((zmo y, j, c9) ∈ zCL) && decide (c9 < 6))) = true := hl
    simp only [Bool.and_eq_true, Bool.or_eq_true, decide_eq_true_eq] at hl
    split at hs
    · split at hs <;> cases hs
    · next g =>
      have hl := hl.resolve_left (fun q => g q.1.1)
      exact z_new hX0 hl.2 (zCL_ok _ hl.1.2) hd e hs I hcl hsl kk
  | invokestatic j =>
    obtain ⟨hd, rfl, hl⟩ := zrok1 hr (Nat.succ_ne_zero _)
    replace hs : (if k = 10 then zcopy (pc + 3) L st h else if k = 12 then zmm (fun x y => if x < y then y else x) (pc + 3) L st h else if k = 13 then zmm (fun x y => if y < x then y else x) (pc + 3) L st h else zcall n yy (pc + 3) st) = some (.inl (pc', L', st', h', dc, ds)) := hs
    replace hl : (if k = 10 ∨ k = 12 ∨ k = 13 then false else (decide ((zmo y, j, yy) ∈ zSL) && decide (yy < 250) && decide (yy ≠ zlaw) && decide (zmp yy = n))) = true := hl
    have nk : ¬ (k = 10 ∨ k = 12 ∨ k = 13) := fun q => by
      rw [if_pos q] at hl
      cases hl
    rw [if_neg (fun q => nk (Or.inl q)), if_neg (fun q => nk (Or.inr (Or.inl q))), if_neg (fun q => nk (Or.inr (Or.inr q)))] at hs
    exact absurd hs zcall_ne
  | invokespecial j =>
    obtain ⟨hd, rfl, hl⟩ := zrok1 hr (Nat.succ_ne_zero _)
    replace hs : (if k = 8 then zoi (pc + 3) L st h else if k = 7 then zcallV n c9 yy (pc + 3) st h else zcallI n yy (pc + 3) st) = some (.inl (pc', L', st', h', dc, ds)) := hs
    replace hl : (if k = 8 then decide ((zmo y, j) ∈ zOL) else if k = 7 then false else decide ((zmo y, j, yy) ∈ zIL) && decide (yy < 250) && decide (yy ≠ zlaw) && decide (zmp yy = n) && decide (zmh yy = []) && decide (zmr yy = none)) = true := hl
    split at hs
    · next q =>
      rw [if_pos q] at hl
      have hl := zOL_ok _ (of_decide_eq_true hl)
      obtain ⟨I1, I2, I3⟩ := I
      unfold zoi at hs
      split at hs
      · split at hs
        · next g =>
          obtain ⟨_, _, rfl, hv, hr9⟩ := I2
          obtain ⟨a, -, rfl⟩ := id hv
          exact W.objInit hx hb hown (hts _ hl) (hts _ zOi1) (hts _ zOi2) (g := F0 m pc ls _) rfl hlsz.symm rfl hd (by omega) (by show 2 * 0 + _ + 12 ≤ _; rw [zS_cs hr9]; omega) (zgo_kk hs kk I1 hr9 I3)
        · cases hs
      · cases hs
    · split at hs
      · exact absurd hs zcallV_ne
      · exact absurd hs zcallI_ne
  | invokevirtual j =>
    obtain ⟨hd, e, hl⟩ := zrok1 hr (Nat.succ_ne_zero _)
    replace hs : (if k = 11 then zgetc nx L st h else zcallV n c9 yy nx st h) = some (.inl (pc', L', st', h', dc, ds)) := hs
    replace hl : (if k = 11 ∨ k = 6 then false else decide ((zmo y, j, yy, c9) ∈ zVL) && decide (yy < 250) && decide (yy ≠ zlaw) && decide (zmp yy = n) && decide (c9 < 6) && decide (zmh yy = [])) = true := hl
    split at hs
    · next q9 =>
      rw [if_pos (Or.inl q9)] at hl
      cases hl
    · exact absurd hs zcallV_ne
  | invokeinterface j q => exact absurd hs zcallV_ne
  | aastore =>
    obtain ⟨-, -, hl⟩ := zrok1 hr (Nat.succ_ne_zero _)
    cases (show false = true from hl)
  | anewarray j =>
    obtain ⟨-, -, hl⟩ := zrok1 hr (Nat.succ_ne_zero _)
    cases (show false = true from hl)
  | multianewarray j q =>
    obtain ⟨-, -, hl⟩ := zrok1 hr (Nat.succ_ne_zero _)
    cases (show false = true from hl)
  | ireturn => exact absurd hs zirt_ne
  | lreturn => exact absurd hs zlrt_ne
  | dreturn => exact absurd hs zdrt_ne
  | areturn => exact absurd hs zart_ne
  | return_ => exact absurd hs zvrt_ne
  | _ => exact absurd hs (by intro q; cases (show none = some _ from q))
end ZY
