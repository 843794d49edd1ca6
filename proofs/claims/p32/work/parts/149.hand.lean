/-! The reference's methods, by hand: clear. -/
section ZHL
variable {xs : List Int32} {g : zG} {lg : Nat} {h : zH} {D nc ns y pc nx k yy m c : Nat} {L : zL} {r st : List Value} {P : zO → Prop}
theorem zLE_44 {c : Nat × List Value} : zLE h (h.set 44 c) := fun q d a b _ _ => by
  rw [List.getElem?_set_ne (by omega)]
  exact b
theorem zLE_app {X : zH} : zLE h (h ++ X) := fun q d a b _ _ => zapp_mv _ _ _ b
theorem zLE_aw {X : zH} {c : Nat × List Value} : zLE h ((h ++ X).set 44 c) := zLE_tr zLE_app zLE_44
theorem zsz3 {t : Nat} (ht : 3 ≤ t) : zsz g lg t = g.ze t := by
  unfold zsz
  split
  · omega
  · omega
  · omega
  · rfl
theorem zQj3 {t : Nat} (ht : 3 ≤ t) : zQj t = zel4 := by
  funext l
  unfold zQj
  split
  · omega
  · rfl
theorem znl_0 (hn : 3 ≤ g.nl) (q : Nat) : zsz (znl g q) lg g.nl = 0 := by
  rw [zsz3 hn]
  exact if_pos rfl
def zc3 (g : zG) (r : Nat) : zG := (g.1, g.2.1, g.2.2.1, (fun i => if i = 2 then r else g.p i), g.zs, g.zw, g.zn, 3, fun _ => 0)
/-- the log's field takes a new list -/
theorem zHI_c3 {vs : List Value} (hI : zHI g lg h) (h0 : h[44]? = some (7, vs)) : zHI (zc3 g h.length) 0 ((h ++ [((10 : Nat), [Value.int 0, Value.retAddr 1, Value.int 0])]).set 44 (7, vs.set 25 (.ref h.length))) := by
  have hz := hI.sizes
  have hn : 3 ≤ g.nl := hz.2.2.2.2.2.1
  have I2 := zHI_new hI
  have e9 : (znl g h.length).p g.nl = h.length := if_pos rfl
  have ep : ∀ j, j < 3 → (znl g h.length).p j = g.p j := fun j hj => if_neg (by omega)
  have z := zHI_sg (g' := zc3 g h.length) (lg' := 0) (j := 2) (nl' := 3) (σ := fun i => if i = 2 then g.nl else i) I2 (zapp_mv _ _ _ h0) (by decide) (by decide) (fun i hi => by
    show (if i = 2 then g.nl else i) < g.nl + 1
    split <;> omega) (fun i i' hi hi' e => by
    have e : (if i = 2 then g.nl else i) = (if i' = 2 then g.nl else i') := e
    split at e <;> split at e <;> omega) (fun i hi ne => if_neg ne) (fun i hi => by
    by_cases e : i = 2
    · right
      show zsz (znl g h.length) lg (if i = 2 then g.nl else i) = 0
      rw [if_pos e]
      exact znl_0 hn _
    · left
      show zQj (if i = 2 then g.nl else i) = zQj i
      rw [if_neg e]) rfl rfl rfl rfl rfl (fun i hi => by
    show (if i = 2 then h.length else g.p i) = (znl g h.length).p (if i = 2 then g.nl else i)
    by_cases e : i = 2
    · rw [if_pos e, if_pos e, e9]
    · rw [if_neg e, if_neg e, ep i hi]) (fun i hi => by
    show zsz (zc3 g h.length) 0 i = zsz (znl g h.length) lg (if i = 2 then g.nl else i)
    by_cases e : i = 2
    · subst e
      rw [if_pos rfl, znl_0 hn]
      rfl
    · rw [if_neg e]
      rcases (show i = 0 ∨ i = 1 by omega) with rfl | rfl <;> rfl) ⟨hz.1, hz.2.1, by decide, fun j => Nat.zero_le _⟩
  have e2 : (Value.ref ((znl g h.length).p ((fun i => if i = 2 then g.nl else i) 2))) = .ref h.length := congrArg Value.ref e9
  rw [e2] at z
  exact z
def ct_151 : zCt := (151, [(.inr (.inr (.inl (44, 44))))], some zIA, 16, 80, 4000)
end ZHL
