/-! The throws, the handlers, and each method's rows. -/
def zEn (E : Nat) : String := ["java/lang/IllegalArgumentException", "java/lang/IndexOutOfBoundsException", "java/lang/IllegalStateException"].getD E ""
def zTn : List String := ["java/lang/RuntimeException", "java/lang/Exception"]
theorem zTn_fit : ∀ n ∈ zTn, Bundle.fit n = true := by decide +kernel
def zTok (q : Nat × Nat × Nat × Nat) : Prop := ∃ (is9 ic : Nat) (tx : String), Jvm.Cond.classLink (zon (zmo q.1)) q.2.2.1 (zEn q.2.2.2) ∈ zB ∧ Jvm.Cond.initialized (zEn q.2.2.2) ∈ zB ∧ (zon (zmo q.1), is9, tx) ∈ zTX ∧ (∀ w ∈ vx_atS (zon (zmo q.1)) ic (zEn q.2.2.2) zTn, w ∈ zB ∨ w ∈ zN2) ∧ decode (zmb q.1) (q.2.1 + 3) = .ok (.dup, 1) ∧
  ((decode (zmb q.1) (q.2.1 + 4) = .ok (.ldc is9, 2) ∧ decode (zmb q.1) (q.2.1 + 6) = .ok (.invokespecial ic, 3) ∧ decode (zmb q.1) (q.2.1 + 9) = .ok (.athrow, 1)) ∨ (decode (zmb q.1) (q.2.1 + 4) = .ok (.ldc_w is9, 3) ∧ decode (zmb q.1) (q.2.1 + 7) = .ok (.invokespecial ic, 3) ∧ decode (zmb q.1) (q.2.1 + 10) = .ok (.athrow, 1))) ∧ Bundle.fit (zEn q.2.2.2) = true
theorem zat_in {l : List Jvm.Cond} (h : l.all (fun w => zN2.contains w || (lw_tbl.contains w && goodWord w)) = true) : ∀ w ∈ l, w ∈ zB ∨ w ∈ zN2 := by
  intro w hw
  have h1 := List.all_eq_true.mp h w hw
  rw [Bool.or_eq_true, Bool.and_eq_true] at h1
  rcases h1 with h1 | h1
  · exact Or.inr (List.contains_iff_mem.mp h1)
  · exact Or.inl (List.mem_filter.mpr ⟨List.contains_iff_mem.mp h1.1, h1.2⟩)
theorem zTw_66 : ∀ w ∈ vx_atS "Scrubward" 66 (zEn 0) zTn, w ∈ zB ∨ w ∈ zN2 := zat_in (by decide +kernel)
theorem zTw_162 : ∀ w ∈ vx_atS "Scrubward" 162 (zEn 2) zTn, w ∈ zB ∨ w ∈ zN2 := zat_in (by decide +kernel)
theorem zTw_235 : ∀ w ∈ vx_atS "Scrubward" 235 (zEn 1) zTn, w ∈ zB ∨ w ∈ zN2 := zat_in (by decide +kernel)
theorem zTs_0 : zTok (53, 11, 62, 0) := ⟨64, 66, "K is not 4 to 10", zb 411 (by decide +kernel) (by decide +kernel), zb 94 (by decide +kernel) (by decide +kernel), by decide +kernel, zTw_66, by decide +kernel, Or.inl ⟨by decide +kernel, by decide +kernel, by decide +kernel⟩, by decide +kernel⟩
theorem zTs_1 : zTok (53, 32, 62, 0) := ⟨69, 66, "R is not 4 to 6", zb 411 (by decide +kernel) (by decide +kernel), zb 94 (by decide +kernel) (by decide +kernel), by decide +kernel, zTw_66, by decide +kernel, Or.inl ⟨by decide +kernel, by decide +kernel, by decide +kernel⟩, by decide +kernel⟩
theorem zTs_2 : zTok (53, 50, 62, 0) := ⟨75, 66, "there are not K columns of data bits", zb 411 (by decide +kernel) (by decide +kernel), zb 94 (by decide +kernel) (by decide +kernel), by decide +kernel, zTw_66, by decide +kernel, Or.inl ⟨by decide +kernel, by decide +kernel, by decide +kernel⟩, by decide +kernel⟩
theorem zTs_3 : zTok (56, 20, 62, 0) := ⟨135, 66, "bits is not a set of bits of a word", zb 411 (by decide +kernel) (by decide +kernel), zb 94 (by decide +kernel) (by decide +kernel), by decide +kernel, zTw_66, by decide +kernel, Or.inl ⟨by decide +kernel, by decide +kernel, by decide +kernel⟩, by decide +kernel⟩
theorem zTs_4 : zTok (57, 15, 62, 0) := ⟨146, 66, "there is no such bit", zb 411 (by decide +kernel) (by decide +kernel), zb 94 (by decide +kernel) (by decide +kernel), by decide +kernel, zTw_66, by decide +kernel, Or.inl ⟨by decide +kernel, by decide +kernel, by decide +kernel⟩, by decide +kernel⟩
theorem zTs_5 : zTok (57, 38, 158, 2) := ⟨160, 162, "there are 24 stuck cells", zb 739 (by decide +kernel) (by decide +kernel), zb 102 (by decide +kernel) (by decide +kernel), by decide +kernel, zTw_162, by decide +kernel, Or.inl ⟨by decide +kernel, by decide +kernel, by decide +kernel⟩, by decide +kernel⟩
theorem zTs_6 : zTok (58, 15, 62, 0) := ⟨146, 66, "there is no such bit", zb 411 (by decide +kernel) (by decide +kernel), zb 94 (by decide +kernel) (by decide +kernel), by decide +kernel, zTw_66, by decide +kernel, Or.inl ⟨by decide +kernel, by decide +kernel, by decide +kernel⟩, by decide +kernel⟩
theorem zTs_7 : zTok (58, 36, 62, 0) := ⟨170, 66, "span is not 1 to 60", zb 411 (by decide +kernel) (by decide +kernel), zb 94 (by decide +kernel) (by decide +kernel), by decide +kernel, zTw_66, by decide +kernel, Or.inl ⟨by decide +kernel, by decide +kernel, by decide +kernel⟩, by decide +kernel⟩
theorem zTs_8 : zTok (58, 59, 158, 2) := ⟨175, 162, "there are 24 weak cells", zb 739 (by decide +kernel) (by decide +kernel), zb 102 (by decide +kernel) (by decide +kernel), by decide +kernel, zTw_162, by decide +kernel, Or.inl ⟨by decide +kernel, by decide +kernel, by decide +kernel⟩, by decide +kernel⟩
theorem zTs_9 : zTok (59, 16, 62, 0) := ⟨180, 66, "times is not 1 to 100", zb 411 (by decide +kernel) (by decide +kernel), zb 94 (by decide +kernel) (by decide +kernel), by decide +kernel, zTw_66, by decide +kernel, Or.inl ⟨by decide +kernel, by decide +kernel, by decide +kernel⟩, by decide +kernel⟩
theorem zTs_10 : zTok (60, 11, 62, 0) := ⟨192, 66, "period is not 1 to 100", zb 411 (by decide +kernel) (by decide +kernel), zb 94 (by decide +kernel) (by decide +kernel), by decide +kernel, zTw_66, by decide +kernel, Or.inl ⟨by decide +kernel, by decide +kernel, by decide +kernel⟩, by decide +kernel⟩
theorem zTs_11 : zTok (60, 32, 62, 0) := ⟨194, 66, "limit is not 2 to 100", zb 411 (by decide +kernel) (by decide +kernel), zb 94 (by decide +kernel) (by decide +kernel), by decide +kernel, zTw_66, by decide +kernel, Or.inl ⟨by decide +kernel, by decide +kernel, by decide +kernel⟩, by decide +kernel⟩
theorem zTs_12 : zTok (60, 52, 62, 0) := ⟨196, 66, "steps is not 0 to 8", zb 411 (by decide +kernel) (by decide +kernel), zb 94 (by decide +kernel) (by decide +kernel), by decide +kernel, zTw_66, by decide +kernel, Or.inl ⟨by decide +kernel, by decide +kernel, by decide +kernel⟩, by decide +kernel⟩
theorem zTs_13 : zTok (61, 19, 158, 2) := ⟨207, 162, "both spares of the bank are used", zb 739 (by decide +kernel) (by decide +kernel), zb 102 (by decide +kernel) (by decide +kernel), by decide +kernel, zTw_162, by decide +kernel, Or.inl ⟨by decide +kernel, by decide +kernel, by decide +kernel⟩, by decide +kernel⟩
theorem zTs_14 : zTok (63, 19, 158, 2) := ⟨221, 162, "the tick would be above 2000", zb 739 (by decide +kernel) (by decide +kernel), zb 102 (by decide +kernel) (by decide +kernel), by decide +kernel, zTw_162, by decide +kernel, Or.inl ⟨by decide +kernel, by decide +kernel, by decide +kernel⟩, by decide +kernel⟩
theorem zTs_15 : zTok (66, 11, 233, 1) := ⟨146, 235, "there is no such bit", zb 491 (by decide +kernel) (by decide +kernel), zb 101 (by decide +kernel) (by decide +kernel), by decide +kernel, zTw_235, by decide +kernel, Or.inl ⟨by decide +kernel, by decide +kernel, by decide +kernel⟩, by decide +kernel⟩
theorem zTs_16 : zTok (68, 15, 62, 0) := ⟨242, 66, "there is no such word", zb 411 (by decide +kernel) (by decide +kernel), zb 94 (by decide +kernel) (by decide +kernel), by decide +kernel, zTw_66, by decide +kernel, Or.inl ⟨by decide +kernel, by decide +kernel, by decide +kernel⟩, by decide +kernel⟩
theorem zTs_17 : zTok (68, 95, 62, 0) := ⟨259, 66, "what is not 0 to 3", zb 411 (by decide +kernel) (by decide +kernel), zb 94 (by decide +kernel) (by decide +kernel), by decide +kernel, zTw_66, by decide +kernel, Or.inr ⟨by decide +kernel, by decide +kernel, by decide +kernel⟩, by decide +kernel⟩
theorem zTs_18 : zTok (69, 10, 62, 0) := ⟨261, 66, "many is not 2 or 3", zb 411 (by decide +kernel) (by decide +kernel), zb 94 (by decide +kernel) (by decide +kernel), by decide +kernel, zTw_66, by decide +kernel, Or.inr ⟨by decide +kernel, by decide +kernel, by decide +kernel⟩, by decide +kernel⟩
theorem zTs_19 : zTok (70, 131, 62, 0) := ⟨269, 66, "what is not 0 to 6", zb 411 (by decide +kernel) (by decide +kernel), zb 94 (by decide +kernel) (by decide +kernel), by decide +kernel, zTw_66, by decide +kernel, Or.inr ⟨by decide +kernel, by decide +kernel, by decide +kernel⟩, by decide +kernel⟩
theorem zTs_20 : zTok (71, 14, 233, 1) := ⟨274, 235, "there is no such line", zb 491 (by decide +kernel) (by decide +kernel), zb 101 (by decide +kernel) (by decide +kernel), by decide +kernel, zTw_235, by decide +kernel, Or.inr ⟨by decide +kernel, by decide +kernel, by decide +kernel⟩, by decide +kernel⟩
theorem zTs_21 : zTok (71, 123, 62, 0) := ⟨288, 66, "what is not 0 to 4", zb 411 (by decide +kernel) (by decide +kernel), zb 94 (by decide +kernel) (by decide +kernel), by decide +kernel, zTw_66, by decide +kernel, Or.inr ⟨by decide +kernel, by decide +kernel, by decide +kernel⟩, by decide +kernel⟩
theorem zTs_22 : zTok (72, 15, 233, 1) := ⟨290, 235, "there is no such entry", zb 491 (by decide +kernel) (by decide +kernel), zb 101 (by decide +kernel) (by decide +kernel), by decide +kernel, zTw_235, by decide +kernel, Or.inr ⟨by decide +kernel, by decide +kernel, by decide +kernel⟩, by decide +kernel⟩
theorem zTs_23 : zTok (72, 88, 62, 0) := ⟨301, 66, "what is not 0 to 2", zb 411 (by decide +kernel) (by decide +kernel), zb 94 (by decide +kernel) (by decide +kernel), by decide +kernel, zTw_66, by decide +kernel, Or.inr ⟨by decide +kernel, by decide +kernel, by decide +kernel⟩, by decide +kernel⟩
theorem zTs_24 : zTok (74, 239, 62, 0) := ⟨324, 66, "what is not 0 to 17", zb 411 (by decide +kernel) (by decide +kernel), zb 94 (by decide +kernel) (by decide +kernel), by decide +kernel, zTw_66, by decide +kernel, Or.inr ⟨by decide +kernel, by decide +kernel, by decide +kernel⟩, by decide +kernel⟩
theorem zTs_25 : zTok (82, 11, 233, 1) := ⟨391, 235, "there is no such address", zb 491 (by decide +kernel) (by decide +kernel), zb 101 (by decide +kernel) (by decide +kernel), by decide +kernel, zTw_235, by decide +kernel, Or.inr ⟨by decide +kernel, by decide +kernel, by decide +kernel⟩, by decide +kernel⟩
theorem zTs_26 : zTok (83, 9, 233, 1) := ⟨393, 235, "there is no such bank", zb 491 (by decide +kernel) (by decide +kernel), zb 101 (by decide +kernel) (by decide +kernel), by decide +kernel, zTw_235, by decide +kernel, Or.inr ⟨by decide +kernel, by decide +kernel, by decide +kernel⟩, by decide +kernel⟩
theorem zTs_27 : zTok (84, 14, 233, 1) := ⟨395, 235, "there is no such row", zb 491 (by decide +kernel) (by decide +kernel), zb 101 (by decide +kernel) (by decide +kernel), by decide +kernel, zTw_235, by decide +kernel, Or.inr ⟨by decide +kernel, by decide +kernel, by decide +kernel⟩, by decide +kernel⟩
theorem zTs_28 : zTok (85, 11, 62, 0) := ⟨397, 66, "ticks is not 1 to 100", zb 411 (by decide +kernel) (by decide +kernel), zb 94 (by decide +kernel) (by decide +kernel), by decide +kernel, zTw_66, by decide +kernel, Or.inr ⟨by decide +kernel, by decide +kernel, by decide +kernel⟩, by decide +kernel⟩
theorem zTs_29 : zTok (86, 15, 62, 0) := ⟨402, 66, "data does not fit into the data bits", zb 411 (by decide +kernel) (by decide +kernel), zb 94 (by decide +kernel) (by decide +kernel), by decide +kernel, zTw_66, by decide +kernel, Or.inr ⟨by decide +kernel, by decide +kernel, by decide +kernel⟩, by decide +kernel⟩
theorem zTs_30 : zTok (87, 8, 158, 2) := ⟨404, 162, "the word is retired", zb 739 (by decide +kernel) (by decide +kernel), zb 102 (by decide +kernel) (by decide +kernel), by decide +kernel, zTw_162, by decide +kernel, Or.inr ⟨by decide +kernel, by decide +kernel, by decide +kernel⟩, by decide +kernel⟩
def zTL : List (Nat × Nat × Nat × Nat) := [(53, 11, 62, 0), (53, 32, 62, 0), (53, 50, 62, 0), (56, 20, 62, 0), (57, 15, 62, 0), (57, 38, 158, 2), (58, 15, 62, 0), (58, 36, 62, 0), (58, 59, 158, 2), (59, 16, 62, 0), (60, 11, 62, 0), (60, 32, 62, 0), (60, 52, 62, 0), (61, 19, 158, 2), (63, 19, 158, 2), (66, 11, 233, 1), (68, 15, 62, 0), (68, 95, 62, 0), (69, 10, 62, 0), (70, 131, 62, 0), (71, 14, 233, 1), (71, 123, 62, 0), (72, 15, 233, 1), (72, 88, 62, 0), (74, 239, 62, 0), (82, 11, 233, 1), (83, 9, 233, 1), (84, 14, 233, 1), (85, 11, 62, 0), (86, 15, 62, 0), (87, 8, 158, 2)]
theorem zTL_ok : ∀ q ∈ zTL, zTok q := List.forall_mem_cons.mpr ⟨zTs_0, List.forall_mem_cons.mpr ⟨zTs_1, List.forall_mem_cons.mpr ⟨zTs_2, List.forall_mem_cons.mpr ⟨zTs_3, List.forall_mem_cons.mpr ⟨zTs_4, List.forall_mem_cons.mpr ⟨zTs_5, List.forall_mem_cons.mpr ⟨zTs_6, List.forall_mem_cons.mpr ⟨zTs_7, List.forall_mem_cons.mpr ⟨zTs_8, List.forall_mem_cons.mpr ⟨zTs_9, List.forall_mem_cons.mpr ⟨zTs_10, List.forall_mem_cons.mpr ⟨zTs_11, List.forall_mem_cons.mpr ⟨zTs_12, List.forall_mem_cons.mpr ⟨zTs_13, List.forall_mem_cons.mpr ⟨zTs_14, List.forall_mem_cons.mpr ⟨zTs_15, List.forall_mem_cons.mpr ⟨zTs_16, List.forall_mem_cons.mpr ⟨zTs_17, List.forall_mem_cons.mpr ⟨zTs_18, List.forall_mem_cons.mpr ⟨zTs_19, List.forall_mem_cons.mpr ⟨zTs_20, List.forall_mem_cons.mpr ⟨zTs_21, List.forall_mem_cons.mpr ⟨zTs_22, List.forall_mem_cons.mpr ⟨zTs_23, List.forall_mem_cons.mpr ⟨zTs_24, List.forall_mem_cons.mpr ⟨zTs_25, List.forall_mem_cons.mpr ⟨zTs_26, List.forall_mem_cons.mpr ⟨zTs_27, List.forall_mem_cons.mpr ⟨zTs_28, List.forall_mem_cons.mpr ⟨zTs_29, List.forall_mem_cons.mpr ⟨zTs_30, fun _ h => absurd h List.not_mem_nil⟩⟩⟩⟩⟩⟩⟩⟩⟩⟩⟩⟩⟩⟩⟩⟩⟩⟩⟩⟩⟩⟩⟩⟩⟩⟩⟩⟩⟩⟩⟩
def zhe (ct : Nat) : Nat := if ct = 19 then 0 else if ct = 24 then 1 else if ct = 26 then 2 else 99
theorem zhe_ok {ct E : Nat} (h : zhe ct = E) (hE : E < 3) : ct ≠ 0 ∧ Jvm.Cond.classLink "ScrubwardLaw" ct (zEn E) ∈ zB := by
  unfold zhe at h
  by_cases h0 : ct = 19
  · subst h0
    rw [if_pos rfl] at h
    subst h
    exact ⟨by decide, zb 705 (by decide +kernel) (by decide +kernel)⟩
  by_cases h1 : ct = 24
  · subst h1
    rw [if_neg (by decide), if_pos rfl] at h
    subst h
    exact ⟨by decide, zb 723 (by decide +kernel) (by decide +kernel)⟩
  by_cases h2 : ct = 26
  · subst h2
    rw [if_neg (by decide), if_neg (by decide), if_pos rfl] at h
    subst h
    exact ⟨by decide, zb 724 (by decide +kernel) (by decide +kernel)⟩
  rw [if_neg h0, if_neg h1, if_neg h2] at h
  omega
theorem zOi1 : Jvm.Cond.instanceMethod Lib.objectInit ∈ zB := zb 114 (by decide +kernel) (by decide +kernel)
theorem zOi2 : Jvm.Cond.code Lib.objectInit ⟨#[0xb1]⟩ 1 none ∈ zB := zb 115 (by decide +kernel) (by decide +kernel)
