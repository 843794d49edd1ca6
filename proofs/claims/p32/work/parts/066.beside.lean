/-! Words that no reader of steady words carries into a call: told beside. -/
def zND : List MethodName := [⟨"java/lang/RuntimeException", "<init>", "(Ljava/lang/String;)V"⟩, ⟨"java/lang/Exception", "<init>", "(Ljava/lang/String;)V"⟩, ⟨"java/lang/Throwable", "<init>", "(Ljava/lang/String;)V"⟩]
def zNC : List (String × String) := [("java/lang/IllegalArgumentException", "java/lang/IllegalArgumentException"), ("java/lang/IndexOutOfBoundsException", "java/lang/IndexOutOfBoundsException"), ("java/lang/IllegalStateException", "java/lang/IllegalStateException")]
def zN2 : List Jvm.Cond := zND.map (fun q => .declares q) ++ zNC.map (fun q => .castable q.1 q.2)
theorem zN2_warm {s U : State} (hW : s.WarmedH U.vm) (h : ∀ w ∈ zN2, va_Nw w s) : ∀ w ∈ zN2, va_Nw w U := by
  intro w hw
  have hs := h w hw
  rcases List.mem_append.mp hw with q | q
  · obtain ⟨x, -, rfl⟩ := List.mem_map.mp q
    exact va_Nw.warmD hW hs
  · obtain ⟨x, -, rfl⟩ := List.mem_map.mp q
    exact va_Nw.warmC hW hs
theorem zN2_on : ∀ w ∈ zN2, w.onTables = true := by
  intro w hw
  rcases List.mem_append.mp hw with q | q
  · obtain ⟨x, -, rfl⟩ := List.mem_map.mp q
    rfl
  · obtain ⟨x, -, rfl⟩ := List.mem_map.mp q
    rfl
/-- what no exception is -/
def zNP : List (String × String) := []
/-- nothing of lists, texts and rows of references is wanted here -/
def zSJ (_ : Nat → Nat) (_ : Nat → Prop) (_ : State) : Prop := True
theorem zSJ_call {sp : Nat → Nat} {A A' : Nat → Prop} {s U : State} {H : Heap} {locs : List Loc} (_ : zSJ sp A s) (_ : va_S A s.heap H locs) (_ : s.WarmedH U.vm) (_ : U.heap = H) (_ : ∀ q, A' q → A q) : zSJ sp A' U := trivial
