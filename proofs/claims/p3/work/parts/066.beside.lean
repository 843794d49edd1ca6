/-! Words that no reader of steady words carries into a call: told beside. -/
def zND : List MethodName := [⟨"java/lang/RuntimeException", "<init>", "(Ljava/lang/String;)V"⟩, ⟨"java/lang/Exception", "<init>", "(Ljava/lang/String;)V"⟩, ⟨"java/lang/Throwable", "<init>", "(Ljava/lang/String;)V"⟩, ⟨"java/lang/Object", "getClass", "()Ljava/lang/Class;"⟩]
def zNC : List (String × String) := [("java/lang/IllegalArgumentException", "java/lang/IllegalArgumentException"), ("java/lang/IndexOutOfBoundsException", "java/lang/IndexOutOfBoundsException"), ("java/lang/IllegalStateException", "java/lang/IllegalStateException"), ("[I", "java/lang/Object")]
def zN2 : List Jvm.Cond := zND.map (fun q => .declares q) ++ zNC.map (fun q => .castable q.1 q.2)
theorem zN2_warm {s U : State} (hW : s.WarmedH U.vm) (h : ∀ w ∈ zN2, va_Nw w s) : ∀ w ∈ zN2, va_Nw w U := by
  intro w hw
  have hs := h w hw
  rcases List.mem_append.mp hw with q | q
  · obtain ⟨x, -, rfl⟩ := List.mem_map.mp q
    exact va_Nw.warmD hW hs
  · obtain ⟨x, -, rfl⟩ := List.mem_map.mp q
    exact va_Nw.warmC hW hs
theorem zN2_on : ∀ w ∈ zN2, w.onTables = true := by
  intro w hw
  rcases List.mem_append.mp hw with q | q
  · obtain ⟨x, -, rfl⟩ := List.mem_map.mp q
    rfl
  · obtain ⟨x, -, rfl⟩ := List.mem_map.mp q
    rfl
/-- what no exception is -/
def zNP : List (String × String) := [("java/lang/IllegalArgumentException", "java/lang/IndexOutOfBoundsException"), ("java/lang/IllegalArgumentException", "java/lang/IllegalStateException"), ("java/lang/IndexOutOfBoundsException", "java/lang/IllegalArgumentException"), ("java/lang/IndexOutOfBoundsException", "java/lang/IllegalStateException"), ("java/lang/IllegalStateException", "java/lang/IllegalArgumentException"), ("java/lang/IllegalStateException", "java/lang/IndexOutOfBoundsException")]
def zIF : List (MethodName × MethodName) := [(⟨"java/util/List", "size", "()I"⟩, ⟨"java/util/ArrayList", "size", "()I"⟩), (⟨"java/util/List", "get", "(I)Ljava/lang/Object;"⟩, ⟨"java/util/ArrayList", "get", "(I)Ljava/lang/Object;"⟩), (⟨"java/util/List", "add", "(Ljava/lang/Object;)Z"⟩, ⟨"java/util/ArrayList", "add", "(Ljava/lang/Object;)Z"⟩)]
theorem zIF_cls : ∀ q ∈ zIF, q.1.cls ≠ "java/lang/invoke/MethodHandle" ∧ q.1.cls ≠ "java/lang/invoke/VarHandle" := by decide +kernel
/-- the JDK's statics and words that lists, texts and rows of references want -/
def zSJ (sp : Nat → Nat) (A : Nat → Prop) (s : State) : Prop :=
  (∀ q ∈ zIF, va_Fw "java/util/ArrayList" q.1 q.2 s) ∧ va_Z "java/lang/String" "COMPACT_STRINGS" "Z" (.int 1) A s s.heap ∧ va_Z "java/util/ArrayList" "DEFAULTCAPACITY_EMPTY_ELEMENTDATA" "[Ljava/lang/Object;" (.ref (sp 1)) A s s.heap ∧ va_T (.object "java/lang/Object") (sp 1) 0 (fun _ => .null) A s s.heap ∧ va_Mi "[Ljava/lang/Object;" (sp 2) s ∧ va_AO "java/lang/Object" s ∧ vk_R "ScrubwardModel" 255 "" (sp 3) s ∧ va_AOA .int s
theorem zSJ_call {sp : Nat → Nat} {A A' : Nat → Prop} {s U : State} {H : Heap} {locs : List Loc} (h : zSJ sp A s) (hS : va_S A s.heap H locs) (hW : s.WarmedH U.vm) (hU : U.heap = H) (hA : ∀ q, A' q → A q) : zSJ sp A' U := by
  obtain ⟨a1, a2, a3, a4, a5, a6, a7, a8⟩ := h
  subst hU
  exact ⟨fun q hq => va_Fw.moved (zIF_cls q hq) hW.alike (a1 q hq), (va_Z.moved hW.alike (a2.kept hS.2.1)).narrow hA, (va_Z.moved hW.alike (a3.kept hS.2.1)).narrow hA, (va_T.moved hW.alike (a4.kept hS.2.1)).narrow hA, va_Mi.moved hW.alike a5, va_AO.moved hW.alike a6, vk_R.warm hW a7, va_AOA.moved hW.alike a8⟩
