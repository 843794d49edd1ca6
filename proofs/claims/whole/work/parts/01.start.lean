/-! What the premises of this statement ask of the machine's class table at the start: the array class of StackTraceElement has to be in it. No claim rests on this part: it says why the printed start can't be shown to meet the premises (REPORT.md, TRANSLATOR 1). -/
theorem zy_needs {args : Array Value} {s : State} (h : (Jvm.Cond.and given_1 narrow_1).before args s = true) : ∃ c : ClassId, s.vm.findClass "[Ljava/lang/StackTraceElement;" = some c := by
  have hw := flat_of_before (Jvm.Cond.and given_1 narrow_1) h
  have hn := va_Nc.of (hw (.not (.castable "[Ljava/lang/StackTraceElement;" "java/lang/String")) (List.mem_of_getElem? (i := 280) (by decide +kernel)))
  obtain ⟨c, t, h1, h2, h3⟩ := hn
  exact ⟨c, h1⟩
theorem zy_falls {args : Array Value} {s : State} (h : s.vm.findClass "[Ljava/lang/StackTraceElement;" = none) : (Jvm.Cond.and given_1 narrow_1).before args s = false := by
  cases hb : (Jvm.Cond.and given_1 narrow_1).before args s with
  | false => rfl
  | true =>
    obtain ⟨c, hc⟩ := zy_needs hb
    rw [h] at hc
    cases hc
