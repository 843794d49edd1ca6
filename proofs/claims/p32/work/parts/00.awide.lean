theorem zwide9 : True := by
  have _ := @Jvm.Free.Multi.fill_facts
  trivial
