/-! read over the whole library from the first part on -/
theorem w0_wide : True := by
  have := @Jvm.Free.Multi.fill_facts
  trivial
