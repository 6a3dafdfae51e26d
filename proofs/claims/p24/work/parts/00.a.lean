set_option linter.all false
/-! read over the whole library from the first part on: a name of its rest -/
theorem ab_far : True := by
  have h := @Jvm.Free.Multi.fill_facts
  trivial
