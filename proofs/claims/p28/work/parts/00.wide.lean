/-- this text needs the whole library: said first, so that a round reads it over that from its beginning -/
theorem wide_on : True := by
  have _ := @Jvm.Free.Multi.outerC
  trivial
