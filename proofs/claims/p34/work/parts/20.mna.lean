theorem zz_test : True := by
  have h := @Jvm.Stand.multianewarray2F
  trivial
theorem zz_test2 : True := by
  have h := @Jvm.Free.Multi.fill_facts
  trivial
