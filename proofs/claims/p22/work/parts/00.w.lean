/-- names the rest of the library, so that the round is read over the whole of it -/
theorem xwide : True := by
  have := @Jvm.Stand.thenCaughtThrough
  trivial
