theorem zz_wide : True := by
  have := @Jvm.Stand.thenCaughtThrough
  trivial
