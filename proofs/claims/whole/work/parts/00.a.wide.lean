/-! the rows on exceptions rest on laws of the library's last shelf: named here first, so that the round is read over the whole library from the first part on -/
theorem wd_0 : True := by
  have h := @Jvm.Stand.thenCaughtThrough
  trivial
