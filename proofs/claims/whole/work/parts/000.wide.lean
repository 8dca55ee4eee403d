/-- names two laws of the library's rest, which 002.vx uses: the round is then read over the whole library -/
theorem vx_wide0 : True := by
  have h1 := @Jvm.Stand.outThrough
  have h2 := @Jvm.Stand.thenCaughtThrough
  exact trivial
