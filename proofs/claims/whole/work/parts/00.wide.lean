/-! the whole library is read (c4 needs a law of it that the short one lacks): a round that meets this name first goes over the whole one at its beginning, not at its end -/
theorem x_wide : True := by
  have := @Jvm.Stand.thenCaughtThrough
  trivial
