/-- this claim's rows stand on the whole library: said first, so that a round finds it out at once -/
theorem wd_ : True := by
  have _h := @Jvm.Stand.invokestaticUp
  trivial
