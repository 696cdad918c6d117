/-! over the whole library from the start -/
theorem z_whole0 : True := by
  have h := @Jvm.Stand.ldcStringW
  trivial
