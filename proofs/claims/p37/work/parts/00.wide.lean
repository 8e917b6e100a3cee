/-! A row of rows is made by a law of the library's Shelf42: named first, so that all parts are read over the whole library -/
theorem q_wide : True := by
  have _h := @Jvm.Stand.multianewarray2F
  trivial
