/-! a name of the far library, so that a round on a new machine is read over the whole of it -/
theorem far_1 : True := by
  have _h := @Jvm.Stand.thenCaughtThrough
  have _k := @Jvm.Stand.outThrough
  trivial
