theorem z_wide : True := by
  have _h := @Jvm.Free.Multi.fill_inner
  trivial
