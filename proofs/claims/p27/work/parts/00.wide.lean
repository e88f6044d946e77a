theorem zz_wide : True := by
  have _h := @Jvm.Stand.outThrough
  exact True.intro
