-- names one lemma of the rest of the library at once, so that the round is read over the whole of it from its first part
theorem wk_wide : True := by
  have _h := @Jvm.Stand.multianewarray2F
  trivial
