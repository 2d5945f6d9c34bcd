theorem wd_0 : True := by
  have _ := @Stand.invokestaticUp
  trivial
