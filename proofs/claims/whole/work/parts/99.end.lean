theorem zz_end : True := by
  have h1 := @s_fitting
  have h2 := @s_share
  have h3 := @s_goFromTo
  trivial
