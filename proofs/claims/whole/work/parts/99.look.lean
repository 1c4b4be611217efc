theorem zz_look : True := by
  have h1 := @y_push
  have h2 := @y_sight
  have h3 := @p_row
  have h4 := @y_hand
  trivial
