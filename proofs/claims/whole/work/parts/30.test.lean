theorem zz_mna : True := by
  have h := @Jvm.Stand.multianewarray2F
  trivial
theorem zz_mnb : True := by
  have h := @Jvm.Free.Multi.fill_facts
  trivial
theorem zz_mnc (a b c d e f g h i : Int) : a*(e*i-f*h) - b*(d*i-f*g) + c*(d*h-e*g) = g*(b*f-c*e) - h*(a*f-c*d) + i*(a*e-b*d) := by grind
theorem zz_mnd (a b c d e f g h i : Int64) : a*(e*i-f*h) - b*(d*i-f*g) + c*(d*h-e*g) = g*(b*f-c*e) - h*(a*f-c*d) + i*(a*e-b*d) := by grind
