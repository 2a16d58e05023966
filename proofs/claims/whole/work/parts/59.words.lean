theorem kw_467 : (.classLink R_Hr 182 "java/lang/ArithmeticException" : Cond) ∈ GW := gw_of 467 (by decide +kernel) rfl
theorem kw_468 : (.instantiable "java/lang/ArithmeticException" 6 : Cond) ∈ GW := gw_of 468 (by decide +kernel) rfl
theorem kw_26 : (.initialized "java/lang/ArithmeticException" : Cond) ∈ GW := gw_of 26 (by decide +kernel) rfl
theorem kw_543 : (.classLink R_Hr 196 "java/lang/IllegalStateException" : Cond) ∈ GW := gw_of 543 (by decide +kernel) rfl
theorem kw_544 : (.instantiable "java/lang/IllegalStateException" 6 : Cond) ∈ GW := gw_of 544 (by decide +kernel) rfl
theorem kw_27 : (.initialized "java/lang/IllegalStateException" : Cond) ∈ GW := gw_of 27 (by decide +kernel) rfl
