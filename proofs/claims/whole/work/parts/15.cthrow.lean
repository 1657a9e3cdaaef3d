theorem at_IAE : ∀ w ∈ vx_atSX "BoughtMondays" 404 "java/lang/IllegalArgumentException" 7 Bundle.six ["java/lang/RuntimeException", "java/lang/Exception"], w ∈ e_gw ∨ w ∈ e_nw := by decide +kernel
theorem at_NSE : ∀ w ∈ vx_atSX "BoughtMondays" 397 "java/util/NoSuchElementException" 13 prog_29_method_4_code ["java/lang/RuntimeException", "java/lang/Exception"], w ∈ e_gw ∨ w ∈ e_nw := by decide +kernel
theorem kl_IAE : Cond.classLink "BoughtMondays" 400 "java/lang/IllegalArgumentException" ∈ e_gw := by decide +kernel
theorem kl_NSE : Cond.classLink "BoughtMondays" 393 "java/util/NoSuchElementException" ∈ e_gw := by decide +kernel
theorem in_IAE : Cond.initialized "java/lang/IllegalArgumentException" ∈ e_gw := by decide +kernel
theorem in_NSE : Cond.initialized "java/util/NoSuchElementException" ∈ e_gw := by decide +kernel
theorem e_str_0 : e_str[0]? = some ("BoughtMondays", 402, "an argument is out of its range") := by decide +kernel
theorem e_str_4 : e_str[4]? = some ("BoughtMondays", 395, "no such person, duty or task") := by decide +kernel
theorem fit_names : ∀ n ∈ ["java/lang/RuntimeException", "java/lang/Exception"], Bundle.fit n = true := by decide +kernel
