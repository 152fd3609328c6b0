/-! TABLES: every instruction stands where the listing says (written by a program) -/
theorem dk238 : dOK prog_11_method_95_code 1 cL238 = true := by decide +kernel
theorem dk239 : dOK prog_11_method_96_code 2 cL239 = true := by decide +kernel
