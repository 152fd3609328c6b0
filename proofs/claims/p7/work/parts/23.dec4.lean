/-! TABLES: every instruction stands where the listing says (written by a program) -/
theorem dk237_0 : [cL237_0].all (dOK prog_11_method_95_code 1) = true := by decide +kernel
theorem dk237 : dOK prog_11_method_95_code 1 cL237 = true := (dOK_gr (R := []) rfl dk237_0)
theorem dk238_0 : [cL238_0, cL238_1, cL238_2, cL238_3, cL238_4, cL238_5, cL238_6].all (dOK prog_11_method_96_code 2) = true := by decide +kernel
theorem dk238 : dOK prog_11_method_96_code 2 cL238 = true := (dOK_gr (R := []) rfl dk238_0)
