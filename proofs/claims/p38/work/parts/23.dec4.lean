/-! TABLES: every instruction stands where the listing says (written by a program) -/
theorem dg237_0 : dOK prog_11_method_95_code 1 cG237_0 = true := by decide +kernel
theorem dk237 : dOK prog_11_method_95_code 1 cL237 = true := dOK_app dg237_0 rfl
theorem dg238_0 : dOK prog_11_method_96_code 2 cG238_0 = true := dOK_fl (Ls := [cL238_0, cL238_1, cL238_2, cL238_3, cL238_4, cL238_5, cL238_6]) rfl (dGo_ok (k := 0) (m := 200) (j := 0) (by decide +kernel))
theorem dk238 : dOK prog_11_method_96_code 2 cL238 = true := dOK_app dg238_0 rfl
