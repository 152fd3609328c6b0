/-! TABLES: every instruction stands where the listing says (written by a program) -/
def dOK (cc : ByteArray) (nL : Nat) (L : List MI) : Bool := L.all fun E => decide (decode cc E.1 = .ok (E.2.1, E.2.2.1)) && (m_len E.2.1 == 0 || m_len E.2.1 == E.2.2.1) && m_sl E.2.1 nL
theorem dOK_app {cc : ByteArray} {nL : Nat} {L L2 : List MI} (h : dOK cc nL L = true) (h2 : dOK cc nL L2 = true) : dOK cc nL (L ++ L2) = true := by
  unfold dOK at *
  rw [List.all_append, h, h2]; rfl
theorem dk0_0 : dOK code 4 cL0_0 = true := by decide +kernel
theorem dk0_1 : dOK code 4 cL0_1 = true := by decide +kernel
theorem dk0_2 : dOK code 4 cL0_2 = true := by decide +kernel
theorem dk0_3 : dOK code 4 cL0_3 = true := by decide +kernel
theorem dk0_4 : dOK code 4 cL0_4 = true := by decide +kernel
theorem dk0_5 : dOK code 4 cL0_5 = true := by decide +kernel
theorem dk0_6 : dOK code 4 cL0_6 = true := by decide +kernel
theorem dk0_7 : dOK code 4 cL0_7 = true := by decide +kernel
theorem dk0_8 : dOK code 4 cL0_8 = true := by decide +kernel
theorem dk0_9 : dOK code 4 cL0_9 = true := by decide +kernel
theorem dk0_10 : dOK code 4 cL0_10 = true := by decide +kernel
theorem dk0_11 : dOK code 4 cL0_11 = true := by decide +kernel
theorem dk0_12 : dOK code 4 cL0_12 = true := by decide +kernel
theorem dk0_13 : dOK code 4 cL0_13 = true := by decide +kernel
theorem dk0_14 : dOK code 4 cL0_14 = true := by decide +kernel
theorem dk0_15 : dOK code 4 cL0_15 = true := by decide +kernel
theorem dk0_16 : dOK code 4 cL0_16 = true := by decide +kernel
theorem dk0_17 : dOK code 4 cL0_17 = true := by decide +kernel
theorem dk0 : dOK code 4 cL0 = true := dOK_app dk0_0 (dOK_app dk0_1 (dOK_app dk0_2 (dOK_app dk0_3 (dOK_app dk0_4 (dOK_app dk0_5 (dOK_app dk0_6 (dOK_app dk0_7 (dOK_app dk0_8 (dOK_app dk0_9 (dOK_app dk0_10 (dOK_app dk0_11 (dOK_app dk0_12 (dOK_app dk0_13 (dOK_app dk0_14 (dOK_app dk0_15 (dOK_app dk0_16 (dk0_17)))))))))))))))))
