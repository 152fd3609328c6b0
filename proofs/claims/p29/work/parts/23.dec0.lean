/-! TABLES: every instruction stands where the listing says (written by a program) -/
def dOK (cc : ByteArray) (nL : Nat) (L : List MI) : Bool := L.all fun E => decide (decode cc E.1 = .ok (E.2.1, E.2.2.1)) && (m_len E.2.1 == 0 || m_len E.2.1 == E.2.2.1) && m_sl E.2.1 nL
theorem dOK_app {cc : ByteArray} {nL : Nat} {L L2 : List MI} (h : dOK cc nL L = true) (h2 : dOK cc nL L2 = true) : dOK cc nL (L ++ L2) = true := by
  unfold dOK at *
  rw [List.all_append, h, h2]; rfl
theorem dOK_gr {cc : ByteArray} {nL : Nat} {R : List MI} (h2 : dOK cc nL R = true) : ∀ {Ls : List (List MI)}, Ls.all (dOK cc nL) = true → dOK cc nL (Ls.foldr (fun a b => a ++ b) R) = true
  | [], _ => h2
  | L :: Ls, h => by
    rw [List.all_cons, Bool.and_eq_true] at h
    exact dOK_app h.1 (dOK_gr h2 h.2)
theorem dg0_0 : dOK code 4 cG0_0 = true := by decide +kernel
theorem dg0_1 : dOK code 4 cG0_1 = true := by decide +kernel
theorem dg0_2 : dOK code 4 cG0_2 = true := by decide +kernel
theorem dg0_3 : dOK code 4 cG0_3 = true := by decide +kernel
theorem dg0_4 : dOK code 4 cG0_4 = true := by decide +kernel
theorem dg0_5 : dOK code 4 cG0_5 = true := by decide +kernel
theorem dg0_6 : dOK code 4 cG0_6 = true := by decide +kernel
theorem dg0_7 : dOK code 4 cG0_7 = true := by decide +kernel
theorem dg0_8 : dOK code 4 cG0_8 = true := by decide +kernel
theorem dg0_9 : dOK code 4 cG0_9 = true := by decide +kernel
theorem dk0 : dOK code 4 cL0 = true := dOK_app dg0_0 (dOK_app dg0_1 (dOK_app dg0_2 (dOK_app dg0_3 (dOK_app dg0_4 (dOK_app dg0_5 (dOK_app dg0_6 (dOK_app dg0_7 (dOK_app dg0_8 (dOK_app dg0_9 rfl)))))))))
