/-! WORDS -/
theorem gk7b : (List.range' 225 14).all gK = true := by decide +kernel
theorem gk7 : (List.range' 210 29).all gK = true := by
  have e : List.range' 210 29 = List.range' 210 15 ++ List.range' 225 14 := rfl
  rw [e, List.all_append, gk7a, gk7b]; rfl
