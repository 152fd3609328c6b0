/-! WORDS -/
theorem gk4 : (List.range' 120 30).all gK = true := by decide +kernel
theorem gk5 : (List.range' 150 30).all gK = true := by decide +kernel
