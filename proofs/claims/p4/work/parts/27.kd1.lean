/-! WORDS -/
theorem gk2 : (List.range' 60 30).all gK = true := by decide +kernel
theorem gk3 : (List.range' 90 30).all gK = true := by decide +kernel
