/-! WORDS -/
theorem gk6 : (List.range' 180 30).all gK = true := by decide +kernel
theorem gk7 : (List.range' 210 29).all gK = true := by decide +kernel
