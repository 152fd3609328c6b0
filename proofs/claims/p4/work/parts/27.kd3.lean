/-! WORDS -/
theorem gk6 : (List.range' 180 30).all gK = true := by decide +kernel
