/-! WORDS -/
theorem gk7a : (List.range' 210 15).all gK = true := by decide +kernel
