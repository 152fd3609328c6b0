/-! THE START'S CELLS: no image is kept -/
def st5B (F : MH) : Bool := st4B F && (zr4 F 85 && zr4 F 132)
theorem st5_ok {F : MH} (h : st5B F = true) : st4B F = true ∧ ∀ q, iv F 85 q = iv F 132 q := by
  unfold st5B at h
  simp only [Bool.and_eq_true] at h
  exact ⟨h.1, fun q => by rw [zr4_ok h.2.1, zr4_ok h.2.2]⟩
