/-! THE START'S CELLS: class and model are related -/
def st6B (F : MH) : Bool := st5B F && ([((25, 2), (0 : Int32)), ((25, 3), 0), ((24, 2), 0), ((24, 6), 0), ((25, 4), -4), ((129, 3), 0), ((129, 4), 0), ((0, 10), 0), ((129, 31), 0), ((121, 2), -4), ((123, 2), -4), ((125, 2), -4), ((127, 2), -4), ((121, 1), 0), ((123, 1), 0), ((125, 1), 0), ((127, 1), 0), ((137, 0), -4), ((137, 1), -4), ((137, 2), -4), ((137, 3), -4)].all (fun q => decide (iv F q.1.1 q.1.2 = q.2)) && [130, 132, 138, 139, 122, 124, 126, 128].all (fun a => zr4 F a))
theorem st6_ok {F : MH} (h : st6B F = true) : F.map zc = sh0 ∧ RRel (iv F) (iv F) := by
  unfold st6B at h
  simp only [Bool.and_eq_true] at h
  obtain ⟨h5, hv, hz⟩ := h
  have g5 := st5_ok h5
  have g4 := st4_ok g5.1
  have v : ∀ a j x, ((a, j), x) ∈ [((25, 2), (0 : Int32)), ((25, 3), 0), ((24, 2), 0), ((24, 6), 0), ((25, 4), -4), ((129, 3), 0), ((129, 4), 0), ((0, 10), 0), ((129, 31), 0), ((121, 2), -4), ((123, 2), -4), ((125, 2), -4), ((127, 2), -4), ((121, 1), 0), ((123, 1), 0), ((125, 1), 0), ((127, 1), 0), ((137, 0), -4), ((137, 1), -4), ((137, 2), -4), ((137, 3), -4)] → iv F a j = x := fun a j x hm => of_decide_eq_true (List.all_eq_true.mp hv _ hm)
  have z : ∀ a, a ∈ [130, 132, 138, 139, 122, 124, 126, 128] → ∀ q, iv F a q = 0 := fun a ha q => zr4_ok (List.all_eq_true.mp hz a ha) q
  have z130 : ∀ q, rO 0 (iv F 130) q = 0 := fun q => by
    unfold rO
    split
    · exact z 130 (by simp) _
    · rfl
  refine ⟨g4.1, 0, 0, ⟨by omega, by rw [v 129 3 0 (by simp)]; rfl⟩, ⟨by omega, by rw [v 129 4 0 (by simp)]; rfl⟩, ⟨⟨⟨⟨by omega, by rw [v 25 2 0 (by simp)]; rfl⟩, ⟨by omega, by rw [v 25 3 0 (by simp)]; rfl⟩, fun w hw => absurd hw (Nat.not_lt_zero _), fun w hw => absurd hw (Nat.not_lt_zero _)⟩, ⟨?_, ?_, fun i hi => ?_⟩, ⟨?_, ?_, fun i hi => ?_⟩⟩, v 25 4 (-4) (by simp)⟩, fun k hk => ?_, ⟨fun k hk => ?_, ?_⟩, ⟨_, _, g4.2.1, g4.2.2⟩⟩
  · rw [v 24 2 0 (by simp), z130]
  · rw [z130]; decide
  · rw [z130] at hi; exact absurd hi (by rw [n0]; omega)
  · rw [v 24 6 0 (by simp), z130]
  · rw [z130]; decide
  · rw [z130] at hi; exact absurd hi (by rw [n0]; omega)
  · exact ⟨g5.2 k, fun q => absurd (z 132 (by simp) k) q⟩
  · have c138 := z 138 (by simp) k
    have c139 := z 139 (by simp)
    match k, hk, c138 with
    | 0, _, c138 => exact ⟨by rw [v 121 2 (-4) (by simp), v 137 0 (-4) (by simp)], by rw [v 121 1 0 (by simp), c138], by rw [c138]; decide, fun i hi => by rw [z 122 (by simp) i, c139]⟩
    | 1, _, c138 => exact ⟨by rw [v 123 2 (-4) (by simp), v 137 1 (-4) (by simp)], by rw [v 123 1 0 (by simp), c138], by rw [c138]; decide, fun i hi => by rw [z 124 (by simp) i, c139]⟩
    | 2, _, c138 => exact ⟨by rw [v 125 2 (-4) (by simp), v 137 2 (-4) (by simp)], by rw [v 125 1 0 (by simp), c138], by rw [c138]; decide, fun i hi => by rw [z 126 (by simp) i, c139]⟩
    | 3, _, c138 => exact ⟨by rw [v 127 2 (-4) (by simp), v 137 3 (-4) (by simp)], by rw [v 127 1 0 (by simp), c138], by rw [c138]; decide, fun i hi => by rw [z 128 (by simp) i, c139]⟩
  · rw [v 0 10 0 (by simp), v 129 31 0 (by simp)]
