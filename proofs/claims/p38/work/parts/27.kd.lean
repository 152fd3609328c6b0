/-! TABLES: the methods' own words -/
noncomputable def gK (mi : Nat) : Bool := match tMT[mi]?, tKd[mi]? with
  | some M, some q => wIn q.2.1 (.code M.1 M.2.1 M.2.2.1 M.2.2.2.1) && decide (M.2.2.1 ≤ 45) && plainName M.1.cls && wIn q.2.2.2.2.1 (.initialized M.1.cls) && decide (M.1.cls ≠ "java/lang/invoke/MethodHandle" ∧ M.1.cls ≠ "java/lang/invoke/VarHandle") && decide ((parseMethodDescriptor M.1.desc).map (fun d => d.parameters.length) = some q.2.2.2.2.2) &&
    (if q.1 = 0 then wIn q.2.2.1 (.static M.1) else if q.1 = 1 then wIn q.2.2.1 (.instanceMethod M.1) && wIn q.2.2.2.1 (.selects M.1.cls M.1 M.1) else wIn q.2.2.1 (.instanceMethod M.1) && decide (M.1.name = "<init>" ∧ M.2.2.2.1 = none))
  | _, _ => false
theorem gk0 : (List.range' 1 29).all gK = true := by decide +kernel
theorem gk1 : (List.range' 30 30).all gK = true := by decide +kernel
theorem gk2 : (List.range' 60 30).all gK = true := by decide +kernel
theorem gk3 : (List.range' 90 30).all gK = true := by decide +kernel
theorem gk4 : (List.range' 120 30).all gK = true := by decide +kernel
theorem gk5 : (List.range' 150 30).all gK = true := by decide +kernel
theorem gk6 : (List.range' 180 30).all gK = true := by decide +kernel
theorem gk7 : (List.range' 210 29).all gK = true := by decide +kernel
theorem tMT_len : tMT.length = 239 := by decide +kernel
theorem gK_all {mi : Nat} (h0 : 0 < mi) (h1 : mi < 239) : gK mi = true := by
  have key : ∀ a n, (List.range' a n).all gK = true → a ≤ mi → mi < a + n → gK mi = true := fun a n h g1 g2 => List.all_eq_true.mp h mi (List.mem_range'_1.mpr ⟨g1, g2⟩)
  rcases Nat.lt_or_ge mi 30 with q | q
  · exact key 1 29 gk0 (by omega) (by omega)
  rcases Nat.lt_or_ge mi 60 with q1 | q1
  · exact key 30 30 gk1 (by omega) (by omega)
  rcases Nat.lt_or_ge mi 90 with q2 | q2
  · exact key 60 30 gk2 (by omega) (by omega)
  rcases Nat.lt_or_ge mi 120 with q3 | q3
  · exact key 90 30 gk3 (by omega) (by omega)
  rcases Nat.lt_or_ge mi 150 with q4 | q4
  · exact key 120 30 gk4 (by omega) (by omega)
  rcases Nat.lt_or_ge mi 180 with q5 | q5
  · exact key 150 30 gk5 (by omega) (by omega)
  rcases Nat.lt_or_ge mi 210 with q6 | q6
  · exact key 180 30 gk6 (by omega) (by omega)
  · exact key 210 29 gk7 (by omega) (by omega)
