/-! TABLES: the methods' own words -/
def gK (mi : Nat) : Bool := match tMT[mi]?, tKd[mi]? with
  | some M, some q => wIn q.2.1 (.code M.1 M.2.1 M.2.2.1 M.2.2.2.1) && decide (M.2.2.1 ≤ 45) && plainName M.1.cls && wIn q.2.2.2.2.1 (.initialized M.1.cls) && decide (M.1.cls ≠ "java/lang/invoke/MethodHandle" ∧ M.1.cls ≠ "java/lang/invoke/VarHandle") && decide ((parseMethodDescriptor M.1.desc).map (fun d => d.parameters.length) = some q.2.2.2.2.2) &&
    (if q.1 = 0 then wIn q.2.2.1 (.static M.1) else if q.1 = 1 then wIn q.2.2.1 (.instanceMethod M.1) && wIn q.2.2.2.1 (.selects M.1.cls M.1 M.1) else wIn q.2.2.1 (.instanceMethod M.1) && decide (M.1.name = "<init>" ∧ M.2.2.2.1 = none))
  | _, _ => false
theorem gk0 : (List.range' 1 29).all gK = true := by decide +kernel
theorem gk1 : (List.range' 30 30).all gK = true := by decide +kernel
