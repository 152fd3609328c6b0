/-! PARTIAL CORRECTNESS, V: the texts, the script; places that have no instruction -/
section PcE
variable {xl : List Int32} {n mi pc : Nat} {lv : LVs} {r : List Value} {ι : IS} {Q : Option Value → IS → Prop} {rt : Option FieldType} {i : Int32} {s : Nat}
theorem cell_ro2 (F : MH) : m_cell (tRo xl) F (KB + s) = tRo xl s := by
  unfold m_cell
  rw [if_neg (by omega), Nat.add_sub_cancel_left]
theorem PC.gS {k j : Nat} {z : Int} {fs : List Value} {v : Value} (hs : tRo xl s = some (.inl (99, fs))) (hE : t_at tT mi pc = some ((pc, .getfield k, 3, 99, j, z), rt)) (hv : fs[j]? = some v) (h : PC xl n mi (pc + 3) lv (v :: r) ι Q) : PC xl n mi pc lv (.ref (KB + s) :: r) ι Q := by
  intro F hs1 hi
  refine (PF.one (n := n) (tT_ok _ _ _ hE) (q := (F, pc + 3, lv, v :: r)) ?_ (h F hs1 hi)).weak
  have e : m_rd (tRo xl) F (pc, .getfield k, 3, 99, j, z) (.ref (KB + s) :: r) = some (v :: r) := by
    simp only [m_rd, cell_ro2, hs, if_true, hv]
  show (match m_rd (tRo xl) F (pc, .getfield k, 3, 99, j, z) (.ref (KB + s) :: r) with | some st1 => some (F, pc + 3, lv, st1) | none => _) = _
  rw [e]
theorem PC.aL {z1 z2 k : Nat} {z : Int} {xs : List Int32} (hs : tRo xl s = some (.inr (.inl (k, xs)))) (hE : t_at tT mi pc = some ((pc, .arraylength, 1, z1, z2, z), rt)) (h : PC xl n mi (pc + 1) lv (.int (Int32.ofNat xs.length) :: r) ι Q) : PC xl n mi pc lv (.ref (KB + s) :: r) ι Q := by
  intro F hs1 hi
  refine (PF.one (n := n) (tT_ok _ _ _ hE) (q := (F, pc + 1, lv, .int (Int32.ofNat xs.length) :: r)) ?_ (h F hs1 hi)).weak
  have e : m_rd (tRo xl) F (pc, .arraylength, 1, z1, z2, z) (.ref (KB + s) :: r) = some (.int (Int32.ofNat xs.length) :: r) := by
    have hk : ¬ KB + s < KB := by omega
    have e2 : KB + s - KB = s := Nat.add_sub_cancel_left ..
    simp only [m_rd, if_neg hk, e2, hs]
  show (match m_rd (tRo xl) F (pc, .arraylength, 1, z1, z2, z) (.ref (KB + s) :: r) with | some st1 => some (F, pc + 1, lv, st1) | none => _) = _
  rw [e]
theorem PC.bS {z1 z2 k : Nat} {z : Int} {xs : List Int32} (hs : tRo xl s = some (.inr (.inl (k, xs)))) (hE : t_at tT mi pc = some ((pc, .baload, 1, z1, z2, z), rt)) (h : 0 ≤ i.toInt → i.toInt < xs.length → PC xl n mi (pc + 1) lv (.int (xs.getD i.toNatClampNeg 0) :: r) ι Q) : PC xl n mi pc lv (.int i :: .ref (KB + s) :: r) ι Q := by
  intro F hs1 hi
  refine (PF.heap (n := n) (tT_ok _ _ _ hE) rfl rfl ?_).weak
  intro q hq
  have hq : (match m_rd (tRo xl) F (pc, .baload, 1, z1, z2, z) (.int i :: .ref (KB + s) :: r) with | some st1 => some (F, pc + 1, lv, st1) | none => none) = some q := hq
  split at hq
  · rename_i st1 h1
    cases hq
    simp only [m_rd, cell_ro2, hs] at h1
    split at h1
    · rename_i hw
      cases h1
      have hl := in_ok hw.2
      exact h hl.1 hl.2.1 F hs1 hi
    · cases h1
  · cases hq
theorem PC.iS {z1 z2 k : Nat} {z : Int} {xs : List Int32} (hs : tRo xl s = some (.inr (.inl (k, xs)))) (hE : t_at tT mi pc = some ((pc, .iaload, 1, z1, z2, z), rt)) (h : 0 ≤ i.toInt → i.toInt < xs.length → PC xl n mi (pc + 1) lv (.int (xs.getD i.toNatClampNeg 0) :: r) ι Q) : PC xl n mi pc lv (.int i :: .ref (KB + s) :: r) ι Q := by
  intro F hs1 hi
  refine (PF.heap (n := n) (tT_ok _ _ _ hE) rfl rfl ?_).weak
  intro q hq
  have hq : (match m_rd (tRo xl) F (pc, .iaload, 1, z1, z2, z) (.int i :: .ref (KB + s) :: r) with | some st1 => some (F, pc + 1, lv, st1) | none => none) = some q := hq
  split at hq
  · rename_i st1 h1
    cases hq
    simp only [m_rd, cell_ro2, hs] at h1
    split at h1
    · rename_i hw
      cases h1
      have hl := in_ok hw.2
      exact h hl.1 hl.2.1 F hs1 hi
    · cases h1
  · cases hq
theorem PC.none {st : List Value} (hE : m_at tMT mi pc = none) : PC xl n mi pc lv st ι Q := by
  intro F hs1 hi d z hx
  cases n with
  | zero => cases hx
  | succ n => rw [ex, hE] at hx; cases hx
end PcE
