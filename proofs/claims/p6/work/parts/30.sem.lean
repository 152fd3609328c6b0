/-! RUNS of the small machine as conditions: TT (a run ends so), KK (what follows in the frames below) -/
section Sem
variable {MT : List MM} {ro : Nat → Option MC} {fty : Nat → Nat → FieldType} {dfl : Nat → List Value}
theorem ex_mono : ∀ (n d mi : Nat) (F : MH) (pc : Nat) (lv : LVs) (st : List Value) (z : Option Value × MH), ex MT ro fty dfl n d mi F pc lv st = some z → ∀ n' d', n ≤ n' → d ≤ d' → ex MT ro fty dfl n' d' mi F pc lv st = some z := by
  intro n
  induction n with
  | zero => intro d mi F pc lv st z h; cases h
  | succ n ih =>
    intro d mi F pc lv st z h n' d' hn hd
    obtain ⟨n', rfl⟩ : ∃ k, n' = k + 1 := ⟨n' - 1, by omega⟩
    have hn : n ≤ n' := by omega
    rw [ex] at h
    split at h
    · cases h
    · rename_i E hE
      split at h
      · rename_i q hq
        rw [ex, hE]; simp only; rw [hq]
        exact ih _ _ _ _ _ _ _ h _ _ hn hd
      · rename_i hq
        split at h
        · rename_i v hv
          rw [ex, hE]; simp only; rw [hq]; simp only; rw [hv]
          exact h
        · rename_i hv
          split at h
          · cases h
          · rename_i q hi
            split at h
            · rename_i h9
              split at h
              · rename_i a ha
                split at h
                · rename_i hk
                  rw [ex, hE]; simp only; rw [hq]; simp only; rw [hv]; simp only; rw [hi]; simp only; rw [if_pos h9, ha]; simp only; rw [if_pos hk]
                  exact ih _ _ _ _ _ _ _ h _ _ hn hd
                · cases h
              · cases h
            · rename_i h9
              split at h
              · rename_i h8
                split at h
                · rename_i x y hxy
                  rw [ex, hE]; simp only; rw [hq]; simp only; rw [hv]; simp only; rw [hi]; simp only; rw [if_neg h9, if_pos h8, hxy]
                  exact ih _ _ _ _ _ _ _ h _ _ hn hd
                · cases h
              · rename_i h8
                split at h
                · rename_i hr
                  split at h
                  · cases h
                  · rename_i d1
                    obtain ⟨d2, rfl⟩ : ∃ k, d' = k + 1 := ⟨d' - 1, by omega⟩
                    split at h
                    · cases h
                    · rename_i z1 hz
                      rw [ex, hE]; simp only; rw [hq]; simp only; rw [hv]; simp only; rw [hi]; simp only; rw [if_neg h9, if_neg h8, if_pos hr]
                      rw [ih _ _ _ _ _ _ _ hz n' d2 hn (by omega)]
                      exact ih _ _ _ _ _ _ _ h _ _ hn hd
                · cases h
/-- a run from here ends, and so -/
def TT (MT : List MM) (ro : Nat → Option MC) (fty : Nat → Nat → FieldType) (dfl : Nat → List Value) (d mi : Nat) (F : MH) (pc : Nat) (lv : LVs) (st : List Value) (Q : Option Value → MH → Prop) : Prop := ∃ n z, ex MT ro fty dfl n d mi F pc lv st = some z ∧ Q z.1 z.2
theorem TT.imp {d mi : Nat} {F : MH} {pc : Nat} {lv : LVs} {st : List Value} {Q Q2 : Option Value → MH → Prop} (h : TT MT ro fty dfl d mi F pc lv st Q) (hq : ∀ v F1, Q v F1 → Q2 v F1) : TT MT ro fty dfl d mi F pc lv st Q2 := by
  obtain ⟨n, z, h1, h2⟩ := h
  exact ⟨n, z, h1, hq _ _ h2⟩
theorem TT.deep {d d' mi : Nat} {F : MH} {pc : Nat} {lv : LVs} {st : List Value} {Q : Option Value → MH → Prop} (h : TT MT ro fty dfl d mi F pc lv st Q) (hd : d ≤ d') : TT MT ro fty dfl d' mi F pc lv st Q := by
  obtain ⟨n, z, h1, h2⟩ := h
  exact ⟨n, z, ex_mono _ _ _ _ _ _ _ _ h1 n d' (Nat.le_refl _) hd, h2⟩
theorem TT.one {d mi : Nat} {F : MH} {pc : Nat} {lv : LVs} {st : List Value} {Q : Option Value → MH → Prop} {E : MI × Option FieldType} {q : MS} (hE : m_at MT mi pc = some E) (hq : m_one ro fty dfl E.1 F lv st = some q) (h : TT MT ro fty dfl d mi q.1 q.2.1 q.2.2.1 q.2.2.2 Q) : TT MT ro fty dfl d mi F pc lv st Q := by
  obtain ⟨n, z, h1, h2⟩ := h
  exact ⟨n + 1, z, by rw [ex, hE]; simp only; rw [hq]; exact h1, h2⟩
theorem TT.ret {d mi : Nat} {F : MH} {pc : Nat} {lv : LVs} {st : List Value} {Q : Option Value → MH → Prop} {E : MI × Option FieldType} {v : Option Value} (hE : m_at MT mi pc = some E) (hq : m_one ro fty dfl E.1 F lv st = none) (hv : m_ret E.2 E.1 st = some v) (h : Q v F) : TT MT ro fty dfl d mi F pc lv st Q :=
  ⟨1, (v, F), by rw [ex, hE]; simp only; rw [hq]; simp only; rw [hv], h⟩
theorem TT.call {d mi : Nat} {F : MH} {pc : Nat} {lv : LVs} {st : List Value} {Q : Option Value → MH → Prop} {E : MI × Option FieldType} {q : Nat × List Value × List Value} (hE : m_at MT mi pc = some E) (hq : m_one ro fty dfl E.1 F lv st = none) (hv : m_ret E.2 E.1 st = none) (hi : m_inv ro F E.1 st = some q) (h9 : ¬ q.1 = 9999) (h8 : ¬ q.1 = 9998) (hr : m_room MT q.1 q.2.1 = true)
    (h : TT MT ro fty dfl d q.1 F 0 (lv_args 0 q.2.1) [] (fun v F1 => TT MT ro fty dfl (d + 1) mi F1 (pc + 3) lv (v.toList ++ q.2.2) Q)) : TT MT ro fty dfl (d + 1) mi F pc lv st Q := by
  obtain ⟨n, z, h1, n2, z2, h2, h3⟩ := h
  refine ⟨max n n2 + 1, z2, ?_, h3⟩
  rw [ex, hE]; simp only; rw [hq]; simp only; rw [hv]; simp only; rw [hi]; simp only; rw [if_neg h9, if_neg h8, if_pos hr]
  rw [ex_mono _ _ _ _ _ _ _ _ h1 (max n n2) d (Nat.le_max_left _ _) (Nat.le_refl _)]
  exact ex_mono _ _ _ _ _ _ _ _ h2 (max n n2) (d + 1) (Nat.le_max_right _ _) (Nat.le_refl _)
theorem TT.maxi {d mi : Nat} {F : MH} {pc : Nat} {lv : LVs} {st : List Value} {Q : Option Value → MH → Prop} {E : MI × Option FieldType} {q : Nat × List Value × List Value} {x y : Int32} (hE : m_at MT mi pc = some E) (hq : m_one ro fty dfl E.1 F lv st = none) (hv : m_ret E.2 E.1 st = none) (hi : m_inv ro F E.1 st = some q) (h8 : q.1 = 9998) (ha : q.2.1 = [.int x, .int y])
    (h : TT MT ro fty dfl d mi F (pc + 3) lv (.int (if x < y then y else x) :: q.2.2) Q) : TT MT ro fty dfl d mi F pc lv st Q := by
  obtain ⟨n, z, h1, h2⟩ := h
  refine ⟨n + 1, z, ?_, h2⟩
  have h9 : ¬ q.1 = 9999 := by omega
  rw [ex, hE]; simp only; rw [hq]; simp only; rw [hv]; simp only; rw [hi]; simp only; rw [if_neg h9, if_pos h8, ha]
  exact h1
/-- a frame: method, pc, locals, stack -/
abbrev CF : Type := Nat × Nat × LVs × List Value
/-- what the frames below ask of an answer -/
def KK (MT : List MM) (ro : Nat → Option MC) (fty : Nat → Nat → FieldType) (dfl : Nat → List Value) : Nat → List CF → (Option Value → MH → Prop) → Option Value → MH → Prop
  | _, [], Q => Q
  | d, g :: fs, Q => fun v F1 => TT MT ro fty dfl (d + 1) g.1 F1 (g.2.1 + 3) g.2.2.1 (v.toList ++ g.2.2.2) (KK MT ro fty dfl (d + 1) fs Q)
def RR (MT : List MM) (ro : Nat → Option MC) (fty : Nat → Nat → FieldType) (dfl : Nat → List Value) (d : Nat) (f : CF) (fs : List CF) (F : MH) (Q : Option Value → MH → Prop) : Prop := TT MT ro fty dfl d f.1 F f.2.1 f.2.2.1 f.2.2.2 (KK MT ro fty dfl d fs Q)
end Sem
