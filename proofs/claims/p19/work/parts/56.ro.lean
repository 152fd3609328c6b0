section
/-! THE START: what the constructors do does not hang on the cells that nobody writes -/
noncomputable def ro0 : Nat → Option MC := fun _ => none
section ExRo
variable {MT : List MM} {ro : Nat → Option MC} {fty : Nat → Nat → FieldType} {dfl : Nat → List Value}
theorem cell_ro {F : MH} {a : Nat} {c : MC} (h : m_cell ro0 F a = some c) : m_cell ro F a = some c := by
  unfold m_cell at *
  split at h
  · rename_i hk; rw [if_pos hk]; exact h
  · cases h
theorem rd_ro {F : MH} {E : MI} {st st1 : List Value} (h : m_rd ro0 F E st = some st1) : m_rd ro F E st = some st1 := by
  unfold m_rd at *
  split at h
  · split at h
    · split at h
      · rename_i hc
        rw [cell_ro hc]; exact h
      · cases h
    · cases h
  · split at h
    · split at h
      · cases h
      · cases h
    · cases h
  · split at h
    · split at h
      · rename_i hc
        rw [cell_ro hc]; exact h
      · cases h
    · cases h
  · split at h
    · split at h
      · rename_i hc
        rw [cell_ro hc]; exact h
      · cases h
    · cases h
  · split at h
    · split at h
      · rename_i hc
        rw [cell_ro hc]; exact h
      · cases h
    · cases h
  · cases h
theorem wr_rd {F : MH} {E : MI} {st : List Value} {q : MH × List Value} (h : m_wr fty dfl F E st = some q) : m_rd ro F E st = none := by
  unfold m_rd
  split <;> first | rfl | (rename_i he; unfold m_wr at h; rw [he] at h; cases h)
theorem one_ro {E : MI} {F : MH} {lv : LVs} {st : List Value} {q : MS} (h : m_one ro0 fty dfl E F lv st = some q) : m_one ro fty dfl E F lv st = some q := by
  unfold m_one at *
  split at h
  · exact h
  split at h
  · exact h
  split at h
  · exact h
  split at h
  · exact h
  split at h
  · exact h
  split at h
  · rename_i hr
    rw [rd_ro hr]; exact h
  split at h
  · rename_i hw
    rw [wr_rd hw]; exact h
  · cases h
theorem iv_ro {E : MI} {st : List Value} {f g : Nat → Bool} {q : Nat × List Value × List Value} (hfg : ∀ a, f a = true → g a = true) (h : m_iv E st f = some q) : m_iv E st g = some q := by
  unfold m_iv at *
  split at h
  · rename_i hc
    rw [if_pos hc]
    split at h
    · split at h
      · rename_i hk
        rw [if_pos (hfg _ hk)]; exact h
      · cases h
    · cases h
  · cases h
theorem inv_ro {E : MI} {F : MH} {st : List Value} {q : Nat × List Value × List Value} (h : m_inv ro0 F E st = some q) : m_inv ro F E st = some q := by
  unfold m_inv at *
  split at h
  · exact h
  · exact h
  · refine iv_ro (fun a ha => ?_) h
    unfold m_rc at *
    split at ha
    · rename_i hc
      rw [cell_ro hc]; exact ha
    · cases ha
  · cases h
theorem inv_kind {E : MI} {F : MH} {st : List Value} {q : Nat × List Value × List Value} (h : m_inv ro0 F E st = some q) : (∃ i, E.2.1 = .invokestatic i) ∨ (∃ i, E.2.1 = .invokespecial i) ∨ (∃ i, E.2.1 = .invokevirtual i) := by
  unfold m_inv at h
  split at h
  · rename_i i he; exact Or.inl ⟨_, he⟩
  · rename_i i he; exact Or.inr (Or.inl ⟨_, he⟩)
  · rename_i i he; exact Or.inr (Or.inr ⟨_, he⟩)
  · cases h
theorem ret_kind {rt : Option FieldType} {E : MI} {F : MH} {lv : LVs} {st : List Value} {v : Option Value} (h : m_ret rt E st = some v) : m_one ro fty dfl E F lv st = none := by
  obtain ⟨pc, i, len, a0, b0, z0⟩ := E
  unfold m_ret at h
  simp only at h
  split at h
  · rfl
  · rfl
  · rfl
  · cases h
theorem ex_ro : ∀ (n d mi : Nat) (F : MH) (pc : Nat) (lv : LVs) (st : List Value) (z : Option Value × MH), ex MT ro0 fty dfl n d mi F pc lv st = some z → ex MT ro fty dfl n d mi F pc lv st = some z := by
  intro n
  induction n with
  | zero => intro d mi F pc lv st z h; cases h
  | succ n ih =>
    intro d mi F pc lv st z h
    rw [ex] at h
    split at h
    · cases h
    · rename_i E hE
      split at h
      · rename_i q hq
        rw [ex, hE]; simp only; rw [one_ro hq]
        exact ih _ _ _ _ _ _ _ h
      · rename_i hq
        split at h
        · rename_i v hv
          rw [ex, hE]; simp only; rw [ret_kind hv]; simp only; rw [hv]
          exact h
        · rename_i hv
          split at h
          · cases h
          · rename_i q hi
            have ho := (one_inv (ro := ro) (fty := fty) (dfl := dfl) (inv_kind hi) F lv st E.2).1
            split at h
            · rename_i h9
              split at h
              · rename_i a ha
                split at h
                · rename_i hk
                  rw [ex, hE]; simp only; rw [ho]; simp only; rw [hv]; simp only; rw [inv_ro hi]; simp only; rw [if_pos h9, ha]; simp only; rw [if_pos hk]
                  exact ih _ _ _ _ _ _ _ h
                · cases h
              · cases h
            · rename_i h9
              split at h
              · rename_i h8
                split at h
                · rename_i x y hxy
                  rw [ex, hE]; simp only; rw [ho]; simp only; rw [hv]; simp only; rw [inv_ro hi]; simp only; rw [if_neg h9, if_pos h8, hxy]
                  exact ih _ _ _ _ _ _ _ h
                · cases h
              · rename_i h8
                split at h
                · rename_i hr
                  split at h
                  · cases h
                  · rename_i d'
                    split at h
                    · cases h
                    · rename_i z1 hz1
                      rw [ex, hE]; simp only; rw [ho]; simp only; rw [hv]; simp only; rw [inv_ro hi]; simp only; rw [if_neg h9, if_neg h8, if_pos hr]
                      rw [ih _ _ _ _ _ _ _ hz1]
                      exact ih _ _ _ _ _ _ _ h
                · cases h
end ExRo
/-! NOTHING IS MADE BEHIND THE START -/
noncomputable def nwI (i : Instr) : Bool := match i with | .new _ => true | .newarray _ => true | .anewarray _ => true | _ => false
noncomputable def offsI (i : Instr) : Option (List Int) := match i with
  | .goto o => some [o]
  | .ifCond _ o => some [o]
  | .if_icmp _ o => some [o]
  | .tableswitch d _ _ offs => some (d :: offs.toList)
  | .lookupswitch _ _ => none
  | _ => some []
section Keep
variable {MT : List MM} {ro : Nat → Option MC} {fty : Nat → Nat → FieldType} {dfl : Nat → List Value}
theorem wr_keep {E : MI} {F : MH} {st : List Value} {q : MH × List Value} (hn : nwI E.2.1 = false) (h : m_wr fty dfl F E st = some q) : q.1.length = F.length ∧ mz q.1 = mz F := by
  unfold m_wr at h
  split at h
  · split at h
    · split at h
      · rename_i hc
        split at h
        · cases h
          exact ⟨by simp, mz_set _ _ _ _ hc (by simp [mzC])⟩
        · cases h
      · cases h
    · cases h
  · split at h
    · split at h
      · rename_i hc
        split at h
        · cases h
          exact ⟨by simp, mz_set _ _ _ _ hc (by simp [mzC])⟩
        · cases h
      · cases h
    · cases h
  · split at h
    · split at h
      · rename_i hc
        split at h
        · cases h
          exact ⟨by simp, mz_set _ _ _ _ hc (by simp [mzC])⟩
        · cases h
      · cases h
    · cases h
  · split at h
    · split at h
      · rename_i hc _
        split at h
        · cases h
          exact ⟨by simp, mz_set _ _ _ _ hc (by simp [mzC])⟩
        · cases h
      · cases h
    · cases h
  · rename_i he; rw [he] at hn; cases hn
  · rename_i he; rw [he] at hn; cases hn
  · rename_i he; rw [he] at hn; cases hn
  · cases h
theorem one_keep {E : MI} {F : MH} {lv : LVs} {st : List Value} {q : MS} (hn : nwI E.2.1 = false) (h : m_one ro fty dfl E F lv st = some q) : q.1.length = F.length ∧ mz q.1 = mz F := by
  unfold m_one at h
  split at h
  · cases h; exact ⟨rfl, rfl⟩
  split at h
  · cases h; exact ⟨rfl, rfl⟩
  split at h
  · cases h; exact ⟨rfl, rfl⟩
  split at h
  · cases h; exact ⟨rfl, rfl⟩
  split at h
  · cases h; exact ⟨rfl, rfl⟩
  split at h
  · cases h; exact ⟨rfl, rfl⟩
  split at h
  · rename_i hw
    cases h
    exact wr_keep hn hw
  · cases h
theorem to_spec {pc t : Nat} {o : Int} (h : m_to pc o = some t) : (t : Int) = pc + o := by
  unfold m_to at h
  split at h
  · cases h; omega
  · cases h
theorem br_pc {E : MI} {st : List Value} {q : Nat × List Value} {l : List Int} (hl : offsI E.2.1 = some l) (h : m_br E st = some q) : q.1 = E.1 + 3 ∨ ∃ o ∈ l, (q.1 : Int) = E.1 + o := by
  unfold m_br at h
  split at h
  · rename_i he
    rw [he] at hl; cases hl
    obtain ⟨t, ht, rfl⟩ := Option.map_eq_some_iff.mp h
    exact Or.inr ⟨_, List.mem_cons_self, to_spec ht⟩
  · rename_i he
    rw [he] at hl; cases hl
    split at h
    · obtain ⟨t, ht, rfl⟩ := Option.map_eq_some_iff.mp h
      simp only
      split
      · exact Or.inr ⟨_, List.mem_cons_self, to_spec ht⟩
      · exact Or.inl rfl
    · cases h
  · rename_i he
    rw [he] at hl; cases hl
    split at h
    · obtain ⟨t, ht, rfl⟩ := Option.map_eq_some_iff.mp h
      simp only
      split
      · exact Or.inr ⟨_, List.mem_cons_self, to_spec ht⟩
      · exact Or.inl rfl
    · cases h
  · rename_i he
    rw [he] at hl; cases hl
    split at h
    · split at h
      · obtain ⟨t, ht, rfl⟩ := Option.map_eq_some_iff.mp h
        exact Or.inr ⟨_, List.mem_cons_self, to_spec ht⟩
      · split at h
        · rename_i ho
          obtain ⟨t, ht, rfl⟩ := Option.map_eq_some_iff.mp h
          exact Or.inr ⟨_, List.mem_cons_of_mem _ (Array.mem_toList_iff.mpr (Array.mem_of_getElem? ho)), to_spec ht⟩
        · cases h
    · cases h
  · rename_i he
    rw [he] at hl; cases hl
  · cases h
theorem one_pc {E : MI} {F : MH} {lv : LVs} {st : List Value} {q : MS} {l : List Int} (hl : offsI E.2.1 = some l) (h : m_one ro fty dfl E F lv st = some q) : q.2.1 = E.1 + E.2.2.1 ∨ q.2.1 = E.1 + 3 ∨ ∃ o ∈ l, (q.2.1 : Int) = E.1 + o := by
  unfold m_one at h
  split at h
  · cases h; exact Or.inl rfl
  split at h
  · cases h; exact Or.inl rfl
  split at h
  · cases h; exact Or.inl rfl
  split at h
  · cases h; exact Or.inl rfl
  split at h
  · rename_i hb
    cases h
    exact Or.inr (br_pc hl hb)
  split at h
  · cases h; exact Or.inl rfl
  split at h
  · cases h; exact Or.inl rfl
  · cases h
theorem inv_tgt {E : MI} {F : MH} {st : List Value} {q : Nat × List Value × List Value} (h : m_inv ro F E st = some q) : q.1 = E.2.2.2.1 := by
  have iv : ∀ f, m_iv E st f = some q → q.1 = E.2.2.2.1 := by
    intro f h
    unfold m_iv at h
    split at h
    · split at h
      · split at h
        · cases h; rfl
        · cases h
      · cases h
    · cases h
  unfold m_inv at h
  split at h
  · split at h
    · cases h; rfl
    · cases h
  · exact iv _ h
  · exact iv _ h
  · cases h
/-- places from which nothing is made -/
noncomputable def okp (MT : List MM) (p : Nat → Nat → Bool) : Prop := ∀ mi pc E, p mi pc = true → m_at MT mi pc = some E → nwI E.1.2.1 = false ∧ (∀ ro F lv st q, m_one ro tFty tDfl E.1 F lv st = some q → p mi q.2.1 = true) ∧ p mi (pc + 3) = true ∧ (∀ (ro : Nat → Option MC) (F : MH) st q, m_inv ro F E.1 st = some q → q.1 = 9999 ∨ q.1 = 9998 ∨ p q.1 0 = true)
theorem ex_keep {p : Nat → Nat → Bool} (hp : okp MT p) : ∀ (n d mi : Nat) (F : MH) (pc : Nat) (lv : LVs) (st : List Value) (z : Option Value × MH), p mi pc = true → ex MT ro tFty tDfl n d mi F pc lv st = some z → z.2.length = F.length ∧ mz z.2 = mz F := by
  intro n
  induction n with
  | zero => intro d mi F pc lv st z _ h; cases h
  | succ n ih =>
    intro d mi F pc lv st z hpc h
    rw [ex] at h
    split at h
    · cases h
    · rename_i E hE
      obtain ⟨o1, o2, o3, o4⟩ := hp mi pc E hpc hE
      split at h
      · rename_i q hq
        have h1 := one_keep o1 hq
        have h2 := ih _ _ _ _ _ _ _ (o2 _ _ _ _ _ hq) h
        exact ⟨h2.1.trans h1.1, h2.2.trans h1.2⟩
      · split at h
        · cases h; exact ⟨rfl, rfl⟩
        · split at h
          · cases h
          · rename_i q hi
            split at h
            · split at h
              · split at h
                · exact ih _ _ _ _ _ _ _ o3 h
                · cases h
              · cases h
            · rename_i h9
              split at h
              · split at h
                · exact ih _ _ _ _ _ _ _ o3 h
                · cases h
              · rename_i h8
                split at h
                · split at h
                  · cases h
                  · split at h
                    · cases h
                    · rename_i z1 hz1
                      have h1 := ih _ _ _ _ _ _ _ (((o4 _ _ _ _ hi).resolve_left h9).resolve_left h8) hz1
                      have h2 := ih _ _ _ _ _ _ _ o3 h
                      exact ⟨h2.1.trans h1.1, h2.2.trans h1.2⟩
                · cases h
end Keep
end
