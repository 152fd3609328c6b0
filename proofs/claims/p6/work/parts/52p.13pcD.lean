/-! PARTIAL CORRECTNESS, IV: more locals, or in another order -/
def lvE (lv lv' : LVs) : Prop := ∀ q ∈ lv, m_get lv' q.1 = some q.2
def isLd (i : Instr) : Bool := match i with
  | .iload _ | .iload_n _ | .lload _ | .lload_n _ | .aload _ | .aload_n _ => true
  | _ => false
def isSt (i : Instr) : Bool := match i with
  | .istore _ | .istore_n _ | .lstore _ | .lstore_n _ | .astore _ | .astore_n _ | .iinc _ _ => true
  | _ => false
section PcD
variable {ro : Nat → Option MC} {fty : Nat → Nat → FieldType} {dfl : Nat → List Value} {F : MH} {E : MI} {lv lv' : LVs} {st : List Value}
theorem lvE.get (h : lvE lv lv') {i : Nat} {v : Value} (hg : m_get lv i = some v) : m_get lv' i = some v := h (i, v) (m_get_mem hg)
theorem get_put2 {i j : Nat} {v w : Value} (h : m_get lv j = some w) (hne : ¬ j = i) (hn1 : ¬ j = i + 1) (hc : ¬ (j + 1 = i ∧ w.category = 2)) : m_get (m_put2 lv i v) j = some w := by
  unfold m_get m_put2 at *
  cases hf : lv.find? (fun q => q.1 == j) with
  | none => rw [hf] at h; cases h
  | some q =>
    rw [hf] at h
    have e1 : q.2 = w := Option.some.inj h
    have e2 : q.1 = j := by have := List.find?_some hf; simpa using this
    have key : (lv.filter (fun q => !(q.1 == i) && (!(q.1 == i + 1) && !(q.1 + 1 == i && q.2.category == 2)))).find? (fun q => q.1 == j) = some q := by
      rw [List.find?_filter]
      rw [List.find?_eq_some_iff_append] at hf ⊢
      obtain ⟨h1, as, bs, h2, h3⟩ := hf
      refine ⟨?_, as, bs, h2, fun x hx => ?_⟩
      · rw [e2, e1]
        simp only [Bool.and_eq_true, Bool.not_eq_true', beq_eq_false_iff_ne, ne_eq, decide_eq_true_eq, beq_iff_eq, Bool.and_eq_false_iff]
        refine ⟨⟨hne, hn1, ?_⟩, trivial⟩
        by_cases q1 : j + 1 = i
        · exact Or.inr (fun z => hc ⟨q1, z⟩)
        · exact Or.inl q1
      · have := h3 x hx
        simp only [Bool.not_eq_true', beq_eq_false_iff_ne, ne_eq] at this
        simp only [this, beq_iff_eq, and_false, decide_false, Bool.not_false]
    rw [List.find?_cons]
    have hij : (i == j) = false := by simp only [beq_eq_false_iff_ne, ne_eq]; exact fun z => hne z.symm
    simp only [hij]
    rw [key]
    exact congrArg some e1
theorem lvE.put1 (h : lvE lv lv') (i : Nat) (w : Value) : lvE (m_put1 lv i w) (m_put1 lv' i w) := by
  intro q hq
  rcases List.mem_cons.mp hq with rfl | hq
  · exact m_get_same1
  · obtain ⟨h1, h2⟩ := List.mem_filter.mp hq
    simp only [Bool.and_eq_true, Bool.not_eq_true', beq_eq_false_iff_ne, ne_eq, Bool.and_eq_false_iff] at h2
    refine m_get_put1 (h q h1) h2.1 (fun e => ?_)
    rcases h2.2 with g | g
    · exact g e.1
    · exact g e.2
theorem lvE.put2 (h : lvE lv lv') (i : Nat) (w : Value) : lvE (m_put2 lv i w) (m_put2 lv' i w) := by
  intro q hq
  rcases List.mem_cons.mp hq with rfl | hq
  · unfold m_get m_put2; simp
  · obtain ⟨h1, h2⟩ := List.mem_filter.mp hq
    simp only [Bool.and_eq_true, Bool.not_eq_true', beq_eq_false_iff_ne, ne_eq, Bool.and_eq_false_iff] at h2
    refine get_put2 (h q h1) h2.1 h2.2.1 (fun e => ?_)
    rcases h2.2.2 with g | g
    · exact g e.1
    · exact g e.2
theorem ldN (h : isLd E.2.1 = true) : m_cst E = none ∧ m_store E lv st = none ∧ m_alu E.2.1 st = none ∧ m_br E st = none ∧ m_rd ro F E st = none ∧ m_wr fty dfl F E st = none := by
  obtain ⟨p, i, l, z1, z2, z3⟩ := E
  cases i <;> first | (cases h; done) | exact ⟨rfl, rfl, rfl, rfl, rfl, rfl⟩
theorem stN (h : isSt E.2.1 = true) : m_alu E.2.1 st = none ∧ m_br E st = none ∧ m_rd ro F E st = none ∧ m_wr fty dfl F E st = none := by
  obtain ⟨p, i, l, z1, z2, z3⟩ := E
  cases i <;> first | (cases h; done) | exact ⟨rfl, rfl, rfl, rfl⟩
theorem push_same (h : isLd E.2.1 = false) : m_push E lv = m_push E lv' := by
  obtain ⟨p, i, l, z1, z2, z3⟩ := E
  cases i <;> first | (cases h; done) | rfl
theorem store_none (h : isSt E.2.1 = false) : m_store E lv st = none := by
  obtain ⟨p, i, l, z1, z2, z3⟩ := E
  cases i <;> first | (cases h; done) | rfl
theorem push_ext (h : lvE lv lv') {v : Value} (h1 : m_push E lv = some v) : m_push E lv' = some v := by
  cases hl : isLd E.2.1 with
  | false => rw [← push_same (lv := lv) hl]; exact h1
  | true =>
    obtain ⟨p, i, l, z1, z2, z3⟩ := E
    cases i <;> first
      | (cases hl; done)
      | (simp only [m_push] at h1 ⊢; obtain ⟨g1, g2⟩ := filt_get h1; rw [h.get g1]; simp only [Option.filter, g2, if_true])
theorem store_ext (h : lvE lv lv') {q : LVs × List Value} (h1 : m_store E lv st = some q) : ∃ lv2, m_store E lv' st = some (lv2, q.2) ∧ lvE q.1 lv2 := by
  unfold m_store at h1 ⊢
  split at h1
  all_goals first
    | (cases h1; done)
    | skip
  · split at h1
    · cases h1; exact ⟨_, rfl, h.put1 _ _⟩
    · cases h1
  · split at h1
    · cases h1; exact ⟨_, rfl, h.put1 _ _⟩
    · cases h1
  · split at h1
    · cases h1; exact ⟨_, rfl, h.put2 _ _⟩
    · cases h1
  · split at h1
    · cases h1; exact ⟨_, rfl, h.put2 _ _⟩
    · cases h1
  · split at h1
    · cases h1; exact ⟨_, rfl, h.put1 _ _⟩
    · cases h1; exact ⟨_, rfl, h.put1 _ _⟩
    · cases h1
  · split at h1
    · cases h1; exact ⟨_, rfl, h.put1 _ _⟩
    · cases h1; exact ⟨_, rfl, h.put1 _ _⟩
    · cases h1
  · split at h1
    · rename_i x hx
      cases h1
      rw [h.get hx]
      exact ⟨_, rfl, h.put1 _ _⟩
    · cases h1
theorem one_ext (h : lvE lv lv') {q : MS} (h1 : m_one ro fty dfl E F lv st = some q) : ∃ lv2, m_one ro fty dfl E F lv' st = some (q.1, q.2.1, lv2, q.2.2.2) ∧ lvE q.2.2.1 lv2 := by
  unfold m_one at h1
  split at h1
  · rename_i v hv
    cases h1
    refine ⟨lv', ?_, h⟩
    unfold m_one; rw [push_ext h hv]
  rename_i hv
  cases hl : isLd E.2.1 with
  | true =>
    obtain ⟨g1, g2, g3, g4, g5, g6⟩ := ldN (ro := ro) (fty := fty) (dfl := dfl) (F := F) (lv := lv) (st := st) hl
    rw [g1, g2, g3, g4, g5, g6] at h1
    cases h1
  | false =>
  have hv' : m_push E lv' = none := by rw [← push_same (lv := lv) hl]; exact hv
  unfold m_one
  rw [hv']
  simp only
  split at h1
  · rename_i v hc
    cases h1
    try rw [hc]
    exact ⟨lv', rfl, h⟩
  rename_i hc
  try rw [hc]
  try simp only
  split at h1
  · rename_i q1 hs
    cases h1
    obtain ⟨lv2, e1, e2⟩ := store_ext h hs
    rw [e1]
    exact ⟨lv2, rfl, e2⟩
  rename_i hs
  cases hl2 : isSt E.2.1 with
  | true =>
    obtain ⟨g3, g4, g5, g6⟩ := stN (ro := ro) (fty := fty) (dfl := dfl) (F := F) (st := st) hl2
    rw [g3, g4, g5, g6] at h1
    cases h1
  | false =>
  rw [store_none hl2]
  simp only
  split at h1
  · rename_i v hc; cases h1; (try rw [hc]); exact ⟨lv', rfl, h⟩
  rename_i hc; (try rw [hc]); (try simp only)
  split at h1
  · rename_i v hc; cases h1; (try rw [hc]); exact ⟨lv', rfl, h⟩
  rename_i hc; (try rw [hc]); (try simp only)
  split at h1
  · rename_i v hc; cases h1; (try rw [hc]); exact ⟨lv', rfl, h⟩
  rename_i hc; (try rw [hc]); (try simp only)
  split at h1
  · rename_i v hc; cases h1; (try rw [hc]); exact ⟨lv', rfl, h⟩
  · cases h1
theorem one_extN (h : lvE lv lv') (h1 : m_one ro fty dfl E F lv st = none) (h2 : (∃ v, m_ret none E st = some v) ∨ (∃ rt v, m_ret rt E st = some v) ∨ ∃ q, m_inv ro F E st = some q) : m_one ro fty dfl E F lv' st = none := by
  obtain ⟨p, i, l, z1, z2, z3⟩ := E
  cases i <;> first
    | rfl
    | (exfalso; rcases h2 with ⟨v, h2⟩ | ⟨rt, v, h2⟩ | ⟨q, h2⟩ <;> cases h2)
theorem ex_ext {MT : List MM} : ∀ (n d mi : Nat) (F : MH) (pc : Nat) (lv lv' : LVs) (st : List Value) (z : Option Value × MH), lvE lv lv' → ex MT ro fty dfl n d mi F pc lv st = some z → ex MT ro fty dfl n d mi F pc lv' st = some z := by
  intro n
  induction n with
  | zero => intro d mi F pc lv lv' st z _ h; cases h
  | succ n ih =>
    intro d mi F pc lv lv' st z he h
    rw [ex] at h ⊢
    split at h
    · cases h
    · rename_i E hE
      try simp only
      split at h
      · rename_i q hq
        obtain ⟨lv2, e1, e2⟩ := one_ext he hq
        rw [e1]
        exact ih _ _ _ _ _ _ _ _ e2 h
      · rename_i hq
        split at h
        · rename_i v hv
          rw [one_extN he hq (Or.inr (Or.inl ⟨_, v, hv⟩))]
          try simp only
          exact h
        · rename_i hv
          split at h
          · cases h
          · rename_i q hi
            rw [one_extN he hq (Or.inr (Or.inr ⟨q, hi⟩))]
            try simp only
            split at h
            · rename_i h9
              rw [if_pos h9]
              split at h
              · split at h
                · rename_i hk
                  rw [if_pos hk]
                  exact ih _ _ _ _ _ _ _ _ he h
                · cases h
              · cases h
            · rename_i h9
              rw [if_neg h9]
              split at h
              · rename_i h8
                rw [if_pos h8]
                split at h
                · exact ih _ _ _ _ _ _ _ _ he h
                · cases h
              · rename_i h8
                rw [if_neg h8]
                split at h
                · rename_i hr
                  rw [if_pos hr]
                  split at h
                  · cases h
                  · rename_i d1
                    split at h
                    · cases h
                    · rename_i z1 hz
                      exact ih _ _ _ _ _ _ _ _ he h
                · cases h
end PcD
theorem PC.lv {xl : List Int32} {n mi pc : Nat} {lv lv' : LVs} {st : List Value} {ι : IS} {Q : Option Value → IS → Prop} (he : lvE lv lv') (h : PC xl n mi pc lv' st ι Q) : PC xl n mi pc lv st ι Q := fun F hs hi d z hx => h F hs hi d z (ex_ext _ _ _ _ _ _ _ _ _ he hx)
theorem lvE.nil {lv' : LVs} : lvE [] lv' := fun q hq => by cases hq
theorem lvE.cons {lv lv' : LVs} {i : Nat} {v : Value} (h : m_get lv' i = some v) (ht : lvE lv lv') : lvE ((i, v) :: lv) lv' := fun q hq => by
  rcases List.mem_cons.mp hq with rfl | hq
  · exact h
  · exact ht q hq
theorem rf_lt (a j : Nat) : rf a j < KB := by
  unfold rf
  split
  · rename_i o h
    split
    · rename_i p hp
      have h1 := List.all_eq_true.mp tyB_ok _ (List.mem_of_getElem? h)
      have h2 := List.all_eq_true.mp h1 j (List.mem_range.mpr (List.getElem?_eq_some_iff.mp hp).1)
      rw [hp] at h2
      simp only [Bool.and_eq_true, decide_eq_true_eq] at h2
      exact h2.2
    · decide
  · decide
theorem PC.tsw {xl : List Int32} {n mi pc : Nat} {lv : LVs} {r : List Value} {ι : IS} {Q : Option Value → IS → Prop} {rt : Option FieldType} {x : Int32} {d lo hi : Int} {offs : Array Int} {len z1 z2 : Nat} {z : Int} (hE : t_at tT mi pc = some ((pc, .tableswitch d lo hi offs, len, z1, z2, z), rt)) (h1 : ∀ (i : Nat) (off : Int) (t : Nat), offs[i]? = some off → m_to pc off = some t → x.toInt = lo + i → PC xl n mi t lv r ι Q) (h2 : ∀ t, m_to pc d = some t → (x.toInt < lo ∨ hi < x.toInt) → PC xl n mi t lv r ι Q) : PC xl n mi pc lv (.int x :: r) ι Q := by
  intro F hs hi2
  refine (PF.heap (n := n) (tT_ok _ _ _ hE) rfl rfl ?_).weak
  intro q hq
  have hq : (match m_br (pc, .tableswitch d lo hi offs, len, z1, z2, z) (.int x :: r) with | some q => some (F, q.1, lv, q.2) | none => none) = some q := hq
  split at hq
  · rename_i q1 hb
    cases hq
    simp only [m_br] at hb
    split at hb
    · rename_i hr
      obtain ⟨t, ht, rfl⟩ := Option.map_eq_some_iff.mp hb
      exact h2 t ht hr F hs hi2
    · rename_i hr
      split at hb
      · rename_i off ho
        obtain ⟨t, ht, rfl⟩ := Option.map_eq_some_iff.mp hb
        exact h1 _ off t ho ht (by omega) F hs hi2
      · cases hb
  · cases hq
