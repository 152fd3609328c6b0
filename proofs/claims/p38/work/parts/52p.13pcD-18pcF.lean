section
/-! PARTIAL CORRECTNESS, IV: more locals, or in another order -/
noncomputable def lvE (lv lv' : LVs) : Prop := ∀ q ∈ lv, m_get lv' q.1 = some q.2
noncomputable def isLd (i : Instr) : Bool := match i with
  | .iload _ | .iload_n _ | .lload _ | .lload_n _ | .aload _ | .aload_n _ => true
  | _ => false
noncomputable def isSt (i : Instr) : Bool := match i with
  | .istore _ | .istore_n _ | .lstore _ | .lstore_n _ | .astore _ | .astore_n _ | .iinc _ _ => true
  | _ => false
section PcD
variable {ro : Nat → Option MC} {fty : Nat → Nat → FieldType} {dfl : Nat → List Value} {F : MH} {E : MI} {lv lv' : LVs} {st : List Value}
theorem lvE.get (h : lvE lv lv') {i : Nat} {v : Value} (hg : m_get lv i = some v) : m_get lv' i = some v := h (i, v) (m_get_mem hg)
theorem get_put2 {i j : Nat} {v w : Value} (h : m_get lv j = some w) (hne : ¬ j = i) (hn1 : ¬ j = i + 1) (hc : ¬ (j + 1 = i ∧ w.category = 2)) : m_get (m_put2 lv i v) j = some w := by
  unfold m_get m_put2 at *
  cases hf : lv.find? (fun q => q.1 == j) with
  | none => rw [hf] at h; cases h
  | some q =>
    rw [hf] at h
    have e1 : q.2 = w := Option.some.inj h
    have e2 : q.1 = j := by have := List.find?_some hf; simpa using this
    have key : (lv.filter (fun q => !(q.1 == i) && (!(q.1 == i + 1) && !(q.1 + 1 == i && q.2.category == 2)))).find? (fun q => q.1 == j) = some q := by
      rw [List.find?_filter]
      rw [List.find?_eq_some_iff_append] at hf ⊢
      obtain ⟨h1, as, bs, h2, h3⟩ := hf
      refine ⟨?_, as, bs, h2, fun x hx => ?_⟩
      · rw [e2, e1]
        simp only [Bool.and_eq_true, Bool.not_eq_true', beq_eq_false_iff_ne, ne_eq, decide_eq_true_eq, beq_iff_eq, Bool.and_eq_false_iff]
        refine ⟨⟨hne, hn1, ?_⟩, trivial⟩
        by_cases q1 : j + 1 = i
        · exact Or.inr (fun z => hc ⟨q1, z⟩)
        · exact Or.inl q1
      · have := h3 x hx
        simp only [Bool.not_eq_true', beq_eq_false_iff_ne, ne_eq] at this
        simp only [this, beq_iff_eq, and_false, decide_false, Bool.not_false]
    rw [List.find?_cons]
    have hij : (i == j) = false := by simp only [beq_eq_false_iff_ne, ne_eq]; exact fun z => hne z.symm
    simp only [hij]
    rw [key]
    exact congrArg some e1
theorem lvE.put1 (h : lvE lv lv') (i : Nat) (w : Value) : lvE (m_put1 lv i w) (m_put1 lv' i w) := by
  intro q hq
  rcases List.mem_cons.mp hq with rfl | hq
  · exact m_get_same1
  · obtain ⟨h1, h2⟩ := List.mem_filter.mp hq
    simp only [Bool.and_eq_true, Bool.not_eq_true', beq_eq_false_iff_ne, ne_eq, Bool.and_eq_false_iff] at h2
    refine m_get_put1 (h q h1) h2.1 (fun e => ?_)
    rcases h2.2 with g | g
    · exact g e.1
    · exact g e.2
theorem lvE.put2 (h : lvE lv lv') (i : Nat) (w : Value) : lvE (m_put2 lv i w) (m_put2 lv' i w) := by
  intro q hq
  rcases List.mem_cons.mp hq with rfl | hq
  · unfold m_get m_put2; simp
  · obtain ⟨h1, h2⟩ := List.mem_filter.mp hq
    simp only [Bool.and_eq_true, Bool.not_eq_true', beq_eq_false_iff_ne, ne_eq, Bool.and_eq_false_iff] at h2
    refine get_put2 (h q h1) h2.1 h2.2.1 (fun e => ?_)
    rcases h2.2.2 with g | g
    · exact g e.1
    · exact g e.2
theorem ldN (h : isLd E.2.1 = true) : m_cst E = none ∧ m_store E lv st = none ∧ m_alu E.2.1 st = none ∧ m_br E st = none ∧ m_rd ro F E st = none ∧ m_wr fty dfl F E st = none := by
  obtain ⟨p, i, l, z1, z2, z3⟩ := E
  cases i <;> first | (cases h; done) | exact ⟨rfl, rfl, rfl, rfl, rfl, rfl⟩
theorem stN (h : isSt E.2.1 = true) : m_alu E.2.1 st = none ∧ m_br E st = none ∧ m_rd ro F E st = none ∧ m_wr fty dfl F E st = none := by
  obtain ⟨p, i, l, z1, z2, z3⟩ := E
  cases i <;> first | (cases h; done) | exact ⟨rfl, rfl, rfl, rfl⟩
theorem push_same (h : isLd E.2.1 = false) : m_push E lv = m_push E lv' := by
  obtain ⟨p, i, l, z1, z2, z3⟩ := E
  cases i <;> first | (cases h; done) | rfl
theorem store_none (h : isSt E.2.1 = false) : m_store E lv st = none := by
  obtain ⟨p, i, l, z1, z2, z3⟩ := E
  cases i <;> first | (cases h; done) | rfl
theorem push_ext (h : lvE lv lv') {v : Value} (h1 : m_push E lv = some v) : m_push E lv' = some v := by
  cases hl : isLd E.2.1 with
  | false => rw [← push_same (lv := lv) hl]; exact h1
  | true =>
    obtain ⟨p, i, l, z1, z2, z3⟩ := E
    cases i <;> first
      | (cases hl; done)
      | (simp only [m_push] at h1 ⊢; obtain ⟨g1, g2⟩ := filt_get h1; rw [h.get g1]; simp only [Option.filter, g2, if_true])
theorem store_ext (h : lvE lv lv') {q : LVs × List Value} (h1 : m_store E lv st = some q) : ∃ lv2, m_store E lv' st = some (lv2, q.2) ∧ lvE q.1 lv2 := by
  unfold m_store at h1 ⊢
  split at h1
  all_goals first
    | (cases h1; done)
    | skip
  · split at h1
    · cases h1; exact ⟨_, rfl, h.put1 _ _⟩
    · cases h1
  · split at h1
    · cases h1; exact ⟨_, rfl, h.put1 _ _⟩
    · cases h1
  · split at h1
    · cases h1; exact ⟨_, rfl, h.put2 _ _⟩
    · cases h1
  · split at h1
    · cases h1; exact ⟨_, rfl, h.put2 _ _⟩
    · cases h1
  · split at h1
    · cases h1; exact ⟨_, rfl, h.put1 _ _⟩
    · cases h1; exact ⟨_, rfl, h.put1 _ _⟩
    · cases h1
  · split at h1
    · cases h1; exact ⟨_, rfl, h.put1 _ _⟩
    · cases h1; exact ⟨_, rfl, h.put1 _ _⟩
    · cases h1
  · split at h1
    · rename_i x hx
      cases h1
      rw [h.get hx]
      exact ⟨_, rfl, h.put1 _ _⟩
    · cases h1
theorem one_ext (h : lvE lv lv') {q : MS} (h1 : m_one ro fty dfl E F lv st = some q) : ∃ lv2, m_one ro fty dfl E F lv' st = some (q.1, q.2.1, lv2, q.2.2.2) ∧ lvE q.2.2.1 lv2 := by
  unfold m_one at h1
  split at h1
  · rename_i v hv
    cases h1
    refine ⟨lv', ?_, h⟩
    unfold m_one; rw [push_ext h hv]
  rename_i hv
  cases hl : isLd E.2.1 with
  | true =>
    obtain ⟨g1, g2, g3, g4, g5, g6⟩ := ldN (ro := ro) (fty := fty) (dfl := dfl) (F := F) (lv := lv) (st := st) hl
    rw [g1, g2, g3, g4, g5, g6] at h1
    cases h1
  | false =>
  have hv' : m_push E lv' = none := by rw [← push_same (lv := lv) hl]; exact hv
  unfold m_one
  rw [hv']
  simp only
  split at h1
  · rename_i v hc
    cases h1
    try rw [hc]
    exact ⟨lv', rfl, h⟩
  rename_i hc
  try rw [hc]
  try simp only
  split at h1
  · rename_i q1 hs
    cases h1
    obtain ⟨lv2, e1, e2⟩ := store_ext h hs
    rw [e1]
    exact ⟨lv2, rfl, e2⟩
  rename_i hs
  cases hl2 : isSt E.2.1 with
  | true =>
    obtain ⟨g3, g4, g5, g6⟩ := stN (ro := ro) (fty := fty) (dfl := dfl) (F := F) (st := st) hl2
    rw [g3, g4, g5, g6] at h1
    cases h1
  | false =>
  rw [store_none hl2]
  simp only
  split at h1
  · rename_i v hc; cases h1; (try rw [hc]); exact ⟨lv', rfl, h⟩
  rename_i hc; (try rw [hc]); (try simp only)
  split at h1
  · rename_i v hc; cases h1; (try rw [hc]); exact ⟨lv', rfl, h⟩
  rename_i hc; (try rw [hc]); (try simp only)
  split at h1
  · rename_i v hc; cases h1; (try rw [hc]); exact ⟨lv', rfl, h⟩
  rename_i hc; (try rw [hc]); (try simp only)
  split at h1
  · rename_i v hc; cases h1; (try rw [hc]); exact ⟨lv', rfl, h⟩
  · cases h1
theorem one_extN (h : lvE lv lv') (h1 : m_one ro fty dfl E F lv st = none) (h2 : (∃ v, m_ret none E st = some v) ∨ (∃ rt v, m_ret rt E st = some v) ∨ ∃ q, m_inv ro F E st = some q) : m_one ro fty dfl E F lv' st = none := by
  obtain ⟨p, i, l, z1, z2, z3⟩ := E
  cases i <;> first
    | rfl
    | (exfalso; rcases h2 with ⟨v, h2⟩ | ⟨rt, v, h2⟩ | ⟨q, h2⟩ <;> cases h2)
theorem ex_ext {MT : List MM} : ∀ (n d mi : Nat) (F : MH) (pc : Nat) (lv lv' : LVs) (st : List Value) (z : Option Value × MH), lvE lv lv' → ex MT ro fty dfl n d mi F pc lv st = some z → ex MT ro fty dfl n d mi F pc lv' st = some z := by
  intro n
  induction n with
  | zero => intro d mi F pc lv lv' st z _ h; cases h
  | succ n ih =>
    intro d mi F pc lv lv' st z he h
    rw [ex] at h ⊢
    split at h
    · cases h
    · rename_i E hE
      try simp only
      split at h
      · rename_i q hq
        obtain ⟨lv2, e1, e2⟩ := one_ext he hq
        rw [e1]
        exact ih _ _ _ _ _ _ _ _ e2 h
      · rename_i hq
        split at h
        · rename_i v hv
          rw [one_extN he hq (Or.inr (Or.inl ⟨_, v, hv⟩))]
          try simp only
          exact h
        · rename_i hv
          split at h
          · cases h
          · rename_i q hi
            rw [one_extN he hq (Or.inr (Or.inr ⟨q, hi⟩))]
            try simp only
            split at h
            · rename_i h9
              rw [if_pos h9]
              split at h
              · split at h
                · rename_i hk
                  rw [if_pos hk]
                  exact ih _ _ _ _ _ _ _ _ he h
                · cases h
              · cases h
            · rename_i h9
              rw [if_neg h9]
              split at h
              · rename_i h8
                rw [if_pos h8]
                split at h
                · exact ih _ _ _ _ _ _ _ _ he h
                · cases h
              · rename_i h8
                rw [if_neg h8]
                split at h
                · rename_i hr
                  rw [if_pos hr]
                  split at h
                  · cases h
                  · rename_i d1
                    split at h
                    · cases h
                    · rename_i z1 hz
                      exact ih _ _ _ _ _ _ _ _ he h
                · cases h
end PcD
theorem PC.lv {xl : List Int32} {n mi pc : Nat} {lv lv' : LVs} {st : List Value} {ι : IS} {Q : Option Value → IS → Prop} (he : lvE lv lv') (h : PC xl n mi pc lv' st ι Q) : PC xl n mi pc lv st ι Q := fun F hs hi d z hx => h F hs hi d z (ex_ext _ _ _ _ _ _ _ _ _ he hx)
theorem lvE.nil {lv' : LVs} : lvE [] lv' := fun q hq => by cases hq
theorem lvE.cons {lv lv' : LVs} {i : Nat} {v : Value} (h : m_get lv' i = some v) (ht : lvE lv lv') : lvE ((i, v) :: lv) lv' := fun q hq => by
  rcases List.mem_cons.mp hq with rfl | hq
  · exact h
  · exact ht q hq
theorem rf_lt (a j : Nat) : rf a j < KB := by
  unfold rf
  split
  · rename_i o h
    split
    · rename_i p hp
      have h1 := List.all_eq_true.mp tyB_ok _ (List.mem_of_getElem? h)
      have h2 := List.all_eq_true.mp h1 j (List.mem_range.mpr (List.getElem?_eq_some_iff.mp hp).1)
      rw [hp] at h2
      simp only [Bool.and_eq_true, decide_eq_true_eq] at h2
      exact h2.2
    · decide
  · decide
theorem PC.tsw {xl : List Int32} {n mi pc : Nat} {lv : LVs} {r : List Value} {ι : IS} {Q : Option Value → IS → Prop} {rt : Option FieldType} {x : Int32} {d lo hi : Int} {offs : Array Int} {len z1 z2 : Nat} {z : Int} (hE : t_at tT mi pc = some ((pc, .tableswitch d lo hi offs, len, z1, z2, z), rt)) (h1 : ∀ (i : Nat) (off : Int) (t : Nat), offs[i]? = some off → m_to pc off = some t → x.toInt = lo + i → PC xl n mi t lv r ι Q) (h2 : ∀ t, m_to pc d = some t → (x.toInt < lo ∨ hi < x.toInt) → PC xl n mi t lv r ι Q) : PC xl n mi pc lv (.int x :: r) ι Q := by
  intro F hs hi2
  refine (PF.heap (n := n) (tT_ok _ _ _ hE) rfl rfl ?_).weak
  intro q hq
  have hq : (match m_br (pc, .tableswitch d lo hi offs, len, z1, z2, z) (.int x :: r) with | some q => some (F, q.1, lv, q.2) | none => none) = some q := hq
  split at hq
  · rename_i q1 hb
    cases hq
    simp only [m_br] at hb
    split at hb
    · rename_i hr
      obtain ⟨t, ht, rfl⟩ := Option.map_eq_some_iff.mp hb
      exact h2 t ht hr F hs hi2
    · rename_i hr
      split at hb
      · rename_i off ho
        obtain ⟨t, ht, rfl⟩ := Option.map_eq_some_iff.mp hb
        exact h1 _ off t ho ht (by omega) F hs hi2
      · cases hb
  · cases hq
end
section
/-! INTS: what they come to as numbers -/
section PcInt
variable {x y : Int32}
theorem i_rng (x : Int32) : -2147483648 ≤ x.toInt ∧ x.toInt ≤ 2147483647 := ⟨Int32.le_toInt x, Int32.toInt_le x⟩
theorem i_bm {z : Int} (h : -2147483648 ≤ z ∧ z ≤ 2147483647) : z.bmod 4294967296 = z := by
  rw [Int.bmod_def]; omega
theorem i_add (h : -2147483648 ≤ x.toInt + y.toInt ∧ x.toInt + y.toInt ≤ 2147483647) : (x + y).toInt = x.toInt + y.toInt := by
  rw [Int32.toInt_add]; exact i_bm h
theorem i_sub (h : -2147483648 ≤ x.toInt - y.toInt ∧ x.toInt - y.toInt ≤ 2147483647) : (x - y).toInt = x.toInt - y.toInt := by
  rw [Int32.toInt_sub]; exact i_bm h
theorem i_mul (h : -2147483648 ≤ x.toInt * y.toInt ∧ x.toInt * y.toInt ≤ 2147483647) : (x * y).toInt = x.toInt * y.toInt := by
  rw [Int32.toInt_mul]; exact i_bm h
theorem i_lt : x < y ↔ x.toInt < y.toInt := Int32.lt_iff_toInt_lt
theorem i_le : x ≤ y ↔ x.toInt ≤ y.toInt := Int32.le_iff_toInt_le
theorem i_eq : x = y ↔ x.toInt = y.toInt := Int32.toInt_inj.symm
theorem i_ix : x.toNatClampNeg = x.toInt.toNat := rfl
theorem i_ixn {p : Nat} (h : x.toInt = p) : x.toNatClampNeg = p := by rw [i_ix, h]; rfl
theorem i_of {p : Nat} (h : p ≤ 2147483647) : (Int32.ofNat p).toInt = p := Int32.toInt_ofNat_of_lt (by omega)
end PcInt
end
section
/-! PARTIAL CORRECTNESS, V: the texts, the script; places that have no instruction -/
section PcE
variable {xl : List Int32} {n mi pc : Nat} {lv : LVs} {r : List Value} {ι : IS} {Q : Option Value → IS → Prop} {rt : Option FieldType} {i : Int32} {s : Nat}
theorem cell_ro2 (F : MH) : m_cell (tRo xl) F (KB + s) = tRo xl s := by
  unfold m_cell
  rw [if_neg (by omega), Nat.add_sub_cancel_left]
theorem PC.gS {k j : Nat} {z : Int} {fs : List Value} {v : Value} (hs : tRo xl s = some (.inl (99, fs))) (hE : t_at tT mi pc = some ((pc, .getfield k, 3, 99, j, z), rt)) (hv : fs[j]? = some v) (h : PC xl n mi (pc + 3) lv (v :: r) ι Q) : PC xl n mi pc lv (.ref (KB + s) :: r) ι Q := by
  intro F hs1 hi
  refine (PF.one (n := n) (tT_ok _ _ _ hE) (q := (F, pc + 3, lv, v :: r)) ?_ (h F hs1 hi)).weak
  have e : m_rd (tRo xl) F (pc, .getfield k, 3, 99, j, z) (.ref (KB + s) :: r) = some (v :: r) := by
    simp only [m_rd, cell_ro2, hs, if_true, hv]
  show (match m_rd (tRo xl) F (pc, .getfield k, 3, 99, j, z) (.ref (KB + s) :: r) with | some st1 => some (F, pc + 3, lv, st1) | none => _) = _
  rw [e]
theorem PC.aL {z1 z2 k : Nat} {z : Int} {xs : List Int32} (hs : tRo xl s = some (.inr (.inl (k, xs)))) (hE : t_at tT mi pc = some ((pc, .arraylength, 1, z1, z2, z), rt)) (h : PC xl n mi (pc + 1) lv (.int (Int32.ofNat xs.length) :: r) ι Q) : PC xl n mi pc lv (.ref (KB + s) :: r) ι Q := by
  intro F hs1 hi
  refine (PF.one (n := n) (tT_ok _ _ _ hE) (q := (F, pc + 1, lv, .int (Int32.ofNat xs.length) :: r)) ?_ (h F hs1 hi)).weak
  have e : m_rd (tRo xl) F (pc, .arraylength, 1, z1, z2, z) (.ref (KB + s) :: r) = some (.int (Int32.ofNat xs.length) :: r) := by
    have hk : ¬ KB + s < KB := by omega
    have e2 : KB + s - KB = s := Nat.add_sub_cancel_left ..
    simp only [m_rd, if_neg hk, e2, hs]
  show (match m_rd (tRo xl) F (pc, .arraylength, 1, z1, z2, z) (.ref (KB + s) :: r) with | some st1 => some (F, pc + 1, lv, st1) | none => _) = _
  rw [e]
theorem PC.bS {z1 z2 k : Nat} {z : Int} {xs : List Int32} (hs : tRo xl s = some (.inr (.inl (k, xs)))) (hE : t_at tT mi pc = some ((pc, .baload, 1, z1, z2, z), rt)) (h : 0 ≤ i.toInt → i.toInt < xs.length → PC xl n mi (pc + 1) lv (.int (xs.getD i.toNatClampNeg 0) :: r) ι Q) : PC xl n mi pc lv (.int i :: .ref (KB + s) :: r) ι Q := by
  intro F hs1 hi
  refine (PF.heap (n := n) (tT_ok _ _ _ hE) rfl rfl ?_).weak
  intro q hq
  have hq : (match m_rd (tRo xl) F (pc, .baload, 1, z1, z2, z) (.int i :: .ref (KB + s) :: r) with | some st1 => some (F, pc + 1, lv, st1) | none => none) = some q := hq
  split at hq
  · rename_i st1 h1
    cases hq
    simp only [m_rd, cell_ro2, hs] at h1
    split at h1
    · rename_i hw
      cases h1
      have hl := in_ok hw.2
      exact h hl.1 hl.2.1 F hs1 hi
    · cases h1
  · cases hq
theorem PC.iS {z1 z2 k : Nat} {z : Int} {xs : List Int32} (hs : tRo xl s = some (.inr (.inl (k, xs)))) (hE : t_at tT mi pc = some ((pc, .iaload, 1, z1, z2, z), rt)) (h : 0 ≤ i.toInt → i.toInt < xs.length → PC xl n mi (pc + 1) lv (.int (xs.getD i.toNatClampNeg 0) :: r) ι Q) : PC xl n mi pc lv (.int i :: .ref (KB + s) :: r) ι Q := by
  intro F hs1 hi
  refine (PF.heap (n := n) (tT_ok _ _ _ hE) rfl rfl ?_).weak
  intro q hq
  have hq : (match m_rd (tRo xl) F (pc, .iaload, 1, z1, z2, z) (.int i :: .ref (KB + s) :: r) with | some st1 => some (F, pc + 1, lv, st1) | none => none) = some q := hq
  split at hq
  · rename_i st1 h1
    cases hq
    simp only [m_rd, cell_ro2, hs] at h1
    split at h1
    · rename_i hw
      cases h1
      have hl := in_ok hw.2
      exact h hl.1 hl.2.1 F hs1 hi
    · cases h1
  · cases hq
theorem PC.none {st : List Value} (hE : m_at tMT mi pc = none) : PC xl n mi pc lv st ι Q := by
  intro F hs1 hi d z hx
  cases n with
  | zero => cases hx
  | succ n => rw [ex, hE] at hx; cases hx
end PcE
end
section
/-! PARTIAL CORRECTNESS, V: a run touches what its references come to, nothing else -/
noncomputable def sV (S : Nat → Bool) (v : Value) : Prop := ∀ a, v = .ref a → S a = true ∨ KB ≤ a
noncomputable def sL (S : Nat → Bool) (l : List Value) : Prop := ∀ v ∈ l, sV S v
noncomputable def sLv (S : Nat → Bool) (lv : LVs) : Prop := ∀ q ∈ lv, sV S q.2
/-- cells of S name cells of S alone, but in the fields B -/
noncomputable def sClo (S : Nat → Bool) (B : List (Nat × Nat)) : Bool := (sh0.zip (List.range sh0.length)).all (fun q => !(S q.2) || (match q.1 with
  | .inl o => (o.2.zip (List.range o.2.length)).all (fun w => match w.1 with | .ref b => S b || (decide (KB ≤ b) || B.contains (o.1, w.2)) | _ => true)
  | .inr (.inl _) => true
  | .inr (.inr p) => p.2.all (fun o => match o with | some b => S b || decide (KB ≤ b) | none => true)))
/-- an instruction that names no field of B, writes none of X, calls what P holds -/
noncomputable def sOkE (P : Nat → Bool) (B X : List (Nat × Nat)) (E : MI) : Bool := okS1 E && ((match E.2.1 with
  | .getfield _ => !(B.contains (E.2.2.2.1, E.2.2.2.2.1))
  | .putfield _ => !(X.contains (E.2.2.2.1, E.2.2.2.2.1))
  | _ => true) && (!(ivI E.2.1) || (E.2.2.2.1 == 9999 || (E.2.2.2.1 == 9998 || P E.2.2.2.1))))
noncomputable def sChk (P : Nat → Bool) (B X : List (Nat × Nat)) : Bool := (tMT.zip (List.range tMT.length)).all (fun q => !(P q.2) || q.1.2.2.2.2.all (sOkE P B X))
noncomputable def xf (X : List (Nat × Nat)) (a j : Nat) : Bool := match sh0[a]? with
  | some (.inl o) => X.contains (o.1, j)
  | _ => false
section Side
variable {S P : Nat → Bool} {B X : List (Nat × Nat)} {v : Value} {x : Int32} {y : Int64} {l r st st1 : List Value} {lv : LVs} {F : MH} {xl : List Int32} {E : MI}
theorem sV_int : sV S (.int x) := fun _ h => by cases h
theorem sV_long : sV S (.long y) := fun _ h => by cases h
theorem sV_null : sV S .null := fun _ h => by cases h
theorem sL_nil : sL S [] := fun _ h => by cases h
theorem sL_cons : sL S (v :: l) ↔ sV S v ∧ sL S l := List.forall_mem_cons
theorem zip_mem {α : Type} {l : List α} {i : Nat} {c : α} (h : l[i]? = some c) : (c, i) ∈ l.zip (List.range l.length) := by
  have hi : i < l.length := (List.getElem?_eq_some_iff.mp h).1
  refine List.mem_of_getElem? (i := i) ?_
  rw [List.getElem?_zip_eq_some]
  exact ⟨h, by rw [List.getElem?_range hi]⟩
theorem get_s {i : Nat} (hl : sLv S lv) (h : m_get lv i = some v) : sV S v := by
  unfold m_get at h
  obtain ⟨q, hq, rfl⟩ := Option.map_eq_some_iff.mp h
  exact hl q (List.mem_of_find?_eq_some hq)
theorem fil_s {o : Option Value} {p : Value → Bool} (h : o.filter p = some v) : o = some v := by
  cases o with
  | none => cases h
  | some w =>
    by_cases hp : p w = true
    · simpa [Option.filter, hp] using h
    · simp [Option.filter, hp] at h
theorem push_s (hl : sLv S lv) (h : m_push E lv = some v) : sV S v := by
  unfold m_push at h
  split at h
  · cases h; exact sV_int
  · cases h; exact sV_int
  · cases h; exact sV_int
  · cases h; exact sV_long
  · cases h; exact sV_null
  · exact get_s hl (fil_s h)
  · exact get_s hl (fil_s h)
  · exact get_s hl (fil_s h)
  · exact get_s hl (fil_s h)
  · exact get_s hl (fil_s h)
  · exact get_s hl (fil_s h)
  · cases h
theorem cst_s (h : m_cst E = some v) : sV S v := by
  unfold m_cst at h
  split at h
  · split at h
    · cases h; exact sV_int
    · cases h; intro a e; cases e; exact Or.inr (Nat.le_add_right _ _)
  · cases h; exact sV_int
  · cases h; exact sV_long
  · split at h
    · cases h; exact sV_int
    · cases h; intro a e; cases e; exact Or.inr (Nat.le_add_right _ _)
  · cases h
theorem put1_s {i : Nat} (hl : sLv S lv) (hv : sV S v) : sLv S (m_put1 lv i v) := by
  intro q hq
  rcases List.mem_cons.mp hq with rfl | h
  · exact hv
  · exact hl q (List.mem_filter.mp h).1
theorem put2_s {i : Nat} (hl : sLv S lv) (hv : sV S v) : sLv S (m_put2 lv i v) := by
  intro q hq
  rcases List.mem_cons.mp hq with rfl | h
  · exact hv
  · exact hl q (List.mem_filter.mp h).1
theorem store_s {q : LVs × List Value} (hl : sLv S lv) (hs : sL S st) (h : m_store E lv st = some q) : sLv S q.1 ∧ sL S q.2 := by
  unfold m_store at h
  split at h
  · split at h
    · cases h; rw [sL_cons] at hs; exact ⟨put1_s hl hs.1, hs.2⟩
    · cases h
  · split at h
    · cases h; rw [sL_cons] at hs; exact ⟨put1_s hl hs.1, hs.2⟩
    · cases h
  · split at h
    · cases h; rw [sL_cons] at hs; exact ⟨put2_s hl hs.1, hs.2⟩
    · cases h
  · split at h
    · cases h; rw [sL_cons] at hs; exact ⟨put2_s hl hs.1, hs.2⟩
    · cases h
  · split at h
    · cases h; rw [sL_cons] at hs; exact ⟨put1_s hl hs.1, hs.2⟩
    · cases h; rw [sL_cons] at hs; exact ⟨put1_s hl hs.1, hs.2⟩
    · cases h
  · split at h
    · cases h; rw [sL_cons] at hs; exact ⟨put1_s hl hs.1, hs.2⟩
    · cases h; rw [sL_cons] at hs; exact ⟨put1_s hl hs.1, hs.2⟩
    · cases h
  · split at h
    · cases h; exact ⟨put1_s hl sV_int, hs⟩
    · cases h
  · cases h
theorem stk_s {i : Instr} (hs : sL S st) (h : m_stk i st = some st1) : sL S st1 := by
  unfold m_stk at h
  split at h
  · split at h
    · cases h; simp only [sL_cons] at hs ⊢; exact ⟨sV_int, hs.2⟩
    · cases h
  · split at h
    · cases h; simp only [sL_cons] at hs ⊢; exact ⟨sV_int, hs.2.2⟩
    · cases h
  · split at h
    · split at h
      · cases h; simp only [sL_cons] at hs ⊢; exact ⟨hs.1, hs.1, hs.2⟩
      · cases h
    · cases h
  · split at h
    · split at h
      · cases h; simp only [sL_cons] at hs ⊢; exact hs.2
      · cases h
    · cases h
  · split at h
    · split at h
      · cases h; simp only [sL_cons] at hs ⊢; exact hs.2
      · cases h
    · cases h
  · split at h
    · split at h
      · cases h; simp only [sL_cons] at hs ⊢; exact ⟨hs.1, hs.2.1, hs.1, hs.2.2⟩
      · cases h
    · cases h
  · split at h
    · split at h
      · cases h; simp only [sL_cons] at hs ⊢; exact ⟨hs.1, hs.2.1, hs.2.2.1, hs.1, hs.2.2.2⟩
      · cases h
    · cases h
  · split at h
    · split at h
      · cases h; simp only [sL_cons] at hs ⊢; exact ⟨hs.1, hs.2.1, hs.1, hs.2.1, hs.2.2⟩
      · cases h
    · cases h
  · cases h
theorem alu_s {i : Instr} (hs : sL S st) (h : m_alu i st = some st1) : sL S st1 := by
  unfold m_alu at h
  split at h
  · split at h
    · cases h; simp only [sL_cons] at hs ⊢; exact ⟨sV_int, hs.2.2⟩
    · cases h
  split at h
  · split at h
    · split at h
      · cases h
      · cases h; simp only [sL_cons] at hs ⊢; exact ⟨sV_int, hs.2.2⟩
    · cases h
  split at h
  · split at h
    · cases h; simp only [sL_cons] at hs ⊢; exact ⟨sV_long, hs.2.2⟩
    · cases h
  split at h
  · split at h
    · split at h
      · cases h
      · cases h; simp only [sL_cons] at hs ⊢; exact ⟨sV_long, hs.2.2⟩
    · cases h
  split at h
  · rename_i f hf
    split at h
    · cases h
      simp only [sL_cons] at hs ⊢
      refine ⟨?_, hs.2⟩
      unfold m_u32 at hf
      split at hf <;> cases hf <;> intro a e <;> cases e
    · cases h
  · exact stk_s hs h
theorem br_s {q : Nat × List Value} (hs : sL S st) (h : m_br E st = some q) : sL S q.2 := by
  have hif : ∀ {pc : Nat} {off : Int} {b : Bool} {r : List Value}, sL S r → m_if pc off b r = some q → sL S q.2 := by
    intro pc off b r hr h
    unfold m_if at h
    obtain ⟨t, -, rfl⟩ := Option.map_eq_some_iff.mp h
    exact hr
  unfold m_br at h
  split at h
  · obtain ⟨t, -, rfl⟩ := Option.map_eq_some_iff.mp h
    exact hs
  · split at h
    · rw [sL_cons] at hs; exact hif hs.2 h
    · cases h
  · split at h
    · simp only [sL_cons] at hs; exact hif hs.2.2 h
    · cases h
  · split at h
    · rw [sL_cons] at hs
      split at h
      · obtain ⟨t, -, rfl⟩ := Option.map_eq_some_iff.mp h
        exact hs.2
      · split at h
        · obtain ⟨t, -, rfl⟩ := Option.map_eq_some_iff.mp h
          exact hs.2
        · cases h
    · cases h
  · split at h
    · rw [sL_cons] at hs
      split at h
      · obtain ⟨t, -, rfl⟩ := Option.map_eq_some_iff.mp h
        exact hs.2
      · cases h
    · cases h
  · cases h
theorem rd_s (hc : sClo S B = true) (hE : sOkE P B X E = true) (hF : F.map zc = sh0) (hs : sL S st) (h : m_rd (tRo xl) F E st = some st1) : sL S st1 := by
  unfold m_rd at h
  split at h
  · rename_i he
    split at h
    · rename_i a r
      rw [sL_cons] at hs
      split at h
      · rename_i ci fs hm
        split at h
        · rename_i hci
          split at h
          · rename_i v hv
            cases h
            rw [sL_cons]
            refine ⟨?_, hs.2⟩
            intro b eb
            subst eb
            unfold m_cell at hm
            split at hm
            · rename_i hk
              have hS : S a = true := (hs.1 a rfl).resolve_right (by omega)
              have h1 := List.all_eq_true.mp hc _ (zip_mem (sh_get hF hm))
              simp only [hS, Bool.not_true, Bool.false_or, zc] at h1
              have hv2 : (fs.map zv)[E.2.2.2.2.1]? = some (.ref b) := by rw [List.getElem?_map, hv]; rfl
              have h2 := List.all_eq_true.mp h1 _ (zip_mem hv2)
              simp only [Bool.or_eq_true, decide_eq_true_eq] at h2
              rcases h2 with h2 | h2 | h2
              · exact Or.inl h2
              · exact Or.inr h2
              · unfold sOkE at hE
                rw [he] at hE
                simp only [Bool.and_eq_true] at hE
                have h3 := hE.2.1
                rw [← hci, h2] at h3
                cases h3
            · rename_i hk
              unfold tRo at hm
              split at hm
              · cases hm
              · split at hm
                · split at hm
                  · cases hm
                    match hz : E.2.2.2.2.1, hv with
                    | 0, hv => cases hv; exact Or.inr (Nat.le_add_right _ _)
                    | 1, hv => cases hv
                    | k + 2, hv => cases hv
                  · cases hm
                · cases hm
          · cases h
        · cases h
      · cases h
    · cases h
  · split at h
    · rw [sL_cons] at hs
      split at h
      · cases h
      · split at h
        · cases h; rw [sL_cons]; exact ⟨sV_int, hs.2⟩
        · cases h
    · cases h
  · split at h
    · simp only [sL_cons] at hs
      split at h
      · split at h
        · cases h; rw [sL_cons]; exact ⟨sV_int, hs.2.2⟩
        · cases h
      · cases h
    · cases h
  · split at h
    · simp only [sL_cons] at hs
      split at h
      · split at h
        · cases h; rw [sL_cons]; exact ⟨sV_int, hs.2.2⟩
        · cases h
      · cases h
    · cases h
  · split at h
    · rename_i i a r
      simp only [sL_cons] at hs
      split at h
      · rename_i k os hm
        split at h
        · rename_i hw
          cases h
          rw [sL_cons]
          refine ⟨?_, hs.2.2⟩
          intro b eb
          unfold m_cell at hm
          rw [if_pos hw.1] at hm
          have hS : S a = true := (hs.2.1 a rfl).resolve_right (Nat.not_le.mpr hw.1)
          have h1 := List.all_eq_true.mp hc _ (zip_mem (sh_get hF hm))
          simp only [hS, Bool.not_true, Bool.false_or, zc] at h1
          have hin := in_ok hw.2.2.2
          rw [List.getD_eq_getElem?_getD] at eb
          cases hq : os[i.toNatClampNeg]? with
          | none => rw [hq] at eb; cases eb
          | some o =>
            rw [hq] at eb
            cases o with
            | none => cases eb
            | some p =>
              cases eb
              have h2 := List.all_eq_true.mp h1 _ (List.mem_of_getElem? hq)
              simp only [Bool.or_eq_true, decide_eq_true_eq] at h2
              exact h2
        · cases h
      · cases h
    · cases h
  · cases h
/-- what a step leaves -/
noncomputable def sG (S : Nat → Bool) (X : List (Nat × Nat)) (F F1 : MH) : Prop := ∀ a j, (S a = false ∨ xf X a j = true) → iv F1 a j = iv F a j
theorem sG.rfl : sG S X F F := fun _ _ _ => Eq.refl _
theorem sG.trans {F1 F2 : MH} (h1 : sG S X F F1) (h2 : sG S X F1 F2) : sG S X F F2 := fun a j h => (h2 a j h).trans (h1 a j h)
theorem wr_s {q : MH × List Value} (hE : sOkE P B X E = true) (hF : F.map zc = sh0) (hs : sL S st) (h : m_wr tFty tDfl F E st = some q) : sL S q.2 ∧ sG S X F q.1 := by
  have ho : okS1 E = true := (Bool.and_eq_true _ _ ▸ hE : okS1 E = true ∧ _).1
  have row : ∀ {a k : Nat} {xs : List Int32} {x i : Int32}, sV S (.ref a) → a < KB → F[a]? = some (.inr (.inl (k, xs))) → m_in i xs.length = true → sG S X F (F.set a (.inr (.inl (k, xs.set i.toNatClampNeg x)))) := by
    intro a k xs x i hv ha hc hi b j hb
    have hS : S a = true := (hv a (Eq.refl _)).resolve_right (by omega)
    have hj : i.toNatClampNeg < xs.length := (in_ok hi).2.2
    rw [iv_setR hc hj, up_ne]
    intro e
    rcases hb with hb | hb
    · rw [e.1, hS] at hb; cases hb
    · unfold xf at hb; rw [e.1, sh_get hF hc] at hb; cases hb
  unfold m_wr at h
  split at h
  · rename_i he
    split at h
    · rename_i v a r
      simp only [sL_cons] at hs
      split at h
      · rename_i ci fs hc
        split at h
        · rename_i hw
          cases h
          refine ⟨hs.2.2, ?_⟩
          intro b j hb
          have hS : S a = true := (hs.2.1 a (Eq.refl _)).resolve_right (Nat.not_le.mpr hw.1)
          simp only [iv]
          by_cases hba : b = a
          · subst hba
            rw [List.getElem?_set_self (List.getElem?_eq_some_iff.mp hc).1, hc]
            rcases hb with hb | hb
            · rw [hS] at hb; cases hb
            · unfold xf at hb
              rw [sh_get hF hc] at hb
              simp only [zc] at hb
              have hne : ¬ E.2.2.2.2.1 = j := by
                intro e
                unfold sOkE at hE
                rw [he] at hE
                simp only [Bool.and_eq_true] at hE
                have h3 := hE.2.1
                rw [← hw.2.1, e, hb] at h3
                cases h3
              simp only
              rw [List.getElem?_set_ne hne]
          · rw [List.getElem?_set_ne (fun e => hba e.symm)]
        · cases h
      · cases h
    · cases h
  · split at h
    · simp only [sL_cons] at hs
      split at h
      · rename_i hc
        split at h
        · rename_i hw
          cases h
          exact ⟨hs.2.2.2, row hs.2.2.1 hw.1 hc hw.2.2⟩
        · cases h
      · cases h
    · cases h
  · split at h
    · simp only [sL_cons] at hs
      split at h
      · rename_i hc
        split at h
        · rename_i hw
          cases h
          exact ⟨hs.2.2.2, row hs.2.2.1 hw.1 hc hw.2.2⟩
        · cases h
      · cases h
    · cases h
  · rename_i he; unfold okS1 at ho; rw [he] at ho; cases ho
  · rename_i he; unfold okS1 at ho; rw [he] at ho; cases ho
  · rename_i he; unfold okS1 at ho; rw [he] at ho; cases ho
  · rename_i he; unfold okS1 at ho; rw [he] at ho; cases ho
  · cases h
theorem one_s {q : MS} (hc : sClo S B = true) (hE : sOkE P B X E = true) (hF : F.map zc = sh0) (hl : sLv S lv) (hs : sL S st) (h : m_one (tRo xl) tFty tDfl E F lv st = some q) : sLv S q.2.2.1 ∧ sL S q.2.2.2 ∧ sG S X F q.1 := by
  unfold m_one at h
  split at h
  · rename_i h1
    cases h; exact ⟨hl, sL_cons.mpr ⟨push_s hl h1, hs⟩, sG.rfl⟩
  split at h
  · rename_i h1
    cases h; exact ⟨hl, sL_cons.mpr ⟨cst_s h1, hs⟩, sG.rfl⟩
  split at h
  · rename_i h1
    cases h; exact ⟨(store_s hl hs h1).1, (store_s hl hs h1).2, sG.rfl⟩
  split at h
  · rename_i h1
    cases h; exact ⟨hl, alu_s hs h1, sG.rfl⟩
  split at h
  · rename_i h1
    cases h; exact ⟨hl, br_s hs h1, sG.rfl⟩
  split at h
  · rename_i h1
    cases h; exact ⟨hl, rd_s hc hE hF hs h1, sG.rfl⟩
  split at h
  · rename_i h1
    cases h; exact ⟨hl, (wr_s hE hF hs h1).1, (wr_s hE hF hs h1).2⟩
  · cases h
theorem ret_s {rt : Option FieldType} {o : Option Value} (h : m_ret rt E st = some o) : sL S o.toList := by
  unfold m_ret at h
  split at h
  · split at h
    · split at h
      · split at h
        · cases h; exact sL_cons.mpr ⟨sV_int, sL_nil⟩
        · cases h
      · cases h
    · cases h
  · split at h
    · split at h
      · cases h; exact sL_cons.mpr ⟨sV_long, sL_nil⟩
      · cases h
    · cases h
  · split at h
    · split at h
      · cases h; exact sL_nil
      · cases h
    · cases h
  · cases h
theorem args_s : ∀ (l : List Value) (k : Nat), sL S l → sLv S (lv_args k l) := by
  intro l
  induction l with
  | nil => intro k _ q hq; cases hq
  | cons v l ih =>
    intro k hl
    rw [sL_cons] at hl
    intro q hq
    rw [lv_args] at hq
    rcases List.mem_cons.mp hq with rfl | h
    · exact hl.1
    · exact ih _ hl.2 q h
theorem ex_side (hc : sClo S B = true) (hk : sChk P B X = true) : ∀ (n d mi : Nat) (F : MH) (pc : Nat) (lv : LVs) (st : List Value) (z : Option Value × MH), P mi = true → F.map zc = sh0 → sLv S lv → sL S st → ex tMT (tRo xl) tFty tDfl n d mi F pc lv st = some z → z.2.map zc = sh0 ∧ sL S z.1.toList ∧ sG S X F z.2 := by
  intro n
  induction n with
  | zero => intro d mi F pc lv st z _ _ _ _ h; cases h
  | succ n ih =>
    intro d mi F pc lv st z hp hF hl hs h
    rw [ex] at h
    split at h
    · cases h
    · rename_i E hE
      obtain ⟨M, hM, hm, -⟩ := at_mem hE
      have h1 := List.all_eq_true.mp hk _ (zip_mem hM)
      simp only [hp, Bool.not_true, Bool.false_or] at h1
      have ho := List.all_eq_true.mp h1 _ hm
      have ho1 : okS1 E.1 = true := by
        unfold sOkE at ho
        rw [Bool.and_eq_true] at ho
        exact ho.1
      split at h
      · rename_i q hq
        obtain ⟨g1, g2, g3⟩ := one_s hc ho hF hl hs hq
        obtain ⟨k1, k2, k3⟩ := ih _ _ _ _ _ _ _ hp (one_sh hF ho1 hq) g1 g2 h
        exact ⟨k1, k2, g3.trans k3⟩
      · split at h
        · rename_i v hv
          cases h; exact ⟨hF, ret_s hv, sG.rfl⟩
        · split at h
          · cases h
          · rename_i q hi
            obtain ⟨hq, hI⟩ := inv_q hi
            have ht : E.1.2.2.2.1 = 9999 ∨ E.1.2.2.2.1 = 9998 ∨ P E.1.2.2.2.1 = true := by
              unfold sOkE at ho
              simp only [Bool.and_eq_true] at ho
              have h3 := ho.2.2
              rw [hI] at h3
              simpa using h3
            have hq1 : q.1 = E.1.2.2.2.1 := by rw [hq]
            have ha : sL S q.2.1 := by
              rw [hq]
              intro v hv
              exact hs v (List.mem_of_mem_take (List.mem_reverse.mp hv))
            have hr : sL S q.2.2 := by
              rw [hq]
              intro v hv
              exact hs v (List.mem_of_mem_drop hv)
            rw [← hq1] at ht
            split at h
            · split at h
              · split at h
                · exact ih _ _ _ _ _ _ _ hp hF hl hr h
                · cases h
              · cases h
            · rename_i h9
              split at h
              · split at h
                · exact ih _ _ _ _ _ _ _ hp hF hl (sL_cons.mpr ⟨sV_int, hr⟩) h
                · cases h
              · rename_i h8
                split at h
                · split at h
                  · cases h
                  · split at h
                    · cases h
                    · rename_i z1 hz1
                      obtain ⟨g1, g2, g3⟩ := ih _ _ _ _ _ _ _ ((ht.resolve_left h9).resolve_left h8) hF (args_s _ _ ha) sL_nil hz1
                      obtain ⟨k1, k2, k3⟩ := ih _ _ _ _ _ _ _ hp g1 hl (fun v hv => (List.mem_append.mp hv).elim (g2 v) (hr v)) h
                      exact ⟨k1, k2, g3.trans k3⟩
                · cases h
theorem PF.side {n mi pc : Nat} (hc : sClo S B = true) (hk : sChk P B X = true) (hp : P mi = true) (hF : F.map zc = sh0) (hl : sLv S lv) (hs : sL S st) : PF (tRo xl) n mi pc lv st F (fun _ F1 => sG S X F F1) := fun d z hx => (ex_side hc hk n d mi F pc lv st z hp hF hl hs hx).2.2
end Side
end
section
/-! THE LAW'S RUN, I: rules over the cells themselves -/
section PfL
variable {xl : List Int32} {ro : Nat → Option MC} {n mi pc : Nat} {lv : LVs} {st r : List Value} {F : MH} {Q : Option Value → MH → Prop} {rt : Option FieldType} {x y i : Int32}
theorem PF_of_TT {d : Nat} (h : TT tMT ro tFty tDfl d mi F pc lv st Q) : PF ro n mi pc lv st F Q := by
  obtain ⟨m, z, h1, h2⟩ := h
  intro d2 z2 hx
  have e1 := ex_mono _ _ _ _ _ _ _ _ h1 (max m n) (max d d2) (Nat.le_max_left _ _) (Nat.le_max_left _ _)
  have e2 := ex_mono _ _ _ _ _ _ _ _ hx (max m n) (max d d2) (Nat.le_max_right _ _) (Nat.le_max_right _ _)
  have e : z = z2 := Option.some.inj (e1.symm.trans e2)
  rw [← e]; exact h2
theorem PF.and {Q2 : Option Value → MH → Prop} (h1 : PF ro n mi pc lv st F Q) (h2 : PF ro n mi pc lv st F Q2) : PF ro n mi pc lv st F (fun v F1 => Q v F1 ∧ Q2 v F1) := fun d z hx => ⟨h1 d z hx, h2 d z hx⟩
theorem PF.sh (hp : sP mi = true) (hs : F.map zc = sh0) : PF ro n mi pc lv st F (fun _ F1 => F1.map zc = sh0) := fun _ _ hx => ex_sh _ _ _ _ _ _ _ _ hp hs hx
theorem PF.scr {z1 z2 : Nat} {z : Int} (hE : t_at tT mi pc = some ((pc, .iaload, 1, z1, z2, z), rt)) (h : 0 ≤ i.toInt → i.toInt < xl.length → PF (tRo xl) n mi (pc + 1) lv (.int (xl.getD i.toNatClampNeg 0) :: r) F Q) : PF (tRo xl) n mi pc lv (.int i :: .ref KB :: r) F Q := by
  refine (PF.heap (n := n) (tT_ok _ _ _ hE) rfl rfl ?_).weak
  intro q hq
  have hq : (match m_rd (tRo xl) F (pc, .iaload, 1, z1, z2, z) (.int i :: .ref KB :: r) with | some st1 => some (F, pc + 1, lv, st1) | none => none) = some q := hq
  have hc : m_cell (tRo xl) F KB = some (.inr (.inl (0, xl))) := cell_ro2 (s := 0) F
  split at hq
  · rename_i st1 h1
    cases hq
    simp only [m_rd, hc] at h1
    split at h1
    · rename_i hw
      cases h1
      have hl := in_ok hw.2
      exact h hl.1 hl.2.1
    · cases h1
  · cases hq
theorem PF.sln {z1 z2 : Nat} {z : Int} (hE : t_at tT mi pc = some ((pc, .arraylength, 1, z1, z2, z), rt)) (h : PF (tRo xl) n mi (pc + 1) lv (.int (Int32.ofNat xl.length) :: r) F Q) : PF (tRo xl) n mi pc lv (.ref KB :: r) F Q := by
  refine (PF.one (n := n) (tT_ok _ _ _ hE) (q := (F, pc + 1, lv, .int (Int32.ofNat xl.length) :: r)) ?_ h).weak
  have e : m_rd (tRo xl) F (pc, .arraylength, 1, z1, z2, z) (.ref KB :: r) = some (.int (Int32.ofNat xl.length) :: r) := by
    have hk : ¬ KB < KB := Nat.lt_irrefl _
    have e2 : KB - KB = 0 := Nat.sub_self _
    have e3 : tRo xl 0 = some (.inr (.inl (0, xl))) := rfl
    simp only [m_rd, if_neg hk, e2, e3]
  show (match m_rd (tRo xl) F (pc, .arraylength, 1, z1, z2, z) (.ref KB :: r) with | some st1 => some (F, pc + 1, lv, st1) | none => match m_wr tFty tDfl F (pc, .arraylength, 1, z1, z2, z) (.ref KB :: r) with | some q => some (q.1, pc + 1, lv, q.2) | none => none) = _
  rw [e]
theorem PF.if1 {c : ClassFile.Cond} {off : Int} {z1 z2 t : Nat} {z : Int} (hE : t_at tT mi pc = some ((pc, .ifCond c off, 3, z1, z2, z), rt)) (ht : m_to pc off = some t) (h1 : m_cmp c x 0 = true → PF ro n mi t lv r F Q) (h2 : m_cmp c x 0 = false → PF ro n mi (pc + 3) lv r F Q) : PF ro n mi pc lv (.int x :: r) F Q := by
  have hm : m_one ro tFty tDfl (pc, .ifCond c off, 3, z1, z2, z) F lv (.int x :: r) = some (F, if m_cmp c x 0 = true then t else pc + 3, lv, r) := by
    show (match (m_to pc off).map (fun t => (if m_cmp c x 0 = true then t else pc + 3, r)) with | some q => some (F, q.1, lv, q.2) | none => _) = _
    rw [ht]; rfl
  refine (PF.one (n := n) (tT_ok _ _ _ hE) hm ?_).weak
  simp only
  cases hb : m_cmp c x 0 with
  | true => rw [if_pos rfl]; exact h1 hb
  | false => rw [if_neg (by simp)]; exact h2 hb
theorem PF.if2 {c : ClassFile.Cond} {off : Int} {z1 z2 t : Nat} {z : Int} (hE : t_at tT mi pc = some ((pc, .if_icmp c off, 3, z1, z2, z), rt)) (ht : m_to pc off = some t) (h1 : m_cmp c x y = true → PF ro n mi t lv r F Q) (h2 : m_cmp c x y = false → PF ro n mi (pc + 3) lv r F Q) : PF ro n mi pc lv (.int y :: .int x :: r) F Q := by
  have hm : m_one ro tFty tDfl (pc, .if_icmp c off, 3, z1, z2, z) F lv (.int y :: .int x :: r) = some (F, if m_cmp c x y = true then t else pc + 3, lv, r) := by
    show (match (m_to pc off).map (fun t => (if m_cmp c x y = true then t else pc + 3, r)) with | some q => some (F, q.1, lv, q.2) | none => _) = _
    rw [ht]; rfl
  refine (PF.one (n := n) (tT_ok _ _ _ hE) hm ?_).weak
  simp only
  cases hb : m_cmp c x y with
  | true => rw [if_pos rfl]; exact h1 hb
  | false => rw [if_neg (by simp)]; exact h2 hb
theorem PF.tsw {d lo hi : Int} {offs : Array Int} {len z1 z2 : Nat} {z : Int} (hE : t_at tT mi pc = some ((pc, .tableswitch d lo hi offs, len, z1, z2, z), rt)) (h1 : ∀ (i : Nat) (off : Int) (t : Nat), offs[i]? = some off → m_to pc off = some t → x.toInt = lo + i → PF ro n mi t lv r F Q) (h2 : ∀ t, m_to pc d = some t → (x.toInt < lo ∨ hi < x.toInt) → PF ro n mi t lv r F Q) : PF ro n mi pc lv (.int x :: r) F Q := by
  refine (PF.heap (n := n) (tT_ok _ _ _ hE) rfl rfl ?_).weak
  intro q hq
  have hq : (match m_br (pc, .tableswitch d lo hi offs, len, z1, z2, z) (.int x :: r) with | some q => some (F, q.1, lv, q.2) | none => none) = some q := hq
  split at hq
  · rename_i q1 hb
    cases hq
    simp only [m_br] at hb
    split at hb
    · rename_i hr
      obtain ⟨t, ht, rfl⟩ := Option.map_eq_some_iff.mp hb
      exact h2 t ht hr
    · rename_i hr
      split at hb
      · rename_i off ho
        obtain ⟨t, ht, rfl⟩ := Option.map_eq_some_iff.mp hb
        exact h1 _ off t ho ht (by omega)
      · cases hb
  · cases hq
theorem PF.retI {z1 z2 : Nat} {z : Int} (hE : t_at tT mi pc = some ((pc, .ireturn, 1, z1, z2, z), rt)) (h : Q (some (.int x)) F) : PF ro n mi pc lv [.int x] F Q := by
  refine (PF.ret (n := n) (tT_ok _ _ _ hE) rfl rfl ?_).weak
  intro v hv
  simp only [m_ret] at hv
  split at hv
  · split at hv
    · cases hv; exact h
    · cases hv
  · cases hv
theorem PF.callA {E : MI × Option FieldType} {j : Nat} {args rest : List Value} (hE : t_at tT mi pc = some E) (hI : ivI E.1.2.1 = true) (hj : E.1.2.2.2.1 = j) (ha : (st.take E.1.2.2.2.2.1).reverse = args) (hr : st.drop E.1.2.2.2.2.1 = rest) (h8 : ¬ j = 9999 ∧ ¬ j = 9998) (h : PF ro n j 0 (lv_args 0 args) [] F (fun v F1 => PF ro n mi (pc + 3) lv (v.toList ++ rest) F1 Q)) : PF ro (n + 1) mi pc lv st F Q := by
  have ho := one_ivI (ro := ro) (F := F) (lv := lv) (st := st) hI
  refine PF.call (n := n) (args := args) (rest := rest) (tT_ok _ _ _ hE) ho.1 (ho.2 _) (fun q hq => ?_) h8.1 h8.2 h
  rw [(inv_q hq).1, hj, ha, hr]
theorem PF.callI {E : MI × Option FieldType} {j : Nat} {args rest : List Value} {M : MM} {ty : FieldType} (hE : t_at tT mi pc = some E) (hI : ivI E.1.2.1 = true) (hj : E.1.2.2.2.1 = j) (ha : (st.take E.1.2.2.2.2.1).reverse = args) (hr : st.drop E.1.2.2.2.2.1 = rest) (h8 : ¬ j = 9999 ∧ ¬ j = 9998) (hM : tMT[j]? = some M) (hty : M.2.2.2.1 = some ty) (hl : ¬ ty = .long) (h : PF ro n j 0 (lv_args 0 args) [] F (fun v F1 => ∀ x, v = some (.int x) → PF ro n mi (pc + 3) lv (.int x :: rest) F1 Q)) : PF ro (n + 1) mi pc lv st F Q := by
  refine PF.callA hE hI hj ha hr h8 ?_
  intro d z hx
  obtain ⟨x, e⟩ := (ex_k hM _ _ _ _ _ _ _ hx).2 ty hty hl
  have := h d z hx x e
  rw [e]
  exact this
noncomputable def isIr (i : Instr) : Bool := match i with | .ireturn => true | _ => false
theorem ex_kJ {M : MM} (hM : tMT[mi]? = some M) (hJ : M.2.2.2.1 = some .long) (hno : M.2.2.2.2.all (fun E => !(isIr E.2.1)) = true) : ∀ (n d : Nat) (F : MH) (pc : Nat) (lv : LVs) (st : List Value) (z : Option Value × MH), ex tMT ro tFty tDfl n d mi F pc lv st = some z → ∃ x, z.1 = some (.long x) := by
  intro n
  induction n with
  | zero => intro d F pc lv st z h; cases h
  | succ n ih =>
    intro d F pc lv st z h
    rw [ex] at h
    split at h
    · cases h
    · rename_i E hE
      obtain ⟨M', hM', hmem, hE2⟩ := at_mem hE
      have e : M' = M := Option.some.inj (hM'.symm.trans hM)
      subst e
      have hn := List.all_eq_true.mp hno _ hmem
      split at h
      · exact ih _ _ _ _ _ _ h
      · split at h
        · rename_i v hv
          cases h
          unfold m_ret at hv
          split at hv
          · rename_i he
            rw [he] at hn
            cases hn
          · split at hv
            · split at hv
              · cases hv; exact ⟨_, rfl⟩
              · cases hv
            · cases hv
          · split at hv
            · split at hv
              · rename_i e2; rw [hE2, hJ] at e2; cases e2
              · cases hv
            · cases hv
          · cases hv
        · split at h
          · cases h
          · split at h
            · split at h
              · split at h
                · exact ih _ _ _ _ _ _ h
                · cases h
              · cases h
            · split at h
              · split at h
                · exact ih _ _ _ _ _ _ h
                · cases h
              · split at h
                · split at h
                  · cases h
                  · split at h
                    · cases h
                    · exact ih _ _ _ _ _ _ h
                · cases h
theorem PF.callJ {E : MI × Option FieldType} {j : Nat} {args rest : List Value} {M : MM} (hE : t_at tT mi pc = some E) (hI : ivI E.1.2.1 = true) (hj : E.1.2.2.2.1 = j) (ha : (st.take E.1.2.2.2.2.1).reverse = args) (hr : st.drop E.1.2.2.2.2.1 = rest) (h8 : ¬ j = 9999 ∧ ¬ j = 9998) (hM : tMT[j]? = some M) (hJ : M.2.2.2.1 = some .long) (hno : M.2.2.2.2.all (fun E => !(isIr E.2.1)) = true) (h : PF ro n j 0 (lv_args 0 args) [] F (fun v F1 => ∀ x, v = some (.long x) → PF ro n mi (pc + 3) lv (.long x :: rest) F1 Q)) : PF ro (n + 1) mi pc lv st F Q := by
  refine PF.callA hE hI hj ha hr h8 ?_
  intro d z hx
  obtain ⟨x, e⟩ := ex_kJ hM hJ hno _ _ _ _ _ _ _ hx
  have := h d z hx x e
  rw [e]
  exact this
end PfL
end
section
/-! PARTIAL CORRECTNESS, VI: switches, quotients, calls that answer longs; methods that write nothing -/
section PcF
variable {xl : List Int32} {n mi pc : Nat} {lv : LVs} {st r : List Value} {ι κ : IS} {Q Q2 : Option Value → IS → Prop} {rt : Option FieldType} {x y : Int32}
theorem PC.lsw {d : Int} {ps : Array (Int × Int)} {len z1 z2 : Nat} {z : Int} (hE : t_at tT mi pc = some ((pc, .lookupswitch d ps, len, z1, z2, z), rt)) (h : ∀ o t, Op.lookupswitch.offset ps.toList d x.toInt = o → m_to pc o = some t → PC xl n mi t lv r ι Q) : PC xl n mi pc lv (.int x :: r) ι Q := by
  intro F hs hi2
  refine (PF.heap (n := n) (tT_ok _ _ _ hE) rfl rfl ?_).weak
  intro q hq
  have hq : (match m_br (pc, .lookupswitch d ps, len, z1, z2, z) (.int x :: r) with | some q => some (F, q.1, lv, q.2) | Option.none => Option.none) = some q := hq
  split at hq
  · rename_i q1 hb
    cases hq
    simp only [m_br] at hb
    split at hb
    · obtain ⟨t, ht, rfl⟩ := Option.map_eq_some_iff.mp hb
      exact h _ t rfl ht F hs hi2
    · cases hb
  · cases hq
theorem PC.idv {z1 z2 : Nat} {z : Int} (hE : t_at tT mi pc = some ((pc, .idiv, 1, z1, z2, z), rt)) (h : ¬ y = 0 → PC xl n mi (pc + 1) lv (.int (x / y) :: r) ι Q) : PC xl n mi pc lv (.int y :: .int x :: r) ι Q := by
  intro F hs hi
  refine (PF.heap (n := n) (tT_ok _ _ _ hE) rfl rfl ?_).weak
  intro q hq
  have hq : (match (if y = 0 then Option.none else some (Value.int (x / y) :: r)) with | some st1 => some (F, pc + 1, lv, st1) | Option.none => Option.none) = some q := hq
  split at hq
  · rename_i st1 h1
    cases hq
    split at h1
    · cases h1
    · rename_i hy
      cases h1
      exact h hy F hs hi
  · cases hq
theorem PC.irm {z1 z2 : Nat} {z : Int} (hE : t_at tT mi pc = some ((pc, .irem, 1, z1, z2, z), rt)) (h : ¬ y = 0 → PC xl n mi (pc + 1) lv (.int (x - x / y * y) :: r) ι Q) : PC xl n mi pc lv (.int y :: .int x :: r) ι Q := by
  intro F hs hi
  refine (PF.heap (n := n) (tT_ok _ _ _ hE) rfl rfl ?_).weak
  intro q hq
  have hq : (match (if y = 0 then Option.none else some (Value.int (x - x / y * y) :: r)) with | some st1 => some (F, pc + 1, lv, st1) | Option.none => Option.none) = some q := hq
  split at hq
  · rename_i st1 h1
    cases hq
    split at h1
    · cases h1
    · rename_i hy
      cases h1
      exact h hy F hs hi
  · cases hq
theorem PC.ldv {x y : Int64} {z1 z2 : Nat} {z : Int} (hE : t_at tT mi pc = some ((pc, .ldiv, 1, z1, z2, z), rt)) (h : ¬ y = 0 → PC xl n mi (pc + 1) lv (.long (x / y) :: r) ι Q) : PC xl n mi pc lv (.long y :: .long x :: r) ι Q := by
  intro F hs hi
  refine (PF.heap (n := n) (tT_ok _ _ _ hE) rfl rfl ?_).weak
  intro q hq
  have hq : (match (if y = 0 then Option.none else some (Value.long (x / y) :: r)) with | some st1 => some (F, pc + 1, lv, st1) | Option.none => Option.none) = some q := hq
  split at hq
  · rename_i st1 h1
    cases hq
    split at h1
    · cases h1
    · rename_i hy
      cases h1
      exact h hy F hs hi
  · cases hq
theorem PC.lrm {x y : Int64} {z1 z2 : Nat} {z : Int} (hE : t_at tT mi pc = some ((pc, .lrem, 1, z1, z2, z), rt)) (h : ¬ y = 0 → PC xl n mi (pc + 1) lv (.long (x - x / y * y) :: r) ι Q) : PC xl n mi pc lv (.long y :: .long x :: r) ι Q := by
  intro F hs hi
  refine (PF.heap (n := n) (tT_ok _ _ _ hE) rfl rfl ?_).weak
  intro q hq
  have hq : (match (if y = 0 then Option.none else some (Value.long (x - x / y * y) :: r)) with | some st1 => some (F, pc + 1, lv, st1) | Option.none => Option.none) = some q := hq
  split at hq
  · rename_i st1 h1
    cases hq
    split at h1
    · cases h1
    · rename_i hy
      cases h1
      exact h hy F hs hi
  · cases hq
theorem PC.callJ {E : MI × Option FieldType} {j : Nat} {args rest : List Value} {M : MM} (hE : t_at tT mi pc = some E) (hI : ivI E.1.2.1 = true) (hj : E.1.2.2.2.1 = j) (ha : (st.take E.1.2.2.2.2.1).reverse = args) (hr : st.drop E.1.2.2.2.2.1 = rest) (h9 : sP j = true) (h8 : ¬ j = 9999 ∧ ¬ j = 9998) (hM : tMT[j]? = some M) (hJ : M.2.2.2.1 = some .long) (hno : M.2.2.2.2.all (fun E => !(isIr E.2.1)) = true) (h : PC xl n j 0 (lv_args 0 args) [] ι (fun v κ => ∀ x, v = some (.long x) → PC xl n mi (pc + 3) lv (.long x :: rest) κ Q)) : PC xl (n + 1) mi pc lv st ι Q := by
  refine PC.call hE hI hj ha hr h9 h8 ?_
  intro F hs hi d z hx
  obtain ⟨x, e⟩ := ex_kJ hM hJ hno _ _ _ _ _ _ _ hx
  have := h F hs hi d z hx x e
  rw [e]
  exact this
/-- an instruction that writes nothing, and calls what P holds -/
noncomputable def nwE (P : Nat → Bool) (E : MI) : Bool := (match E.2.1 with
  | .new _ => false
  | .newarray _ => false
  | .anewarray _ => false
  | .aastore => false
  | .iastore => false
  | .bastore => false
  | .putfield _ => false
  | _ => true) && (!(ivI E.2.1) || (E.2.2.2.1 == 9999 || (E.2.2.2.1 == 9998 || P E.2.2.2.1)))
noncomputable def nwChk (P : Nat → Bool) : Bool := (tMT.zip (List.range tMT.length)).all (fun q => !(P q.2) || q.1.2.2.2.2.all (nwE P))
theorem wr_nw {P : Nat → Bool} {F : MH} {E : MI} (h : nwE P E = true) : m_wr tFty tDfl F E st = none := by
  obtain ⟨p, i, l, z1, z2, z3⟩ := E
  cases i <;> first | (cases h; done) | rfl
theorem one_nw {P : Nat → Bool} {ro : Nat → Option MC} {F : MH} {E : MI} {q : MS} (hE : nwE P E = true) (h : m_one ro tFty tDfl E F lv st = some q) : q.1 = F := by
  unfold m_one at h
  split at h
  · cases h; rfl
  split at h
  · cases h; rfl
  split at h
  · cases h; rfl
  split at h
  · cases h; rfl
  split at h
  · cases h; rfl
  split at h
  · cases h; rfl
  rw [wr_nw hE] at h
  cases h
theorem ex_nw {P : Nat → Bool} {ro : Nat → Option MC} (hk : nwChk P = true) : ∀ (n d mi : Nat) (F : MH) (pc : Nat) (lv : LVs) (st : List Value) (z : Option Value × MH), P mi = true → ex tMT ro tFty tDfl n d mi F pc lv st = some z → z.2 = F := by
  intro n
  induction n with
  | zero => intro d mi F pc lv st z _ h; cases h
  | succ n ih =>
    intro d mi F pc lv st z hp h
    rw [ex] at h
    split at h
    · cases h
    · rename_i E hE
      obtain ⟨M, hM, hm, -⟩ := at_mem hE
      have h1 := List.all_eq_true.mp hk _ (zip_mem hM)
      simp only [hp, Bool.not_true, Bool.false_or] at h1
      have ho := List.all_eq_true.mp h1 _ hm
      split at h
      · rename_i q hq
        rw [ih _ _ _ _ _ _ _ hp h, one_nw ho hq]
      · split at h
        · cases h; rfl
        · split at h
          · cases h
          · rename_i q hi
            obtain ⟨hq, hI⟩ := inv_q hi
            have ht : E.1.2.2.2.1 = 9999 ∨ E.1.2.2.2.1 = 9998 ∨ P E.1.2.2.2.1 = true := by
              unfold nwE at ho
              simp only [Bool.and_eq_true] at ho
              have h3 := ho.2
              rw [hI] at h3
              simpa using h3
            have hq1 : q.1 = E.1.2.2.2.1 := by rw [hq]
            rw [← hq1] at ht
            split at h
            · split at h
              · split at h
                · exact ih _ _ _ _ _ _ _ hp h
                · cases h
              · cases h
            · rename_i h9
              split at h
              · split at h
                · exact ih _ _ _ _ _ _ _ hp h
                · cases h
              · rename_i h8
                split at h
                · split at h
                  · cases h
                  · split at h
                    · cases h
                    · rename_i z1 hz1
                      rw [ih _ _ _ _ _ _ _ hp h, ih _ _ _ _ _ _ _ ((ht.resolve_left h9).resolve_left h8) hz1]
                · cases h
theorem PC.nw {P : Nat → Bool} (hk : nwChk P = true) (hp : P mi = true) : PC xl n mi pc lv st ι (fun _ κ => κ = ι) := fun F _ hi d z hx => by
  rw [ex_nw hk n d mi F pc lv st z hp hx]; exact hi
end PcF
end
