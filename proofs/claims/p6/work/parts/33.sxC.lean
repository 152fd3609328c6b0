/-! SYMBOLIC RUNS, III: pushes, locals, the stack -/
/-- constants that an instruction pushes -/
def c_val (E : MI) : Option Value := match m_push E [] with
  | some v => some v
  | none => m_cst E
/-- a constant as a symbolic value -/
def c_av (Γ : Nat → Option Nat) (n : Nat) (v : Value) : Option AV := match v with
  | .int x => some (n, 0, x.toInt, x.toInt, [])
  | .long x => some (n, 1, x.toInt, x.toInt, [])
  | .ref a => (Γ a).map fun r => (n, 2, (r : Int), 0, [])
  | _ => none
def l_ix (i : Instr) : Option (Nat × Nat) := match i with
  | .iload i => some (i, 0)
  | .iload_n i => some (i, 0)
  | .lload i => some (i, 1)
  | .lload_n i => some (i, 1)
  | .aload i => some (i, 2)
  | .aload_n i => some (i, 2)
  | _ => none
/-- is a value of a kind an int (0), a long (1), a reference (2)? -/
def k_is (k c : Nat) : Bool := if c = 0 then k == 0 || decide (10 ≤ k) else k == c && decide (c ≤ 2)
def x_get (lc : List (Nat × AV)) (i : Nat) : Option AV := (lc.find? (fun q => q.1 == i)).map (fun q => q.2)
def x_put1 (lc : List (Nat × AV)) (i : Nat) (a : AV) : List (Nat × AV) := (i, a) :: lc.filter (fun q => !(q.1 == i) && !(q.1 + 1 == i && q.2.2.1 == 1))
def x_put2 (lc : List (Nat × AV)) (i : Nat) (a : AV) : List (Nat × AV) := (i, a) :: lc.filter (fun q => !(q.1 == i) && (!(q.1 == i + 1) && !(q.1 + 1 == i && q.2.2.1 == 1)))
section SxC
variable {Γ : Nat → Option Nat} {sets : List (List Int)} {vs : List Value} {ro : Nat → Option MC}
theorem c_val_spec {E : MI} {v : Value} (h : c_val E = some v) (fty : Nat → Nat → FieldType) (dfl : Nat → List Value) (F : MH) (lv : LVs) (st : List Value) : m_one ro fty dfl E F lv st = some (F, E.1 + E.2.2.1, lv, v :: st) := by
  unfold c_val at h
  split at h
  · rename_i w hw
    cases h
    have e1 : m_push E lv = some v := by
      revert hw
      unfold m_push
      split <;> intro hw <;> first | exact hw | (simp [m_get] at hw)
    unfold m_one
    rw [e1]
  · rename_i hw
    have e1 : m_push E lv = none := by
      revert h
      unfold m_cst m_push
      split <;> first | (intro h; cases h; done) | (intro h; rfl) | skip
      all_goals (rename_i he; rw [he]; intro h; first | rfl | (simp at h))
    unfold m_one
    rw [e1]
    simp only
    rw [h]
theorem c_av_ok {n : Nat} {v : Value} {a : AV} (h : c_av Γ n v = some a) (hn : n = vs.length) : okA Γ sets (vs ++ [v]) a ∧ a.1 = n := by
  have hg : (vs ++ [v])[n]? = some v := by rw [hn]; simp
  unfold c_av at h
  split at h
  · cases h
    exact ⟨⟨_, hg, by unfold okE; simp only [if_true]; exact ⟨⟨_, rfl⟩, Int.le_refl _, Int.le_refl _⟩, fun r hr => by cases hr⟩, rfl⟩
  · cases h
    exact ⟨⟨_, hg, by unfold okE; simp; exact ⟨⟨_, rfl⟩, Int.le_refl _, Int.le_refl _⟩, fun r hr => by cases hr⟩, rfl⟩
  · rename_i x
    cases hr : Γ x with
    | none => rw [hr] at h; cases h
    | some r =>
      rw [hr] at h
      cases h
      exact ⟨⟨_, hg, by unfold okE; simp; exact hr, fun r hr => by cases hr⟩, rfl⟩
  · cases h
theorem k_is_int {k : Nat} {lo hi : Int} {v : Value} (h : okE Γ sets k lo hi v) (hk : k_is k 0 = true) : isI v ∧ ¬ k = 2 := by
  simp only [k_is, if_true, Bool.or_eq_true, beq_iff_eq, decide_eq_true_eq] at hk
  unfold okE at h
  rcases hk with hk | hk
  · rw [if_pos hk] at h; exact ⟨h.1, by omega⟩
  · rw [if_neg (by omega), if_neg (by omega), if_neg (by omega), if_pos hk] at h; exact ⟨h.1, by omega⟩
theorem k_is_long {k : Nat} {lo hi : Int} {v : Value} (h : okE Γ sets k lo hi v) (hk : k_is k 1 = true) : isJ v ∧ k = 1 := by
  have hk : k = 1 := by simpa [k_is] using hk
  subst hk
  unfold okE at h
  simp at h
  exact ⟨h.1, rfl⟩
theorem k_is_ref {k : Nat} {lo hi : Int} {v : Value} (h : okE Γ sets k lo hi v) (hk : k_is k 2 = true) : (∃ a, v = .ref a ∧ Γ a = some lo.toNat) ∧ k = 2 := by
  have hk : k = 2 := by simpa [k_is] using hk
  subst hk
  unfold okE at h
  simp at h
  exact ⟨h, rfl⟩
theorem okE_cat {k : Nat} {lo hi : Int} {v : Value} (h : okE Γ sets k lo hi v) : (v.category = 2 ↔ k = 1) := by
  unfold okE at h
  by_cases h0 : k = 0
  · rw [if_pos h0] at h
    obtain ⟨⟨x, rfl⟩, -⟩ := h
    simp only [Value.category]; omega
  rw [if_neg h0] at h
  by_cases h1 : k = 1
  · rw [if_pos h1] at h
    obtain ⟨⟨x, rfl⟩, -⟩ := h
    exact ⟨fun _ => h1, fun _ => rfl⟩
  rw [if_neg h1] at h
  by_cases h2 : k = 2
  · rw [if_pos h2] at h
    obtain ⟨a, rfl, -⟩ := h
    simp only [Value.category]; omega
  rw [if_neg h2] at h
  by_cases h10 : 10 ≤ k
  · rw [if_pos h10] at h
    obtain ⟨⟨x, rfl⟩, -⟩ := h
    simp only [Value.category]; omega
  · rw [if_neg h10] at h; exact h.elim
theorem x_get_mem {lc : List (Nat × AV)} {i : Nat} {a : AV} (h : x_get lc i = some a) : (i, a) ∈ lc := by
  unfold x_get at h
  cases hf : lc.find? (fun q => q.1 == i) with
  | none => rw [hf] at h; cases h
  | some q =>
    rw [hf] at h
    have h1 := List.mem_of_find?_eq_some hf
    have h2 : q.1 = i := by have := List.find?_some hf; simpa using this
    have h3 : q.2 = a := Option.some.inj h
    rw [← h3, ← h2]; exact h1
theorem load_spec {E : MI} {i c : Nat} {lv : LVs} {v : Value} (h : l_ix E.2.1 = some (i, c)) (hv : m_get lv i = some v) (hc : (c = 0 → isI v) ∧ (c = 1 → isJ v) ∧ (c = 2 → ∃ a, v = .ref a)) (fty : Nat → Nat → FieldType) (dfl : Nat → List Value) (F : MH) (st : List Value) : m_one ro fty dfl E F lv st = some (F, E.1 + E.2.2.1, lv, v :: st) := by
  have e1 : m_push E lv = some v := by
    obtain ⟨pc, ins, len, a0, b0, z0⟩ := E
    simp only at h
    cases ins <;> simp only [l_ix, Option.some.injEq, Prod.mk.injEq, reduceCtorEq] at h <;> obtain ⟨h1, h2⟩ := h <;> subst h1 <;> simp only [m_push, hv]
    all_goals first
      | (obtain ⟨x, rfl⟩ := hc.1 h2.symm; rfl)
      | (obtain ⟨x, rfl⟩ := hc.2.1 h2.symm; rfl)
      | (obtain ⟨x, rfl⟩ := hc.2.2 h2.symm; rfl)
  unfold m_one
  rw [e1]
theorem m_get_put1 {lv : LVs} {i j : Nat} {v w : Value} (h : m_get lv j = some w) (hne : ¬ j = i) (hc : ¬ (j + 1 = i ∧ w.category = 2)) : m_get (m_put1 lv i v) j = some w := by
  unfold m_get m_put1 at *
  cases hf : lv.find? (fun q => q.1 == j) with
  | none => rw [hf] at h; cases h
  | some q =>
    rw [hf] at h
    have e1 : q.2 = w := Option.some.inj h
    have e2 : q.1 = j := by have := List.find?_some hf; simpa using this
    have key : (lv.filter (fun q => !(q.1 == i) && !(q.1 + 1 == i && q.2.category == 2))).find? (fun q => q.1 == j) = some q := by
      rw [List.find?_filter]
      rw [List.find?_eq_some_iff_append] at hf ⊢
      obtain ⟨h1, as, bs, h2, h3⟩ := hf
      refine ⟨?_, as, bs, h2, fun x hx => ?_⟩
      · rw [e2, e1]
        simp only [Bool.and_eq_true, Bool.not_eq_true', beq_eq_false_iff_ne, ne_eq, decide_eq_true_eq, beq_iff_eq, Bool.and_eq_false_iff]
        refine ⟨⟨hne, ?_⟩, trivial⟩
        by_cases q1 : j + 1 = i
        · exact Or.inr (fun z => hc ⟨q1, z⟩)
        · exact Or.inl q1
      · have := h3 x hx
        simp only [Bool.not_eq_true', beq_eq_false_iff_ne, ne_eq] at this
        simp only [this, beq_iff_eq, and_false, decide_false, Bool.not_false]
    rw [List.find?_cons]
    have hij : (i == j) = false := by simp only [beq_eq_false_iff_ne, ne_eq]; exact fun z => hne z.symm
    simp only [hij]
    rw [key]
    exact congrArg some e1
theorem m_get_same1 {lv : LVs} {i : Nat} {v : Value} : m_get (m_put1 lv i v) i = some v := by
  unfold m_get m_put1
  rw [List.find?_cons]
  simp
end SxC
