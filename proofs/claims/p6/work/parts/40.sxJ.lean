/-! SYMBOLIC RUNS, X: the stack's own instructions, stores into locals -/
def x_stk (i : Instr) (st : List AV) : Option (List AV) := match i with
  | .dup => (match st with | a :: r => if a.2.1 = 1 then none else some (a :: a :: r) | _ => none)
  | .pop => (match st with | a :: r => if a.2.1 = 1 then none else some r | _ => none)
  | .pop2 => (match st with | a :: r => if a.2.1 = 1 then some r else none | _ => none)
  | .dup_x1 => (match st with | a :: b :: r => if a.2.1 = 1 ∨ b.2.1 = 1 then none else some (a :: b :: a :: r) | _ => none)
  | .dup_x2 => (match st with | a :: b :: c :: r => if a.2.1 = 1 ∨ b.2.1 = 1 ∨ c.2.1 = 1 then none else some (a :: b :: c :: a :: r) | _ => none)
  | .dup2 => (match st with | a :: b :: r => if a.2.1 = 1 ∨ b.2.1 = 1 then none else some (a :: b :: a :: b :: r) | _ => none)
  | _ => none
/-- a store: the local, and whether it is of two places -/
def st_ix (i : Instr) : Option (Nat × Nat) := match i with
  | .istore i => some (i, 0)
  | .istore_n i => some (i, 0)
  | .lstore i => some (i, 1)
  | .lstore_n i => some (i, 1)
  | .astore i => some (i, 2)
  | .astore_n i => some (i, 2)
  | _ => none
section SxJ
variable {Γ : Nat → Option Nat} {sets : List (List Int)} {roles : List RD} {ms : Mods} {MT : List MM} {ro : Nat → Option MC} {fty : Nat → Nat → FieldType} {dfl : Nat → List Value} {vs0 : List Value} {F0 : MH} {Q : Option Value → MH → Prop} {d : Nat} {S : SS}
theorem okA_cat {vs : List Value} {a : AV} {v : Value} (h : okA Γ sets vs a) (hv : vs[a.1]? = some v) : (v.category = 2 ↔ a.2.1 = 1) := by
  obtain ⟨v', p1, p2, -⟩ := h
  obtain rfl : v' = v := Option.some.inj (p1.symm.trans hv)
  exact okE_cat p2
theorem okA_cat1 {vs : List Value} {a : AV} {v : Value} (h : okA Γ sets vs a) (hv : vs[a.1]? = some v) (hk : ¬ a.2.1 = 1) : v.category = 1 := by
  have := okA_cat h hv
  rcases lv_cat v with e | e
  · exact e
  · exact absurd (this.mp e) hk
/-- the stack is laid otherwise, of what is on it -/
theorem g_lay {E : MI × Option FieldType} {st1 : List AV} (hE : m_at MT S.1.1 S.1.2.1 = some E) (hin : ∀ a ∈ st1, a ∈ S.1.2.2.2)
    (hst : ∀ vs lv cst F, (∀ a ∈ s_av S, okA Γ sets vs a) → cst.map some = S.1.2.2.2.map (fun a => vs[a.1]?) → ∃ t, m_one ro fty dfl E.1 F lv cst = some (F, E.1.1 + E.1.2.2.1, lv, t) ∧ t.map some = st1.map (fun a => vs[a.1]?))
    (h : Good Γ sets roles ms MT ro fty dfl vs0 F0 Q d (s_top S (E.1.1 + E.1.2.2.1) S.1.2.2.1 st1)) : Good Γ sets roles ms MT ro fty dfl vs0 F0 Q d S := by
  intro vs f fs F hp hS hW hF
  obtain ⟨lv, cst, rfl, hl, hc1, hc2⟩ := hS.frame
  obtain ⟨t, h1, h2⟩ := hst vs lv cst F hS.1 hc1
  exact TT.one hE h1 (h vs (S.1.1, E.1.1 + E.1.2.2.1, lv, t) fs F hp (hS.top hl (fun b hb => hc2 b (hin b hb)) h2) hW hF)
theorem g_stk {E : MI × Option FieldType} {st1 : List AV} (hE : m_at MT S.1.1 S.1.2.1 = some E) (hx : x_stk E.1.2.1 S.1.2.2.2 = some st1)
    (h : Good Γ sets roles ms MT ro fty dfl vs0 F0 Q d (s_top S (E.1.1 + E.1.2.2.1) S.1.2.2.1 st1)) : Good Γ sets roles ms MT ro fty dfl vs0 F0 Q d S := by
  cases hi : E.1.2.1 <;> rw [hi] at hx <;> simp only [x_stk, reduceCtorEq] at hx
  case dup =>
    split at hx
    · rename_i a r hs
      split at hx
      · cases hx
      · rename_i hk
        cases hx
        refine g_lay hE (fun b hb => ?_) (fun vs lv cst F hall hc => ?_) h
        · rw [hs]; simp only [List.mem_cons] at hb ⊢; grind
        rw [hs] at hc
        obtain ⟨v, t, rfl, q1, q2⟩ := stk1 hc
        have hcat := okA_cat1 (hall a (mem_top (by rw [hs]; simp))) q1 hk
        exact ⟨v :: v :: t, one_alu (by rw [hi]; simp) (by rw [hi]; simp [m_alu, m_b32, m_d32, m_b64, m_d64, m_u32, m_stk, hcat]) F lv, by simp [q1, q2]⟩
    · cases hx
  case pop =>
    split at hx
    · rename_i a r hs
      split at hx
      · cases hx
      · rename_i hk
        cases hx
        refine g_lay hE (fun b hb => ?_) (fun vs lv cst F hall hc => ?_) h
        · rw [hs]; simp only [List.mem_cons] at hb ⊢; grind
        rw [hs] at hc
        obtain ⟨v, t, rfl, q1, q2⟩ := stk1 hc
        have hcat := okA_cat1 (hall a (mem_top (by rw [hs]; simp))) q1 hk
        exact ⟨t, one_alu (by rw [hi]; simp) (by rw [hi]; simp [m_alu, m_b32, m_d32, m_b64, m_d64, m_u32, m_stk, hcat]) F lv, q2⟩
    · cases hx
  case pop2 =>
    split at hx
    · rename_i a r hs
      split at hx
      · rename_i hk
        cases hx
        refine g_lay hE (fun b hb => ?_) (fun vs lv cst F hall hc => ?_) h
        · rw [hs]; simp only [List.mem_cons] at hb ⊢; grind
        rw [hs] at hc
        obtain ⟨v, t, rfl, q1, q2⟩ := stk1 hc
        have hcat := (okA_cat (hall a (mem_top (by rw [hs]; simp))) q1).mpr hk
        exact ⟨t, one_alu (by rw [hi]; simp) (by rw [hi]; simp [m_alu, m_b32, m_d32, m_b64, m_d64, m_u32, m_stk, hcat]) F lv, q2⟩
      · cases hx
    · cases hx
  case dup_x1 =>
    split at hx
    · rename_i a b r hs
      split at hx
      · cases hx
      · rename_i hk
        cases hx
        refine g_lay hE (fun c hb => ?_) (fun vs lv cst F hall hc => ?_) h
        · rw [hs]; simp only [List.mem_cons] at hb ⊢; grind
        rw [hs] at hc
        obtain ⟨v, t, rfl, q1, q2⟩ := stk1 hc
        obtain ⟨w, t, rfl, q3, q4⟩ := stk1 q2
        have c1 := okA_cat1 (hall a (mem_top (by rw [hs]; simp))) q1 (fun z => hk (Or.inl z))
        have c2 := okA_cat1 (hall b (mem_top (by rw [hs]; simp))) q3 (fun z => hk (Or.inr z))
        exact ⟨v :: w :: v :: t, one_alu (by rw [hi]; simp) (by rw [hi]; simp [m_alu, m_b32, m_d32, m_b64, m_d64, m_u32, m_stk, c1, c2]) F lv, by simp [q1, q3, q4]⟩
    · cases hx
  case dup_x2 =>
    split at hx
    · rename_i a b c r hs
      split at hx
      · cases hx
      · rename_i hk
        cases hx
        refine g_lay hE (fun c hb => ?_) (fun vs lv cst F hall hc => ?_) h
        · rw [hs]; simp only [List.mem_cons] at hb ⊢; grind
        rw [hs] at hc
        obtain ⟨v, t, rfl, q1, q2⟩ := stk1 hc
        obtain ⟨w, t, rfl, q3, q4⟩ := stk1 q2
        obtain ⟨u, t, rfl, q5, q6⟩ := stk1 q4
        have c1 := okA_cat1 (hall a (mem_top (by rw [hs]; simp))) q1 (fun z => hk (Or.inl z))
        have c2 := okA_cat1 (hall b (mem_top (by rw [hs]; simp))) q3 (fun z => hk (Or.inr (Or.inl z)))
        have c3 := okA_cat1 (hall c (mem_top (by rw [hs]; simp))) q5 (fun z => hk (Or.inr (Or.inr z)))
        exact ⟨v :: w :: u :: v :: t, one_alu (by rw [hi]; simp) (by rw [hi]; simp [m_alu, m_b32, m_d32, m_b64, m_d64, m_u32, m_stk, c1, c2, c3]) F lv, by simp [q1, q3, q5, q6]⟩
    · cases hx
  case dup2 =>
    split at hx
    · rename_i a b r hs
      split at hx
      · cases hx
      · rename_i hk
        cases hx
        refine g_lay hE (fun c hb => ?_) (fun vs lv cst F hall hc => ?_) h
        · rw [hs]; simp only [List.mem_cons] at hb ⊢; grind
        rw [hs] at hc
        obtain ⟨v, t, rfl, q1, q2⟩ := stk1 hc
        obtain ⟨w, t, rfl, q3, q4⟩ := stk1 q2
        have c1 := okA_cat1 (hall a (mem_top (by rw [hs]; simp))) q1 (fun z => hk (Or.inl z))
        have c2 := okA_cat1 (hall b (mem_top (by rw [hs]; simp))) q3 (fun z => hk (Or.inr z))
        exact ⟨v :: w :: v :: w :: t, one_alu (by rw [hi]; simp) (by rw [hi]; simp [m_alu, m_b32, m_d32, m_b64, m_d64, m_u32, m_stk, c1, c2]) F lv, by simp [q1, q3, q4]⟩
    · cases hx
/-- a shift by nothing -/
theorem g_shr0 {E : MI × Option FieldType} {x y : AV} {r : List AV} (hE : m_at MT S.1.1 S.1.2.1 = some E) (hi : E.1.2.1 = .ishr) (hst : S.1.2.2.2 = y :: x :: r) (kx : k_is x.2.1 0 = true) (hy : y.2.1 = 0 ∧ y.2.2.1 = 0 ∧ y.2.2.2.1 = 0)
    (h : Good Γ sets roles ms MT ro fty dfl vs0 F0 Q d (s_top S (E.1.1 + E.1.2.2.1) S.1.2.2.1 (x :: r))) : Good Γ sets roles ms MT ro fty dfl vs0 F0 Q d S := by
  refine g_lay hE (fun b hb => ?_) (fun vs lv cst F hall hc => ?_) h
  · rw [hst]; simp only [List.mem_cons] at hb ⊢; grind
  rw [hst] at hc
  obtain ⟨w, t1, rfl, q2, q3⟩ := stk1 hc
  obtain ⟨v, t2, rfl, q5, q6⟩ := stk1 q3
  obtain ⟨v', p1, p2, -⟩ := hall x (mem_top (by rw [hst]; simp))
  obtain ⟨w', p3, p4, -⟩ := hall y (mem_top (by rw [hst]; simp))
  obtain rfl : v' = v := Option.some.inj (p1.symm.trans q5)
  obtain rfl : w' = w := Option.some.inj (p3.symm.trans q2)
  obtain ⟨a, rfl⟩ := (k_is_int p2 kx).1
  have e1 := isC_spec (a := y) (by simp only [isC, hy.1, hy.2.1, hy.2.2]; rfl) p4
  rw [hy.2.1] at e1
  have e0 : Int32.ofInt 0 = 0 := rfl
  rw [e0] at e1
  subst e1
  refine ⟨.int a :: t2, one_alu (Or.inl (by rw [hi]; rfl)) (by rw [hi, alu_b32 (f := fun x y => x >>> (y &&& 31)) rfl a 0 t2]; simp only [sb_shr0]) F lv, ?_⟩
  simp [q5, q6]
theorem store_one {E : MI} {i c : Nat} {v : Value} (h : st_ix E.2.1 = some (i, c)) (hc : (c = 0 → isI v) ∧ (c = 1 → isJ v) ∧ (c = 2 → ∃ a, v = .ref a)) (F : MH) (lv : LVs) (t : List Value) : m_one ro fty dfl E F lv (v :: t) = some (F, E.1 + E.2.2.1, if c = 1 then m_put2 lv i v else m_put1 lv i v, t) := by
  obtain ⟨pc, ins, len, a0, b0, z0⟩ := E
  simp only at h
  cases ins <;> simp only [st_ix, Option.some.injEq, Prod.mk.injEq, reduceCtorEq] at h <;> obtain ⟨h1, h2⟩ := h <;> subst h1 <;> subst h2
  all_goals first
    | (obtain ⟨x, rfl⟩ := hc.1 rfl; rfl)
    | (obtain ⟨x, rfl⟩ := hc.2.1 rfl; rfl)
    | (obtain ⟨x, rfl⟩ := hc.2.2 rfl; rfl)
theorem m_get_put2 {lv : LVs} {i j : Nat} {v w : Value} (h : m_get lv j = some w) (hne : ¬ j = i) (hne2 : ¬ j = i + 1) (hc : ¬ (j + 1 = i ∧ w.category = 2)) : m_get (m_put2 lv i v) j = some w := by
  unfold m_get m_put2 at *
  cases hf : lv.find? (fun q => q.1 == j) with
  | none => rw [hf] at h; cases h
  | some q =>
    rw [hf] at h
    have e1 : q.2 = w := Option.some.inj h
    have e2 : q.1 = j := by have := List.find?_some hf; simpa using this
    have key : (lv.filter (fun q => !(q.1 == i) && (!(q.1 == i + 1) && !(q.1 + 1 == i && q.2.category == 2)))).find? (fun q => q.1 == j) = some q := by
      rw [List.find?_filter]
      rw [List.find?_eq_some_iff_append] at hf ⊢
      obtain ⟨h1, as, bs, h2, h3⟩ := hf
      refine ⟨?_, as, bs, h2, fun x hx => ?_⟩
      · rw [e2, e1]
        simp only [Bool.and_eq_true, Bool.not_eq_true', beq_eq_false_iff_ne, ne_eq, decide_eq_true_eq, beq_iff_eq, Bool.and_eq_false_iff]
        refine ⟨⟨hne, hne2, ?_⟩, trivial⟩
        by_cases q1 : j + 1 = i
        · exact Or.inr (fun z => hc ⟨q1, z⟩)
        · exact Or.inl q1
      · have := h3 x hx
        simp only [Bool.not_eq_true', beq_eq_false_iff_ne, ne_eq] at this
        simp only [this, beq_iff_eq, and_false, decide_false, Bool.not_false]
    rw [List.find?_cons]
    have hij : (i == j) = false := by simp only [beq_eq_false_iff_ne, ne_eq]; exact fun z => hne z.symm
    simp only [hij]
    rw [key]
    exact congrArg some e1
theorem m_get_same2 {lv : LVs} {i : Nat} {v : Value} : m_get (m_put2 lv i v) i = some v := by
  unfold m_get m_put2
  rw [List.find?_cons]
  simp
theorem lc_put1 {vs : List Value} {lc : List (Nat × AV)} {lv : LVs} {i : Nat} {a : AV} {v : Value} (hl : ∀ q ∈ lc, okA Γ sets vs q.2 ∧ ∃ v, vs[q.2.1]? = some v ∧ m_get lv q.1 = some v) (ha : okA Γ sets vs a) (hv : vs[a.1]? = some v) : ∀ q ∈ x_put1 lc i a, okA Γ sets vs q.2 ∧ ∃ w, vs[q.2.1]? = some w ∧ m_get (m_put1 lv i v) q.1 = some w := by
  intro q hq
  rcases List.mem_cons.mp hq with rfl | hq
  · exact ⟨ha, v, hv, m_get_same1⟩
  · obtain ⟨h1, h2⟩ := List.mem_filter.mp hq
    obtain ⟨q1, w, q2, q3⟩ := hl q h1
    simp only [Bool.and_eq_true, Bool.not_eq_true', beq_eq_false_iff_ne, ne_eq, Bool.and_eq_false_iff] at h2
    refine ⟨q1, w, q2, m_get_put1 q3 h2.1 ?_⟩
    rintro ⟨z1, z2⟩
    rcases h2.2 with z | z
    · exact z z1
    · exact z ((okA_cat q1 q2).mp z2)
theorem lc_put2 {vs : List Value} {lc : List (Nat × AV)} {lv : LVs} {i : Nat} {a : AV} {v : Value} (hl : ∀ q ∈ lc, okA Γ sets vs q.2 ∧ ∃ v, vs[q.2.1]? = some v ∧ m_get lv q.1 = some v) (ha : okA Γ sets vs a) (hv : vs[a.1]? = some v) : ∀ q ∈ x_put2 lc i a, okA Γ sets vs q.2 ∧ ∃ w, vs[q.2.1]? = some w ∧ m_get (m_put2 lv i v) q.1 = some w := by
  intro q hq
  rcases List.mem_cons.mp hq with rfl | hq
  · exact ⟨ha, v, hv, m_get_same2⟩
  · obtain ⟨h1, h2⟩ := List.mem_filter.mp hq
    obtain ⟨q1, w, q2, q3⟩ := hl q h1
    simp only [Bool.and_eq_true, Bool.not_eq_true', beq_eq_false_iff_ne, ne_eq, Bool.and_eq_false_iff] at h2
    refine ⟨q1, w, q2, m_get_put2 q3 h2.1 h2.2.1 ?_⟩
    rintro ⟨z1, z2⟩
    rcases h2.2.2 with z | z
    · exact z z1
    · exact z ((okA_cat q1 q2).mp z2)
theorem g_store {E : MI × Option FieldType} {i c : Nat} {a : AV} {r : List AV} (hE : m_at MT S.1.1 S.1.2.1 = some E) (hi : st_ix E.1.2.1 = some (i, c)) (hst : S.1.2.2.2 = a :: r) (hk : k_is a.2.1 c = true)
    (h : Good Γ sets roles ms MT ro fty dfl vs0 F0 Q d (s_top S (E.1.1 + E.1.2.2.1) (if c = 1 then x_put2 S.1.2.2.1 i a else x_put1 S.1.2.2.1 i a) r)) : Good Γ sets roles ms MT ro fty dfl vs0 F0 Q d S := by
  intro vs f fs F hp hS hW hF
  obtain ⟨lv, cst, rfl, hl, hc1, hc2⟩ := hS.frame
  rw [hst] at hc1
  obtain ⟨v, t, rfl, q1, q2⟩ := stk1 hc1
  have oa := hc2 a (by rw [hst]; simp)
  obtain ⟨v', p1, p2, -⟩ := id oa
  obtain rfl : v' = v := Option.some.inj (p1.symm.trans q1)
  refine TT.one hE (store_one hi ⟨fun e => ?_, fun e => ?_, fun e => ?_⟩ F lv t) ?_
  · subst e; exact (k_is_int p2 hk).1
  · subst e; exact (k_is_long p2 hk).1
  · subst e; obtain ⟨⟨x, e1, -⟩, -⟩ := k_is_ref p2 hk; exact ⟨x, e1⟩
  · refine h vs (S.1.1, E.1.1 + E.1.2.2.1, (if c = 1 then m_put2 lv i v' else m_put1 lv i v'), t) fs F hp (hS.top ?_ (fun b hb => hc2 b (by rw [hst]; simp [hb])) q2) hW hF
    split
    · exact lc_put2 hl oa q1
    · exact lc_put1 hl oa q1
end SxJ
