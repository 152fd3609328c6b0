section
/-! RUNS of the small machine as conditions: TT (a run ends so), KK (what follows in the frames below) -/
section Sem
variable {MT : List MM} {ro : Nat → Option MC} {fty : Nat → Nat → FieldType} {dfl : Nat → List Value}
theorem ex_mono : ∀ (n d mi : Nat) (F : MH) (pc : Nat) (lv : LVs) (st : List Value) (z : Option Value × MH), ex MT ro fty dfl n d mi F pc lv st = some z → ∀ n' d', n ≤ n' → d ≤ d' → ex MT ro fty dfl n' d' mi F pc lv st = some z := by
  intro n
  induction n with
  | zero => intro d mi F pc lv st z h; cases h
  | succ n ih =>
    intro d mi F pc lv st z h n' d' hn hd
    obtain ⟨n', rfl⟩ : ∃ k, n' = k + 1 := ⟨n' - 1, by omega⟩
    have hn : n ≤ n' := by omega
    rw [ex] at h
    split at h
    · cases h
    · rename_i E hE
      split at h
      · rename_i q hq
        rw [ex, hE]; simp only; rw [hq]
        exact ih _ _ _ _ _ _ _ h _ _ hn hd
      · rename_i hq
        split at h
        · rename_i v hv
          rw [ex, hE]; simp only; rw [hq]; simp only; rw [hv]
          exact h
        · rename_i hv
          split at h
          · cases h
          · rename_i q hi
            split at h
            · rename_i h9
              split at h
              · rename_i a ha
                split at h
                · rename_i hk
                  rw [ex, hE]; simp only; rw [hq]; simp only; rw [hv]; simp only; rw [hi]; simp only; rw [if_pos h9, ha]; simp only; rw [if_pos hk]
                  exact ih _ _ _ _ _ _ _ h _ _ hn hd
                · cases h
              · cases h
            · rename_i h9
              split at h
              · rename_i h8
                split at h
                · rename_i x y hxy
                  rw [ex, hE]; simp only; rw [hq]; simp only; rw [hv]; simp only; rw [hi]; simp only; rw [if_neg h9, if_pos h8, hxy]
                  exact ih _ _ _ _ _ _ _ h _ _ hn hd
                · cases h
              · rename_i h8
                split at h
                · rename_i hr
                  split at h
                  · cases h
                  · rename_i d1
                    obtain ⟨d2, rfl⟩ : ∃ k, d' = k + 1 := ⟨d' - 1, by omega⟩
                    split at h
                    · cases h
                    · rename_i z1 hz
                      rw [ex, hE]; simp only; rw [hq]; simp only; rw [hv]; simp only; rw [hi]; simp only; rw [if_neg h9, if_neg h8, if_pos hr]
                      rw [ih _ _ _ _ _ _ _ hz n' d2 hn (by omega)]
                      exact ih _ _ _ _ _ _ _ h _ _ hn hd
                · cases h
/-- a run from here ends, and so -/
noncomputable def TT (MT : List MM) (ro : Nat → Option MC) (fty : Nat → Nat → FieldType) (dfl : Nat → List Value) (d mi : Nat) (F : MH) (pc : Nat) (lv : LVs) (st : List Value) (Q : Option Value → MH → Prop) : Prop := ∃ n z, ex MT ro fty dfl n d mi F pc lv st = some z ∧ Q z.1 z.2
theorem TT.imp {d mi : Nat} {F : MH} {pc : Nat} {lv : LVs} {st : List Value} {Q Q2 : Option Value → MH → Prop} (h : TT MT ro fty dfl d mi F pc lv st Q) (hq : ∀ v F1, Q v F1 → Q2 v F1) : TT MT ro fty dfl d mi F pc lv st Q2 := by
  obtain ⟨n, z, h1, h2⟩ := h
  exact ⟨n, z, h1, hq _ _ h2⟩
theorem TT.deep {d d' mi : Nat} {F : MH} {pc : Nat} {lv : LVs} {st : List Value} {Q : Option Value → MH → Prop} (h : TT MT ro fty dfl d mi F pc lv st Q) (hd : d ≤ d') : TT MT ro fty dfl d' mi F pc lv st Q := by
  obtain ⟨n, z, h1, h2⟩ := h
  exact ⟨n, z, ex_mono _ _ _ _ _ _ _ _ h1 n d' (Nat.le_refl _) hd, h2⟩
theorem TT.one {d mi : Nat} {F : MH} {pc : Nat} {lv : LVs} {st : List Value} {Q : Option Value → MH → Prop} {E : MI × Option FieldType} {q : MS} (hE : m_at MT mi pc = some E) (hq : m_one ro fty dfl E.1 F lv st = some q) (h : TT MT ro fty dfl d mi q.1 q.2.1 q.2.2.1 q.2.2.2 Q) : TT MT ro fty dfl d mi F pc lv st Q := by
  obtain ⟨n, z, h1, h2⟩ := h
  exact ⟨n + 1, z, by rw [ex, hE]; simp only; rw [hq]; exact h1, h2⟩
theorem TT.ret {d mi : Nat} {F : MH} {pc : Nat} {lv : LVs} {st : List Value} {Q : Option Value → MH → Prop} {E : MI × Option FieldType} {v : Option Value} (hE : m_at MT mi pc = some E) (hq : m_one ro fty dfl E.1 F lv st = none) (hv : m_ret E.2 E.1 st = some v) (h : Q v F) : TT MT ro fty dfl d mi F pc lv st Q :=
  ⟨1, (v, F), by rw [ex, hE]; simp only; rw [hq]; simp only; rw [hv], h⟩
theorem TT.call {d mi : Nat} {F : MH} {pc : Nat} {lv : LVs} {st : List Value} {Q : Option Value → MH → Prop} {E : MI × Option FieldType} {q : Nat × List Value × List Value} (hE : m_at MT mi pc = some E) (hq : m_one ro fty dfl E.1 F lv st = none) (hv : m_ret E.2 E.1 st = none) (hi : m_inv ro F E.1 st = some q) (h9 : ¬ q.1 = 9999) (h8 : ¬ q.1 = 9998) (hr : m_room MT q.1 q.2.1 = true)
    (h : TT MT ro fty dfl d q.1 F 0 (lv_args 0 q.2.1) [] (fun v F1 => TT MT ro fty dfl (d + 1) mi F1 (pc + 3) lv (v.toList ++ q.2.2) Q)) : TT MT ro fty dfl (d + 1) mi F pc lv st Q := by
  obtain ⟨n, z, h1, n2, z2, h2, h3⟩ := h
  refine ⟨max n n2 + 1, z2, ?_, h3⟩
  rw [ex, hE]; simp only; rw [hq]; simp only; rw [hv]; simp only; rw [hi]; simp only; rw [if_neg h9, if_neg h8, if_pos hr]
  rw [ex_mono _ _ _ _ _ _ _ _ h1 (max n n2) d (Nat.le_max_left _ _) (Nat.le_refl _)]
  exact ex_mono _ _ _ _ _ _ _ _ h2 (max n n2) (d + 1) (Nat.le_max_right _ _) (Nat.le_refl _)
theorem TT.maxi {d mi : Nat} {F : MH} {pc : Nat} {lv : LVs} {st : List Value} {Q : Option Value → MH → Prop} {E : MI × Option FieldType} {q : Nat × List Value × List Value} {x y : Int32} (hE : m_at MT mi pc = some E) (hq : m_one ro fty dfl E.1 F lv st = none) (hv : m_ret E.2 E.1 st = none) (hi : m_inv ro F E.1 st = some q) (h8 : q.1 = 9998) (ha : q.2.1 = [.int x, .int y])
    (h : TT MT ro fty dfl d mi F (pc + 3) lv (.int (if x < y then y else x) :: q.2.2) Q) : TT MT ro fty dfl d mi F pc lv st Q := by
  obtain ⟨n, z, h1, h2⟩ := h
  refine ⟨n + 1, z, ?_, h2⟩
  have h9 : ¬ q.1 = 9999 := by omega
  rw [ex, hE]; simp only; rw [hq]; simp only; rw [hv]; simp only; rw [hi]; simp only; rw [if_neg h9, if_pos h8, ha]
  exact h1
/-- a frame: method, pc, locals, stack -/
abbrev CF : Type := Nat × Nat × LVs × List Value
/-- what the frames below ask of an answer -/
noncomputable def KK (MT : List MM) (ro : Nat → Option MC) (fty : Nat → Nat → FieldType) (dfl : Nat → List Value) : Nat → List CF → (Option Value → MH → Prop) → Option Value → MH → Prop
  | _, [], Q => Q
  | d, g :: fs, Q => fun v F1 => TT MT ro fty dfl (d + 1) g.1 F1 (g.2.1 + 3) g.2.2.1 (v.toList ++ g.2.2.2) (KK MT ro fty dfl (d + 1) fs Q)
noncomputable def RR (MT : List MM) (ro : Nat → Option MC) (fty : Nat → Nat → FieldType) (dfl : Nat → List Value) (d : Nat) (f : CF) (fs : List CF) (F : MH) (Q : Option Value → MH → Prop) : Prop := TT MT ro fty dfl d f.1 F f.2.1 f.2.2.1 f.2.2.2 (KK MT ro fty dfl d fs Q)
end Sem
end
section
/-! SYMBOLIC RUNS, I: values, states, what they mean -/
/-- a symbolic value: its number, its kind (0 int, 1 long, 2 reference of role lo, 10 and j: int of set j), least, most, bounds of the difference from others -/
abbrev AV : Type := Nat × Nat × Int × Int × List (Nat × Int × Int)
abbrev SF : Type := Nat × Nat × List (Nat × AV) × List AV
abbrev FA : Type := Nat × Nat × Nat × AV
abbrev EA : Type := Nat × Nat × AV × AV
/-- a symbolic state: the frame that runs, those below, facts on cells, facts on places that are symbols, sums, the next number -/
abbrev SS : Type := SF × List SF × List FA × List EA × List (Nat × Nat × Nat) × Nat
noncomputable def vz (v : Value) : Int := match v with
  | .int x => x.toInt
  | .long x => x.toInt
  | _ => 0
noncomputable def isI (v : Value) : Prop := ∃ x, v = .int x
noncomputable def isJ (v : Value) : Prop := ∃ x, v = .long x
/-- a value is of a kind, between bounds -/
noncomputable def okE (Γ : Nat → Option Nat) (sets : List (List Int)) (k : Nat) (lo hi : Int) (v : Value) : Prop :=
  if k = 0 then isI v ∧ lo ≤ vz v ∧ vz v ≤ hi
  else if k = 1 then isJ v ∧ lo ≤ vz v ∧ vz v ≤ hi
  else if k = 2 then ∃ a, v = .ref a ∧ Γ a = some lo.toNat
  else if 10 ≤ k then isI v ∧ lo ≤ vz v ∧ vz v ≤ hi ∧ vz v ∈ sets.getD (k - 10) []
  else False
noncomputable def okA (Γ : Nat → Option Nat) (sets : List (List Int)) (vs : List Value) (a : AV) : Prop :=
  ∃ v, vs[a.1]? = some v ∧ okE Γ sets a.2.1 a.2.2.1 a.2.2.2.1 v ∧ ∀ r ∈ a.2.2.2.2, ∃ w, vs[r.1]? = some w ∧ r.2.1 ≤ vz v - vz w ∧ vz v - vz w ≤ r.2.2
section SxA
variable {Γ : Nat → Option Nat} {sets : List (List Int)} {vs : List Value}
theorem get_app {vs t : List Value} {i : Nat} {v : Value} (h : vs[i]? = some v) : (vs ++ t)[i]? = some v := by
  have hl := (List.getElem?_eq_some_iff.mp h).1
  rw [List.getElem?_append_left hl]; exact h
theorem okA.app {a : AV} (h : okA Γ sets vs a) (t : List Value) : okA Γ sets (vs ++ t) a := by
  obtain ⟨v, h1, h2, h3⟩ := h
  exact ⟨v, get_app h1, h2, fun r hr => by obtain ⟨w, g1, g2⟩ := h3 r hr; exact ⟨w, get_app g1, g2⟩⟩
/-- kinds of numbers: bounds may be narrowed -/
theorem okE.clamp {k : Nat} {lo hi lo2 hi2 : Int} {v : Value} (h : okE Γ sets k lo hi v) (hk : ¬ k = 2) (hl : lo2 ≤ vz v) (hh : vz v ≤ hi2) : okE Γ sets k (max lo lo2) (min hi hi2) v := by
  unfold okE at h ⊢
  by_cases h0 : k = 0
  · rw [if_pos h0] at h ⊢; exact ⟨h.1, by omega, by omega⟩
  rw [if_neg h0] at h ⊢
  by_cases h1 : k = 1
  · rw [if_pos h1] at h ⊢; exact ⟨h.1, by omega, by omega⟩
  rw [if_neg h1, if_neg hk] at h ⊢
  by_cases h10 : 10 ≤ k
  · rw [if_pos h10] at h ⊢; exact ⟨h.1, by omega, by omega, h.2.2.2⟩
  · rw [if_neg h10] at h; exact h.elim
theorem okE.num {k : Nat} {lo hi : Int} {v : Value} (h : okE Γ sets k lo hi v) (hk : ¬ k = 2) : lo ≤ vz v ∧ vz v ≤ hi := by
  unfold okE at h
  by_cases h0 : k = 0
  · rw [if_pos h0] at h; exact h.2
  rw [if_neg h0] at h
  by_cases h1 : k = 1
  · rw [if_pos h1] at h; exact h.2
  rw [if_neg h1, if_neg hk] at h
  by_cases h10 : 10 ≤ k
  · rw [if_pos h10] at h; exact ⟨h.2.1, h.2.2.1⟩
  · rw [if_neg h10] at h; exact h.elim
/-- the value that is number id is between lo and hi -/
noncomputable def a_cl (id : Nat) (lo hi : Int) (a : AV) : AV :=
  if a.2.1 = 2 then a
  else if a.1 = id then (a.1, a.2.1, max a.2.2.1 lo, min a.2.2.2.1 hi, a.2.2.2.2)
  else match a.2.2.2.2.find? (fun r => r.1 == id) with
    | some r => (a.1, a.2.1, max a.2.2.1 (lo + r.2.1), min a.2.2.2.1 (hi + r.2.2), a.2.2.2.2)
    | none => a
theorem a_cl_ok {id : Nat} {lo hi : Int} {a : AV} (h : okA Γ sets vs a) {w : Value} (hw : vs[id]? = some w) (h1 : lo ≤ vz w) (h2 : vz w ≤ hi) : okA Γ sets vs (a_cl id lo hi a) := by
  obtain ⟨v, g1, g2, g3⟩ := h
  unfold a_cl
  split
  · exact ⟨v, g1, g2, g3⟩
  · rename_i hk
    split
    · rename_i he
      rw [← he] at hw
      have e1 : v = w := Option.some.inj (g1.symm.trans hw)
      subst e1
      exact ⟨v, g1, g2.clamp hk h1 h2, g3⟩
    · split
      · rename_i r hr
        obtain ⟨w2, q1, q2, q3⟩ := g3 r (List.mem_of_find?_eq_some hr)
        have q4 : r.1 = id := by have := List.find?_some hr; simpa using this
        rw [q4] at q1
        have e1 : w2 = w := Option.some.inj (q1.symm.trans hw)
        subst e1
        exact ⟨v, g1, g2.clamp hk (by omega) (by omega), g3⟩
      · exact ⟨v, g1, g2, g3⟩
theorem a_cl_id (id : Nat) (lo hi : Int) (a : AV) : (a_cl id lo hi a).1 = a.1 := by
  unfold a_cl
  split
  · rfl
  · split
    · rfl
    · split <;> rfl
noncomputable def i_and (a b : Int × Int) : Int × Int := (max a.1 b.1, min a.2 b.2)
/-- bounds of the difference of two values -/
noncomputable def a_com (y : AV) : List (Nat × Int × Int) → Int × Int → Int × Int
  | [], b => b
  | r :: t, b => a_com y t (match y.2.2.2.2.find? (fun q => q.1 == r.1) with
    | some q => i_and b (r.2.1 - q.2.2, r.2.2 - q.2.1)
    | none => b)
noncomputable def a_diff (x y : AV) : Int × Int :=
  let b0 := (x.2.2.1 - y.2.2.2.1, x.2.2.2.1 - y.2.2.1)
  let b1 := if x.1 = y.1 then i_and b0 (0, 0) else b0
  let b2 := match x.2.2.2.2.find? (fun q => q.1 == y.1) with | some q => i_and b1 (q.2.1, q.2.2) | none => b1
  let b3 := match y.2.2.2.2.find? (fun q => q.1 == x.1) with | some q => i_and b2 (-q.2.2, -q.2.1) | none => b2
  a_com y x.2.2.2.2 b3
noncomputable def i_in (d : Int) (b : Int × Int) : Prop := b.1 ≤ d ∧ d ≤ b.2
theorem i_in.and {d : Int} {a b : Int × Int} (h : i_in d a) (h2 : i_in d b) : i_in d (i_and a b) := by
  unfold i_in i_and at *
  simp only
  omega
theorem a_com_ok {y : AV} {v w : Value} (hw : vs[y.1]? = some w) (hy : ∀ r ∈ y.2.2.2.2, ∃ u, vs[r.1]? = some u ∧ r.2.1 ≤ vz w - vz u ∧ vz w - vz u ≤ r.2.2) : ∀ (l : List (Nat × Int × Int)) (b : Int × Int), (∀ r ∈ l, ∃ u, vs[r.1]? = some u ∧ r.2.1 ≤ vz v - vz u ∧ vz v - vz u ≤ r.2.2) → i_in (vz v - vz w) b → i_in (vz v - vz w) (a_com y l b)
  | [], b, _, h => h
  | r :: t, b, hl, h => by
    rw [a_com]
    refine a_com_ok hw hy t _ (fun q hq => hl q (List.mem_cons_of_mem _ hq)) ?_
    split
    · rename_i q hq
      obtain ⟨u1, p1, p2, p3⟩ := hl r List.mem_cons_self
      obtain ⟨u2, q1, q2, q3⟩ := hy q (List.mem_of_find?_eq_some hq)
      have q4 : q.1 = r.1 := by have := List.find?_some hq; simpa using this
      rw [q4] at q1
      have e1 : u2 = u1 := Option.some.inj (q1.symm.trans p1)
      subst e1
      refine h.and ?_
      unfold i_in
      simp only
      omega
    · exact h
theorem a_diff_ok {x y : AV} {v w : Value} (hx : okA Γ sets vs x) (hy : okA Γ sets vs y) (hkx : ¬ x.2.1 = 2) (hky : ¬ y.2.1 = 2) (hv : vs[x.1]? = some v) (hw : vs[y.1]? = some w) : i_in (vz v - vz w) (a_diff x y) := by
  obtain ⟨v', g1, g2, g3⟩ := hx
  obtain ⟨w', k1, k2, k3⟩ := hy
  obtain rfl : v' = v := Option.some.inj (g1.symm.trans hv)
  obtain rfl : w' = w := Option.some.inj (k1.symm.trans hw)
  have n1 := g2.num hkx
  have n2 := k2.num hky
  unfold a_diff
  simp only
  refine a_com_ok hw k3 _ _ g3 ?_
  have b0 : i_in (vz v' - vz w') (x.2.2.1 - y.2.2.2.1, x.2.2.2.1 - y.2.2.1) := by unfold i_in; simp only; omega
  generalize (x.2.2.1 - y.2.2.2.1, x.2.2.2.1 - y.2.2.1) = B0 at b0 ⊢
  have b1 : i_in (vz v' - vz w') (if x.1 = y.1 then i_and B0 (0, 0) else B0) := by
    split
    · rename_i he
      rw [he] at g1
      have : v' = w' := Option.some.inj (g1.symm.trans k1)
      subst this
      exact b0.and ⟨by simp, by simp⟩
    · exact b0
  generalize (if x.1 = y.1 then i_and B0 (0, 0) else B0) = B1 at b1 ⊢
  have b2 : i_in (vz v' - vz w') (match x.2.2.2.2.find? (fun q => q.1 == y.1) with | some q => i_and B1 (q.2.1, q.2.2) | none => B1) := by
    split
    · rename_i q hq
      obtain ⟨u, p1, p2, p3⟩ := g3 q (List.mem_of_find?_eq_some hq)
      have q4 : q.1 = y.1 := by have := List.find?_some hq; simpa using this
      rw [q4] at p1
      obtain rfl : u = w' := Option.some.inj (p1.symm.trans k1)
      exact b1.and ⟨p2, p3⟩
    · exact b1
  generalize (match x.2.2.2.2.find? (fun q => q.1 == y.1) with | some q => i_and B1 (q.2.1, q.2.2) | none => B1) = B2 at b2 ⊢
  split
  · rename_i q hq
    obtain ⟨u, p1, p2, p3⟩ := k3 q (List.mem_of_find?_eq_some hq)
    have q4 : q.1 = x.1 := by have := List.find?_some hq; simpa using this
    rw [q4] at p1
    obtain rfl : u = v' := Option.some.inj (p1.symm.trans g1)
    exact b2.and ⟨by simp only; omega, by simp only; omega⟩
  · exact b2
end SxA
end
section
/-! SYMBOLIC RUNS, II: states and what they mean -/
noncomputable def s_avF (f : SF) : List AV := f.2.2.1.map (fun q => q.2) ++ f.2.2.2
noncomputable def s_av (S : SS) : List AV := s_avF S.1 ++ (S.2.1.flatMap s_avF ++ (S.2.2.1.map (fun q => q.2.2.2) ++ S.2.2.2.1.flatMap (fun q => [q.2.2.1, q.2.2.2])))
noncomputable def s_mapF (g : AV → AV) (f : SF) : SF := (f.1, f.2.1, f.2.2.1.map (fun q => (q.1, g q.2)), f.2.2.2.map g)
noncomputable def s_map (g : AV → AV) (S : SS) : SS := (s_mapF g S.1, S.2.1.map (s_mapF g), S.2.2.1.map (fun q => (q.1, q.2.1, q.2.2.1, g q.2.2.2)), S.2.2.2.1.map (fun q => (q.1, q.2.1, g q.2.2.1, g q.2.2.2)), S.2.2.2.2.1, S.2.2.2.2.2)
noncomputable def cont (c : MC) : List Value := match c with
  | .inl o => o.2
  | .inr (.inl q) => q.2.map Value.int
  | .inr (.inr q) => q.2.map va_rf
noncomputable def clen (c : MC) : Nat := (cont c).length
noncomputable def okF (vs : List Value) (sf : SF) (cf : CF) : Prop := sf.1 = cf.1 ∧ sf.2.1 = cf.2.1 ∧ (∀ q ∈ sf.2.2.1, ∃ v, vs[q.2.1]? = some v ∧ m_get cf.2.2.1 q.1 = some v) ∧ cf.2.2.2.map some = sf.2.2.2.map (fun a => vs[a.1]?)
noncomputable def okFs (vs : List Value) : List SF → List CF → Prop
  | [], [] => True
  | a :: s, b :: t => okF vs a b ∧ okFs vs s t
  | _, _ => False
noncomputable def okFa (Γ : Nat → Option Nat) (ro : Nat → Option MC) (F : MH) (vs : List Value) (q : FA) : Prop :=
  ∃ a c v, vs[q.1]? = some (.ref a) ∧ Γ a = some q.2.1 ∧ m_cell ro F a = some c ∧ vs[q.2.2.2.1]? = some v ∧ (if q.2.2.1 = 5000 then v = .int (Int32.ofNat (clen c)) else (cont c)[q.2.2.1]? = some v)
noncomputable def okEa (Γ : Nat → Option Nat) (ro : Nat → Option MC) (F : MH) (vs : List Value) (q : EA) : Prop :=
  ∃ a c x v, vs[q.1]? = some (.ref a) ∧ Γ a = some q.2.1 ∧ m_cell ro F a = some c ∧ vs[q.2.2.1.1]? = some (.int x) ∧ 0 ≤ x.toInt ∧ vs[q.2.2.2.1]? = some v ∧ (cont c)[x.toInt.toNat]? = some v
noncomputable def okSu (vs : List Value) (q : Nat × Nat × Nat) : Prop := ∃ u v w, vs[q.1]? = some u ∧ vs[q.2.1]? = some v ∧ vs[q.2.2]? = some w ∧ vz u + vz v = vz w
noncomputable def okS (Γ : Nat → Option Nat) (sets : List (List Int)) (ro : Nat → Option MC) (vs : List Value) (S : SS) (f : CF) (fs : List CF) (F : MH) : Prop :=
  (∀ a ∈ s_av S, okA Γ sets vs a) ∧ okF vs S.1 f ∧ okFs vs S.2.1 fs ∧ (∀ q ∈ S.2.2.1, okFa Γ ro F vs q) ∧ (∀ q ∈ S.2.2.2.1, okEa Γ ro F vs q) ∧ (∀ q ∈ S.2.2.2.2.1, okSu vs q) ∧ S.2.2.2.2.2 = vs.length
section SxB
variable {Γ : Nat → Option Nat} {sets : List (List Int)} {vs : List Value} {ro : Nat → Option MC}
theorem s_av_map (g : AV → AV) (S : SS) : s_av (s_map g S) = (s_av S).map g := by
  have h1 : ∀ f : SF, s_avF (s_mapF g f) = (s_avF f).map g := by
    intro f
    simp only [s_avF, s_mapF, List.map_append, List.map_map]
    rfl
  simp only [s_av, s_map, List.map_append, h1, List.flatMap_map, List.map_flatMap, List.map_map]
  rfl
theorem okF.app {sf : SF} {cf : CF} (h : okF vs sf cf) (hb : ∀ a ∈ sf.2.2.2, ∃ v, vs[a.1]? = some v) (t : List Value) : okF (vs ++ t) sf cf := by
  obtain ⟨h1, h2, h3, h4⟩ := h
  refine ⟨h1, h2, fun q hq => ?_, ?_⟩
  · obtain ⟨v, g1, g2⟩ := h3 q hq
    exact ⟨v, get_app g1, g2⟩
  · rw [h4]
    apply List.map_congr_left
    intro a ha
    obtain ⟨v, hv⟩ := hb a ha
    rw [hv, get_app hv]
theorem okF.map {sf : SF} {cf : CF} (h : okF vs sf cf) (g : AV → AV) (hg : ∀ a, (g a).1 = a.1) : okF vs (s_mapF g sf) cf := by
  obtain ⟨h1, h2, h3, h4⟩ := h
  refine ⟨h1, h2, fun q hq => ?_, ?_⟩
  · obtain ⟨q0, hq0, rfl⟩ := List.mem_map.mp hq
    obtain ⟨v, g1, g2⟩ := h3 q0 hq0
    exact ⟨v, by simp only [hg]; exact g1, g2⟩
  · rw [h4]
    simp only [s_mapF, List.map_map]
    apply List.map_congr_left
    intro a _
    simp only [Function.comp, hg]
theorem okFs.map (g : AV → AV) (hg : ∀ a, (g a).1 = a.1) : ∀ {s : List SF} {t : List CF}, okFs vs s t → okFs vs (s.map (s_mapF g)) t
  | [], [], _ => trivial
  | a :: s, b :: t, h => ⟨h.1.map g hg, okFs.map g hg h.2⟩
  | [], b :: t, h => h.elim
  | a :: s, [], h => h.elim
theorem okFs.app (x : List Value) : ∀ {s : List SF} {t : List CF}, okFs vs s t → (∀ f ∈ s, ∀ a ∈ f.2.2.2, ∃ v, vs[a.1]? = some v) → okFs (vs ++ x) s t
  | [], [], _, _ => trivial
  | a :: s, b :: t, h, hb => ⟨h.1.app (hb a List.mem_cons_self) x, okFs.app x h.2 (fun f hf => hb f (List.mem_cons_of_mem _ hf))⟩
  | [], b :: t, h, _ => h.elim
  | a :: s, [], h, _ => h.elim
/-- values told more narrowly -/
theorem okS.map {S : SS} {f : CF} {fs : List CF} {F : MH} (h : okS Γ sets ro vs S f fs F) (g : AV → AV) (hg : ∀ a, (g a).1 = a.1) (ho : ∀ a ∈ s_av S, okA Γ sets vs (g a)) : okS Γ sets ro vs (s_map g S) f fs F := by
  obtain ⟨h1, h2, h3, h4, h5, h6, h7⟩ := h
  refine ⟨?_, h2.map g hg, h3.map g hg, ?_, ?_, h6, h7⟩
  · intro a ha
    rw [s_av_map] at ha
    obtain ⟨b, hb, rfl⟩ := List.mem_map.mp ha
    exact ho b hb
  · intro q hq
    obtain ⟨q0, hq0, rfl⟩ := List.mem_map.mp hq
    obtain ⟨a, c, v, g1, g2, g3, g4, g5⟩ := h4 q0 hq0
    exact ⟨a, c, v, g1, g2, g3, by simp only [hg]; exact g4, g5⟩
  · intro q hq
    obtain ⟨q0, hq0, rfl⟩ := List.mem_map.mp hq
    obtain ⟨a, c, x, v, g1, g2, g3, g4, g5, g6, g7⟩ := h5 q0 hq0
    exact ⟨a, c, x, v, g1, g2, g3, by simp only [hg]; exact g4, g5, by simp only [hg]; exact g6, g7⟩
theorem okS.cl {S : SS} {f : CF} {fs : List CF} {F : MH} (h : okS Γ sets ro vs S f fs F) {id : Nat} {lo hi : Int} {w : Value} (hw : vs[id]? = some w) (h1 : lo ≤ vz w) (h2 : vz w ≤ hi) : okS Γ sets ro vs (s_map (a_cl id lo hi) S) f fs F :=
  h.map _ (a_cl_id id lo hi) (fun a ha => a_cl_ok (h.1 a ha) hw h1 h2)
/-- the next number is given -/
noncomputable def s_up (S : SS) : SS := (S.1, S.2.1, S.2.2.1, S.2.2.2.1, S.2.2.2.2.1, S.2.2.2.2.2 + 1)
theorem mem_top {S : SS} {a : AV} (h : a ∈ S.1.2.2.2) : a ∈ s_av S := List.mem_append_left _ (List.mem_append_right _ h)
theorem mem_loc {S : SS} {q : Nat × AV} (h : q ∈ S.1.2.2.1) : q.2 ∈ s_av S := List.mem_append_left _ (List.mem_append_left _ (List.mem_map.mpr ⟨q, h, rfl⟩))
theorem mem_rest {S : SS} {f : SF} {a : AV} (h : f ∈ S.2.1) (ha : a ∈ f.2.2.2) : a ∈ s_av S := List.mem_append_right _ (List.mem_append_left _ (List.mem_flatMap.mpr ⟨f, h, List.mem_append_right _ ha⟩))
theorem mem_fact {S : SS} {q : FA} (h : q ∈ S.2.2.1) : q.2.2.2 ∈ s_av S := List.mem_append_right _ (List.mem_append_right _ (List.mem_append_left _ (List.mem_map.mpr ⟨q, h, rfl⟩)))
theorem mem_ef1 {S : SS} {q : EA} (h : q ∈ S.2.2.2.1) : q.2.2.1 ∈ s_av S := List.mem_append_right _ (List.mem_append_right _ (List.mem_append_right _ (List.mem_flatMap.mpr ⟨q, h, List.mem_cons_self⟩)))
theorem mem_ef2 {S : SS} {q : EA} (h : q ∈ S.2.2.2.1) : q.2.2.2 ∈ s_av S := List.mem_append_right _ (List.mem_append_right _ (List.mem_append_right _ (List.mem_flatMap.mpr ⟨q, h, List.mem_cons_of_mem _ List.mem_cons_self⟩)))
theorem okA.get {a : AV} (h : okA Γ sets vs a) : ∃ v, vs[a.1]? = some v := h.imp fun v q => q.1
theorem okS.up {S : SS} {f : CF} {fs : List CF} {F : MH} (h : okS Γ sets ro vs S f fs F) (v : Value) : okS Γ sets ro (vs ++ [v]) (s_up S) f fs F := by
  obtain ⟨h1, h2, h3, h4, h5, h6, h7⟩ := h
  refine ⟨fun a ha => (h1 a ha).app _, h2.app (fun a ha => (h1 a (mem_top ha)).get) _, h3.app _ (fun f hf a ha => (h1 a (mem_rest hf ha)).get), ?_, ?_, ?_, ?_⟩
  · intro q hq
    obtain ⟨a, c, v, g1, g2, g3, g4, g5⟩ := h4 q hq
    exact ⟨a, c, v, get_app g1, g2, g3, get_app g4, g5⟩
  · intro q hq
    obtain ⟨a, c, x, v, g1, g2, g3, g4, g5, g6, g7⟩ := h5 q hq
    exact ⟨a, c, x, v, get_app g1, g2, g3, get_app g4, g5, get_app g6, g7⟩
  · intro q hq
    obtain ⟨u, v, w, g1, g2, g3, g4⟩ := h6 q hq
    exact ⟨u, v, w, get_app g1, get_app g2, get_app g3, g4⟩
  · show S.2.2.2.2.2 + 1 = _
    rw [h7, List.length_append]; rfl
/-- the running frame goes on: another pc, locals, stack -/
noncomputable def s_top (S : SS) (pc : Nat) (lc : List (Nat × AV)) (st : List AV) : SS := ((S.1.1, pc, lc, st), S.2)
theorem okS.top {S : SS} {f : CF} {fs : List CF} {F : MH} (h : okS Γ sets ro vs S f fs F) {pc : Nat} {lc : List (Nat × AV)} {st : List AV} {lv : LVs} {cst : List Value} (ha : ∀ q ∈ lc, okA Γ sets vs q.2 ∧ ∃ v, vs[q.2.1]? = some v ∧ m_get lv q.1 = some v) (hb : ∀ a ∈ st, okA Γ sets vs a) (hc : cst.map some = st.map (fun a => vs[a.1]?)) : okS Γ sets ro vs (s_top S pc lc st) (f.1, pc, lv, cst) fs F := by
  obtain ⟨h1, h2, h3, h4, h5, h6, h7⟩ := h
  refine ⟨fun a hm => ?_, ⟨h2.1, rfl, fun q hq => (ha q hq).2, hc⟩, h3, h4, h5, h6, h7⟩
  rcases List.mem_append.mp hm with hm | hm
  · rcases List.mem_append.mp hm with hm | hm
    · obtain ⟨q, hq, rfl⟩ := List.mem_map.mp hm
      exact (ha q hq).1
    · exact hb a hm
  · exact h1 a (List.mem_append_right _ hm)
end SxB
end
section
/-! SYMBOLIC RUNS, III: pushes, locals, the stack -/
/-- constants that an instruction pushes -/
noncomputable def c_val (E : MI) : Option Value := match m_push E [] with
  | some v => some v
  | none => m_cst E
/-- a constant as a symbolic value -/
noncomputable def c_av (Γ : Nat → Option Nat) (n : Nat) (v : Value) : Option AV := match v with
  | .int x => some (n, 0, x.toInt, x.toInt, [])
  | .long x => some (n, 1, x.toInt, x.toInt, [])
  | .ref a => (Γ a).map fun r => (n, 2, (r : Int), 0, [])
  | _ => none
noncomputable def l_ix (i : Instr) : Option (Nat × Nat) := match i with
  | .iload i => some (i, 0)
  | .iload_n i => some (i, 0)
  | .lload i => some (i, 1)
  | .lload_n i => some (i, 1)
  | .aload i => some (i, 2)
  | .aload_n i => some (i, 2)
  | _ => none
/-- is a value of a kind an int (0), a long (1), a reference (2)? -/
noncomputable def k_is (k c : Nat) : Bool := if c = 0 then k == 0 || decide (10 ≤ k) else k == c && decide (c ≤ 2)
noncomputable def x_get (lc : List (Nat × AV)) (i : Nat) : Option AV := (lc.find? (fun q => q.1 == i)).map (fun q => q.2)
noncomputable def x_put1 (lc : List (Nat × AV)) (i : Nat) (a : AV) : List (Nat × AV) := (i, a) :: lc.filter (fun q => !(q.1 == i) && !(q.1 + 1 == i && q.2.2.1 == 1))
noncomputable def x_put2 (lc : List (Nat × AV)) (i : Nat) (a : AV) : List (Nat × AV) := (i, a) :: lc.filter (fun q => !(q.1 == i) && (!(q.1 == i + 1) && !(q.1 + 1 == i && q.2.2.1 == 1)))
section SxC
variable {Γ : Nat → Option Nat} {sets : List (List Int)} {vs : List Value} {ro : Nat → Option MC}
theorem c_val_spec {E : MI} {v : Value} (h : c_val E = some v) (fty : Nat → Nat → FieldType) (dfl : Nat → List Value) (F : MH) (lv : LVs) (st : List Value) : m_one ro fty dfl E F lv st = some (F, E.1 + E.2.2.1, lv, v :: st) := by
  unfold c_val at h
  split at h
  · rename_i w hw
    cases h
    have e1 : m_push E lv = some v := by
      revert hw
      unfold m_push
      split <;> intro hw <;> first | exact hw | (simp [m_get] at hw)
    unfold m_one
    rw [e1]
  · rename_i hw
    have e1 : m_push E lv = none := by
      revert h
      unfold m_cst m_push
      split <;> first | (intro h; cases h; done) | (intro h; rfl) | skip
      all_goals (rename_i he; rw [he]; intro h; first | rfl | (simp at h))
    unfold m_one
    rw [e1]
    simp only
    rw [h]
theorem c_av_ok {n : Nat} {v : Value} {a : AV} (h : c_av Γ n v = some a) (hn : n = vs.length) : okA Γ sets (vs ++ [v]) a ∧ a.1 = n := by
  have hg : (vs ++ [v])[n]? = some v := by rw [hn]; simp
  unfold c_av at h
  split at h
  · cases h
    exact ⟨⟨_, hg, by unfold okE; simp only [if_true]; exact ⟨⟨_, rfl⟩, Int.le_refl _, Int.le_refl _⟩, fun r hr => by cases hr⟩, rfl⟩
  · cases h
    exact ⟨⟨_, hg, by unfold okE; simp; exact ⟨⟨_, rfl⟩, Int.le_refl _, Int.le_refl _⟩, fun r hr => by cases hr⟩, rfl⟩
  · rename_i x
    cases hr : Γ x with
    | none => rw [hr] at h; cases h
    | some r =>
      rw [hr] at h
      cases h
      exact ⟨⟨_, hg, by unfold okE; simp; exact hr, fun r hr => by cases hr⟩, rfl⟩
  · cases h
theorem k_is_int {k : Nat} {lo hi : Int} {v : Value} (h : okE Γ sets k lo hi v) (hk : k_is k 0 = true) : isI v ∧ ¬ k = 2 := by
  simp only [k_is, if_true, Bool.or_eq_true, beq_iff_eq, decide_eq_true_eq] at hk
  unfold okE at h
  rcases hk with hk | hk
  · rw [if_pos hk] at h; exact ⟨h.1, by omega⟩
  · rw [if_neg (by omega), if_neg (by omega), if_neg (by omega), if_pos hk] at h; exact ⟨h.1, by omega⟩
theorem k_is_long {k : Nat} {lo hi : Int} {v : Value} (h : okE Γ sets k lo hi v) (hk : k_is k 1 = true) : isJ v ∧ k = 1 := by
  have hk : k = 1 := by simpa [k_is] using hk
  subst hk
  unfold okE at h
  simp at h
  exact ⟨h.1, rfl⟩
theorem k_is_ref {k : Nat} {lo hi : Int} {v : Value} (h : okE Γ sets k lo hi v) (hk : k_is k 2 = true) : (∃ a, v = .ref a ∧ Γ a = some lo.toNat) ∧ k = 2 := by
  have hk : k = 2 := by simpa [k_is] using hk
  subst hk
  unfold okE at h
  simp at h
  exact ⟨h, rfl⟩
theorem okE_cat {k : Nat} {lo hi : Int} {v : Value} (h : okE Γ sets k lo hi v) : (v.category = 2 ↔ k = 1) := by
  unfold okE at h
  by_cases h0 : k = 0
  · rw [if_pos h0] at h
    obtain ⟨⟨x, rfl⟩, -⟩ := h
    simp only [Value.category]; omega
  rw [if_neg h0] at h
  by_cases h1 : k = 1
  · rw [if_pos h1] at h
    obtain ⟨⟨x, rfl⟩, -⟩ := h
    exact ⟨fun _ => h1, fun _ => rfl⟩
  rw [if_neg h1] at h
  by_cases h2 : k = 2
  · rw [if_pos h2] at h
    obtain ⟨a, rfl, -⟩ := h
    simp only [Value.category]; omega
  rw [if_neg h2] at h
  by_cases h10 : 10 ≤ k
  · rw [if_pos h10] at h
    obtain ⟨⟨x, rfl⟩, -⟩ := h
    simp only [Value.category]; omega
  · rw [if_neg h10] at h; exact h.elim
theorem x_get_mem {lc : List (Nat × AV)} {i : Nat} {a : AV} (h : x_get lc i = some a) : (i, a) ∈ lc := by
  unfold x_get at h
  cases hf : lc.find? (fun q => q.1 == i) with
  | none => rw [hf] at h; cases h
  | some q =>
    rw [hf] at h
    have h1 := List.mem_of_find?_eq_some hf
    have h2 : q.1 = i := by have := List.find?_some hf; simpa using this
    have h3 : q.2 = a := Option.some.inj h
    rw [← h3, ← h2]; exact h1
theorem load_spec {E : MI} {i c : Nat} {lv : LVs} {v : Value} (h : l_ix E.2.1 = some (i, c)) (hv : m_get lv i = some v) (hc : (c = 0 → isI v) ∧ (c = 1 → isJ v) ∧ (c = 2 → ∃ a, v = .ref a)) (fty : Nat → Nat → FieldType) (dfl : Nat → List Value) (F : MH) (st : List Value) : m_one ro fty dfl E F lv st = some (F, E.1 + E.2.2.1, lv, v :: st) := by
  have e1 : m_push E lv = some v := by
    obtain ⟨pc, ins, len, a0, b0, z0⟩ := E
    simp only at h
    cases ins <;> simp only [l_ix, Option.some.injEq, Prod.mk.injEq, reduceCtorEq] at h <;> obtain ⟨h1, h2⟩ := h <;> subst h1 <;> simp only [m_push, hv]
    all_goals first
      | (obtain ⟨x, rfl⟩ := hc.1 h2.symm; rfl)
      | (obtain ⟨x, rfl⟩ := hc.2.1 h2.symm; rfl)
      | (obtain ⟨x, rfl⟩ := hc.2.2 h2.symm; rfl)
  unfold m_one
  rw [e1]
theorem m_get_put1 {lv : LVs} {i j : Nat} {v w : Value} (h : m_get lv j = some w) (hne : ¬ j = i) (hc : ¬ (j + 1 = i ∧ w.category = 2)) : m_get (m_put1 lv i v) j = some w := by
  unfold m_get m_put1 at *
  cases hf : lv.find? (fun q => q.1 == j) with
  | none => rw [hf] at h; cases h
  | some q =>
    rw [hf] at h
    have e1 : q.2 = w := Option.some.inj h
    have e2 : q.1 = j := by have := List.find?_some hf; simpa using this
    have key : (lv.filter (fun q => !(q.1 == i) && !(q.1 + 1 == i && q.2.category == 2))).find? (fun q => q.1 == j) = some q := by
      rw [List.find?_filter]
      rw [List.find?_eq_some_iff_append] at hf ⊢
      obtain ⟨h1, as, bs, h2, h3⟩ := hf
      refine ⟨?_, as, bs, h2, fun x hx => ?_⟩
      · rw [e2, e1]
        simp only [Bool.and_eq_true, Bool.not_eq_true', beq_eq_false_iff_ne, ne_eq, decide_eq_true_eq, beq_iff_eq, Bool.and_eq_false_iff]
        refine ⟨⟨hne, ?_⟩, trivial⟩
        by_cases q1 : j + 1 = i
        · exact Or.inr (fun z => hc ⟨q1, z⟩)
        · exact Or.inl q1
      · have := h3 x hx
        simp only [Bool.not_eq_true', beq_eq_false_iff_ne, ne_eq] at this
        simp only [this, beq_iff_eq, and_false, decide_false, Bool.not_false]
    rw [List.find?_cons]
    have hij : (i == j) = false := by simp only [beq_eq_false_iff_ne, ne_eq]; exact fun z => hne z.symm
    simp only [hij]
    rw [key]
    exact congrArg some e1
theorem m_get_same1 {lv : LVs} {i : Nat} {v : Value} : m_get (m_put1 lv i v) i = some v := by
  unfold m_get m_put1
  rw [List.find?_cons]
  simp
end SxC
end
section
/-! SYMBOLIC RUNS, IV: arithmetic of bounds -/
section SxD
variable {Γ : Nat → Option Nat} {sets : List (List Int)} {vs : List Value} {ro : Nat → Option MC}
theorem z_rng (x : Int32) : -2147483648 ≤ x.toInt ∧ x.toInt ≤ 2147483647 := by
  have h1 := x.toInt_lt
  have h2 := x.le_toInt
  omega
theorem z_rngL (x : Int64) : -9223372036854775808 ≤ x.toInt ∧ x.toInt ≤ 9223372036854775807 := by
  have h1 := x.toInt_lt
  have h2 := x.le_toInt
  omega
theorem z_bm {z : Int} (h1 : -2147483648 ≤ z) (h2 : z ≤ 2147483647) : z.bmod (2 ^ 32) = z := by
  unfold Int.bmod
  simp only
  split <;> omega
theorem z_add {x y : Int32} (h1 : -2147483648 ≤ x.toInt + y.toInt) (h2 : x.toInt + y.toInt ≤ 2147483647) : (x + y).toInt = x.toInt + y.toInt := by
  rw [Int32.toInt_add]; exact z_bm h1 h2
theorem z_sub {x y : Int32} (h1 : -2147483648 ≤ x.toInt - y.toInt) (h2 : x.toInt - y.toInt ≤ 2147483647) : (x - y).toInt = x.toInt - y.toInt := by
  rw [Int32.toInt_sub]; exact z_bm h1 h2
theorem z_mul {x y : Int32} (h1 : -2147483648 ≤ x.toInt * y.toInt) (h2 : x.toInt * y.toInt ≤ 2147483647) : (x * y).toInt = x.toInt * y.toInt := by
  rw [Int32.toInt_mul]; exact z_bm h1 h2
theorem z_of (x : Int32) {c : Int} (h : x.toInt = c) : x = Int32.ofInt c := by rw [← h]; exact (Int32.ofInt_toInt x).symm
theorem z_ofL (x : Int64) {c : Int} (h : x.toInt = c) : x = Int64.ofInt c := by rw [← h]; exact (Int64.ofInt_toInt x).symm
theorem z_nI {x : Int32} (h : 0 ≤ x.toInt) : ∃ j : Nat, j < 2 ^ 31 ∧ x = nI j ∧ (j : Int) = x.toInt := by
  have h0 : ¬ x < 0 := by rw [Int32.lt_iff_toInt_lt, Int32.toInt_zero]; omega
  obtain ⟨j, hj, e⟩ := nI_of h0
  exact ⟨j, hj, e, by rw [e, nI_toInt hj]⟩
theorem z_div {x y : Int32} (hx : 0 ≤ x.toInt) (hy : 1 ≤ y.toInt) : (x / y).toInt = x.toInt / y.toInt := by
  obtain ⟨j, h1, h2, h3⟩ := z_nI hx
  obtain ⟨k, g1, g2, g3⟩ := z_nI (x := y) (by omega)
  have hk : 0 < k := by omega
  rw [h2, g2, pk_div h1 hk g1, nI_toInt (Nat.lt_of_le_of_lt (Nat.div_le_self _ _) h1), nI_toInt h1, nI_toInt g1]
  exact Int.natCast_ediv j k
theorem z_rem {x y : Int32} (hx : 0 ≤ x.toInt) (hy : 1 ≤ y.toInt) : (x - x / y * y).toInt = x.toInt % y.toInt := by
  obtain ⟨j, h1, h2, h3⟩ := z_nI hx
  obtain ⟨k, g1, g2, g3⟩ := z_nI (x := y) (by omega)
  have hk : 0 < k := by omega
  rw [h2, g2, pk_rem h1 hk g1, nI_toInt (Nat.lt_of_le_of_lt (Nat.mod_le _ _) h1), nI_toInt h1, nI_toInt g1]
  exact Int.natCast_emod j k
theorem z_and {x y : Int32} (hy : 0 ≤ y.toInt) : 0 ≤ (x &&& y).toInt ∧ (x &&& y).toInt ≤ y.toInt := by
  have hr := z_rng y
  have e1 : (y.toBitVec.toNat : Int) = y.toInt := by
    have := BitVec.toInt_eq_toNat_cond y.toBitVec
    have h2 : y.toInt = y.toBitVec.toInt := rfl
    rw [h2] at hy ⊢
    have h3 := y.toBitVec.isLt
    split at this <;> omega
  have e2 : (x &&& y).toBitVec.toNat ≤ y.toBitVec.toNat := by
    show (x.toBitVec &&& y.toBitVec).toNat ≤ _
    rw [BitVec.toNat_and]
    exact Nat.and_le_right
  have e3 : (x &&& y).toInt = ((x &&& y).toBitVec.toNat : Int) := by
    show (x &&& y).toBitVec.toInt = _
    rw [BitVec.toInt_eq_toNat_cond]
    have h3 := y.toBitVec.isLt
    split
    · rfl
    · omega
  omega
theorem z_andc {x y : Int32} (hx : 0 ≤ x.toInt) : 0 ≤ (x &&& y).toInt ∧ (x &&& y).toInt ≤ x.toInt := by
  rw [Int32.and_comm]; exact z_and hx
/-- bounds, if they are an int's; else an int's -/
noncomputable def r_i (l h : Int) : Int × Int := if -2147483648 ≤ l ∧ h ≤ 2147483647 then (l, h) else (-2147483648, 2147483647)
theorem r_i_ok {l h : Int} {x : Int32} (hx : (-2147483648 ≤ l ∧ h ≤ 2147483647) → l ≤ x.toInt ∧ x.toInt ≤ h) : (r_i l h).1 ≤ x.toInt ∧ x.toInt ≤ (r_i l h).2 := by
  unfold r_i
  split
  · rename_i q; exact hx q
  · exact z_rng x
noncomputable def isC (a : AV) : Bool := a.2.1 == 0 && a.2.2.1 == a.2.2.2.1
theorem isC_spec {a : AV} {v : Value} (h : isC a = true) (ho : okE Γ sets a.2.1 a.2.2.1 a.2.2.2.1 v) : v = .int (Int32.ofInt a.2.2.1) := by
  simp only [isC, Bool.and_eq_true, beq_iff_eq] at h
  unfold okE at ho
  rw [if_pos h.1] at ho
  obtain ⟨⟨x, rfl⟩, h1, h2⟩ := ho
  have h3 : x.toInt = a.2.2.1 := by simp only [vz] at h1 h2; omega
  rw [← z_of x h3]
noncomputable def sh (c : Int) (r : List (Nat × Int × Int)) : List (Nat × Int × Int) := r.map fun q => (q.1, q.2.1 + c, q.2.2 + c)
/-- bounds of what two ints come to, and how it differs from them -/
noncomputable def b_iv (i : Instr) (x y : AV) : (Int × Int) × List (Nat × Int × Int) := match i with
  | .iadd => if -2147483648 ≤ x.2.2.1 + y.2.2.1 ∧ x.2.2.2.1 + y.2.2.2.1 ≤ 2147483647 then ((x.2.2.1 + y.2.2.1, x.2.2.2.1 + y.2.2.2.1), if y.2.2.1 = y.2.2.2.1 then (x.1, y.2.2.1, y.2.2.1) :: (sh y.2.2.1 x.2.2.2.2).take 4 else if x.2.2.1 = x.2.2.2.1 then (y.1, x.2.2.1, x.2.2.1) :: (sh x.2.2.1 y.2.2.2.2).take 4 else [(x.1, y.2.2.1, y.2.2.2.1)]) else ((-2147483648, 2147483647), [])
  | .isub => if -2147483648 ≤ x.2.2.1 - y.2.2.2.1 ∧ x.2.2.2.1 - y.2.2.1 ≤ 2147483647 then (a_diff x y, if y.2.2.1 = y.2.2.2.1 then (x.1, -y.2.2.1, -y.2.2.1) :: (sh (-y.2.2.1) x.2.2.2.2).take 4 else [(x.1, -y.2.2.2.1, -y.2.2.1)]) else ((-2147483648, 2147483647), [])
  | .imul => if 0 ≤ x.2.2.1 ∧ 0 ≤ y.2.2.1 then (r_i (x.2.2.1 * y.2.2.1) (x.2.2.2.1 * y.2.2.2.1), []) else ((-2147483648, 2147483647), [])
  | .iand => if 0 ≤ y.2.2.1 then ((0, y.2.2.2.1), []) else if 0 ≤ x.2.2.1 then ((0, x.2.2.2.1), []) else ((-2147483648, 2147483647), [])
  | .idiv => if 0 ≤ x.2.2.1 ∧ 1 ≤ y.2.2.1 then (if y.2.2.1 = y.2.2.2.1 then ((x.2.2.1 / y.2.2.1, x.2.2.2.1 / y.2.2.1), []) else ((0, x.2.2.2.1), [])) else ((-2147483648, 2147483647), [])
  | .irem => if 0 ≤ x.2.2.1 ∧ 1 ≤ y.2.2.1 then (if x.2.2.2.1 < y.2.2.1 then ((x.2.2.1, x.2.2.2.1), [(x.1, 0, 0)]) else if x.2.2.1 = x.2.2.2.1 ∧ y.2.2.1 = y.2.2.2.1 then ((x.2.2.1 % y.2.2.1, x.2.2.1 % y.2.2.1), []) else ((0, min x.2.2.2.1 (y.2.2.2.1 - 1)), [])) else ((-2147483648, 2147483647), [])
  | _ => ((-2147483648, 2147483647), [])
end SxD
end
section
/-! SYMBOLIC RUNS, V: arithmetic of bounds is right -/
section SxE
variable {Γ : Nat → Option Nat} {sets : List (List Int)} {vs : List Value} {ro : Nat → Option MC}
theorem full_ok (x : Int32) : (-2147483648 : Int) ≤ x.toInt ∧ x.toInt ≤ 2147483647 ∧ ∀ r ∈ ([] : List (Nat × Int × Int)), ∃ w, vs[r.1]? = some w ∧ r.2.1 ≤ x.toInt - vz w ∧ x.toInt - vz w ≤ r.2.2 :=
  ⟨(z_rng x).1, (z_rng x).2, fun r hr => by cases hr⟩
theorem sh_ok {x : AV} {a : Int32} {c : Int} {r : Int32} (hx : ∀ q ∈ x.2.2.2.2, ∃ w, vs[q.1]? = some w ∧ q.2.1 ≤ a.toInt - vz w ∧ a.toInt - vz w ≤ q.2.2) (hr : r.toInt = a.toInt + c) : ∀ q ∈ (sh c x.2.2.2.2).take 4, ∃ w, vs[q.1]? = some w ∧ q.2.1 ≤ r.toInt - vz w ∧ r.toInt - vz w ≤ q.2.2 := by
  intro q hq
  obtain ⟨q0, h0, rfl⟩ := List.mem_map.mp (List.mem_of_mem_take hq)
  obtain ⟨w, g1, g2, g3⟩ := hx q0 h0
  exact ⟨w, g1, by simp only; omega, by simp only; omega⟩
theorem b_iv_ok {i : Instr} {f : Int32 → Int32 → Int32} {x y : AV} {a b : Int32} (hf : m_b32 i = some f ∨ m_d32 i = some f) (hx : okA Γ sets vs x) (hy : okA Γ sets vs y) (kx : k_is x.2.1 0 = true) (ky : k_is y.2.1 0 = true) (hv : vs[x.1]? = some (.int a)) (hw : vs[y.1]? = some (.int b)) :
    (b_iv i x y).1.1 ≤ (f a b).toInt ∧ (f a b).toInt ≤ (b_iv i x y).1.2 ∧ ∀ r ∈ (b_iv i x y).2, ∃ w, vs[r.1]? = some w ∧ r.2.1 ≤ (f a b).toInt - vz w ∧ (f a b).toInt - vz w ≤ r.2.2 := by
  have hx0 := hx
  have hy0 := hy
  obtain ⟨v, g1, g2, g3⟩ := hx
  obtain ⟨w, k1, k2, k3⟩ := hy
  obtain rfl : v = .int a := Option.some.inj (g1.symm.trans hv)
  obtain rfl : w = .int b := Option.some.inj (k1.symm.trans hw)
  have nx := (k_is_int g2 kx).2
  have ny := (k_is_int k2 ky).2
  have n1 := g2.num nx
  have n2 := k2.num ny
  simp only [vz] at n1 n2 g3 k3
  have hA := z_rng a
  have hB := z_rng b
  cases i <;> simp only [m_b32, m_d32, reduceCtorEq, or_false, false_or, Option.some.injEq] at hf <;> subst hf <;> simp only [b_iv]
  case iadd =>
    split
    · rename_i hq
      have e := z_add (x := a) (y := b) (by omega) (by omega)
      refine ⟨by simp only; omega, by simp only; omega, ?_⟩
      simp only
      split
      · rename_i hc
        intro r hr
        rcases List.mem_cons.mp hr with rfl | hr
        · exact ⟨_, g1, by simp only [vz]; omega, by simp only [vz]; omega⟩
        · exact sh_ok g3 (by omega) r hr
      · split
        · rename_i hc
          intro r hr
          rcases List.mem_cons.mp hr with rfl | hr
          · exact ⟨_, k1, by simp only [vz]; omega, by simp only [vz]; omega⟩
          · exact sh_ok k3 (by omega) r hr
        · intro r hr
          rcases List.mem_cons.mp hr with rfl | hr
          · exact ⟨_, g1, by simp only [vz]; omega, by simp only [vz]; omega⟩
          · cases hr
    · exact full_ok _
  case isub =>
    split
    · rename_i hq
      have e := z_sub (x := a) (y := b) (by omega) (by omega)
      have hd := a_diff_ok hx0 hy0 nx ny hv hw
      simp only [i_in, vz] at hd
      refine ⟨by simp only; omega, by simp only; omega, ?_⟩
      simp only
      split
      · rename_i hc
        intro r hr
        rcases List.mem_cons.mp hr with rfl | hr
        · exact ⟨_, g1, by simp only [vz]; omega, by simp only [vz]; omega⟩
        · exact sh_ok g3 (by omega) r hr
      · intro r hr
        rcases List.mem_cons.mp hr with rfl | hr
        · exact ⟨_, g1, by simp only [vz]; omega, by simp only [vz]; omega⟩
        · cases hr
    · exact full_ok _
  case imul =>
    split
    · rename_i hq
      have p1 : x.2.2.1 * y.2.2.1 ≤ a.toInt * b.toInt := Int.mul_le_mul n1.1 n2.1 hq.2 (by omega)
      have p2 : a.toInt * b.toInt ≤ x.2.2.2.1 * y.2.2.2.1 := Int.mul_le_mul n1.2 n2.2 (by omega) (by omega)
      have := r_i_ok (l := x.2.2.1 * y.2.2.1) (h := x.2.2.2.1 * y.2.2.2.1) (x := a * b) (fun q => by rw [z_mul (by omega) (by omega)]; exact ⟨p1, p2⟩)
      exact ⟨this.1, this.2, fun r hr => by cases hr⟩
    · exact full_ok _
  case iand =>
    split
    · rename_i hq
      have := z_and (x := a) (y := b) (by omega)
      exact ⟨by simp only; omega, by simp only; omega, fun r hr => by cases hr⟩
    · split
      · have := z_andc (x := a) (y := b) (by omega)
        exact ⟨by simp only; omega, by simp only; omega, fun r hr => by cases hr⟩
      · exact full_ok _
  case idiv =>
    split
    · rename_i hq
      have e := z_div (x := a) (y := b) (by omega) (by omega)
      split
      · rename_i hc
        have hb : b.toInt = y.2.2.1 := by omega
        rw [hb] at e
        have p1 := Int.ediv_le_ediv (c := y.2.2.1) (by omega) n1.1
        have p2 := Int.ediv_le_ediv (c := y.2.2.1) (by omega) n1.2
        exact ⟨by rw [e]; exact p1, by rw [e]; exact p2, fun r hr => by cases hr⟩
      · have p1 : 0 ≤ a.toInt / b.toInt := Int.ediv_nonneg (by omega) (by omega)
        have p2 : a.toInt / b.toInt ≤ a.toInt := Int.ediv_le_self _ (by omega)
        exact ⟨by rw [e]; exact p1, by rw [e]; simp only; omega, fun r hr => by cases hr⟩
    · exact full_ok _
  case irem =>
    split
    · rename_i hq
      have e := z_rem (x := a) (y := b) (by omega) (by omega)
      split
      · rename_i hc
        have p : a.toInt % b.toInt = a.toInt := Int.emod_eq_of_lt (by omega) (by omega)
        rw [p] at e
        refine ⟨by rw [e]; exact n1.1, by rw [e]; exact n1.2, fun r hr => ?_⟩
        rcases List.mem_cons.mp hr with rfl | hr
        · exact ⟨_, g1, by simp only [vz]; omega, by simp only [vz]; omega⟩
        · cases hr
      · split
        · rename_i hk
          have ea : x.2.2.1 = a.toInt := by omega
          have eb : y.2.2.1 = b.toInt := by omega
          exact ⟨by rw [e, ea, eb]; exact Int.le_refl _, by rw [e, ea, eb]; exact Int.le_refl _, fun r hr => by cases hr⟩
        have p1 := Int.emod_nonneg a.toInt (b := b.toInt) (by omega)
        have p2 := Int.emod_lt_of_pos a.toInt (b := b.toInt) (by omega)
        have p4 : 0 ≤ b.toInt * (a.toInt / b.toInt) := Int.mul_nonneg (by omega) (Int.ediv_nonneg (by omega) (by omega))
        have p3 : a.toInt % b.toInt ≤ a.toInt := by have := Int.emod_add_mul_ediv a.toInt b.toInt; omega
        exact ⟨by rw [e]; exact p1, by rw [e]; simp only; omega, fun r hr => by cases hr⟩
    · exact full_ok _
  all_goals exact full_ok _
end SxE
end
section
/-! SYMBOLIC RUNS, VI: one step of a symbolic state, first kinds -/
/-- roles: shape (0 object, 1 row of ints, 2 row of references, 3 a row of any length that nobody writes), class or kind, what each place holds -/
abbrev RD : Type := Nat × Nat × List (Nat × Int × Int)
noncomputable def okL (Γ : Nat → Option Nat) (sets : List (List Int)) (es : List (Nat × Int × Int)) (l : List Value) : Prop := l.length = es.length ∧ ∀ (k : Nat) (e : Nat × Int × Int), es[k]? = some e → ∃ v, l[k]? = some v ∧ okE Γ sets e.1 e.2.1 e.2.2 v
noncomputable def okCell (Γ : Nat → Option Nat) (sets : List (List Int)) (rd : RD) (c : MC) : Prop :=
  (rd.1 = 0 ∧ (∃ fs, c = .inl (rd.2.1, fs)) ∧ okL Γ sets rd.2.2 (cont c)) ∨ (rd.1 = 1 ∧ (∃ xs, c = .inr (.inl (rd.2.1, xs))) ∧ okL Γ sets rd.2.2 (cont c)) ∨ (rd.1 = 2 ∧ (∃ os, c = .inr (.inr (rd.2.1, os))) ∧ okL Γ sets rd.2.2 (cont c)) ∨
  (rd.1 = 3 ∧ (∃ xs, c = .inr (.inl (rd.2.1, xs)) ∧ xs.length ≤ 320) ∧ ∃ e, rd.2.2 = [e] ∧ ∀ v ∈ cont c, okE Γ sets e.1 e.2.1 e.2.2 v)
/-- every cell that has a role is as the role says -/
noncomputable def WT (Γ : Nat → Option Nat) (sets : List (List Int)) (roles : List RD) (ro : Nat → Option MC) (F : MH) : Prop := ∀ a r rd, Γ a = some r → roles[r]? = some rd → ∃ c, m_cell ro F a = some c ∧ okCell Γ sets rd c
/-- places that may be changed: role, from, to -/
abbrev Mods : Type := List (Nat × Nat × Nat)
noncomputable def inM (ms : Mods) (r k : Nat) : Bool := ms.any fun q => q.1 == r && decide (q.2.1 ≤ k) && decide (k ≤ q.2.2)
noncomputable def FRm (Γ : Nat → Option Nat) (ro : Nat → Option MC) (ms : Mods) (F0 F : MH) : Prop := ∀ a r k c0 c, Γ a = some r → inM ms r k = false → m_cell ro F0 a = some c0 → m_cell ro F a = some c → (cont c)[k]? = (cont c0)[k]? ∧ clen c = clen c0
noncomputable def Good (Γ : Nat → Option Nat) (sets : List (List Int)) (roles : List RD) (ms : Mods) (MT : List MM) (ro : Nat → Option MC) (fty : Nat → Nat → FieldType) (dfl : Nat → List Value) (vs0 : List Value) (F0 : MH) (Q : Option Value → MH → Prop) (d : Nat) (S : SS) : Prop :=
  ∀ vs f fs F, (∃ t, vs = vs0 ++ t) → okS Γ sets ro vs S f fs F → WT Γ sets roles ro F → FRm Γ ro ms F0 F → RR MT ro fty dfl d f fs F Q
section SxF
variable {Γ : Nat → Option Nat} {sets : List (List Int)} {roles : List RD} {ms : Mods} {MT : List MM} {ro : Nat → Option MC} {fty : Nat → Nat → FieldType} {dfl : Nat → List Value} {vs0 : List Value} {F0 : MH} {Q : Option Value → MH → Prop} {d : Nat} {S : SS}
theorem pre_app {vs : List Value} (h : ∃ t, vs = vs0 ++ t) (v : Value) : ∃ t, vs ++ [v] = vs0 ++ t := by
  obtain ⟨t, rfl⟩ := h
  exact ⟨t ++ [v], by rw [List.append_assoc]⟩
theorem okS.frame {vs : List Value} {f : CF} {fs : List CF} {F : MH} (h : okS Γ sets ro vs S f fs F) : ∃ lv cst, f = (S.1.1, S.1.2.1, lv, cst) ∧ (∀ q ∈ S.1.2.2.1, okA Γ sets vs q.2 ∧ ∃ v, vs[q.2.1]? = some v ∧ m_get lv q.1 = some v) ∧ cst.map some = S.1.2.2.2.map (fun a => vs[a.1]?) ∧ ∀ a ∈ S.1.2.2.2, okA Γ sets vs a := by
  obtain ⟨h1, h2, -⟩ := h
  obtain ⟨mi, pc, lv, cst⟩ := f
  obtain ⟨e1, e2, e3, e4⟩ := h2
  simp only at e1 e2 e3 e4
  subst e1
  subst e2
  exact ⟨lv, cst, rfl, fun q hq => ⟨h1 _ (mem_loc hq), e3 q hq⟩, e4, fun a ha => h1 a (mem_top ha)⟩
theorem stk1 {vs : List Value} {cst : List Value} {a : AV} {r : List AV} (h : cst.map some = (a :: r).map (fun a => vs[a.1]?)) : ∃ v t, cst = v :: t ∧ vs[a.1]? = some v ∧ t.map some = r.map (fun a => vs[a.1]?) := by
  cases cst with
  | nil => simp at h
  | cons v t =>
    simp only [List.map_cons, List.cons.injEq] at h
    exact ⟨v, t, rfl, h.1.symm, h.2⟩
theorem g_const {E : MI × Option FieldType} {v : Value} {a : AV} (hE : m_at MT S.1.1 S.1.2.1 = some E) (hc : c_val E.1 = some v) (ha : c_av Γ S.2.2.2.2.2 v = some a) (h : Good Γ sets roles ms MT ro fty dfl vs0 F0 Q d (s_top (s_up S) (E.1.1 + E.1.2.2.1) S.1.2.2.1 (a :: S.1.2.2.2))) : Good Γ sets roles ms MT ro fty dfl vs0 F0 Q d S := by
  intro vs f fs F hp hS hW hF
  obtain ⟨lv, cst, rfl, hl, hc1, hc2⟩ := hS.frame
  obtain ⟨-, -, -, hpc, -⟩ := m_at_spec hE
  refine TT.one hE (c_val_spec hc fty dfl F lv cst) ?_
  obtain ⟨o1, o2⟩ := c_av_ok (sets := sets) (vs := vs) ha hS.2.2.2.2.2.2
  have hS1 := hS.up v
  refine h (vs ++ [v]) (S.1.1, E.1.1 + E.1.2.2.1, lv, v :: cst) fs F (pre_app hp v) ?_ hW hF
  refine hS1.top (fun q hq => ?_) (fun b hb => ?_) ?_
  · obtain ⟨q1, w, q2, q3⟩ := hl q hq
    exact ⟨q1.app _, w, get_app q2, q3⟩
  · rcases List.mem_cons.mp hb with rfl | hb
    · exact o1
    · exact (hc2 b hb).app _
  · simp only [List.map_cons, List.cons.injEq]
    refine ⟨?_, ?_⟩
    · rw [o2, hS.2.2.2.2.2.2]; simp
    · rw [hc1]
      apply List.map_congr_left
      intro b hb
      obtain ⟨w, hw⟩ := (hc2 b hb).get
      rw [hw, get_app hw]
theorem g_load {E : MI × Option FieldType} {i c : Nat} {a : AV} (hE : m_at MT S.1.1 S.1.2.1 = some E) (hi : l_ix E.1.2.1 = some (i, c)) (ha : x_get S.1.2.2.1 i = some a) (hk : k_is a.2.1 c = true) (h : Good Γ sets roles ms MT ro fty dfl vs0 F0 Q d (s_top S (E.1.1 + E.1.2.2.1) S.1.2.2.1 (a :: S.1.2.2.2))) : Good Γ sets roles ms MT ro fty dfl vs0 F0 Q d S := by
  intro vs f fs F hp hS hW hF
  obtain ⟨lv, cst, rfl, hl, hc1, hc2⟩ := hS.frame
  obtain ⟨oa, v, hv, hg⟩ := hl _ (x_get_mem ha)
  simp only at oa hv hg
  have ho := oa
  obtain ⟨v', p1, p2, -⟩ := oa
  obtain rfl : v' = v := Option.some.inj (p1.symm.trans hv)
  refine TT.one hE (load_spec hi hg ⟨fun e => ?_, fun e => ?_, fun e => ?_⟩ fty dfl F cst) ?_
  · subst e; exact (k_is_int p2 hk).1
  · subst e; exact (k_is_long p2 hk).1
  · subst e; obtain ⟨⟨x, e1, -⟩, -⟩ := k_is_ref p2 hk; exact ⟨x, e1⟩
  · refine h vs (S.1.1, E.1.1 + E.1.2.2.1, lv, v' :: cst) fs F hp (hS.top hl (fun b hb => ?_) ?_) hW hF
    · rcases List.mem_cons.mp hb with rfl | hb
      · exact ho
      · exact hc2 b hb
    · simp only [List.map_cons, List.cons.injEq]
      exact ⟨hv.symm, hc1⟩
/-- a result that is put on the stack in the place of others -/
theorem g_res {E : MI × Option FieldType} {r : List AV} {k : Nat} {lo hi : Int} {rl : List (Nat × Int × Int)} (hE : m_at MT S.1.1 S.1.2.1 = some E)
    (hst : ∀ vs lv cst F, okA Γ sets vs = okA Γ sets vs → (∀ a ∈ S.1.2.2.2, okA Γ sets vs a) → cst.map some = S.1.2.2.2.map (fun a => vs[a.1]?) → ∃ v t, m_one ro fty dfl E.1 F lv cst = some (F, E.1.1 + E.1.2.2.1, lv, v :: t) ∧ t.map some = r.map (fun a => vs[a.1]?) ∧ okE Γ sets k lo hi v ∧ ∀ q ∈ rl, ∃ w, vs[q.1]? = some w ∧ q.2.1 ≤ vz v - vz w ∧ vz v - vz w ≤ q.2.2)
    (hr : ∀ a ∈ r, a ∈ S.1.2.2.2) (h : Good Γ sets roles ms MT ro fty dfl vs0 F0 Q d (s_top (s_up S) (E.1.1 + E.1.2.2.1) S.1.2.2.1 ((S.2.2.2.2.2, k, lo, hi, rl) :: r))) : Good Γ sets roles ms MT ro fty dfl vs0 F0 Q d S := by
  intro vs f fs F hp hS hW hF
  obtain ⟨lv, cst, rfl, hl, hc1, hc2⟩ := hS.frame
  obtain ⟨v, t, h1, h2, h3, h4⟩ := hst vs lv cst F rfl hc2 hc1
  refine TT.one hE h1 ?_
  have hn := hS.2.2.2.2.2.2
  refine h (vs ++ [v]) (S.1.1, E.1.1 + E.1.2.2.1, lv, v :: t) fs F (pre_app hp v) ((hS.up v).top (fun q hq => ?_) (fun b hb => ?_) ?_) hW hF
  · obtain ⟨q1, w, q2, q3⟩ := hl q hq
    exact ⟨q1.app _, w, get_app q2, q3⟩
  · rcases List.mem_cons.mp hb with rfl | hb
    · exact ⟨v, by rw [hn]; simp, h3, fun q hq => by obtain ⟨w, e1, e2⟩ := h4 q hq; exact ⟨w, get_app e1, e2⟩⟩
    · exact (hc2 b (hr b hb)).app _
  · simp only [List.map_cons, List.cons.injEq]
    refine ⟨by rw [hn]; simp, ?_⟩
    rw [h2]
    apply List.map_congr_left
    intro b hb
    obtain ⟨w, hw⟩ := (hc2 b (hr b hb)).get
    rw [hw, get_app hw]
end SxF
end
section
/-! SYMBOLIC RUNS, VII: arithmetic steps -/
noncomputable def s_sum (su : List (Nat × Nat × Nat)) (S : SS) : SS := (S.1, S.2.1, S.2.2.1, S.2.2.2.1, su ++ S.2.2.2.2.1, S.2.2.2.2.2)
/-- how a sum differs from another sum that is told -/
noncomputable def x_sr (S : SS) (x y : AV) : List (Nat × Nat × Nat) → List (Nat × Int × Int)
  | [] => []
  | q :: t => if q.1 = x.1 then (match (s_av S).find? (fun b => b.1 == q.2.1 && !(b.2.1 == 2)) with
      | some b => (q.2.2, (a_diff y b).1, (a_diff y b).2) :: x_sr S x y t
      | none => x_sr S x y t) else x_sr S x y t
/-- bounds by what is told of others -/
noncomputable def x_sc (S : SS) : List (Nat × Int × Int) → Int × Int → Int × Int
  | [], p => p
  | q :: t, p => match (s_av S).find? (fun b => b.1 == q.1 && !(b.2.1 == 2)) with
      | some b => x_sc S t (max p.1 (b.2.2.1 + q.2.1), min p.2 (b.2.2.2.1 + q.2.2))
      | none => x_sc S t p
/-- what sums that are told say of a new one -/
noncomputable def x_pr (S : SS) (i : Instr) (x y : AV) : List (Nat × Int × Int) := match i with | .iadd => if -2147483648 ≤ x.2.2.1 + y.2.2.1 ∧ x.2.2.2.1 + y.2.2.2.1 ≤ 2147483647 then x_sr S x y S.2.2.2.2.1 else [] | _ => []
/-- two ints: what comes of them -/
noncomputable def x_bin (S : SS) (i : Instr) (x y : AV) : AV × List (Nat × Nat × Nat) :=
  match m_b32 i with
  | some f => if isC x && isC y then ((S.2.2.2.2.2, 0, (f (Int32.ofInt x.2.2.1) (Int32.ofInt y.2.2.1)).toInt, (f (Int32.ofInt x.2.2.1) (Int32.ofInt y.2.2.1)).toInt, []), [])
    else ((S.2.2.2.2.2, 0, (x_sc S (x_pr S i x y) (b_iv i x y).1).1, (x_sc S (x_pr S i x y) (b_iv i x y).1).2, x_pr S i x y ++ (b_iv i x y).2),
      (match i with | .isub => if -2147483648 ≤ x.2.2.1 - y.2.2.2.1 ∧ x.2.2.2.1 - y.2.2.1 ≤ 2147483647 then [(y.1, S.2.2.2.2.2, x.1)] else [] | _ => []))
  | none => match m_d32 i with
    | some f => if isC x && isC y then ((S.2.2.2.2.2, 0, (f (Int32.ofInt x.2.2.1) (Int32.ofInt y.2.2.1)).toInt, (f (Int32.ofInt x.2.2.1) (Int32.ofInt y.2.2.1)).toInt, []), []) else ((S.2.2.2.2.2, 0, (b_iv i x y).1.1, (b_iv i x y).1.2, (b_iv i x y).2), [])
    | none => ((0, 0, 0, 0, []), [])
section SxG
variable {Γ : Nat → Option Nat} {sets : List (List Int)} {roles : List RD} {ms : Mods} {MT : List MM} {ro : Nat → Option MC} {fty : Nat → Nat → FieldType} {dfl : Nat → List Value} {vs0 : List Value} {F0 : MH} {Q : Option Value → MH → Prop} {d : Nat} {S : SS}
theorem okS.sum {vs : List Value} {f : CF} {fs : List CF} {F : MH} (h : okS Γ sets ro vs S f fs F) {su : List (Nat × Nat × Nat)} (hs : ∀ q ∈ su, okSu vs q) : okS Γ sets ro vs (s_sum su S) f fs F := by
  obtain ⟨h1, h2, h3, h4, h5, h6, h7⟩ := h
  exact ⟨h1, h2, h3, h4, h5, fun q hq => (List.mem_append.mp hq).elim (hs q) (h6 q), h7⟩
theorem x_sr_ok {vs : List Value} {x y : AV} {a b : Int32} (hall : ∀ c ∈ s_av S, okA Γ sets vs c) (hy : okA Γ sets vs y) (ny : ¬ y.2.1 = 2) (hv : vs[x.1]? = some (.int a)) (hw : vs[y.1]? = some (.int b)) (hr : -2147483648 ≤ a.toInt + b.toInt ∧ a.toInt + b.toInt ≤ 2147483647) : ∀ (su : List (Nat × Nat × Nat)), (∀ q ∈ su, okSu vs q) → ∀ r ∈ x_sr S x y su, ∃ w, vs[r.1]? = some w ∧ r.2.1 ≤ (a + b).toInt - vz w ∧ (a + b).toInt - vz w ≤ r.2.2
  | [], _, r, hr => by cases hr
  | q :: t, hsu, r, hr1 => by
    have ih := x_sr_ok hall hy ny hv hw hr t (fun q hq => hsu q (List.mem_cons_of_mem _ hq))
    rw [x_sr] at hr1
    split at hr1
    · rename_i he
      split at hr1
      · rename_i c hc
        rcases List.mem_cons.mp hr1 with rfl | hr1
        · obtain ⟨u, v, w, g1, g2, g3, g4⟩ := hsu q List.mem_cons_self
          have hcm := List.mem_of_find?_eq_some hc
          have hcp := List.find?_some hc
          simp only [Bool.and_eq_true, beq_iff_eq, Bool.not_eq_true', beq_eq_false_iff_ne, ne_eq] at hcp
          rw [he, hv] at g1
          cases g1
          have hd := a_diff_ok hy (hall c hcm) ny hcp.2 hw (by rw [hcp.1]; exact g2)
          have e := z_add hr.1 hr.2
          simp only [i_in, vz] at hd
          simp only [vz] at g4
          exact ⟨w, g3, by simp only [vz]; omega, by simp only [vz]; omega⟩
        · exact ih r hr1
      · exact ih r hr1
    · exact ih r hr1
theorem x_sc_ok {vs : List Value} {z : Value} (hall : ∀ c ∈ s_av S, okA Γ sets vs c) : ∀ (rl : List (Nat × Int × Int)) (p : Int × Int), (∀ r ∈ rl, ∃ w, vs[r.1]? = some w ∧ r.2.1 ≤ vz z - vz w ∧ vz z - vz w ≤ r.2.2) → p.1 ≤ vz z ∧ vz z ≤ p.2 → (x_sc S rl p).1 ≤ vz z ∧ vz z ≤ (x_sc S rl p).2
  | [], p, _, hp => hp
  | q :: t, p, hr, hp => by
    rw [x_sc]
    split
    · rename_i b hb
      refine x_sc_ok hall t _ (fun r h => hr r (List.mem_cons_of_mem _ h)) ?_
      obtain ⟨w, g1, g2, g3⟩ := hr q List.mem_cons_self
      have hbm := List.mem_of_find?_eq_some hb
      have hbp := List.find?_some hb
      simp only [Bool.and_eq_true, beq_iff_eq, Bool.not_eq_true', beq_eq_false_iff_ne, ne_eq] at hbp
      obtain ⟨w', p1, p2, -⟩ := hall b hbm
      have n := p2.num hbp.2
      rw [hbp.1, g1] at p1
      cases p1
      constructor
      · simp only; omega
      · simp only; omega
    · exact x_sc_ok hall t _ (fun r h => hr r (List.mem_cons_of_mem _ h)) hp
theorem alu_b32 {i : Instr} {f : Int32 → Int32 → Int32} (h : m_b32 i = some f) (x y : Int32) (t : List Value) : m_alu i (.int y :: .int x :: t) = some (.int (f x y) :: t) := by
  unfold m_alu; rw [h]
theorem alu_d32 {i : Instr} {f : Int32 → Int32 → Int32} (h : m_d32 i = some f) (x y : Int32) (hy : ¬ y = 0) (t : List Value) : m_alu i (.int y :: .int x :: t) = some (.int (f x y) :: t) := by
  have h2 : m_b32 i = none := by cases i <;> first | rfl | (simp only [m_d32, reduceCtorEq] at h)
  unfold m_alu; rw [h2]; simp only; rw [h]; simp only; rw [if_neg hy]
theorem one_alu {E : MI} (h : (m_b32 E.2.1).isSome = true ∨ (m_d32 E.2.1).isSome = true ∨ (m_b64 E.2.1).isSome = true ∨ (m_d64 E.2.1).isSome = true ∨ (m_u32 E.2.1).isSome = true ∨ E.2.1 = .lcmp ∨ E.2.1 = .dup ∨ E.2.1 = .pop ∨ E.2.1 = .pop2 ∨ E.2.1 = .dup_x1 ∨ E.2.1 = .dup_x2 ∨ E.2.1 = .dup2) {st st1 : List Value} (ha : m_alu E.2.1 st = some st1) (F : MH) (lv : LVs) : m_one ro fty dfl E F lv st = some (F, E.1 + E.2.2.1, lv, st1) := by
  obtain ⟨pc, i, len, a0, b0, z0⟩ := E
  simp only at h ha
  unfold m_one
  have h1 : m_push (pc, i, len, a0, b0, z0) lv = none := by
    cases i <;> first | rfl | (simp [m_b32, m_d32, m_b64, m_d64, m_u32] at h)
  have h2 : m_cst (pc, i, len, a0, b0, z0) = none := by
    cases i <;> first | rfl | (simp [m_b32, m_d32, m_b64, m_d64, m_u32] at h)
  have h3 : m_store (pc, i, len, a0, b0, z0) lv st = none := by
    cases i <;> first | rfl | (simp [m_b32, m_d32, m_b64, m_d64, m_u32] at h)
  rw [h1, h2, h3]
  simp only
  rw [ha]
/-- a result, and sums -/
theorem g_resS {E : MI × Option FieldType} {r : List AV} {k : Nat} {lo hi : Int} {rl : List (Nat × Int × Int)} {su : List (Nat × Nat × Nat)} (hE : m_at MT S.1.1 S.1.2.1 = some E)
    (hst : ∀ vs lv cst F, (∀ a ∈ s_av S, okA Γ sets vs a) → (∀ q ∈ S.2.2.2.2.1, okSu vs q) → S.2.2.2.2.2 = vs.length → cst.map some = S.1.2.2.2.map (fun a => vs[a.1]?) → ∃ v t, m_one ro fty dfl E.1 F lv cst = some (F, E.1.1 + E.1.2.2.1, lv, v :: t) ∧ t.map some = r.map (fun a => vs[a.1]?) ∧ okE Γ sets k lo hi v ∧ (∀ q ∈ rl, ∃ w, vs[q.1]? = some w ∧ q.2.1 ≤ vz v - vz w ∧ vz v - vz w ≤ q.2.2) ∧ ∀ q ∈ su, okSu (vs ++ [v]) q)
    (hr : ∀ a ∈ r, a ∈ S.1.2.2.2) (h : Good Γ sets roles ms MT ro fty dfl vs0 F0 Q d (s_top (s_sum su (s_up S)) (E.1.1 + E.1.2.2.1) S.1.2.2.1 ((S.2.2.2.2.2, k, lo, hi, rl) :: r))) : Good Γ sets roles ms MT ro fty dfl vs0 F0 Q d S := by
  intro vs f fs F hp hS hW hF
  obtain ⟨lv, cst, rfl, hl, hc1, hc2⟩ := hS.frame
  have hn := hS.2.2.2.2.2.2
  obtain ⟨v, t, h1, h2, h3, h4, h5⟩ := hst vs lv cst F hS.1 hS.2.2.2.2.2.1 hn hc1
  refine TT.one hE h1 ?_
  refine h (vs ++ [v]) (S.1.1, E.1.1 + E.1.2.2.1, lv, v :: t) fs F (pre_app hp v) (((hS.up v).sum h5).top (fun q hq => ?_) (fun b hb => ?_) ?_) hW hF
  · obtain ⟨q1, w, q2, q3⟩ := hl q hq
    exact ⟨q1.app _, w, get_app q2, q3⟩
  · rcases List.mem_cons.mp hb with rfl | hb
    · exact ⟨v, by rw [hn]; simp, h3, fun q hq => by obtain ⟨w, e1, e2⟩ := h4 q hq; exact ⟨w, get_app e1, e2⟩⟩
    · exact (hc2 b (hr b hb)).app _
  · simp only [List.map_cons, List.cons.injEq]
    refine ⟨by rw [hn]; simp, ?_⟩
    rw [h2]
    apply List.map_congr_left
    intro b hb
    obtain ⟨w, hw⟩ := (hc2 b (hr b hb)).get
    rw [hw, get_app hw]
theorem okE_int {lo hi : Int} {x : Int32} (h1 : lo ≤ x.toInt) (h2 : x.toInt ≤ hi) : okE Γ sets 0 lo hi (.int x) := by
  unfold okE; simp only [if_true]; exact ⟨⟨_, rfl⟩, h1, h2⟩
theorem g_bin {E : MI × Option FieldType} {x y : AV} {r : List AV} (hE : m_at MT S.1.1 S.1.2.1 = some E) (hst : S.1.2.2.2 = y :: x :: r) (kx : k_is x.2.1 0 = true) (ky : k_is y.2.1 0 = true) (hi : (m_b32 E.1.2.1).isSome = true ∨ ((m_d32 E.1.2.1).isSome = true ∧ (0 < y.2.2.1 ∨ y.2.2.2.1 < 0)))
    (h : Good Γ sets roles ms MT ro fty dfl vs0 F0 Q d (s_top (s_sum (x_bin S E.1.2.1 x y).2 (s_up S)) (E.1.1 + E.1.2.2.1) S.1.2.2.1 ((x_bin S E.1.2.1 x y).1 :: r))) : Good Γ sets roles ms MT ro fty dfl vs0 F0 Q d S := by
  have key : ∃ (lo hi : Int) (rl : List (Nat × Int × Int)) (su : List (Nat × Nat × Nat)), x_bin S E.1.2.1 x y = ((S.2.2.2.2.2, 0, lo, hi, rl), su) ∧ ∀ vs lv cst F, (∀ a ∈ s_av S, okA Γ sets vs a) → (∀ q ∈ S.2.2.2.2.1, okSu vs q) → S.2.2.2.2.2 = vs.length → cst.map some = S.1.2.2.2.map (fun a => vs[a.1]?) → ∃ v t, m_one ro fty dfl E.1 F lv cst = some (F, E.1.1 + E.1.2.2.1, lv, v :: t) ∧ t.map some = r.map (fun a => vs[a.1]?) ∧ okE Γ sets 0 lo hi v ∧ (∀ q ∈ rl, ∃ w, vs[q.1]? = some w ∧ q.2.1 ≤ vz v - vz w ∧ vz v - vz w ≤ q.2.2) ∧ ∀ q ∈ su, okSu (vs ++ [v]) q := by
    have val : ∀ vs cst, (∀ a ∈ s_av S, okA Γ sets vs a) → cst.map some = S.1.2.2.2.map (fun a => vs[a.1]?) → ∃ a b t, cst = .int b :: .int a :: t ∧ vs[x.1]? = some (.int a) ∧ vs[y.1]? = some (.int b) ∧ t.map some = r.map (fun a => vs[a.1]?) ∧ okA Γ sets vs x ∧ okA Γ sets vs y := by
      intro vs cst hall hc
      rw [hst] at hc
      obtain ⟨w, t1, rfl, q2, q3⟩ := stk1 hc
      obtain ⟨v, t2, rfl, q5, q6⟩ := stk1 q3
      have ox : okA Γ sets vs x := hall x (mem_top (by rw [hst]; simp))
      have oy : okA Γ sets vs y := hall y (mem_top (by rw [hst]; simp))
      obtain ⟨v', p1, p2, -⟩ := id ox
      obtain ⟨w', p3, p4, -⟩ := id oy
      obtain rfl : v' = v := Option.some.inj (p1.symm.trans q5)
      obtain rfl : w' = w := Option.some.inj (p3.symm.trans q2)
      obtain ⟨a, rfl⟩ := (k_is_int p2 kx).1
      obtain ⟨b, rfl⟩ := (k_is_int p4 ky).1
      exact ⟨a, b, t2, rfl, q5, q2, q6, ox, oy⟩
    have cst_exact : ∀ (f : Int32 → Int32 → Int32), (isC x && isC y) = true → ∀ vs a b, okA Γ sets vs x → okA Γ sets vs y → vs[x.1]? = some (.int a) → vs[y.1]? = some (.int b) → f a b = f (Int32.ofInt x.2.2.1) (Int32.ofInt y.2.2.1) := by
      intro f hc vs a b ox oy q1 q2
      simp only [Bool.and_eq_true] at hc
      obtain ⟨v', p1, p2, -⟩ := ox
      obtain ⟨w', p3, p4, -⟩ := oy
      have e1 := isC_spec hc.1 p2
      have e2 := isC_spec hc.2 p4
      rw [p1] at q1; rw [p3] at q2
      cases q1; cases q2
      cases e1; cases e2
      rfl
    rcases hi with hi | ⟨hi, hz⟩
    · obtain ⟨f, hf⟩ := Option.isSome_iff_exists.mp hi
      unfold x_bin
      rw [hf]
      simp only
      by_cases hc : (isC x && isC y) = true
      · rw [if_pos hc]
        refine ⟨_, _, _, _, rfl, fun vs lv cst F hall hsu hn hcs => ?_⟩
        obtain ⟨a, b, t, rfl, q1, q2, q3, ox, oy⟩ := val vs cst hall hcs
        refine ⟨.int (f a b), t, one_alu (Or.inl hi) (alu_b32 hf a b t) F lv, q3, ?_, (fun q hq => by cases hq), (fun q hq => by cases hq)⟩
        rw [cst_exact f hc vs a b ox oy q1 q2]
        exact okE_int (Int.le_refl _) (Int.le_refl _)
      · rw [if_neg hc]
        refine ⟨_, _, _, _, rfl, fun vs lv cst F hall hsu hn hcs => ?_⟩
        obtain ⟨a, b, t, rfl, q1, q2, q3, ox, oy⟩ := val vs cst hall hcs
        have hb := b_iv_ok (Or.inl hf) ox oy kx ky q1 q2
        obtain ⟨v', p1, p2, -⟩ := id ox
        obtain ⟨w', p3, p4, -⟩ := id oy
        have nx := (k_is_int p2 kx).2
        have ny := (k_is_int p4 ky).2
        have n1 := p2.num nx
        have n2 := p4.num ny
        rw [q1] at p1; rw [q2] at p3
        cases p1; cases p3
        simp only [vz] at n1 n2
        have hpr : ∀ q ∈ x_pr S E.1.2.1 x y, ∃ w, vs[q.1]? = some w ∧ q.2.1 ≤ vz (.int (f a b)) - vz w ∧ vz (.int (f a b)) - vz w ≤ q.2.2 := by
          intro q hq
          unfold x_pr at hq
          split at hq
          · rename_i hEq
            split at hq
            · rw [hEq] at hf
              cases hf
              exact x_sr_ok hall oy ny q1 q2 (by omega) _ hsu q hq
            · cases hq
          · cases hq
        have hsc := x_sc_ok (z := .int (f a b)) hall (x_pr S E.1.2.1 x y) (b_iv E.1.2.1 x y).1 hpr ⟨hb.1, hb.2.1⟩
        refine ⟨.int (f a b), t, one_alu (Or.inl hi) (alu_b32 hf a b t) F lv, q3, okE_int hsc.1 hsc.2, fun q hq => ?_, fun q hq => ?_⟩
        · rcases List.mem_append.mp hq with hq | hq
          · exact hpr q hq
          · exact hb.2.2 q hq
        · split at hq
          · rename_i hEq
            split at hq
            · rw [hEq] at hf
              cases hf
              rcases List.mem_cons.mp hq with rfl | hq
              · have e := z_sub (x := a) (y := b) (by omega) (by omega)
                exact ⟨.int b, .int (a - b), .int a, get_app q2, (by rw [hn]; simp), get_app q1, (by simp only [vz]; omega)⟩
              · cases hq
            · cases hq
          · cases hq
    · obtain ⟨f, hf⟩ := Option.isSome_iff_exists.mp hi
      have hf2 : m_b32 E.1.2.1 = none := by
        cases hEq : E.1.2.1 <;> rw [hEq] at hf <;> first | rfl | (simp only [m_d32, reduceCtorEq] at hf)
      unfold x_bin
      rw [hf2]
      simp only
      rw [hf]
      simp only
      have nz : ∀ vs b, okA Γ sets vs y → vs[y.1]? = some (.int b) → ¬ b = 0 := by
        intro vs b oy q2 e
        subst e
        obtain ⟨w', p3, p4, -⟩ := oy
        have n2 := p4.num (k_is_int p4 ky).2
        rw [q2] at p3; cases p3
        simp only [vz, Int32.toInt_zero] at n2
        omega
      by_cases hc : (isC x && isC y) = true
      · rw [if_pos hc]
        refine ⟨_, _, _, _, rfl, fun vs lv cst F hall hsu hn hcs => ?_⟩
        obtain ⟨a, b, t, rfl, q1, q2, q3, ox, oy⟩ := val vs cst hall hcs
        refine ⟨.int (f a b), t, one_alu (Or.inr (Or.inl hi)) (alu_d32 hf a b (nz vs b oy q2) t) F lv, q3, ?_, (fun q hq => by cases hq), (fun q hq => by cases hq)⟩
        rw [cst_exact f hc vs a b ox oy q1 q2]
        exact okE_int (Int.le_refl _) (Int.le_refl _)
      · rw [if_neg hc]
        refine ⟨_, _, _, _, rfl, fun vs lv cst F hall hsu hn hcs => ?_⟩
        obtain ⟨a, b, t, rfl, q1, q2, q3, ox, oy⟩ := val vs cst hall hcs
        have hb := b_iv_ok (Or.inr hf) ox oy kx ky q1 q2
        exact ⟨.int (f a b), t, one_alu (Or.inr (Or.inl hi)) (alu_d32 hf a b (nz vs b oy q2) t) F lv, q3, okE_int hb.1 hb.2.1, (fun q hq => hb.2.2 q hq), (fun q hq => by cases hq)⟩
  obtain ⟨lo, hi2, rl, su, e1, e2⟩ := key
  rw [e1] at h
  exact g_resS hE e2 (fun a ha => by rw [hst]; simp [ha]) h
end SxG
end
section
/-! SYMBOLIC RUNS, VIII: one operand, longs, the stack's own instructions, locals -/
section SxH
variable {Γ : Nat → Option Nat} {sets : List (List Int)} {roles : List RD} {ms : Mods} {MT : List MM} {ro : Nat → Option MC} {fty : Nat → Nat → FieldType} {dfl : Nat → List Value} {vs0 : List Value} {F0 : MH} {Q : Option Value → MH → Prop} {d : Nat} {S : SS}
theorem z_i2b (x : Int32) : -128 ≤ x.toInt8.toInt32.toInt ∧ x.toInt8.toInt32.toInt ≤ 127 ∧ (-128 ≤ x.toInt → x.toInt ≤ 127 → x.toInt8.toInt32.toInt = x.toInt) := by
  have e1 : x.toInt8.toInt32.toInt = x.toInt8.toInt := Int8.toInt_toInt32 _
  have e2 : x.toInt8.toInt = x.toInt.bmod (2 ^ 8) := Int32.toInt_toInt8 x
  rw [e1, e2]
  unfold Int.bmod
  simp only
  refine ⟨?_, ?_, fun _ _ => ?_⟩ <;> split <;> omega
theorem z_i2s (x : Int32) : -32768 ≤ x.toInt16.toInt32.toInt ∧ x.toInt16.toInt32.toInt ≤ 32767 ∧ (-32768 ≤ x.toInt → x.toInt ≤ 32767 → x.toInt16.toInt32.toInt = x.toInt) := by
  have e1 : x.toInt16.toInt32.toInt = x.toInt16.toInt := Int16.toInt_toInt32 _
  have e2 : x.toInt16.toInt = x.toInt.bmod (2 ^ 16) := Int32.toInt_toInt16 x
  rw [e1, e2]
  unfold Int.bmod
  simp only
  refine ⟨?_, ?_, fun _ _ => ?_⟩ <;> split <;> omega
theorem z_i2c (x : Int32) : 0 ≤ ((x.toUInt32 % 65536).toInt32).toInt ∧ ((x.toUInt32 % 65536).toInt32).toInt ≤ 65535 ∧ (0 ≤ x.toInt → x.toInt ≤ 65535 → ((x.toUInt32 % 65536).toInt32).toInt = x.toInt) := by
  rw [pk_char, nI_toInt (Nat.lt_of_lt_of_le (Nat.mod_lt _ (by decide)) (by decide))]
  refine ⟨by omega, by omega, fun h1 h2 => ?_⟩
  obtain ⟨j, g1, g2, g3⟩ := z_nI h1
  rw [g2, pk_tn (by omega), nI_toInt g1]
  omega
/-- one int: what comes of it -/
noncomputable def x_un (i : Instr) (x : AV) (n : Nat) : Option AV := match i with
  | .i2l => some (n, 1, x.2.2.1, x.2.2.2.1, (x.1, 0, 0) :: x.2.2.2.2)
  | .i2b => if -128 ≤ x.2.2.1 ∧ x.2.2.2.1 ≤ 127 then some (n, 0, x.2.2.1, x.2.2.2.1, [(x.1, 0, 0)]) else some (n, 0, -128, 127, [])
  | .i2s => if -32768 ≤ x.2.2.1 ∧ x.2.2.2.1 ≤ 32767 then some (n, 0, x.2.2.1, x.2.2.2.1, [(x.1, 0, 0)]) else some (n, 0, -32768, 32767, [])
  | .i2c => if 0 ≤ x.2.2.1 ∧ x.2.2.2.1 ≤ 65535 then some (n, 0, x.2.2.1, x.2.2.2.1, [(x.1, 0, 0)]) else some (n, 0, 0, 65535, [])
  | _ => none
theorem alu_u32 {i : Instr} {f : Int32 → Value} (h : m_u32 i = some f) (x : Int32) (t : List Value) : m_alu i (.int x :: t) = some (f x :: t) := by
  have h1 : m_b32 i = none := by cases i <;> first | rfl | (simp only [m_u32, reduceCtorEq] at h)
  have h2 : m_d32 i = none := by cases i <;> first | rfl | (simp only [m_u32, reduceCtorEq] at h)
  have h3 : m_b64 i = none := by cases i <;> first | rfl | (simp only [m_u32, reduceCtorEq] at h)
  have h4 : m_d64 i = none := by cases i <;> first | rfl | (simp only [m_u32, reduceCtorEq] at h)
  unfold m_alu; rw [h1]; simp only; rw [h2]; simp only; rw [h3]; simp only; rw [h4]; simp only; rw [h]
theorem g_un {E : MI × Option FieldType} {x a : AV} {r : List AV} (hE : m_at MT S.1.1 S.1.2.1 = some E) (hst : S.1.2.2.2 = x :: r) (kx : k_is x.2.1 0 = true) (ha : x_un E.1.2.1 x S.2.2.2.2.2 = some a)
    (h : Good Γ sets roles ms MT ro fty dfl vs0 F0 Q d (s_top (s_sum [] (s_up S)) (E.1.1 + E.1.2.2.1) S.1.2.2.1 (a :: r))) : Good Γ sets roles ms MT ro fty dfl vs0 F0 Q d S := by
  have key : ∃ (k : Nat) (lo hi : Int) (rl : List (Nat × Int × Int)), a = (S.2.2.2.2.2, k, lo, hi, rl) ∧ ∀ vs lv cst F, (∀ a ∈ s_av S, okA Γ sets vs a) → (∀ q ∈ S.2.2.2.2.1, okSu vs q) → S.2.2.2.2.2 = vs.length → cst.map some = S.1.2.2.2.map (fun a => vs[a.1]?) → ∃ v t, m_one ro fty dfl E.1 F lv cst = some (F, E.1.1 + E.1.2.2.1, lv, v :: t) ∧ t.map some = r.map (fun a => vs[a.1]?) ∧ okE Γ sets k lo hi v ∧ (∀ q ∈ rl, ∃ w, vs[q.1]? = some w ∧ q.2.1 ≤ vz v - vz w ∧ vz v - vz w ≤ q.2.2) ∧ ∀ q ∈ ([] : List (Nat × Nat × Nat)), okSu (vs ++ [v]) q := by
    have val : ∀ vs cst, (∀ a ∈ s_av S, okA Γ sets vs a) → cst.map some = S.1.2.2.2.map (fun a => vs[a.1]?) → ∃ a t, cst = .int a :: t ∧ vs[x.1]? = some (.int a) ∧ t.map some = r.map (fun a => vs[a.1]?) ∧ x.2.2.1 ≤ a.toInt ∧ a.toInt ≤ x.2.2.2.1 ∧ ∀ q ∈ x.2.2.2.2, ∃ w, vs[q.1]? = some w ∧ q.2.1 ≤ a.toInt - vz w ∧ a.toInt - vz w ≤ q.2.2 := by
      intro vs cst hall hc
      rw [hst] at hc
      obtain ⟨v, t2, rfl, q5, q6⟩ := stk1 hc
      have ox : okA Γ sets vs x := hall x (mem_top (by rw [hst]; simp))
      obtain ⟨v', p1, p2, p3⟩ := ox
      obtain rfl : v' = v := Option.some.inj (p1.symm.trans q5)
      have n1 := p2.num (k_is_int p2 kx).2
      obtain ⟨a, rfl⟩ := (k_is_int p2 kx).1
      exact ⟨a, t2, rfl, q5, q6, n1.1, n1.2, p3⟩
    have same : ∀ (vs : List Value) (z a : Int32), vs[x.1]? = some (.int a) → z.toInt = a.toInt → ∀ q ∈ [(x.1, (0 : Int), (0 : Int))], ∃ w, vs[q.1]? = some w ∧ q.2.1 ≤ vz (.int z) - vz w ∧ vz (.int z) - vz w ≤ q.2.2 := by
      intro vs z a h1 h2 q hq
      rcases List.mem_cons.mp hq with rfl | hq
      · exact ⟨_, h1, by simp only [vz]; omega, by simp only [vz]; omega⟩
      · cases hq
    have nil : ∀ (v : Value) (vs : List Value), ∀ q ∈ ([] : List (Nat × Int × Int)), ∃ w, vs[q.1]? = some w ∧ q.2.1 ≤ vz v - vz w ∧ vz v - vz w ≤ q.2.2 := fun v vs q hq => by cases hq
    have nil2 : ∀ (vs : List Value), ∀ q ∈ ([] : List (Nat × Nat × Nat)), okSu vs q := fun vs q hq => by cases hq
    cases hi : E.1.2.1 <;> rw [hi] at ha <;> simp only [x_un, reduceCtorEq] at ha
    case i2l =>
      cases ha
      refine ⟨_, _, _, _, rfl, fun vs lv cst F hall hsu hn hcs => ?_⟩
      obtain ⟨a, t, rfl, q1, q2, q3, q4, q5⟩ := val vs cst hall hcs
      have e : a.toInt64.toInt = a.toInt := Int32.toInt_toInt64 a
      refine ⟨.long a.toInt64, t, one_alu (Or.inr (Or.inr (Or.inr (Or.inr (Or.inl (by rw [hi]; rfl)))))) (by rw [hi]; rfl) F lv, q2, ?_, fun q hq => ?_, nil2 _⟩
      · unfold okE; simp; exact ⟨⟨_, rfl⟩, by simp only [vz]; omega, by simp only [vz]; omega⟩
      · rcases List.mem_cons.mp hq with rfl | hq
        · exact ⟨_, q1, by simp only [vz]; omega, by simp only [vz]; omega⟩
        · obtain ⟨w, e1, e2, e3⟩ := q5 q hq
          exact ⟨w, e1, by simp only [vz] at e2 e3 ⊢; omega, by simp only [vz] at e2 e3 ⊢; omega⟩
    case i2b =>
      split at ha
      · rename_i hr
        cases ha
        refine ⟨_, _, _, _, rfl, fun vs lv cst F hall hsu hn hcs => ?_⟩
        obtain ⟨a, t, rfl, q1, q2, q3, q4, q5⟩ := val vs cst hall hcs
        have e := (z_i2b a).2.2 (by omega) (by omega)
        exact ⟨.int a.toInt8.toInt32, t, one_alu (Or.inr (Or.inr (Or.inr (Or.inr (Or.inl (by rw [hi]; rfl)))))) (by rw [hi]; rfl) F lv, q2, okE_int (by omega) (by omega), same vs _ a q1 e, nil2 _⟩
      · cases ha
        refine ⟨_, _, _, _, rfl, fun vs lv cst F hall hsu hn hcs => ?_⟩
        obtain ⟨a, t, rfl, q1, q2, q3, q4, q5⟩ := val vs cst hall hcs
        exact ⟨.int a.toInt8.toInt32, t, one_alu (Or.inr (Or.inr (Or.inr (Or.inr (Or.inl (by rw [hi]; rfl)))))) (by rw [hi]; rfl) F lv, q2, okE_int (z_i2b a).1 (z_i2b a).2.1, nil _ _, nil2 _⟩
    case i2s =>
      split at ha
      · rename_i hr
        cases ha
        refine ⟨_, _, _, _, rfl, fun vs lv cst F hall hsu hn hcs => ?_⟩
        obtain ⟨a, t, rfl, q1, q2, q3, q4, q5⟩ := val vs cst hall hcs
        have e := (z_i2s a).2.2 (by omega) (by omega)
        exact ⟨.int a.toInt16.toInt32, t, one_alu (Or.inr (Or.inr (Or.inr (Or.inr (Or.inl (by rw [hi]; rfl)))))) (by rw [hi]; rfl) F lv, q2, okE_int (by omega) (by omega), same vs _ a q1 e, nil2 _⟩
      · cases ha
        refine ⟨_, _, _, _, rfl, fun vs lv cst F hall hsu hn hcs => ?_⟩
        obtain ⟨a, t, rfl, q1, q2, q3, q4, q5⟩ := val vs cst hall hcs
        exact ⟨.int a.toInt16.toInt32, t, one_alu (Or.inr (Or.inr (Or.inr (Or.inr (Or.inl (by rw [hi]; rfl)))))) (by rw [hi]; rfl) F lv, q2, okE_int (z_i2s a).1 (z_i2s a).2.1, nil _ _, nil2 _⟩
    case i2c =>
      split at ha
      · rename_i hr
        cases ha
        refine ⟨_, _, _, _, rfl, fun vs lv cst F hall hsu hn hcs => ?_⟩
        obtain ⟨a, t, rfl, q1, q2, q3, q4, q5⟩ := val vs cst hall hcs
        have e := (z_i2c a).2.2 (by omega) (by omega)
        exact ⟨.int (a.toUInt32 % 65536).toInt32, t, one_alu (Or.inr (Or.inr (Or.inr (Or.inr (Or.inl (by rw [hi]; rfl)))))) (by rw [hi]; rfl) F lv, q2, okE_int (by omega) (by omega), same vs _ a q1 e, nil2 _⟩
      · cases ha
        refine ⟨_, _, _, _, rfl, fun vs lv cst F hall hsu hn hcs => ?_⟩
        obtain ⟨a, t, rfl, q1, q2, q3, q4, q5⟩ := val vs cst hall hcs
        exact ⟨.int (a.toUInt32 % 65536).toInt32, t, one_alu (Or.inr (Or.inr (Or.inr (Or.inr (Or.inl (by rw [hi]; rfl)))))) (by rw [hi]; rfl) F lv, q2, okE_int (z_i2c a).1 (z_i2c a).2.1, nil _ _, nil2 _⟩
  obtain ⟨k, lo, hi2, rl, e1, e2⟩ := key
  rw [e1] at h
  exact g_resS hE e2 (fun a ha => by rw [hst]; simp [ha]) h
end SxH
end
