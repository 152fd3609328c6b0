/-! SYMBOLIC RUNS, I: values, states, what they mean -/
/-- a symbolic value: its number, its kind (0 int, 1 long, 2 reference of role lo, 10 and j: int of set j), least, most, bounds of the difference from others -/
abbrev AV : Type := Nat × Nat × Int × Int × List (Nat × Int × Int)
abbrev SF : Type := Nat × Nat × List (Nat × AV) × List AV
abbrev FA : Type := Nat × Nat × Nat × AV
abbrev EA : Type := Nat × Nat × AV × AV
/-- a symbolic state: the frame that runs, those below, facts on cells, facts on places that are symbols, sums, the next number -/
abbrev SS : Type := SF × List SF × List FA × List EA × List (Nat × Nat × Nat) × Nat
def vz (v : Value) : Int := match v with
  | .int x => x.toInt
  | .long x => x.toInt
  | _ => 0
def isI (v : Value) : Prop := ∃ x, v = .int x
def isJ (v : Value) : Prop := ∃ x, v = .long x
/-- a value is of a kind, between bounds -/
def okE (Γ : Nat → Option Nat) (sets : List (List Int)) (k : Nat) (lo hi : Int) (v : Value) : Prop :=
  if k = 0 then isI v ∧ lo ≤ vz v ∧ vz v ≤ hi
  else if k = 1 then isJ v ∧ lo ≤ vz v ∧ vz v ≤ hi
  else if k = 2 then ∃ a, v = .ref a ∧ Γ a = some lo.toNat
  else if 10 ≤ k then isI v ∧ lo ≤ vz v ∧ vz v ≤ hi ∧ vz v ∈ sets.getD (k - 10) []
  else False
def okA (Γ : Nat → Option Nat) (sets : List (List Int)) (vs : List Value) (a : AV) : Prop :=
  ∃ v, vs[a.1]? = some v ∧ okE Γ sets a.2.1 a.2.2.1 a.2.2.2.1 v ∧ ∀ r ∈ a.2.2.2.2, ∃ w, vs[r.1]? = some w ∧ r.2.1 ≤ vz v - vz w ∧ vz v - vz w ≤ r.2.2
section SxA
variable {Γ : Nat → Option Nat} {sets : List (List Int)} {vs : List Value}
theorem get_app {vs t : List Value} {i : Nat} {v : Value} (h : vs[i]? = some v) : (vs ++ t)[i]? = some v := by
  have hl := (List.getElem?_eq_some_iff.mp h).1
  rw [List.getElem?_append_left hl]; exact h
theorem okA.app {a : AV} (h : okA Γ sets vs a) (t : List Value) : okA Γ sets (vs ++ t) a := by
  obtain ⟨v, h1, h2, h3⟩ := h
  exact ⟨v, get_app h1, h2, fun r hr => by obtain ⟨w, g1, g2⟩ := h3 r hr; exact ⟨w, get_app g1, g2⟩⟩
/-- kinds of numbers: bounds may be narrowed -/
theorem okE.clamp {k : Nat} {lo hi lo2 hi2 : Int} {v : Value} (h : okE Γ sets k lo hi v) (hk : ¬ k = 2) (hl : lo2 ≤ vz v) (hh : vz v ≤ hi2) : okE Γ sets k (max lo lo2) (min hi hi2) v := by
  unfold okE at h ⊢
  by_cases h0 : k = 0
  · rw [if_pos h0] at h ⊢; exact ⟨h.1, by omega, by omega⟩
  rw [if_neg h0] at h ⊢
  by_cases h1 : k = 1
  · rw [if_pos h1] at h ⊢; exact ⟨h.1, by omega, by omega⟩
  rw [if_neg h1, if_neg hk] at h ⊢
  by_cases h10 : 10 ≤ k
  · rw [if_pos h10] at h ⊢; exact ⟨h.1, by omega, by omega, h.2.2.2⟩
  · rw [if_neg h10] at h; exact h.elim
theorem okE.num {k : Nat} {lo hi : Int} {v : Value} (h : okE Γ sets k lo hi v) (hk : ¬ k = 2) : lo ≤ vz v ∧ vz v ≤ hi := by
  unfold okE at h
  by_cases h0 : k = 0
  · rw [if_pos h0] at h; exact h.2
  rw [if_neg h0] at h
  by_cases h1 : k = 1
  · rw [if_pos h1] at h; exact h.2
  rw [if_neg h1, if_neg hk] at h
  by_cases h10 : 10 ≤ k
  · rw [if_pos h10] at h; exact ⟨h.2.1, h.2.2.1⟩
  · rw [if_neg h10] at h; exact h.elim
/-- the value that is number id is between lo and hi -/
def a_cl (id : Nat) (lo hi : Int) (a : AV) : AV :=
  if a.2.1 = 2 then a
  else if a.1 = id then (a.1, a.2.1, max a.2.2.1 lo, min a.2.2.2.1 hi, a.2.2.2.2)
  else match a.2.2.2.2.find? (fun r => r.1 == id) with
    | some r => (a.1, a.2.1, max a.2.2.1 (lo + r.2.1), min a.2.2.2.1 (hi + r.2.2), a.2.2.2.2)
    | none => a
theorem a_cl_ok {id : Nat} {lo hi : Int} {a : AV} (h : okA Γ sets vs a) {w : Value} (hw : vs[id]? = some w) (h1 : lo ≤ vz w) (h2 : vz w ≤ hi) : okA Γ sets vs (a_cl id lo hi a) := by
  obtain ⟨v, g1, g2, g3⟩ := h
  unfold a_cl
  split
  · exact ⟨v, g1, g2, g3⟩
  · rename_i hk
    split
    · rename_i he
      rw [← he] at hw
      have e1 : v = w := Option.some.inj (g1.symm.trans hw)
      subst e1
      exact ⟨v, g1, g2.clamp hk h1 h2, g3⟩
    · split
      · rename_i r hr
        obtain ⟨w2, q1, q2, q3⟩ := g3 r (List.mem_of_find?_eq_some hr)
        have q4 : r.1 = id := by have := List.find?_some hr; simpa using this
        rw [q4] at q1
        have e1 : w2 = w := Option.some.inj (q1.symm.trans hw)
        subst e1
        exact ⟨v, g1, g2.clamp hk (by omega) (by omega), g3⟩
      · exact ⟨v, g1, g2, g3⟩
theorem a_cl_id (id : Nat) (lo hi : Int) (a : AV) : (a_cl id lo hi a).1 = a.1 := by
  unfold a_cl
  split
  · rfl
  · split
    · rfl
    · split <;> rfl
def i_and (a b : Int × Int) : Int × Int := (max a.1 b.1, min a.2 b.2)
/-- bounds of the difference of two values -/
def a_com (y : AV) : List (Nat × Int × Int) → Int × Int → Int × Int
  | [], b => b
  | r :: t, b => a_com y t (match y.2.2.2.2.find? (fun q => q.1 == r.1) with
    | some q => i_and b (r.2.1 - q.2.2, r.2.2 - q.2.1)
    | none => b)
def a_diff (x y : AV) : Int × Int :=
  let b0 := (x.2.2.1 - y.2.2.2.1, x.2.2.2.1 - y.2.2.1)
  let b1 := if x.1 = y.1 then i_and b0 (0, 0) else b0
  let b2 := match x.2.2.2.2.find? (fun q => q.1 == y.1) with | some q => i_and b1 (q.2.1, q.2.2) | none => b1
  let b3 := match y.2.2.2.2.find? (fun q => q.1 == x.1) with | some q => i_and b2 (-q.2.2, -q.2.1) | none => b2
  a_com y x.2.2.2.2 b3
def i_in (d : Int) (b : Int × Int) : Prop := b.1 ≤ d ∧ d ≤ b.2
theorem i_in.and {d : Int} {a b : Int × Int} (h : i_in d a) (h2 : i_in d b) : i_in d (i_and a b) := by
  unfold i_in i_and at *
  simp only
  omega
theorem a_com_ok {y : AV} {v w : Value} (hw : vs[y.1]? = some w) (hy : ∀ r ∈ y.2.2.2.2, ∃ u, vs[r.1]? = some u ∧ r.2.1 ≤ vz w - vz u ∧ vz w - vz u ≤ r.2.2) : ∀ (l : List (Nat × Int × Int)) (b : Int × Int), (∀ r ∈ l, ∃ u, vs[r.1]? = some u ∧ r.2.1 ≤ vz v - vz u ∧ vz v - vz u ≤ r.2.2) → i_in (vz v - vz w) b → i_in (vz v - vz w) (a_com y l b)
  | [], b, _, h => h
  | r :: t, b, hl, h => by
    rw [a_com]
    refine a_com_ok hw hy t _ (fun q hq => hl q (List.mem_cons_of_mem _ hq)) ?_
    split
    · rename_i q hq
      obtain ⟨u1, p1, p2, p3⟩ := hl r List.mem_cons_self
      obtain ⟨u2, q1, q2, q3⟩ := hy q (List.mem_of_find?_eq_some hq)
      have q4 : q.1 = r.1 := by have := List.find?_some hq; simpa using this
      rw [q4] at q1
      have e1 : u2 = u1 := Option.some.inj (q1.symm.trans p1)
      subst e1
      refine h.and ?_
      unfold i_in
      simp only
      omega
    · exact h
theorem a_diff_ok {x y : AV} {v w : Value} (hx : okA Γ sets vs x) (hy : okA Γ sets vs y) (hkx : ¬ x.2.1 = 2) (hky : ¬ y.2.1 = 2) (hv : vs[x.1]? = some v) (hw : vs[y.1]? = some w) : i_in (vz v - vz w) (a_diff x y) := by
  obtain ⟨v', g1, g2, g3⟩ := hx
  obtain ⟨w', k1, k2, k3⟩ := hy
  obtain rfl : v' = v := Option.some.inj (g1.symm.trans hv)
  obtain rfl : w' = w := Option.some.inj (k1.symm.trans hw)
  have n1 := g2.num hkx
  have n2 := k2.num hky
  unfold a_diff
  simp only
  refine a_com_ok hw k3 _ _ g3 ?_
  have b0 : i_in (vz v' - vz w') (x.2.2.1 - y.2.2.2.1, x.2.2.2.1 - y.2.2.1) := by unfold i_in; simp only; omega
  generalize (x.2.2.1 - y.2.2.2.1, x.2.2.2.1 - y.2.2.1) = B0 at b0 ⊢
  have b1 : i_in (vz v' - vz w') (if x.1 = y.1 then i_and B0 (0, 0) else B0) := by
    split
    · rename_i he
      rw [he] at g1
      have : v' = w' := Option.some.inj (g1.symm.trans k1)
      subst this
      exact b0.and ⟨by simp, by simp⟩
    · exact b0
  generalize (if x.1 = y.1 then i_and B0 (0, 0) else B0) = B1 at b1 ⊢
  have b2 : i_in (vz v' - vz w') (match x.2.2.2.2.find? (fun q => q.1 == y.1) with | some q => i_and B1 (q.2.1, q.2.2) | none => B1) := by
    split
    · rename_i q hq
      obtain ⟨u, p1, p2, p3⟩ := g3 q (List.mem_of_find?_eq_some hq)
      have q4 : q.1 = y.1 := by have := List.find?_some hq; simpa using this
      rw [q4] at p1
      obtain rfl : u = w' := Option.some.inj (p1.symm.trans k1)
      exact b1.and ⟨p2, p3⟩
    · exact b1
  generalize (match x.2.2.2.2.find? (fun q => q.1 == y.1) with | some q => i_and B1 (q.2.1, q.2.2) | none => B1) = B2 at b2 ⊢
  split
  · rename_i q hq
    obtain ⟨u, p1, p2, p3⟩ := k3 q (List.mem_of_find?_eq_some hq)
    have q4 : q.1 = x.1 := by have := List.find?_some hq; simpa using this
    rw [q4] at p1
    obtain rfl : u = v' := Option.some.inj (p1.symm.trans g1)
    exact b2.and ⟨by simp only; omega, by simp only; omega⟩
  · exact b2
end SxA
