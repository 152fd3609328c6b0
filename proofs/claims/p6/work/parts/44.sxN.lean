/-! SYMBOLIC RUNS, XIV: reads of cells -/
/-- what roles mean for addresses -/
def GOK (Γ : Nat → Option Nat) (roles : List RD) : Prop := ∀ a r rd, Γ a = some r → roles[r]? = some rd → (rd.1 = 3 → ¬ a < KB) ∧ (rd.1 = 2 → a < KB ∧ 3 ≤ rd.2.1 ∧ rd.2.1 ≤ 6) ∧ (rd.1 = 1 → a < KB) ∧ (rd.1 = 0 → ¬ rd.2.1 = 99 → a < KB)
def rdOK (E : MI) (rd : RD) : Bool := match E.2.1 with
  | .getfield _ => rd.1 == 0 && rd.2.1 == E.2.2.2.1
  | .iaload => (rd.1 == 1 || rd.1 == 3) && rd.2.1 == 0
  | .baload => (rd.1 == 1 && rd.2.1 == 1) || (rd.1 == 3 && rd.2.1 == 2)
  | .aaload => rd.1 == 2
  | _ => false
def isGet (E : MI) : Bool := match E.2.1 with
  | .getfield _ => true
  | _ => false
section SxN
variable {Γ : Nat → Option Nat} {sets : List (List Int)} {roles : List RD} {ms : Mods} {MT : List MM} {ro : Nat → Option MC} {fty : Nat → Nat → FieldType} {dfl : Nat → List Value} {vs0 : List Value} {F0 : MH} {Q : Option Value → MH → Prop} {d : Nat} {S : SS}
theorem one_rd {E : MI} (h : (∃ i, E.2.1 = .getfield i) ∨ E.2.1 = .arraylength ∨ E.2.1 = .iaload ∨ E.2.1 = .baload ∨ E.2.1 = .aaload) {F : MH} {st st1 : List Value} (hb : m_rd ro F E st = some st1) (lv : LVs) : m_one ro fty dfl E F lv st = some (F, E.1 + E.2.2.1, lv, st1) := by
  obtain ⟨pc, i, len, a0, b0, z0⟩ := E
  simp only at h
  have h4 : m_alu i st = none := by rcases h with ⟨o, rfl⟩ | rfl | rfl | rfl | rfl <;> rfl
  have h5 : m_br (pc, i, len, a0, b0, z0) st = none := by rcases h with ⟨o, rfl⟩ | rfl | rfl | rfl | rfl <;> rfl
  unfold m_one
  have h1 : m_push (pc, i, len, a0, b0, z0) lv = none := by rcases h with ⟨o, rfl⟩ | rfl | rfl | rfl | rfl <;> rfl
  have h2 : m_cst (pc, i, len, a0, b0, z0) = none := by rcases h with ⟨o, rfl⟩ | rfl | rfl | rfl | rfl <;> rfl
  have h3 : m_store (pc, i, len, a0, b0, z0) lv st = none := by rcases h with ⟨o, rfl⟩ | rfl | rfl | rfl | rfl <;> rfl
  rw [h1, h2, h3]
  simp only
  rw [h4]
  simp only
  rw [h5]
  simp only
  rw [hb]
theorem m_in_of {x : Int32} {n : Nat} (h0 : 0 ≤ x.toInt) (h1 : x.toInt.toNat < n) : m_in x n = true := by
  simp only [m_in, decide_eq_true_eq]; omega
theorem getD_of {α : Type} {l : List α} {k : Nat} {v w : α} (h : l[k]? = some v) : l.getD k w = v := by
  rw [List.getD_eq_getElem?_getD, h]; rfl
/-- a read, out of what the cell holds -/
theorem rd_one {E : MI} {rd : RD} {c : MC} {F : MH} {a k : Nat} {v : Value} {x : Int32} (hG : GOK Γ roles) {r : Nat} (hr : Γ a = some r) (hrd : roles[r]? = some rd) (hok : rdOK E rd = true) (hc : okCell Γ sets rd c) (hm : m_cell ro F a = some c) (hv : (cont c)[k]? = some v) (hk : if isGet E = true then k = E.2.2.2.2.1 else 0 ≤ x.toInt ∧ x.toInt.toNat = k) (lv : LVs) (t : List Value) :
    m_one ro fty dfl E F lv (if isGet E = true then .ref a :: t else .int x :: .ref a :: t) = some (F, E.1 + E.2.2.1, lv, v :: t) := by
  obtain ⟨g1, g2, g3, g4⟩ := hG a r rd hr hrd
  obtain ⟨pc, i, len, a0, b0, z0⟩ := E
  unfold rdOK at hok
  simp only at hok
  have hx : x.toNatClampNeg = x.toInt.toNat := rfl
  split at hok
  · rename_i idx
    have hg : isGet (pc, Instr.getfield idx, len, a0, b0, z0) = true := rfl
    rw [if_pos hg] at hk ⊢
    simp only [Bool.and_eq_true, beq_iff_eq] at hok
    rcases hc with ⟨e, ⟨fs, rfl⟩, -⟩ | ⟨e, -⟩ | ⟨e, -⟩ | ⟨e, -⟩
    · refine one_rd (Or.inl ⟨idx, rfl⟩) ?_ lv
      simp only at hk
      have hv2 : fs[b0]? = some v := by rw [← hk]; exact hv
      simp only [m_rd, hm]
      rw [if_pos hok.2, hv2]
    · omega
    · omega
    · omega
  · have hg : isGet (pc, Instr.iaload, len, a0, b0, z0) = false := rfl
    rw [if_neg (by rw [hg]; decide)] at hk ⊢
    simp only [Bool.and_eq_true, Bool.or_eq_true, beq_iff_eq] at hok
    have key : ∀ xs, c = .inr (.inl (rd.2.1, xs)) → m_one ro fty dfl (pc, Instr.iaload, len, a0, b0, z0) F lv (.int x :: .ref a :: t) = some (F, pc + len, lv, v :: t) := by
      intro xs e
      subst e
      refine one_rd (Or.inr (Or.inr (Or.inl rfl))) ?_ lv
      have hv2 : (xs.map Value.int)[k]? = some v := hv
      rw [List.getElem?_map] at hv2
      cases hq : xs[k]? with
      | none => rw [hq] at hv2; cases hv2
      | some y =>
        rw [hq] at hv2
        cases hv2
        have hlt := (List.getElem?_eq_some_iff.mp hq).1
        simp only [m_rd, hm]
        rw [if_pos ⟨hok.2, m_in_of hk.1 (by omega)⟩, hx, hk.2, getD_of hq]
    rcases hc with ⟨e, -⟩ | ⟨e, ⟨xs, e2⟩, -⟩ | ⟨e, -⟩ | ⟨e, ⟨xs, e2, -⟩, -⟩
    · omega
    · exact key xs e2
    · omega
    · exact key xs e2
  · have hg : isGet (pc, Instr.baload, len, a0, b0, z0) = false := rfl
    rw [if_neg (by rw [hg]; decide)] at hk ⊢
    simp only [Bool.and_eq_true, Bool.or_eq_true, beq_iff_eq] at hok
    have key : ∀ xs, c = .inr (.inl (rd.2.1, xs)) → m_one ro fty dfl (pc, Instr.baload, len, a0, b0, z0) F lv (.int x :: .ref a :: t) = some (F, pc + len, lv, v :: t) := by
      intro xs e
      subst e
      refine one_rd (Or.inr (Or.inr (Or.inr (Or.inl rfl)))) ?_ lv
      have hv2 : (xs.map Value.int)[k]? = some v := hv
      rw [List.getElem?_map] at hv2
      cases hq : xs[k]? with
      | none => rw [hq] at hv2; cases hv2
      | some y =>
        rw [hq] at hv2
        cases hv2
        have hlt := (List.getElem?_eq_some_iff.mp hq).1
        simp only [m_rd, hm]
        rw [if_pos ⟨by omega, m_in_of hk.1 (by omega)⟩, hx, hk.2, getD_of hq]
    rcases hc with ⟨e, -⟩ | ⟨e, ⟨xs, e2⟩, -⟩ | ⟨e, -⟩ | ⟨e, ⟨xs, e2, -⟩, -⟩
    · omega
    · exact key xs e2
    · omega
    · exact key xs e2
  · have hg : isGet (pc, Instr.aaload, len, a0, b0, z0) = false := rfl
    rw [if_neg (by rw [hg]; decide)] at hk ⊢
    simp only [beq_iff_eq] at hok
    rcases hc with ⟨e, -⟩ | ⟨e, -⟩ | ⟨e, ⟨os, e2⟩, -⟩ | ⟨e, -⟩
    · omega
    · omega
    · subst e2
      refine one_rd (Or.inr (Or.inr (Or.inr (Or.inr rfl)))) ?_ lv
      have hv2 : (os.map va_rf)[k]? = some v := hv
      rw [List.getElem?_map] at hv2
      cases hq : os[k]? with
      | none => rw [hq] at hv2; cases hv2
      | some y =>
        rw [hq] at hv2
        cases hv2
        have hlt := (List.getElem?_eq_some_iff.mp hq).1
        obtain ⟨k1, k2, k3⟩ := g2 hok
        simp only [m_rd, hm]
        rw [if_pos ⟨k1, k2, k3, m_in_of hk.1 (by omega)⟩, hx, hk.2, getD_of hq]
    · omega
  · cases hok
/-- are two values the same? -/
def x_eq (a b : AV) : Bool := a.1 == b.1 || (k_is a.2.1 0 && k_is b.2.1 0 && decide (0 ≤ (a_diff a b).1) && decide ((a_diff a b).2 ≤ 0))
theorem x_eq_ok {vs : List Value} {a b : AV} {v w : Value} (h : x_eq a b = true) (ha : okA Γ sets vs a) (hb : okA Γ sets vs b) (hv : vs[a.1]? = some v) (hw : vs[b.1]? = some w) : v = w := by
  simp only [x_eq, Bool.or_eq_true, beq_iff_eq, Bool.and_eq_true, decide_eq_true_eq] at h
  rcases h with h | ⟨⟨⟨h1, h2⟩, h3⟩, h4⟩
  · rw [h] at hv
    exact Option.some.inj (hv.symm.trans hw)
  · obtain ⟨v', p1, p2, -⟩ := id ha
    obtain ⟨w', p3, p4, -⟩ := id hb
    obtain rfl : v' = v := Option.some.inj (p1.symm.trans hv)
    obtain rfl : w' = w := Option.some.inj (p3.symm.trans hw)
    have hd := a_diff_ok ha hb (k_is_int p2 h1).2 (k_is_int p4 h2).2 hv hw
    obtain ⟨x, rfl⟩ := (k_is_int p2 h1).1
    obtain ⟨y, rfl⟩ := (k_is_int p4 h2).1
    simp only [i_in, vz] at hd
    have : x.toInt = y.toInt := by omega
    rw [Int32.toInt_inj.mp this]
/-- bounds that hold for several -/
def j_e (e f : Nat × Int × Int) : Option (Nat × Int × Int) := if e = f then some e else if e.1 = 0 ∧ f.1 = 0 then some (0, min e.2.1 f.2.1, max e.2.2 f.2.2) else none
def j_es : List (Nat × Int × Int) → Option (Nat × Int × Int)
  | [] => none
  | [e] => some e
  | e :: f :: t => match j_es (f :: t) with
    | some g => j_e e g
    | none => none
theorem j_e_ok {e f g : Nat × Int × Int} {v : Value} (h : j_e e f = some g) (ho : okE Γ sets e.1 e.2.1 e.2.2 v ∨ okE Γ sets f.1 f.2.1 f.2.2 v) : okE Γ sets g.1 g.2.1 g.2.2 v := by
  unfold j_e at h
  split at h
  · rename_i he
    cases h
    subst he
    rcases ho with h | h <;> exact h
  · split at h
    · rename_i hk
      cases h
      rcases ho with ho | ho
      · unfold okE at ho ⊢
        rw [if_pos hk.1] at ho
        simp only [if_true]
        exact ⟨ho.1, by omega, by omega⟩
      · unfold okE at ho ⊢
        rw [if_pos hk.2] at ho
        simp only [if_true]
        exact ⟨ho.1, by omega, by omega⟩
    · cases h
theorem j_es_ok {v : Value} : ∀ (l : List (Nat × Int × Int)) (g : Nat × Int × Int), j_es l = some g → (∃ e ∈ l, okE Γ sets e.1 e.2.1 e.2.2 v) → okE Γ sets g.1 g.2.1 g.2.2 v
  | [], g, h, _ => by cases h
  | [e], g, h, ho => by
    rw [j_es] at h
    cases h
    obtain ⟨e', he, ho⟩ := ho
    simp only [List.mem_cons, List.not_mem_nil, or_false] at he
    subst he
    exact ho
  | e :: f :: t, g, h, ho => by
    rw [j_es] at h
    split at h
    · rename_i g1 hg
      obtain ⟨e', he, ho⟩ := ho
      rcases List.mem_cons.mp he with rfl | he
      · exact j_e_ok h (Or.inl ho)
      · exact j_e_ok h (Or.inr (j_es_ok (f :: t) g1 hg ⟨e', he, ho⟩))
    · cases h
end SxN
