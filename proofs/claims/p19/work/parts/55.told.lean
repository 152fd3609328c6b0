section
/-! THE ODDS ARE TOLD IN LEAST NUMBERS: by hand -/
theorem at227 (pc : Nat) : m_at tMT 227 pc = (cL227.find? (fun E => E.1 == pc)).map fun E => (E, some FieldType.long) := rfl
theorem at226 (pc : Nat) : m_at tMT 226 pc = (cL226.find? (fun E => E.1 == pc)).map fun E => (E, some FieldType.long) := rfl
theorem z_rem64 (x y : Int64) (hy : ¬ y = 0) : (x - x / y * y).toInt.natAbs < y.toInt.natAbs := by
  have hy0 : ¬ y.toInt = 0 := fun h => hy (by rw [← Int64.toInt_inj, h]; rfl)
  have e : (x - x / y * y).toInt = (x.toInt.tmod y.toInt).bmod (2 ^ 64) := by
    rw [Int64.toInt_sub, Int64.toInt_mul, Int64.toInt_div]
    simp only [Int.bmod_mul_bmod, Int.sub_bmod_bmod]
    congr 1
    have := Int.tmod_add_mul_tdiv x.toInt y.toInt
    rw [Int.mul_comm (x.toInt.tdiv y.toInt)]
    omega
  have hlt : (x.toInt.tmod y.toInt).natAbs < y.toInt.natAbs := by
    rw [Int.natAbs_tmod]
    exact Nat.mod_lt _ (by omega)
  have hY := z_rngL y
  rw [e, z_bmL (by omega) (by omega)]
  exact hlt
section Told
variable {ro : Nat → Option MC} {F : MH} {d : Nat}
theorem common_loop (a b : Int64) : ∀ (n : Nat) (x y : Int64) (R : LVs), y.toInt.natAbs < n → (R = [(0, .long a), (2, .long b)] ∨ ∃ w, R = [(8, .long w), (0, .long a), (2, .long b)]) → (¬ x = 0 ∨ ¬ y = 0) → TT tMT ro tFty tDfl d 227 F 6 ((6, .long y) :: (4, .long x) :: R) [] (fun v F1 => F1 = F ∧ ∃ z : Int64, v = some (.long z) ∧ ¬ z = 0) := by
  intro n
  induction n with
  | zero => intro x y R h; omega
  | succ n ih =>
    intro x y R hn hR hxy
    have hf8 : ∀ r, m_put2 ((6, Value.long y) :: (4, .long x) :: R) 8 (.long r) = [(8, .long r), (6, .long y), (4, .long x), (0, .long a), (2, .long b)] := by
      intro r
      rcases hR with rfl | ⟨w, rfl⟩
      · rfl
      · rfl
    refine TT.one (at227 _) (q := (F, 8, _, [.long y])) rfl ?_
    refine TT.one (at227 _) (q := (F, 9, _, [.long 0, .long y])) rfl ?_
    refine TT.one (at227 _) (q := (F, 10, _, [.int (lg_cmp y 0)])) rfl ?_
    by_cases hy : y = 0
    · subst hy
      refine TT.one (at227 _) (q := (F, 31, _, [])) rfl ?_
      refine TT.one (at227 _) (q := (F, 33, _, [.long x])) rfl ?_
      refine TT.ret (at227 _) (v := some (.long x)) rfl rfl ⟨rfl, x, rfl, ?_⟩
      rcases hxy with h | h
      · exact h
      · exact absurd rfl h
    · have hy0 : ¬ y.toInt = 0 := fun h => hy (by rw [← Int64.toInt_inj, h]; rfl)
      have hc : m_cmp .eq (lg_cmp y 0) 0 = false := by
        rw [lg_cz]
        simp only [cz, Int64.toInt_zero]
        exact decide_eq_false hy0
      refine TT.one (at227 _) (q := (F, 13, (6, .long y) :: (4, .long x) :: R, [])) ?_ ?_
      · exact one_br (E := (10, .ifCond .eq 21, 3, 0, 0, 0)) (Or.inr (Or.inl ⟨_, _, rfl⟩)) (st := [.int (lg_cmp y 0)]) (q := (13, [])) (by show m_if 10 21 (m_cmp .eq (lg_cmp y 0) 0) [] = some (13, []); rw [hc]; rfl) F _
      refine TT.one (at227 _) (q := (F, 15, _, [.long x])) rfl ?_
      refine TT.one (at227 _) (q := (F, 17, _, [.long y, .long x])) rfl ?_
      refine TT.one (at227 _) (q := (F, 18, (6, .long y) :: (4, .long x) :: R, [.long (x - x / y * y)])) ?_ ?_
      · exact one_alu (E := (17, .lrem, 1, 0, 0, 0)) (by simp [m_d64]) (alu_d64 (i := .lrem) rfl x y hy []) F _
      refine TT.one (at227 _) (q := (F, 20, m_put2 ((6, .long y) :: (4, .long x) :: R) 8 (.long (x - x / y * y)), [])) rfl ?_
      rw [hf8]
      refine TT.one (at227 _) (q := (F, 22, _, [.long y])) rfl ?_
      refine TT.one (at227 _) (q := (F, 24, m_put2 [(8, .long (x - x / y * y)), (6, .long y), (4, .long x), (0, .long a), (2, .long b)] 4 (.long y), [])) rfl ?_
      have e4 : m_put2 [(8, .long (x - x / y * y)), (6, .long y), (4, .long x), (0, .long a), (2, .long b)] 4 (.long y) = [(4, .long y), (8, .long (x - x / y * y)), (6, .long y), (0, .long a), (2, .long b)] := rfl
      rw [e4]
      refine TT.one (at227 _) (q := (F, 26, _, [.long (x - x / y * y)])) rfl ?_
      refine TT.one (at227 _) (q := (F, 28, m_put2 [(4, .long y), (8, .long (x - x / y * y)), (6, .long y), (0, .long a), (2, .long b)] 6 (.long (x - x / y * y)), [])) rfl ?_
      have e6 : m_put2 [(4, .long y), (8, .long (x - x / y * y)), (6, .long y), (0, .long a), (2, .long b)] 6 (.long (x - x / y * y)) = (6, .long (x - x / y * y)) :: (4, .long y) :: [(8, .long (x - x / y * y)), (0, .long a), (2, .long b)] := rfl
      rw [e6]
      refine TT.one (at227 _) (q := (F, 6, _, [])) rfl ?_
      exact ih y _ _ (by have := z_rem64 x y hy; omega) (Or.inr ⟨_, rfl⟩) (Or.inl hy)
theorem common_ok (a b : Int64) (ha : ¬ a = 0) : TT tMT ro tFty tDfl d 227 F 0 (lv_args 0 [.long a, .long b]) [] (fun v F1 => F1 = F ∧ ∃ z : Int64, v = some (.long z) ∧ ¬ z = 0) := by
  have e0 : lv_args 0 [.long a, .long b] = [(0, .long a), (2, .long b)] := rfl
  rw [e0]
  refine TT.one (at227 _) (q := (F, 1, _, [.long a])) rfl ?_
  refine TT.one (at227 _) (q := (F, 3, [(4, .long a), (0, .long a), (2, .long b)], [])) rfl ?_
  refine TT.one (at227 _) (q := (F, 4, _, [.long b])) rfl ?_
  refine TT.one (at227 _) (q := (F, 6, [(6, .long b), (4, .long a), (0, .long a), (2, .long b)], [])) rfl ?_
  exact common_loop a b _ a b _ (Nat.lt_succ_self _) (Or.inl rfl) (Or.inl ha)
theorem told_one (a b : Int64) (w : Int32) {lv : LVs} (h0 : m_get lv 0 = some (.long b)) (h2 : m_get lv 2 = some (.long a)) (h4 : m_get lv 4 = some (.int w)) (ha : ¬ a = 0) : TT tMT ro tFty tDfl (d + 1) 226 F 0 lv [] (fun v F1 => F1 = F ∧ ∃ z : Int64, v = some (.long z)) := by
  have p0 : m_push (1, .lload_n 0, 1, 0, 0, 0) lv = some (.long b) := by show (m_get lv 0).filter m_isL = _; rw [h0]; rfl
  have p2 : m_push (0, .lload_n 2, 1, 0, 0, 0) lv = some (.long a) := by show (m_get lv 2).filter m_isL = _; rw [h2]; rfl
  refine TT.one (at226 _) (q := (F, 1, lv, [.long a])) ?_ ?_
  · unfold m_one; rw [p2]; rfl
  refine TT.one (at226 _) (q := (F, 2, lv, [.long b, .long a])) ?_ ?_
  · unfold m_one; rw [p0]; rfl
  refine TT.call (at226 _) (q := (227, [.long a, .long b], [])) rfl rfl rfl (by simp) (by simp) rfl ?_
  refine (common_ok a b ha).imp (fun v F1 hv => ?_)
  obtain ⟨rfl, z, rfl, hz⟩ := hv
  have g0 : m_get (m_put2 lv 5 (.long z)) 0 = some (.long b) := m_get_put2 h0 (by decide) (by decide) (by simp)
  have g2 : m_get (m_put2 lv 5 (.long z)) 2 = some (.long a) := m_get_put2 h2 (by decide) (by decide) (by simp)
  have g4 : m_get (m_put2 lv 5 (.long z)) 4 = some (.int w) := m_get_put2 h4 (by decide) (by decide) (by intro h; cases h.2)
  have g5 : m_get (m_put2 lv 5 (.long z)) 5 = some (.long z) := m_get_same2
  refine TT.one (at226 _) (q := (F1, 7, m_put2 lv 5 (.long z), [])) rfl ?_
  revert g0 g2 g4 g5
  generalize m_put2 lv 5 (.long z) = lw
  intro g0 g2 g4 g5
  refine TT.one (at226 _) (q := (F1, 9, lw, [.int w])) ?_ ?_
  · have e : m_push (7, .iload 4, 2, 0, 0, 0) lw = some (.int w) := by show (m_get lw 4).filter m_isI = _; rw [g4]; rfl
    unfold m_one; rw [e]; rfl
  by_cases hw : m_cmp .ne w 0 = true
  · refine TT.one (at226 _) (q := (F1, 19, lw, [])) ?_ ?_
    · exact one_br (E := (9, .ifCond .ne 10, 3, 0, 0, 0)) (Or.inr (Or.inl ⟨_, _, rfl⟩)) (st := [.int w]) (q := (19, [])) (by show m_if 9 10 (m_cmp .ne w 0) [] = some (19, []); rw [hw]; rfl) F1 _
    refine TT.one (at226 _) (q := (F1, 20, lw, [.long a])) ?_ ?_
    · have e : m_push (19, .lload_n 2, 1, 0, 0, 0) lw = some (.long a) := by show (m_get lw 2).filter m_isL = _; rw [g2]; rfl
      unfold m_one; rw [e]; rfl
    refine TT.one (at226 _) (q := (F1, 22, lw, [.long z, .long a])) ?_ ?_
    · have e : m_push (20, .lload 5, 2, 0, 0, 0) lw = some (.long z) := by show (m_get lw 5).filter m_isL = _; rw [g5]; rfl
      unfold m_one; rw [e]; rfl
    refine TT.one (at226 _) (q := (F1, 23, lw, [.long (a / z)])) ?_ ?_
    · exact one_alu (E := (22, .ldiv, 1, 0, 0, 0)) (by simp [m_d64]) (alu_d64 (i := .ldiv) rfl a z hz []) F1 _
    exact TT.ret (at226 _) (v := some (.long (a / z))) rfl rfl ⟨rfl, _, rfl⟩
  · refine TT.one (at226 _) (q := (F1, 12, lw, [])) ?_ ?_
    · exact one_br (E := (9, .ifCond .ne 10, 3, 0, 0, 0)) (Or.inr (Or.inl ⟨_, _, rfl⟩)) (st := [.int w]) (q := (12, [])) (by show m_if 9 10 (m_cmp .ne w 0) [] = some (12, []); rw [eq_false_of_ne_true hw]; rfl) F1 _
    refine TT.one (at226 _) (q := (F1, 13, lw, [.long b])) ?_ ?_
    · have e : m_push (12, .lload_n 0, 1, 0, 0, 0) lw = some (.long b) := by show (m_get lw 0).filter m_isL = _; rw [g0]; rfl
      unfold m_one; rw [e]; rfl
    refine TT.one (at226 _) (q := (F1, 15, lw, [.long z, .long b])) ?_ ?_
    · have e : m_push (13, .lload 5, 2, 0, 0, 0) lw = some (.long z) := by show (m_get lw 5).filter m_isL = _; rw [g5]; rfl
      unfold m_one; rw [e]; rfl
    refine TT.one (at226 _) (q := (F1, 16, lw, [.long (b / z)])) ?_ ?_
    · exact one_alu (E := (15, .ldiv, 1, 0, 0, 0)) (by simp [m_d64]) (alu_d64 (i := .ldiv) rfl b z hz []) F1 _
    refine TT.one (at226 _) (q := (F1, 23, lw, [.long (b / z)])) rfl ?_
    exact TT.ret (at226 _) (v := some (.long (b / z))) rfl rfl ⟨rfl, _, rfl⟩
theorem told_nd {Γ : Nat → Option Nat} : n_wfA nd9 = true ∧ ∀ ws f F, okN Γ tSets ro nd9 ws f F → WT Γ tSets tRoles ro F → TT tMT ro tFty tDfl nd9.dep f.1 F f.2.1 f.2.2.1 f.2.2.2 (n_posts Γ tSets tRoles ro nd9 ws F) := by
  refine ⟨by decide +kernel, fun ws f F hok hW => ?_⟩
  obtain ⟨⟨-, hf, -, -, -, -, hlen⟩, hpa⟩ := hok
  obtain ⟨fm, fp, lv, st⟩ := f
  obtain ⟨e1, e2, e3, e4⟩ := hf
  obtain ⟨v0, q0, m0⟩ := e3 (0, (0, 1, -9223372036854775808, 9223372036854775807, [])) (by simp [n_st, nd9, ND.lc, n_av, ND.pa])
  obtain ⟨v1, q1, m1⟩ := e3 (2, (1, 1, 1, 100000000, [])) (by simp [n_st, nd9, ND.lc, n_av, ND.pa])
  obtain ⟨v2, q2, m2⟩ := e3 (4, (2, 0, -2147483648, 2147483647, [])) (by simp [n_st, nd9, ND.lc, n_av, ND.pa])
  obtain ⟨u0, r0, o0, -⟩ := hpa (0, 1, -9223372036854775808, 9223372036854775807, []) (by simp [nd9, ND.pa])
  obtain ⟨u1, r1, o1, -⟩ := hpa (1, 1, 1, 100000000, []) (by simp [nd9, ND.pa])
  obtain ⟨u2, r2, o2, -⟩ := hpa (2, 0, -2147483648, 2147483647, []) (by simp [nd9, ND.pa])
  cases r0.symm.trans q0
  cases r1.symm.trans q1
  cases r2.symm.trans q2
  obtain ⟨⟨b, rfl⟩, -, -⟩ := (show isJ v0 ∧ _ from o0)
  obtain ⟨⟨a, rfl⟩, a1, -⟩ := (show isJ v1 ∧ _ ∧ _ from o1)
  obtain ⟨⟨w, rfl⟩, -, -⟩ := (show isI v2 ∧ _ from o2)
  have hst : st = [] := by
    have : st.map some = ([] : List (Option Value)) := e4
    exact List.map_eq_nil_iff.mp this
  cases (show (226 : Nat) = fm from e1)
  cases (show (0 : Nat) = fp from e2)
  subst hst
  have ha : ¬ a = 0 := by
    intro h
    subst h
    exact absurd a1 (by decide)
  refine (told_one (d := 1) a b w m0 m1 m2 ha).imp (fun v F1 hv => ?_)
  obtain ⟨rfl, z, rfl⟩ := hv
  refine ⟨nd9, List.mem_cons_self, hW, ?_, [.long z], rfl, ?_, ?_, ?_⟩
  · intro a r k c0 c _ _ h0 h1
    cases h0.symm.trans h1
    exact ⟨rfl, rfl⟩
  · have h3 : ws.length = 3 := hlen.symm
    show [some (Value.long z)] = [(ws ++ [.long z])[3]?]
    rw [List.getElem?_append_right (by omega), h3]
    rfl
  · intro x hx
    have h3 : ws.length = 3 := hlen.symm
    cases (show x = (3, 1, -9223372036854775808, 9223372036854775807, []) from List.mem_singleton.mp hx)
    refine ⟨.long z, ?_, okE_long (z_rngL z).1 (z_rngL z).2, fun r hr => by cases hr⟩
    rw [List.getElem?_append_right (by omega), h3]
    rfl
  · intro q hq
    cases hq
end Told
end
