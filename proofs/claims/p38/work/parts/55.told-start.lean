section
/-! THE ODDS ARE TOLD IN LEAST NUMBERS: by hand -/
theorem at227 (pc : Nat) : m_at tMT 227 pc = (cL227.find? (fun E => E.1 == pc)).map fun E => (E, some FieldType.long) := rfl
theorem at226 (pc : Nat) : m_at tMT 226 pc = (cL226.find? (fun E => E.1 == pc)).map fun E => (E, some FieldType.long) := rfl
theorem z_rem64 (x y : Int64) (hy : ¬ y = 0) : (x - x / y * y).toInt.natAbs < y.toInt.natAbs := by
  have hy0 : ¬ y.toInt = 0 := fun h => hy (by rw [← Int64.toInt_inj, h]; rfl)
  have e : (x - x / y * y).toInt = (x.toInt.tmod y.toInt).bmod (2 ^ 64) := by
    rw [Int64.toInt_sub, Int64.toInt_mul, Int64.toInt_div]
    simp only [Int.bmod_mul_bmod, Int.sub_bmod_bmod]
    congr 1
    have := Int.tmod_add_mul_tdiv x.toInt y.toInt
    rw [Int.mul_comm (x.toInt.tdiv y.toInt)]
    omega
  have hlt : (x.toInt.tmod y.toInt).natAbs < y.toInt.natAbs := by
    rw [Int.natAbs_tmod]
    exact Nat.mod_lt _ (by omega)
  have hY := z_rngL y
  rw [e, z_bmL (by omega) (by omega)]
  exact hlt
section Told
variable {ro : Nat → Option MC} {F : MH} {d : Nat}
theorem common_loop (a b : Int64) : ∀ (n : Nat) (x y : Int64) (R : LVs), y.toInt.natAbs < n → (R = [(0, .long a), (2, .long b)] ∨ ∃ w, R = [(8, .long w), (0, .long a), (2, .long b)]) → (¬ x = 0 ∨ ¬ y = 0) → TT tMT ro tFty tDfl d 227 F 6 ((6, .long y) :: (4, .long x) :: R) [] (fun v F1 => F1 = F ∧ ∃ z : Int64, v = some (.long z) ∧ ¬ z = 0) := by
  intro n
  induction n with
  | zero => intro x y R h; omega
  | succ n ih =>
    intro x y R hn hR hxy
    have hf8 : ∀ r, m_put2 ((6, Value.long y) :: (4, .long x) :: R) 8 (.long r) = [(8, .long r), (6, .long y), (4, .long x), (0, .long a), (2, .long b)] := by
      intro r
      rcases hR with rfl | ⟨w, rfl⟩
      · rfl
      · rfl
    refine TT.one (at227 _) (q := (F, 8, _, [.long y])) rfl ?_
    refine TT.one (at227 _) (q := (F, 9, _, [.long 0, .long y])) rfl ?_
    refine TT.one (at227 _) (q := (F, 10, _, [.int (lg_cmp y 0)])) rfl ?_
    by_cases hy : y = 0
    · subst hy
      refine TT.one (at227 _) (q := (F, 31, _, [])) rfl ?_
      refine TT.one (at227 _) (q := (F, 33, _, [.long x])) rfl ?_
      refine TT.ret (at227 _) (v := some (.long x)) rfl rfl ⟨rfl, x, rfl, ?_⟩
      rcases hxy with h | h
      · exact h
      · exact absurd rfl h
    · have hy0 : ¬ y.toInt = 0 := fun h => hy (by rw [← Int64.toInt_inj, h]; rfl)
      have hc : m_cmp .eq (lg_cmp y 0) 0 = false := by
        rw [lg_cz]
        simp only [cz, Int64.toInt_zero]
        exact decide_eq_false hy0
      refine TT.one (at227 _) (q := (F, 13, (6, .long y) :: (4, .long x) :: R, [])) ?_ ?_
      · exact one_br (E := (10, .ifCond .eq 21, 3, 0, 0, 0)) (Or.inr (Or.inl ⟨_, _, rfl⟩)) (st := [.int (lg_cmp y 0)]) (q := (13, [])) (by show m_if 10 21 (m_cmp .eq (lg_cmp y 0) 0) [] = some (13, []); rw [hc]; rfl) F _
      refine TT.one (at227 _) (q := (F, 15, _, [.long x])) rfl ?_
      refine TT.one (at227 _) (q := (F, 17, _, [.long y, .long x])) rfl ?_
      refine TT.one (at227 _) (q := (F, 18, (6, .long y) :: (4, .long x) :: R, [.long (x - x / y * y)])) ?_ ?_
      · exact one_alu (E := (17, .lrem, 1, 0, 0, 0)) (by simp [m_d64]) (alu_d64 (i := .lrem) rfl x y hy []) F _
      refine TT.one (at227 _) (q := (F, 20, m_put2 ((6, .long y) :: (4, .long x) :: R) 8 (.long (x - x / y * y)), [])) rfl ?_
      rw [hf8]
      refine TT.one (at227 _) (q := (F, 22, _, [.long y])) rfl ?_
      refine TT.one (at227 _) (q := (F, 24, m_put2 [(8, .long (x - x / y * y)), (6, .long y), (4, .long x), (0, .long a), (2, .long b)] 4 (.long y), [])) rfl ?_
      have e4 : m_put2 [(8, .long (x - x / y * y)), (6, .long y), (4, .long x), (0, .long a), (2, .long b)] 4 (.long y) = [(4, .long y), (8, .long (x - x / y * y)), (6, .long y), (0, .long a), (2, .long b)] := rfl
      rw [e4]
      refine TT.one (at227 _) (q := (F, 26, _, [.long (x - x / y * y)])) rfl ?_
      refine TT.one (at227 _) (q := (F, 28, m_put2 [(4, .long y), (8, .long (x - x / y * y)), (6, .long y), (0, .long a), (2, .long b)] 6 (.long (x - x / y * y)), [])) rfl ?_
      have e6 : m_put2 [(4, .long y), (8, .long (x - x / y * y)), (6, .long y), (0, .long a), (2, .long b)] 6 (.long (x - x / y * y)) = (6, .long (x - x / y * y)) :: (4, .long y) :: [(8, .long (x - x / y * y)), (0, .long a), (2, .long b)] := rfl
      rw [e6]
      refine TT.one (at227 _) (q := (F, 6, _, [])) rfl ?_
      exact ih y _ _ (by have := z_rem64 x y hy; omega) (Or.inr ⟨_, rfl⟩) (Or.inl hy)
theorem common_ok (a b : Int64) (ha : ¬ a = 0) : TT tMT ro tFty tDfl d 227 F 0 (lv_args 0 [.long a, .long b]) [] (fun v F1 => F1 = F ∧ ∃ z : Int64, v = some (.long z) ∧ ¬ z = 0) := by
  have e0 : lv_args 0 [.long a, .long b] = [(0, .long a), (2, .long b)] := rfl
  rw [e0]
  refine TT.one (at227 _) (q := (F, 1, _, [.long a])) rfl ?_
  refine TT.one (at227 _) (q := (F, 3, [(4, .long a), (0, .long a), (2, .long b)], [])) rfl ?_
  refine TT.one (at227 _) (q := (F, 4, _, [.long b])) rfl ?_
  refine TT.one (at227 _) (q := (F, 6, [(6, .long b), (4, .long a), (0, .long a), (2, .long b)], [])) rfl ?_
  exact common_loop a b _ a b _ (Nat.lt_succ_self _) (Or.inl rfl) (Or.inl ha)
theorem told_one (a b : Int64) (w : Int32) {lv : LVs} (h0 : m_get lv 0 = some (.long b)) (h2 : m_get lv 2 = some (.long a)) (h4 : m_get lv 4 = some (.int w)) (ha : ¬ a = 0) : TT tMT ro tFty tDfl (d + 1) 226 F 0 lv [] (fun v F1 => F1 = F ∧ ∃ z : Int64, v = some (.long z)) := by
  have p0 : m_push (1, .lload_n 0, 1, 0, 0, 0) lv = some (.long b) := by show (m_get lv 0).filter m_isL = _; rw [h0]; rfl
  have p2 : m_push (0, .lload_n 2, 1, 0, 0, 0) lv = some (.long a) := by show (m_get lv 2).filter m_isL = _; rw [h2]; rfl
  refine TT.one (at226 _) (q := (F, 1, lv, [.long a])) ?_ ?_
  · unfold m_one; rw [p2]; rfl
  refine TT.one (at226 _) (q := (F, 2, lv, [.long b, .long a])) ?_ ?_
  · unfold m_one; rw [p0]; rfl
  refine TT.call (at226 _) (q := (227, [.long a, .long b], [])) rfl rfl rfl (by simp) (by simp) rfl ?_
  refine (common_ok a b ha).imp (fun v F1 hv => ?_)
  obtain ⟨rfl, z, rfl, hz⟩ := hv
  have g0 : m_get (m_put2 lv 5 (.long z)) 0 = some (.long b) := m_get_put2 h0 (by decide) (by decide) (by simp)
  have g2 : m_get (m_put2 lv 5 (.long z)) 2 = some (.long a) := m_get_put2 h2 (by decide) (by decide) (by simp)
  have g4 : m_get (m_put2 lv 5 (.long z)) 4 = some (.int w) := m_get_put2 h4 (by decide) (by decide) (by intro h; cases h.2)
  have g5 : m_get (m_put2 lv 5 (.long z)) 5 = some (.long z) := m_get_same2
  refine TT.one (at226 _) (q := (F1, 7, m_put2 lv 5 (.long z), [])) rfl ?_
  revert g0 g2 g4 g5
  generalize m_put2 lv 5 (.long z) = lw
  intro g0 g2 g4 g5
  refine TT.one (at226 _) (q := (F1, 9, lw, [.int w])) ?_ ?_
  · have e : m_push (7, .iload 4, 2, 0, 0, 0) lw = some (.int w) := by show (m_get lw 4).filter m_isI = _; rw [g4]; rfl
    unfold m_one; rw [e]; rfl
  by_cases hw : m_cmp .ne w 0 = true
  · refine TT.one (at226 _) (q := (F1, 19, lw, [])) ?_ ?_
    · exact one_br (E := (9, .ifCond .ne 10, 3, 0, 0, 0)) (Or.inr (Or.inl ⟨_, _, rfl⟩)) (st := [.int w]) (q := (19, [])) (by show m_if 9 10 (m_cmp .ne w 0) [] = some (19, []); rw [hw]; rfl) F1 _
    refine TT.one (at226 _) (q := (F1, 20, lw, [.long a])) ?_ ?_
    · have e : m_push (19, .lload_n 2, 1, 0, 0, 0) lw = some (.long a) := by show (m_get lw 2).filter m_isL = _; rw [g2]; rfl
      unfold m_one; rw [e]; rfl
    refine TT.one (at226 _) (q := (F1, 22, lw, [.long z, .long a])) ?_ ?_
    · have e : m_push (20, .lload 5, 2, 0, 0, 0) lw = some (.long z) := by show (m_get lw 5).filter m_isL = _; rw [g5]; rfl
      unfold m_one; rw [e]; rfl
    refine TT.one (at226 _) (q := (F1, 23, lw, [.long (a / z)])) ?_ ?_
    · exact one_alu (E := (22, .ldiv, 1, 0, 0, 0)) (by simp [m_d64]) (alu_d64 (i := .ldiv) rfl a z hz []) F1 _
    exact TT.ret (at226 _) (v := some (.long (a / z))) rfl rfl ⟨rfl, _, rfl⟩
  · refine TT.one (at226 _) (q := (F1, 12, lw, [])) ?_ ?_
    · exact one_br (E := (9, .ifCond .ne 10, 3, 0, 0, 0)) (Or.inr (Or.inl ⟨_, _, rfl⟩)) (st := [.int w]) (q := (12, [])) (by show m_if 9 10 (m_cmp .ne w 0) [] = some (12, []); rw [eq_false_of_ne_true hw]; rfl) F1 _
    refine TT.one (at226 _) (q := (F1, 13, lw, [.long b])) ?_ ?_
    · have e : m_push (12, .lload_n 0, 1, 0, 0, 0) lw = some (.long b) := by show (m_get lw 0).filter m_isL = _; rw [g0]; rfl
      unfold m_one; rw [e]; rfl
    refine TT.one (at226 _) (q := (F1, 15, lw, [.long z, .long b])) ?_ ?_
    · have e : m_push (13, .lload 5, 2, 0, 0, 0) lw = some (.long z) := by show (m_get lw 5).filter m_isL = _; rw [g5]; rfl
      unfold m_one; rw [e]; rfl
    refine TT.one (at226 _) (q := (F1, 16, lw, [.long (b / z)])) ?_ ?_
    · exact one_alu (E := (15, .ldiv, 1, 0, 0, 0)) (by simp [m_d64]) (alu_d64 (i := .ldiv) rfl b z hz []) F1 _
    refine TT.one (at226 _) (q := (F1, 23, lw, [.long (b / z)])) rfl ?_
    exact TT.ret (at226 _) (v := some (.long (b / z))) rfl rfl ⟨rfl, _, rfl⟩
theorem told_nd {Γ : Nat → Option Nat} : n_wfA nd9 = true ∧ ∀ ws f F, okN Γ tSets ro nd9 ws f F → WT Γ tSets tRoles ro F → TT tMT ro tFty tDfl nd9.dep f.1 F f.2.1 f.2.2.1 f.2.2.2 (n_posts Γ tSets tRoles ro nd9 ws F) := by
  refine ⟨by decide +kernel, fun ws f F hok hW => ?_⟩
  obtain ⟨⟨-, hf, -, -, -, -, hlen⟩, hpa⟩ := hok
  obtain ⟨fm, fp, lv, st⟩ := f
  obtain ⟨e1, e2, e3, e4⟩ := hf
  obtain ⟨v0, q0, m0⟩ := e3 (0, (0, 1, -9223372036854775808, 9223372036854775807, [])) (by simp [n_st, nd9, ND.lc, n_av, ND.pa])
  obtain ⟨v1, q1, m1⟩ := e3 (2, (1, 1, 1, 100000000, [])) (by simp [n_st, nd9, ND.lc, n_av, ND.pa])
  obtain ⟨v2, q2, m2⟩ := e3 (4, (2, 0, -2147483648, 2147483647, [])) (by simp [n_st, nd9, ND.lc, n_av, ND.pa])
  obtain ⟨u0, r0, o0, -⟩ := hpa (0, 1, -9223372036854775808, 9223372036854775807, []) (by simp [nd9, ND.pa])
  obtain ⟨u1, r1, o1, -⟩ := hpa (1, 1, 1, 100000000, []) (by simp [nd9, ND.pa])
  obtain ⟨u2, r2, o2, -⟩ := hpa (2, 0, -2147483648, 2147483647, []) (by simp [nd9, ND.pa])
  cases r0.symm.trans q0
  cases r1.symm.trans q1
  cases r2.symm.trans q2
  obtain ⟨⟨b, rfl⟩, -, -⟩ := (show isJ v0 ∧ _ from o0)
  obtain ⟨⟨a, rfl⟩, a1, -⟩ := (show isJ v1 ∧ _ ∧ _ from o1)
  obtain ⟨⟨w, rfl⟩, -, -⟩ := (show isI v2 ∧ _ from o2)
  have hst : st = [] := by
    have : st.map some = ([] : List (Option Value)) := e4
    exact List.map_eq_nil_iff.mp this
  cases (show (226 : Nat) = fm from e1)
  cases (show (0 : Nat) = fp from e2)
  subst hst
  have ha : ¬ a = 0 := by
    intro h
    subst h
    exact absurd a1 (by decide)
  refine (told_one (d := 1) a b w m0 m1 m2 ha).imp (fun v F1 hv => ?_)
  obtain ⟨rfl, z, rfl⟩ := hv
  refine ⟨nd9, List.mem_cons_self, hW, ?_, [.long z], rfl, ?_, ?_, ?_⟩
  · intro a r k c0 c _ _ h0 h1
    cases h0.symm.trans h1
    exact ⟨rfl, rfl⟩
  · have h3 : ws.length = 3 := hlen.symm
    show [some (Value.long z)] = [(ws ++ [.long z])[3]?]
    rw [List.getElem?_append_right (by omega), h3]
    rfl
  · intro x hx
    have h3 : ws.length = 3 := hlen.symm
    cases (show x = (3, 1, -9223372036854775808, 9223372036854775807, []) from List.mem_singleton.mp hx)
    refine ⟨.long z, ?_, okE_long (z_rngL z).1 (z_rngL z).2, fun r hr => by cases hr⟩
    rw [List.getElem?_append_right (by omega), h3]
    rfl
  · intro q hq
    cases hq
end Told
end
section
/-! THE START: what the constructors do does not hang on the cells that nobody writes -/
noncomputable def ro0 : Nat → Option MC := fun _ => none
section ExRo
variable {MT : List MM} {ro : Nat → Option MC} {fty : Nat → Nat → FieldType} {dfl : Nat → List Value}
theorem cell_ro {F : MH} {a : Nat} {c : MC} (h : m_cell ro0 F a = some c) : m_cell ro F a = some c := by
  unfold m_cell at *
  split at h
  · rename_i hk; rw [if_pos hk]; exact h
  · cases h
theorem rd_ro {F : MH} {E : MI} {st st1 : List Value} (h : m_rd ro0 F E st = some st1) : m_rd ro F E st = some st1 := by
  unfold m_rd at *
  split at h
  · split at h
    · split at h
      · rename_i hc
        rw [cell_ro hc]; exact h
      · cases h
    · cases h
  · split at h
    · split at h
      · cases h
      · cases h
    · cases h
  · split at h
    · split at h
      · rename_i hc
        rw [cell_ro hc]; exact h
      · cases h
    · cases h
  · split at h
    · split at h
      · rename_i hc
        rw [cell_ro hc]; exact h
      · cases h
    · cases h
  · split at h
    · split at h
      · rename_i hc
        rw [cell_ro hc]; exact h
      · cases h
    · cases h
  · cases h
theorem wr_rd {F : MH} {E : MI} {st : List Value} {q : MH × List Value} (h : m_wr fty dfl F E st = some q) : m_rd ro F E st = none := by
  unfold m_rd
  split <;> first | rfl | (rename_i he; unfold m_wr at h; rw [he] at h; cases h)
theorem one_ro {E : MI} {F : MH} {lv : LVs} {st : List Value} {q : MS} (h : m_one ro0 fty dfl E F lv st = some q) : m_one ro fty dfl E F lv st = some q := by
  unfold m_one at *
  split at h
  · exact h
  split at h
  · exact h
  split at h
  · exact h
  split at h
  · exact h
  split at h
  · exact h
  split at h
  · rename_i hr
    rw [rd_ro hr]; exact h
  split at h
  · rename_i hw
    rw [wr_rd hw]; exact h
  · cases h
theorem iv_ro {E : MI} {st : List Value} {f g : Nat → Bool} {q : Nat × List Value × List Value} (hfg : ∀ a, f a = true → g a = true) (h : m_iv E st f = some q) : m_iv E st g = some q := by
  unfold m_iv at *
  split at h
  · rename_i hc
    rw [if_pos hc]
    split at h
    · split at h
      · rename_i hk
        rw [if_pos (hfg _ hk)]; exact h
      · cases h
    · cases h
  · cases h
theorem inv_ro {E : MI} {F : MH} {st : List Value} {q : Nat × List Value × List Value} (h : m_inv ro0 F E st = some q) : m_inv ro F E st = some q := by
  unfold m_inv at *
  split at h
  · exact h
  · exact h
  · refine iv_ro (fun a ha => ?_) h
    unfold m_rc at *
    split at ha
    · rename_i hc
      rw [cell_ro hc]; exact ha
    · cases ha
  · cases h
theorem inv_kind {E : MI} {F : MH} {st : List Value} {q : Nat × List Value × List Value} (h : m_inv ro0 F E st = some q) : (∃ i, E.2.1 = .invokestatic i) ∨ (∃ i, E.2.1 = .invokespecial i) ∨ (∃ i, E.2.1 = .invokevirtual i) := by
  unfold m_inv at h
  split at h
  · rename_i i he; exact Or.inl ⟨_, he⟩
  · rename_i i he; exact Or.inr (Or.inl ⟨_, he⟩)
  · rename_i i he; exact Or.inr (Or.inr ⟨_, he⟩)
  · cases h
theorem ret_kind {rt : Option FieldType} {E : MI} {F : MH} {lv : LVs} {st : List Value} {v : Option Value} (h : m_ret rt E st = some v) : m_one ro fty dfl E F lv st = none := by
  obtain ⟨pc, i, len, a0, b0, z0⟩ := E
  unfold m_ret at h
  simp only at h
  split at h
  · rfl
  · rfl
  · rfl
  · cases h
theorem ex_ro : ∀ (n d mi : Nat) (F : MH) (pc : Nat) (lv : LVs) (st : List Value) (z : Option Value × MH), ex MT ro0 fty dfl n d mi F pc lv st = some z → ex MT ro fty dfl n d mi F pc lv st = some z := by
  intro n
  induction n with
  | zero => intro d mi F pc lv st z h; cases h
  | succ n ih =>
    intro d mi F pc lv st z h
    rw [ex] at h
    split at h
    · cases h
    · rename_i E hE
      split at h
      · rename_i q hq
        rw [ex, hE]; simp only; rw [one_ro hq]
        exact ih _ _ _ _ _ _ _ h
      · rename_i hq
        split at h
        · rename_i v hv
          rw [ex, hE]; simp only; rw [ret_kind hv]; simp only; rw [hv]
          exact h
        · rename_i hv
          split at h
          · cases h
          · rename_i q hi
            have ho := (one_inv (ro := ro) (fty := fty) (dfl := dfl) (inv_kind hi) F lv st E.2).1
            split at h
            · rename_i h9
              split at h
              · rename_i a ha
                split at h
                · rename_i hk
                  rw [ex, hE]; simp only; rw [ho]; simp only; rw [hv]; simp only; rw [inv_ro hi]; simp only; rw [if_pos h9, ha]; simp only; rw [if_pos hk]
                  exact ih _ _ _ _ _ _ _ h
                · cases h
              · cases h
            · rename_i h9
              split at h
              · rename_i h8
                split at h
                · rename_i x y hxy
                  rw [ex, hE]; simp only; rw [ho]; simp only; rw [hv]; simp only; rw [inv_ro hi]; simp only; rw [if_neg h9, if_pos h8, hxy]
                  exact ih _ _ _ _ _ _ _ h
                · cases h
              · rename_i h8
                split at h
                · rename_i hr
                  split at h
                  · cases h
                  · rename_i d'
                    split at h
                    · cases h
                    · rename_i z1 hz1
                      rw [ex, hE]; simp only; rw [ho]; simp only; rw [hv]; simp only; rw [inv_ro hi]; simp only; rw [if_neg h9, if_neg h8, if_pos hr]
                      rw [ih _ _ _ _ _ _ _ hz1]
                      exact ih _ _ _ _ _ _ _ h
                · cases h
end ExRo
/-! NOTHING IS MADE BEHIND THE START -/
noncomputable def nwI (i : Instr) : Bool := match i with | .new _ => true | .newarray _ => true | .anewarray _ => true | _ => false
noncomputable def offsI (i : Instr) : Option (List Int) := match i with
  | .goto o => some [o]
  | .ifCond _ o => some [o]
  | .if_icmp _ o => some [o]
  | .tableswitch d _ _ offs => some (d :: offs.toList)
  | .lookupswitch _ _ => none
  | _ => some []
section Keep
variable {MT : List MM} {ro : Nat → Option MC} {fty : Nat → Nat → FieldType} {dfl : Nat → List Value}
theorem wr_keep {E : MI} {F : MH} {st : List Value} {q : MH × List Value} (hn : nwI E.2.1 = false) (h : m_wr fty dfl F E st = some q) : q.1.length = F.length ∧ mz q.1 = mz F := by
  unfold m_wr at h
  split at h
  · split at h
    · split at h
      · rename_i hc
        split at h
        · cases h
          exact ⟨by simp, mz_set _ _ _ _ hc (by simp [mzC])⟩
        · cases h
      · cases h
    · cases h
  · split at h
    · split at h
      · rename_i hc
        split at h
        · cases h
          exact ⟨by simp, mz_set _ _ _ _ hc (by simp [mzC])⟩
        · cases h
      · cases h
    · cases h
  · split at h
    · split at h
      · rename_i hc
        split at h
        · cases h
          exact ⟨by simp, mz_set _ _ _ _ hc (by simp [mzC])⟩
        · cases h
      · cases h
    · cases h
  · split at h
    · split at h
      · rename_i hc _
        split at h
        · cases h
          exact ⟨by simp, mz_set _ _ _ _ hc (by simp [mzC])⟩
        · cases h
      · cases h
    · cases h
  · rename_i he; rw [he] at hn; cases hn
  · rename_i he; rw [he] at hn; cases hn
  · rename_i he; rw [he] at hn; cases hn
  · cases h
theorem one_keep {E : MI} {F : MH} {lv : LVs} {st : List Value} {q : MS} (hn : nwI E.2.1 = false) (h : m_one ro fty dfl E F lv st = some q) : q.1.length = F.length ∧ mz q.1 = mz F := by
  unfold m_one at h
  split at h
  · cases h; exact ⟨rfl, rfl⟩
  split at h
  · cases h; exact ⟨rfl, rfl⟩
  split at h
  · cases h; exact ⟨rfl, rfl⟩
  split at h
  · cases h; exact ⟨rfl, rfl⟩
  split at h
  · cases h; exact ⟨rfl, rfl⟩
  split at h
  · cases h; exact ⟨rfl, rfl⟩
  split at h
  · rename_i hw
    cases h
    exact wr_keep hn hw
  · cases h
theorem to_spec {pc t : Nat} {o : Int} (h : m_to pc o = some t) : (t : Int) = pc + o := by
  unfold m_to at h
  split at h
  · cases h; omega
  · cases h
theorem br_pc {E : MI} {st : List Value} {q : Nat × List Value} {l : List Int} (hl : offsI E.2.1 = some l) (h : m_br E st = some q) : q.1 = E.1 + 3 ∨ ∃ o ∈ l, (q.1 : Int) = E.1 + o := by
  unfold m_br at h
  split at h
  · rename_i he
    rw [he] at hl; cases hl
    obtain ⟨t, ht, rfl⟩ := Option.map_eq_some_iff.mp h
    exact Or.inr ⟨_, List.mem_cons_self, to_spec ht⟩
  · rename_i he
    rw [he] at hl; cases hl
    split at h
    · obtain ⟨t, ht, rfl⟩ := Option.map_eq_some_iff.mp h
      simp only
      split
      · exact Or.inr ⟨_, List.mem_cons_self, to_spec ht⟩
      · exact Or.inl rfl
    · cases h
  · rename_i he
    rw [he] at hl; cases hl
    split at h
    · obtain ⟨t, ht, rfl⟩ := Option.map_eq_some_iff.mp h
      simp only
      split
      · exact Or.inr ⟨_, List.mem_cons_self, to_spec ht⟩
      · exact Or.inl rfl
    · cases h
  · rename_i he
    rw [he] at hl; cases hl
    split at h
    · split at h
      · obtain ⟨t, ht, rfl⟩ := Option.map_eq_some_iff.mp h
        exact Or.inr ⟨_, List.mem_cons_self, to_spec ht⟩
      · split at h
        · rename_i ho
          obtain ⟨t, ht, rfl⟩ := Option.map_eq_some_iff.mp h
          exact Or.inr ⟨_, List.mem_cons_of_mem _ (Array.mem_toList_iff.mpr (Array.mem_of_getElem? ho)), to_spec ht⟩
        · cases h
    · cases h
  · rename_i he
    rw [he] at hl; cases hl
  · cases h
theorem one_pc {E : MI} {F : MH} {lv : LVs} {st : List Value} {q : MS} {l : List Int} (hl : offsI E.2.1 = some l) (h : m_one ro fty dfl E F lv st = some q) : q.2.1 = E.1 + E.2.2.1 ∨ q.2.1 = E.1 + 3 ∨ ∃ o ∈ l, (q.2.1 : Int) = E.1 + o := by
  unfold m_one at h
  split at h
  · cases h; exact Or.inl rfl
  split at h
  · cases h; exact Or.inl rfl
  split at h
  · cases h; exact Or.inl rfl
  split at h
  · cases h; exact Or.inl rfl
  split at h
  · rename_i hb
    cases h
    exact Or.inr (br_pc hl hb)
  split at h
  · cases h; exact Or.inl rfl
  split at h
  · cases h; exact Or.inl rfl
  · cases h
theorem inv_tgt {E : MI} {F : MH} {st : List Value} {q : Nat × List Value × List Value} (h : m_inv ro F E st = some q) : q.1 = E.2.2.2.1 := by
  have iv : ∀ f, m_iv E st f = some q → q.1 = E.2.2.2.1 := by
    intro f h
    unfold m_iv at h
    split at h
    · split at h
      · split at h
        · cases h; rfl
        · cases h
      · cases h
    · cases h
  unfold m_inv at h
  split at h
  · split at h
    · cases h; rfl
    · cases h
  · exact iv _ h
  · exact iv _ h
  · cases h
/-- places from which nothing is made -/
noncomputable def okp (MT : List MM) (p : Nat → Nat → Bool) : Prop := ∀ mi pc E, p mi pc = true → m_at MT mi pc = some E → nwI E.1.2.1 = false ∧ (∀ ro F lv st q, m_one ro tFty tDfl E.1 F lv st = some q → p mi q.2.1 = true) ∧ p mi (pc + 3) = true ∧ (∀ (ro : Nat → Option MC) (F : MH) st q, m_inv ro F E.1 st = some q → q.1 = 9999 ∨ q.1 = 9998 ∨ p q.1 0 = true)
theorem ex_keep {p : Nat → Nat → Bool} (hp : okp MT p) : ∀ (n d mi : Nat) (F : MH) (pc : Nat) (lv : LVs) (st : List Value) (z : Option Value × MH), p mi pc = true → ex MT ro tFty tDfl n d mi F pc lv st = some z → z.2.length = F.length ∧ mz z.2 = mz F := by
  intro n
  induction n with
  | zero => intro d mi F pc lv st z _ h; cases h
  | succ n ih =>
    intro d mi F pc lv st z hpc h
    rw [ex] at h
    split at h
    · cases h
    · rename_i E hE
      obtain ⟨o1, o2, o3, o4⟩ := hp mi pc E hpc hE
      split at h
      · rename_i q hq
        have h1 := one_keep o1 hq
        have h2 := ih _ _ _ _ _ _ _ (o2 _ _ _ _ _ hq) h
        exact ⟨h2.1.trans h1.1, h2.2.trans h1.2⟩
      · split at h
        · cases h; exact ⟨rfl, rfl⟩
        · split at h
          · cases h
          · rename_i q hi
            split at h
            · split at h
              · split at h
                · exact ih _ _ _ _ _ _ _ o3 h
                · cases h
              · cases h
            · rename_i h9
              split at h
              · split at h
                · exact ih _ _ _ _ _ _ _ o3 h
                · cases h
              · rename_i h8
                split at h
                · split at h
                  · cases h
                  · split at h
                    · cases h
                    · rename_i z1 hz1
                      have h1 := ih _ _ _ _ _ _ _ (((o4 _ _ _ _ hi).resolve_left h9).resolve_left h8) hz1
                      have h2 := ih _ _ _ _ _ _ _ o3 h
                      exact ⟨h2.1.trans h1.1, h2.2.trans h1.2⟩
                · cases h
end Keep
end
section
/-! THE START: the constructors' run, the cells then -/
noncomputable def invI (i : Instr) : Bool := match i with | .invokestatic _ => true | .invokespecial _ => true | .invokevirtual _ => true | _ => false
noncomputable def okM (M : MM) : Bool := M.2.2.2.2.all (fun E => !(nwI E.2.1))
noncomputable def tP (mi pc : Nat) : Bool := if mi = 0 then decide (18 ≤ pc) else (match tMT[mi]? with | some M => okM M | none => false)
noncomputable def tgt (E : MI) : Bool := !(invI E.2.1) || (E.2.2.2.1 == 9999 || (E.2.2.2.1 == 9998 || tP E.2.2.2.1 0))
noncomputable def chkA : Bool := tMT.all (fun M => !(okM M) || M.2.2.2.2.all tgt)
noncomputable def chkB : Bool := cL0.all (fun E => decide (E.1 < 18) || (!(nwI E.2.1) && ((match offsI E.2.1 with | some l => l.all (fun o => decide (18 ≤ (E.1 : Int) + o)) | none => false) && tgt E)))
set_option maxRecDepth 100000 in
theorem chkA_ok : chkA = true := by decide +kernel
set_option maxRecDepth 100000 in
theorem chkB_ok : chkB = true := by decide +kernel
theorem inv_isI {ro : Nat → Option MC} {E : MI} {F : MH} {st : List Value} {q : Nat × List Value × List Value} (h : m_inv ro F E st = some q) : invI E.2.1 = true := by
  unfold m_inv at h
  split at h
  · rename_i he; rw [he]; rfl
  · rename_i he; rw [he]; rfl
  · rename_i he; rw [he]; rfl
  · cases h
theorem tgt_ok {ro : Nat → Option MC} {E : MI} {F : MH} {st : List Value} {q : Nat × List Value × List Value} (ht : tgt E = true) (h : m_inv ro F E st = some q) : q.1 = 9999 ∨ q.1 = 9998 ∨ tP q.1 0 = true := by
  unfold tgt at ht
  rw [inv_isI h] at ht
  simp only [Bool.not_true, Bool.false_or, Bool.or_eq_true, beq_iff_eq] at ht
  rw [inv_tgt h]
  exact ht
theorem tP_ok : okp tMT tP := by
  intro mi pc E hp hE
  unfold m_at at hE
  split at hE
  · rename_i M hM
    obtain ⟨E0, hf, rfl⟩ := Option.map_eq_some_iff.mp hE
    have hmem := List.mem_of_find?_eq_some hf
    have hpc : E0.1 = pc := by have := List.find?_some hf; simpa using this
    by_cases h0 : mi = 0
    · subst h0
      have hM0 : M = cM0 := by
        have : tMT[0]? = some cM0 := rfl
        exact (Option.some.inj (this.symm.trans hM)).symm
      subst hM0
      have h18 : 18 ≤ pc := by simpa [tP] using hp
      have hb := List.all_eq_true.mp chkB_ok E0 hmem
      rw [Bool.or_eq_true] at hb
      rcases hb with hb | hb
      · exact absurd (of_decide_eq_true hb) (by omega)
      · simp only [Bool.and_eq_true] at hb
        obtain ⟨b1, b2, b3⟩ := hb
        refine ⟨by simpa using b1, ?_, by simp [tP]; omega, fun ro F st q hq => tgt_ok b3 hq⟩
        intro ro F lv st q hq
        split at b2
        · rename_i l hl
          rcases one_pc hl hq with h | h | ⟨o, ho, h⟩
          · simp only [tP, if_true, decide_eq_true_eq]; rw [h]; omega
          · simp only [tP, if_true, decide_eq_true_eq]; rw [h]; omega
          · have := of_decide_eq_true (List.all_eq_true.mp b2 o ho)
            simp only [tP, if_true, decide_eq_true_eq]; omega
        · cases b2
    · have hall : ∀ pc', tP mi pc' = true := by
        intro pc'
        unfold tP at *
        rw [if_neg h0] at *
        exact hp
      have hok : okM M = true := by
        have := hall 0
        unfold tP at this
        rw [if_neg h0, hM] at this
        exact this
      have ha := List.all_eq_true.mp chkA_ok M (List.mem_of_getElem? hM)
      rw [hok] at ha
      simp only [Bool.not_true, Bool.false_or] at ha
      refine ⟨?_, fun ro F lv st q _ => hall _, hall _, fun ro F st q hq => tgt_ok (List.all_eq_true.mp ha E0 hmem) hq⟩
      have := List.all_eq_true.mp hok E0 hmem
      simpa using this
  · cases hE
noncomputable def okEB (e : Nat × Int × Int) (v : Value) : Bool := match v with
  | .int x => (e.1 == 0 && decide (e.2.1 ≤ x.toInt ∧ x.toInt ≤ e.2.2)) || (decide (10 ≤ e.1) && (decide (e.2.1 ≤ x.toInt ∧ x.toInt ≤ e.2.2) && (tSets.getD (e.1 - 10) []).contains x.toInt))
  | .long x => e.1 == 1 && decide (e.2.1 ≤ x.toInt ∧ x.toInt ≤ e.2.2)
  | .ref a => e.1 == 2 && tGam a == some e.2.1.toNat
  | _ => false
theorem okEB_ok {e : Nat × Int × Int} {v : Value} (h : okEB e v = true) : okE tGam tSets e.1 e.2.1 e.2.2 v := by
  unfold okEB at h
  unfold okE
  split at h
  · simp only [Bool.or_eq_true, Bool.and_eq_true, beq_iff_eq, decide_eq_true_eq] at h
    rcases h with ⟨h1, h2⟩ | ⟨h1, h2, h3⟩
    · rw [if_pos h1]; exact ⟨⟨_, rfl⟩, h2.1, h2.2⟩
    · rw [if_neg (by omega), if_neg (by omega), if_neg (by omega), if_pos h1]
      exact ⟨⟨_, rfl⟩, h2.1, h2.2, List.contains_iff_mem.mp h3⟩
  · simp only [Bool.and_eq_true, beq_iff_eq, decide_eq_true_eq] at h
    rw [if_neg (by omega), if_pos h.1]; exact ⟨⟨_, rfl⟩, h.2.1, h.2.2⟩
  · simp only [Bool.and_eq_true, beq_iff_eq] at h
    rw [if_neg (by omega), if_neg (by omega), if_pos h.1]; exact ⟨_, rfl, h.2⟩
  · cases h
noncomputable def okLB : List (Nat × Int × Int) → List Value → Bool
  | [], [] => true
  | e :: es, v :: l => okEB e v && okLB es l
  | _, _ => false
theorem okLB_ok : ∀ (es : List (Nat × Int × Int)) (l : List Value), okLB es l = true → okL tGam tSets es l
  | [], [], _ => ⟨rfl, fun k e h => by simp at h⟩
  | e :: es, v :: l, h => by
    rw [okLB, Bool.and_eq_true] at h
    obtain ⟨i1, i2⟩ := okLB_ok es l h.2
    refine ⟨by simp [i1], fun k e' hk => ?_⟩
    cases k with
    | zero => simp at hk; subst hk; exact ⟨v, by simp, okEB_ok h.1⟩
    | succ k => simp at hk; simpa using i2 k e' hk
  | [], _ :: _, h => by cases h
  | _ :: _, [], h => by cases h
noncomputable def cellB (rd : RD) (c : MC) : Bool := match c with
  | .inl q => rd.1 == 0 && (q.1 == rd.2.1 && okLB rd.2.2 (cont c))
  | .inr (.inl q) => rd.1 == 1 && (q.1 == rd.2.1 && okLB rd.2.2 (cont c))
  | .inr (.inr q) => rd.1 == 2 && (q.1 == rd.2.1 && okLB rd.2.2 (cont c))
theorem cellB_ok {rd : RD} {c : MC} (h : cellB rd c = true) : okCell tGam tSets rd c := by
  unfold cellB at h
  unfold okCell
  split at h
  · rename_i q
    simp only [Bool.and_eq_true, beq_iff_eq] at h
    exact Or.inl ⟨h.1, ⟨q.2, by rw [← h.2.1]⟩, okLB_ok _ _ h.2.2⟩
  · rename_i q
    simp only [Bool.and_eq_true, beq_iff_eq] at h
    exact Or.inr (Or.inl ⟨h.1, ⟨q.2, by rw [← h.2.1]⟩, okLB_ok _ _ h.2.2⟩)
  · rename_i q
    simp only [Bool.and_eq_true, beq_iff_eq] at h
    exact Or.inr (Or.inr (Or.inl ⟨h.1, ⟨q.2, by rw [← h.2.1]⟩, okLB_ok _ _ h.2.2⟩))
noncomputable def wtB (F : MH) : Bool := (List.range 141).all (fun a => match tGamL[a]? with
  | some r => (match tRoles[r]? with
    | some rd => (match F[a]? with | some c => cellB rd c | none => false)
    | none => true)
  | none => true)
noncomputable def rowsB (F : MH) : Bool := F.all (fun c => match c with | .inr (.inr q) => q.2.all (fun o => match o with | some x => decide (x < KB) | none => true) | _ => true)
noncomputable def lawW : List Value := [.ref KB, .ref 0, .ref 129, .int 0]
noncomputable def eqV (v w : Value) : Bool := match v, w with
  | .int x, .int y => decide (x = y)
  | .ref a, .ref b => decide (a = b)
  | _, _ => false
theorem eqV_ok {v w : Value} (h : eqV v w = true) : v = w := by
  unfold eqV at h
  split at h
  · rw [of_decide_eq_true h]
  · rw [of_decide_eq_true h]
  · cases h
noncomputable def faB (F : MH) (q : Nat × Nat × Nat × Nat) : Bool := match lawW[q.1]?, lawW[q.2.2.2]? with
  | some (.ref a), some v => decide (a < KB) && (tGam a == some q.2.1 && (!(q.2.2.1 == 5000) && (match F[a]? with | some c => (match (cont c)[q.2.2.1]? with | some w => eqV w v | none => false) | none => false)))
  | _, _ => false
theorem faB_ok {ro : Nat → Option MC} {F : MH} {q : Nat × Nat × Nat × Nat} {av : AV} (hv : av.1 = q.2.2.2) (h : faB F q = true) : okFa tGam ro F lawW (q.1, q.2.1, q.2.2.1, av) := by
  unfold faB at h
  split at h
  · rename_i a v h1 h2
    simp only [Bool.and_eq_true, decide_eq_true_eq, beq_iff_eq, Bool.not_eq_true', beq_eq_false_iff_ne] at h
    obtain ⟨g1, g2, g3, g4⟩ := h
    split at g4
    · rename_i c hc
      split at g4
      · rename_i w hw
        refine ⟨a, c, v, h1, g2, ?_, ?_, ?_⟩
        · unfold m_cell; rw [if_pos g1]; exact hc
        · show lawW[av.1]? = some v; rw [hv]; exact h2
        · show (if q.2.2.1 = 5000 then _ else _); rw [if_neg g3]; rw [← eqV_ok g4]; exact hw
      · cases g4
    · cases g4
  · cases h
noncomputable def hpA : MH := [.inl (0, tDfl 0)]
noncomputable def ctA : Option (Option Value × MH) := ex tMT ro0 tFty tDfl 20000 10 1 hpA 0 (lv_args 0 [.ref 0]) []
noncomputable def ctB (F : MH) : Option (Option Value × MH) := ex tMT ro0 tFty tDfl 20000 10 144 (F ++ [.inl (9, tDfl 9)]) 0 (lv_args 0 [.ref 129]) []
noncomputable def startB : Bool := match ctA with
  | some (none, FB) => decide (FB.length = 129) && (match ctB FB with
    | some (none, FD) => decide (FD.length = 141) && (wtB FD && (decide (mz FD ≤ 7302250) && (nd97.fa.all (faB FD) && st6B FD)))
    | _ => false)
  | _ => false
set_option maxRecDepth 100000 in
theorem startB_ok : startB = true := by decide +kernel
theorem start_ex : ∃ FB FD, ctA = some (none, FB) ∧ FB.length = 129 ∧ ctB FB = some (none, FD) ∧ FD.length = 141 ∧ wtB FD = true ∧ mz FD ≤ 7302250 ∧ nd97.fa.all (faB FD) = true ∧ st6B FD = true := by
  have h := startB_ok
  unfold startB at h
  split at h
  · rename_i FB hA
    simp only [Bool.and_eq_true, decide_eq_true_eq] at h
    obtain ⟨h1, h2⟩ := h
    split at h2
    · rename_i FD hB
      simp only [Bool.and_eq_true, decide_eq_true_eq] at h2
      exact ⟨FB, FD, hA, h1, hB, h2.1, h2.2.1, h2.2.2.1, h2.2.2.2.1, h2.2.2.2.2⟩
    · cases h2
  · cases h
end
