/-! PARTIAL CORRECTNESS, VIII: the rules with longs (written by a program out of those without) -/
section PcM
variable {xl : List Int32} {n mi pc : Nat} {lv : LVs} {st r : List Value} {ι κ : IS} {l k : Nat → Int64} {Q Q2 : Option Value → IS → (Nat → Int64) → Prop} {rt : Option FieldType} {a : Nat} {x y i : Int32}
theorem PL.gI {k ci j : Nat} {z : Int} (hE : t_at tT mi pc = some ((pc, .getfield k, 3, ci, j, z), rt)) (hk : kindT (tFty ci j) = 0) (hc : ¬ ci = 99) (h : PL xl n mi (pc + 3) lv (.int (ι a j) :: r) ι l Q) : PL xl n mi pc lv (.ref a :: r) ι l Q := by
  intro F hs hi hL
  refine (PF.heap (n := n) (tT_ok _ _ _ hE) rfl rfl ?_).weak
  intro q hq
  have hq : (match m_rd (tRo xl) F (pc, .getfield k, 3, ci, j, z) (.ref a :: r) with | some st1 => some (F, pc + 3, lv, st1) | none => none) = some q := hq
  split at hq
  · rename_i st1 h1
    cases hq
    simp only [m_rd] at h1
    split at h1
    · rename_i c fs hcell
      split at h1
      · rename_i hci
        split at h1
        · rename_i v hv
          cases h1
          unfold m_cell at hcell
          split at hcell
          · subst hci
            have e := (sh_fld hs hcell hv).1 hk
            subst e
            rw [hi]
            exact h F hs hi hL
          · exact absurd (hci ▸ tRo_obj hcell) hc
        · cases h1
      · cases h1
    · cases h1
  · cases hq
theorem PL.gR {k ci j : Nat} {z : Int} (hE : t_at tT mi pc = some ((pc, .getfield k, 3, ci, j, z), rt)) (hk : kindT (tFty ci j) = 2) (hc : ¬ ci = 99) (h : PL xl n mi (pc + 3) lv (.ref (rf a j) :: r) ι l Q) : PL xl n mi pc lv (.ref a :: r) ι l Q := by
  intro F hs hi hL
  refine (PF.heap (n := n) (tT_ok _ _ _ hE) rfl rfl ?_).weak
  intro q hq
  have hq : (match m_rd (tRo xl) F (pc, .getfield k, 3, ci, j, z) (.ref a :: r) with | some st1 => some (F, pc + 3, lv, st1) | none => none) = some q := hq
  split at hq
  · rename_i st1 h1
    cases hq
    simp only [m_rd] at h1
    split at h1
    · rename_i c fs hcell
      split at h1
      · rename_i hci
        split at h1
        · rename_i v hv
          cases h1
          unfold m_cell at hcell
          split at hcell
          · subst hci
            have e := ((sh_fld hs hcell hv).2.2 hk).1
            subst e
            exact h F hs hi hL
          · exact absurd (hci ▸ tRo_obj hcell) hc
        · cases h1
      · cases h1
    · cases h1
  · cases hq
theorem PL.rd {z1 z2 : Nat} {z : Int} (hE : t_at tT mi pc = some ((pc, .iaload, 1, z1, z2, z), rt)) (ha : a < KB) (h : 0 ≤ i.toInt → i.toInt < ln a → PL xl n mi (pc + 1) lv (.int (ι a i.toNatClampNeg) :: r) ι l Q) : PL xl n mi pc lv (.int i :: .ref a :: r) ι l Q := by
  intro F hs hi hL
  refine (PF.heap (n := n) (tT_ok _ _ _ hE) rfl rfl ?_).weak
  intro q hq
  have hq : (match m_rd (tRo xl) F (pc, .iaload, 1, z1, z2, z) (.int i :: .ref a :: r) with | some st1 => some (F, pc + 1, lv, st1) | none => none) = some q := hq
  split at hq
  · rename_i st1 h1
    cases hq
    simp only [m_rd] at h1
    split at h1
    · rename_i k xs hcell
      split at h1
      · rename_i hw
        cases h1
        unfold m_cell at hcell
        rw [if_pos ha] at hcell
        obtain ⟨e1, e2⟩ := sh_row hs hcell
        have hl := in_ok hw.2
        simp only at e1 e2
        rw [e2, hi]
        exact h hl.1 (by rw [← e1]; exact hl.2.1) F hs hi hL
      · cases h1
    · cases h1
  · cases hq
theorem PL.pI {k ci j : Nat} {z : Int} (hE : t_at tT mi pc = some ((pc, .putfield k, 3, ci, j, z), rt)) (hk : kindT (tFty ci j) = 0) (h : PL xl n mi (pc + 3) lv r (up ι a j x) l Q) : PL xl n mi pc lv (.int x :: .ref a :: r) ι l Q := by
  intro F hs hi hL
  refine (PF.heap (n := n) (tT_ok _ _ _ hE) rfl rfl ?_).weak
  intro q hq
  have hq : (match m_wr tFty tDfl F (pc, .putfield k, 3, ci, j, z) (.int x :: .ref a :: r) with | some q => some (q.1, pc + 3, lv, q.2) | none => none) = some q := hq
  split at hq
  · rename_i q1 h1
    cases hq
    have hsh := wr_sh hs (E := (pc, .putfield k, 3, ci, j, z)) (by simp [okS1, hk]) h1
    simp only [m_wr] at h1
    split at h1
    · rename_i c fs hcell
      split at h1
      · rename_i hw
        cases h1
        obtain ⟨hw1, hw2, hw3, -, -⟩ := hw
        refine h _ hsh (by rw [iv_setO hcell hw3, hi]) ?_
        have hv0 := List.getElem?_eq_getElem hw3
        subst hw2
        have e0 := (sh_fld hs hcell hv0).1 hk
        rw [e0] at hv0
        rw [lg_setO hcell hv0, hL]
      · cases h1
    · cases h1
  · cases hq
theorem PL.if1 {c : ClassFile.Cond} {off : Int} {z1 z2 t : Nat} {z : Int} (hE : t_at tT mi pc = some ((pc, .ifCond c off, 3, z1, z2, z), rt)) (ht : m_to pc off = some t) (h1 : m_cmp c x 0 = true → PL xl n mi t lv r ι l Q) (h2 : m_cmp c x 0 = false → PL xl n mi (pc + 3) lv r ι l Q) : PL xl n mi pc lv (.int x :: r) ι l Q := by
  intro F hs hi hL
  have hm : m_one (tRo xl) tFty tDfl (pc, .ifCond c off, 3, z1, z2, z) F lv (.int x :: r) = some (F, if m_cmp c x 0 = true then t else pc + 3, lv, r) := by
    show (match (m_to pc off).map (fun t => (if m_cmp c x 0 = true then t else pc + 3, r)) with | some q => some (F, q.1, lv, q.2) | none => _) = _
    rw [ht]; rfl
  refine (PF.one (n := n) (tT_ok _ _ _ hE) hm ?_).weak
  simp only
  cases hb : m_cmp c x 0 with
  | true => rw [if_pos rfl]; exact h1 hb F hs hi hL
  | false => rw [if_neg (by simp)]; exact h2 hb F hs hi hL
theorem PL.if2 {c : ClassFile.Cond} {off : Int} {z1 z2 t : Nat} {z : Int} (hE : t_at tT mi pc = some ((pc, .if_icmp c off, 3, z1, z2, z), rt)) (ht : m_to pc off = some t) (h1 : m_cmp c x y = true → PL xl n mi t lv r ι l Q) (h2 : m_cmp c x y = false → PL xl n mi (pc + 3) lv r ι l Q) : PL xl n mi pc lv (.int y :: .int x :: r) ι l Q := by
  intro F hs hi hL
  have hm : m_one (tRo xl) tFty tDfl (pc, .if_icmp c off, 3, z1, z2, z) F lv (.int y :: .int x :: r) = some (F, if m_cmp c x y = true then t else pc + 3, lv, r) := by
    show (match (m_to pc off).map (fun t => (if m_cmp c x y = true then t else pc + 3, r)) with | some q => some (F, q.1, lv, q.2) | none => _) = _
    rw [ht]; rfl
  refine (PF.one (n := n) (tT_ok _ _ _ hE) hm ?_).weak
  simp only
  cases hb : m_cmp c x y with
  | true => rw [if_pos rfl]; exact h1 hb F hs hi hL
  | false => rw [if_neg (by simp)]; exact h2 hb F hs hi hL
theorem PL.retI {z1 z2 : Nat} {z : Int} (hE : t_at tT mi pc = some ((pc, .ireturn, 1, z1, z2, z), rt)) (h : Q (some (.int x)) ι l) : PL xl n mi pc lv [.int x] ι l Q := by
  intro F hs hi hL
  refine (PF.ret (n := n) (tT_ok _ _ _ hE) rfl rfl ?_).weak
  intro v hv
  simp only [m_ret] at hv
  split at hv
  · split at hv
    · cases hv; rw [hi, hL]; exact h
    · cases hv
  · cases hv
theorem PL.retJ {x : Int64} {z1 z2 : Nat} {z : Int} (hE : t_at tT mi pc = some ((pc, .lreturn, 1, z1, z2, z), rt)) (h : Q (some (.long x)) ι l) : PL xl n mi pc lv [.long x] ι l Q := by
  intro F hs hi hL
  refine (PF.ret (n := n) (tT_ok _ _ _ hE) rfl rfl ?_).weak
  intro v hv
  simp only [m_ret] at hv
  split at hv
  · cases hv; rw [hi, hL]; exact h
  · cases hv
theorem PL.retV {z1 z2 : Nat} {z : Int} (hE : t_at tT mi pc = some ((pc, .return_, 1, z1, z2, z), rt)) (h : Q none ι l) : PL xl n mi pc lv [] ι l Q := by
  intro F hs hi hL
  refine (PF.ret (n := n) (tT_ok _ _ _ hE) rfl rfl ?_).weak
  intro v hv
  simp only [m_ret] at hv
  split at hv
  · cases hv; rw [hi, hL]; exact h
  · cases hv
theorem PL.call {E : MI × Option FieldType} {j : Nat} {args rest : List Value} (hE : t_at tT mi pc = some E) (hI : ivI E.1.2.1 = true) (hj : E.1.2.2.2.1 = j) (ha : (st.take E.1.2.2.2.2.1).reverse = args) (hr : st.drop E.1.2.2.2.2.1 = rest) (h9 : sP j = true) (h8 : ¬ j = 9999 ∧ ¬ j = 9998) (h : PL xl n j 0 (lv_args 0 args) [] ι l (fun v κ k => PL xl n mi (pc + 3) lv (v.toList ++ rest) κ k Q)) : PL xl (n + 1) mi pc lv st ι l Q := by
  intro F hs hi hL
  have ho := one_ivI (ro := tRo xl) (F := F) (lv := lv) (st := st) hI
  refine PF.call (n := n) (args := args) (rest := rest) (tT_ok _ _ _ hE) ho.1 (ho.2 _) (fun q hq => ?_) h8.1 h8.2 ?_
  · rw [(inv_q hq).1, hj, ha, hr]
  · intro d z hx
    exact h F hs hi hL d z hx z.2 (ex_sh _ _ _ _ _ _ _ _ h9 hs hx) rfl rfl
theorem PL.callI {E : MI × Option FieldType} {j : Nat} {args rest : List Value} {M : MM} {ty : FieldType} (hE : t_at tT mi pc = some E) (hI : ivI E.1.2.1 = true) (hj : E.1.2.2.2.1 = j) (ha : (st.take E.1.2.2.2.2.1).reverse = args) (hr : st.drop E.1.2.2.2.2.1 = rest) (h9 : sP j = true) (h8 : ¬ j = 9999 ∧ ¬ j = 9998) (hM : tMT[j]? = some M) (hty : M.2.2.2.1 = some ty) (hl : ¬ ty = .long) (h : PL xl n j 0 (lv_args 0 args) [] ι l (fun v κ k => ∀ x, v = some (.int x) → PL xl n mi (pc + 3) lv (.int x :: rest) κ k Q)) : PL xl (n + 1) mi pc lv st ι l Q := by
  refine PL.call hE hI hj ha hr h9 h8 ?_
  intro F hs hi hL d z hx
  obtain ⟨x, e⟩ := (ex_k hM _ _ _ _ _ _ _ hx).2 ty hty hl
  have := h F hs hi hL d z hx x e
  rw [e]
  exact this
theorem PL.callV {E : MI × Option FieldType} {j : Nat} {args rest : List Value} {M : MM} (hE : t_at tT mi pc = some E) (hI : ivI E.1.2.1 = true) (hj : E.1.2.2.2.1 = j) (ha : (st.take E.1.2.2.2.2.1).reverse = args) (hr : st.drop E.1.2.2.2.2.1 = rest) (h9 : sP j = true) (h8 : ¬ j = 9999 ∧ ¬ j = 9998) (hM : tMT[j]? = some M) (hty : M.2.2.2.1 = none) (h : PL xl n j 0 (lv_args 0 args) [] ι l (fun _ κ k => PL xl n mi (pc + 3) lv rest κ k Q)) : PL xl (n + 1) mi pc lv st ι l Q := by
  refine PL.call hE hI hj ha hr h9 h8 ?_
  intro F hs hi hL d z hx
  have e := (ex_k hM _ _ _ _ _ _ _ hx).1 hty
  have := h F hs hi hL d z hx
  rw [e]
  exact this
theorem PL.callJ {E : MI × Option FieldType} {j : Nat} {args rest : List Value} {M : MM} (hE : t_at tT mi pc = some E) (hI : ivI E.1.2.1 = true) (hj : E.1.2.2.2.1 = j) (ha : (st.take E.1.2.2.2.2.1).reverse = args) (hr : st.drop E.1.2.2.2.2.1 = rest) (h9 : sP j = true) (h8 : ¬ j = 9999 ∧ ¬ j = 9998) (hM : tMT[j]? = some M) (hJ : M.2.2.2.1 = some .long) (hno : M.2.2.2.2.all (fun E => !(isIr E.2.1)) = true) (h : PL xl n j 0 (lv_args 0 args) [] ι l (fun v κ k => ∀ x, v = some (.long x) → PL xl n mi (pc + 3) lv (.long x :: rest) κ k Q)) : PL xl (n + 1) mi pc lv st ι l Q := by
  refine PL.call hE hI hj ha hr h9 h8 ?_
  intro F hs hi hL d z hx
  obtain ⟨x, e⟩ := ex_kJ hM hJ hno _ _ _ _ _ _ _ hx
  have := h F hs hi hL d z hx x e
  rw [e]
  exact this
theorem PL.gJ {k ci j : Nat} {z : Int} (hE : t_at tT mi pc = some ((pc, .getfield k, 3, ci, j, z), rt)) (hk : kindT (tFty ci j) = 1) (hc : ¬ ci = 99) (h : PL xl n mi (pc + 3) lv (.long (l j) :: r) ι l Q) : PL xl n mi pc lv (.ref 129 :: r) ι l Q := by
  intro F hs hi hL
  refine (PF.heap (n := n) (tT_ok _ _ _ hE) rfl rfl ?_).weak
  intro q hq
  have hq : (match m_rd (tRo xl) F (pc, .getfield k, 3, ci, j, z) (.ref 129 :: r) with | some st1 => some (F, pc + 3, lv, st1) | none => none) = some q := hq
  split at hq
  · rename_i st1 h1
    cases hq
    simp only [m_rd] at h1
    split at h1
    · rename_i c fs hcell
      split at h1
      · rename_i hci
        split at h1
        · rename_i v hv
          cases h1
          unfold m_cell at hcell
          split at hcell
          · subst hci
            obtain ⟨y, e⟩ := (sh_fld hs hcell hv).2.1 hk
            subst e
            have e2 : lgv F j = y := by
              unfold lgv; rw [hcell]; simp only; rw [hv]
            rw [← e2, hL]
            exact h F hs hi hL
          · exact absurd (hci ▸ tRo_obj hcell) hc
        · cases h1
      · cases h1
    · cases h1
  · cases hq
theorem PL.pJ {k ci j : Nat} {z : Int} {y : Int64} (hE : t_at tT mi pc = some ((pc, .putfield k, 3, ci, j, z), rt)) (hk : kindT (tFty ci j) = 1) (h : PL xl n mi (pc + 3) lv r ι (ul l j y) Q) : PL xl n mi pc lv (.long y :: .ref 129 :: r) ι l Q := by
  intro F hs hi hL
  refine (PF.heap (n := n) (tT_ok _ _ _ hE) rfl rfl ?_).weak
  intro q hq
  have hq : (match m_wr tFty tDfl F (pc, .putfield k, 3, ci, j, z) (.long y :: .ref 129 :: r) with | some q => some (q.1, pc + 3, lv, q.2) | none => none) = some q := hq
  split at hq
  · rename_i q1 h1
    cases hq
    have hsh := wr_sh hs (E := (pc, .putfield k, 3, ci, j, z)) (by simp [okS1, hk]) h1
    simp only [m_wr] at h1
    split at h1
    · rename_i c fs hcell
      split at h1
      · rename_i hw
        cases h1
        obtain ⟨hw1, hw2, hw3, -, -⟩ := hw
        have hv0 := List.getElem?_eq_getElem hw3
        subst hw2
        obtain ⟨y0, e0⟩ := (sh_fld hs hcell hv0).2.1 hk
        rw [e0] at hv0
        refine h _ hsh (by rw [iv_setJ hcell hv0, hi]) ?_
        rw [lg_setJ hcell hw3, hL]
      · cases h1
    · cases h1
  · cases hq
end PcM
theorem PL.lv {xl : List Int32} {n mi pc : Nat} {lv lv' : LVs} {st : List Value} {ι : IS} {l : Nat → Int64} {Q : Option Value → IS → (Nat → Int64) → Prop} (he : lvE lv lv') (h : PL xl n mi pc lv' st ι l Q) : PL xl n mi pc lv st ι l Q := fun F hs hi hL d z hx => h F hs hi hL d z (ex_ext _ _ _ _ _ _ _ _ _ he hx)
