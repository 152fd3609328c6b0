section
/-! PARTIAL CORRECTNESS, VIII: the rules with longs (written by a program out of those without) -/
section PcM
variable {xl : List Int32} {n mi pc : Nat} {lv : LVs} {st r : List Value} {ι κ : IS} {l k : Nat → Int64} {Q Q2 : Option Value → IS → (Nat → Int64) → Prop} {rt : Option FieldType} {a : Nat} {x y i : Int32}
theorem PL.gI {k ci j : Nat} {z : Int} (hE : t_at tT mi pc = some ((pc, .getfield k, 3, ci, j, z), rt)) (hk : kindT (tFty ci j) = 0) (hc : ¬ ci = 99) (h : PL xl n mi (pc + 3) lv (.int (ι a j) :: r) ι l Q) : PL xl n mi pc lv (.ref a :: r) ι l Q := by
  intro F hs hi hL
  refine (PF.heap (n := n) (tT_ok _ _ _ hE) rfl rfl ?_).weak
  intro q hq
  have hq : (match m_rd (tRo xl) F (pc, .getfield k, 3, ci, j, z) (.ref a :: r) with | some st1 => some (F, pc + 3, lv, st1) | none => none) = some q := hq
  split at hq
  · rename_i st1 h1
    cases hq
    simp only [m_rd] at h1
    split at h1
    · rename_i c fs hcell
      split at h1
      · rename_i hci
        split at h1
        · rename_i v hv
          cases h1
          unfold m_cell at hcell
          split at hcell
          · subst hci
            have e := (sh_fld hs hcell hv).1 hk
            subst e
            rw [hi]
            exact h F hs hi hL
          · exact absurd (hci ▸ tRo_obj hcell) hc
        · cases h1
      · cases h1
    · cases h1
  · cases hq
theorem PL.gR {k ci j : Nat} {z : Int} (hE : t_at tT mi pc = some ((pc, .getfield k, 3, ci, j, z), rt)) (hk : kindT (tFty ci j) = 2) (hc : ¬ ci = 99) (h : PL xl n mi (pc + 3) lv (.ref (rf a j) :: r) ι l Q) : PL xl n mi pc lv (.ref a :: r) ι l Q := by
  intro F hs hi hL
  refine (PF.heap (n := n) (tT_ok _ _ _ hE) rfl rfl ?_).weak
  intro q hq
  have hq : (match m_rd (tRo xl) F (pc, .getfield k, 3, ci, j, z) (.ref a :: r) with | some st1 => some (F, pc + 3, lv, st1) | none => none) = some q := hq
  split at hq
  · rename_i st1 h1
    cases hq
    simp only [m_rd] at h1
    split at h1
    · rename_i c fs hcell
      split at h1
      · rename_i hci
        split at h1
        · rename_i v hv
          cases h1
          unfold m_cell at hcell
          split at hcell
          · subst hci
            have e := ((sh_fld hs hcell hv).2.2 hk).1
            subst e
            exact h F hs hi hL
          · exact absurd (hci ▸ tRo_obj hcell) hc
        · cases h1
      · cases h1
    · cases h1
  · cases hq
theorem PL.rd {z1 z2 : Nat} {z : Int} (hE : t_at tT mi pc = some ((pc, .iaload, 1, z1, z2, z), rt)) (ha : a < KB) (h : 0 ≤ i.toInt → i.toInt < ln a → PL xl n mi (pc + 1) lv (.int (ι a i.toNatClampNeg) :: r) ι l Q) : PL xl n mi pc lv (.int i :: .ref a :: r) ι l Q := by
  intro F hs hi hL
  refine (PF.heap (n := n) (tT_ok _ _ _ hE) rfl rfl ?_).weak
  intro q hq
  have hq : (match m_rd (tRo xl) F (pc, .iaload, 1, z1, z2, z) (.int i :: .ref a :: r) with | some st1 => some (F, pc + 1, lv, st1) | none => none) = some q := hq
  split at hq
  · rename_i st1 h1
    cases hq
    simp only [m_rd] at h1
    split at h1
    · rename_i k xs hcell
      split at h1
      · rename_i hw
        cases h1
        unfold m_cell at hcell
        rw [if_pos ha] at hcell
        obtain ⟨e1, e2⟩ := sh_row hs hcell
        have hl := in_ok hw.2
        simp only at e1 e2
        rw [e2, hi]
        exact h hl.1 (by rw [← e1]; exact hl.2.1) F hs hi hL
      · cases h1
    · cases h1
  · cases hq
theorem PL.pI {k ci j : Nat} {z : Int} (hE : t_at tT mi pc = some ((pc, .putfield k, 3, ci, j, z), rt)) (hk : kindT (tFty ci j) = 0) (h : PL xl n mi (pc + 3) lv r (up ι a j x) l Q) : PL xl n mi pc lv (.int x :: .ref a :: r) ι l Q := by
  intro F hs hi hL
  refine (PF.heap (n := n) (tT_ok _ _ _ hE) rfl rfl ?_).weak
  intro q hq
  have hq : (match m_wr tFty tDfl F (pc, .putfield k, 3, ci, j, z) (.int x :: .ref a :: r) with | some q => some (q.1, pc + 3, lv, q.2) | none => none) = some q := hq
  split at hq
  · rename_i q1 h1
    cases hq
    have hsh := wr_sh hs (E := (pc, .putfield k, 3, ci, j, z)) (by simp [okS1, hk]) h1
    simp only [m_wr] at h1
    split at h1
    · rename_i c fs hcell
      split at h1
      · rename_i hw
        cases h1
        obtain ⟨hw1, hw2, hw3, -, -⟩ := hw
        refine h _ hsh (by rw [iv_setO hcell hw3, hi]) ?_
        have hv0 := List.getElem?_eq_getElem hw3
        subst hw2
        have e0 := (sh_fld hs hcell hv0).1 hk
        rw [e0] at hv0
        rw [lg_setO hcell hv0, hL]
      · cases h1
    · cases h1
  · cases hq
theorem PL.if1 {c : ClassFile.Cond} {off : Int} {z1 z2 t : Nat} {z : Int} (hE : t_at tT mi pc = some ((pc, .ifCond c off, 3, z1, z2, z), rt)) (ht : m_to pc off = some t) (h1 : m_cmp c x 0 = true → PL xl n mi t lv r ι l Q) (h2 : m_cmp c x 0 = false → PL xl n mi (pc + 3) lv r ι l Q) : PL xl n mi pc lv (.int x :: r) ι l Q := by
  intro F hs hi hL
  have hm : m_one (tRo xl) tFty tDfl (pc, .ifCond c off, 3, z1, z2, z) F lv (.int x :: r) = some (F, if m_cmp c x 0 = true then t else pc + 3, lv, r) := by
    show (match (m_to pc off).map (fun t => (if m_cmp c x 0 = true then t else pc + 3, r)) with | some q => some (F, q.1, lv, q.2) | none => _) = _
    rw [ht]; rfl
  refine (PF.one (n := n) (tT_ok _ _ _ hE) hm ?_).weak
  simp only
  cases hb : m_cmp c x 0 with
  | true => rw [if_pos rfl]; exact h1 hb F hs hi hL
  | false => rw [if_neg (by simp)]; exact h2 hb F hs hi hL
theorem PL.if2 {c : ClassFile.Cond} {off : Int} {z1 z2 t : Nat} {z : Int} (hE : t_at tT mi pc = some ((pc, .if_icmp c off, 3, z1, z2, z), rt)) (ht : m_to pc off = some t) (h1 : m_cmp c x y = true → PL xl n mi t lv r ι l Q) (h2 : m_cmp c x y = false → PL xl n mi (pc + 3) lv r ι l Q) : PL xl n mi pc lv (.int y :: .int x :: r) ι l Q := by
  intro F hs hi hL
  have hm : m_one (tRo xl) tFty tDfl (pc, .if_icmp c off, 3, z1, z2, z) F lv (.int y :: .int x :: r) = some (F, if m_cmp c x y = true then t else pc + 3, lv, r) := by
    show (match (m_to pc off).map (fun t => (if m_cmp c x y = true then t else pc + 3, r)) with | some q => some (F, q.1, lv, q.2) | none => _) = _
    rw [ht]; rfl
  refine (PF.one (n := n) (tT_ok _ _ _ hE) hm ?_).weak
  simp only
  cases hb : m_cmp c x y with
  | true => rw [if_pos rfl]; exact h1 hb F hs hi hL
  | false => rw [if_neg (by simp)]; exact h2 hb F hs hi hL
theorem PL.retI {z1 z2 : Nat} {z : Int} (hE : t_at tT mi pc = some ((pc, .ireturn, 1, z1, z2, z), rt)) (h : Q (some (.int x)) ι l) : PL xl n mi pc lv [.int x] ι l Q := by
  intro F hs hi hL
  refine (PF.ret (n := n) (tT_ok _ _ _ hE) rfl rfl ?_).weak
  intro v hv
  simp only [m_ret] at hv
  split at hv
  · split at hv
    · cases hv; rw [hi, hL]; exact h
    · cases hv
  · cases hv
theorem PL.retJ {x : Int64} {z1 z2 : Nat} {z : Int} (hE : t_at tT mi pc = some ((pc, .lreturn, 1, z1, z2, z), rt)) (h : Q (some (.long x)) ι l) : PL xl n mi pc lv [.long x] ι l Q := by
  intro F hs hi hL
  refine (PF.ret (n := n) (tT_ok _ _ _ hE) rfl rfl ?_).weak
  intro v hv
  simp only [m_ret] at hv
  split at hv
  · cases hv; rw [hi, hL]; exact h
  · cases hv
theorem PL.retV {z1 z2 : Nat} {z : Int} (hE : t_at tT mi pc = some ((pc, .return_, 1, z1, z2, z), rt)) (h : Q none ι l) : PL xl n mi pc lv [] ι l Q := by
  intro F hs hi hL
  refine (PF.ret (n := n) (tT_ok _ _ _ hE) rfl rfl ?_).weak
  intro v hv
  simp only [m_ret] at hv
  split at hv
  · cases hv; rw [hi, hL]; exact h
  · cases hv
theorem PL.call {E : MI × Option FieldType} {j : Nat} {args rest : List Value} (hE : t_at tT mi pc = some E) (hI : ivI E.1.2.1 = true) (hj : E.1.2.2.2.1 = j) (ha : (st.take E.1.2.2.2.2.1).reverse = args) (hr : st.drop E.1.2.2.2.2.1 = rest) (h9 : sP j = true) (h8 : ¬ j = 9999 ∧ ¬ j = 9998) (h : PL xl n j 0 (lv_args 0 args) [] ι l (fun v κ k => PL xl n mi (pc + 3) lv (v.toList ++ rest) κ k Q)) : PL xl (n + 1) mi pc lv st ι l Q := by
  intro F hs hi hL
  have ho := one_ivI (ro := tRo xl) (F := F) (lv := lv) (st := st) hI
  refine PF.call (n := n) (args := args) (rest := rest) (tT_ok _ _ _ hE) ho.1 (ho.2 _) (fun q hq => ?_) h8.1 h8.2 ?_
  · rw [(inv_q hq).1, hj, ha, hr]
  · intro d z hx
    exact h F hs hi hL d z hx z.2 (ex_sh _ _ _ _ _ _ _ _ h9 hs hx) rfl rfl
theorem PL.callI {E : MI × Option FieldType} {j : Nat} {args rest : List Value} {M : MM} {ty : FieldType} (hE : t_at tT mi pc = some E) (hI : ivI E.1.2.1 = true) (hj : E.1.2.2.2.1 = j) (ha : (st.take E.1.2.2.2.2.1).reverse = args) (hr : st.drop E.1.2.2.2.2.1 = rest) (h9 : sP j = true) (h8 : ¬ j = 9999 ∧ ¬ j = 9998) (hM : tMT[j]? = some M) (hty : M.2.2.2.1 = some ty) (hl : ¬ ty = .long) (h : PL xl n j 0 (lv_args 0 args) [] ι l (fun v κ k => ∀ x, v = some (.int x) → PL xl n mi (pc + 3) lv (.int x :: rest) κ k Q)) : PL xl (n + 1) mi pc lv st ι l Q := by
  refine PL.call hE hI hj ha hr h9 h8 ?_
  intro F hs hi hL d z hx
  obtain ⟨x, e⟩ := (ex_k hM _ _ _ _ _ _ _ hx).2 ty hty hl
  have := h F hs hi hL d z hx x e
  rw [e]
  exact this
theorem PL.callV {E : MI × Option FieldType} {j : Nat} {args rest : List Value} {M : MM} (hE : t_at tT mi pc = some E) (hI : ivI E.1.2.1 = true) (hj : E.1.2.2.2.1 = j) (ha : (st.take E.1.2.2.2.2.1).reverse = args) (hr : st.drop E.1.2.2.2.2.1 = rest) (h9 : sP j = true) (h8 : ¬ j = 9999 ∧ ¬ j = 9998) (hM : tMT[j]? = some M) (hty : M.2.2.2.1 = none) (h : PL xl n j 0 (lv_args 0 args) [] ι l (fun _ κ k => PL xl n mi (pc + 3) lv rest κ k Q)) : PL xl (n + 1) mi pc lv st ι l Q := by
  refine PL.call hE hI hj ha hr h9 h8 ?_
  intro F hs hi hL d z hx
  have e := (ex_k hM _ _ _ _ _ _ _ hx).1 hty
  have := h F hs hi hL d z hx
  rw [e]
  exact this
theorem PL.callJ {E : MI × Option FieldType} {j : Nat} {args rest : List Value} {M : MM} (hE : t_at tT mi pc = some E) (hI : ivI E.1.2.1 = true) (hj : E.1.2.2.2.1 = j) (ha : (st.take E.1.2.2.2.2.1).reverse = args) (hr : st.drop E.1.2.2.2.2.1 = rest) (h9 : sP j = true) (h8 : ¬ j = 9999 ∧ ¬ j = 9998) (hM : tMT[j]? = some M) (hJ : M.2.2.2.1 = some .long) (hno : M.2.2.2.2.all (fun E => !(isIr E.2.1)) = true) (h : PL xl n j 0 (lv_args 0 args) [] ι l (fun v κ k => ∀ x, v = some (.long x) → PL xl n mi (pc + 3) lv (.long x :: rest) κ k Q)) : PL xl (n + 1) mi pc lv st ι l Q := by
  refine PL.call hE hI hj ha hr h9 h8 ?_
  intro F hs hi hL d z hx
  obtain ⟨x, e⟩ := ex_kJ hM hJ hno _ _ _ _ _ _ _ hx
  have := h F hs hi hL d z hx x e
  rw [e]
  exact this
theorem PL.gJ {k ci j : Nat} {z : Int} (hE : t_at tT mi pc = some ((pc, .getfield k, 3, ci, j, z), rt)) (hk : kindT (tFty ci j) = 1) (hc : ¬ ci = 99) (h : PL xl n mi (pc + 3) lv (.long (l j) :: r) ι l Q) : PL xl n mi pc lv (.ref 129 :: r) ι l Q := by
  intro F hs hi hL
  refine (PF.heap (n := n) (tT_ok _ _ _ hE) rfl rfl ?_).weak
  intro q hq
  have hq : (match m_rd (tRo xl) F (pc, .getfield k, 3, ci, j, z) (.ref 129 :: r) with | some st1 => some (F, pc + 3, lv, st1) | none => none) = some q := hq
  split at hq
  · rename_i st1 h1
    cases hq
    simp only [m_rd] at h1
    split at h1
    · rename_i c fs hcell
      split at h1
      · rename_i hci
        split at h1
        · rename_i v hv
          cases h1
          unfold m_cell at hcell
          split at hcell
          · subst hci
            obtain ⟨y, e⟩ := (sh_fld hs hcell hv).2.1 hk
            subst e
            have e2 : lgv F j = y := by
              unfold lgv; rw [hcell]; simp only; rw [hv]
            rw [← e2, hL]
            exact h F hs hi hL
          · exact absurd (hci ▸ tRo_obj hcell) hc
        · cases h1
      · cases h1
    · cases h1
  · cases hq
theorem PL.pJ {k ci j : Nat} {z : Int} {y : Int64} (hE : t_at tT mi pc = some ((pc, .putfield k, 3, ci, j, z), rt)) (hk : kindT (tFty ci j) = 1) (h : PL xl n mi (pc + 3) lv r ι (ul l j y) Q) : PL xl n mi pc lv (.long y :: .ref 129 :: r) ι l Q := by
  intro F hs hi hL
  refine (PF.heap (n := n) (tT_ok _ _ _ hE) rfl rfl ?_).weak
  intro q hq
  have hq : (match m_wr tFty tDfl F (pc, .putfield k, 3, ci, j, z) (.long y :: .ref 129 :: r) with | some q => some (q.1, pc + 3, lv, q.2) | none => none) = some q := hq
  split at hq
  · rename_i q1 h1
    cases hq
    have hsh := wr_sh hs (E := (pc, .putfield k, 3, ci, j, z)) (by simp [okS1, hk]) h1
    simp only [m_wr] at h1
    split at h1
    · rename_i c fs hcell
      split at h1
      · rename_i hw
        cases h1
        obtain ⟨hw1, hw2, hw3, -, -⟩ := hw
        have hv0 := List.getElem?_eq_getElem hw3
        subst hw2
        obtain ⟨y0, e0⟩ := (sh_fld hs hcell hv0).2.1 hk
        rw [e0] at hv0
        refine h _ hsh (by rw [iv_setJ hcell hv0, hi]) ?_
        rw [lg_setJ hcell hw3, hL]
      · cases h1
    · cases h1
  · cases hq
end PcM
theorem PL.lv {xl : List Int32} {n mi pc : Nat} {lv lv' : LVs} {st : List Value} {ι : IS} {l : Nat → Int64} {Q : Option Value → IS → (Nat → Int64) → Prop} (he : lvE lv lv') (h : PL xl n mi pc lv' st ι l Q) : PL xl n mi pc lv st ι l Q := fun F hs hi hL d z hx => h F hs hi hL d z (ex_ext _ _ _ _ _ _ _ _ _ he hx)
end
section
/-! WHAT RUNS ASK (written by a program) -/
/-- DoorPaintsModel.luck(III)J -/
theorem t_224_0 {xl : List Int32} {n : Nat} {ι : IS} {l : Nat → Int64} {Q : Option Value → IS → (Nat → Int64) → Prop} {x1 : Int32} {x2 : Int32} {x3 : Int32} (h : PL xl n 148 0 [(0, .long (x1).toInt64), (2, .long 0), (4, .long 10)] [] ι l (fun v1 κ1 l1 => ∀ r1, v1 = some (.int r1) → ((r1 = 0 → Q (some (.long (-1))) κ1 l1) ∧ (¬ r1 = 0 → PL xl n 181 0 [(0, .ref 129), (1, .int x2)] [] κ1 l1 (fun v2 κ2 l2 => ∀ r2, v2 = some (.int r2) → ((r2 = 0 → Q (some (.long (-1))) κ2 l2) ∧ (¬ r2 = 0 → PL xl n 208 0 [(0, .int x3)] [] κ2 l2 (fun v3 κ3 l3 => ∀ r3, v3 = some (.int r3) → ((¬ r3 = 0 → PL xl n 225 0 [(0, .ref 129), (1, .int x1), (2, .int x2)] [] κ3 l3 (fun _ κ4 l4 => PL xl n 226 0 [(0, .long (l4 25)), (2, .long (l4 27)), (4, .int x3)] [] κ4 l4 (fun v5 κ5 l5 => ∀ r5, v5 = some (.long r5) → Q (some (.long r5)) κ5 l5))) ∧ (r3 = 0 → Q (some (.long (-1))) κ3 l3)))))))))) : PL xl (n + 1) 224 0 [(0, .ref 129), (1, .int x1), (2, .int x2), (3, .int x3)] [] ι l Q := by
  refine PL.pr1 (k := 0) (pc' := 1) (lv' := [(0, .ref 129), (1, .int x1), (2, .int x2), (3, .int x3)]) (st' := [.int x1]) rfl ?_
  refine PL.pr (k := 1) (pc' := 2) (lv' := [(0, .ref 129), (1, .int x1), (2, .int x2), (3, .int x3)]) (st' := [.long (x1).toInt64]) rfl ?_
  refine PL.pr (k := 1) (pc' := 3) (lv' := [(0, .ref 129), (1, .int x1), (2, .int x2), (3, .int x3)]) (st' := [.long 0, .long (x1).toInt64]) rfl ?_
  refine PL.pr (k := 1) (pc' := 6) (lv' := [(0, .ref 129), (1, .int x1), (2, .int x2), (3, .int x3)]) (st' := [.long 10, .long 0, .long (x1).toInt64]) rfl ?_
  refine (PL.callI (j := 148) (args := [.long (x1).toInt64, .long 0, .long 10]) (rest := []) (M := cM148) (ty := .boolean) rfl rfl rfl rfl rfl rfl (by decide) rfl rfl (by decide) ?_).weak
  refine PL.imp h (fun v1 κ1 l1 h r1 hv => ?_)
  have h := h r1 hv
  refine PL.if1 (t := 27) rfl rfl (fun c => ?_) (fun c => ?_)
  · have h := h.1 (cmp_eq.1.mp c)
    refine PL.pr (k := 1) (pc' := 30) (lv' := [(0, .ref 129), (1, .int x1), (2, .int x2), (3, .int x3)]) (st' := [.long (-1)]) rfl ?_
    exact PL.retJ rfl h
  · have h := h.2 (cmp_eq.2.mp c)
    refine PL.pr (k := 1) (pc' := 13) (lv' := [(0, .ref 129), (1, .int x1), (2, .int x2), (3, .int x3)]) (st' := [.ref 129]) rfl ?_
    refine PL.pr (k := 1) (pc' := 14) (lv' := [(0, .ref 129), (1, .int x1), (2, .int x2), (3, .int x3)]) (st' := [.int x2, .ref 129]) rfl ?_
    refine (PL.callI (j := 181) (args := [.ref 129, .int x2]) (rest := []) (M := cM181) (ty := .boolean) rfl rfl rfl rfl rfl rfl (by decide) rfl rfl (by decide) ?_).weak
    refine PL.imp h (fun v2 κ2 l2 h r2 hv => ?_)
    have h := h r2 hv
    refine PL.if1 (t := 27) rfl rfl (fun c => ?_) (fun c => ?_)
    · have h := h.1 (cmp_eq.1.mp c)
      refine PL.pr (k := 1) (pc' := 30) (lv' := [(0, .ref 129), (1, .int x1), (2, .int x2), (3, .int x3)]) (st' := [.long (-1)]) rfl ?_
      exact PL.retJ rfl h
    · have h := h.2 (cmp_eq.2.mp c)
      refine PL.pr (k := 1) (pc' := 21) (lv' := [(0, .ref 129), (1, .int x1), (2, .int x2), (3, .int x3)]) (st' := [.int x3]) rfl ?_
      refine (PL.callI (j := 208) (args := [.int x3]) (rest := []) (M := cM208) (ty := .boolean) rfl rfl rfl rfl rfl rfl (by decide) rfl rfl (by decide) ?_).weak
      refine PL.imp h (fun v3 κ3 l3 h r3 hv => ?_)
      have h := h r3 hv
      refine PL.if1 (t := 31) rfl rfl (fun c => ?_) (fun c => ?_)
      · have h := h.1 (cmp_ne.1.mp c)
        refine PL.pr (k := 1) (pc' := 32) (lv' := [(0, .ref 129), (1, .int x1), (2, .int x2), (3, .int x3)]) (st' := [.ref 129]) rfl ?_
        refine PL.pr (k := 1) (pc' := 33) (lv' := [(0, .ref 129), (1, .int x1), (2, .int x2), (3, .int x3)]) (st' := [.int x1, .ref 129]) rfl ?_
        refine PL.pr (k := 1) (pc' := 34) (lv' := [(0, .ref 129), (1, .int x1), (2, .int x2), (3, .int x3)]) (st' := [.int x2, .int x1, .ref 129]) rfl ?_
        refine (PL.callV (j := 225) (args := [.ref 129, .int x1, .int x2]) (rest := []) (M := cM225) rfl rfl rfl rfl rfl rfl (by decide) rfl rfl ?_).weak
        refine PL.imp h (fun _ κ4 l4 h => ?_)
        refine PL.pr (k := 1) (pc' := 38) (lv' := [(0, .ref 129), (1, .int x1), (2, .int x2), (3, .int x3)]) (st' := [.ref 129]) rfl ?_
        refine PL.gJ (ci := 9) (j := 25) rfl rfl (by decide) ?_
        refine PL.pr (k := 1) (pc' := 42) (lv' := [(0, .ref 129), (1, .int x1), (2, .int x2), (3, .int x3)]) (st' := [.ref 129, .long (l4 25)]) rfl ?_
        refine PL.gJ (ci := 9) (j := 27) rfl rfl (by decide) ?_
        refine PL.pr (k := 1) (pc' := 46) (lv' := [(0, .ref 129), (1, .int x1), (2, .int x2), (3, .int x3)]) (st' := [.int x3, .long (l4 27), .long (l4 25)]) rfl ?_
        refine (PL.callJ (j := 226) (args := [.long (l4 25), .long (l4 27), .int x3]) (rest := []) (M := cM226) rfl rfl rfl rfl rfl rfl (by decide) rfl rfl rfl ?_).weak
        refine PL.imp h (fun v5 κ5 l5 h r5 hv => ?_)
        have h := h r5 hv
        exact PL.retJ rfl h
      · have h := h.2 (cmp_ne.2.mp c)
        refine PL.pr (k := 1) (pc' := 30) (lv' := [(0, .ref 129), (1, .int x1), (2, .int x2), (3, .int x3)]) (st' := [.long (-1)]) rfl ?_
        exact PL.retJ rfl h

/-- DoorPaintsModel.findOdds(II)V -/
theorem t_225_0 {xl : List Int32} {n : Nat} {ι : IS} {l : Nat → Int64} {Q : Option Value → IS → (Nat → Int64) → Prop} {x1 : Int32} {x2 : Int32} (h : (0 ≤ (52 : Int32).toInt → (52 : Int32).toInt < ln (rf 129 0) → PL xl n 225 29 [(0, .ref 129), (1, .int x1), (2, .int x2), (3, .int (ι (rf 129 0) (52 : Int32).toNatClampNeg)), (4, .int 0), (5, .int 0), (6, .null)] [] ι (ul (ul (ul l 25 0) 26 0) 27 1) Q)) : PL xl (n + 1) 225 0 [(0, .ref 129), (1, .int x1), (2, .int x2)] [] ι l Q := by
  refine PL.pr1 (k := 0) (pc' := 1) (lv' := [(0, .ref 129), (1, .int x1), (2, .int x2)]) (st' := [.ref 129]) rfl ?_
  refine PL.gR (ci := 9) (j := 0) rfl rfl (by decide) ?_
  refine PL.pr (k := 1) (pc' := 6) (lv' := [(0, .ref 129), (1, .int x1), (2, .int x2)]) (st' := [.int 52, .ref (rf 129 0)]) rfl ?_
  refine PL.rd rfl (rf_lt _ _) (fun c1 c2 => ?_)
  have h := h c1 c2
  refine PL.pr (k := 1) (pc' := 8) (lv' := [(3, .int (ι (rf 129 0) (52 : Int32).toNatClampNeg)), (0, .ref 129), (1, .int x1), (2, .int x2)]) (st' := []) rfl ?_
  refine PL.pr (k := 1) (pc' := 9) (lv' := [(3, .int (ι (rf 129 0) (52 : Int32).toNatClampNeg)), (0, .ref 129), (1, .int x1), (2, .int x2)]) (st' := [.ref 129]) rfl ?_
  refine PL.pr (k := 1) (pc' := 10) (lv' := [(3, .int (ι (rf 129 0) (52 : Int32).toNatClampNeg)), (0, .ref 129), (1, .int x1), (2, .int x2)]) (st' := [.long 0, .ref 129]) rfl ?_
  refine PL.pJ (ci := 9) (j := 25) rfl rfl ?_
  refine PL.pr (k := 1) (pc' := 14) (lv' := [(3, .int (ι (rf 129 0) (52 : Int32).toNatClampNeg)), (0, .ref 129), (1, .int x1), (2, .int x2)]) (st' := [.ref 129]) rfl ?_
  refine PL.pr (k := 1) (pc' := 15) (lv' := [(3, .int (ι (rf 129 0) (52 : Int32).toNatClampNeg)), (0, .ref 129), (1, .int x1), (2, .int x2)]) (st' := [.long 0, .ref 129]) rfl ?_
  refine PL.pJ (ci := 9) (j := 26) rfl rfl ?_
  refine PL.pr (k := 1) (pc' := 19) (lv' := [(3, .int (ι (rf 129 0) (52 : Int32).toNatClampNeg)), (0, .ref 129), (1, .int x1), (2, .int x2)]) (st' := [.ref 129]) rfl ?_
  refine PL.pr (k := 1) (pc' := 20) (lv' := [(3, .int (ι (rf 129 0) (52 : Int32).toNatClampNeg)), (0, .ref 129), (1, .int x1), (2, .int x2)]) (st' := [.long 1, .ref 129]) rfl ?_
  refine PL.pJ (ci := 9) (j := 27) rfl rfl ?_
  refine PL.pr (k := 1) (pc' := 24) (lv' := [(3, .int (ι (rf 129 0) (52 : Int32).toNatClampNeg)), (0, .ref 129), (1, .int x1), (2, .int x2)]) (st' := [.int 0]) rfl ?_
  refine PL.pr (k := 1) (pc' := 26) (lv' := [(4, .int 0), (3, .int (ι (rf 129 0) (52 : Int32).toNatClampNeg)), (0, .ref 129), (1, .int x1), (2, .int x2)]) (st' := []) rfl ?_
  refine PL.pr (k := 1) (pc' := 27) (lv' := [(4, .int 0), (3, .int (ι (rf 129 0) (52 : Int32).toNatClampNeg)), (0, .ref 129), (1, .int x1), (2, .int x2)]) (st' := [.int 0]) rfl ?_
  refine PL.pr (k := 1) (pc' := 29) (lv' := [(5, .int 0), (4, .int 0), (3, .int (ι (rf 129 0) (52 : Int32).toNatClampNeg)), (0, .ref 129), (1, .int x1), (2, .int x2)]) (st' := []) rfl ?_
  exact PL.lv (lvE.cons rfl (lvE.cons rfl (lvE.cons rfl (lvE.cons rfl (lvE.cons rfl (lvE.cons rfl (lvE.nil))))))) h
theorem t_225_29 {xl : List Int32} {n : Nat} {ι : IS} {l : Nat → Int64} {Q : Option Value → IS → (Nat → Int64) → Prop} {x1 : Int32} {x2 : Int32} {x3 : Int32} {x4 : Int32} {x5 : Int32} {w6 : Value} (h : ((¬ x5 < x3 → PL xl n 225 100 [(0, .ref 129), (1, .int x1), (2, .int x2), (3, .int x3), (4, .int x4), (5, .int 0), (6, w6), (8, .null), (9, .null)] [] ι l Q) ∧ (x5 < x3 → (0 ≤ (53 + x5).toInt → (53 + x5).toInt < ln (rf 129 0) → (((ι (rf 129 0) (53 + x5).toNatClampNeg) < 90 → PL xl n 225 55 [(0, .ref 129), (1, .int x1), (2, .int x2), (3, .int x3), (4, .int x4), (5, .int x5), (6, w6)] [.int 0] ι l Q) ∧ (¬ (ι (rf 129 0) (53 + x5).toNatClampNeg) < 90 → PL xl n 225 55 [(0, .ref 129), (1, .int x1), (2, .int x2), (3, .int x3), (4, .int x4), (5, .int x5), (6, w6)] [.int 1] ι l Q)))))) : PL xl (n + 1) 225 29 [(0, .ref 129), (1, .int x1), (2, .int x2), (3, .int x3), (4, .int x4), (5, .int x5), (6, w6)] [] ι l Q := by
  refine PL.pr1 (k := 0) (pc' := 31) (lv' := [(0, .ref 129), (1, .int x1), (2, .int x2), (3, .int x3), (4, .int x4), (5, .int x5), (6, w6)]) (st' := [.int x5]) rfl ?_
  refine PL.pr (k := 1) (pc' := 32) (lv' := [(0, .ref 129), (1, .int x1), (2, .int x2), (3, .int x3), (4, .int x4), (5, .int x5), (6, w6)]) (st' := [.int x3, .int x5]) rfl ?_
  refine PL.if2 (t := 97) rfl rfl (fun c => ?_) (fun c => ?_)
  · have h := h.1 (cmp_ge.1.mp c)
    refine PL.pr (k := 1) (pc' := 98) (lv' := [(0, .ref 129), (1, .int x1), (2, .int x2), (3, .int x3), (4, .int x4), (5, .int x5), (6, w6)]) (st' := [.int 0]) rfl ?_
    refine PL.pr (k := 1) (pc' := 100) (lv' := [(5, .int 0), (0, .ref 129), (1, .int x1), (2, .int x2), (3, .int x3), (4, .int x4), (6, w6)]) (st' := []) rfl ?_
    exact PL.lv (lvE.cons rfl (lvE.cons rfl (lvE.cons rfl (lvE.cons rfl (lvE.cons rfl (lvE.cons rfl (lvE.cons rfl (lvE.nil)))))))) h
  · have h := h.2 (cmp_ge.2.mp c)
    refine PL.pr (k := 1) (pc' := 36) (lv' := [(0, .ref 129), (1, .int x1), (2, .int x2), (3, .int x3), (4, .int x4), (5, .int x5), (6, w6)]) (st' := [.ref 129]) rfl ?_
    refine PL.gR (ci := 9) (j := 0) rfl rfl (by decide) ?_
    refine PL.pr (k := 1) (pc' := 41) (lv' := [(0, .ref 129), (1, .int x1), (2, .int x2), (3, .int x3), (4, .int x4), (5, .int x5), (6, w6)]) (st' := [.int 53, .ref (rf 129 0)]) rfl ?_
    refine PL.pr (k := 1) (pc' := 43) (lv' := [(0, .ref 129), (1, .int x1), (2, .int x2), (3, .int x3), (4, .int x4), (5, .int x5), (6, w6)]) (st' := [.int x5, .int 53, .ref (rf 129 0)]) rfl ?_
    refine PL.pr (k := 1) (pc' := 44) (lv' := [(0, .ref 129), (1, .int x1), (2, .int x2), (3, .int x3), (4, .int x4), (5, .int x5), (6, w6)]) (st' := [.int (53 + x5), .ref (rf 129 0)]) rfl ?_
    refine PL.rd rfl (rf_lt _ _) (fun c1 c2 => ?_)
    have h := h c1 c2
    refine PL.pr (k := 1) (pc' := 47) (lv' := [(0, .ref 129), (1, .int x1), (2, .int x2), (3, .int x3), (4, .int x4), (5, .int x5), (6, w6)]) (st' := [.int 90, .int (ι (rf 129 0) (53 + x5).toNatClampNeg)]) rfl ?_
    refine PL.if2 (t := 54) rfl rfl (fun c => ?_) (fun c => ?_)
    · have h := h.1 (cmp_lt.1.mp c)
      refine PL.pr (k := 1) (pc' := 55) (lv' := [(0, .ref 129), (1, .int x1), (2, .int x2), (3, .int x3), (4, .int x4), (5, .int x5), (6, w6)]) (st' := [.int 0]) rfl ?_
      exact h
    · have h := h.2 (cmp_lt.2.mp c)
      refine PL.pr (k := 1) (pc' := 51) (lv' := [(0, .ref 129), (1, .int x1), (2, .int x2), (3, .int x3), (4, .int x4), (5, .int x5), (6, w6)]) (st' := [.int 1]) rfl ?_
      refine PL.pr (k := 1) (pc' := 55) (lv' := [(0, .ref 129), (1, .int x1), (2, .int x2), (3, .int x3), (4, .int x4), (5, .int x5), (6, w6)]) (st' := [.int 1]) rfl ?_
      exact h
theorem t_225_55 {xl : List Int32} {n : Nat} {ι : IS} {l : Nat → Int64} {Q : Option Value → IS → (Nat → Int64) → Prop} {x1 : Int32} {x2 : Int32} {x3 : Int32} {x4 : Int32} {x5 : Int32} {w6 : Value} {u0 : Int32} (h : PL xl n 175 0 [(0, .int u0)] [] ι l (fun v1 κ1 l1 => ∀ r1, v1 = some (.int r1) → ((u0 = 0 → PL xl n 225 87 [(0, .ref 129), (1, .int x1), (2, .int x2), (3, .int x3), (4, .int (x4 ||| (r1 <<< (x5 &&& 31)))), (5, .int x5), (6, .int u0)] [.long 10, .long (l1 27), .ref 129] κ1 l1 Q) ∧ (¬ u0 = 0 → PL xl n 225 87 [(0, .ref 129), (1, .int x1), (2, .int x2), (3, .int x3), (4, .int (x4 ||| (r1 <<< (x5 &&& 31)))), (5, .int x5), (6, .int u0)] [.long 1, .long (l1 27), .ref 129] κ1 l1 Q)))) : PL xl (n + 1) 225 55 [(0, .ref 129), (1, .int x1), (2, .int x2), (3, .int x3), (4, .int x4), (5, .int x5), (6, w6)] [.int u0] ι l Q := by
  refine PL.pr1 (k := 0) (pc' := 57) (lv' := [(6, .int u0), (0, .ref 129), (1, .int x1), (2, .int x2), (3, .int x3), (4, .int x4), (5, .int x5)]) (st' := []) rfl ?_
  refine PL.pr (k := 1) (pc' := 59) (lv' := [(6, .int u0), (0, .ref 129), (1, .int x1), (2, .int x2), (3, .int x3), (4, .int x4), (5, .int x5)]) (st' := [.int x4]) rfl ?_
  refine PL.pr (k := 1) (pc' := 61) (lv' := [(6, .int u0), (0, .ref 129), (1, .int x1), (2, .int x2), (3, .int x3), (4, .int x4), (5, .int x5)]) (st' := [.int u0, .int x4]) rfl ?_
  refine (PL.callI (j := 175) (args := [.int u0]) (rest := [.int x4]) (M := cM175) (ty := .int) rfl rfl rfl rfl rfl rfl (by decide) rfl rfl (by decide) ?_).weak
  refine PL.imp h (fun v1 κ1 l1 h r1 hv => ?_)
  have h := h r1 hv
  refine PL.pr (k := 1) (pc' := 66) (lv' := [(6, .int u0), (0, .ref 129), (1, .int x1), (2, .int x2), (3, .int x3), (4, .int x4), (5, .int x5)]) (st' := [.int x5, .int r1, .int x4]) rfl ?_
  refine PL.pr (k := 1) (pc' := 67) (lv' := [(6, .int u0), (0, .ref 129), (1, .int x1), (2, .int x2), (3, .int x3), (4, .int x4), (5, .int x5)]) (st' := [.int (r1 <<< (x5 &&& 31)), .int x4]) rfl ?_
  refine PL.pr (k := 1) (pc' := 68) (lv' := [(6, .int u0), (0, .ref 129), (1, .int x1), (2, .int x2), (3, .int x3), (4, .int x4), (5, .int x5)]) (st' := [.int (x4 ||| (r1 <<< (x5 &&& 31)))]) rfl ?_
  refine PL.pr (k := 1) (pc' := 70) (lv' := [(4, .int (x4 ||| (r1 <<< (x5 &&& 31)))), (6, .int u0), (0, .ref 129), (1, .int x1), (2, .int x2), (3, .int x3), (5, .int x5)]) (st' := []) rfl ?_
  refine PL.pr (k := 1) (pc' := 71) (lv' := [(4, .int (x4 ||| (r1 <<< (x5 &&& 31)))), (6, .int u0), (0, .ref 129), (1, .int x1), (2, .int x2), (3, .int x3), (5, .int x5)]) (st' := [.ref 129]) rfl ?_
  refine PL.pr (k := 1) (pc' := 72) (lv' := [(4, .int (x4 ||| (r1 <<< (x5 &&& 31)))), (6, .int u0), (0, .ref 129), (1, .int x1), (2, .int x2), (3, .int x3), (5, .int x5)]) (st' := [.ref 129, .ref 129]) rfl ?_
  refine PL.gJ (ci := 9) (j := 27) rfl rfl (by decide) ?_
  refine PL.pr (k := 1) (pc' := 77) (lv' := [(4, .int (x4 ||| (r1 <<< (x5 &&& 31)))), (6, .int u0), (0, .ref 129), (1, .int x1), (2, .int x2), (3, .int x3), (5, .int x5)]) (st' := [.int u0, .long (l1 27), .ref 129]) rfl ?_
  refine PL.if1 (t := 84) rfl rfl (fun c => ?_) (fun c => ?_)
  · have h := h.1 (cmp_eq.1.mp c)
    refine PL.pr (k := 1) (pc' := 87) (lv' := [(4, .int (x4 ||| (r1 <<< (x5 &&& 31)))), (6, .int u0), (0, .ref 129), (1, .int x1), (2, .int x2), (3, .int x3), (5, .int x5)]) (st' := [.long 10, .long (l1 27), .ref 129]) rfl ?_
    exact PL.lv (lvE.cons rfl (lvE.cons rfl (lvE.cons rfl (lvE.cons rfl (lvE.cons rfl (lvE.cons rfl (lvE.cons rfl (lvE.nil)))))))) h
  · have h := h.2 (cmp_eq.2.mp c)
    refine PL.pr (k := 1) (pc' := 81) (lv' := [(4, .int (x4 ||| (r1 <<< (x5 &&& 31)))), (6, .int u0), (0, .ref 129), (1, .int x1), (2, .int x2), (3, .int x3), (5, .int x5)]) (st' := [.long 1, .long (l1 27), .ref 129]) rfl ?_
    refine PL.pr (k := 1) (pc' := 87) (lv' := [(4, .int (x4 ||| (r1 <<< (x5 &&& 31)))), (6, .int u0), (0, .ref 129), (1, .int x1), (2, .int x2), (3, .int x3), (5, .int x5)]) (st' := [.long 1, .long (l1 27), .ref 129]) rfl ?_
    exact PL.lv (lvE.cons rfl (lvE.cons rfl (lvE.cons rfl (lvE.cons rfl (lvE.cons rfl (lvE.cons rfl (lvE.cons rfl (lvE.nil)))))))) h
theorem t_225_87 {xl : List Int32} {n : Nat} {ι : IS} {l : Nat → Int64} {Q : Option Value → IS → (Nat → Int64) → Prop} {x1 : Int32} {x2 : Int32} {x3 : Int32} {x4 : Int32} {x5 : Int32} {x6 : Int32} {u0 : Int64} {u1 : Int64} (h : PL xl n 225 29 [(0, .ref 129), (1, .int x1), (2, .int x2), (3, .int x3), (4, .int x4), (5, .int (x5 + 1)), (6, .int x6)] [] ι (ul l 27 (u1 * u0)) Q) : PL xl (n + 1) 225 87 [(0, .ref 129), (1, .int x1), (2, .int x2), (3, .int x3), (4, .int x4), (5, .int x5), (6, .int x6)] [.long u0, .long u1, .ref 129] ι l Q := by
  refine PL.pr1 (k := 0) (pc' := 88) (lv' := [(0, .ref 129), (1, .int x1), (2, .int x2), (3, .int x3), (4, .int x4), (5, .int x5), (6, .int x6)]) (st' := [.long (u1 * u0), .ref 129]) rfl ?_
  refine PL.pJ (ci := 9) (j := 27) rfl rfl ?_
  refine PL.pr (k := 1) (pc' := 94) (lv' := [(5, .int (x5 + 1)), (0, .ref 129), (1, .int x1), (2, .int x2), (3, .int x3), (4, .int x4), (6, .int x6)]) (st' := []) rfl ?_
  refine PL.pr (k := 1) (pc' := 29) (lv' := [(5, .int (x5 + 1)), (0, .ref 129), (1, .int x1), (2, .int x2), (3, .int x3), (4, .int x4), (6, .int x6)]) (st' := []) rfl ?_
  exact PL.lv (lvE.cons rfl (lvE.cons rfl (lvE.cons rfl (lvE.cons rfl (lvE.cons rfl (lvE.cons rfl (lvE.cons rfl (lvE.nil)))))))) h
theorem t_225_100 {xl : List Int32} {n : Nat} {ι : IS} {l : Nat → Int64} {Q : Option Value → IS → (Nat → Int64) → Prop} {x1 : Int32} {x2 : Int32} {x3 : Int32} {x4 : Int32} {x5 : Int32} {w6 : Value} {w8 : Value} {w9 : Value} (h : ((¬ x5 < (1 <<< (x3 &&& 31)) → Q none ι l) ∧ (x5 < (1 <<< (x3 &&& 31)) → ((¬ (x5 &&& x4) = x4 → PL xl n 225 257 [(0, .ref 129), (1, .int x1), (2, .int x2), (3, .int x3), (4, .int x4), (5, .int x5), (6, w6), (8, w8), (9, w9)] [] ι l Q) ∧ ((x5 &&& x4) = x4 → PL xl n 168 0 [(0, .ref 129)] [] ι l (fun _ κ1 l1 => PL xl n 225 133 [(0, .ref 129), (1, .int x1), (2, .int x2), (3, .int x3), (4, .int x4), (5, .int x5), (6, .long 1), (8, .int 0), (9, w9)] [] (up κ1 129 22 0) l1 Q)))))) : PL xl (n + 1) 225 100 [(0, .ref 129), (1, .int x1), (2, .int x2), (3, .int x3), (4, .int x4), (5, .int x5), (6, w6), (8, w8), (9, w9)] [] ι l Q := by
  refine PL.pr1 (k := 0) (pc' := 102) (lv' := [(0, .ref 129), (1, .int x1), (2, .int x2), (3, .int x3), (4, .int x4), (5, .int x5), (6, w6), (8, w8), (9, w9)]) (st' := [.int x5]) rfl ?_
  refine PL.pr (k := 1) (pc' := 103) (lv' := [(0, .ref 129), (1, .int x1), (2, .int x2), (3, .int x3), (4, .int x4), (5, .int x5), (6, w6), (8, w8), (9, w9)]) (st' := [.int 1, .int x5]) rfl ?_
  refine PL.pr (k := 1) (pc' := 104) (lv' := [(0, .ref 129), (1, .int x1), (2, .int x2), (3, .int x3), (4, .int x4), (5, .int x5), (6, w6), (8, w8), (9, w9)]) (st' := [.int x3, .int 1, .int x5]) rfl ?_
  refine PL.pr (k := 1) (pc' := 105) (lv' := [(0, .ref 129), (1, .int x1), (2, .int x2), (3, .int x3), (4, .int x4), (5, .int x5), (6, w6), (8, w8), (9, w9)]) (st' := [.int (1 <<< (x3 &&& 31)), .int x5]) rfl ?_
  refine PL.if2 (t := 263) rfl rfl (fun c => ?_) (fun c => ?_)
  · have h := h.1 (cmp_ge.1.mp c)
    exact PL.retV rfl h
  · have h := h.2 (cmp_ge.2.mp c)
    refine PL.pr (k := 1) (pc' := 110) (lv' := [(0, .ref 129), (1, .int x1), (2, .int x2), (3, .int x3), (4, .int x4), (5, .int x5), (6, w6), (8, w8), (9, w9)]) (st' := [.int x5]) rfl ?_
    refine PL.pr (k := 1) (pc' := 112) (lv' := [(0, .ref 129), (1, .int x1), (2, .int x2), (3, .int x3), (4, .int x4), (5, .int x5), (6, w6), (8, w8), (9, w9)]) (st' := [.int x4, .int x5]) rfl ?_
    refine PL.pr (k := 1) (pc' := 113) (lv' := [(0, .ref 129), (1, .int x1), (2, .int x2), (3, .int x3), (4, .int x4), (5, .int x5), (6, w6), (8, w8), (9, w9)]) (st' := [.int (x5 &&& x4)]) rfl ?_
    refine PL.pr (k := 1) (pc' := 115) (lv' := [(0, .ref 129), (1, .int x1), (2, .int x2), (3, .int x3), (4, .int x4), (5, .int x5), (6, w6), (8, w8), (9, w9)]) (st' := [.int x4, .int (x5 &&& x4)]) rfl ?_
    refine PL.if2 (t := 257) rfl rfl (fun c => ?_) (fun c => ?_)
    · have h := h.1 (cmp_ne.1.mp c)
      exact h
    · have h := h.2 (cmp_ne.2.mp c)
      refine PL.pr (k := 1) (pc' := 119) (lv' := [(0, .ref 129), (1, .int x1), (2, .int x2), (3, .int x3), (4, .int x4), (5, .int x5), (6, w6), (8, w8), (9, w9)]) (st' := [.long 1]) rfl ?_
      refine PL.pr (k := 1) (pc' := 121) (lv' := [(6, .long 1), (0, .ref 129), (1, .int x1), (2, .int x2), (3, .int x3), (4, .int x4), (5, .int x5), (8, w8), (9, w9)]) (st' := []) rfl ?_
      refine PL.pr (k := 1) (pc' := 122) (lv' := [(6, .long 1), (0, .ref 129), (1, .int x1), (2, .int x2), (3, .int x3), (4, .int x4), (5, .int x5), (8, w8), (9, w9)]) (st' := [.ref 129]) rfl ?_
      refine (PL.callV (j := 168) (args := [.ref 129]) (rest := []) (M := cM168) rfl rfl rfl rfl rfl rfl (by decide) rfl rfl ?_).weak
      refine PL.imp h (fun _ κ1 l1 h => ?_)
      refine PL.pr (k := 1) (pc' := 126) (lv' := [(6, .long 1), (0, .ref 129), (1, .int x1), (2, .int x2), (3, .int x3), (4, .int x4), (5, .int x5), (8, w8), (9, w9)]) (st' := [.ref 129]) rfl ?_
      refine PL.pr (k := 1) (pc' := 127) (lv' := [(6, .long 1), (0, .ref 129), (1, .int x1), (2, .int x2), (3, .int x3), (4, .int x4), (5, .int x5), (8, w8), (9, w9)]) (st' := [.int 0, .ref 129]) rfl ?_
      refine PL.pI (ci := 9) (j := 22) rfl rfl ?_
      refine PL.pr (k := 1) (pc' := 131) (lv' := [(6, .long 1), (0, .ref 129), (1, .int x1), (2, .int x2), (3, .int x3), (4, .int x4), (5, .int x5), (8, w8), (9, w9)]) (st' := [.int 0]) rfl ?_
      refine PL.pr (k := 1) (pc' := 133) (lv' := [(8, .int 0), (6, .long 1), (0, .ref 129), (1, .int x1), (2, .int x2), (3, .int x3), (4, .int x4), (5, .int x5), (9, w9)]) (st' := []) rfl ?_
      exact PL.lv (lvE.cons rfl (lvE.cons rfl (lvE.cons rfl (lvE.cons rfl (lvE.cons rfl (lvE.cons rfl (lvE.cons rfl (lvE.cons rfl (lvE.cons rfl (lvE.nil)))))))))) h
theorem t_225_133 {xl : List Int32} {n : Nat} {ι : IS} {l : Nat → Int64} {Q : Option Value → IS → (Nat → Int64) → Prop} {x1 : Int32} {x2 : Int32} {x3 : Int32} {x4 : Int32} {x5 : Int32} {y6 : Int64} {x8 : Int32} {w9 : Value} (h : ((¬ x8 < x3 → PL xl n 172 0 [(0, .ref 129), (1, .int x2)] [] ι l (fun v1 κ1 l1 => ∀ r1, v1 = some (.int r1) → ((r1 = 0 → PL xl n 225 236 [(0, .ref 129), (1, .int x1), (2, .int x2), (3, .int x3), (4, .int x4), (5, .int x5), (6, .long y6), (8, .int x8), (9, w9)] [.long 0, .long (l 25), .ref 129] κ1 l1 Q) ∧ (¬ r1 = 0 → PL xl n 225 236 [(0, .ref 129), (1, .int x1), (2, .int x2), (3, .int x3), (4, .int x4), (5, .int x5), (6, .long y6), (8, .int x8), (9, w9)] [.long y6, .long (l 25), .ref 129] κ1 l1 Q)))) ∧ (x8 < x3 → ((¬ ((x5 >>> (x8 &&& 31)) &&& 1) = 1 → PL xl n 225 155 [(0, .ref 129), (1, .int x1), (2, .int x2), (3, .int x3), (4, .int x4), (5, .int x5), (6, .long y6), (8, .int x8), (9, w9)] [.int 0] ι l Q) ∧ (((x5 >>> (x8 &&& 31)) &&& 1) = 1 → PL xl n 225 155 [(0, .ref 129), (1, .int x1), (2, .int x2), (3, .int x3), (4, .int x4), (5, .int x5), (6, .long y6), (8, .int x8), (9, w9)] [.int 1] ι l Q))))) : PL xl (n + 1) 225 133 [(0, .ref 129), (1, .int x1), (2, .int x2), (3, .int x3), (4, .int x4), (5, .int x5), (6, .long y6), (8, .int x8), (9, w9)] [] ι l Q := by
  refine PL.pr1 (k := 0) (pc' := 135) (lv' := [(0, .ref 129), (1, .int x1), (2, .int x2), (3, .int x3), (4, .int x4), (5, .int x5), (6, .long y6), (8, .int x8), (9, w9)]) (st' := [.int x8]) rfl ?_
  refine PL.pr (k := 1) (pc' := 136) (lv' := [(0, .ref 129), (1, .int x1), (2, .int x2), (3, .int x3), (4, .int x4), (5, .int x5), (6, .long y6), (8, .int x8), (9, w9)]) (st' := [.int x3, .int x8]) rfl ?_
  refine PL.if2 (t := 217) rfl rfl (fun c => ?_) (fun c => ?_)
  · have h := h.1 (cmp_ge.1.mp c)
    refine PL.pr (k := 1) (pc' := 218) (lv' := [(0, .ref 129), (1, .int x1), (2, .int x2), (3, .int x3), (4, .int x4), (5, .int x5), (6, .long y6), (8, .int x8), (9, w9)]) (st' := [.ref 129]) rfl ?_
    refine PL.pr (k := 1) (pc' := 219) (lv' := [(0, .ref 129), (1, .int x1), (2, .int x2), (3, .int x3), (4, .int x4), (5, .int x5), (6, .long y6), (8, .int x8), (9, w9)]) (st' := [.ref 129, .ref 129]) rfl ?_
    refine PL.gJ (ci := 9) (j := 25) rfl rfl (by decide) ?_
    refine PL.pr (k := 1) (pc' := 223) (lv' := [(0, .ref 129), (1, .int x1), (2, .int x2), (3, .int x3), (4, .int x4), (5, .int x5), (6, .long y6), (8, .int x8), (9, w9)]) (st' := [.ref 129, .long (l 25), .ref 129]) rfl ?_
    refine PL.pr (k := 1) (pc' := 224) (lv' := [(0, .ref 129), (1, .int x1), (2, .int x2), (3, .int x3), (4, .int x4), (5, .int x5), (6, .long y6), (8, .int x8), (9, w9)]) (st' := [.int x2, .ref 129, .long (l 25), .ref 129]) rfl ?_
    refine (PL.callI (j := 172) (args := [.ref 129, .int x2]) (rest := [.long (l 25), .ref 129]) (M := cM172) (ty := .boolean) rfl rfl rfl rfl rfl rfl (by decide) rfl rfl (by decide) ?_).weak
    refine PL.imp h (fun v1 κ1 l1 h r1 hv => ?_)
    have h := h r1 hv
    refine PL.if1 (t := 235) rfl rfl (fun c => ?_) (fun c => ?_)
    · have h := h.1 (cmp_eq.1.mp c)
      refine PL.pr (k := 1) (pc' := 236) (lv' := [(0, .ref 129), (1, .int x1), (2, .int x2), (3, .int x3), (4, .int x4), (5, .int x5), (6, .long y6), (8, .int x8), (9, w9)]) (st' := [.long 0, .long (l 25), .ref 129]) rfl ?_
      exact h
    · have h := h.2 (cmp_eq.2.mp c)
      refine PL.pr (k := 1) (pc' := 232) (lv' := [(0, .ref 129), (1, .int x1), (2, .int x2), (3, .int x3), (4, .int x4), (5, .int x5), (6, .long y6), (8, .int x8), (9, w9)]) (st' := [.long y6, .long (l 25), .ref 129]) rfl ?_
      refine PL.pr (k := 1) (pc' := 236) (lv' := [(0, .ref 129), (1, .int x1), (2, .int x2), (3, .int x3), (4, .int x4), (5, .int x5), (6, .long y6), (8, .int x8), (9, w9)]) (st' := [.long y6, .long (l 25), .ref 129]) rfl ?_
      exact h
  · have h := h.2 (cmp_ge.2.mp c)
    refine PL.pr (k := 1) (pc' := 141) (lv' := [(0, .ref 129), (1, .int x1), (2, .int x2), (3, .int x3), (4, .int x4), (5, .int x5), (6, .long y6), (8, .int x8), (9, w9)]) (st' := [.int x5]) rfl ?_
    refine PL.pr (k := 1) (pc' := 143) (lv' := [(0, .ref 129), (1, .int x1), (2, .int x2), (3, .int x3), (4, .int x4), (5, .int x5), (6, .long y6), (8, .int x8), (9, w9)]) (st' := [.int x8, .int x5]) rfl ?_
    refine PL.pr (k := 1) (pc' := 144) (lv' := [(0, .ref 129), (1, .int x1), (2, .int x2), (3, .int x3), (4, .int x4), (5, .int x5), (6, .long y6), (8, .int x8), (9, w9)]) (st' := [.int (x5 >>> (x8 &&& 31))]) rfl ?_
    refine PL.pr (k := 1) (pc' := 145) (lv' := [(0, .ref 129), (1, .int x1), (2, .int x2), (3, .int x3), (4, .int x4), (5, .int x5), (6, .long y6), (8, .int x8), (9, w9)]) (st' := [.int 1, .int (x5 >>> (x8 &&& 31))]) rfl ?_
    refine PL.pr (k := 1) (pc' := 146) (lv' := [(0, .ref 129), (1, .int x1), (2, .int x2), (3, .int x3), (4, .int x4), (5, .int x5), (6, .long y6), (8, .int x8), (9, w9)]) (st' := [.int ((x5 >>> (x8 &&& 31)) &&& 1)]) rfl ?_
    refine PL.pr (k := 1) (pc' := 147) (lv' := [(0, .ref 129), (1, .int x1), (2, .int x2), (3, .int x3), (4, .int x4), (5, .int x5), (6, .long y6), (8, .int x8), (9, w9)]) (st' := [.int 1, .int ((x5 >>> (x8 &&& 31)) &&& 1)]) rfl ?_
    refine PL.if2 (t := 154) rfl rfl (fun c => ?_) (fun c => ?_)
    · have h := h.1 (cmp_ne.1.mp c)
      refine PL.pr (k := 1) (pc' := 155) (lv' := [(0, .ref 129), (1, .int x1), (2, .int x2), (3, .int x3), (4, .int x4), (5, .int x5), (6, .long y6), (8, .int x8), (9, w9)]) (st' := [.int 0]) rfl ?_
      exact h
    · have h := h.2 (cmp_ne.2.mp c)
      refine PL.pr (k := 1) (pc' := 151) (lv' := [(0, .ref 129), (1, .int x1), (2, .int x2), (3, .int x3), (4, .int x4), (5, .int x5), (6, .long y6), (8, .int x8), (9, w9)]) (st' := [.int 1]) rfl ?_
      refine PL.pr (k := 1) (pc' := 155) (lv' := [(0, .ref 129), (1, .int x1), (2, .int x2), (3, .int x3), (4, .int x4), (5, .int x5), (6, .long y6), (8, .int x8), (9, w9)]) (st' := [.int 1]) rfl ?_
      exact h
theorem t_225_155 {xl : List Int32} {n : Nat} {ι : IS} {l : Nat → Int64} {Q : Option Value → IS → (Nat → Int64) → Prop} {x1 : Int32} {x2 : Int32} {x3 : Int32} {x4 : Int32} {x5 : Int32} {y6 : Int64} {x8 : Int32} {w9 : Value} {u0 : Int32} (h : ((¬ ((x4 >>> (x8 &&& 31)) &&& 1) = 1 → ((u0 = 0 → PL xl n 225 189 [(0, .ref 129), (1, .int x1), (2, .int x2), (3, .int x3), (4, .int x4), (5, .int x5), (6, .long y6), (8, .int x8), (9, .int u0)] [.long ((10 - x1)).toInt64, .long y6] ι l Q) ∧ (¬ u0 = 0 → PL xl n 225 189 [(0, .ref 129), (1, .int x1), (2, .int x2), (3, .int x3), (4, .int x4), (5, .int x5), (6, .long y6), (8, .int x8), (9, .int u0)] [.long (x1).toInt64, .long y6] ι l Q))) ∧ (((x4 >>> (x8 &&& 31)) &&& 1) = 1 → PL xl n 225 189 [(0, .ref 129), (1, .int x1), (2, .int x2), (3, .int x3), (4, .int x4), (5, .int x5), (6, .long y6), (8, .int x8), (9, .int u0)] [.long 1, .long y6] ι l Q))) : PL xl (n + 1) 225 155 [(0, .ref 129), (1, .int x1), (2, .int x2), (3, .int x3), (4, .int x4), (5, .int x5), (6, .long y6), (8, .int x8), (9, w9)] [.int u0] ι l Q := by
  refine PL.pr1 (k := 0) (pc' := 157) (lv' := [(9, .int u0), (0, .ref 129), (1, .int x1), (2, .int x2), (3, .int x3), (4, .int x4), (5, .int x5), (6, .long y6), (8, .int x8)]) (st' := []) rfl ?_
  refine PL.pr (k := 1) (pc' := 159) (lv' := [(9, .int u0), (0, .ref 129), (1, .int x1), (2, .int x2), (3, .int x3), (4, .int x4), (5, .int x5), (6, .long y6), (8, .int x8)]) (st' := [.long y6]) rfl ?_
  refine PL.pr (k := 1) (pc' := 161) (lv' := [(9, .int u0), (0, .ref 129), (1, .int x1), (2, .int x2), (3, .int x3), (4, .int x4), (5, .int x5), (6, .long y6), (8, .int x8)]) (st' := [.int x4, .long y6]) rfl ?_
  refine PL.pr (k := 1) (pc' := 163) (lv' := [(9, .int u0), (0, .ref 129), (1, .int x1), (2, .int x2), (3, .int x3), (4, .int x4), (5, .int x5), (6, .long y6), (8, .int x8)]) (st' := [.int x8, .int x4, .long y6]) rfl ?_
  refine PL.pr (k := 1) (pc' := 164) (lv' := [(9, .int u0), (0, .ref 129), (1, .int x1), (2, .int x2), (3, .int x3), (4, .int x4), (5, .int x5), (6, .long y6), (8, .int x8)]) (st' := [.int (x4 >>> (x8 &&& 31)), .long y6]) rfl ?_
  refine PL.pr (k := 1) (pc' := 165) (lv' := [(9, .int u0), (0, .ref 129), (1, .int x1), (2, .int x2), (3, .int x3), (4, .int x4), (5, .int x5), (6, .long y6), (8, .int x8)]) (st' := [.int 1, .int (x4 >>> (x8 &&& 31)), .long y6]) rfl ?_
  refine PL.pr (k := 1) (pc' := 166) (lv' := [(9, .int u0), (0, .ref 129), (1, .int x1), (2, .int x2), (3, .int x3), (4, .int x4), (5, .int x5), (6, .long y6), (8, .int x8)]) (st' := [.int ((x4 >>> (x8 &&& 31)) &&& 1), .long y6]) rfl ?_
  refine PL.pr (k := 1) (pc' := 167) (lv' := [(9, .int u0), (0, .ref 129), (1, .int x1), (2, .int x2), (3, .int x3), (4, .int x4), (5, .int x5), (6, .long y6), (8, .int x8)]) (st' := [.int 1, .int ((x4 >>> (x8 &&& 31)) &&& 1), .long y6]) rfl ?_
  refine PL.if2 (t := 174) rfl rfl (fun c => ?_) (fun c => ?_)
  · have h := h.1 (cmp_ne.1.mp c)
    refine PL.pr (k := 1) (pc' := 176) (lv' := [(9, .int u0), (0, .ref 129), (1, .int x1), (2, .int x2), (3, .int x3), (4, .int x4), (5, .int x5), (6, .long y6), (8, .int x8)]) (st' := [.int u0, .long y6]) rfl ?_
    refine PL.if1 (t := 184) rfl rfl (fun c => ?_) (fun c => ?_)
    · have h := h.1 (cmp_eq.1.mp c)
      refine PL.pr (k := 1) (pc' := 186) (lv' := [(9, .int u0), (0, .ref 129), (1, .int x1), (2, .int x2), (3, .int x3), (4, .int x4), (5, .int x5), (6, .long y6), (8, .int x8)]) (st' := [.int 10, .long y6]) rfl ?_
      refine PL.pr (k := 1) (pc' := 187) (lv' := [(9, .int u0), (0, .ref 129), (1, .int x1), (2, .int x2), (3, .int x3), (4, .int x4), (5, .int x5), (6, .long y6), (8, .int x8)]) (st' := [.int x1, .int 10, .long y6]) rfl ?_
      refine PL.pr (k := 1) (pc' := 188) (lv' := [(9, .int u0), (0, .ref 129), (1, .int x1), (2, .int x2), (3, .int x3), (4, .int x4), (5, .int x5), (6, .long y6), (8, .int x8)]) (st' := [.int (10 - x1), .long y6]) rfl ?_
      refine PL.pr (k := 1) (pc' := 189) (lv' := [(9, .int u0), (0, .ref 129), (1, .int x1), (2, .int x2), (3, .int x3), (4, .int x4), (5, .int x5), (6, .long y6), (8, .int x8)]) (st' := [.long ((10 - x1)).toInt64, .long y6]) rfl ?_
      exact PL.lv (lvE.cons rfl (lvE.cons rfl (lvE.cons rfl (lvE.cons rfl (lvE.cons rfl (lvE.cons rfl (lvE.cons rfl (lvE.cons rfl (lvE.cons rfl (lvE.nil)))))))))) h
    · have h := h.2 (cmp_eq.2.mp c)
      refine PL.pr (k := 1) (pc' := 180) (lv' := [(9, .int u0), (0, .ref 129), (1, .int x1), (2, .int x2), (3, .int x3), (4, .int x4), (5, .int x5), (6, .long y6), (8, .int x8)]) (st' := [.int x1, .long y6]) rfl ?_
      refine PL.pr (k := 1) (pc' := 181) (lv' := [(9, .int u0), (0, .ref 129), (1, .int x1), (2, .int x2), (3, .int x3), (4, .int x4), (5, .int x5), (6, .long y6), (8, .int x8)]) (st' := [.long (x1).toInt64, .long y6]) rfl ?_
      refine PL.pr (k := 1) (pc' := 189) (lv' := [(9, .int u0), (0, .ref 129), (1, .int x1), (2, .int x2), (3, .int x3), (4, .int x4), (5, .int x5), (6, .long y6), (8, .int x8)]) (st' := [.long (x1).toInt64, .long y6]) rfl ?_
      exact PL.lv (lvE.cons rfl (lvE.cons rfl (lvE.cons rfl (lvE.cons rfl (lvE.cons rfl (lvE.cons rfl (lvE.cons rfl (lvE.cons rfl (lvE.cons rfl (lvE.nil)))))))))) h
  · have h := h.2 (cmp_ne.2.mp c)
    refine PL.pr (k := 1) (pc' := 171) (lv' := [(9, .int u0), (0, .ref 129), (1, .int x1), (2, .int x2), (3, .int x3), (4, .int x4), (5, .int x5), (6, .long y6), (8, .int x8)]) (st' := [.long 1, .long y6]) rfl ?_
    refine PL.pr (k := 1) (pc' := 189) (lv' := [(9, .int u0), (0, .ref 129), (1, .int x1), (2, .int x2), (3, .int x3), (4, .int x4), (5, .int x5), (6, .long y6), (8, .int x8)]) (st' := [.long 1, .long y6]) rfl ?_
    exact PL.lv (lvE.cons rfl (lvE.cons rfl (lvE.cons rfl (lvE.cons rfl (lvE.cons rfl (lvE.cons rfl (lvE.cons rfl (lvE.cons rfl (lvE.cons rfl (lvE.nil)))))))))) h
theorem t_225_189 {xl : List Int32} {n : Nat} {ι : IS} {l : Nat → Int64} {Q : Option Value → IS → (Nat → Int64) → Prop} {x1 : Int32} {x2 : Int32} {x3 : Int32} {x4 : Int32} {x5 : Int32} {y6 : Int64} {x8 : Int32} {x9 : Int32} {u0 : Int64} {u1 : Int64} (h : ((x9 = 0 → PL xl n 225 211 [(0, .ref 129), (1, .int x1), (2, .int x2), (3, .int x3), (4, .int x4), (5, .int x5), (6, .long (u1 * u0)), (8, .int x8), (9, .int x9)] [] ι l Q) ∧ (¬ x9 = 0 → (0 ≤ (53 + x8).toInt → (53 + x8).toInt < ln (rf 129 0) → PL xl n 203 0 [(0, .ref 129), (1, .int (ι (rf 129 0) (53 + x8).toNatClampNeg))] [] ι l (fun _ κ1 l1 => PL xl n 225 211 [(0, .ref 129), (1, .int x1), (2, .int x2), (3, .int x3), (4, .int x4), (5, .int x5), (6, .long (u1 * u0)), (8, .int x8), (9, .int x9)] [] κ1 l1 Q))))) : PL xl (n + 1) 225 189 [(0, .ref 129), (1, .int x1), (2, .int x2), (3, .int x3), (4, .int x4), (5, .int x5), (6, .long y6), (8, .int x8), (9, .int x9)] [.long u0, .long u1] ι l Q := by
  refine PL.pr1 (k := 0) (pc' := 190) (lv' := [(0, .ref 129), (1, .int x1), (2, .int x2), (3, .int x3), (4, .int x4), (5, .int x5), (6, .long y6), (8, .int x8), (9, .int x9)]) (st' := [.long (u1 * u0)]) rfl ?_
  refine PL.pr (k := 1) (pc' := 192) (lv' := [(6, .long (u1 * u0)), (0, .ref 129), (1, .int x1), (2, .int x2), (3, .int x3), (4, .int x4), (5, .int x5), (8, .int x8), (9, .int x9)]) (st' := []) rfl ?_
  refine PL.pr (k := 1) (pc' := 194) (lv' := [(6, .long (u1 * u0)), (0, .ref 129), (1, .int x1), (2, .int x2), (3, .int x3), (4, .int x4), (5, .int x5), (8, .int x8), (9, .int x9)]) (st' := [.int x9]) rfl ?_
  refine PL.if1 (t := 211) rfl rfl (fun c => ?_) (fun c => ?_)
  · have h := h.1 (cmp_eq.1.mp c)
    exact PL.lv (lvE.cons rfl (lvE.cons rfl (lvE.cons rfl (lvE.cons rfl (lvE.cons rfl (lvE.cons rfl (lvE.cons rfl (lvE.cons rfl (lvE.cons rfl (lvE.nil)))))))))) h
  · have h := h.2 (cmp_eq.2.mp c)
    refine PL.pr (k := 1) (pc' := 198) (lv' := [(6, .long (u1 * u0)), (0, .ref 129), (1, .int x1), (2, .int x2), (3, .int x3), (4, .int x4), (5, .int x5), (8, .int x8), (9, .int x9)]) (st' := [.ref 129]) rfl ?_
    refine PL.pr (k := 1) (pc' := 199) (lv' := [(6, .long (u1 * u0)), (0, .ref 129), (1, .int x1), (2, .int x2), (3, .int x3), (4, .int x4), (5, .int x5), (8, .int x8), (9, .int x9)]) (st' := [.ref 129, .ref 129]) rfl ?_
    refine PL.gR (ci := 9) (j := 0) rfl rfl (by decide) ?_
    refine PL.pr (k := 1) (pc' := 204) (lv' := [(6, .long (u1 * u0)), (0, .ref 129), (1, .int x1), (2, .int x2), (3, .int x3), (4, .int x4), (5, .int x5), (8, .int x8), (9, .int x9)]) (st' := [.int 53, .ref (rf 129 0), .ref 129]) rfl ?_
    refine PL.pr (k := 1) (pc' := 206) (lv' := [(6, .long (u1 * u0)), (0, .ref 129), (1, .int x1), (2, .int x2), (3, .int x3), (4, .int x4), (5, .int x5), (8, .int x8), (9, .int x9)]) (st' := [.int x8, .int 53, .ref (rf 129 0), .ref 129]) rfl ?_
    refine PL.pr (k := 1) (pc' := 207) (lv' := [(6, .long (u1 * u0)), (0, .ref 129), (1, .int x1), (2, .int x2), (3, .int x3), (4, .int x4), (5, .int x5), (8, .int x8), (9, .int x9)]) (st' := [.int (53 + x8), .ref (rf 129 0), .ref 129]) rfl ?_
    refine PL.rd rfl (rf_lt _ _) (fun c1 c2 => ?_)
    have h := h c1 c2
    refine (PL.callV (j := 203) (args := [.ref 129, .int (ι (rf 129 0) (53 + x8).toNatClampNeg)]) (rest := []) (M := cM203) rfl rfl rfl rfl rfl rfl (by decide) rfl rfl ?_).weak
    refine PL.imp h (fun _ κ1 l1 h => ?_)
    exact PL.lv (lvE.cons rfl (lvE.cons rfl (lvE.cons rfl (lvE.cons rfl (lvE.cons rfl (lvE.cons rfl (lvE.cons rfl (lvE.cons rfl (lvE.cons rfl (lvE.nil)))))))))) h
theorem t_225_211 {xl : List Int32} {n : Nat} {ι : IS} {l : Nat → Int64} {Q : Option Value → IS → (Nat → Int64) → Prop} {x1 : Int32} {x2 : Int32} {x3 : Int32} {x4 : Int32} {x5 : Int32} {y6 : Int64} {x8 : Int32} {x9 : Int32} (h : PL xl n 225 133 [(0, .ref 129), (1, .int x1), (2, .int x2), (3, .int x3), (4, .int x4), (5, .int x5), (6, .long y6), (8, .int (x8 + 1)), (9, .int x9)] [] ι l Q) : PL xl (n + 1) 225 211 [(0, .ref 129), (1, .int x1), (2, .int x2), (3, .int x3), (4, .int x4), (5, .int x5), (6, .long y6), (8, .int x8), (9, .int x9)] [] ι l Q := by
  refine PL.pr1 (k := 0) (pc' := 214) (lv' := [(8, .int (x8 + 1)), (0, .ref 129), (1, .int x1), (2, .int x2), (3, .int x3), (4, .int x4), (5, .int x5), (6, .long y6), (9, .int x9)]) (st' := []) rfl ?_
  refine PL.pr (k := 1) (pc' := 133) (lv' := [(8, .int (x8 + 1)), (0, .ref 129), (1, .int x1), (2, .int x2), (3, .int x3), (4, .int x4), (5, .int x5), (6, .long y6), (9, .int x9)]) (st' := []) rfl ?_
  exact PL.lv (lvE.cons rfl (lvE.cons rfl (lvE.cons rfl (lvE.cons rfl (lvE.cons rfl (lvE.cons rfl (lvE.cons rfl (lvE.cons rfl (lvE.cons rfl (lvE.nil)))))))))) h
theorem t_225_236 {xl : List Int32} {n : Nat} {ι : IS} {l : Nat → Int64} {Q : Option Value → IS → (Nat → Int64) → Prop} {x1 : Int32} {x2 : Int32} {x3 : Int32} {x4 : Int32} {x5 : Int32} {y6 : Int64} {x8 : Int32} {w9 : Value} {u0 : Int64} {u1 : Int64} (h : PL xl n 225 257 [(0, .ref 129), (1, .int x1), (2, .int x2), (3, .int x3), (4, .int x4), (5, .int x5), (6, .long y6), (8, .int x8), (9, w9)] [] ι (ul (ul l 25 (u1 + u0)) 26 (((ul l 25 (u1 + u0)) 26) + (y6 * ((ι 129 22)).toInt64))) Q) : PL xl (n + 1) 225 236 [(0, .ref 129), (1, .int x1), (2, .int x2), (3, .int x3), (4, .int x4), (5, .int x5), (6, .long y6), (8, .int x8), (9, w9)] [.long u0, .long u1, .ref 129] ι l Q := by
  refine PL.pr1 (k := 0) (pc' := 237) (lv' := [(0, .ref 129), (1, .int x1), (2, .int x2), (3, .int x3), (4, .int x4), (5, .int x5), (6, .long y6), (8, .int x8), (9, w9)]) (st' := [.long (u1 + u0), .ref 129]) rfl ?_
  refine PL.pJ (ci := 9) (j := 25) rfl rfl ?_
  refine PL.pr (k := 1) (pc' := 241) (lv' := [(0, .ref 129), (1, .int x1), (2, .int x2), (3, .int x3), (4, .int x4), (5, .int x5), (6, .long y6), (8, .int x8), (9, w9)]) (st' := [.ref 129]) rfl ?_
  refine PL.pr (k := 1) (pc' := 242) (lv' := [(0, .ref 129), (1, .int x1), (2, .int x2), (3, .int x3), (4, .int x4), (5, .int x5), (6, .long y6), (8, .int x8), (9, w9)]) (st' := [.ref 129, .ref 129]) rfl ?_
  refine PL.gJ (ci := 9) (j := 26) rfl rfl (by decide) ?_
  refine PL.pr (k := 1) (pc' := 247) (lv' := [(0, .ref 129), (1, .int x1), (2, .int x2), (3, .int x3), (4, .int x4), (5, .int x5), (6, .long y6), (8, .int x8), (9, w9)]) (st' := [.long y6, .long ((ul l 25 (u1 + u0)) 26), .ref 129]) rfl ?_
  refine PL.pr (k := 1) (pc' := 248) (lv' := [(0, .ref 129), (1, .int x1), (2, .int x2), (3, .int x3), (4, .int x4), (5, .int x5), (6, .long y6), (8, .int x8), (9, w9)]) (st' := [.ref 129, .long y6, .long ((ul l 25 (u1 + u0)) 26), .ref 129]) rfl ?_
  refine PL.gI (ci := 9) (j := 22) rfl rfl (by decide) ?_
  refine PL.pr (k := 1) (pc' := 252) (lv' := [(0, .ref 129), (1, .int x1), (2, .int x2), (3, .int x3), (4, .int x4), (5, .int x5), (6, .long y6), (8, .int x8), (9, w9)]) (st' := [.long ((ι 129 22)).toInt64, .long y6, .long ((ul l 25 (u1 + u0)) 26), .ref 129]) rfl ?_
  refine PL.pr (k := 1) (pc' := 253) (lv' := [(0, .ref 129), (1, .int x1), (2, .int x2), (3, .int x3), (4, .int x4), (5, .int x5), (6, .long y6), (8, .int x8), (9, w9)]) (st' := [.long (y6 * ((ι 129 22)).toInt64), .long ((ul l 25 (u1 + u0)) 26), .ref 129]) rfl ?_
  refine PL.pr (k := 1) (pc' := 254) (lv' := [(0, .ref 129), (1, .int x1), (2, .int x2), (3, .int x3), (4, .int x4), (5, .int x5), (6, .long y6), (8, .int x8), (9, w9)]) (st' := [.long (((ul l 25 (u1 + u0)) 26) + (y6 * ((ι 129 22)).toInt64)), .ref 129]) rfl ?_
  refine PL.pJ (ci := 9) (j := 26) rfl rfl ?_
  exact h
theorem t_225_257 {xl : List Int32} {n : Nat} {ι : IS} {l : Nat → Int64} {Q : Option Value → IS → (Nat → Int64) → Prop} {x1 : Int32} {x2 : Int32} {x3 : Int32} {x4 : Int32} {x5 : Int32} {w6 : Value} {w8 : Value} {w9 : Value} (h : PL xl n 225 100 [(0, .ref 129), (1, .int x1), (2, .int x2), (3, .int x3), (4, .int x4), (5, .int (x5 + 1)), (6, w6), (8, w8), (9, w9)] [] ι l Q) : PL xl (n + 1) 225 257 [(0, .ref 129), (1, .int x1), (2, .int x2), (3, .int x3), (4, .int x4), (5, .int x5), (6, w6), (8, w8), (9, w9)] [] ι l Q := by
  refine PL.pr1 (k := 0) (pc' := 260) (lv' := [(5, .int (x5 + 1)), (0, .ref 129), (1, .int x1), (2, .int x2), (3, .int x3), (4, .int x4), (6, w6), (8, w8), (9, w9)]) (st' := []) rfl ?_
  refine PL.pr (k := 1) (pc' := 100) (lv' := [(5, .int (x5 + 1)), (0, .ref 129), (1, .int x1), (2, .int x2), (3, .int x3), (4, .int x4), (6, w6), (8, w8), (9, w9)]) (st' := []) rfl ?_
  exact PL.lv (lvE.cons rfl (lvE.cons rfl (lvE.cons rfl (lvE.cons rfl (lvE.cons rfl (lvE.cons rfl (lvE.cons rfl (lvE.cons rfl (lvE.cons rfl (lvE.nil)))))))))) h

/-- DoorPaintsModel.mean(II)J -/
theorem t_228_0 {xl : List Int32} {n : Nat} {ι : IS} {l : Nat → Int64} {Q : Option Value → IS → (Nat → Int64) → Prop} {x1 : Int32} {x2 : Int32} (h : PL xl n 148 0 [(0, .long (x1).toInt64), (2, .long 0), (4, .long 10)] [] ι l (fun v1 κ1 l1 => ∀ r1, v1 = some (.int r1) → ((r1 = 0 → Q (some (.long (-1))) κ1 l1) ∧ (¬ r1 = 0 → PL xl n 208 0 [(0, .int x2)] [] κ1 l1 (fun v2 κ2 l2 => ∀ r2, v2 = some (.int r2) → ((¬ r2 = 0 → PL xl n 225 0 [(0, .ref 129), (1, .int x1), (2, .int 0)] [] κ2 l2 (fun _ κ3 l3 => PL xl n 226 0 [(0, .long (l3 26)), (2, .long (l3 27)), (4, .int x2)] [] κ3 l3 (fun v4 κ4 l4 => ∀ r4, v4 = some (.long r4) → Q (some (.long r4)) κ4 l4))) ∧ (r2 = 0 → Q (some (.long (-1))) κ2 l2))))))) : PL xl (n + 1) 228 0 [(0, .ref 129), (1, .int x1), (2, .int x2)] [] ι l Q := by
  refine PL.pr1 (k := 0) (pc' := 1) (lv' := [(0, .ref 129), (1, .int x1), (2, .int x2)]) (st' := [.int x1]) rfl ?_
  refine PL.pr (k := 1) (pc' := 2) (lv' := [(0, .ref 129), (1, .int x1), (2, .int x2)]) (st' := [.long (x1).toInt64]) rfl ?_
  refine PL.pr (k := 1) (pc' := 3) (lv' := [(0, .ref 129), (1, .int x1), (2, .int x2)]) (st' := [.long 0, .long (x1).toInt64]) rfl ?_
  refine PL.pr (k := 1) (pc' := 6) (lv' := [(0, .ref 129), (1, .int x1), (2, .int x2)]) (st' := [.long 10, .long 0, .long (x1).toInt64]) rfl ?_
  refine (PL.callI (j := 148) (args := [.long (x1).toInt64, .long 0, .long 10]) (rest := []) (M := cM148) (ty := .boolean) rfl rfl rfl rfl rfl rfl (by decide) rfl rfl (by decide) ?_).weak
  refine PL.imp h (fun v1 κ1 l1 h r1 hv => ?_)
  have h := h r1 hv
  refine PL.if1 (t := 19) rfl rfl (fun c => ?_) (fun c => ?_)
  · have h := h.1 (cmp_eq.1.mp c)
    refine PL.pr (k := 1) (pc' := 22) (lv' := [(0, .ref 129), (1, .int x1), (2, .int x2)]) (st' := [.long (-1)]) rfl ?_
    exact PL.retJ rfl h
  · have h := h.2 (cmp_eq.2.mp c)
    refine PL.pr (k := 1) (pc' := 13) (lv' := [(0, .ref 129), (1, .int x1), (2, .int x2)]) (st' := [.int x2]) rfl ?_
    refine (PL.callI (j := 208) (args := [.int x2]) (rest := []) (M := cM208) (ty := .boolean) rfl rfl rfl rfl rfl rfl (by decide) rfl rfl (by decide) ?_).weak
    refine PL.imp h (fun v2 κ2 l2 h r2 hv => ?_)
    have h := h r2 hv
    refine PL.if1 (t := 23) rfl rfl (fun c => ?_) (fun c => ?_)
    · have h := h.1 (cmp_ne.1.mp c)
      refine PL.pr (k := 1) (pc' := 24) (lv' := [(0, .ref 129), (1, .int x1), (2, .int x2)]) (st' := [.ref 129]) rfl ?_
      refine PL.pr (k := 1) (pc' := 25) (lv' := [(0, .ref 129), (1, .int x1), (2, .int x2)]) (st' := [.int x1, .ref 129]) rfl ?_
      refine PL.pr (k := 1) (pc' := 26) (lv' := [(0, .ref 129), (1, .int x1), (2, .int x2)]) (st' := [.int 0, .int x1, .ref 129]) rfl ?_
      refine (PL.callV (j := 225) (args := [.ref 129, .int x1, .int 0]) (rest := []) (M := cM225) rfl rfl rfl rfl rfl rfl (by decide) rfl rfl ?_).weak
      refine PL.imp h (fun _ κ3 l3 h => ?_)
      refine PL.pr (k := 1) (pc' := 30) (lv' := [(0, .ref 129), (1, .int x1), (2, .int x2)]) (st' := [.ref 129]) rfl ?_
      refine PL.gJ (ci := 9) (j := 26) rfl rfl (by decide) ?_
      refine PL.pr (k := 1) (pc' := 34) (lv' := [(0, .ref 129), (1, .int x1), (2, .int x2)]) (st' := [.ref 129, .long (l3 26)]) rfl ?_
      refine PL.gJ (ci := 9) (j := 27) rfl rfl (by decide) ?_
      refine PL.pr (k := 1) (pc' := 38) (lv' := [(0, .ref 129), (1, .int x1), (2, .int x2)]) (st' := [.int x2, .long (l3 27), .long (l3 26)]) rfl ?_
      refine (PL.callJ (j := 226) (args := [.long (l3 26), .long (l3 27), .int x2]) (rest := []) (M := cM226) rfl rfl rfl rfl rfl rfl (by decide) rfl rfl rfl ?_).weak
      refine PL.imp h (fun v4 κ4 l4 h r4 hv => ?_)
      have h := h r4 hv
      exact PL.retJ rfl h
    · have h := h.2 (cmp_ne.2.mp c)
      refine PL.pr (k := 1) (pc' := 22) (lv' := [(0, .ref 129), (1, .int x1), (2, .int x2)]) (st' := [.long (-1)]) rfl ?_
      exact PL.retJ rfl h
end
