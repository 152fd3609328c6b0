/-! PARTIAL CORRECTNESS, III: over the ints; a rule an instruction -/
section PcC
variable {xl : List Int32} {n mi pc : Nat} {lv : LVs} {st r : List Value} {ι κ : IS} {Q Q2 : Option Value → IS → Prop} {rt : Option FieldType} {a : Nat} {x y i : Int32}
/-- every run from here, over cells of the shape with these ints, that ends, ends so -/
def PC (xl : List Int32) (n mi pc : Nat) (lv : LVs) (st : List Value) (ι : IS) (Q : Option Value → IS → Prop) : Prop := ∀ F, F.map zc = sh0 → iv F = ι → PF (tRo xl) n mi pc lv st F (fun v F1 => Q v (iv F1))
theorem PC.zero : PC xl 0 mi pc lv st ι Q := fun _ _ _ => PF.zero
theorem PC.weak (h : PC xl (n + 1) mi pc lv st ι Q) : PC xl n mi pc lv st ι Q := fun F hs hi => (h F hs hi).weak
theorem PC.imp (h : PC xl n mi pc lv st ι Q) (hq : ∀ v κ, Q v κ → Q2 v κ) : PC xl n mi pc lv st ι Q2 := fun F hs hi => (h F hs hi).imp fun v F1 q => hq v (iv F1) q
theorem PC.swap {n2 mi2 pc2 : Nat} {lv2 : LVs} {st2 : List Value} {P : Option Value → IS → Option Value → IS → Prop} (h : PC xl n mi pc lv st ι (fun v1 κ1 => PC xl n2 mi2 pc2 lv2 st2 κ (fun v2 κ2 => P v1 κ1 v2 κ2))) : PC xl n2 mi2 pc2 lv2 st2 κ (fun v2 κ2 => PC xl n mi pc lv st ι (fun v1 κ1 => P v1 κ1 v2 κ2)) :=
  fun F2 s2 i2 d2 z2 x2 F1 s1 i1 d1 z1 x1 => h F1 s1 i1 d1 z1 x1 F2 s2 i2 d2 z2 x2
theorem PC.le {m : Nat} (h : PC xl m mi pc lv st ι Q) (hm : n ≤ m) : PC xl n mi pc lv st ι Q := by
  induction m with
  | zero => rw [Nat.le_zero.mp hm]; exact h
  | succ m ih =>
    by_cases e : n = m + 1
    · rw [e]; exact h
    · exact ih h.weak (by omega)
theorem PC.pr {k pc' : Nat} {lv' : LVs} {st' : List Value} (hk : m_pr k mi pc lv st = some (pc', lv', st')) (h : PC xl n mi pc' lv' st' ι Q) : PC xl n mi pc lv st ι Q := fun F hs hi => PF.pr hk (h F hs hi)
theorem PC.pr1 {k pc' : Nat} {lv' : LVs} {st' : List Value} (hk : m_pr (k + 1) mi pc lv st = some (pc', lv', st')) (h : PC xl n mi pc' lv' st' ι Q) : PC xl (n + 1) mi pc lv st ι Q := fun F hs hi => PF.pr1 hk (h F hs hi)
theorem tRo_obj {k c : Nat} {fs : List Value} (h : tRo xl k = some (.inl (c, fs))) : c = 99 := by
  unfold tRo at h
  split at h
  · cases h
  · split at h
    · split at h
      · cases h; rfl
      · cases h
    · cases h
theorem PC.gI {k ci j : Nat} {z : Int} (hE : t_at tT mi pc = some ((pc, .getfield k, 3, ci, j, z), rt)) (hk : kindT (tFty ci j) = 0) (hc : ¬ ci = 99) (h : PC xl n mi (pc + 3) lv (.int (ι a j) :: r) ι Q) : PC xl n mi pc lv (.ref a :: r) ι Q := by
  intro F hs hi
  refine (PF.heap (n := n) (tT_ok _ _ _ hE) rfl rfl ?_).weak
  intro q hq
  have hq : (match m_rd (tRo xl) F (pc, .getfield k, 3, ci, j, z) (.ref a :: r) with | some st1 => some (F, pc + 3, lv, st1) | none => none) = some q := hq
  split at hq
  · rename_i st1 h1
    cases hq
    simp only [m_rd] at h1
    split at h1
    · rename_i c fs hcell
      split at h1
      · rename_i hci
        split at h1
        · rename_i v hv
          cases h1
          unfold m_cell at hcell
          split at hcell
          · subst hci
            have e := (sh_fld hs hcell hv).1 hk
            subst e
            rw [hi]
            exact h F hs hi
          · exact absurd (hci ▸ tRo_obj hcell) hc
        · cases h1
      · cases h1
    · cases h1
  · cases hq
theorem PC.gR {k ci j : Nat} {z : Int} (hE : t_at tT mi pc = some ((pc, .getfield k, 3, ci, j, z), rt)) (hk : kindT (tFty ci j) = 2) (hc : ¬ ci = 99) (h : PC xl n mi (pc + 3) lv (.ref (rf a j) :: r) ι Q) : PC xl n mi pc lv (.ref a :: r) ι Q := by
  intro F hs hi
  refine (PF.heap (n := n) (tT_ok _ _ _ hE) rfl rfl ?_).weak
  intro q hq
  have hq : (match m_rd (tRo xl) F (pc, .getfield k, 3, ci, j, z) (.ref a :: r) with | some st1 => some (F, pc + 3, lv, st1) | none => none) = some q := hq
  split at hq
  · rename_i st1 h1
    cases hq
    simp only [m_rd] at h1
    split at h1
    · rename_i c fs hcell
      split at h1
      · rename_i hci
        split at h1
        · rename_i v hv
          cases h1
          unfold m_cell at hcell
          split at hcell
          · subst hci
            have e := ((sh_fld hs hcell hv).2.2 hk).1
            subst e
            exact h F hs hi
          · exact absurd (hci ▸ tRo_obj hcell) hc
        · cases h1
      · cases h1
    · cases h1
  · cases hq
theorem in_ok {i : Int32} {l : Nat} (h : m_in i l = true) : 0 ≤ i.toInt ∧ i.toInt < l ∧ i.toNatClampNeg < l := by
  have h1 : 0 ≤ i.toInt ∧ i.toInt < l := of_decide_eq_true h
  refine ⟨h1.1, h1.2, ?_⟩
  have : i.toNatClampNeg = i.toInt.toNat := rfl
  omega
theorem PC.rd {z1 z2 : Nat} {z : Int} (hE : t_at tT mi pc = some ((pc, .iaload, 1, z1, z2, z), rt)) (ha : a < KB) (h : 0 ≤ i.toInt → i.toInt < ln a → PC xl n mi (pc + 1) lv (.int (ι a i.toNatClampNeg) :: r) ι Q) : PC xl n mi pc lv (.int i :: .ref a :: r) ι Q := by
  intro F hs hi
  refine (PF.heap (n := n) (tT_ok _ _ _ hE) rfl rfl ?_).weak
  intro q hq
  have hq : (match m_rd (tRo xl) F (pc, .iaload, 1, z1, z2, z) (.int i :: .ref a :: r) with | some st1 => some (F, pc + 1, lv, st1) | none => none) = some q := hq
  split at hq
  · rename_i st1 h1
    cases hq
    simp only [m_rd] at h1
    split at h1
    · rename_i k xs hcell
      split at h1
      · rename_i hw
        cases h1
        unfold m_cell at hcell
        rw [if_pos ha] at hcell
        obtain ⟨e1, e2⟩ := sh_row hs hcell
        have hl := in_ok hw.2
        simp only at e1 e2
        rw [e2, hi]
        exact h hl.1 (by rw [← e1]; exact hl.2.1) F hs hi
      · cases h1
    · cases h1
  · cases hq
theorem PC.ba {z1 z2 : Nat} {z : Int} (hE : t_at tT mi pc = some ((pc, .baload, 1, z1, z2, z), rt)) (ha : a < KB) (h : 0 ≤ i.toInt → i.toInt < ln a → PC xl n mi (pc + 1) lv (.int (ι a i.toNatClampNeg) :: r) ι Q) : PC xl n mi pc lv (.int i :: .ref a :: r) ι Q := by
  intro F hs hi
  refine (PF.heap (n := n) (tT_ok _ _ _ hE) rfl rfl ?_).weak
  intro q hq
  have hq : (match m_rd (tRo xl) F (pc, .baload, 1, z1, z2, z) (.int i :: .ref a :: r) with | some st1 => some (F, pc + 1, lv, st1) | none => none) = some q := hq
  split at hq
  · rename_i st1 h1
    cases hq
    simp only [m_rd] at h1
    split at h1
    · rename_i k xs hcell
      split at h1
      · rename_i hw
        cases h1
        unfold m_cell at hcell
        rw [if_pos ha] at hcell
        obtain ⟨e1, e2⟩ := sh_row hs hcell
        have hl := in_ok hw.2
        simp only at e1 e2
        rw [e2, hi]
        exact h hl.1 (by rw [← e1]; exact hl.2.1) F hs hi
      · cases h1
    · cases h1
  · cases hq
theorem PC.ra {z1 z2 : Nat} {z : Int} (hE : t_at tT mi pc = some ((pc, .aaload, 1, z1, z2, z), rt)) (h : 0 ≤ i.toInt → i.toInt < lr a → PC xl n mi (pc + 1) lv (.ref (re a i.toNatClampNeg) :: r) ι Q) : PC xl n mi pc lv (.int i :: .ref a :: r) ι Q := by
  intro F hs hi
  refine (PF.heap (n := n) (tT_ok _ _ _ hE) rfl rfl ?_).weak
  intro q hq
  have hq : (match m_rd (tRo xl) F (pc, .aaload, 1, z1, z2, z) (.int i :: .ref a :: r) with | some st1 => some (F, pc + 1, lv, st1) | none => none) = some q := hq
  split at hq
  · rename_i st1 h1
    cases hq
    simp only [m_rd] at h1
    split at h1
    · rename_i k os hcell
      split at h1
      · rename_i hw
        cases h1
        unfold m_cell at hcell
        rw [if_pos hw.1] at hcell
        obtain ⟨e1, e2⟩ := sh_ref hs hcell
        have hl := in_ok hw.2.2.2
        simp only at e1 e2
        rw [(e2 _ hl.2.2).1]
        exact h hl.1 (by rw [← e1]; exact hl.2.1) F hs hi
      · cases h1
    · cases h1
  · cases hq
theorem PC.pI {k ci j : Nat} {z : Int} (hE : t_at tT mi pc = some ((pc, .putfield k, 3, ci, j, z), rt)) (hk : kindT (tFty ci j) = 0) (h : PC xl n mi (pc + 3) lv r (up ι a j x) Q) : PC xl n mi pc lv (.int x :: .ref a :: r) ι Q := by
  intro F hs hi
  refine (PF.heap (n := n) (tT_ok _ _ _ hE) rfl rfl ?_).weak
  intro q hq
  have hq : (match m_wr tFty tDfl F (pc, .putfield k, 3, ci, j, z) (.int x :: .ref a :: r) with | some q => some (q.1, pc + 3, lv, q.2) | none => none) = some q := hq
  split at hq
  · rename_i q1 h1
    cases hq
    have hsh := wr_sh hs (E := (pc, .putfield k, 3, ci, j, z)) (by simp [okS1, hk]) h1
    simp only [m_wr] at h1
    split at h1
    · rename_i c fs hcell
      split at h1
      · rename_i hw
        cases h1
        obtain ⟨hw1, hw2, hw3, -, -⟩ := hw
        refine h _ hsh ?_
        rw [iv_setO hcell hw3, hi]
      · cases h1
    · cases h1
  · cases hq
theorem PC.wI {z1 z2 : Nat} {z : Int} (hE : t_at tT mi pc = some ((pc, .iastore, 1, z1, z2, z), rt)) (h : 0 ≤ i.toInt → i.toInt < ln a → PC xl n mi (pc + 1) lv r (up ι a i.toNatClampNeg x) Q) : PC xl n mi pc lv (.int x :: .int i :: .ref a :: r) ι Q := by
  intro F hs hi
  refine (PF.heap (n := n) (tT_ok _ _ _ hE) rfl rfl ?_).weak
  intro q hq
  have hq : (match m_wr tFty tDfl F (pc, .iastore, 1, z1, z2, z) (.int x :: .int i :: .ref a :: r) with | some q => some (q.1, pc + 1, lv, q.2) | none => none) = some q := hq
  split at hq
  · rename_i q1 h1
    cases hq
    have hsh := wr_sh hs (E := (pc, .iastore, 1, z1, z2, z)) rfl h1
    simp only [m_wr] at h1
    split at h1
    · rename_i c fs hcell
      split at h1
      · rename_i hw
        cases h1
        have hl := in_ok hw.2.2
        refine h hl.1 (by rw [← (sh_row hs hcell).1]; exact hl.2.1) _ hsh ?_
        rw [iv_setR hcell hl.2.2, hi]
      · cases h1
    · cases h1
  · cases hq
theorem PC.wB {z1 z2 : Nat} {z : Int} (hE : t_at tT mi pc = some ((pc, .bastore, 1, z1, z2, z), rt)) (h : 0 ≤ i.toInt → i.toInt < ln a → PC xl n mi (pc + 1) lv r (up ι a i.toNatClampNeg (vp_nar .boolean x)) Q) : PC xl n mi pc lv (.int x :: .int i :: .ref a :: r) ι Q := by
  intro F hs hi
  refine (PF.heap (n := n) (tT_ok _ _ _ hE) rfl rfl ?_).weak
  intro q hq
  have hq : (match m_wr tFty tDfl F (pc, .bastore, 1, z1, z2, z) (.int x :: .int i :: .ref a :: r) with | some q => some (q.1, pc + 1, lv, q.2) | none => none) = some q := hq
  split at hq
  · rename_i q1 h1
    cases hq
    have hsh := wr_sh hs (E := (pc, .bastore, 1, z1, z2, z)) rfl h1
    simp only [m_wr] at h1
    split at h1
    · rename_i c fs hcell
      split at h1
      · rename_i hw
        cases h1
        have hl := in_ok hw.2.2
        refine h hl.1 (by rw [← (sh_row hs hcell).1]; exact hl.2.1) _ hsh ?_
        rw [iv_setR hcell hl.2.2, hi]
      · cases h1
    · cases h1
  · cases hq
/-- a branch on one int -/
theorem PC.if1 {c : ClassFile.Cond} {off : Int} {z1 z2 t : Nat} {z : Int} (hE : t_at tT mi pc = some ((pc, .ifCond c off, 3, z1, z2, z), rt)) (ht : m_to pc off = some t) (h1 : m_cmp c x 0 = true → PC xl n mi t lv r ι Q) (h2 : m_cmp c x 0 = false → PC xl n mi (pc + 3) lv r ι Q) : PC xl n mi pc lv (.int x :: r) ι Q := by
  intro F hs hi
  have hm : m_one (tRo xl) tFty tDfl (pc, .ifCond c off, 3, z1, z2, z) F lv (.int x :: r) = some (F, if m_cmp c x 0 = true then t else pc + 3, lv, r) := by
    show (match (m_to pc off).map (fun t => (if m_cmp c x 0 = true then t else pc + 3, r)) with | some q => some (F, q.1, lv, q.2) | none => _) = _
    rw [ht]; rfl
  refine (PF.one (n := n) (tT_ok _ _ _ hE) hm ?_).weak
  simp only
  cases hb : m_cmp c x 0 with
  | true => rw [if_pos rfl]; exact h1 hb F hs hi
  | false => rw [if_neg (by simp)]; exact h2 hb F hs hi
/-- a branch on two ints -/
theorem PC.if2 {c : ClassFile.Cond} {off : Int} {z1 z2 t : Nat} {z : Int} (hE : t_at tT mi pc = some ((pc, .if_icmp c off, 3, z1, z2, z), rt)) (ht : m_to pc off = some t) (h1 : m_cmp c x y = true → PC xl n mi t lv r ι Q) (h2 : m_cmp c x y = false → PC xl n mi (pc + 3) lv r ι Q) : PC xl n mi pc lv (.int y :: .int x :: r) ι Q := by
  intro F hs hi
  have hm : m_one (tRo xl) tFty tDfl (pc, .if_icmp c off, 3, z1, z2, z) F lv (.int y :: .int x :: r) = some (F, if m_cmp c x y = true then t else pc + 3, lv, r) := by
    show (match (m_to pc off).map (fun t => (if m_cmp c x y = true then t else pc + 3, r)) with | some q => some (F, q.1, lv, q.2) | none => _) = _
    rw [ht]; rfl
  refine (PF.one (n := n) (tT_ok _ _ _ hE) hm ?_).weak
  simp only
  cases hb : m_cmp c x y with
  | true => rw [if_pos rfl]; exact h1 hb F hs hi
  | false => rw [if_neg (by simp)]; exact h2 hb F hs hi
theorem cmp_eq : (m_cmp .eq x y = true ↔ x = y) ∧ (m_cmp .eq x y = false ↔ ¬ x = y) := by simp [m_cmp]
theorem cmp_ne : (m_cmp .ne x y = true ↔ ¬ x = y) ∧ (m_cmp .ne x y = false ↔ x = y) := by simp [m_cmp]
theorem cmp_lt : (m_cmp .lt x y = true ↔ x < y) ∧ (m_cmp .lt x y = false ↔ ¬ x < y) := by simp [m_cmp]
theorem cmp_ge : (m_cmp .ge x y = true ↔ ¬ x < y) ∧ (m_cmp .ge x y = false ↔ x < y) := by simp [m_cmp, Int32.not_le]
theorem cmp_gt : (m_cmp .gt x y = true ↔ y < x) ∧ (m_cmp .gt x y = false ↔ ¬ y < x) := by simp [m_cmp]
theorem cmp_le : (m_cmp .le x y = true ↔ ¬ y < x) ∧ (m_cmp .le x y = false ↔ y < x) := by simp [m_cmp, Int32.not_le]
theorem PC.retI {z1 z2 : Nat} {z : Int} (hE : t_at tT mi pc = some ((pc, .ireturn, 1, z1, z2, z), rt)) (h : Q (some (.int x)) ι) : PC xl n mi pc lv [.int x] ι Q := by
  intro F hs hi
  refine (PF.ret (n := n) (tT_ok _ _ _ hE) rfl rfl ?_).weak
  intro v hv
  simp only [m_ret] at hv
  split at hv
  · split at hv
    · cases hv; rw [hi]; exact h
    · cases hv
  · cases hv
theorem PC.retJ {x : Int64} {z1 z2 : Nat} {z : Int} (hE : t_at tT mi pc = some ((pc, .lreturn, 1, z1, z2, z), rt)) (h : Q (some (.long x)) ι) : PC xl n mi pc lv [.long x] ι Q := by
  intro F hs hi
  refine (PF.ret (n := n) (tT_ok _ _ _ hE) rfl rfl ?_).weak
  intro v hv
  simp only [m_ret] at hv
  split at hv
  · cases hv; rw [hi]; exact h
  · cases hv
theorem PC.retV {z1 z2 : Nat} {z : Int} (hE : t_at tT mi pc = some ((pc, .return_, 1, z1, z2, z), rt)) (h : Q none ι) : PC xl n mi pc lv [] ι Q := by
  intro F hs hi
  refine (PF.ret (n := n) (tT_ok _ _ _ hE) rfl rfl ?_).weak
  intro v hv
  simp only [m_ret] at hv
  split at hv
  · cases hv; rw [hi]; exact h
  · cases hv
theorem one_ivI {ro : Nat → Option MC} {E : MI} {F : MH} (h : ivI E.2.1 = true) : m_one ro tFty tDfl E F lv st = none ∧ ∀ rt, m_ret rt E st = none := by
  obtain ⟨p, i, l, z1, z2, z3⟩ := E
  cases i <;> first | (cases h; done) | exact ⟨rfl, fun _ => rfl⟩
theorem PC.call {E : MI × Option FieldType} {j : Nat} {args rest : List Value} (hE : t_at tT mi pc = some E) (hI : ivI E.1.2.1 = true) (hj : E.1.2.2.2.1 = j) (ha : (st.take E.1.2.2.2.2.1).reverse = args) (hr : st.drop E.1.2.2.2.2.1 = rest) (h9 : sP j = true) (h8 : ¬ j = 9999 ∧ ¬ j = 9998) (h : PC xl n j 0 (lv_args 0 args) [] ι (fun v κ => PC xl n mi (pc + 3) lv (v.toList ++ rest) κ Q)) : PC xl (n + 1) mi pc lv st ι Q := by
  intro F hs hi
  have ho := one_ivI (ro := tRo xl) (F := F) (lv := lv) (st := st) hI
  refine PF.call (n := n) (args := args) (rest := rest) (tT_ok _ _ _ hE) ho.1 (ho.2 _) (fun q hq => ?_) h8.1 h8.2 ?_
  · rw [(inv_q hq).1, hj, ha, hr]
  · intro d z hx
    exact h F hs hi d z hx z.2 (ex_sh _ _ _ _ _ _ _ _ h9 hs hx) rfl
/-- what a method returns, by its word -/
def rtK (rt : Option FieldType) (v : Option Value) : Prop := match rt with
  | none => v = none
  | some .long => ∃ x, v = some (.long x)
  | some _ => ∃ x, v = some (.int x)
theorem ret_k {rt : Option FieldType} {E : MI} {v : Option Value} (h : m_ret rt E st = some v) : (rt = none → v = none) ∧ (∀ ty, rt = some ty → ¬ ty = .long → ∃ x, v = some (.int x)) := by
  unfold m_ret at h
  split at h
  · split at h
    · split at h
      · split at h
        · cases h; exact ⟨fun e => (by cases e), fun ty e _ => ⟨_, rfl⟩⟩
        · cases h
      · cases h
    · cases h
  · split at h
    · split at h
      · rename_i e; cases h; exact ⟨fun e2 => (by rw [e] at e2; cases e2), fun ty e2 h2 => (by rw [e] at e2; cases e2; exact absurd rfl h2)⟩
      · cases h
    · cases h
  · split at h
    · split at h
      · rename_i e; cases h; exact ⟨fun _ => rfl, fun ty e2 => (by rw [e] at e2; cases e2)⟩
      · cases h
    · cases h
  · cases h
theorem ex_k {ro : Nat → Option MC} {M : MM} (hM : tMT[mi]? = some M) : ∀ (n d : Nat) (F : MH) (pc : Nat) (lv : LVs) (st : List Value) (z : Option Value × MH), ex tMT ro tFty tDfl n d mi F pc lv st = some z → (M.2.2.2.1 = none → z.1 = none) ∧ (∀ ty, M.2.2.2.1 = some ty → ¬ ty = .long → ∃ x, z.1 = some (.int x)) := by
  intro n
  induction n with
  | zero => intro d F pc lv st z h; cases h
  | succ n ih =>
    intro d F pc lv st z h
    rw [ex] at h
    split at h
    · cases h
    · rename_i E hE
      obtain ⟨M', hM', -, hE2⟩ := at_mem hE
      have e : M' = M := Option.some.inj (hM'.symm.trans hM)
      subst e
      split at h
      · exact ih _ _ _ _ _ _ h
      · split at h
        · rename_i v hv
          cases h
          rw [hE2] at hv
          exact ret_k hv
        · split at h
          · cases h
          · split at h
            · split at h
              · split at h
                · exact ih _ _ _ _ _ _ h
                · cases h
              · cases h
            · split at h
              · split at h
                · exact ih _ _ _ _ _ _ h
                · cases h
              · split at h
                · split at h
                  · cases h
                  · split at h
                    · cases h
                    · exact ih _ _ _ _ _ _ h
                · cases h
theorem PC.callI {E : MI × Option FieldType} {j : Nat} {args rest : List Value} {M : MM} {ty : FieldType} (hE : t_at tT mi pc = some E) (hI : ivI E.1.2.1 = true) (hj : E.1.2.2.2.1 = j) (ha : (st.take E.1.2.2.2.2.1).reverse = args) (hr : st.drop E.1.2.2.2.2.1 = rest) (h9 : sP j = true) (h8 : ¬ j = 9999 ∧ ¬ j = 9998) (hM : tMT[j]? = some M) (hty : M.2.2.2.1 = some ty) (hl : ¬ ty = .long) (h : PC xl n j 0 (lv_args 0 args) [] ι (fun v κ => ∀ x, v = some (.int x) → PC xl n mi (pc + 3) lv (.int x :: rest) κ Q)) : PC xl (n + 1) mi pc lv st ι Q := by
  refine PC.call hE hI hj ha hr h9 h8 ?_
  intro F hs hi d z hx
  obtain ⟨x, e⟩ := (ex_k hM _ _ _ _ _ _ _ hx).2 ty hty hl
  have := h F hs hi d z hx x e
  rw [e]
  exact this
theorem PC.callV {E : MI × Option FieldType} {j : Nat} {args rest : List Value} {M : MM} (hE : t_at tT mi pc = some E) (hI : ivI E.1.2.1 = true) (hj : E.1.2.2.2.1 = j) (ha : (st.take E.1.2.2.2.2.1).reverse = args) (hr : st.drop E.1.2.2.2.2.1 = rest) (h9 : sP j = true) (h8 : ¬ j = 9999 ∧ ¬ j = 9998) (hM : tMT[j]? = some M) (hty : M.2.2.2.1 = none) (h : PC xl n j 0 (lv_args 0 args) [] ι (fun _ κ => PC xl n mi (pc + 3) lv rest κ Q)) : PC xl (n + 1) mi pc lv st ι Q := by
  refine PC.call hE hI hj ha hr h9 h8 ?_
  intro F hs hi d z hx
  have e := (ex_k hM _ _ _ _ _ _ _ hx).1 hty
  have := h F hs hi d z hx
  rw [e]
  exact this
end PcC
