/-! THE LAW'S RUN, I: rules over the cells themselves -/
section PfL
variable {xl : List Int32} {ro : Nat → Option MC} {n mi pc : Nat} {lv : LVs} {st r : List Value} {F : MH} {Q : Option Value → MH → Prop} {rt : Option FieldType} {x y i : Int32}
theorem PF_of_TT {d : Nat} (h : TT tMT ro tFty tDfl d mi F pc lv st Q) : PF ro n mi pc lv st F Q := by
  obtain ⟨m, z, h1, h2⟩ := h
  intro d2 z2 hx
  have e1 := ex_mono _ _ _ _ _ _ _ _ h1 (max m n) (max d d2) (Nat.le_max_left _ _) (Nat.le_max_left _ _)
  have e2 := ex_mono _ _ _ _ _ _ _ _ hx (max m n) (max d d2) (Nat.le_max_right _ _) (Nat.le_max_right _ _)
  have e : z = z2 := Option.some.inj (e1.symm.trans e2)
  rw [← e]; exact h2
theorem PF.and {Q2 : Option Value → MH → Prop} (h1 : PF ro n mi pc lv st F Q) (h2 : PF ro n mi pc lv st F Q2) : PF ro n mi pc lv st F (fun v F1 => Q v F1 ∧ Q2 v F1) := fun d z hx => ⟨h1 d z hx, h2 d z hx⟩
theorem PF.sh (hp : sP mi = true) (hs : F.map zc = sh0) : PF ro n mi pc lv st F (fun _ F1 => F1.map zc = sh0) := fun _ _ hx => ex_sh _ _ _ _ _ _ _ _ hp hs hx
theorem PF.scr {z1 z2 : Nat} {z : Int} (hE : t_at tT mi pc = some ((pc, .iaload, 1, z1, z2, z), rt)) (h : 0 ≤ i.toInt → i.toInt < xl.length → PF (tRo xl) n mi (pc + 1) lv (.int (xl.getD i.toNatClampNeg 0) :: r) F Q) : PF (tRo xl) n mi pc lv (.int i :: .ref KB :: r) F Q := by
  refine (PF.heap (n := n) (tT_ok _ _ _ hE) rfl rfl ?_).weak
  intro q hq
  have hq : (match m_rd (tRo xl) F (pc, .iaload, 1, z1, z2, z) (.int i :: .ref KB :: r) with | some st1 => some (F, pc + 1, lv, st1) | none => none) = some q := hq
  have hc : m_cell (tRo xl) F KB = some (.inr (.inl (0, xl))) := cell_ro2 (s := 0) F
  split at hq
  · rename_i st1 h1
    cases hq
    simp only [m_rd, hc] at h1
    split at h1
    · rename_i hw
      cases h1
      have hl := in_ok hw.2
      exact h hl.1 hl.2.1
    · cases h1
  · cases hq
theorem PF.sln {z1 z2 : Nat} {z : Int} (hE : t_at tT mi pc = some ((pc, .arraylength, 1, z1, z2, z), rt)) (h : PF (tRo xl) n mi (pc + 1) lv (.int (Int32.ofNat xl.length) :: r) F Q) : PF (tRo xl) n mi pc lv (.ref KB :: r) F Q := by
  refine (PF.one (n := n) (tT_ok _ _ _ hE) (q := (F, pc + 1, lv, .int (Int32.ofNat xl.length) :: r)) ?_ h).weak
  have e : m_rd (tRo xl) F (pc, .arraylength, 1, z1, z2, z) (.ref KB :: r) = some (.int (Int32.ofNat xl.length) :: r) := by
    have hk : ¬ KB < KB := Nat.lt_irrefl _
    have e2 : KB - KB = 0 := Nat.sub_self _
    have e3 : tRo xl 0 = some (.inr (.inl (0, xl))) := rfl
    simp only [m_rd, if_neg hk, e2, e3]
  show (match m_rd (tRo xl) F (pc, .arraylength, 1, z1, z2, z) (.ref KB :: r) with | some st1 => some (F, pc + 1, lv, st1) | none => match m_wr tFty tDfl F (pc, .arraylength, 1, z1, z2, z) (.ref KB :: r) with | some q => some (q.1, pc + 1, lv, q.2) | none => none) = _
  rw [e]
theorem PF.if1 {c : ClassFile.Cond} {off : Int} {z1 z2 t : Nat} {z : Int} (hE : t_at tT mi pc = some ((pc, .ifCond c off, 3, z1, z2, z), rt)) (ht : m_to pc off = some t) (h1 : m_cmp c x 0 = true → PF ro n mi t lv r F Q) (h2 : m_cmp c x 0 = false → PF ro n mi (pc + 3) lv r F Q) : PF ro n mi pc lv (.int x :: r) F Q := by
  have hm : m_one ro tFty tDfl (pc, .ifCond c off, 3, z1, z2, z) F lv (.int x :: r) = some (F, if m_cmp c x 0 = true then t else pc + 3, lv, r) := by
    show (match (m_to pc off).map (fun t => (if m_cmp c x 0 = true then t else pc + 3, r)) with | some q => some (F, q.1, lv, q.2) | none => _) = _
    rw [ht]; rfl
  refine (PF.one (n := n) (tT_ok _ _ _ hE) hm ?_).weak
  simp only
  cases hb : m_cmp c x 0 with
  | true => rw [if_pos rfl]; exact h1 hb
  | false => rw [if_neg (by simp)]; exact h2 hb
theorem PF.if2 {c : ClassFile.Cond} {off : Int} {z1 z2 t : Nat} {z : Int} (hE : t_at tT mi pc = some ((pc, .if_icmp c off, 3, z1, z2, z), rt)) (ht : m_to pc off = some t) (h1 : m_cmp c x y = true → PF ro n mi t lv r F Q) (h2 : m_cmp c x y = false → PF ro n mi (pc + 3) lv r F Q) : PF ro n mi pc lv (.int y :: .int x :: r) F Q := by
  have hm : m_one ro tFty tDfl (pc, .if_icmp c off, 3, z1, z2, z) F lv (.int y :: .int x :: r) = some (F, if m_cmp c x y = true then t else pc + 3, lv, r) := by
    show (match (m_to pc off).map (fun t => (if m_cmp c x y = true then t else pc + 3, r)) with | some q => some (F, q.1, lv, q.2) | none => _) = _
    rw [ht]; rfl
  refine (PF.one (n := n) (tT_ok _ _ _ hE) hm ?_).weak
  simp only
  cases hb : m_cmp c x y with
  | true => rw [if_pos rfl]; exact h1 hb
  | false => rw [if_neg (by simp)]; exact h2 hb
theorem PF.tsw {d lo hi : Int} {offs : Array Int} {len z1 z2 : Nat} {z : Int} (hE : t_at tT mi pc = some ((pc, .tableswitch d lo hi offs, len, z1, z2, z), rt)) (h1 : ∀ (i : Nat) (off : Int) (t : Nat), offs[i]? = some off → m_to pc off = some t → x.toInt = lo + i → PF ro n mi t lv r F Q) (h2 : ∀ t, m_to pc d = some t → (x.toInt < lo ∨ hi < x.toInt) → PF ro n mi t lv r F Q) : PF ro n mi pc lv (.int x :: r) F Q := by
  refine (PF.heap (n := n) (tT_ok _ _ _ hE) rfl rfl ?_).weak
  intro q hq
  have hq : (match m_br (pc, .tableswitch d lo hi offs, len, z1, z2, z) (.int x :: r) with | some q => some (F, q.1, lv, q.2) | none => none) = some q := hq
  split at hq
  · rename_i q1 hb
    cases hq
    simp only [m_br] at hb
    split at hb
    · rename_i hr
      obtain ⟨t, ht, rfl⟩ := Option.map_eq_some_iff.mp hb
      exact h2 t ht hr
    · rename_i hr
      split at hb
      · rename_i off ho
        obtain ⟨t, ht, rfl⟩ := Option.map_eq_some_iff.mp hb
        exact h1 _ off t ho ht (by omega)
      · cases hb
  · cases hq
theorem PF.retI {z1 z2 : Nat} {z : Int} (hE : t_at tT mi pc = some ((pc, .ireturn, 1, z1, z2, z), rt)) (h : Q (some (.int x)) F) : PF ro n mi pc lv [.int x] F Q := by
  refine (PF.ret (n := n) (tT_ok _ _ _ hE) rfl rfl ?_).weak
  intro v hv
  simp only [m_ret] at hv
  split at hv
  · split at hv
    · cases hv; exact h
    · cases hv
  · cases hv
theorem PF.callA {E : MI × Option FieldType} {j : Nat} {args rest : List Value} (hE : t_at tT mi pc = some E) (hI : ivI E.1.2.1 = true) (hj : E.1.2.2.2.1 = j) (ha : (st.take E.1.2.2.2.2.1).reverse = args) (hr : st.drop E.1.2.2.2.2.1 = rest) (h8 : ¬ j = 9999 ∧ ¬ j = 9998) (h : PF ro n j 0 (lv_args 0 args) [] F (fun v F1 => PF ro n mi (pc + 3) lv (v.toList ++ rest) F1 Q)) : PF ro (n + 1) mi pc lv st F Q := by
  have ho := one_ivI (ro := ro) (F := F) (lv := lv) (st := st) hI
  refine PF.call (n := n) (args := args) (rest := rest) (tT_ok _ _ _ hE) ho.1 (ho.2 _) (fun q hq => ?_) h8.1 h8.2 h
  rw [(inv_q hq).1, hj, ha, hr]
theorem PF.callI {E : MI × Option FieldType} {j : Nat} {args rest : List Value} {M : MM} {ty : FieldType} (hE : t_at tT mi pc = some E) (hI : ivI E.1.2.1 = true) (hj : E.1.2.2.2.1 = j) (ha : (st.take E.1.2.2.2.2.1).reverse = args) (hr : st.drop E.1.2.2.2.2.1 = rest) (h8 : ¬ j = 9999 ∧ ¬ j = 9998) (hM : tMT[j]? = some M) (hty : M.2.2.2.1 = some ty) (hl : ¬ ty = .long) (h : PF ro n j 0 (lv_args 0 args) [] F (fun v F1 => ∀ x, v = some (.int x) → PF ro n mi (pc + 3) lv (.int x :: rest) F1 Q)) : PF ro (n + 1) mi pc lv st F Q := by
  refine PF.callA hE hI hj ha hr h8 ?_
  intro d z hx
  obtain ⟨x, e⟩ := (ex_k hM _ _ _ _ _ _ _ hx).2 ty hty hl
  have := h d z hx x e
  rw [e]
  exact this
def isIr (i : Instr) : Bool := match i with | .ireturn => true | _ => false
theorem ex_kJ {M : MM} (hM : tMT[mi]? = some M) (hJ : M.2.2.2.1 = some .long) (hno : M.2.2.2.2.all (fun E => !(isIr E.2.1)) = true) : ∀ (n d : Nat) (F : MH) (pc : Nat) (lv : LVs) (st : List Value) (z : Option Value × MH), ex tMT ro tFty tDfl n d mi F pc lv st = some z → ∃ x, z.1 = some (.long x) := by
  intro n
  induction n with
  | zero => intro d F pc lv st z h; cases h
  | succ n ih =>
    intro d F pc lv st z h
    rw [ex] at h
    split at h
    · cases h
    · rename_i E hE
      obtain ⟨M', hM', hmem, hE2⟩ := at_mem hE
      have e : M' = M := Option.some.inj (hM'.symm.trans hM)
      subst e
      have hn := List.all_eq_true.mp hno _ hmem
      split at h
      · exact ih _ _ _ _ _ _ h
      · split at h
        · rename_i v hv
          cases h
          unfold m_ret at hv
          split at hv
          · rename_i he
            rw [he] at hn
            cases hn
          · split at hv
            · split at hv
              · cases hv; exact ⟨_, rfl⟩
              · cases hv
            · cases hv
          · split at hv
            · split at hv
              · rename_i e2; rw [hE2, hJ] at e2; cases e2
              · cases hv
            · cases hv
          · cases hv
        · split at h
          · cases h
          · split at h
            · split at h
              · split at h
                · exact ih _ _ _ _ _ _ h
                · cases h
              · cases h
            · split at h
              · split at h
                · exact ih _ _ _ _ _ _ h
                · cases h
              · split at h
                · split at h
                  · cases h
                  · split at h
                    · cases h
                    · exact ih _ _ _ _ _ _ h
                · cases h
theorem PF.callJ {E : MI × Option FieldType} {j : Nat} {args rest : List Value} {M : MM} (hE : t_at tT mi pc = some E) (hI : ivI E.1.2.1 = true) (hj : E.1.2.2.2.1 = j) (ha : (st.take E.1.2.2.2.2.1).reverse = args) (hr : st.drop E.1.2.2.2.2.1 = rest) (h8 : ¬ j = 9999 ∧ ¬ j = 9998) (hM : tMT[j]? = some M) (hJ : M.2.2.2.1 = some .long) (hno : M.2.2.2.2.all (fun E => !(isIr E.2.1)) = true) (h : PF ro n j 0 (lv_args 0 args) [] F (fun v F1 => ∀ x, v = some (.long x) → PF ro n mi (pc + 3) lv (.long x :: rest) F1 Q)) : PF ro (n + 1) mi pc lv st F Q := by
  refine PF.callA hE hI hj ha hr h8 ?_
  intro d z hx
  obtain ⟨x, e⟩ := ex_kJ hM hJ hno _ _ _ _ _ _ _ hx
  have := h d z hx x e
  rw [e]
  exact this
end PfL
