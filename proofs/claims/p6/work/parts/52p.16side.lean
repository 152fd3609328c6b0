/-! PARTIAL CORRECTNESS, V: a run touches what its references come to, nothing else -/
def sV (S : Nat → Bool) (v : Value) : Prop := ∀ a, v = .ref a → S a = true ∨ KB ≤ a
def sL (S : Nat → Bool) (l : List Value) : Prop := ∀ v ∈ l, sV S v
def sLv (S : Nat → Bool) (lv : LVs) : Prop := ∀ q ∈ lv, sV S q.2
/-- cells of S name cells of S alone, but in the fields B -/
def sClo (S : Nat → Bool) (B : List (Nat × Nat)) : Bool := (sh0.zip (List.range sh0.length)).all (fun q => !(S q.2) || (match q.1 with
  | .inl o => (o.2.zip (List.range o.2.length)).all (fun w => match w.1 with | .ref b => S b || (decide (KB ≤ b) || B.contains (o.1, w.2)) | _ => true)
  | .inr (.inl _) => true
  | .inr (.inr p) => p.2.all (fun o => match o with | some b => S b || decide (KB ≤ b) | none => true)))
/-- an instruction that names no field of B, writes none of X, calls what P holds -/
def sOkE (P : Nat → Bool) (B X : List (Nat × Nat)) (E : MI) : Bool := okS1 E && ((match E.2.1 with
  | .getfield _ => !(B.contains (E.2.2.2.1, E.2.2.2.2.1))
  | .putfield _ => !(X.contains (E.2.2.2.1, E.2.2.2.2.1))
  | _ => true) && (!(ivI E.2.1) || (E.2.2.2.1 == 9999 || (E.2.2.2.1 == 9998 || P E.2.2.2.1))))
def sChk (P : Nat → Bool) (B X : List (Nat × Nat)) : Bool := (tMT.zip (List.range tMT.length)).all (fun q => !(P q.2) || q.1.2.2.2.2.all (sOkE P B X))
def xf (X : List (Nat × Nat)) (a j : Nat) : Bool := match sh0[a]? with
  | some (.inl o) => X.contains (o.1, j)
  | _ => false
section Side
variable {S P : Nat → Bool} {B X : List (Nat × Nat)} {v : Value} {x : Int32} {y : Int64} {l r st st1 : List Value} {lv : LVs} {F : MH} {xl : List Int32} {E : MI}
theorem sV_int : sV S (.int x) := fun _ h => by cases h
theorem sV_long : sV S (.long y) := fun _ h => by cases h
theorem sV_null : sV S .null := fun _ h => by cases h
theorem sL_nil : sL S [] := fun _ h => by cases h
theorem sL_cons : sL S (v :: l) ↔ sV S v ∧ sL S l := List.forall_mem_cons
theorem zip_mem {α : Type} {l : List α} {i : Nat} {c : α} (h : l[i]? = some c) : (c, i) ∈ l.zip (List.range l.length) := by
  have hi : i < l.length := (List.getElem?_eq_some_iff.mp h).1
  refine List.mem_of_getElem? (i := i) ?_
  rw [List.getElem?_zip_eq_some]
  exact ⟨h, by rw [List.getElem?_range hi]⟩
theorem get_s {i : Nat} (hl : sLv S lv) (h : m_get lv i = some v) : sV S v := by
  unfold m_get at h
  obtain ⟨q, hq, rfl⟩ := Option.map_eq_some_iff.mp h
  exact hl q (List.mem_of_find?_eq_some hq)
theorem fil_s {o : Option Value} {p : Value → Bool} (h : o.filter p = some v) : o = some v := by
  cases o with
  | none => cases h
  | some w =>
    by_cases hp : p w = true
    · simpa [Option.filter, hp] using h
    · simp [Option.filter, hp] at h
theorem push_s (hl : sLv S lv) (h : m_push E lv = some v) : sV S v := by
  unfold m_push at h
  split at h
  · cases h; exact sV_int
  · cases h; exact sV_int
  · cases h; exact sV_int
  · cases h; exact sV_long
  · cases h; exact sV_null
  · exact get_s hl (fil_s h)
  · exact get_s hl (fil_s h)
  · exact get_s hl (fil_s h)
  · exact get_s hl (fil_s h)
  · exact get_s hl (fil_s h)
  · exact get_s hl (fil_s h)
  · cases h
theorem cst_s (h : m_cst E = some v) : sV S v := by
  unfold m_cst at h
  split at h
  · split at h
    · cases h; exact sV_int
    · cases h; intro a e; cases e; exact Or.inr (Nat.le_add_right _ _)
  · cases h; exact sV_int
  · cases h; exact sV_long
  · split at h
    · cases h; exact sV_int
    · cases h; intro a e; cases e; exact Or.inr (Nat.le_add_right _ _)
  · cases h
theorem put1_s {i : Nat} (hl : sLv S lv) (hv : sV S v) : sLv S (m_put1 lv i v) := by
  intro q hq
  rcases List.mem_cons.mp hq with rfl | h
  · exact hv
  · exact hl q (List.mem_filter.mp h).1
theorem put2_s {i : Nat} (hl : sLv S lv) (hv : sV S v) : sLv S (m_put2 lv i v) := by
  intro q hq
  rcases List.mem_cons.mp hq with rfl | h
  · exact hv
  · exact hl q (List.mem_filter.mp h).1
theorem store_s {q : LVs × List Value} (hl : sLv S lv) (hs : sL S st) (h : m_store E lv st = some q) : sLv S q.1 ∧ sL S q.2 := by
  unfold m_store at h
  split at h
  · split at h
    · cases h; rw [sL_cons] at hs; exact ⟨put1_s hl hs.1, hs.2⟩
    · cases h
  · split at h
    · cases h; rw [sL_cons] at hs; exact ⟨put1_s hl hs.1, hs.2⟩
    · cases h
  · split at h
    · cases h; rw [sL_cons] at hs; exact ⟨put2_s hl hs.1, hs.2⟩
    · cases h
  · split at h
    · cases h; rw [sL_cons] at hs; exact ⟨put2_s hl hs.1, hs.2⟩
    · cases h
  · split at h
    · cases h; rw [sL_cons] at hs; exact ⟨put1_s hl hs.1, hs.2⟩
    · cases h; rw [sL_cons] at hs; exact ⟨put1_s hl hs.1, hs.2⟩
    · cases h
  · split at h
    · cases h; rw [sL_cons] at hs; exact ⟨put1_s hl hs.1, hs.2⟩
    · cases h; rw [sL_cons] at hs; exact ⟨put1_s hl hs.1, hs.2⟩
    · cases h
  · split at h
    · cases h; exact ⟨put1_s hl sV_int, hs⟩
    · cases h
  · cases h
theorem stk_s {i : Instr} (hs : sL S st) (h : m_stk i st = some st1) : sL S st1 := by
  unfold m_stk at h
  split at h
  · split at h
    · cases h; simp only [sL_cons] at hs ⊢; exact ⟨sV_int, hs.2⟩
    · cases h
  · split at h
    · cases h; simp only [sL_cons] at hs ⊢; exact ⟨sV_int, hs.2.2⟩
    · cases h
  · split at h
    · split at h
      · cases h; simp only [sL_cons] at hs ⊢; exact ⟨hs.1, hs.1, hs.2⟩
      · cases h
    · cases h
  · split at h
    · split at h
      · cases h; simp only [sL_cons] at hs ⊢; exact hs.2
      · cases h
    · cases h
  · split at h
    · split at h
      · cases h; simp only [sL_cons] at hs ⊢; exact hs.2
      · cases h
    · cases h
  · split at h
    · split at h
      · cases h; simp only [sL_cons] at hs ⊢; exact ⟨hs.1, hs.2.1, hs.1, hs.2.2⟩
      · cases h
    · cases h
  · split at h
    · split at h
      · cases h; simp only [sL_cons] at hs ⊢; exact ⟨hs.1, hs.2.1, hs.2.2.1, hs.1, hs.2.2.2⟩
      · cases h
    · cases h
  · split at h
    · split at h
      · cases h; simp only [sL_cons] at hs ⊢; exact ⟨hs.1, hs.2.1, hs.1, hs.2.1, hs.2.2⟩
      · cases h
    · cases h
  · cases h
theorem alu_s {i : Instr} (hs : sL S st) (h : m_alu i st = some st1) : sL S st1 := by
  unfold m_alu at h
  split at h
  · split at h
    · cases h; simp only [sL_cons] at hs ⊢; exact ⟨sV_int, hs.2.2⟩
    · cases h
  split at h
  · split at h
    · split at h
      · cases h
      · cases h; simp only [sL_cons] at hs ⊢; exact ⟨sV_int, hs.2.2⟩
    · cases h
  split at h
  · split at h
    · cases h; simp only [sL_cons] at hs ⊢; exact ⟨sV_long, hs.2.2⟩
    · cases h
  split at h
  · split at h
    · split at h
      · cases h
      · cases h; simp only [sL_cons] at hs ⊢; exact ⟨sV_long, hs.2.2⟩
    · cases h
  split at h
  · rename_i f hf
    split at h
    · cases h
      simp only [sL_cons] at hs ⊢
      refine ⟨?_, hs.2⟩
      unfold m_u32 at hf
      split at hf <;> cases hf <;> intro a e <;> cases e
    · cases h
  · exact stk_s hs h
theorem br_s {q : Nat × List Value} (hs : sL S st) (h : m_br E st = some q) : sL S q.2 := by
  have hif : ∀ {pc : Nat} {off : Int} {b : Bool} {r : List Value}, sL S r → m_if pc off b r = some q → sL S q.2 := by
    intro pc off b r hr h
    unfold m_if at h
    obtain ⟨t, -, rfl⟩ := Option.map_eq_some_iff.mp h
    exact hr
  unfold m_br at h
  split at h
  · obtain ⟨t, -, rfl⟩ := Option.map_eq_some_iff.mp h
    exact hs
  · split at h
    · rw [sL_cons] at hs; exact hif hs.2 h
    · cases h
  · split at h
    · simp only [sL_cons] at hs; exact hif hs.2.2 h
    · cases h
  · split at h
    · rw [sL_cons] at hs
      split at h
      · obtain ⟨t, -, rfl⟩ := Option.map_eq_some_iff.mp h
        exact hs.2
      · split at h
        · obtain ⟨t, -, rfl⟩ := Option.map_eq_some_iff.mp h
          exact hs.2
        · cases h
    · cases h
  · split at h
    · rw [sL_cons] at hs
      split at h
      · obtain ⟨t, -, rfl⟩ := Option.map_eq_some_iff.mp h
        exact hs.2
      · cases h
    · cases h
  · cases h
theorem rd_s (hc : sClo S B = true) (hE : sOkE P B X E = true) (hF : F.map zc = sh0) (hs : sL S st) (h : m_rd (tRo xl) F E st = some st1) : sL S st1 := by
  unfold m_rd at h
  split at h
  · rename_i he
    split at h
    · rename_i a r
      rw [sL_cons] at hs
      split at h
      · rename_i ci fs hm
        split at h
        · rename_i hci
          split at h
          · rename_i v hv
            cases h
            rw [sL_cons]
            refine ⟨?_, hs.2⟩
            intro b eb
            subst eb
            unfold m_cell at hm
            split at hm
            · rename_i hk
              have hS : S a = true := (hs.1 a rfl).resolve_right (by omega)
              have h1 := List.all_eq_true.mp hc _ (zip_mem (sh_get hF hm))
              simp only [hS, Bool.not_true, Bool.false_or, zc] at h1
              have hv2 : (fs.map zv)[E.2.2.2.2.1]? = some (.ref b) := by rw [List.getElem?_map, hv]; rfl
              have h2 := List.all_eq_true.mp h1 _ (zip_mem hv2)
              simp only [Bool.or_eq_true, decide_eq_true_eq] at h2
              rcases h2 with h2 | h2 | h2
              · exact Or.inl h2
              · exact Or.inr h2
              · unfold sOkE at hE
                rw [he] at hE
                simp only [Bool.and_eq_true] at hE
                have h3 := hE.2.1
                rw [← hci, h2] at h3
                cases h3
            · rename_i hk
              unfold tRo at hm
              split at hm
              · cases hm
              · split at hm
                · split at hm
                  · cases hm
                    match hz : E.2.2.2.2.1, hv with
                    | 0, hv => cases hv; exact Or.inr (Nat.le_add_right _ _)
                    | 1, hv => cases hv
                    | k + 2, hv => cases hv
                  · cases hm
                · cases hm
          · cases h
        · cases h
      · cases h
    · cases h
  · split at h
    · rw [sL_cons] at hs
      split at h
      · cases h
      · split at h
        · cases h; rw [sL_cons]; exact ⟨sV_int, hs.2⟩
        · cases h
    · cases h
  · split at h
    · simp only [sL_cons] at hs
      split at h
      · split at h
        · cases h; rw [sL_cons]; exact ⟨sV_int, hs.2.2⟩
        · cases h
      · cases h
    · cases h
  · split at h
    · simp only [sL_cons] at hs
      split at h
      · split at h
        · cases h; rw [sL_cons]; exact ⟨sV_int, hs.2.2⟩
        · cases h
      · cases h
    · cases h
  · split at h
    · rename_i i a r
      simp only [sL_cons] at hs
      split at h
      · rename_i k os hm
        split at h
        · rename_i hw
          cases h
          rw [sL_cons]
          refine ⟨?_, hs.2.2⟩
          intro b eb
          unfold m_cell at hm
          rw [if_pos hw.1] at hm
          have hS : S a = true := (hs.2.1 a rfl).resolve_right (Nat.not_le.mpr hw.1)
          have h1 := List.all_eq_true.mp hc _ (zip_mem (sh_get hF hm))
          simp only [hS, Bool.not_true, Bool.false_or, zc] at h1
          have hin := in_ok hw.2.2.2
          rw [List.getD_eq_getElem?_getD] at eb
          cases hq : os[i.toNatClampNeg]? with
          | none => rw [hq] at eb; cases eb
          | some o =>
            rw [hq] at eb
            cases o with
            | none => cases eb
            | some p =>
              cases eb
              have h2 := List.all_eq_true.mp h1 _ (List.mem_of_getElem? hq)
              simp only [Bool.or_eq_true, decide_eq_true_eq] at h2
              exact h2
        · cases h
      · cases h
    · cases h
  · cases h
/-- what a step leaves -/
def sG (S : Nat → Bool) (X : List (Nat × Nat)) (F F1 : MH) : Prop := ∀ a j, (S a = false ∨ xf X a j = true) → iv F1 a j = iv F a j
theorem sG.rfl : sG S X F F := fun _ _ _ => Eq.refl _
theorem sG.trans {F1 F2 : MH} (h1 : sG S X F F1) (h2 : sG S X F1 F2) : sG S X F F2 := fun a j h => (h2 a j h).trans (h1 a j h)
theorem wr_s {q : MH × List Value} (hE : sOkE P B X E = true) (hF : F.map zc = sh0) (hs : sL S st) (h : m_wr tFty tDfl F E st = some q) : sL S q.2 ∧ sG S X F q.1 := by
  have ho : okS1 E = true := (Bool.and_eq_true _ _ ▸ hE : okS1 E = true ∧ _).1
  have row : ∀ {a k : Nat} {xs : List Int32} {x i : Int32}, sV S (.ref a) → a < KB → F[a]? = some (.inr (.inl (k, xs))) → m_in i xs.length = true → sG S X F (F.set a (.inr (.inl (k, xs.set i.toNatClampNeg x)))) := by
    intro a k xs x i hv ha hc hi b j hb
    have hS : S a = true := (hv a (Eq.refl _)).resolve_right (by omega)
    have hj : i.toNatClampNeg < xs.length := (in_ok hi).2.2
    rw [iv_setR hc hj, up_ne]
    intro e
    rcases hb with hb | hb
    · rw [e.1, hS] at hb; cases hb
    · unfold xf at hb; rw [e.1, sh_get hF hc] at hb; cases hb
  unfold m_wr at h
  split at h
  · rename_i he
    split at h
    · rename_i v a r
      simp only [sL_cons] at hs
      split at h
      · rename_i ci fs hc
        split at h
        · rename_i hw
          cases h
          refine ⟨hs.2.2, ?_⟩
          intro b j hb
          have hS : S a = true := (hs.2.1 a (Eq.refl _)).resolve_right (Nat.not_le.mpr hw.1)
          simp only [iv]
          by_cases hba : b = a
          · subst hba
            rw [List.getElem?_set_self (List.getElem?_eq_some_iff.mp hc).1, hc]
            rcases hb with hb | hb
            · rw [hS] at hb; cases hb
            · unfold xf at hb
              rw [sh_get hF hc] at hb
              simp only [zc] at hb
              have hne : ¬ E.2.2.2.2.1 = j := by
                intro e
                unfold sOkE at hE
                rw [he] at hE
                simp only [Bool.and_eq_true] at hE
                have h3 := hE.2.1
                rw [← hw.2.1, e, hb] at h3
                cases h3
              simp only
              rw [List.getElem?_set_ne hne]
          · rw [List.getElem?_set_ne (fun e => hba e.symm)]
        · cases h
      · cases h
    · cases h
  · split at h
    · simp only [sL_cons] at hs
      split at h
      · rename_i hc
        split at h
        · rename_i hw
          cases h
          exact ⟨hs.2.2.2, row hs.2.2.1 hw.1 hc hw.2.2⟩
        · cases h
      · cases h
    · cases h
  · split at h
    · simp only [sL_cons] at hs
      split at h
      · rename_i hc
        split at h
        · rename_i hw
          cases h
          exact ⟨hs.2.2.2, row hs.2.2.1 hw.1 hc hw.2.2⟩
        · cases h
      · cases h
    · cases h
  · rename_i he; unfold okS1 at ho; rw [he] at ho; cases ho
  · rename_i he; unfold okS1 at ho; rw [he] at ho; cases ho
  · rename_i he; unfold okS1 at ho; rw [he] at ho; cases ho
  · rename_i he; unfold okS1 at ho; rw [he] at ho; cases ho
  · cases h
theorem one_s {q : MS} (hc : sClo S B = true) (hE : sOkE P B X E = true) (hF : F.map zc = sh0) (hl : sLv S lv) (hs : sL S st) (h : m_one (tRo xl) tFty tDfl E F lv st = some q) : sLv S q.2.2.1 ∧ sL S q.2.2.2 ∧ sG S X F q.1 := by
  unfold m_one at h
  split at h
  · rename_i h1
    cases h; exact ⟨hl, sL_cons.mpr ⟨push_s hl h1, hs⟩, sG.rfl⟩
  split at h
  · rename_i h1
    cases h; exact ⟨hl, sL_cons.mpr ⟨cst_s h1, hs⟩, sG.rfl⟩
  split at h
  · rename_i h1
    cases h; exact ⟨(store_s hl hs h1).1, (store_s hl hs h1).2, sG.rfl⟩
  split at h
  · rename_i h1
    cases h; exact ⟨hl, alu_s hs h1, sG.rfl⟩
  split at h
  · rename_i h1
    cases h; exact ⟨hl, br_s hs h1, sG.rfl⟩
  split at h
  · rename_i h1
    cases h; exact ⟨hl, rd_s hc hE hF hs h1, sG.rfl⟩
  split at h
  · rename_i h1
    cases h; exact ⟨hl, (wr_s hE hF hs h1).1, (wr_s hE hF hs h1).2⟩
  · cases h
theorem ret_s {rt : Option FieldType} {o : Option Value} (h : m_ret rt E st = some o) : sL S o.toList := by
  unfold m_ret at h
  split at h
  · split at h
    · split at h
      · split at h
        · cases h; exact sL_cons.mpr ⟨sV_int, sL_nil⟩
        · cases h
      · cases h
    · cases h
  · split at h
    · split at h
      · cases h; exact sL_cons.mpr ⟨sV_long, sL_nil⟩
      · cases h
    · cases h
  · split at h
    · split at h
      · cases h; exact sL_nil
      · cases h
    · cases h
  · cases h
theorem args_s : ∀ (l : List Value) (k : Nat), sL S l → sLv S (lv_args k l) := by
  intro l
  induction l with
  | nil => intro k _ q hq; cases hq
  | cons v l ih =>
    intro k hl
    rw [sL_cons] at hl
    intro q hq
    rw [lv_args] at hq
    rcases List.mem_cons.mp hq with rfl | h
    · exact hl.1
    · exact ih _ hl.2 q h
theorem ex_side (hc : sClo S B = true) (hk : sChk P B X = true) : ∀ (n d mi : Nat) (F : MH) (pc : Nat) (lv : LVs) (st : List Value) (z : Option Value × MH), P mi = true → F.map zc = sh0 → sLv S lv → sL S st → ex tMT (tRo xl) tFty tDfl n d mi F pc lv st = some z → z.2.map zc = sh0 ∧ sL S z.1.toList ∧ sG S X F z.2 := by
  intro n
  induction n with
  | zero => intro d mi F pc lv st z _ _ _ _ h; cases h
  | succ n ih =>
    intro d mi F pc lv st z hp hF hl hs h
    rw [ex] at h
    split at h
    · cases h
    · rename_i E hE
      obtain ⟨M, hM, hm, -⟩ := at_mem hE
      have h1 := List.all_eq_true.mp hk _ (zip_mem hM)
      simp only [hp, Bool.not_true, Bool.false_or] at h1
      have ho := List.all_eq_true.mp h1 _ hm
      have ho1 : okS1 E.1 = true := by
        unfold sOkE at ho
        rw [Bool.and_eq_true] at ho
        exact ho.1
      split at h
      · rename_i q hq
        obtain ⟨g1, g2, g3⟩ := one_s hc ho hF hl hs hq
        obtain ⟨k1, k2, k3⟩ := ih _ _ _ _ _ _ _ hp (one_sh hF ho1 hq) g1 g2 h
        exact ⟨k1, k2, g3.trans k3⟩
      · split at h
        · rename_i v hv
          cases h; exact ⟨hF, ret_s hv, sG.rfl⟩
        · split at h
          · cases h
          · rename_i q hi
            obtain ⟨hq, hI⟩ := inv_q hi
            have ht : E.1.2.2.2.1 = 9999 ∨ E.1.2.2.2.1 = 9998 ∨ P E.1.2.2.2.1 = true := by
              unfold sOkE at ho
              simp only [Bool.and_eq_true] at ho
              have h3 := ho.2.2
              rw [hI] at h3
              simpa using h3
            have hq1 : q.1 = E.1.2.2.2.1 := by rw [hq]
            have ha : sL S q.2.1 := by
              rw [hq]
              intro v hv
              exact hs v (List.mem_of_mem_take (List.mem_reverse.mp hv))
            have hr : sL S q.2.2 := by
              rw [hq]
              intro v hv
              exact hs v (List.mem_of_mem_drop hv)
            rw [← hq1] at ht
            split at h
            · split at h
              · split at h
                · exact ih _ _ _ _ _ _ _ hp hF hl hr h
                · cases h
              · cases h
            · rename_i h9
              split at h
              · split at h
                · exact ih _ _ _ _ _ _ _ hp hF hl (sL_cons.mpr ⟨sV_int, hr⟩) h
                · cases h
              · rename_i h8
                split at h
                · split at h
                  · cases h
                  · split at h
                    · cases h
                    · rename_i z1 hz1
                      obtain ⟨g1, g2, g3⟩ := ih _ _ _ _ _ _ _ ((ht.resolve_left h9).resolve_left h8) hF (args_s _ _ ha) sL_nil hz1
                      obtain ⟨k1, k2, k3⟩ := ih _ _ _ _ _ _ _ hp g1 hl (fun v hv => (List.mem_append.mp hv).elim (g2 v) (hr v)) h
                      exact ⟨k1, k2, g3.trans k3⟩
                · cases h
theorem PF.side {n mi pc : Nat} (hc : sClo S B = true) (hk : sChk P B X = true) (hp : P mi = true) (hF : F.map zc = sh0) (hl : sLv S lv) (hs : sL S st) : PF (tRo xl) n mi pc lv st F (fun _ F1 => sG S X F F1) := fun d z hx => (ex_side hc hk n d mi F pc lv st z hp hF hl hs hx).2.2
end Side
