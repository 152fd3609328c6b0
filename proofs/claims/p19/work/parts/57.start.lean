section
/-! THE START: the constructors' run, the cells then -/
noncomputable def invI (i : Instr) : Bool := match i with | .invokestatic _ => true | .invokespecial _ => true | .invokevirtual _ => true | _ => false
noncomputable def okM (M : MM) : Bool := M.2.2.2.2.all (fun E => !(nwI E.2.1))
noncomputable def tP (mi pc : Nat) : Bool := if mi = 0 then decide (18 ≤ pc) else (match tMT[mi]? with | some M => okM M | none => false)
noncomputable def tgt (E : MI) : Bool := !(invI E.2.1) || (E.2.2.2.1 == 9999 || (E.2.2.2.1 == 9998 || tP E.2.2.2.1 0))
noncomputable def chkA : Bool := tMT.all (fun M => !(okM M) || M.2.2.2.2.all tgt)
noncomputable def chkB : Bool := cL0.all (fun E => decide (E.1 < 18) || (!(nwI E.2.1) && ((match offsI E.2.1 with | some l => l.all (fun o => decide (18 ≤ (E.1 : Int) + o)) | none => false) && tgt E)))
set_option maxRecDepth 100000 in
theorem chkA_ok : chkA = true := by decide +kernel
set_option maxRecDepth 100000 in
theorem chkB_ok : chkB = true := by decide +kernel
theorem inv_isI {ro : Nat → Option MC} {E : MI} {F : MH} {st : List Value} {q : Nat × List Value × List Value} (h : m_inv ro F E st = some q) : invI E.2.1 = true := by
  unfold m_inv at h
  split at h
  · rename_i he; rw [he]; rfl
  · rename_i he; rw [he]; rfl
  · rename_i he; rw [he]; rfl
  · cases h
theorem tgt_ok {ro : Nat → Option MC} {E : MI} {F : MH} {st : List Value} {q : Nat × List Value × List Value} (ht : tgt E = true) (h : m_inv ro F E st = some q) : q.1 = 9999 ∨ q.1 = 9998 ∨ tP q.1 0 = true := by
  unfold tgt at ht
  rw [inv_isI h] at ht
  simp only [Bool.not_true, Bool.false_or, Bool.or_eq_true, beq_iff_eq] at ht
  rw [inv_tgt h]
  exact ht
theorem tP_ok : okp tMT tP := by
  intro mi pc E hp hE
  unfold m_at at hE
  split at hE
  · rename_i M hM
    obtain ⟨E0, hf, rfl⟩ := Option.map_eq_some_iff.mp hE
    have hmem := List.mem_of_find?_eq_some hf
    have hpc : E0.1 = pc := by have := List.find?_some hf; simpa using this
    by_cases h0 : mi = 0
    · subst h0
      have hM0 : M = cM0 := by
        have : tMT[0]? = some cM0 := rfl
        exact (Option.some.inj (this.symm.trans hM)).symm
      subst hM0
      have h18 : 18 ≤ pc := by simpa [tP] using hp
      have hb := List.all_eq_true.mp chkB_ok E0 hmem
      rw [Bool.or_eq_true] at hb
      rcases hb with hb | hb
      · exact absurd (of_decide_eq_true hb) (by omega)
      · simp only [Bool.and_eq_true] at hb
        obtain ⟨b1, b2, b3⟩ := hb
        refine ⟨by simpa using b1, ?_, by simp [tP]; omega, fun ro F st q hq => tgt_ok b3 hq⟩
        intro ro F lv st q hq
        split at b2
        · rename_i l hl
          rcases one_pc hl hq with h | h | ⟨o, ho, h⟩
          · simp only [tP, if_true, decide_eq_true_eq]; rw [h]; omega
          · simp only [tP, if_true, decide_eq_true_eq]; rw [h]; omega
          · have := of_decide_eq_true (List.all_eq_true.mp b2 o ho)
            simp only [tP, if_true, decide_eq_true_eq]; omega
        · cases b2
    · have hall : ∀ pc', tP mi pc' = true := by
        intro pc'
        unfold tP at *
        rw [if_neg h0] at *
        exact hp
      have hok : okM M = true := by
        have := hall 0
        unfold tP at this
        rw [if_neg h0, hM] at this
        exact this
      have ha := List.all_eq_true.mp chkA_ok M (List.mem_of_getElem? hM)
      rw [hok] at ha
      simp only [Bool.not_true, Bool.false_or] at ha
      refine ⟨?_, fun ro F lv st q _ => hall _, hall _, fun ro F st q hq => tgt_ok (List.all_eq_true.mp ha E0 hmem) hq⟩
      have := List.all_eq_true.mp hok E0 hmem
      simpa using this
  · cases hE
noncomputable def okEB (e : Nat × Int × Int) (v : Value) : Bool := match v with
  | .int x => (e.1 == 0 && decide (e.2.1 ≤ x.toInt ∧ x.toInt ≤ e.2.2)) || (decide (10 ≤ e.1) && (decide (e.2.1 ≤ x.toInt ∧ x.toInt ≤ e.2.2) && (tSets.getD (e.1 - 10) []).contains x.toInt))
  | .long x => e.1 == 1 && decide (e.2.1 ≤ x.toInt ∧ x.toInt ≤ e.2.2)
  | .ref a => e.1 == 2 && tGam a == some e.2.1.toNat
  | _ => false
theorem okEB_ok {e : Nat × Int × Int} {v : Value} (h : okEB e v = true) : okE tGam tSets e.1 e.2.1 e.2.2 v := by
  unfold okEB at h
  unfold okE
  split at h
  · simp only [Bool.or_eq_true, Bool.and_eq_true, beq_iff_eq, decide_eq_true_eq] at h
    rcases h with ⟨h1, h2⟩ | ⟨h1, h2, h3⟩
    · rw [if_pos h1]; exact ⟨⟨_, rfl⟩, h2.1, h2.2⟩
    · rw [if_neg (by omega), if_neg (by omega), if_neg (by omega), if_pos h1]
      exact ⟨⟨_, rfl⟩, h2.1, h2.2, List.contains_iff_mem.mp h3⟩
  · simp only [Bool.and_eq_true, beq_iff_eq, decide_eq_true_eq] at h
    rw [if_neg (by omega), if_pos h.1]; exact ⟨⟨_, rfl⟩, h.2.1, h.2.2⟩
  · simp only [Bool.and_eq_true, beq_iff_eq] at h
    rw [if_neg (by omega), if_neg (by omega), if_pos h.1]; exact ⟨_, rfl, h.2⟩
  · cases h
noncomputable def okLB : List (Nat × Int × Int) → List Value → Bool
  | [], [] => true
  | e :: es, v :: l => okEB e v && okLB es l
  | _, _ => false
theorem okLB_ok : ∀ (es : List (Nat × Int × Int)) (l : List Value), okLB es l = true → okL tGam tSets es l
  | [], [], _ => ⟨rfl, fun k e h => by simp at h⟩
  | e :: es, v :: l, h => by
    rw [okLB, Bool.and_eq_true] at h
    obtain ⟨i1, i2⟩ := okLB_ok es l h.2
    refine ⟨by simp [i1], fun k e' hk => ?_⟩
    cases k with
    | zero => simp at hk; subst hk; exact ⟨v, by simp, okEB_ok h.1⟩
    | succ k => simp at hk; simpa using i2 k e' hk
  | [], _ :: _, h => by cases h
  | _ :: _, [], h => by cases h
noncomputable def cellB (rd : RD) (c : MC) : Bool := match c with
  | .inl q => rd.1 == 0 && (q.1 == rd.2.1 && okLB rd.2.2 (cont c))
  | .inr (.inl q) => rd.1 == 1 && (q.1 == rd.2.1 && okLB rd.2.2 (cont c))
  | .inr (.inr q) => rd.1 == 2 && (q.1 == rd.2.1 && okLB rd.2.2 (cont c))
theorem cellB_ok {rd : RD} {c : MC} (h : cellB rd c = true) : okCell tGam tSets rd c := by
  unfold cellB at h
  unfold okCell
  split at h
  · rename_i q
    simp only [Bool.and_eq_true, beq_iff_eq] at h
    exact Or.inl ⟨h.1, ⟨q.2, by rw [← h.2.1]⟩, okLB_ok _ _ h.2.2⟩
  · rename_i q
    simp only [Bool.and_eq_true, beq_iff_eq] at h
    exact Or.inr (Or.inl ⟨h.1, ⟨q.2, by rw [← h.2.1]⟩, okLB_ok _ _ h.2.2⟩)
  · rename_i q
    simp only [Bool.and_eq_true, beq_iff_eq] at h
    exact Or.inr (Or.inr (Or.inl ⟨h.1, ⟨q.2, by rw [← h.2.1]⟩, okLB_ok _ _ h.2.2⟩))
noncomputable def wtB (F : MH) : Bool := (List.range 141).all (fun a => match tGamL[a]? with
  | some r => (match tRoles[r]? with
    | some rd => (match F[a]? with | some c => cellB rd c | none => false)
    | none => true)
  | none => true)
noncomputable def rowsB (F : MH) : Bool := F.all (fun c => match c with | .inr (.inr q) => q.2.all (fun o => match o with | some x => decide (x < KB) | none => true) | _ => true)
noncomputable def lawW : List Value := [.ref KB, .ref 0, .ref 129, .int 0]
noncomputable def eqV (v w : Value) : Bool := match v, w with
  | .int x, .int y => decide (x = y)
  | .ref a, .ref b => decide (a = b)
  | _, _ => false
theorem eqV_ok {v w : Value} (h : eqV v w = true) : v = w := by
  unfold eqV at h
  split at h
  · rw [of_decide_eq_true h]
  · rw [of_decide_eq_true h]
  · cases h
noncomputable def faB (F : MH) (q : Nat × Nat × Nat × Nat) : Bool := match lawW[q.1]?, lawW[q.2.2.2]? with
  | some (.ref a), some v => decide (a < KB) && (tGam a == some q.2.1 && (!(q.2.2.1 == 5000) && (match F[a]? with | some c => (match (cont c)[q.2.2.1]? with | some w => eqV w v | none => false) | none => false)))
  | _, _ => false
theorem faB_ok {ro : Nat → Option MC} {F : MH} {q : Nat × Nat × Nat × Nat} {av : AV} (hv : av.1 = q.2.2.2) (h : faB F q = true) : okFa tGam ro F lawW (q.1, q.2.1, q.2.2.1, av) := by
  unfold faB at h
  split at h
  · rename_i a v h1 h2
    simp only [Bool.and_eq_true, decide_eq_true_eq, beq_iff_eq, Bool.not_eq_true', beq_eq_false_iff_ne] at h
    obtain ⟨g1, g2, g3, g4⟩ := h
    split at g4
    · rename_i c hc
      split at g4
      · rename_i w hw
        refine ⟨a, c, v, h1, g2, ?_, ?_, ?_⟩
        · unfold m_cell; rw [if_pos g1]; exact hc
        · show lawW[av.1]? = some v; rw [hv]; exact h2
        · show (if q.2.2.1 = 5000 then _ else _); rw [if_neg g3]; rw [← eqV_ok g4]; exact hw
      · cases g4
    · cases g4
  · cases h
noncomputable def hpA : MH := [.inl (0, tDfl 0)]
noncomputable def ctA : Option (Option Value × MH) := ex tMT ro0 tFty tDfl 20000 10 1 hpA 0 (lv_args 0 [.ref 0]) []
noncomputable def ctB (F : MH) : Option (Option Value × MH) := ex tMT ro0 tFty tDfl 20000 10 144 (F ++ [.inl (9, tDfl 9)]) 0 (lv_args 0 [.ref 129]) []
noncomputable def startB : Bool := match ctA with
  | some (none, FB) => decide (FB.length = 129) && (match ctB FB with
    | some (none, FD) => decide (FD.length = 141) && (wtB FD && (decide (mz FD ≤ 7302250) && (nd97.fa.all (faB FD) && st6B FD)))
    | _ => false)
  | _ => false
set_option maxRecDepth 100000 in
theorem startB_ok : startB = true := by decide +kernel
theorem start_ex : ∃ FB FD, ctA = some (none, FB) ∧ FB.length = 129 ∧ ctB FB = some (none, FD) ∧ FD.length = 141 ∧ wtB FD = true ∧ mz FD ≤ 7302250 ∧ nd97.fa.all (faB FD) = true ∧ st6B FD = true := by
  have h := startB_ok
  unfold startB at h
  split at h
  · rename_i FB hA
    simp only [Bool.and_eq_true, decide_eq_true_eq] at h
    obtain ⟨h1, h2⟩ := h
    split at h2
    · rename_i FD hB
      simp only [Bool.and_eq_true, decide_eq_true_eq] at h2
      exact ⟨FB, FD, hA, h1, hB, h2.1, h2.2.1, h2.2.2.1, h2.2.2.2.1, h2.2.2.2.2⟩
    · cases h2
  · cases h
end
