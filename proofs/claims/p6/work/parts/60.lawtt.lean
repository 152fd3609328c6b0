/-! THE LAW COMES TO ITS END WITH 1 -/
section LawTT
variable {xs : List Int32}
theorem at0 (pc : Nat) : m_at tMT 0 pc = (cL0.find? (fun E => E.1 == pc)).map fun E => (E, some FieldType.boolean) := rfl
theorem law_node (h : roOK (tRo xs) xs) {F : MH} (hl : F.length = 141) (hm : mz F ≤ 7302250) (hB : wtB F = true) (hF : nd97.fa.all (faB F) = true) (h4 : st6B F = true) : TT tMT (tRo xs) tFty tDfl 13 0 F 18 [(3, .int 0), (2, .ref 129), (1, .ref 0), (0, .ref KB)] [] (fun v F1 => v = some (.int 1) ∧ F1.length = 141 ∧ mz F1 ≤ 7302250) := by
  have hW := wt_start h hl hB
  have hp : am0 ∈ tA := List.mem_of_getElem? (i := 0) rfl
  have hM : nd97 ∈ am0.1 := by simp [am0]
  have hN := (all_NH h.2.2.1 (nd97.stg + 1) 0 am0 hp nd97 hM).2 lawW (0, 18, [(3, .int 0), (2, .ref 129), (1, .ref 0), (0, .ref KB)], []) F (Or.inl (Nat.lt_succ_self _))
  have hpB : nd97.pa.all (fun a => a.2.2.2.2.isEmpty && (match lawW[a.1]? with | some v => okEB (a.2.1, a.2.2.1, a.2.2.2.1) v | none => false)) = true := by decide +kernel
  have hpa : ∀ a ∈ nd97.pa, okA tGam tSets lawW a := by
    intro a ha
    have h1 := List.all_eq_true.mp hpB a ha
    rw [Bool.and_eq_true] at h1
    obtain ⟨e1, e2⟩ := h1
    split at e2
    · rename_i v hv
      exact ⟨v, hv, okEB_ok e2, fun r hr => by rw [List.isEmpty_iff.mp e1] at hr; cases hr⟩
    · cases e2
  have hfa : ∀ q ∈ (n_st nd97).2.2.1, okFa tGam (tRo xs) F lawW q := by
    intro q hq
    obtain ⟨q0, h0, rfl⟩ := List.mem_map.mp hq
    have hwf : n_wf nd97 = true := by decide +kernel
    have hlt : q0.2.2.2 < nd97.pa.length := by
      have : nd97.fa.all (fun q => decide (q.2.2.2 < nd97.pa.length)) = true := by decide +kernel
      exact of_decide_eq_true (List.all_eq_true.mp this q0 h0)
    exact faB_ok (wf_id hwf hlt) (List.all_eq_true.mp hF q0 h0)
  have hT := hN ⟨⟨fun a ha => hpa a (st_av (wfA_wf (by decide +kernel)) ha), ⟨rfl, rfl, fun q hq => ?_, rfl⟩, trivial, fun q hq => hfa q hq, fun q hq => (by cases hq), fun q hq => (by cases hq), rfl⟩, hpa⟩ hW
  rotate_left
  · simp only [n_st, nd97, ND.lc, ND.pa, n_av, List.map_cons, List.map_nil, List.mem_cons, List.not_mem_nil, or_false] at hq
    rcases hq with rfl | rfl | rfl | rfl
    · exact ⟨_, rfl, rfl⟩
    · exact ⟨_, rfl, rfl⟩
    · exact ⟨_, rfl, rfl⟩
    · exact ⟨_, rfl, rfl⟩
  have hT2 := hT.deep (d' := 13) (by decide)
  obtain ⟨n, z, h1, h2⟩ := hT2
  have hk := ex_keep tP_ok _ _ _ _ _ _ _ _ (show tP 0 18 = true from rfl) h1
  have g := st6_ok h4
  exact ⟨n, z, h1, law_PF6 n F 0 ⟨hW, g.1, g.2⟩ 13 z h1, by rw [hk.1]; exact hl, by rw [hk.2]; exact hm⟩
theorem law_TT (h : roOK (tRo xs) xs) : TT tMT (tRo xs) tFty tDfl 13 0 [] 0 [(0, .ref KB)] [] (fun v F1 => v = some (.int 1) ∧ F1.length = 141 ∧ mz F1 ≤ 7302250) := by
  obtain ⟨FB, FD, hA, hl, hB, hl2, hw, hm, hF, h4⟩ := start_ex
  refine TT.one (at0 _) (q := (hpA, 3, _, [.ref 0])) rfl ?_
  refine TT.one (at0 _) (q := (hpA, 4, _, [.ref 0, .ref 0])) rfl ?_
  refine TT.call (at0 _) (d := 12) (q := (1, [.ref 0], [.ref 0])) rfl rfl rfl (by simp) (by simp) rfl ?_
  refine TT.deep (d := 10) ⟨20000, (none, FB), ex_ro _ _ _ _ _ _ _ _ hA, ?_⟩ (by decide)
  refine TT.one (at0 _) (q := (FB, 8, [(1, .ref 0), (0, .ref KB)], [])) rfl ?_
  refine TT.one (at0 _) (q := (FB ++ [.inl (9, tDfl 9)], 11, [(1, .ref 0), (0, .ref KB)], [.ref 129])) ?_ ?_
  · have e : FB.length < KB := by rw [hl]; decide
    have e2 : m_wr tFty tDfl FB (8, .new 10, 3, 9, 0, 0) [] = some (FB ++ [.inl (9, tDfl 9)], [.ref 129]) := by
      show (if FB.length < KB then some (FB ++ [.inl (9, tDfl 9)], [Value.ref FB.length]) else none) = _
      rw [if_pos e, hl]
    show (match m_wr tFty tDfl FB (8, .new 10, 3, 9, 0, 0) [] with | some q => some (q.1, 11, _, q.2) | none => none) = _
    rw [e2]
  refine TT.one (at0 _) (q := (FB ++ [.inl (9, tDfl 9)], 12, _, [.ref 129, .ref 129])) rfl ?_
  refine TT.call (at0 _) (d := 12) (q := (144, [.ref 129], [.ref 129])) rfl rfl rfl (by simp) (by simp) rfl ?_
  refine TT.deep (d := 10) ⟨20000, (none, FD), ex_ro _ _ _ _ _ _ _ _ hB, ?_⟩ (by decide)
  refine TT.one (at0 _) (q := (FD, 16, [(2, .ref 129), (1, .ref 0), (0, .ref KB)], [])) rfl ?_
  refine TT.one (at0 _) (q := (FD, 17, _, [.int 0])) rfl ?_
  refine TT.one (at0 _) (q := (FD, 18, [(3, .int 0), (2, .ref 129), (1, .ref 0), (0, .ref KB)], [])) rfl ?_
  exact law_node h hl2 hm hw hF h4
end LawTT
