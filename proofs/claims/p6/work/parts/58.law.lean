/-! THE LAW'S RUN -/
def roOK (ro : Nat → Option MC) (xs : List Int32) : Prop := ro 0 = some (.inr (.inl (0, xs))) ∧ xs.length ≤ 320 ∧ ro 100 = none ∧ ∀ j, j < 7 → ∃ bs, ro (1 + 2 * j) = some (.inl (99, [.ref (KB + (2 + 2 * j)), .int 0])) ∧ ro (2 + 2 * j) = some (.inr (.inl (2, bs))) ∧ bs.length ≤ 320 ∧ ∀ b ∈ bs, -128 ≤ b.toInt ∧ b.toInt ≤ 127
section LawRun
variable {ro : Nat → Option MC} {xs : List Int32}
theorem roleS {rd : RD} (h : tRoles[36]? = some rd) : rd = (3, 0, [(0, -2147483648, 2147483647)]) := (Option.some.inj ((show tRoles[36]? = some _ from rfl).symm.trans h)).symm
theorem roleB {rd : RD} (h : tRoles[37]? = some rd) : rd = (3, 2, [(0, -128, 127)]) := (Option.some.inj ((show tRoles[37]? = some _ from rfl).symm.trans h)).symm
theorem roleT {rd : RD} (h : tRoles[38]? = some rd) : rd = (0, 99, [(2, 37, 0), (0, 0, 0)]) := (Option.some.inj ((show tRoles[38]? = some _ from rfl).symm.trans h)).symm
theorem cell_txt (h : roOK ro xs) {j : Nat} (hj : j < 7) (hg : tGam (KB + (2 + 2 * j)) = some 37) {rd : RD} (hr : tRoles[38]? = some rd) : ∃ c, ro (1 + 2 * j) = some c ∧ okCell tGam tSets rd c := by
  obtain ⟨-, -, -, h4⟩ := h
  obtain ⟨bs, b1, -⟩ := h4 j hj
  rw [roleT hr]
  refine ⟨_, b1, Or.inl ⟨rfl, ⟨_, rfl⟩, ?_⟩⟩
  refine ⟨rfl, fun k e hk => ?_⟩
  match k, hk with
  | 0, hk =>
    cases hk
    exact ⟨_, rfl, by unfold okE; exact ⟨_, rfl, hg⟩⟩
  | 1, hk =>
    cases hk
    exact ⟨_, rfl, okE_int (by decide) (by decide)⟩
theorem cell_bts (h : roOK ro xs) {j : Nat} (hj : j < 7) {rd : RD} (hr : tRoles[37]? = some rd) : ∃ c, ro (2 + 2 * j) = some c ∧ okCell tGam tSets rd c := by
  obtain ⟨-, -, -, h4⟩ := h
  obtain ⟨bs, -, b2, b3, b4⟩ := h4 j hj
  rw [roleB hr]
  refine ⟨_, b2, Or.inr (Or.inr (Or.inr ⟨rfl, ⟨_, rfl, b3⟩, _, rfl, fun v hv => ?_⟩))⟩
  obtain ⟨x, hx, rfl⟩ := List.mem_map.mp hv
  exact okE_int (b4 x hx).1 (b4 x hx).2
theorem wt_start (h : roOK ro xs) {F : MH} (hl : F.length = 141) (hB : wtB F = true) : WT tGam tSets tRoles ro F := by
  intro a r rd h1 h2
  unfold tGam at h1
  split at h1
  · rename_i hk
    have ha : a < 141 := by
      have := (List.getElem?_eq_some_iff.mp h1).1
      have e : tGamL.length = 141 := rfl
      omega
    have hb := List.all_eq_true.mp hB a (List.mem_range.mpr ha)
    rw [h1] at hb
    simp only at hb
    rw [h2] at hb
    simp only at hb
    unfold m_cell
    rw [if_pos hk]
    split at hb
    · rename_i c hc
      exact ⟨c, hc, cellB_ok hb⟩
    · cases hb
  · rename_i hk
    obtain ⟨q, hq, rfl⟩ := Option.map_eq_some_iff.mp h1
    have hm := List.mem_of_find?_eq_some hq
    have hp := List.find?_some hq
    simp only [beq_iff_eq] at hp
    unfold m_cell
    rw [if_neg hk, ← hp]
    clear hq hp h1 hk
    simp only [tGamK, List.mem_cons, List.not_mem_nil, or_false] at hm
    rcases hm with rfl | rfl | rfl | rfl | rfl | rfl | rfl | rfl | rfl | rfl | rfl | rfl | rfl | rfl | rfl | rfl
    · rw [roleS h2]
      obtain ⟨g1, g2, -⟩ := h
      refine ⟨_, g1, Or.inr (Or.inr (Or.inr ⟨rfl, ⟨_, rfl, g2⟩, _, rfl, fun v hv => ?_⟩))⟩
      obtain ⟨x, hx, rfl⟩ := List.mem_map.mp hv
      exact okE_int (z_rng x).1 (z_rng x).2
    · exact cell_txt h (j := 0) (by decide) rfl h2
    · exact cell_bts h (j := 0) (by decide) h2
    · exact cell_txt h (j := 1) (by decide) rfl h2
    · exact cell_bts h (j := 1) (by decide) h2
    · exact cell_txt h (j := 2) (by decide) rfl h2
    · exact cell_bts h (j := 2) (by decide) h2
    · exact cell_txt h (j := 3) (by decide) rfl h2
    · exact cell_bts h (j := 3) (by decide) h2
    · exact cell_txt h (j := 4) (by decide) rfl h2
    · exact cell_bts h (j := 4) (by decide) h2
    · exact cell_txt h (j := 5) (by decide) rfl h2
    · exact cell_bts h (j := 5) (by decide) h2
    · exact cell_txt h (j := 6) (by decide) rfl h2
    · exact cell_bts h (j := 6) (by decide) h2
    · exact absurd h2 (by rw [show tRoles[999]? = none from rfl]; intro h; cases h)
theorem gok : GOK tGam tRoles := by
  have hA : tGamL.all (fun r => match tRoles[r]? with | some rd => !(rd.1 == 3) && (!(rd.1 == 2) || (decide (3 ≤ rd.2.1 ∧ rd.2.1 ≤ 6))) | none => true) = true := by decide +kernel
  have hK : tGamK.all (fun q => match tRoles[q.2]? with | some rd => !(rd.1 == 2) && (!(rd.1 == 1) && (!(rd.1 == 0) || rd.2.1 == 99)) | none => true) = true := by decide +kernel
  intro a r rd h1 h2
  unfold tGam at h1
  split at h1
  · rename_i hk
    have hb := List.all_eq_true.mp hA r (List.mem_of_getElem? h1)
    rw [h2] at hb
    simp only [Bool.and_eq_true, Bool.not_eq_true', beq_eq_false_iff_ne, Bool.or_eq_true, decide_eq_true_eq] at hb
    exact ⟨fun e => absurd e hb.1, fun e => ⟨hk, hb.2.resolve_left (fun z => z e)⟩, fun _ => hk, fun _ _ => hk⟩
  · rename_i hk
    obtain ⟨q, hq, rfl⟩ := Option.map_eq_some_iff.mp h1
    have hb := List.all_eq_true.mp hK q (List.mem_of_find?_eq_some hq)
    rw [h2] at hb
    simp only [Bool.and_eq_true, Bool.not_eq_true', beq_eq_false_iff_ne, Bool.or_eq_true, beq_iff_eq] at hb
    exact ⟨fun _ => hk, fun e => absurd e hb.1, fun e => absurd e hb.2.1, fun e1 e2 => (hb.2.2.elim (fun z => absurd e1 z) (fun z => absurd z e2))⟩
theorem rkk (h100 : ro 100 = none) : RK tGam tRoles ro := by
  have hA : tGamL.all (fun r => (tRoles[r]?).isSome) = true := by decide +kernel
  have hK : tGamK.all (fun q => (tRoles[q.2]?).isSome || q.1 == 100) = true := by decide +kernel
  intro a r h1
  unfold tGam at h1
  split at h1
  · have hb := List.all_eq_true.mp hA r (List.mem_of_getElem? h1)
    exact Or.inl (Option.isSome_iff_exists.mp hb)
  · rename_i hk
    obtain ⟨q, hq, rfl⟩ := Option.map_eq_some_iff.mp h1
    have hb := List.all_eq_true.mp hK q (List.mem_of_find?_eq_some hq)
    have hp := List.find?_some hq
    simp only [beq_iff_eq] at hp
    simp only [Bool.or_eq_true, beq_iff_eq] at hb
    rcases hb with hb | hb
    · exact Or.inl (Option.isSome_iff_exists.mp hb)
    · refine Or.inr (fun F => ?_)
      unfold m_cell
      rw [if_neg hk, ← hp, hb, h100]
end LawRun
