section
/-! THE LAW'S RUN -/
noncomputable def roOK (ro : Nat → Option MC) (xs : List Int32) : Prop := ro 0 = some (.inr (.inl (0, xs))) ∧ xs.length ≤ 320 ∧ ro 100 = none ∧ ∀ j, j < 7 → ∃ bs, ro (1 + 2 * j) = some (.inl (99, [.ref (KB + (2 + 2 * j)), .int 0])) ∧ ro (2 + 2 * j) = some (.inr (.inl (2, bs))) ∧ bs.length ≤ 320 ∧ ∀ b ∈ bs, -128 ≤ b.toInt ∧ b.toInt ≤ 127
section LawRun
variable {ro : Nat → Option MC} {xs : List Int32}
theorem roleS {rd : RD} (h : tRoles[36]? = some rd) : rd = (3, 0, [(0, -2147483648, 2147483647)]) := (Option.some.inj ((show tRoles[36]? = some _ from rfl).symm.trans h)).symm
theorem roleB {rd : RD} (h : tRoles[37]? = some rd) : rd = (3, 2, [(0, -128, 127)]) := (Option.some.inj ((show tRoles[37]? = some _ from rfl).symm.trans h)).symm
theorem roleT {rd : RD} (h : tRoles[38]? = some rd) : rd = (0, 99, [(2, 37, 0), (0, 0, 0)]) := (Option.some.inj ((show tRoles[38]? = some _ from rfl).symm.trans h)).symm
theorem cell_txt (h : roOK ro xs) {j : Nat} (hj : j < 7) (hg : tGam (KB + (2 + 2 * j)) = some 37) {rd : RD} (hr : tRoles[38]? = some rd) : ∃ c, ro (1 + 2 * j) = some c ∧ okCell tGam tSets rd c := by
  obtain ⟨-, -, -, h4⟩ := h
  obtain ⟨bs, b1, -⟩ := h4 j hj
  rw [roleT hr]
  refine ⟨_, b1, Or.inl ⟨rfl, ⟨_, rfl⟩, ?_⟩⟩
  refine ⟨rfl, fun k e hk => ?_⟩
  match k, hk with
  | 0, hk =>
    cases hk
    exact ⟨_, rfl, by unfold okE; exact ⟨_, rfl, hg⟩⟩
  | 1, hk =>
    cases hk
    exact ⟨_, rfl, okE_int (by decide) (by decide)⟩
theorem cell_bts (h : roOK ro xs) {j : Nat} (hj : j < 7) {rd : RD} (hr : tRoles[37]? = some rd) : ∃ c, ro (2 + 2 * j) = some c ∧ okCell tGam tSets rd c := by
  obtain ⟨-, -, -, h4⟩ := h
  obtain ⟨bs, -, b2, b3, b4⟩ := h4 j hj
  rw [roleB hr]
  refine ⟨_, b2, Or.inr (Or.inr (Or.inr ⟨rfl, ⟨_, rfl, b3⟩, _, rfl, fun v hv => ?_⟩))⟩
  obtain ⟨x, hx, rfl⟩ := List.mem_map.mp hv
  exact okE_int (b4 x hx).1 (b4 x hx).2
theorem wt_start (h : roOK ro xs) {F : MH} (hl : F.length = 141) (hB : wtB F = true) : WT tGam tSets tRoles ro F := by
  intro a r rd h1 h2
  unfold tGam at h1
  split at h1
  · rename_i hk
    have ha : a < 141 := by
      have := (List.getElem?_eq_some_iff.mp h1).1
      have e : tGamL.length = 141 := rfl
      omega
    have hb := List.all_eq_true.mp hB a (List.mem_range.mpr ha)
    rw [h1] at hb
    simp only at hb
    rw [h2] at hb
    simp only at hb
    unfold m_cell
    rw [if_pos hk]
    split at hb
    · rename_i c hc
      exact ⟨c, hc, cellB_ok hb⟩
    · cases hb
  · rename_i hk
    obtain ⟨q, hq, rfl⟩ := Option.map_eq_some_iff.mp h1
    have hm := List.mem_of_find?_eq_some hq
    have hp := List.find?_some hq
    simp only [beq_iff_eq] at hp
    unfold m_cell
    rw [if_neg hk, ← hp]
    clear hq hp h1 hk
    simp only [tGamK, List.mem_cons, List.not_mem_nil, or_false] at hm
    rcases hm with rfl | rfl | rfl | rfl | rfl | rfl | rfl | rfl | rfl | rfl | rfl | rfl | rfl | rfl | rfl | rfl
    · rw [roleS h2]
      obtain ⟨g1, g2, -⟩ := h
      refine ⟨_, g1, Or.inr (Or.inr (Or.inr ⟨rfl, ⟨_, rfl, g2⟩, _, rfl, fun v hv => ?_⟩))⟩
      obtain ⟨x, hx, rfl⟩ := List.mem_map.mp hv
      exact okE_int (z_rng x).1 (z_rng x).2
    · exact cell_txt h (j := 0) (by decide) rfl h2
    · exact cell_bts h (j := 0) (by decide) h2
    · exact cell_txt h (j := 1) (by decide) rfl h2
    · exact cell_bts h (j := 1) (by decide) h2
    · exact cell_txt h (j := 2) (by decide) rfl h2
    · exact cell_bts h (j := 2) (by decide) h2
    · exact cell_txt h (j := 3) (by decide) rfl h2
    · exact cell_bts h (j := 3) (by decide) h2
    · exact cell_txt h (j := 4) (by decide) rfl h2
    · exact cell_bts h (j := 4) (by decide) h2
    · exact cell_txt h (j := 5) (by decide) rfl h2
    · exact cell_bts h (j := 5) (by decide) h2
    · exact cell_txt h (j := 6) (by decide) rfl h2
    · exact cell_bts h (j := 6) (by decide) h2
    · exact absurd h2 (by rw [show tRoles[999]? = none from rfl]; intro h; cases h)
theorem gok : GOK tGam tRoles := by
  have hA : tGamL.all (fun r => match tRoles[r]? with | some rd => !(rd.1 == 3) && (!(rd.1 == 2) || (decide (3 ≤ rd.2.1 ∧ rd.2.1 ≤ 6))) | none => true) = true := by decide +kernel
  have hK : tGamK.all (fun q => match tRoles[q.2]? with | some rd => !(rd.1 == 2) && (!(rd.1 == 1) && (!(rd.1 == 0) || rd.2.1 == 99)) | none => true) = true := by decide +kernel
  intro a r rd h1 h2
  unfold tGam at h1
  split at h1
  · rename_i hk
    have hb := List.all_eq_true.mp hA r (List.mem_of_getElem? h1)
    rw [h2] at hb
    simp only [Bool.and_eq_true, Bool.not_eq_true', beq_eq_false_iff_ne, Bool.or_eq_true, decide_eq_true_eq] at hb
    exact ⟨fun e => absurd e hb.1, fun e => ⟨hk, hb.2.resolve_left (fun z => z e)⟩, fun _ => hk, fun _ _ => hk⟩
  · rename_i hk
    obtain ⟨q, hq, rfl⟩ := Option.map_eq_some_iff.mp h1
    have hb := List.all_eq_true.mp hK q (List.mem_of_find?_eq_some hq)
    rw [h2] at hb
    simp only [Bool.and_eq_true, Bool.not_eq_true', beq_eq_false_iff_ne, Bool.or_eq_true, beq_iff_eq] at hb
    exact ⟨fun _ => hk, fun e => absurd e hb.1, fun e => absurd e hb.2.1, fun e1 e2 => (hb.2.2.elim (fun z => absurd e1 z) (fun z => absurd z e2))⟩
theorem rkk (h100 : ro 100 = none) : RK tGam tRoles ro := by
  have hA : tGamL.all (fun r => (tRoles[r]?).isSome) = true := by decide +kernel
  have hK : tGamK.all (fun q => (tRoles[q.2]?).isSome || q.1 == 100) = true := by decide +kernel
  intro a r h1
  unfold tGam at h1
  split at h1
  · have hb := List.all_eq_true.mp hA r (List.mem_of_getElem? h1)
    exact Or.inl (Option.isSome_iff_exists.mp hb)
  · rename_i hk
    obtain ⟨q, hq, rfl⟩ := Option.map_eq_some_iff.mp h1
    have hb := List.all_eq_true.mp hK q (List.mem_of_find?_eq_some hq)
    have hp := List.find?_some hq
    simp only [beq_iff_eq] at hp
    simp only [Bool.or_eq_true, beq_iff_eq] at hb
    rcases hb with hb | hb
    · exact Or.inl (Option.isSome_iff_exists.mp hb)
    · refine Or.inr (fun F => ?_)
      unfold m_cell
      rw [if_neg hk, ← hp, hb, h100]
end LawRun
end
section
/-! ALL NODES HOLD -/
section Asm
variable {ro : Nat → Option MC}
/-- a node is checked, or proved by hand -/
noncomputable def okND (ro : Nat → Option MC) (M : ND) : Prop := n_chk tGam tSets tRoles tFty tMT tAt tAn 5000 M = true ∨ (n_wfA M = true ∧ ∀ ws f F, okN tGam tSets ro M ws f F → WT tGam tSets tRoles ro F → TT tMT ro tFty tDfl M.dep f.1 F f.2.1 f.2.2.1 f.2.2.2 (n_posts tGam tSets tRoles ro M ws F))
theorem om0 : ∀ M ∈ am0.1, okND ro M := List.forall_mem_cons.mpr ⟨Or.inl ck97, fun _ h => absurd h List.not_mem_nil⟩
theorem om1 : ∀ M ∈ am1.1, okND ro M := fun _ h => absurd h List.not_mem_nil
theorem om2 : ∀ M ∈ am2.1, okND ro M := fun _ h => absurd h List.not_mem_nil
theorem om3 : ∀ M ∈ am3.1, okND ro M := fun _ h => absurd h List.not_mem_nil
theorem om4 : ∀ M ∈ am4.1, okND ro M := fun _ h => absurd h List.not_mem_nil
theorem om5 : ∀ M ∈ am5.1, okND ro M := fun _ h => absurd h List.not_mem_nil
theorem om6 : ∀ M ∈ am6.1, okND ro M := fun _ h => absurd h List.not_mem_nil
theorem om7 : ∀ M ∈ am7.1, okND ro M := fun _ h => absurd h List.not_mem_nil
theorem om8 : ∀ M ∈ am8.1, okND ro M := fun _ h => absurd h List.not_mem_nil
theorem om9 : ∀ M ∈ am9.1, okND ro M := fun _ h => absurd h List.not_mem_nil
theorem om10 : ∀ M ∈ am10.1, okND ro M := List.forall_mem_cons.mpr ⟨Or.inl ck146, fun _ h => absurd h List.not_mem_nil⟩
theorem om11 : ∀ M ∈ am11.1, okND ro M := List.forall_mem_cons.mpr ⟨Or.inl ck169, fun _ h => absurd h List.not_mem_nil⟩
theorem om12 : ∀ M ∈ am12.1, okND ro M := List.forall_mem_cons.mpr ⟨Or.inl ck145, fun _ h => absurd h List.not_mem_nil⟩
theorem om13 : ∀ M ∈ am13.1, okND ro M := List.forall_mem_cons.mpr ⟨Or.inl ck144, List.forall_mem_cons.mpr ⟨Or.inl ck292, fun _ h => absurd h List.not_mem_nil⟩⟩
theorem om14 : ∀ M ∈ am14.1, okND ro M := List.forall_mem_cons.mpr ⟨Or.inl ck168, List.forall_mem_cons.mpr ⟨Or.inl ck282, fun _ h => absurd h List.not_mem_nil⟩⟩
theorem om15 : ∀ M ∈ am15.1, okND ro M := fun _ h => absurd h List.not_mem_nil
theorem om16 : ∀ M ∈ am16.1, okND ro M := List.forall_mem_cons.mpr ⟨Or.inl ck218, List.forall_mem_cons.mpr ⟨Or.inl ck238, fun _ h => absurd h List.not_mem_nil⟩⟩
theorem om17 : ∀ M ∈ am17.1, okND ro M := fun _ h => absurd h List.not_mem_nil
theorem om18 : ∀ M ∈ am18.1, okND ro M := fun _ h => absurd h List.not_mem_nil
theorem om19 : ∀ M ∈ am19.1, okND ro M := List.forall_mem_cons.mpr ⟨Or.inl ck95, fun _ h => absurd h List.not_mem_nil⟩
theorem om20 : ∀ M ∈ am20.1, okND ro M := List.forall_mem_cons.mpr ⟨Or.inl ck0, fun _ h => absurd h List.not_mem_nil⟩
theorem om21 : ∀ M ∈ am21.1, okND ro M := fun _ h => absurd h List.not_mem_nil
theorem om22 : ∀ M ∈ am22.1, okND ro M := List.forall_mem_cons.mpr ⟨Or.inl ck298, fun _ h => absurd h List.not_mem_nil⟩
theorem om23 : ∀ M ∈ am23.1, okND ro M := List.forall_mem_cons.mpr ⟨Or.inl ck299, fun _ h => absurd h List.not_mem_nil⟩
theorem om24 : ∀ M ∈ am24.1, okND ro M := fun _ h => absurd h List.not_mem_nil
theorem om25 : ∀ M ∈ am25.1, okND ro M := List.forall_mem_cons.mpr ⟨Or.inl ck7, List.forall_mem_cons.mpr ⟨Or.inl ck300, fun _ h => absurd h List.not_mem_nil⟩⟩
theorem om26 : ∀ M ∈ am26.1, okND ro M := fun _ h => absurd h List.not_mem_nil
theorem om27 : ∀ M ∈ am27.1, okND ro M := fun _ h => absurd h List.not_mem_nil
theorem om28 : ∀ M ∈ am28.1, okND ro M := fun _ h => absurd h List.not_mem_nil
theorem om29 : ∀ M ∈ am29.1, okND ro M := fun _ h => absurd h List.not_mem_nil
theorem om30 : ∀ M ∈ am30.1, okND ro M := fun _ h => absurd h List.not_mem_nil
theorem om31 : ∀ M ∈ am31.1, okND ro M := fun _ h => absurd h List.not_mem_nil
theorem om32 : ∀ M ∈ am32.1, okND ro M := fun _ h => absurd h List.not_mem_nil
theorem om33 : ∀ M ∈ am33.1, okND ro M := List.forall_mem_cons.mpr ⟨Or.inl ck304, List.forall_mem_cons.mpr ⟨Or.inl ck307, fun _ h => absurd h List.not_mem_nil⟩⟩
theorem om34 : ∀ M ∈ am34.1, okND ro M := fun _ h => absurd h List.not_mem_nil
theorem om35 : ∀ M ∈ am35.1, okND ro M := List.forall_mem_cons.mpr ⟨Or.inl ck309, fun _ h => absurd h List.not_mem_nil⟩
theorem om36 : ∀ M ∈ am36.1, okND ro M := fun _ h => absurd h List.not_mem_nil
theorem om37 : ∀ M ∈ am37.1, okND ro M := List.forall_mem_cons.mpr ⟨Or.inl ck303, fun _ h => absurd h List.not_mem_nil⟩
theorem om38 : ∀ M ∈ am38.1, okND ro M := fun _ h => absurd h List.not_mem_nil
theorem om39 : ∀ M ∈ am39.1, okND ro M := List.forall_mem_cons.mpr ⟨Or.inl ck306, fun _ h => absurd h List.not_mem_nil⟩
theorem om40 : ∀ M ∈ am40.1, okND ro M := List.forall_mem_cons.mpr ⟨Or.inl ck302, List.forall_mem_cons.mpr ⟨Or.inl ck305, fun _ h => absurd h List.not_mem_nil⟩⟩
theorem om41 : ∀ M ∈ am41.1, okND ro M := List.forall_mem_cons.mpr ⟨Or.inl ck162, fun _ h => absurd h List.not_mem_nil⟩
theorem om42 : ∀ M ∈ am42.1, okND ro M := fun _ h => absurd h List.not_mem_nil
theorem om43 : ∀ M ∈ am43.1, okND ro M := List.forall_mem_cons.mpr ⟨Or.inl ck265, fun _ h => absurd h List.not_mem_nil⟩
theorem om44 : ∀ M ∈ am44.1, okND ro M := List.forall_mem_cons.mpr ⟨Or.inl ck301, fun _ h => absurd h List.not_mem_nil⟩
theorem om45 : ∀ M ∈ am45.1, okND ro M := List.forall_mem_cons.mpr ⟨Or.inl ck308, fun _ h => absurd h List.not_mem_nil⟩
theorem om46 : ∀ M ∈ am46.1, okND ro M := List.forall_mem_cons.mpr ⟨Or.inl ck310, fun _ h => absurd h List.not_mem_nil⟩
theorem om47 : ∀ M ∈ am47.1, okND ro M := List.forall_mem_cons.mpr ⟨Or.inl ck284, List.forall_mem_cons.mpr ⟨Or.inl ck287, List.forall_mem_cons.mpr ⟨Or.inl ck290, fun _ h => absurd h List.not_mem_nil⟩⟩⟩
theorem om48 : ∀ M ∈ am48.1, okND ro M := List.forall_mem_cons.mpr ⟨Or.inl ck237, fun _ h => absurd h List.not_mem_nil⟩
theorem om49 : ∀ M ∈ am49.1, okND ro M := fun _ h => absurd h List.not_mem_nil
theorem om50 : ∀ M ∈ am50.1, okND ro M := fun _ h => absurd h List.not_mem_nil
theorem om51 : ∀ M ∈ am51.1, okND ro M := List.forall_mem_cons.mpr ⟨Or.inl ck157, List.forall_mem_cons.mpr ⟨Or.inl ck241, List.forall_mem_cons.mpr ⟨Or.inl ck259, fun _ h => absurd h List.not_mem_nil⟩⟩⟩
theorem om52 : ∀ M ∈ am52.1, okND ro M := List.forall_mem_cons.mpr ⟨Or.inl ck153, List.forall_mem_cons.mpr ⟨Or.inl ck173, List.forall_mem_cons.mpr ⟨Or.inl ck223, fun _ h => absurd h List.not_mem_nil⟩⟩⟩
theorem om53 : ∀ M ∈ am53.1, okND ro M := List.forall_mem_cons.mpr ⟨Or.inl ck318, fun _ h => absurd h List.not_mem_nil⟩
theorem om54 : ∀ M ∈ am54.1, okND ro M := List.forall_mem_cons.mpr ⟨Or.inl ck321, List.forall_mem_cons.mpr ⟨Or.inl ck327, fun _ h => absurd h List.not_mem_nil⟩⟩
theorem om55 : ∀ M ∈ am55.1, okND ro M := List.forall_mem_cons.mpr ⟨Or.inl ck143, fun _ h => absurd h List.not_mem_nil⟩
theorem om56 : ∀ M ∈ am56.1, okND ro M := List.forall_mem_cons.mpr ⟨Or.inl ck142, fun _ h => absurd h List.not_mem_nil⟩
theorem om57 : ∀ M ∈ am57.1, okND ro M := List.forall_mem_cons.mpr ⟨Or.inl ck167, List.forall_mem_cons.mpr ⟨Or.inl ck217, fun _ h => absurd h List.not_mem_nil⟩⟩
theorem om58 : ∀ M ∈ am58.1, okND ro M := List.forall_mem_cons.mpr ⟨Or.inl ck166, List.forall_mem_cons.mpr ⟨Or.inl ck216, fun _ h => absurd h List.not_mem_nil⟩⟩
theorem om59 : ∀ M ∈ am59.1, okND ro M := List.forall_mem_cons.mpr ⟨Or.inl ck175, List.forall_mem_cons.mpr ⟨Or.inl ck225, fun _ h => absurd h List.not_mem_nil⟩⟩
theorem om60 : ∀ M ∈ am60.1, okND ro M := List.forall_mem_cons.mpr ⟨Or.inl ck109, fun _ h => absurd h List.not_mem_nil⟩
theorem om61 : ∀ M ∈ am61.1, okND ro M := List.forall_mem_cons.mpr ⟨Or.inl ck165, List.forall_mem_cons.mpr ⟨Or.inl ck215, fun _ h => absurd h List.not_mem_nil⟩⟩
theorem om62 : ∀ M ∈ am62.1, okND ro M := List.forall_mem_cons.mpr ⟨Or.inl ck141, fun _ h => absurd h List.not_mem_nil⟩
theorem om63 : ∀ M ∈ am63.1, okND ro M := List.forall_mem_cons.mpr ⟨Or.inl ck315, fun _ h => absurd h List.not_mem_nil⟩
theorem om64 : ∀ M ∈ am64.1, okND ro M := List.forall_mem_cons.mpr ⟨Or.inl ck140, fun _ h => absurd h List.not_mem_nil⟩
theorem om65 : ∀ M ∈ am65.1, okND ro M := fun _ h => absurd h List.not_mem_nil
theorem om66 : ∀ M ∈ am66.1, okND ro M := List.forall_mem_cons.mpr ⟨Or.inl ck139, fun _ h => absurd h List.not_mem_nil⟩
theorem om67 : ∀ M ∈ am67.1, okND ro M := List.forall_mem_cons.mpr ⟨Or.inl ck138, fun _ h => absurd h List.not_mem_nil⟩
theorem om68 : ∀ M ∈ am68.1, okND ro M := fun _ h => absurd h List.not_mem_nil
theorem om69 : ∀ M ∈ am69.1, okND ro M := List.forall_mem_cons.mpr ⟨Or.inl ck137, fun _ h => absurd h List.not_mem_nil⟩
theorem om70 : ∀ M ∈ am70.1, okND ro M := List.forall_mem_cons.mpr ⟨Or.inl ck164, List.forall_mem_cons.mpr ⟨Or.inl ck317, fun _ h => absurd h List.not_mem_nil⟩⟩
theorem om71 : ∀ M ∈ am71.1, okND ro M := fun _ h => absurd h List.not_mem_nil
theorem om72 : ∀ M ∈ am72.1, okND ro M := fun _ h => absurd h List.not_mem_nil
theorem om73 : ∀ M ∈ am73.1, okND ro M := fun _ h => absurd h List.not_mem_nil
theorem om74 : ∀ M ∈ am74.1, okND ro M := List.forall_mem_cons.mpr ⟨Or.inl ck324, fun _ h => absurd h List.not_mem_nil⟩
theorem om75 : ∀ M ∈ am75.1, okND ro M := List.forall_mem_cons.mpr ⟨Or.inl ck136, fun _ h => absurd h List.not_mem_nil⟩
theorem om76 : ∀ M ∈ am76.1, okND ro M := List.forall_mem_cons.mpr ⟨Or.inl ck163, List.forall_mem_cons.mpr ⟨Or.inl ck214, fun _ h => absurd h List.not_mem_nil⟩⟩
theorem om77 : ∀ M ∈ am77.1, okND ro M := List.forall_mem_cons.mpr ⟨Or.inl ck320, List.forall_mem_cons.mpr ⟨Or.inl ck326, fun _ h => absurd h List.not_mem_nil⟩⟩
theorem om78 : ∀ M ∈ am78.1, okND ro M := fun _ h => absurd h List.not_mem_nil
theorem om79 : ∀ M ∈ am79.1, okND ro M := List.forall_mem_cons.mpr ⟨Or.inl ck319, List.forall_mem_cons.mpr ⟨Or.inl ck325, fun _ h => absurd h List.not_mem_nil⟩⟩
theorem om80 : ∀ M ∈ am80.1, okND ro M := List.forall_mem_cons.mpr ⟨Or.inl ck154, List.forall_mem_cons.mpr ⟨Or.inl ck209, fun _ h => absurd h List.not_mem_nil⟩⟩
theorem om81 : ∀ M ∈ am81.1, okND ro M := List.forall_mem_cons.mpr ⟨Or.inl ck135, fun _ h => absurd h List.not_mem_nil⟩
theorem om82 : ∀ M ∈ am82.1, okND ro M := List.forall_mem_cons.mpr ⟨Or.inl ck134, fun _ h => absurd h List.not_mem_nil⟩
theorem om83 : ∀ M ∈ am83.1, okND ro M := List.forall_mem_cons.mpr ⟨Or.inl ck133, fun _ h => absurd h List.not_mem_nil⟩
theorem om84 : ∀ M ∈ am84.1, okND ro M := List.forall_mem_cons.mpr ⟨Or.inl ck132, fun _ h => absurd h List.not_mem_nil⟩
theorem om85 : ∀ M ∈ am85.1, okND ro M := List.forall_mem_cons.mpr ⟨Or.inl ck131, fun _ h => absurd h List.not_mem_nil⟩
theorem om86 : ∀ M ∈ am86.1, okND ro M := List.forall_mem_cons.mpr ⟨Or.inl ck130, fun _ h => absurd h List.not_mem_nil⟩
theorem om87 : ∀ M ∈ am87.1, okND ro M := fun _ h => absurd h List.not_mem_nil
theorem om88 : ∀ M ∈ am88.1, okND ro M := List.forall_mem_cons.mpr ⟨Or.inl ck240, List.forall_mem_cons.mpr ⟨Or.inl ck258, fun _ h => absurd h List.not_mem_nil⟩⟩
theorem om89 : ∀ M ∈ am89.1, okND ro M := List.forall_mem_cons.mpr ⟨Or.inl ck267, fun _ h => absurd h List.not_mem_nil⟩
theorem om90 : ∀ M ∈ am90.1, okND ro M := List.forall_mem_cons.mpr ⟨Or.inl ck274, fun _ h => absurd h List.not_mem_nil⟩
theorem om91 : ∀ M ∈ am91.1, okND ro M := fun _ h => absurd h List.not_mem_nil
theorem om92 : ∀ M ∈ am92.1, okND ro M := List.forall_mem_cons.mpr ⟨Or.inl ck276, List.forall_mem_cons.mpr ⟨Or.inl ck278, fun _ h => absurd h List.not_mem_nil⟩⟩
theorem om93 : ∀ M ∈ am93.1, okND ro M := List.forall_mem_cons.mpr ⟨Or.inl ck129, fun _ h => absurd h List.not_mem_nil⟩
theorem om94 : ∀ M ∈ am94.1, okND ro M := List.forall_mem_cons.mpr ⟨Or.inl ck128, List.forall_mem_cons.mpr ⟨Or.inl ck316, fun _ h => absurd h List.not_mem_nil⟩⟩
theorem om95 : ∀ M ∈ am95.1, okND ro M := List.forall_mem_cons.mpr ⟨Or.inl ck127, fun _ h => absurd h List.not_mem_nil⟩
theorem om96 : ∀ M ∈ am96.1, okND ro M := List.forall_mem_cons.mpr ⟨Or.inl ck161, fun _ h => absurd h List.not_mem_nil⟩
theorem om97 : ∀ M ∈ am97.1, okND ro M := List.forall_mem_cons.mpr ⟨Or.inl ck213, fun _ h => absurd h List.not_mem_nil⟩
theorem om98 : ∀ M ∈ am98.1, okND ro M := fun _ h => absurd h List.not_mem_nil
theorem om99 : ∀ M ∈ am99.1, okND ro M := fun _ h => absurd h List.not_mem_nil
theorem om100 : ∀ M ∈ am100.1, okND ro M := List.forall_mem_cons.mpr ⟨Or.inl ck82, List.forall_mem_cons.mpr ⟨Or.inl ck83, List.forall_mem_cons.mpr ⟨Or.inl ck84, List.forall_mem_cons.mpr ⟨Or.inl ck85, List.forall_mem_cons.mpr ⟨Or.inl ck86, List.forall_mem_cons.mpr ⟨Or.inl ck87, List.forall_mem_cons.mpr ⟨Or.inl ck88, List.forall_mem_cons.mpr ⟨Or.inl ck89, List.forall_mem_cons.mpr ⟨Or.inl ck90, List.forall_mem_cons.mpr ⟨Or.inl ck91, fun _ h => absurd h List.not_mem_nil⟩⟩⟩⟩⟩⟩⟩⟩⟩⟩
theorem om101 : ∀ M ∈ am101.1, okND ro M := List.forall_mem_cons.mpr ⟨Or.inl ck108, fun _ h => absurd h List.not_mem_nil⟩
theorem om102 : ∀ M ∈ am102.1, okND ro M := List.forall_mem_cons.mpr ⟨Or.inl ck174, List.forall_mem_cons.mpr ⟨Or.inl ck224, fun _ h => absurd h List.not_mem_nil⟩⟩
theorem om103 : ∀ M ∈ am103.1, okND ro M := fun _ h => absurd h List.not_mem_nil
theorem om104 : ∀ M ∈ am104.1, okND ro M := List.forall_mem_cons.mpr ⟨Or.inl ck92, List.forall_mem_cons.mpr ⟨Or.inl ck93, List.forall_mem_cons.mpr ⟨Or.inl ck94, fun _ h => absurd h List.not_mem_nil⟩⟩⟩
theorem om105 : ∀ M ∈ am105.1, okND ro M := List.forall_mem_cons.mpr ⟨Or.inl ck260, fun _ h => absurd h List.not_mem_nil⟩
theorem om106 : ∀ M ∈ am106.1, okND ro M := List.forall_mem_cons.mpr ⟨Or.inl ck275, fun _ h => absurd h List.not_mem_nil⟩
theorem om107 : ∀ M ∈ am107.1, okND ro M := List.forall_mem_cons.mpr ⟨Or.inl ck126, List.forall_mem_cons.mpr ⟨Or.inl ck160, fun _ h => absurd h List.not_mem_nil⟩⟩
theorem om108 : ∀ M ∈ am108.1, okND ro M := List.forall_mem_cons.mpr ⟨Or.inl ck212, fun _ h => absurd h List.not_mem_nil⟩
theorem om109 : ∀ M ∈ am109.1, okND ro M := List.forall_mem_cons.mpr ⟨Or.inl ck125, List.forall_mem_cons.mpr ⟨Or.inl ck328, fun _ h => absurd h List.not_mem_nil⟩⟩
theorem om110 : ∀ M ∈ am110.1, okND ro M := List.forall_mem_cons.mpr ⟨Or.inl ck329, List.forall_mem_cons.mpr ⟨Or.inl ck330, fun _ h => absurd h List.not_mem_nil⟩⟩
theorem om111 : ∀ M ∈ am111.1, okND ro M := List.forall_mem_cons.mpr ⟨Or.inl ck124, fun _ h => absurd h List.not_mem_nil⟩
theorem om112 : ∀ M ∈ am112.1, okND ro M := List.forall_mem_cons.mpr ⟨Or.inl ck314, fun _ h => absurd h List.not_mem_nil⟩
theorem om113 : ∀ M ∈ am113.1, okND ro M := List.forall_mem_cons.mpr ⟨Or.inl ck123, fun _ h => absurd h List.not_mem_nil⟩
theorem om114 : ∀ M ∈ am114.1, okND ro M := List.forall_mem_cons.mpr ⟨Or.inl ck122, List.forall_mem_cons.mpr ⟨Or.inl ck313, fun _ h => absurd h List.not_mem_nil⟩⟩
theorem om115 : ∀ M ∈ am115.1, okND ro M := fun _ h => absurd h List.not_mem_nil
theorem om116 : ∀ M ∈ am116.1, okND ro M := List.forall_mem_cons.mpr ⟨Or.inl ck266, List.forall_mem_cons.mpr ⟨Or.inl ck273, fun _ h => absurd h List.not_mem_nil⟩⟩
theorem om117 : ∀ M ∈ am117.1, okND ro M := List.forall_mem_cons.mpr ⟨Or.inl ck121, List.forall_mem_cons.mpr ⟨Or.inl ck159, fun _ h => absurd h List.not_mem_nil⟩⟩
theorem om118 : ∀ M ∈ am118.1, okND ro M := List.forall_mem_cons.mpr ⟨Or.inl ck120, fun _ h => absurd h List.not_mem_nil⟩
theorem om119 : ∀ M ∈ am119.1, okND ro M := List.forall_mem_cons.mpr ⟨Or.inl ck71, List.forall_mem_cons.mpr ⟨Or.inl ck72, List.forall_mem_cons.mpr ⟨Or.inl ck73, List.forall_mem_cons.mpr ⟨Or.inl ck74, List.forall_mem_cons.mpr ⟨Or.inl ck75, List.forall_mem_cons.mpr ⟨Or.inl ck76, List.forall_mem_cons.mpr ⟨Or.inl ck77, List.forall_mem_cons.mpr ⟨Or.inl ck78, List.forall_mem_cons.mpr ⟨Or.inl ck79, List.forall_mem_cons.mpr ⟨Or.inl ck80, List.forall_mem_cons.mpr ⟨Or.inl ck81, fun _ h => absurd h List.not_mem_nil⟩⟩⟩⟩⟩⟩⟩⟩⟩⟩⟩
theorem om120 : ∀ M ∈ am120.1, okND ro M := List.forall_mem_cons.mpr ⟨Or.inl ck107, List.forall_mem_cons.mpr ⟨Or.inl ck256, fun _ h => absurd h List.not_mem_nil⟩⟩
theorem om121 : ∀ M ∈ am121.1, okND ro M := List.forall_mem_cons.mpr ⟨Or.inl ck119, List.forall_mem_cons.mpr ⟨Or.inl ck312, fun _ h => absurd h List.not_mem_nil⟩⟩
theorem om122 : ∀ M ∈ am122.1, okND ro M := List.forall_mem_cons.mpr ⟨Or.inl ck158, List.forall_mem_cons.mpr ⟨Or.inl ck211, fun _ h => absurd h List.not_mem_nil⟩⟩
theorem om123 : ∀ M ∈ am123.1, okND ro M := List.forall_mem_cons.mpr ⟨Or.inl ck264, List.forall_mem_cons.mpr ⟨Or.inl ck272, fun _ h => absurd h List.not_mem_nil⟩⟩
theorem om124 : ∀ M ∈ am124.1, okND ro M := List.forall_mem_cons.mpr ⟨Or.inl ck280, List.forall_mem_cons.mpr ⟨Or.inl ck281, fun _ h => absurd h List.not_mem_nil⟩⟩
theorem om125 : ∀ M ∈ am125.1, okND ro M := List.forall_mem_cons.mpr ⟨Or.inl ck286, List.forall_mem_cons.mpr ⟨Or.inl ck289, fun _ h => absurd h List.not_mem_nil⟩⟩
theorem om126 : ∀ M ∈ am126.1, okND ro M := List.forall_mem_cons.mpr ⟨Or.inl ck291, List.forall_mem_cons.mpr ⟨Or.inl ck294, fun _ h => absurd h List.not_mem_nil⟩⟩
theorem om127 : ∀ M ∈ am127.1, okND ro M := List.forall_mem_cons.mpr ⟨Or.inl ck118, List.forall_mem_cons.mpr ⟨Or.inl ck255, fun _ h => absurd h List.not_mem_nil⟩⟩
theorem om128 : ∀ M ∈ am128.1, okND ro M := List.forall_mem_cons.mpr ⟨Or.inl ck117, List.forall_mem_cons.mpr ⟨Or.inl ck311, fun _ h => absurd h List.not_mem_nil⟩⟩
theorem om129 : ∀ M ∈ am129.1, okND ro M := List.forall_mem_cons.mpr ⟨Or.inl ck322, fun _ h => absurd h List.not_mem_nil⟩
theorem om130 : ∀ M ∈ am130.1, okND ro M := List.forall_mem_cons.mpr ⟨Or.inl ck116, fun _ h => absurd h List.not_mem_nil⟩
theorem om131 : ∀ M ∈ am131.1, okND ro M := List.forall_mem_cons.mpr ⟨Or.inl ck115, fun _ h => absurd h List.not_mem_nil⟩
theorem om132 : ∀ M ∈ am132.1, okND ro M := List.forall_mem_cons.mpr ⟨Or.inl ck114, fun _ h => absurd h List.not_mem_nil⟩
theorem om133 : ∀ M ∈ am133.1, okND ro M := fun _ h => absurd h List.not_mem_nil
theorem om134 : ∀ M ∈ am134.1, okND ro M := fun _ h => absurd h List.not_mem_nil
theorem om135 : ∀ M ∈ am135.1, okND ro M := List.forall_mem_cons.mpr ⟨Or.inl ck156, List.forall_mem_cons.mpr ⟨Or.inl ck210, fun _ h => absurd h List.not_mem_nil⟩⟩
theorem om136 : ∀ M ∈ am136.1, okND ro M := List.forall_mem_cons.mpr ⟨Or.inl ck113, fun _ h => absurd h List.not_mem_nil⟩
theorem om137 : ∀ M ∈ am137.1, okND ro M := List.forall_mem_cons.mpr ⟨Or.inl ck155, fun _ h => absurd h List.not_mem_nil⟩
theorem om138 : ∀ M ∈ am138.1, okND ro M := List.forall_mem_cons.mpr ⟨Or.inl ck263, fun _ h => absurd h List.not_mem_nil⟩
theorem om139 : ∀ M ∈ am139.1, okND ro M := List.forall_mem_cons.mpr ⟨Or.inl ck112, List.forall_mem_cons.mpr ⟨Or.inl ck257, fun _ h => absurd h List.not_mem_nil⟩⟩
theorem om140 : ∀ M ∈ am140.1, okND ro M := List.forall_mem_cons.mpr ⟨Or.inl ck268, fun _ h => absurd h List.not_mem_nil⟩
theorem om141 : ∀ M ∈ am141.1, okND ro M := fun _ h => absurd h List.not_mem_nil
theorem om142 : ∀ M ∈ am142.1, okND ro M := List.forall_mem_cons.mpr ⟨Or.inl ck111, fun _ h => absurd h List.not_mem_nil⟩
theorem om143 : ∀ M ∈ am143.1, okND ro M := List.forall_mem_cons.mpr ⟨Or.inl ck110, fun _ h => absurd h List.not_mem_nil⟩
theorem om144 : ∀ M ∈ am144.1, okND ro M := fun _ h => absurd h List.not_mem_nil
theorem om145 : ∀ M ∈ am145.1, okND ro M := List.forall_mem_cons.mpr ⟨Or.inl ck295, List.forall_mem_cons.mpr ⟨Or.inl ck296, List.forall_mem_cons.mpr ⟨Or.inl ck297, fun _ h => absurd h List.not_mem_nil⟩⟩⟩
theorem om146 : ∀ M ∈ am146.1, okND ro M := List.forall_mem_cons.mpr ⟨Or.inl ck147, fun _ h => absurd h List.not_mem_nil⟩
theorem om147 : ∀ M ∈ am147.1, okND ro M := List.forall_mem_cons.mpr ⟨Or.inl ck208, fun _ h => absurd h List.not_mem_nil⟩
theorem om148 : ∀ M ∈ am148.1, okND ro M := List.forall_mem_cons.mpr ⟨Or.inl ck98, fun _ h => absurd h List.not_mem_nil⟩
theorem om149 : ∀ M ∈ am149.1, okND ro M := List.forall_mem_cons.mpr ⟨Or.inl ck207, fun _ h => absurd h List.not_mem_nil⟩
theorem om150 : ∀ M ∈ am150.1, okND ro M := List.forall_mem_cons.mpr ⟨Or.inl ck5, List.forall_mem_cons.mpr ⟨Or.inl ck99, List.forall_mem_cons.mpr ⟨Or.inl ck293, fun _ h => absurd h List.not_mem_nil⟩⟩⟩
theorem om151 : ∀ M ∈ am151.1, okND ro M := List.forall_mem_cons.mpr ⟨Or.inl ck1, List.forall_mem_cons.mpr ⟨Or.inl ck2, List.forall_mem_cons.mpr ⟨Or.inl ck3, List.forall_mem_cons.mpr ⟨Or.inl ck4, fun _ h => absurd h List.not_mem_nil⟩⟩⟩⟩
theorem om152 : ∀ M ∈ am152.1, okND ro M := fun _ h => absurd h List.not_mem_nil
theorem om153 : ∀ M ∈ am153.1, okND ro M := fun _ h => absurd h List.not_mem_nil
theorem om154 : ∀ M ∈ am154.1, okND ro M := fun _ h => absurd h List.not_mem_nil
theorem om155 : ∀ M ∈ am155.1, okND ro M := List.forall_mem_cons.mpr ⟨Or.inl ck100, fun _ h => absurd h List.not_mem_nil⟩
theorem om156 : ∀ M ∈ am156.1, okND ro M := List.forall_mem_cons.mpr ⟨Or.inl ck148, fun _ h => absurd h List.not_mem_nil⟩
theorem om157 : ∀ M ∈ am157.1, okND ro M := List.forall_mem_cons.mpr ⟨Or.inl ck323, fun _ h => absurd h List.not_mem_nil⟩
theorem om158 : ∀ M ∈ am158.1, okND ro M := fun _ h => absurd h List.not_mem_nil
theorem om159 : ∀ M ∈ am159.1, okND ro M := List.forall_mem_cons.mpr ⟨Or.inl ck26, List.forall_mem_cons.mpr ⟨Or.inl ck27, List.forall_mem_cons.mpr ⟨Or.inl ck28, List.forall_mem_cons.mpr ⟨Or.inl ck29, fun _ h => absurd h List.not_mem_nil⟩⟩⟩⟩
theorem om160 : ∀ M ∈ am160.1, okND ro M := fun _ h => absurd h List.not_mem_nil
theorem om161 : ∀ M ∈ am161.1, okND ro M := fun _ h => absurd h List.not_mem_nil
theorem om162 : ∀ M ∈ am162.1, okND ro M := fun _ h => absurd h List.not_mem_nil
theorem om163 : ∀ M ∈ am163.1, okND ro M := List.forall_mem_cons.mpr ⟨Or.inl ck6, fun _ h => absurd h List.not_mem_nil⟩
theorem om164 : ∀ M ∈ am164.1, okND ro M := fun _ h => absurd h List.not_mem_nil
theorem om165 : ∀ M ∈ am165.1, okND ro M := fun _ h => absurd h List.not_mem_nil
theorem om166 : ∀ M ∈ am166.1, okND ro M := List.forall_mem_cons.mpr ⟨Or.inl ck206, fun _ h => absurd h List.not_mem_nil⟩
theorem om167 : ∀ M ∈ am167.1, okND ro M := List.forall_mem_cons.mpr ⟨Or.inl ck205, List.forall_mem_cons.mpr ⟨Or.inl ck236, List.forall_mem_cons.mpr ⟨Or.inl ck253, fun _ h => absurd h List.not_mem_nil⟩⟩⟩
theorem om168 : ∀ M ∈ am168.1, okND ro M := List.forall_mem_cons.mpr ⟨Or.inl ck102, fun _ h => absurd h List.not_mem_nil⟩
theorem om169 : ∀ M ∈ am169.1, okND ro M := fun _ h => absurd h List.not_mem_nil
theorem om170 : ∀ M ∈ am170.1, okND ro M := fun _ h => absurd h List.not_mem_nil
theorem om171 : ∀ M ∈ am171.1, okND ro M := List.forall_mem_cons.mpr ⟨Or.inl ck106, List.forall_mem_cons.mpr ⟨Or.inl ck152, fun _ h => absurd h List.not_mem_nil⟩⟩
theorem om172 : ∀ M ∈ am172.1, okND ro M := List.forall_mem_cons.mpr ⟨Or.inl ck103, fun _ h => absurd h List.not_mem_nil⟩
theorem om173 : ∀ M ∈ am173.1, okND ro M := fun _ h => absurd h List.not_mem_nil
theorem om174 : ∀ M ∈ am174.1, okND ro M := List.forall_mem_cons.mpr ⟨Or.inl ck149, fun _ h => absurd h List.not_mem_nil⟩
theorem om175 : ∀ M ∈ am175.1, okND ro M := List.forall_mem_cons.mpr ⟨Or.inl ck101, fun _ h => absurd h List.not_mem_nil⟩
theorem om176 : ∀ M ∈ am176.1, okND ro M := List.forall_mem_cons.mpr ⟨Or.inl ck204, fun _ h => absurd h List.not_mem_nil⟩
theorem om177 : ∀ M ∈ am177.1, okND ro M := fun _ h => absurd h List.not_mem_nil
theorem om178 : ∀ M ∈ am178.1, okND ro M := List.forall_mem_cons.mpr ⟨Or.inl ck172, fun _ h => absurd h List.not_mem_nil⟩
theorem om179 : ∀ M ∈ am179.1, okND ro M := fun _ h => absurd h List.not_mem_nil
theorem om180 : ∀ M ∈ am180.1, okND ro M := List.forall_mem_cons.mpr ⟨Or.inl ck203, fun _ h => absurd h List.not_mem_nil⟩
theorem om181 : ∀ M ∈ am181.1, okND ro M := fun _ h => absurd h List.not_mem_nil
theorem om182 : ∀ M ∈ am182.1, okND ro M := List.forall_mem_cons.mpr ⟨Or.inl ck202, fun _ h => absurd h List.not_mem_nil⟩
theorem om183 : ∀ M ∈ am183.1, okND ro M := List.forall_mem_cons.mpr ⟨Or.inl ck201, fun _ h => absurd h List.not_mem_nil⟩
theorem om184 : ∀ M ∈ am184.1, okND ro M := List.forall_mem_cons.mpr ⟨Or.inl ck105, fun _ h => absurd h List.not_mem_nil⟩
theorem om185 : ∀ M ∈ am185.1, okND ro M := List.forall_mem_cons.mpr ⟨Or.inl ck245, fun _ h => absurd h List.not_mem_nil⟩
theorem om186 : ∀ M ∈ am186.1, okND ro M := List.forall_mem_cons.mpr ⟨Or.inl ck151, fun _ h => absurd h List.not_mem_nil⟩
theorem om187 : ∀ M ∈ am187.1, okND ro M := List.forall_mem_cons.mpr ⟨Or.inl ck30, List.forall_mem_cons.mpr ⟨Or.inl ck31, List.forall_mem_cons.mpr ⟨Or.inl ck32, List.forall_mem_cons.mpr ⟨Or.inl ck33, List.forall_mem_cons.mpr ⟨Or.inl ck34, List.forall_mem_cons.mpr ⟨Or.inl ck35, List.forall_mem_cons.mpr ⟨Or.inl ck36, List.forall_mem_cons.mpr ⟨Or.inl ck37, List.forall_mem_cons.mpr ⟨Or.inl ck38, List.forall_mem_cons.mpr ⟨Or.inl ck39, List.forall_mem_cons.mpr ⟨Or.inl ck40, List.forall_mem_cons.mpr ⟨Or.inl ck41, List.forall_mem_cons.mpr ⟨Or.inl ck42, List.forall_mem_cons.mpr ⟨Or.inl ck43, List.forall_mem_cons.mpr ⟨Or.inl ck44, List.forall_mem_cons.mpr ⟨Or.inl ck45, List.forall_mem_cons.mpr ⟨Or.inl ck46, List.forall_mem_cons.mpr ⟨Or.inl ck47, List.forall_mem_cons.mpr ⟨Or.inl ck48, List.forall_mem_cons.mpr ⟨Or.inl ck49, List.forall_mem_cons.mpr ⟨Or.inl ck50, List.forall_mem_cons.mpr ⟨Or.inl ck51, List.forall_mem_cons.mpr ⟨Or.inl ck52, List.forall_mem_cons.mpr ⟨Or.inl ck53, List.forall_mem_cons.mpr ⟨Or.inl ck171, List.forall_mem_cons.mpr ⟨Or.inl ck222, fun _ h => absurd h List.not_mem_nil⟩⟩⟩⟩⟩⟩⟩⟩⟩⟩⟩⟩⟩⟩⟩⟩⟩⟩⟩⟩⟩⟩⟩⟩⟩⟩
theorem om188 : ∀ M ∈ am188.1, okND ro M := fun _ h => absurd h List.not_mem_nil
theorem om189 : ∀ M ∈ am189.1, okND ro M := List.forall_mem_cons.mpr ⟨Or.inl ck235, fun _ h => absurd h List.not_mem_nil⟩
theorem om190 : ∀ M ∈ am190.1, okND ro M := List.forall_mem_cons.mpr ⟨Or.inl ck200, fun _ h => absurd h List.not_mem_nil⟩
theorem om191 : ∀ M ∈ am191.1, okND ro M := List.forall_mem_cons.mpr ⟨Or.inl ck150, List.forall_mem_cons.mpr ⟨Or.inl ck170, List.forall_mem_cons.mpr ⟨Or.inl ck220, fun _ h => absurd h List.not_mem_nil⟩⟩⟩
theorem om192 : ∀ M ∈ am192.1, okND ro M := List.forall_mem_cons.mpr ⟨Or.inl ck221, fun _ h => absurd h List.not_mem_nil⟩
theorem om193 : ∀ M ∈ am193.1, okND ro M := List.forall_mem_cons.mpr ⟨Or.inl ck226, List.forall_mem_cons.mpr ⟨Or.inl ck242, fun _ h => absurd h List.not_mem_nil⟩⟩
theorem om194 : ∀ M ∈ am194.1, okND ro M := List.forall_mem_cons.mpr ⟨Or.inl ck199, fun _ h => absurd h List.not_mem_nil⟩
theorem om195 : ∀ M ∈ am195.1, okND ro M := List.forall_mem_cons.mpr ⟨Or.inl ck198, fun _ h => absurd h List.not_mem_nil⟩
theorem om196 : ∀ M ∈ am196.1, okND ro M := fun _ h => absurd h List.not_mem_nil
theorem om197 : ∀ M ∈ am197.1, okND ro M := fun _ h => absurd h List.not_mem_nil
theorem om198 : ∀ M ∈ am198.1, okND ro M := List.forall_mem_cons.mpr ⟨Or.inl ck197, fun _ h => absurd h List.not_mem_nil⟩
theorem om199 : ∀ M ∈ am199.1, okND ro M := List.forall_mem_cons.mpr ⟨Or.inl ck254, fun _ h => absurd h List.not_mem_nil⟩
theorem om200 : ∀ M ∈ am200.1, okND ro M := List.forall_mem_cons.mpr ⟨Or.inl ck262, fun _ h => absurd h List.not_mem_nil⟩
theorem om201 : ∀ M ∈ am201.1, okND ro M := List.forall_mem_cons.mpr ⟨Or.inl ck196, fun _ h => absurd h List.not_mem_nil⟩
theorem om202 : ∀ M ∈ am202.1, okND ro M := List.forall_mem_cons.mpr ⟨Or.inl ck195, List.forall_mem_cons.mpr ⟨Or.inl ck234, List.forall_mem_cons.mpr ⟨Or.inl ck252, fun _ h => absurd h List.not_mem_nil⟩⟩⟩
theorem om203 : ∀ M ∈ am203.1, okND ro M := List.forall_mem_cons.mpr ⟨Or.inl ck104, fun _ h => absurd h List.not_mem_nil⟩
theorem om204 : ∀ M ∈ am204.1, okND ro M := List.forall_mem_cons.mpr ⟨Or.inl ck194, fun _ h => absurd h List.not_mem_nil⟩
theorem om205 : ∀ M ∈ am205.1, okND ro M := List.forall_mem_cons.mpr ⟨Or.inl ck233, List.forall_mem_cons.mpr ⟨Or.inl ck251, fun _ h => absurd h List.not_mem_nil⟩⟩
theorem om206 : ∀ M ∈ am206.1, okND ro M := List.forall_mem_cons.mpr ⟨Or.inl ck193, List.forall_mem_cons.mpr ⟨Or.inl ck232, List.forall_mem_cons.mpr ⟨Or.inl ck249, List.forall_mem_cons.mpr ⟨Or.inl ck250, fun _ h => absurd h List.not_mem_nil⟩⟩⟩⟩
theorem om207 : ∀ M ∈ am207.1, okND ro M := List.forall_mem_cons.mpr ⟨Or.inl ck54, List.forall_mem_cons.mpr ⟨Or.inl ck55, List.forall_mem_cons.mpr ⟨Or.inl ck56, List.forall_mem_cons.mpr ⟨Or.inl ck57, List.forall_mem_cons.mpr ⟨Or.inl ck192, fun _ h => absurd h List.not_mem_nil⟩⟩⟩⟩⟩
theorem om208 : ∀ M ∈ am208.1, okND ro M := fun _ h => absurd h List.not_mem_nil
theorem om209 : ∀ M ∈ am209.1, okND ro M := fun _ h => absurd h List.not_mem_nil
theorem om210 : ∀ M ∈ am210.1, okND ro M := fun _ h => absurd h List.not_mem_nil
theorem om211 : ∀ M ∈ am211.1, okND ro M := List.forall_mem_cons.mpr ⟨Or.inl ck64, List.forall_mem_cons.mpr ⟨Or.inl ck65, fun _ h => absurd h List.not_mem_nil⟩⟩
theorem om212 : ∀ M ∈ am212.1, okND ro M := List.forall_mem_cons.mpr ⟨Or.inl ck66, List.forall_mem_cons.mpr ⟨Or.inl ck67, List.forall_mem_cons.mpr ⟨Or.inl ck68, List.forall_mem_cons.mpr ⟨Or.inl ck69, List.forall_mem_cons.mpr ⟨Or.inl ck70, fun _ h => absurd h List.not_mem_nil⟩⟩⟩⟩⟩
theorem om213 : ∀ M ∈ am213.1, okND ro M := List.forall_mem_cons.mpr ⟨Or.inl ck219, List.forall_mem_cons.mpr ⟨Or.inl ck239, fun _ h => absurd h List.not_mem_nil⟩⟩
theorem om214 : ∀ M ∈ am214.1, okND ro M := fun _ h => absurd h List.not_mem_nil
theorem om215 : ∀ M ∈ am215.1, okND ro M := List.forall_mem_cons.mpr ⟨Or.inl ck58, List.forall_mem_cons.mpr ⟨Or.inl ck59, List.forall_mem_cons.mpr ⟨Or.inl ck60, List.forall_mem_cons.mpr ⟨Or.inl ck61, List.forall_mem_cons.mpr ⟨Or.inl ck62, List.forall_mem_cons.mpr ⟨Or.inl ck63, List.forall_mem_cons.mpr ⟨Or.inl ck191, fun _ h => absurd h List.not_mem_nil⟩⟩⟩⟩⟩⟩⟩
theorem om216 : ∀ M ∈ am216.1, okND ro M := List.forall_mem_cons.mpr ⟨Or.inl ck190, List.forall_mem_cons.mpr ⟨Or.inl ck231, List.forall_mem_cons.mpr ⟨Or.inl ck248, fun _ h => absurd h List.not_mem_nil⟩⟩⟩
theorem om217 : ∀ M ∈ am217.1, okND ro M := List.forall_mem_cons.mpr ⟨Or.inl ck189, fun _ h => absurd h List.not_mem_nil⟩
theorem om218 : ∀ M ∈ am218.1, okND ro M := List.forall_mem_cons.mpr ⟨Or.inl ck188, fun _ h => absurd h List.not_mem_nil⟩
theorem om219 : ∀ M ∈ am219.1, okND ro M := List.forall_mem_cons.mpr ⟨Or.inl ck187, List.forall_mem_cons.mpr ⟨Or.inl ck230, fun _ h => absurd h List.not_mem_nil⟩⟩
theorem om220 : ∀ M ∈ am220.1, okND ro M := List.forall_mem_cons.mpr ⟨Or.inl ck261, List.forall_mem_cons.mpr ⟨Or.inl ck271, List.forall_mem_cons.mpr ⟨Or.inl ck277, List.forall_mem_cons.mpr ⟨Or.inl ck279, fun _ h => absurd h List.not_mem_nil⟩⟩⟩⟩
theorem om221 : ∀ M ∈ am221.1, okND ro M := List.forall_mem_cons.mpr ⟨Or.inl ck283, List.forall_mem_cons.mpr ⟨Or.inl ck285, List.forall_mem_cons.mpr ⟨Or.inl ck288, fun _ h => absurd h List.not_mem_nil⟩⟩⟩
theorem om222 : ∀ M ∈ am222.1, okND ro M := List.forall_mem_cons.mpr ⟨Or.inl ck186, List.forall_mem_cons.mpr ⟨Or.inl ck229, List.forall_mem_cons.mpr ⟨Or.inl ck247, fun _ h => absurd h List.not_mem_nil⟩⟩⟩
theorem om223 : ∀ M ∈ am223.1, okND ro M := List.forall_mem_cons.mpr ⟨Or.inl ck8, fun _ h => absurd h List.not_mem_nil⟩
theorem om224 : ∀ M ∈ am224.1, okND ro M := List.forall_mem_cons.mpr ⟨Or.inl ck185, fun _ h => absurd h List.not_mem_nil⟩
theorem om225 : ∀ M ∈ am225.1, okND ro M := List.forall_mem_cons.mpr ⟨Or.inl ck10, List.forall_mem_cons.mpr ⟨Or.inl ck11, List.forall_mem_cons.mpr ⟨Or.inl ck12, List.forall_mem_cons.mpr ⟨Or.inl ck13, List.forall_mem_cons.mpr ⟨Or.inl ck14, List.forall_mem_cons.mpr ⟨Or.inl ck15, List.forall_mem_cons.mpr ⟨Or.inl ck16, List.forall_mem_cons.mpr ⟨Or.inl ck17, List.forall_mem_cons.mpr ⟨Or.inl ck18, List.forall_mem_cons.mpr ⟨Or.inl ck19, List.forall_mem_cons.mpr ⟨Or.inl ck20, List.forall_mem_cons.mpr ⟨Or.inl ck21, fun _ h => absurd h List.not_mem_nil⟩⟩⟩⟩⟩⟩⟩⟩⟩⟩⟩⟩
theorem om226 : ∀ M ∈ am226.1, okND ro M := List.forall_mem_cons.mpr ⟨Or.inr told_nd, fun _ h => absurd h List.not_mem_nil⟩
theorem om227 : ∀ M ∈ am227.1, okND ro M := fun _ h => absurd h List.not_mem_nil
theorem om228 : ∀ M ∈ am228.1, okND ro M := List.forall_mem_cons.mpr ⟨Or.inl ck184, fun _ h => absurd h List.not_mem_nil⟩
theorem om229 : ∀ M ∈ am229.1, okND ro M := List.forall_mem_cons.mpr ⟨Or.inl ck183, List.forall_mem_cons.mpr ⟨Or.inl ck228, fun _ h => absurd h List.not_mem_nil⟩⟩
theorem om230 : ∀ M ∈ am230.1, okND ro M := List.forall_mem_cons.mpr ⟨Or.inl ck182, fun _ h => absurd h List.not_mem_nil⟩
theorem om231 : ∀ M ∈ am231.1, okND ro M := List.forall_mem_cons.mpr ⟨Or.inl ck22, List.forall_mem_cons.mpr ⟨Or.inl ck23, List.forall_mem_cons.mpr ⟨Or.inl ck24, List.forall_mem_cons.mpr ⟨Or.inl ck25, fun _ h => absurd h List.not_mem_nil⟩⟩⟩⟩
theorem om232 : ∀ M ∈ am232.1, okND ro M := List.forall_mem_cons.mpr ⟨Or.inl ck181, fun _ h => absurd h List.not_mem_nil⟩
theorem om233 : ∀ M ∈ am233.1, okND ro M := List.forall_mem_cons.mpr ⟨Or.inl ck96, List.forall_mem_cons.mpr ⟨Or.inl ck180, fun _ h => absurd h List.not_mem_nil⟩⟩
theorem om234 : ∀ M ∈ am234.1, okND ro M := fun _ h => absurd h List.not_mem_nil
theorem om235 : ∀ M ∈ am235.1, okND ro M := List.forall_mem_cons.mpr ⟨Or.inl ck179, fun _ h => absurd h List.not_mem_nil⟩
theorem om236 : ∀ M ∈ am236.1, okND ro M := List.forall_mem_cons.mpr ⟨Or.inl ck178, List.forall_mem_cons.mpr ⟨Or.inl ck227, List.forall_mem_cons.mpr ⟨Or.inl ck243, List.forall_mem_cons.mpr ⟨Or.inl ck244, List.forall_mem_cons.mpr ⟨Or.inl ck246, List.forall_mem_cons.mpr ⟨Or.inl ck269, List.forall_mem_cons.mpr ⟨Or.inl ck270, fun _ h => absurd h List.not_mem_nil⟩⟩⟩⟩⟩⟩⟩
theorem om237 : ∀ M ∈ am237.1, okND ro M := List.forall_mem_cons.mpr ⟨Or.inl ck177, fun _ h => absurd h List.not_mem_nil⟩
theorem om238 : ∀ M ∈ am238.1, okND ro M := List.forall_mem_cons.mpr ⟨Or.inl ck176, fun _ h => absurd h List.not_mem_nil⟩
theorem oc0 : ∀ p ∈ ([am0, am1, am2, am3, am4, am5, am6, am7, am8, am9, am10, am11, am12, am13, am14, am15, am16, am17, am18, am19, am20, am21, am22, am23, am24, am25, am26, am27, am28, am29] : AN), ∀ M ∈ p.1, okND ro M := List.forall_mem_cons.mpr ⟨om0, List.forall_mem_cons.mpr ⟨om1, List.forall_mem_cons.mpr ⟨om2, List.forall_mem_cons.mpr ⟨om3, List.forall_mem_cons.mpr ⟨om4, List.forall_mem_cons.mpr ⟨om5, List.forall_mem_cons.mpr ⟨om6, List.forall_mem_cons.mpr ⟨om7, List.forall_mem_cons.mpr ⟨om8, List.forall_mem_cons.mpr ⟨om9, List.forall_mem_cons.mpr ⟨om10, List.forall_mem_cons.mpr ⟨om11, List.forall_mem_cons.mpr ⟨om12, List.forall_mem_cons.mpr ⟨om13, List.forall_mem_cons.mpr ⟨om14, List.forall_mem_cons.mpr ⟨om15, List.forall_mem_cons.mpr ⟨om16, List.forall_mem_cons.mpr ⟨om17, List.forall_mem_cons.mpr ⟨om18, List.forall_mem_cons.mpr ⟨om19, List.forall_mem_cons.mpr ⟨om20, List.forall_mem_cons.mpr ⟨om21, List.forall_mem_cons.mpr ⟨om22, List.forall_mem_cons.mpr ⟨om23, List.forall_mem_cons.mpr ⟨om24, List.forall_mem_cons.mpr ⟨om25, List.forall_mem_cons.mpr ⟨om26, List.forall_mem_cons.mpr ⟨om27, List.forall_mem_cons.mpr ⟨om28, List.forall_mem_cons.mpr ⟨om29, fun _ h => absurd h List.not_mem_nil⟩⟩⟩⟩⟩⟩⟩⟩⟩⟩⟩⟩⟩⟩⟩⟩⟩⟩⟩⟩⟩⟩⟩⟩⟩⟩⟩⟩⟩⟩
theorem oc1 : ∀ p ∈ ([am30, am31, am32, am33, am34, am35, am36, am37, am38, am39, am40, am41, am42, am43, am44, am45, am46, am47, am48, am49, am50, am51, am52, am53, am54, am55, am56, am57, am58, am59] : AN), ∀ M ∈ p.1, okND ro M := List.forall_mem_cons.mpr ⟨om30, List.forall_mem_cons.mpr ⟨om31, List.forall_mem_cons.mpr ⟨om32, List.forall_mem_cons.mpr ⟨om33, List.forall_mem_cons.mpr ⟨om34, List.forall_mem_cons.mpr ⟨om35, List.forall_mem_cons.mpr ⟨om36, List.forall_mem_cons.mpr ⟨om37, List.forall_mem_cons.mpr ⟨om38, List.forall_mem_cons.mpr ⟨om39, List.forall_mem_cons.mpr ⟨om40, List.forall_mem_cons.mpr ⟨om41, List.forall_mem_cons.mpr ⟨om42, List.forall_mem_cons.mpr ⟨om43, List.forall_mem_cons.mpr ⟨om44, List.forall_mem_cons.mpr ⟨om45, List.forall_mem_cons.mpr ⟨om46, List.forall_mem_cons.mpr ⟨om47, List.forall_mem_cons.mpr ⟨om48, List.forall_mem_cons.mpr ⟨om49, List.forall_mem_cons.mpr ⟨om50, List.forall_mem_cons.mpr ⟨om51, List.forall_mem_cons.mpr ⟨om52, List.forall_mem_cons.mpr ⟨om53, List.forall_mem_cons.mpr ⟨om54, List.forall_mem_cons.mpr ⟨om55, List.forall_mem_cons.mpr ⟨om56, List.forall_mem_cons.mpr ⟨om57, List.forall_mem_cons.mpr ⟨om58, List.forall_mem_cons.mpr ⟨om59, fun _ h => absurd h List.not_mem_nil⟩⟩⟩⟩⟩⟩⟩⟩⟩⟩⟩⟩⟩⟩⟩⟩⟩⟩⟩⟩⟩⟩⟩⟩⟩⟩⟩⟩⟩⟩
theorem oc2 : ∀ p ∈ ([am60, am61, am62, am63, am64, am65, am66, am67, am68, am69, am70, am71, am72, am73, am74, am75, am76, am77, am78, am79, am80, am81, am82, am83, am84, am85, am86, am87, am88, am89] : AN), ∀ M ∈ p.1, okND ro M := List.forall_mem_cons.mpr ⟨om60, List.forall_mem_cons.mpr ⟨om61, List.forall_mem_cons.mpr ⟨om62, List.forall_mem_cons.mpr ⟨om63, List.forall_mem_cons.mpr ⟨om64, List.forall_mem_cons.mpr ⟨om65, List.forall_mem_cons.mpr ⟨om66, List.forall_mem_cons.mpr ⟨om67, List.forall_mem_cons.mpr ⟨om68, List.forall_mem_cons.mpr ⟨om69, List.forall_mem_cons.mpr ⟨om70, List.forall_mem_cons.mpr ⟨om71, List.forall_mem_cons.mpr ⟨om72, List.forall_mem_cons.mpr ⟨om73, List.forall_mem_cons.mpr ⟨om74, List.forall_mem_cons.mpr ⟨om75, List.forall_mem_cons.mpr ⟨om76, List.forall_mem_cons.mpr ⟨om77, List.forall_mem_cons.mpr ⟨om78, List.forall_mem_cons.mpr ⟨om79, List.forall_mem_cons.mpr ⟨om80, List.forall_mem_cons.mpr ⟨om81, List.forall_mem_cons.mpr ⟨om82, List.forall_mem_cons.mpr ⟨om83, List.forall_mem_cons.mpr ⟨om84, List.forall_mem_cons.mpr ⟨om85, List.forall_mem_cons.mpr ⟨om86, List.forall_mem_cons.mpr ⟨om87, List.forall_mem_cons.mpr ⟨om88, List.forall_mem_cons.mpr ⟨om89, fun _ h => absurd h List.not_mem_nil⟩⟩⟩⟩⟩⟩⟩⟩⟩⟩⟩⟩⟩⟩⟩⟩⟩⟩⟩⟩⟩⟩⟩⟩⟩⟩⟩⟩⟩⟩
theorem oc3 : ∀ p ∈ ([am90, am91, am92, am93, am94, am95, am96, am97, am98, am99, am100, am101, am102, am103, am104, am105, am106, am107, am108, am109, am110, am111, am112, am113, am114, am115, am116, am117, am118, am119] : AN), ∀ M ∈ p.1, okND ro M := List.forall_mem_cons.mpr ⟨om90, List.forall_mem_cons.mpr ⟨om91, List.forall_mem_cons.mpr ⟨om92, List.forall_mem_cons.mpr ⟨om93, List.forall_mem_cons.mpr ⟨om94, List.forall_mem_cons.mpr ⟨om95, List.forall_mem_cons.mpr ⟨om96, List.forall_mem_cons.mpr ⟨om97, List.forall_mem_cons.mpr ⟨om98, List.forall_mem_cons.mpr ⟨om99, List.forall_mem_cons.mpr ⟨om100, List.forall_mem_cons.mpr ⟨om101, List.forall_mem_cons.mpr ⟨om102, List.forall_mem_cons.mpr ⟨om103, List.forall_mem_cons.mpr ⟨om104, List.forall_mem_cons.mpr ⟨om105, List.forall_mem_cons.mpr ⟨om106, List.forall_mem_cons.mpr ⟨om107, List.forall_mem_cons.mpr ⟨om108, List.forall_mem_cons.mpr ⟨om109, List.forall_mem_cons.mpr ⟨om110, List.forall_mem_cons.mpr ⟨om111, List.forall_mem_cons.mpr ⟨om112, List.forall_mem_cons.mpr ⟨om113, List.forall_mem_cons.mpr ⟨om114, List.forall_mem_cons.mpr ⟨om115, List.forall_mem_cons.mpr ⟨om116, List.forall_mem_cons.mpr ⟨om117, List.forall_mem_cons.mpr ⟨om118, List.forall_mem_cons.mpr ⟨om119, fun _ h => absurd h List.not_mem_nil⟩⟩⟩⟩⟩⟩⟩⟩⟩⟩⟩⟩⟩⟩⟩⟩⟩⟩⟩⟩⟩⟩⟩⟩⟩⟩⟩⟩⟩⟩
theorem oc4 : ∀ p ∈ ([am120, am121, am122, am123, am124, am125, am126, am127, am128, am129, am130, am131, am132, am133, am134, am135, am136, am137, am138, am139, am140, am141, am142, am143, am144, am145, am146, am147, am148, am149] : AN), ∀ M ∈ p.1, okND ro M := List.forall_mem_cons.mpr ⟨om120, List.forall_mem_cons.mpr ⟨om121, List.forall_mem_cons.mpr ⟨om122, List.forall_mem_cons.mpr ⟨om123, List.forall_mem_cons.mpr ⟨om124, List.forall_mem_cons.mpr ⟨om125, List.forall_mem_cons.mpr ⟨om126, List.forall_mem_cons.mpr ⟨om127, List.forall_mem_cons.mpr ⟨om128, List.forall_mem_cons.mpr ⟨om129, List.forall_mem_cons.mpr ⟨om130, List.forall_mem_cons.mpr ⟨om131, List.forall_mem_cons.mpr ⟨om132, List.forall_mem_cons.mpr ⟨om133, List.forall_mem_cons.mpr ⟨om134, List.forall_mem_cons.mpr ⟨om135, List.forall_mem_cons.mpr ⟨om136, List.forall_mem_cons.mpr ⟨om137, List.forall_mem_cons.mpr ⟨om138, List.forall_mem_cons.mpr ⟨om139, List.forall_mem_cons.mpr ⟨om140, List.forall_mem_cons.mpr ⟨om141, List.forall_mem_cons.mpr ⟨om142, List.forall_mem_cons.mpr ⟨om143, List.forall_mem_cons.mpr ⟨om144, List.forall_mem_cons.mpr ⟨om145, List.forall_mem_cons.mpr ⟨om146, List.forall_mem_cons.mpr ⟨om147, List.forall_mem_cons.mpr ⟨om148, List.forall_mem_cons.mpr ⟨om149, fun _ h => absurd h List.not_mem_nil⟩⟩⟩⟩⟩⟩⟩⟩⟩⟩⟩⟩⟩⟩⟩⟩⟩⟩⟩⟩⟩⟩⟩⟩⟩⟩⟩⟩⟩⟩
theorem oc5 : ∀ p ∈ ([am150, am151, am152, am153, am154, am155, am156, am157, am158, am159, am160, am161, am162, am163, am164, am165, am166, am167, am168, am169, am170, am171, am172, am173, am174, am175, am176, am177, am178, am179] : AN), ∀ M ∈ p.1, okND ro M := List.forall_mem_cons.mpr ⟨om150, List.forall_mem_cons.mpr ⟨om151, List.forall_mem_cons.mpr ⟨om152, List.forall_mem_cons.mpr ⟨om153, List.forall_mem_cons.mpr ⟨om154, List.forall_mem_cons.mpr ⟨om155, List.forall_mem_cons.mpr ⟨om156, List.forall_mem_cons.mpr ⟨om157, List.forall_mem_cons.mpr ⟨om158, List.forall_mem_cons.mpr ⟨om159, List.forall_mem_cons.mpr ⟨om160, List.forall_mem_cons.mpr ⟨om161, List.forall_mem_cons.mpr ⟨om162, List.forall_mem_cons.mpr ⟨om163, List.forall_mem_cons.mpr ⟨om164, List.forall_mem_cons.mpr ⟨om165, List.forall_mem_cons.mpr ⟨om166, List.forall_mem_cons.mpr ⟨om167, List.forall_mem_cons.mpr ⟨om168, List.forall_mem_cons.mpr ⟨om169, List.forall_mem_cons.mpr ⟨om170, List.forall_mem_cons.mpr ⟨om171, List.forall_mem_cons.mpr ⟨om172, List.forall_mem_cons.mpr ⟨om173, List.forall_mem_cons.mpr ⟨om174, List.forall_mem_cons.mpr ⟨om175, List.forall_mem_cons.mpr ⟨om176, List.forall_mem_cons.mpr ⟨om177, List.forall_mem_cons.mpr ⟨om178, List.forall_mem_cons.mpr ⟨om179, fun _ h => absurd h List.not_mem_nil⟩⟩⟩⟩⟩⟩⟩⟩⟩⟩⟩⟩⟩⟩⟩⟩⟩⟩⟩⟩⟩⟩⟩⟩⟩⟩⟩⟩⟩⟩
theorem oc6 : ∀ p ∈ ([am180, am181, am182, am183, am184, am185, am186, am187, am188, am189, am190, am191, am192, am193, am194, am195, am196, am197, am198, am199, am200, am201, am202, am203, am204, am205, am206, am207, am208, am209] : AN), ∀ M ∈ p.1, okND ro M := List.forall_mem_cons.mpr ⟨om180, List.forall_mem_cons.mpr ⟨om181, List.forall_mem_cons.mpr ⟨om182, List.forall_mem_cons.mpr ⟨om183, List.forall_mem_cons.mpr ⟨om184, List.forall_mem_cons.mpr ⟨om185, List.forall_mem_cons.mpr ⟨om186, List.forall_mem_cons.mpr ⟨om187, List.forall_mem_cons.mpr ⟨om188, List.forall_mem_cons.mpr ⟨om189, List.forall_mem_cons.mpr ⟨om190, List.forall_mem_cons.mpr ⟨om191, List.forall_mem_cons.mpr ⟨om192, List.forall_mem_cons.mpr ⟨om193, List.forall_mem_cons.mpr ⟨om194, List.forall_mem_cons.mpr ⟨om195, List.forall_mem_cons.mpr ⟨om196, List.forall_mem_cons.mpr ⟨om197, List.forall_mem_cons.mpr ⟨om198, List.forall_mem_cons.mpr ⟨om199, List.forall_mem_cons.mpr ⟨om200, List.forall_mem_cons.mpr ⟨om201, List.forall_mem_cons.mpr ⟨om202, List.forall_mem_cons.mpr ⟨om203, List.forall_mem_cons.mpr ⟨om204, List.forall_mem_cons.mpr ⟨om205, List.forall_mem_cons.mpr ⟨om206, List.forall_mem_cons.mpr ⟨om207, List.forall_mem_cons.mpr ⟨om208, List.forall_mem_cons.mpr ⟨om209, fun _ h => absurd h List.not_mem_nil⟩⟩⟩⟩⟩⟩⟩⟩⟩⟩⟩⟩⟩⟩⟩⟩⟩⟩⟩⟩⟩⟩⟩⟩⟩⟩⟩⟩⟩⟩
theorem oc7 : ∀ p ∈ ([am210, am211, am212, am213, am214, am215, am216, am217, am218, am219, am220, am221, am222, am223, am224, am225, am226, am227, am228, am229, am230, am231, am232, am233, am234, am235, am236, am237, am238] : AN), ∀ M ∈ p.1, okND ro M := List.forall_mem_cons.mpr ⟨om210, List.forall_mem_cons.mpr ⟨om211, List.forall_mem_cons.mpr ⟨om212, List.forall_mem_cons.mpr ⟨om213, List.forall_mem_cons.mpr ⟨om214, List.forall_mem_cons.mpr ⟨om215, List.forall_mem_cons.mpr ⟨om216, List.forall_mem_cons.mpr ⟨om217, List.forall_mem_cons.mpr ⟨om218, List.forall_mem_cons.mpr ⟨om219, List.forall_mem_cons.mpr ⟨om220, List.forall_mem_cons.mpr ⟨om221, List.forall_mem_cons.mpr ⟨om222, List.forall_mem_cons.mpr ⟨om223, List.forall_mem_cons.mpr ⟨om224, List.forall_mem_cons.mpr ⟨om225, List.forall_mem_cons.mpr ⟨om226, List.forall_mem_cons.mpr ⟨om227, List.forall_mem_cons.mpr ⟨om228, List.forall_mem_cons.mpr ⟨om229, List.forall_mem_cons.mpr ⟨om230, List.forall_mem_cons.mpr ⟨om231, List.forall_mem_cons.mpr ⟨om232, List.forall_mem_cons.mpr ⟨om233, List.forall_mem_cons.mpr ⟨om234, List.forall_mem_cons.mpr ⟨om235, List.forall_mem_cons.mpr ⟨om236, List.forall_mem_cons.mpr ⟨om237, List.forall_mem_cons.mpr ⟨om238, fun _ h => absurd h List.not_mem_nil⟩⟩⟩⟩⟩⟩⟩⟩⟩⟩⟩⟩⟩⟩⟩⟩⟩⟩⟩⟩⟩⟩⟩⟩⟩⟩⟩⟩⟩
set_option maxRecDepth 100000 in
theorem tA_cut : tA = ([am0, am1, am2, am3, am4, am5, am6, am7, am8, am9, am10, am11, am12, am13, am14, am15, am16, am17, am18, am19, am20, am21, am22, am23, am24, am25, am26, am27, am28, am29] : AN) ++ ([am30, am31, am32, am33, am34, am35, am36, am37, am38, am39, am40, am41, am42, am43, am44, am45, am46, am47, am48, am49, am50, am51, am52, am53, am54, am55, am56, am57, am58, am59] : AN) ++ ([am60, am61, am62, am63, am64, am65, am66, am67, am68, am69, am70, am71, am72, am73, am74, am75, am76, am77, am78, am79, am80, am81, am82, am83, am84, am85, am86, am87, am88, am89] : AN) ++ ([am90, am91, am92, am93, am94, am95, am96, am97, am98, am99, am100, am101, am102, am103, am104, am105, am106, am107, am108, am109, am110, am111, am112, am113, am114, am115, am116, am117, am118, am119] : AN) ++ ([am120, am121, am122, am123, am124, am125, am126, am127, am128, am129, am130, am131, am132, am133, am134, am135, am136, am137, am138, am139, am140, am141, am142, am143, am144, am145, am146, am147, am148, am149] : AN) ++ ([am150, am151, am152, am153, am154, am155, am156, am157, am158, am159, am160, am161, am162, am163, am164, am165, am166, am167, am168, am169, am170, am171, am172, am173, am174, am175, am176, am177, am178, am179] : AN) ++ ([am180, am181, am182, am183, am184, am185, am186, am187, am188, am189, am190, am191, am192, am193, am194, am195, am196, am197, am198, am199, am200, am201, am202, am203, am204, am205, am206, am207, am208, am209] : AN) ++ ([am210, am211, am212, am213, am214, am215, am216, am217, am218, am219, am220, am221, am222, am223, am224, am225, am226, am227, am228, am229, am230, am231, am232, am233, am234, am235, am236, am237, am238] : AN) := rfl
theorem tA_ok : ∀ p ∈ tA, ∀ M ∈ p.1, okND ro M := by rw [tA_cut]; exact List.forall_mem_append.mpr ⟨List.forall_mem_append.mpr ⟨List.forall_mem_append.mpr ⟨List.forall_mem_append.mpr ⟨List.forall_mem_append.mpr ⟨List.forall_mem_append.mpr ⟨List.forall_mem_append.mpr ⟨oc0, oc1⟩, oc2⟩, oc3⟩, oc4⟩, oc5⟩, oc6⟩, oc7⟩
theorem all_NH (h100 : ro 100 = none) : ∀ s k, NH tGam tSets tRoles tMT ro tFty tDfl tA s k := nodes_ok gok (rkk h100) tT_ok tAn_ok 5000 tA_ok
end Asm
end
