section
/-! TABLES: the classes' words -/
theorem wi_int : Cond.arrayClass .int ∈ gw := List.mem_filter.mpr ⟨wMem_spec (by decide +kernel), rfl⟩
theorem wi_bool : Cond.arrayClass .boolean ∈ gw := List.mem_filter.mpr ⟨wMem_spec (by decide +kernel), rfl⟩
theorem wi_oi : Cond.instanceMethod Lib.objectInit ∈ gw := List.mem_filter.mpr ⟨wMem_spec (by decide +kernel), by decide +kernel⟩
theorem wi_ml : Cond.static Lib.Math.max.name ∈ gw := List.mem_filter.mpr ⟨wMem_spec (by decide +kernel), by decide +kernel⟩
theorem wi_mi : Cond.initialized "java/lang/Math" ∈ gw := List.mem_filter.mpr ⟨wMem_spec (by decide +kernel), by decide +kernel⟩
theorem wi_mc : Cond.code Lib.Math.max.name Lib.Math.max.code 2 (some .int) ∈ gw := List.mem_filter.mpr ⟨wMem_spec (by decide +kernel), by decide +kernel⟩
theorem wi_oc : Cond.code Lib.objectInit ⟨#[0xb1]⟩ 1 none ∈ gw := List.mem_filter.mpr ⟨wMem_spec (by decide +kernel), by decide +kernel⟩
/-- the classes' tables hold what they should -/
noncomputable def cB (ci : Nat) : Bool := match tCls[ci]? with
  | some q => (u_ws q.1 q.2.1 q.2.2).all (fun w => wMem w && goodWord w) && (List.range q.2.2).all (fun k => decide (parseFieldDescriptor (q.2.1 k).2.2.1 = some (tFty ci k)) && decide ((tDfl ci)[k]? = some (defaultValue (tFty ci k))) && (List.range q.2.2).all (fun b => decide (k = b) || decide ((q.2.1 k).2.1 ≠ (q.2.1 b).2.1))) && decide ((tDfl ci).length = q.2.2) && wMem (Cond.instantiable q.1 q.2.2) && wMem (Cond.initialized q.1)
  | none => true
theorem cB_0 : cB 0 = true := by decide +kernel
theorem cB_1 : cB 1 = true := by decide +kernel
theorem cB_2 : cB 2 = true := by decide +kernel
theorem cB_3 : cB 3 = true := by decide +kernel
theorem cB_4 : cB 4 = true := by decide +kernel
theorem cB_5 : cB 5 = true := by decide +kernel
theorem cB_6 : cB 6 = true := by decide +kernel
theorem cB_7 : cB 7 = true := by decide +kernel
theorem cB_8 : cB 8 = true := by decide +kernel
theorem cB_9 : cB 9 = true := by decide +kernel
end
section
/-! TABLES: every method is as `sim` asks -/
section Asm
theorem kd_of {mi : Nat} {M : MM} {q : Nat × Nat × Nat × Nat × Nat × Nat} (h0 : 0 < mi) (hM : tMT[mi]? = some M) (hq : tKd[mi]? = some q) : callOK gw M ∧ Cond.initialized M.1.cls ∈ gw ∧ (M.1.cls ≠ "java/lang/invoke/MethodHandle" ∧ M.1.cls ≠ "java/lang/invoke/VarHandle") ∧ (parseMethodDescriptor M.1.desc).map (fun d => d.parameters.length) = some q.2.2.2.2.2 ∧ (q.1 = 0 → Cond.static M.1 ∈ gw) ∧ (q.1 = 1 → Cond.instanceMethod M.1 ∈ gw ∧ Cond.selects M.1.cls M.1 M.1 ∈ gw) ∧ (q.1 = 2 → Cond.instanceMethod M.1 ∈ gw ∧ M.1.name = "<init>" ∧ M.2.2.2.1 = none) := by
  have hlt : mi < 239 := by have := (List.getElem?_eq_some_iff.mp hM).1; rw [tMT_len] at this; exact this
  have h := gK_all h0 hlt
  unfold gK at h
  rw [hM, hq] at h
  simp only [Bool.and_eq_true, decide_eq_true_eq] at h
  obtain ⟨⟨⟨⟨⟨⟨h1, h2⟩, h3⟩, h4⟩, h5⟩, h6⟩, h7⟩ := h
  refine ⟨⟨wIn_spec h1, h2, h3⟩, wIn_spec h4, h5, h6, fun e => ?_, fun e => ?_, fun e => ?_⟩
  · rw [if_pos e] at h7; exact wIn_spec h7
  · rw [if_neg (by omega), if_pos e] at h7
    simp only [Bool.and_eq_true] at h7
    exact ⟨wIn_spec h7.1, wIn_spec h7.2⟩
  · rw [if_neg (by omega), if_neg (by omega)] at h7
    simp only [Bool.and_eq_true, decide_eq_true_eq] at h7
    exact ⟨wIn_spec h7.1, h7.2.1, h7.2.2⟩
theorem eWin_spec {own : String} {E : MI} {k : Nat} {w : Cond} (h : eWin own E k = true) (hw : eW own E = some w) : w ∈ gw := by
  unfold eWin at h
  rw [hw] at h
  exact wIn_spec h
theorem eKd_spec {E : MI} {kd np : Nat} (h : eKd E kd np = true) : ∃ q M, tKd[E.2.2.2.1]? = some q ∧ tMT[E.2.2.2.1]? = some M ∧ 0 < E.2.2.2.1 ∧ E.2.2.2.1 < 9000 ∧ q.1 = kd ∧ q.2.2.2.2.2 = np := by
  unfold eKd at h
  split at h
  · rename_i q hq
    simp only [decide_eq_true_eq] at h
    have hlt : E.2.2.2.1 < tMT.length := by
      have h1 := (List.getElem?_eq_some_iff.mp hq).1
      have h2 : tKd.length = 239 := by decide +kernel
      rw [tMT_len]; omega
    exact ⟨q, tMT[E.2.2.2.1], hq, List.getElem?_eq_getElem hlt, h.1, h.2.1, h.2.2.1, h.2.2.2⟩
  · cases h
theorem eNest_spec {own : String} {E : MI} {idx k : Nat} {M : MM} (h : eNest own E idx k = true) (hM : tMT[E.2.2.2.1]? = some M) : ∃ host, (own, idx, M.1, host) ∈ tNest := by
  unfold eNest at h
  rw [hM] at h
  split at h
  · rename_i q M' hq hM'
    cases hM'
    simp only [decide_eq_true_eq] at h
    obtain ⟨a, b, c, d⟩ := q
    simp only at h
    obtain ⟨rfl, rfl, rfl⟩ := h
    exact ⟨d, List.mem_of_getElem? hq⟩
  · cases h
theorem body_of {M : MM} (hd : dOK M.2.1 M.2.2.1 M.2.2.2.2 = true) (hk : kAll M.1.cls M.1.name M.2.2.2.2) : bodyOK tCls tFty tMT gw tStr tNest M := by
  intro E hE
  have h1 := List.all_eq_true.mp hd E hE
  simp only [Bool.and_eq_true, decide_eq_true_eq, Bool.or_eq_true, beq_iff_eq] at h1
  obtain ⟨⟨g1, g2⟩, g3⟩ := h1
  obtain ⟨k, hb⟩ := hk E hE
  obtain ⟨pc, i, len, a, b, z⟩ := E
  unfold eB at hb
  simp only at hb g1 g2 g3
  refine ⟨⟨g1, g2, g3, ?_, ?_, ?_, ?_⟩, ?_⟩
  · intro idx he
    simp only at he
    subst he
    simp only [Bool.and_eq_true] at hb
    obtain ⟨hb1, hb2⟩ := hb
    unfold fldOK
    simp only
    split at hb2
    · rename_i h99
      simp only [decide_eq_true_eq] at hb2
      refine Or.inr ⟨h99, ?_⟩
      rcases (show b = 0 ∨ b = 1 by omega) with rfl | rfl
      · exact Or.inl ⟨rfl, eWin_spec hb1 (by unfold eW; simp only [if_pos h99, if_true])⟩
      · exact Or.inr ⟨rfl, eWin_spec hb1 (by unfold eW; simp only [if_pos h99]; rfl)⟩
    · rename_i h99
      split at hb2
      · rename_i q hq
        simp only [decide_eq_true_eq] at hb2
        obtain ⟨C, T, N⟩ := q
        exact Or.inl ⟨C, T, N, hq, hb2, eWin_spec hb1 (by unfold eW; simp only [if_neg h99, hq]; rfl)⟩
      · cases hb2
  · intro idx he
    simp only at he
    subst he
    simp only [Bool.and_eq_true] at hb
    obtain ⟨hb1, hb2⟩ := hb
    split at hb2
    · rename_i q hq
      simp only [Bool.and_eq_true, decide_eq_true_eq, Bool.or_eq_true, Bool.not_eq_true'] at hb2
      obtain ⟨C, T, N⟩ := q
      refine ⟨Or.inl ⟨C, T, N, hq, hb2.1, eWin_spec hb1 (by unfold eW; simp only [hq]; rfl)⟩, fun C' T' N' hq' => ?_⟩
      simp only at hq' ⊢
      cases hq.symm.trans hq'
      cases hf : (T b).2.2.2 with
      | false => exact Or.inl rfl
      | true =>
        rcases hb2.2 with q | q
        · rw [hf] at q; cases q
        · exact Or.inr ⟨rfl, q⟩
    · cases hb2
  · unfold newOK
    simp only
    split
    · simp only at hb
      cases hq : tCls[a]? with
      | none => unfold eWin eW at hb; simp only [hq] at hb; cases hb
      | some q => exact ⟨q, rfl, eWin_spec hb (by unfold eW; simp only [hq]; rfl)⟩
    · exact ⟨wi_int, wi_bool⟩
    · simp only at hb
      rename_i idx
      by_cases h3 : a = 3
      · exact Or.inl ⟨h3, eWin_spec hb (by unfold eW; simp only [if_pos h3])⟩
      by_cases h4 : a = 4
      · exact Or.inr (Or.inl ⟨h4, eWin_spec hb (by unfold eW; simp only [if_neg h3, if_pos h4])⟩)
      by_cases h5 : a = 5
      · exact Or.inr (Or.inr (Or.inl ⟨h5, eWin_spec hb (by unfold eW; simp only [if_neg h3, if_neg h4, if_pos h5])⟩))
      by_cases h6 : a = 6
      · exact Or.inr (Or.inr (Or.inr ⟨h6, eWin_spec hb (by unfold eW; simp only [if_neg h3, if_neg h4, if_neg h5, if_pos h6])⟩))
      · unfold eWin eW at hb
        simp only [if_neg h3, if_neg h4, if_neg h5, if_neg h6] at hb
        cases hb
    · simp only at hb
      split at hb
      · rename_i q hq
        simp only [decide_eq_true_eq] at hb
        exact ⟨q, hq, hb⟩
      · cases hb
    · trivial
  · unfold cstOK
    simp only
    split
    · rename_i idx
      simp only at hb
      split at hb
      · rename_i h0
        exact Or.inl ⟨h0, eWin_spec hb rfl⟩
      · rename_i h0
        simp only [Bool.and_eq_true, decide_eq_true_eq] at hb
        exact Or.inr ⟨h0, hb.1, List.mem_of_getElem? hb.2⟩
    · exact eWin_spec hb rfl
    · exact eWin_spec hb rfl
    · rename_i idx
      simp only [Bool.and_eq_true] at hb
      obtain ⟨hb1, hb2⟩ := hb
      split at hb2
      · rename_i h0
        exact Or.inl ⟨h0, by simpa using hb2, eWin_spec hb1 (by unfold eW; simp only [if_pos h0])⟩
      · rename_i h0
        exact Or.inr ⟨h0, by simpa using hb2, eWin_spec hb1 (by unfold eW; simp only [if_neg h0])⟩
    · trivial
  · unfold invOK
    simp only
    split
    · rename_i idx
      simp only at hb
      split at hb
      · rename_i h98
        simp only [Bool.and_eq_true, decide_eq_true_eq] at hb
        exact ⟨by omega, Or.inl ⟨h98, hb.1, eWin_spec hb.2 (by unfold eW; simp only [if_pos h98]), wi_ml, wi_mi, wi_mc⟩⟩
      · rename_i h98
        simp only [Bool.and_eq_true] at hb
        obtain ⟨q, Mc, k1, k2, k3, k4, k5, k6⟩ := eKd_spec hb.1
        simp only at k1 k2 k3 k4
        obtain ⟨-, e2, e3, e4, e5, -, -⟩ := kd_of k3 k2 k1
        refine ⟨by omega, Or.inr ⟨Mc, k2, ?_, e5 k5, e2, e3.1, e3.2, by rw [e4, k6]⟩⟩
        have hb2 := hb.2
        split at hb2
        · exact Or.inl (eWin_spec hb2 (by unfold eW; simp only [if_neg h98, k2]; rfl))
        · exact Or.inr (eNest_spec hb2 k2)
    · rename_i idx
      simp only at hb
      split at hb
      · rename_i h99
        simp only [Bool.and_eq_true, decide_eq_true_eq] at hb
        exact Or.inl ⟨h99, hb.1, eWin_spec hb.2 (by unfold eW; simp only [if_pos h99]), wi_oi, wi_oc⟩
      · rename_i h99
        simp only [Bool.and_eq_true] at hb
        obtain ⟨q, Mc, k1, k2, k3, k4, k5, k6⟩ := eKd_spec hb.1
        simp only at k1 k2 k3 k4
        obtain ⟨-, e2, e3, e4, -, -, e7⟩ := kd_of k3 k2 k1
        obtain ⟨e8, e9, e10⟩ := e7 k5
        refine Or.inr ⟨by omega, Mc, k2, e10, e9, ?_, e8, e2, e3.1, e3.2, by rw [e4, k6]⟩
        have hb2 := hb.2
        split at hb2
        · exact Or.inl (eWin_spec hb2 (by unfold eW; simp only [if_neg h99, k2]; rfl))
        · exact Or.inr (eNest_spec hb2 k2)
    · rename_i idx
      simp only [Bool.and_eq_true] at hb
      obtain ⟨⟨hb1, hb2⟩, hb3⟩ := hb
      obtain ⟨q, Mc, k1, k2, k3, k4, k5, k6⟩ := eKd_spec hb1
      simp only at k1 k2 k3 k4
      obtain ⟨-, e2, e3, e4, -, e6, -⟩ := kd_of k3 k2 k1
      obtain ⟨e7, e8⟩ := e6 k5
      refine ⟨by omega, Mc, k2, eWin_spec hb2 (by unfold eW; simp only [k2]; rfl), e7, e8, e2, e3.1, e3.2, by rw [e4, k6], ?_⟩
      unfold eCl at hb3
      simp only [k2, Bool.or_eq_true, decide_eq_true_eq, Bool.and_eq_true] at hb3
      rcases hb3 with hb3 | ⟨hb4, hb5⟩
      · exact Or.inr hb3
      · split at hb5
        · rename_i qq hqq
          simp only [decide_eq_true_eq] at hb5
          exact Or.inl ⟨z.toNat, qq, by omega, hqq, hb5⟩
        · cases hb5
    · trivial

theorem bo0 : bodyOK tCls tFty tMT gw tStr tNest cM0 := body_of dk0 lk0
theorem bo1 : bodyOK tCls tFty tMT gw tStr tNest cM1 := body_of dk1 lk1
theorem bo2 : bodyOK tCls tFty tMT gw tStr tNest cM2 := body_of dk2 lk2
theorem bo3 : bodyOK tCls tFty tMT gw tStr tNest cM3 := body_of dk3 lk3
theorem bo4 : bodyOK tCls tFty tMT gw tStr tNest cM4 := body_of dk4 lk4
theorem bo5 : bodyOK tCls tFty tMT gw tStr tNest cM5 := body_of dk5 lk5
theorem bo6 : bodyOK tCls tFty tMT gw tStr tNest cM6 := body_of dk6 lk6
theorem bo7 : bodyOK tCls tFty tMT gw tStr tNest cM7 := body_of dk7 lk7
theorem bo8 : bodyOK tCls tFty tMT gw tStr tNest cM8 := body_of dk8 lk8
theorem bo9 : bodyOK tCls tFty tMT gw tStr tNest cM9 := body_of dk9 lk9
theorem bo10 : bodyOK tCls tFty tMT gw tStr tNest cM10 := body_of dk10 lk10
theorem bo11 : bodyOK tCls tFty tMT gw tStr tNest cM11 := body_of dk11 lk11
theorem bo12 : bodyOK tCls tFty tMT gw tStr tNest cM12 := body_of dk12 lk12
theorem bo13 : bodyOK tCls tFty tMT gw tStr tNest cM13 := body_of dk13 lk13
theorem bo14 : bodyOK tCls tFty tMT gw tStr tNest cM14 := body_of dk14 lk14
theorem bo15 : bodyOK tCls tFty tMT gw tStr tNest cM15 := body_of dk15 lk15
theorem bo16 : bodyOK tCls tFty tMT gw tStr tNest cM16 := body_of dk16 lk16
theorem bo17 : bodyOK tCls tFty tMT gw tStr tNest cM17 := body_of dk17 lk17
theorem bo18 : bodyOK tCls tFty tMT gw tStr tNest cM18 := body_of dk18 lk18
theorem bo19 : bodyOK tCls tFty tMT gw tStr tNest cM19 := body_of dk19 lk19
theorem bo20 : bodyOK tCls tFty tMT gw tStr tNest cM20 := body_of dk20 lk20
theorem bo21 : bodyOK tCls tFty tMT gw tStr tNest cM21 := body_of dk21 lk21
theorem bo22 : bodyOK tCls tFty tMT gw tStr tNest cM22 := body_of dk22 lk22
theorem bo23 : bodyOK tCls tFty tMT gw tStr tNest cM23 := body_of dk23 lk23
theorem bo24 : bodyOK tCls tFty tMT gw tStr tNest cM24 := body_of dk24 lk24
theorem bo25 : bodyOK tCls tFty tMT gw tStr tNest cM25 := body_of dk25 lk25
theorem bo26 : bodyOK tCls tFty tMT gw tStr tNest cM26 := body_of dk26 lk26
theorem bo27 : bodyOK tCls tFty tMT gw tStr tNest cM27 := body_of dk27 lk27
theorem bo28 : bodyOK tCls tFty tMT gw tStr tNest cM28 := body_of dk28 lk28
theorem bo29 : bodyOK tCls tFty tMT gw tStr tNest cM29 := body_of dk29 lk29
theorem bo30 : bodyOK tCls tFty tMT gw tStr tNest cM30 := body_of dk30 lk30
theorem bo31 : bodyOK tCls tFty tMT gw tStr tNest cM31 := body_of dk31 lk31
theorem bo32 : bodyOK tCls tFty tMT gw tStr tNest cM32 := body_of dk32 lk32
theorem bo33 : bodyOK tCls tFty tMT gw tStr tNest cM33 := body_of dk33 lk33
theorem bo34 : bodyOK tCls tFty tMT gw tStr tNest cM34 := body_of dk34 lk34
theorem bo35 : bodyOK tCls tFty tMT gw tStr tNest cM35 := body_of dk35 lk35
theorem bo36 : bodyOK tCls tFty tMT gw tStr tNest cM36 := body_of dk36 lk36
theorem bo37 : bodyOK tCls tFty tMT gw tStr tNest cM37 := body_of dk37 lk37
theorem bo38 : bodyOK tCls tFty tMT gw tStr tNest cM38 := body_of dk38 lk38
theorem bo39 : bodyOK tCls tFty tMT gw tStr tNest cM39 := body_of dk39 lk39
theorem bo40 : bodyOK tCls tFty tMT gw tStr tNest cM40 := body_of dk40 lk40
theorem bo41 : bodyOK tCls tFty tMT gw tStr tNest cM41 := body_of dk41 lk41
theorem bo42 : bodyOK tCls tFty tMT gw tStr tNest cM42 := body_of dk42 lk42
theorem bo43 : bodyOK tCls tFty tMT gw tStr tNest cM43 := body_of dk43 lk43
theorem bo44 : bodyOK tCls tFty tMT gw tStr tNest cM44 := body_of dk44 lk44
theorem bo45 : bodyOK tCls tFty tMT gw tStr tNest cM45 := body_of dk45 lk45
theorem bo46 : bodyOK tCls tFty tMT gw tStr tNest cM46 := body_of dk46 lk46
theorem bo47 : bodyOK tCls tFty tMT gw tStr tNest cM47 := body_of dk47 lk47
theorem bo48 : bodyOK tCls tFty tMT gw tStr tNest cM48 := body_of dk48 lk48
theorem bo49 : bodyOK tCls tFty tMT gw tStr tNest cM49 := body_of dk49 lk49
theorem bo50 : bodyOK tCls tFty tMT gw tStr tNest cM50 := body_of dk50 lk50
theorem bo51 : bodyOK tCls tFty tMT gw tStr tNest cM51 := body_of dk51 lk51
theorem bo52 : bodyOK tCls tFty tMT gw tStr tNest cM52 := body_of dk52 lk52
theorem bo53 : bodyOK tCls tFty tMT gw tStr tNest cM53 := body_of dk53 lk53
theorem bo54 : bodyOK tCls tFty tMT gw tStr tNest cM54 := body_of dk54 lk54
theorem bo55 : bodyOK tCls tFty tMT gw tStr tNest cM55 := body_of dk55 lk55
theorem bo56 : bodyOK tCls tFty tMT gw tStr tNest cM56 := body_of dk56 lk56
theorem bo57 : bodyOK tCls tFty tMT gw tStr tNest cM57 := body_of dk57 lk57
theorem bo58 : bodyOK tCls tFty tMT gw tStr tNest cM58 := body_of dk58 lk58
theorem bo59 : bodyOK tCls tFty tMT gw tStr tNest cM59 := body_of dk59 lk59
theorem bo60 : bodyOK tCls tFty tMT gw tStr tNest cM60 := body_of dk60 lk60
theorem bo61 : bodyOK tCls tFty tMT gw tStr tNest cM61 := body_of dk61 lk61
theorem bo62 : bodyOK tCls tFty tMT gw tStr tNest cM62 := body_of dk62 lk62
theorem bo63 : bodyOK tCls tFty tMT gw tStr tNest cM63 := body_of dk63 lk63
theorem bo64 : bodyOK tCls tFty tMT gw tStr tNest cM64 := body_of dk64 lk64
theorem bo65 : bodyOK tCls tFty tMT gw tStr tNest cM65 := body_of dk65 lk65
theorem bo66 : bodyOK tCls tFty tMT gw tStr tNest cM66 := body_of dk66 lk66
theorem bo67 : bodyOK tCls tFty tMT gw tStr tNest cM67 := body_of dk67 lk67
theorem bo68 : bodyOK tCls tFty tMT gw tStr tNest cM68 := body_of dk68 lk68
theorem bo69 : bodyOK tCls tFty tMT gw tStr tNest cM69 := body_of dk69 lk69
theorem bo70 : bodyOK tCls tFty tMT gw tStr tNest cM70 := body_of dk70 lk70
theorem bo71 : bodyOK tCls tFty tMT gw tStr tNest cM71 := body_of dk71 lk71
theorem bo72 : bodyOK tCls tFty tMT gw tStr tNest cM72 := body_of dk72 lk72
theorem bo73 : bodyOK tCls tFty tMT gw tStr tNest cM73 := body_of dk73 lk73
theorem bo74 : bodyOK tCls tFty tMT gw tStr tNest cM74 := body_of dk74 lk74
theorem bo75 : bodyOK tCls tFty tMT gw tStr tNest cM75 := body_of dk75 lk75
theorem bo76 : bodyOK tCls tFty tMT gw tStr tNest cM76 := body_of dk76 lk76
theorem bo77 : bodyOK tCls tFty tMT gw tStr tNest cM77 := body_of dk77 lk77
theorem bo78 : bodyOK tCls tFty tMT gw tStr tNest cM78 := body_of dk78 lk78
theorem bo79 : bodyOK tCls tFty tMT gw tStr tNest cM79 := body_of dk79 lk79
theorem bo80 : bodyOK tCls tFty tMT gw tStr tNest cM80 := body_of dk80 lk80
theorem bo81 : bodyOK tCls tFty tMT gw tStr tNest cM81 := body_of dk81 lk81
theorem bo82 : bodyOK tCls tFty tMT gw tStr tNest cM82 := body_of dk82 lk82
theorem bo83 : bodyOK tCls tFty tMT gw tStr tNest cM83 := body_of dk83 lk83
theorem bo84 : bodyOK tCls tFty tMT gw tStr tNest cM84 := body_of dk84 lk84
theorem bo85 : bodyOK tCls tFty tMT gw tStr tNest cM85 := body_of dk85 lk85
theorem bo86 : bodyOK tCls tFty tMT gw tStr tNest cM86 := body_of dk86 lk86
theorem bo87 : bodyOK tCls tFty tMT gw tStr tNest cM87 := body_of dk87 lk87
theorem bo88 : bodyOK tCls tFty tMT gw tStr tNest cM88 := body_of dk88 lk88
theorem bo89 : bodyOK tCls tFty tMT gw tStr tNest cM89 := body_of dk89 lk89
theorem bo90 : bodyOK tCls tFty tMT gw tStr tNest cM90 := body_of dk90 lk90
theorem bo91 : bodyOK tCls tFty tMT gw tStr tNest cM91 := body_of dk91 lk91
theorem bo92 : bodyOK tCls tFty tMT gw tStr tNest cM92 := body_of dk92 lk92
theorem bo93 : bodyOK tCls tFty tMT gw tStr tNest cM93 := body_of dk93 lk93
theorem bo94 : bodyOK tCls tFty tMT gw tStr tNest cM94 := body_of dk94 lk94
theorem bo95 : bodyOK tCls tFty tMT gw tStr tNest cM95 := body_of dk95 lk95
theorem bo96 : bodyOK tCls tFty tMT gw tStr tNest cM96 := body_of dk96 lk96
theorem bo97 : bodyOK tCls tFty tMT gw tStr tNest cM97 := body_of dk97 lk97
theorem bo98 : bodyOK tCls tFty tMT gw tStr tNest cM98 := body_of dk98 lk98
theorem bo99 : bodyOK tCls tFty tMT gw tStr tNest cM99 := body_of dk99 lk99
theorem bo100 : bodyOK tCls tFty tMT gw tStr tNest cM100 := body_of dk100 lk100
theorem bo101 : bodyOK tCls tFty tMT gw tStr tNest cM101 := body_of dk101 lk101
theorem bo102 : bodyOK tCls tFty tMT gw tStr tNest cM102 := body_of dk102 lk102
theorem bo103 : bodyOK tCls tFty tMT gw tStr tNest cM103 := body_of dk103 lk103
theorem bo104 : bodyOK tCls tFty tMT gw tStr tNest cM104 := body_of dk104 lk104
theorem bo105 : bodyOK tCls tFty tMT gw tStr tNest cM105 := body_of dk105 lk105
theorem bo106 : bodyOK tCls tFty tMT gw tStr tNest cM106 := body_of dk106 lk106
theorem bo107 : bodyOK tCls tFty tMT gw tStr tNest cM107 := body_of dk107 lk107
theorem bo108 : bodyOK tCls tFty tMT gw tStr tNest cM108 := body_of dk108 lk108
theorem bo109 : bodyOK tCls tFty tMT gw tStr tNest cM109 := body_of dk109 lk109
theorem bo110 : bodyOK tCls tFty tMT gw tStr tNest cM110 := body_of dk110 lk110
theorem bo111 : bodyOK tCls tFty tMT gw tStr tNest cM111 := body_of dk111 lk111
theorem bo112 : bodyOK tCls tFty tMT gw tStr tNest cM112 := body_of dk112 lk112
theorem bo113 : bodyOK tCls tFty tMT gw tStr tNest cM113 := body_of dk113 lk113
theorem bo114 : bodyOK tCls tFty tMT gw tStr tNest cM114 := body_of dk114 lk114
theorem bo115 : bodyOK tCls tFty tMT gw tStr tNest cM115 := body_of dk115 lk115
theorem bo116 : bodyOK tCls tFty tMT gw tStr tNest cM116 := body_of dk116 lk116
theorem bo117 : bodyOK tCls tFty tMT gw tStr tNest cM117 := body_of dk117 lk117
theorem bo118 : bodyOK tCls tFty tMT gw tStr tNest cM118 := body_of dk118 lk118
theorem bo119 : bodyOK tCls tFty tMT gw tStr tNest cM119 := body_of dk119 lk119
theorem bo120 : bodyOK tCls tFty tMT gw tStr tNest cM120 := body_of dk120 lk120
theorem bo121 : bodyOK tCls tFty tMT gw tStr tNest cM121 := body_of dk121 lk121
theorem bo122 : bodyOK tCls tFty tMT gw tStr tNest cM122 := body_of dk122 lk122
theorem bo123 : bodyOK tCls tFty tMT gw tStr tNest cM123 := body_of dk123 lk123
theorem bo124 : bodyOK tCls tFty tMT gw tStr tNest cM124 := body_of dk124 lk124
theorem bo125 : bodyOK tCls tFty tMT gw tStr tNest cM125 := body_of dk125 lk125
theorem bo126 : bodyOK tCls tFty tMT gw tStr tNest cM126 := body_of dk126 lk126
theorem bo127 : bodyOK tCls tFty tMT gw tStr tNest cM127 := body_of dk127 lk127
theorem bo128 : bodyOK tCls tFty tMT gw tStr tNest cM128 := body_of dk128 lk128
theorem bo129 : bodyOK tCls tFty tMT gw tStr tNest cM129 := body_of dk129 lk129
theorem bo130 : bodyOK tCls tFty tMT gw tStr tNest cM130 := body_of dk130 lk130
theorem bo131 : bodyOK tCls tFty tMT gw tStr tNest cM131 := body_of dk131 lk131
theorem bo132 : bodyOK tCls tFty tMT gw tStr tNest cM132 := body_of dk132 lk132
theorem bo133 : bodyOK tCls tFty tMT gw tStr tNest cM133 := body_of dk133 lk133
theorem bo134 : bodyOK tCls tFty tMT gw tStr tNest cM134 := body_of dk134 lk134
theorem bo135 : bodyOK tCls tFty tMT gw tStr tNest cM135 := body_of dk135 lk135
theorem bo136 : bodyOK tCls tFty tMT gw tStr tNest cM136 := body_of dk136 lk136
theorem bo137 : bodyOK tCls tFty tMT gw tStr tNest cM137 := body_of dk137 lk137
theorem bo138 : bodyOK tCls tFty tMT gw tStr tNest cM138 := body_of dk138 lk138
theorem bo139 : bodyOK tCls tFty tMT gw tStr tNest cM139 := body_of dk139 lk139
theorem bo140 : bodyOK tCls tFty tMT gw tStr tNest cM140 := body_of dk140 lk140
theorem bo141 : bodyOK tCls tFty tMT gw tStr tNest cM141 := body_of dk141 lk141
theorem bo142 : bodyOK tCls tFty tMT gw tStr tNest cM142 := body_of dk142 lk142
theorem bo143 : bodyOK tCls tFty tMT gw tStr tNest cM143 := body_of dk143 lk143
theorem bo144 : bodyOK tCls tFty tMT gw tStr tNest cM144 := body_of dk144 lk144
theorem bo145 : bodyOK tCls tFty tMT gw tStr tNest cM145 := body_of dk145 lk145
theorem bo146 : bodyOK tCls tFty tMT gw tStr tNest cM146 := body_of dk146 lk146
theorem bo147 : bodyOK tCls tFty tMT gw tStr tNest cM147 := body_of dk147 lk147
theorem bo148 : bodyOK tCls tFty tMT gw tStr tNest cM148 := body_of dk148 lk148
theorem bo149 : bodyOK tCls tFty tMT gw tStr tNest cM149 := body_of dk149 lk149
theorem bo150 : bodyOK tCls tFty tMT gw tStr tNest cM150 := body_of dk150 lk150
theorem bo151 : bodyOK tCls tFty tMT gw tStr tNest cM151 := body_of dk151 lk151
theorem bo152 : bodyOK tCls tFty tMT gw tStr tNest cM152 := body_of dk152 lk152
theorem bo153 : bodyOK tCls tFty tMT gw tStr tNest cM153 := body_of dk153 lk153
theorem bo154 : bodyOK tCls tFty tMT gw tStr tNest cM154 := body_of dk154 lk154
theorem bo155 : bodyOK tCls tFty tMT gw tStr tNest cM155 := body_of dk155 lk155
theorem bo156 : bodyOK tCls tFty tMT gw tStr tNest cM156 := body_of dk156 lk156
theorem bo157 : bodyOK tCls tFty tMT gw tStr tNest cM157 := body_of dk157 lk157
theorem bo158 : bodyOK tCls tFty tMT gw tStr tNest cM158 := body_of dk158 lk158
theorem bo159 : bodyOK tCls tFty tMT gw tStr tNest cM159 := body_of dk159 lk159
theorem bo160 : bodyOK tCls tFty tMT gw tStr tNest cM160 := body_of dk160 lk160
theorem bo161 : bodyOK tCls tFty tMT gw tStr tNest cM161 := body_of dk161 lk161
theorem bo162 : bodyOK tCls tFty tMT gw tStr tNest cM162 := body_of dk162 lk162
theorem bo163 : bodyOK tCls tFty tMT gw tStr tNest cM163 := body_of dk163 lk163
theorem bo164 : bodyOK tCls tFty tMT gw tStr tNest cM164 := body_of dk164 lk164
theorem bo165 : bodyOK tCls tFty tMT gw tStr tNest cM165 := body_of dk165 lk165
theorem bo166 : bodyOK tCls tFty tMT gw tStr tNest cM166 := body_of dk166 lk166
theorem bo167 : bodyOK tCls tFty tMT gw tStr tNest cM167 := body_of dk167 lk167
theorem bo168 : bodyOK tCls tFty tMT gw tStr tNest cM168 := body_of dk168 lk168
theorem bo169 : bodyOK tCls tFty tMT gw tStr tNest cM169 := body_of dk169 lk169
theorem bo170 : bodyOK tCls tFty tMT gw tStr tNest cM170 := body_of dk170 lk170
theorem bo171 : bodyOK tCls tFty tMT gw tStr tNest cM171 := body_of dk171 lk171
theorem bo172 : bodyOK tCls tFty tMT gw tStr tNest cM172 := body_of dk172 lk172
theorem bo173 : bodyOK tCls tFty tMT gw tStr tNest cM173 := body_of dk173 lk173
theorem bo174 : bodyOK tCls tFty tMT gw tStr tNest cM174 := body_of dk174 lk174
theorem bo175 : bodyOK tCls tFty tMT gw tStr tNest cM175 := body_of dk175 lk175
theorem bo176 : bodyOK tCls tFty tMT gw tStr tNest cM176 := body_of dk176 lk176
theorem bo177 : bodyOK tCls tFty tMT gw tStr tNest cM177 := body_of dk177 lk177
theorem bo178 : bodyOK tCls tFty tMT gw tStr tNest cM178 := body_of dk178 lk178
theorem bo179 : bodyOK tCls tFty tMT gw tStr tNest cM179 := body_of dk179 lk179
theorem bo180 : bodyOK tCls tFty tMT gw tStr tNest cM180 := body_of dk180 lk180
theorem bo181 : bodyOK tCls tFty tMT gw tStr tNest cM181 := body_of dk181 lk181
theorem bo182 : bodyOK tCls tFty tMT gw tStr tNest cM182 := body_of dk182 lk182
theorem bo183 : bodyOK tCls tFty tMT gw tStr tNest cM183 := body_of dk183 lk183
theorem bo184 : bodyOK tCls tFty tMT gw tStr tNest cM184 := body_of dk184 lk184
theorem bo185 : bodyOK tCls tFty tMT gw tStr tNest cM185 := body_of dk185 lk185
theorem bo186 : bodyOK tCls tFty tMT gw tStr tNest cM186 := body_of dk186 lk186
theorem bo187 : bodyOK tCls tFty tMT gw tStr tNest cM187 := body_of dk187 lk187
theorem bo188 : bodyOK tCls tFty tMT gw tStr tNest cM188 := body_of dk188 lk188
theorem bo189 : bodyOK tCls tFty tMT gw tStr tNest cM189 := body_of dk189 lk189
theorem bo190 : bodyOK tCls tFty tMT gw tStr tNest cM190 := body_of dk190 lk190
theorem bo191 : bodyOK tCls tFty tMT gw tStr tNest cM191 := body_of dk191 lk191
theorem bo192 : bodyOK tCls tFty tMT gw tStr tNest cM192 := body_of dk192 lk192
theorem bo193 : bodyOK tCls tFty tMT gw tStr tNest cM193 := body_of dk193 lk193
theorem bo194 : bodyOK tCls tFty tMT gw tStr tNest cM194 := body_of dk194 lk194
theorem bo195 : bodyOK tCls tFty tMT gw tStr tNest cM195 := body_of dk195 lk195
theorem bo196 : bodyOK tCls tFty tMT gw tStr tNest cM196 := body_of dk196 lk196
theorem bo197 : bodyOK tCls tFty tMT gw tStr tNest cM197 := body_of dk197 lk197
theorem bo198 : bodyOK tCls tFty tMT gw tStr tNest cM198 := body_of dk198 lk198
theorem bo199 : bodyOK tCls tFty tMT gw tStr tNest cM199 := body_of dk199 lk199
theorem bo200 : bodyOK tCls tFty tMT gw tStr tNest cM200 := body_of dk200 lk200
theorem bo201 : bodyOK tCls tFty tMT gw tStr tNest cM201 := body_of dk201 lk201
theorem bo202 : bodyOK tCls tFty tMT gw tStr tNest cM202 := body_of dk202 lk202
theorem bo203 : bodyOK tCls tFty tMT gw tStr tNest cM203 := body_of dk203 lk203
theorem bo204 : bodyOK tCls tFty tMT gw tStr tNest cM204 := body_of dk204 lk204
theorem bo205 : bodyOK tCls tFty tMT gw tStr tNest cM205 := body_of dk205 lk205
theorem bo206 : bodyOK tCls tFty tMT gw tStr tNest cM206 := body_of dk206 lk206
theorem bo207 : bodyOK tCls tFty tMT gw tStr tNest cM207 := body_of dk207 lk207
theorem bo208 : bodyOK tCls tFty tMT gw tStr tNest cM208 := body_of dk208 lk208
theorem bo209 : bodyOK tCls tFty tMT gw tStr tNest cM209 := body_of dk209 lk209
theorem bo210 : bodyOK tCls tFty tMT gw tStr tNest cM210 := body_of dk210 lk210
theorem bo211 : bodyOK tCls tFty tMT gw tStr tNest cM211 := body_of dk211 lk211
theorem bo212 : bodyOK tCls tFty tMT gw tStr tNest cM212 := body_of dk212 lk212
theorem bo213 : bodyOK tCls tFty tMT gw tStr tNest cM213 := body_of dk213 lk213
theorem bo214 : bodyOK tCls tFty tMT gw tStr tNest cM214 := body_of dk214 lk214
theorem bo215 : bodyOK tCls tFty tMT gw tStr tNest cM215 := body_of dk215 lk215
theorem bo216 : bodyOK tCls tFty tMT gw tStr tNest cM216 := body_of dk216 lk216
theorem bo217 : bodyOK tCls tFty tMT gw tStr tNest cM217 := body_of dk217 lk217
theorem bo218 : bodyOK tCls tFty tMT gw tStr tNest cM218 := body_of dk218 lk218
theorem bo219 : bodyOK tCls tFty tMT gw tStr tNest cM219 := body_of dk219 lk219
theorem bo220 : bodyOK tCls tFty tMT gw tStr tNest cM220 := body_of dk220 lk220
theorem bo221 : bodyOK tCls tFty tMT gw tStr tNest cM221 := body_of dk221 lk221
theorem bo222 : bodyOK tCls tFty tMT gw tStr tNest cM222 := body_of dk222 lk222
theorem bo223 : bodyOK tCls tFty tMT gw tStr tNest cM223 := body_of dk223 lk223
theorem bo224 : bodyOK tCls tFty tMT gw tStr tNest cM224 := body_of dk224 lk224
theorem bo225 : bodyOK tCls tFty tMT gw tStr tNest cM225 := body_of dk225 lk225
theorem bo226 : bodyOK tCls tFty tMT gw tStr tNest cM226 := body_of dk226 lk226
theorem bo227 : bodyOK tCls tFty tMT gw tStr tNest cM227 := body_of dk227 lk227
theorem bo228 : bodyOK tCls tFty tMT gw tStr tNest cM228 := body_of dk228 lk228
theorem bo229 : bodyOK tCls tFty tMT gw tStr tNest cM229 := body_of dk229 lk229
theorem bo230 : bodyOK tCls tFty tMT gw tStr tNest cM230 := body_of dk230 lk230
theorem bo231 : bodyOK tCls tFty tMT gw tStr tNest cM231 := body_of dk231 lk231
theorem bo232 : bodyOK tCls tFty tMT gw tStr tNest cM232 := body_of dk232 lk232
theorem bo233 : bodyOK tCls tFty tMT gw tStr tNest cM233 := body_of dk233 lk233
theorem bo234 : bodyOK tCls tFty tMT gw tStr tNest cM234 := body_of dk234 lk234
theorem bo235 : bodyOK tCls tFty tMT gw tStr tNest cM235 := body_of dk235 lk235
theorem bo236 : bodyOK tCls tFty tMT gw tStr tNest cM236 := body_of dk236 lk236
theorem bo237 : bodyOK tCls tFty tMT gw tStr tNest cM237 := body_of dk237 lk237
theorem bo238 : bodyOK tCls tFty tMT gw tStr tNest cM238 := body_of dk238 lk238
theorem bs0 : ∀ M ∈ ([cM0, cM1, cM2, cM3, cM4, cM5, cM6, cM7, cM8, cM9, cM10, cM11, cM12, cM13, cM14, cM15, cM16, cM17, cM18, cM19] : List MM), bodyOK tCls tFty tMT gw tStr tNest M := List.forall_mem_cons.mpr ⟨bo0, List.forall_mem_cons.mpr ⟨bo1, List.forall_mem_cons.mpr ⟨bo2, List.forall_mem_cons.mpr ⟨bo3, List.forall_mem_cons.mpr ⟨bo4, List.forall_mem_cons.mpr ⟨bo5, List.forall_mem_cons.mpr ⟨bo6, List.forall_mem_cons.mpr ⟨bo7, List.forall_mem_cons.mpr ⟨bo8, List.forall_mem_cons.mpr ⟨bo9, List.forall_mem_cons.mpr ⟨bo10, List.forall_mem_cons.mpr ⟨bo11, List.forall_mem_cons.mpr ⟨bo12, List.forall_mem_cons.mpr ⟨bo13, List.forall_mem_cons.mpr ⟨bo14, List.forall_mem_cons.mpr ⟨bo15, List.forall_mem_cons.mpr ⟨bo16, List.forall_mem_cons.mpr ⟨bo17, List.forall_mem_cons.mpr ⟨bo18, List.forall_mem_cons.mpr ⟨bo19, fun _ h => absurd h List.not_mem_nil⟩⟩⟩⟩⟩⟩⟩⟩⟩⟩⟩⟩⟩⟩⟩⟩⟩⟩⟩⟩
theorem bs1 : ∀ M ∈ ([cM20, cM21, cM22, cM23, cM24, cM25, cM26, cM27, cM28, cM29, cM30, cM31, cM32, cM33, cM34, cM35, cM36, cM37, cM38, cM39] : List MM), bodyOK tCls tFty tMT gw tStr tNest M := List.forall_mem_cons.mpr ⟨bo20, List.forall_mem_cons.mpr ⟨bo21, List.forall_mem_cons.mpr ⟨bo22, List.forall_mem_cons.mpr ⟨bo23, List.forall_mem_cons.mpr ⟨bo24, List.forall_mem_cons.mpr ⟨bo25, List.forall_mem_cons.mpr ⟨bo26, List.forall_mem_cons.mpr ⟨bo27, List.forall_mem_cons.mpr ⟨bo28, List.forall_mem_cons.mpr ⟨bo29, List.forall_mem_cons.mpr ⟨bo30, List.forall_mem_cons.mpr ⟨bo31, List.forall_mem_cons.mpr ⟨bo32, List.forall_mem_cons.mpr ⟨bo33, List.forall_mem_cons.mpr ⟨bo34, List.forall_mem_cons.mpr ⟨bo35, List.forall_mem_cons.mpr ⟨bo36, List.forall_mem_cons.mpr ⟨bo37, List.forall_mem_cons.mpr ⟨bo38, List.forall_mem_cons.mpr ⟨bo39, fun _ h => absurd h List.not_mem_nil⟩⟩⟩⟩⟩⟩⟩⟩⟩⟩⟩⟩⟩⟩⟩⟩⟩⟩⟩⟩
theorem bs2 : ∀ M ∈ ([cM40, cM41, cM42, cM43, cM44, cM45, cM46, cM47, cM48, cM49, cM50, cM51, cM52, cM53, cM54, cM55, cM56, cM57, cM58, cM59] : List MM), bodyOK tCls tFty tMT gw tStr tNest M := List.forall_mem_cons.mpr ⟨bo40, List.forall_mem_cons.mpr ⟨bo41, List.forall_mem_cons.mpr ⟨bo42, List.forall_mem_cons.mpr ⟨bo43, List.forall_mem_cons.mpr ⟨bo44, List.forall_mem_cons.mpr ⟨bo45, List.forall_mem_cons.mpr ⟨bo46, List.forall_mem_cons.mpr ⟨bo47, List.forall_mem_cons.mpr ⟨bo48, List.forall_mem_cons.mpr ⟨bo49, List.forall_mem_cons.mpr ⟨bo50, List.forall_mem_cons.mpr ⟨bo51, List.forall_mem_cons.mpr ⟨bo52, List.forall_mem_cons.mpr ⟨bo53, List.forall_mem_cons.mpr ⟨bo54, List.forall_mem_cons.mpr ⟨bo55, List.forall_mem_cons.mpr ⟨bo56, List.forall_mem_cons.mpr ⟨bo57, List.forall_mem_cons.mpr ⟨bo58, List.forall_mem_cons.mpr ⟨bo59, fun _ h => absurd h List.not_mem_nil⟩⟩⟩⟩⟩⟩⟩⟩⟩⟩⟩⟩⟩⟩⟩⟩⟩⟩⟩⟩
theorem bs3 : ∀ M ∈ ([cM60, cM61, cM62, cM63, cM64, cM65, cM66, cM67, cM68, cM69, cM70, cM71, cM72, cM73, cM74, cM75, cM76, cM77, cM78, cM79] : List MM), bodyOK tCls tFty tMT gw tStr tNest M := List.forall_mem_cons.mpr ⟨bo60, List.forall_mem_cons.mpr ⟨bo61, List.forall_mem_cons.mpr ⟨bo62, List.forall_mem_cons.mpr ⟨bo63, List.forall_mem_cons.mpr ⟨bo64, List.forall_mem_cons.mpr ⟨bo65, List.forall_mem_cons.mpr ⟨bo66, List.forall_mem_cons.mpr ⟨bo67, List.forall_mem_cons.mpr ⟨bo68, List.forall_mem_cons.mpr ⟨bo69, List.forall_mem_cons.mpr ⟨bo70, List.forall_mem_cons.mpr ⟨bo71, List.forall_mem_cons.mpr ⟨bo72, List.forall_mem_cons.mpr ⟨bo73, List.forall_mem_cons.mpr ⟨bo74, List.forall_mem_cons.mpr ⟨bo75, List.forall_mem_cons.mpr ⟨bo76, List.forall_mem_cons.mpr ⟨bo77, List.forall_mem_cons.mpr ⟨bo78, List.forall_mem_cons.mpr ⟨bo79, fun _ h => absurd h List.not_mem_nil⟩⟩⟩⟩⟩⟩⟩⟩⟩⟩⟩⟩⟩⟩⟩⟩⟩⟩⟩⟩
theorem bs4 : ∀ M ∈ ([cM80, cM81, cM82, cM83, cM84, cM85, cM86, cM87, cM88, cM89, cM90, cM91, cM92, cM93, cM94, cM95, cM96, cM97, cM98, cM99] : List MM), bodyOK tCls tFty tMT gw tStr tNest M := List.forall_mem_cons.mpr ⟨bo80, List.forall_mem_cons.mpr ⟨bo81, List.forall_mem_cons.mpr ⟨bo82, List.forall_mem_cons.mpr ⟨bo83, List.forall_mem_cons.mpr ⟨bo84, List.forall_mem_cons.mpr ⟨bo85, List.forall_mem_cons.mpr ⟨bo86, List.forall_mem_cons.mpr ⟨bo87, List.forall_mem_cons.mpr ⟨bo88, List.forall_mem_cons.mpr ⟨bo89, List.forall_mem_cons.mpr ⟨bo90, List.forall_mem_cons.mpr ⟨bo91, List.forall_mem_cons.mpr ⟨bo92, List.forall_mem_cons.mpr ⟨bo93, List.forall_mem_cons.mpr ⟨bo94, List.forall_mem_cons.mpr ⟨bo95, List.forall_mem_cons.mpr ⟨bo96, List.forall_mem_cons.mpr ⟨bo97, List.forall_mem_cons.mpr ⟨bo98, List.forall_mem_cons.mpr ⟨bo99, fun _ h => absurd h List.not_mem_nil⟩⟩⟩⟩⟩⟩⟩⟩⟩⟩⟩⟩⟩⟩⟩⟩⟩⟩⟩⟩
theorem bs5 : ∀ M ∈ ([cM100, cM101, cM102, cM103, cM104, cM105, cM106, cM107, cM108, cM109, cM110, cM111, cM112, cM113, cM114, cM115, cM116, cM117, cM118, cM119] : List MM), bodyOK tCls tFty tMT gw tStr tNest M := List.forall_mem_cons.mpr ⟨bo100, List.forall_mem_cons.mpr ⟨bo101, List.forall_mem_cons.mpr ⟨bo102, List.forall_mem_cons.mpr ⟨bo103, List.forall_mem_cons.mpr ⟨bo104, List.forall_mem_cons.mpr ⟨bo105, List.forall_mem_cons.mpr ⟨bo106, List.forall_mem_cons.mpr ⟨bo107, List.forall_mem_cons.mpr ⟨bo108, List.forall_mem_cons.mpr ⟨bo109, List.forall_mem_cons.mpr ⟨bo110, List.forall_mem_cons.mpr ⟨bo111, List.forall_mem_cons.mpr ⟨bo112, List.forall_mem_cons.mpr ⟨bo113, List.forall_mem_cons.mpr ⟨bo114, List.forall_mem_cons.mpr ⟨bo115, List.forall_mem_cons.mpr ⟨bo116, List.forall_mem_cons.mpr ⟨bo117, List.forall_mem_cons.mpr ⟨bo118, List.forall_mem_cons.mpr ⟨bo119, fun _ h => absurd h List.not_mem_nil⟩⟩⟩⟩⟩⟩⟩⟩⟩⟩⟩⟩⟩⟩⟩⟩⟩⟩⟩⟩
theorem bs6 : ∀ M ∈ ([cM120, cM121, cM122, cM123, cM124, cM125, cM126, cM127, cM128, cM129, cM130, cM131, cM132, cM133, cM134, cM135, cM136, cM137, cM138, cM139] : List MM), bodyOK tCls tFty tMT gw tStr tNest M := List.forall_mem_cons.mpr ⟨bo120, List.forall_mem_cons.mpr ⟨bo121, List.forall_mem_cons.mpr ⟨bo122, List.forall_mem_cons.mpr ⟨bo123, List.forall_mem_cons.mpr ⟨bo124, List.forall_mem_cons.mpr ⟨bo125, List.forall_mem_cons.mpr ⟨bo126, List.forall_mem_cons.mpr ⟨bo127, List.forall_mem_cons.mpr ⟨bo128, List.forall_mem_cons.mpr ⟨bo129, List.forall_mem_cons.mpr ⟨bo130, List.forall_mem_cons.mpr ⟨bo131, List.forall_mem_cons.mpr ⟨bo132, List.forall_mem_cons.mpr ⟨bo133, List.forall_mem_cons.mpr ⟨bo134, List.forall_mem_cons.mpr ⟨bo135, List.forall_mem_cons.mpr ⟨bo136, List.forall_mem_cons.mpr ⟨bo137, List.forall_mem_cons.mpr ⟨bo138, List.forall_mem_cons.mpr ⟨bo139, fun _ h => absurd h List.not_mem_nil⟩⟩⟩⟩⟩⟩⟩⟩⟩⟩⟩⟩⟩⟩⟩⟩⟩⟩⟩⟩
theorem bs7 : ∀ M ∈ ([cM140, cM141, cM142, cM143, cM144, cM145, cM146, cM147, cM148, cM149, cM150, cM151, cM152, cM153, cM154, cM155, cM156, cM157, cM158, cM159] : List MM), bodyOK tCls tFty tMT gw tStr tNest M := List.forall_mem_cons.mpr ⟨bo140, List.forall_mem_cons.mpr ⟨bo141, List.forall_mem_cons.mpr ⟨bo142, List.forall_mem_cons.mpr ⟨bo143, List.forall_mem_cons.mpr ⟨bo144, List.forall_mem_cons.mpr ⟨bo145, List.forall_mem_cons.mpr ⟨bo146, List.forall_mem_cons.mpr ⟨bo147, List.forall_mem_cons.mpr ⟨bo148, List.forall_mem_cons.mpr ⟨bo149, List.forall_mem_cons.mpr ⟨bo150, List.forall_mem_cons.mpr ⟨bo151, List.forall_mem_cons.mpr ⟨bo152, List.forall_mem_cons.mpr ⟨bo153, List.forall_mem_cons.mpr ⟨bo154, List.forall_mem_cons.mpr ⟨bo155, List.forall_mem_cons.mpr ⟨bo156, List.forall_mem_cons.mpr ⟨bo157, List.forall_mem_cons.mpr ⟨bo158, List.forall_mem_cons.mpr ⟨bo159, fun _ h => absurd h List.not_mem_nil⟩⟩⟩⟩⟩⟩⟩⟩⟩⟩⟩⟩⟩⟩⟩⟩⟩⟩⟩⟩
theorem bs8 : ∀ M ∈ ([cM160, cM161, cM162, cM163, cM164, cM165, cM166, cM167, cM168, cM169, cM170, cM171, cM172, cM173, cM174, cM175, cM176, cM177, cM178, cM179] : List MM), bodyOK tCls tFty tMT gw tStr tNest M := List.forall_mem_cons.mpr ⟨bo160, List.forall_mem_cons.mpr ⟨bo161, List.forall_mem_cons.mpr ⟨bo162, List.forall_mem_cons.mpr ⟨bo163, List.forall_mem_cons.mpr ⟨bo164, List.forall_mem_cons.mpr ⟨bo165, List.forall_mem_cons.mpr ⟨bo166, List.forall_mem_cons.mpr ⟨bo167, List.forall_mem_cons.mpr ⟨bo168, List.forall_mem_cons.mpr ⟨bo169, List.forall_mem_cons.mpr ⟨bo170, List.forall_mem_cons.mpr ⟨bo171, List.forall_mem_cons.mpr ⟨bo172, List.forall_mem_cons.mpr ⟨bo173, List.forall_mem_cons.mpr ⟨bo174, List.forall_mem_cons.mpr ⟨bo175, List.forall_mem_cons.mpr ⟨bo176, List.forall_mem_cons.mpr ⟨bo177, List.forall_mem_cons.mpr ⟨bo178, List.forall_mem_cons.mpr ⟨bo179, fun _ h => absurd h List.not_mem_nil⟩⟩⟩⟩⟩⟩⟩⟩⟩⟩⟩⟩⟩⟩⟩⟩⟩⟩⟩⟩
theorem bs9 : ∀ M ∈ ([cM180, cM181, cM182, cM183, cM184, cM185, cM186, cM187, cM188, cM189, cM190, cM191, cM192, cM193, cM194, cM195, cM196, cM197, cM198, cM199] : List MM), bodyOK tCls tFty tMT gw tStr tNest M := List.forall_mem_cons.mpr ⟨bo180, List.forall_mem_cons.mpr ⟨bo181, List.forall_mem_cons.mpr ⟨bo182, List.forall_mem_cons.mpr ⟨bo183, List.forall_mem_cons.mpr ⟨bo184, List.forall_mem_cons.mpr ⟨bo185, List.forall_mem_cons.mpr ⟨bo186, List.forall_mem_cons.mpr ⟨bo187, List.forall_mem_cons.mpr ⟨bo188, List.forall_mem_cons.mpr ⟨bo189, List.forall_mem_cons.mpr ⟨bo190, List.forall_mem_cons.mpr ⟨bo191, List.forall_mem_cons.mpr ⟨bo192, List.forall_mem_cons.mpr ⟨bo193, List.forall_mem_cons.mpr ⟨bo194, List.forall_mem_cons.mpr ⟨bo195, List.forall_mem_cons.mpr ⟨bo196, List.forall_mem_cons.mpr ⟨bo197, List.forall_mem_cons.mpr ⟨bo198, List.forall_mem_cons.mpr ⟨bo199, fun _ h => absurd h List.not_mem_nil⟩⟩⟩⟩⟩⟩⟩⟩⟩⟩⟩⟩⟩⟩⟩⟩⟩⟩⟩⟩
theorem bs10 : ∀ M ∈ ([cM200, cM201, cM202, cM203, cM204, cM205, cM206, cM207, cM208, cM209, cM210, cM211, cM212, cM213, cM214, cM215, cM216, cM217, cM218, cM219] : List MM), bodyOK tCls tFty tMT gw tStr tNest M := List.forall_mem_cons.mpr ⟨bo200, List.forall_mem_cons.mpr ⟨bo201, List.forall_mem_cons.mpr ⟨bo202, List.forall_mem_cons.mpr ⟨bo203, List.forall_mem_cons.mpr ⟨bo204, List.forall_mem_cons.mpr ⟨bo205, List.forall_mem_cons.mpr ⟨bo206, List.forall_mem_cons.mpr ⟨bo207, List.forall_mem_cons.mpr ⟨bo208, List.forall_mem_cons.mpr ⟨bo209, List.forall_mem_cons.mpr ⟨bo210, List.forall_mem_cons.mpr ⟨bo211, List.forall_mem_cons.mpr ⟨bo212, List.forall_mem_cons.mpr ⟨bo213, List.forall_mem_cons.mpr ⟨bo214, List.forall_mem_cons.mpr ⟨bo215, List.forall_mem_cons.mpr ⟨bo216, List.forall_mem_cons.mpr ⟨bo217, List.forall_mem_cons.mpr ⟨bo218, List.forall_mem_cons.mpr ⟨bo219, fun _ h => absurd h List.not_mem_nil⟩⟩⟩⟩⟩⟩⟩⟩⟩⟩⟩⟩⟩⟩⟩⟩⟩⟩⟩⟩
theorem bs11 : ∀ M ∈ ([cM220, cM221, cM222, cM223, cM224, cM225, cM226, cM227, cM228, cM229, cM230, cM231, cM232, cM233, cM234, cM235, cM236, cM237, cM238] : List MM), bodyOK tCls tFty tMT gw tStr tNest M := List.forall_mem_cons.mpr ⟨bo220, List.forall_mem_cons.mpr ⟨bo221, List.forall_mem_cons.mpr ⟨bo222, List.forall_mem_cons.mpr ⟨bo223, List.forall_mem_cons.mpr ⟨bo224, List.forall_mem_cons.mpr ⟨bo225, List.forall_mem_cons.mpr ⟨bo226, List.forall_mem_cons.mpr ⟨bo227, List.forall_mem_cons.mpr ⟨bo228, List.forall_mem_cons.mpr ⟨bo229, List.forall_mem_cons.mpr ⟨bo230, List.forall_mem_cons.mpr ⟨bo231, List.forall_mem_cons.mpr ⟨bo232, List.forall_mem_cons.mpr ⟨bo233, List.forall_mem_cons.mpr ⟨bo234, List.forall_mem_cons.mpr ⟨bo235, List.forall_mem_cons.mpr ⟨bo236, List.forall_mem_cons.mpr ⟨bo237, List.forall_mem_cons.mpr ⟨bo238, fun _ h => absurd h List.not_mem_nil⟩⟩⟩⟩⟩⟩⟩⟩⟩⟩⟩⟩⟩⟩⟩⟩⟩⟩⟩
set_option maxRecDepth 100000 in
theorem tMT_cut : tMT = ([cM0, cM1, cM2, cM3, cM4, cM5, cM6, cM7, cM8, cM9, cM10, cM11, cM12, cM13, cM14, cM15, cM16, cM17, cM18, cM19] : List MM) ++ ([cM20, cM21, cM22, cM23, cM24, cM25, cM26, cM27, cM28, cM29, cM30, cM31, cM32, cM33, cM34, cM35, cM36, cM37, cM38, cM39] : List MM) ++ ([cM40, cM41, cM42, cM43, cM44, cM45, cM46, cM47, cM48, cM49, cM50, cM51, cM52, cM53, cM54, cM55, cM56, cM57, cM58, cM59] : List MM) ++ ([cM60, cM61, cM62, cM63, cM64, cM65, cM66, cM67, cM68, cM69, cM70, cM71, cM72, cM73, cM74, cM75, cM76, cM77, cM78, cM79] : List MM) ++ ([cM80, cM81, cM82, cM83, cM84, cM85, cM86, cM87, cM88, cM89, cM90, cM91, cM92, cM93, cM94, cM95, cM96, cM97, cM98, cM99] : List MM) ++ ([cM100, cM101, cM102, cM103, cM104, cM105, cM106, cM107, cM108, cM109, cM110, cM111, cM112, cM113, cM114, cM115, cM116, cM117, cM118, cM119] : List MM) ++ ([cM120, cM121, cM122, cM123, cM124, cM125, cM126, cM127, cM128, cM129, cM130, cM131, cM132, cM133, cM134, cM135, cM136, cM137, cM138, cM139] : List MM) ++ ([cM140, cM141, cM142, cM143, cM144, cM145, cM146, cM147, cM148, cM149, cM150, cM151, cM152, cM153, cM154, cM155, cM156, cM157, cM158, cM159] : List MM) ++ ([cM160, cM161, cM162, cM163, cM164, cM165, cM166, cM167, cM168, cM169, cM170, cM171, cM172, cM173, cM174, cM175, cM176, cM177, cM178, cM179] : List MM) ++ ([cM180, cM181, cM182, cM183, cM184, cM185, cM186, cM187, cM188, cM189, cM190, cM191, cM192, cM193, cM194, cM195, cM196, cM197, cM198, cM199] : List MM) ++ ([cM200, cM201, cM202, cM203, cM204, cM205, cM206, cM207, cM208, cM209, cM210, cM211, cM212, cM213, cM214, cM215, cM216, cM217, cM218, cM219] : List MM) ++ ([cM220, cM221, cM222, cM223, cM224, cM225, cM226, cM227, cM228, cM229, cM230, cM231, cM232, cM233, cM234, cM235, cM236, cM237, cM238] : List MM) := rfl
theorem mem2 {P : MM → Prop} {a b : List MM} (h : ∀ M ∈ a, P M) (h2 : ∀ M ∈ b, P M) : ∀ M ∈ a ++ b, P M := fun M hM => (List.mem_append.mp hM).elim (h M) (h2 M)
set_option maxRecDepth 100000 in
theorem bo_all : ∀ M ∈ tMT, bodyOK tCls tFty tMT gw tStr tNest M := by rw [tMT_cut]; exact mem2 (mem2 (mem2 (mem2 (mem2 (mem2 (mem2 (mem2 (mem2 (mem2 (mem2 (bs0) bs1) bs2) bs3) bs4) bs5) bs6) bs7) bs8) bs9) bs10) bs11
theorem tKd_len : tKd.length = 239 := by decide +kernel
theorem tMT_ok : ∀ mi M, tMT[mi]? = some M → bodyOK tCls tFty tMT gw tStr tNest M ∧ (0 < mi → callOK gw M) := by
  intro mi M hM
  refine ⟨bo_all M (List.mem_of_getElem? hM), fun h0 => ?_⟩
  have hlt := (List.getElem?_eq_some_iff.mp hM).1
  have hlt2 : mi < tKd.length := by rw [tMT_len] at hlt; rw [tKd_len]; exact hlt
  exact (kd_of h0 hM (List.getElem?_eq_getElem hlt2)).1
theorem gw_good : ∀ w ∈ gw, goodWord w = true := fun w h => (List.mem_filter.mp h).2
theorem dv_tr : ∀ (t : FieldType) (rA : Nat → Nat) (sio : Value), trv rA sio (defaultValue t) = defaultValue t := by
  intro t rA sio
  cases t <;> rfl
theorem lay_good (C : String) (T : u_T) (k : Nat) : goodWord (u_lay C T k) = true := by
  unfold u_lay
  split <;> rfl
theorem cls_of {ci : Nat} {q : vw_C} (h : cB ci = true) (hq : tCls[ci]? = some q) : (∀ w ∈ u_ws q.1 q.2.1 q.2.2, w ∈ gw) ∧ (∀ k, k < q.2.2 → parseFieldDescriptor (q.2.1 k).2.2.1 = some (tFty ci k)) ∧ (∀ a, a < q.2.2 → ∀ b, b < q.2.2 → a ≠ b → (q.2.1 a).2.1 ≠ (q.2.1 b).2.1) ∧
    (tDfl ci).length = q.2.2 ∧ (∀ j, j < q.2.2 → (tDfl ci)[j]? = some (defaultValue (tFty ci j)) ∧ ∀ rA sio, trv rA sio (defaultValue (tFty ci j)) = defaultValue (tFty ci j)) ∧ Cond.instantiable q.1 q.2.2 ∈ gw ∧ Cond.initialized q.1 ∈ gw := by
  unfold cB at h
  rw [hq] at h
  simp only [Bool.and_eq_true, decide_eq_true_eq, List.all_eq_true, List.mem_range, Bool.or_eq_true] at h
  obtain ⟨⟨⟨⟨h1, h2⟩, h3⟩, h4⟩, h5⟩ := h
  refine ⟨fun w hw => List.mem_filter.mpr ⟨wMem_spec (h1 w hw).1, (h1 w hw).2⟩, fun k hk => (h2 k hk).1.1, fun a ha b hb hne => ?_, h3, fun j hj => ⟨(h2 j hj).1.2, dv_tr _⟩, List.mem_filter.mpr ⟨wMem_spec h4, rfl⟩, List.mem_filter.mpr ⟨wMem_spec h5, rfl⟩⟩
  rcases (h2 a ha).2 b hb with e | e
  · exact absurd e hne
  · exact e
theorem tCls_len : tCls.length = 10 := rfl
theorem tCls_ok : clsOK tCls tFty tDfl gw := by
  intro ci q hq
  have hlt := (List.getElem?_eq_some_iff.mp hq).1
  rw [tCls_len] at hlt
  rcases (show ci = 0 ∨ ci = 1 ∨ ci = 2 ∨ ci = 3 ∨ ci = 4 ∨ ci = 5 ∨ ci = 6 ∨ ci = 7 ∨ ci = 8 ∨ ci = 9 by omega) with e | e | e | e | e | e | e | e | e | e <;> subst e
  · exact cls_of cB_0 hq
  · exact cls_of cB_1 hq
  · exact cls_of cB_2 hq
  · exact cls_of cB_3 hq
  · exact cls_of cB_4 hq
  · exact cls_of cB_5 hq
  · exact cls_of cB_6 hq
  · exact cls_of cB_7 hq
  · exact cls_of cB_8 hq
  · exact cls_of cB_9 hq
end Asm
end
