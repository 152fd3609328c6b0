section
/-! THE LAW COMES TO ITS END WITH 1 -/
section LawTT
variable {xs : List Int32}
theorem at0 (pc : Nat) : m_at tMT 0 pc = (cL0.find? (fun E => E.1 == pc)).map fun E => (E, some FieldType.boolean) := rfl
theorem law_node (h : roOK (tRo xs) xs) {F : MH} (hl : F.length = 141) (hm : mz F ≤ 7302250) (hB : wtB F = true) (hF : nd97.fa.all (faB F) = true) (h4 : st6B F = true) : TT tMT (tRo xs) tFty tDfl 13 0 F 18 [(3, .int 0), (2, .ref 129), (1, .ref 0), (0, .ref KB)] [] (fun v F1 => v = some (.int 1) ∧ F1.length = 141 ∧ mz F1 ≤ 7302250) := by
  have hW := wt_start h hl hB
  have hp : am0 ∈ tA := List.mem_of_getElem? (i := 0) rfl
  have hM : nd97 ∈ am0.1 := by simp [am0]
  have hN := (all_NH h.2.2.1 (nd97.stg + 1) 0 am0 hp nd97 hM).2 lawW (0, 18, [(3, .int 0), (2, .ref 129), (1, .ref 0), (0, .ref KB)], []) F (Or.inl (Nat.lt_succ_self _))
  have hpB : nd97.pa.all (fun a => a.2.2.2.2.isEmpty && (match lawW[a.1]? with | some v => okEB (a.2.1, a.2.2.1, a.2.2.2.1) v | none => false)) = true := by decide +kernel
  have hpa : ∀ a ∈ nd97.pa, okA tGam tSets lawW a := by
    intro a ha
    have h1 := List.all_eq_true.mp hpB a ha
    rw [Bool.and_eq_true] at h1
    obtain ⟨e1, e2⟩ := h1
    split at e2
    · rename_i v hv
      exact ⟨v, hv, okEB_ok e2, fun r hr => by rw [List.isEmpty_iff.mp e1] at hr; cases hr⟩
    · cases e2
  have hfa : ∀ q ∈ (n_st nd97).2.2.1, okFa tGam (tRo xs) F lawW q := by
    intro q hq
    obtain ⟨q0, h0, rfl⟩ := List.mem_map.mp hq
    have hwf : n_wf nd97 = true := by decide +kernel
    have hlt : q0.2.2.2 < nd97.pa.length := by
      have : nd97.fa.all (fun q => decide (q.2.2.2 < nd97.pa.length)) = true := by decide +kernel
      exact of_decide_eq_true (List.all_eq_true.mp this q0 h0)
    exact faB_ok (wf_id hwf hlt) (List.all_eq_true.mp hF q0 h0)
  have hT := hN ⟨⟨fun a ha => hpa a (st_av (wfA_wf (by decide +kernel)) ha), ⟨rfl, rfl, fun q hq => ?_, rfl⟩, trivial, fun q hq => hfa q hq, fun q hq => (by cases hq), fun q hq => (by cases hq), rfl⟩, hpa⟩ hW
  rotate_left
  · simp only [n_st, nd97, wN, wP, ND.lc, ND.pa, n_av, List.map_cons, List.map_nil, List.mem_cons, List.not_mem_nil, or_false] at hq
    rcases hq with rfl | rfl | rfl | rfl
    · exact ⟨_, rfl, rfl⟩
    · exact ⟨_, rfl, rfl⟩
    · exact ⟨_, rfl, rfl⟩
    · exact ⟨_, rfl, rfl⟩
  have hT2 := hT.deep (d' := 13) (by decide)
  obtain ⟨n, z, h1, h2⟩ := hT2
  have hk := ex_keep tP_ok _ _ _ _ _ _ _ _ (show tP 0 18 = true from rfl) h1
  have g := st6_ok h4
  exact ⟨n, z, h1, law_PF6 n F 0 ⟨hW, g.1, g.2⟩ 13 z h1, by rw [hk.1]; exact hl, by rw [hk.2]; exact hm⟩
theorem law_TT (h : roOK (tRo xs) xs) : TT tMT (tRo xs) tFty tDfl 13 0 [] 0 [(0, .ref KB)] [] (fun v F1 => v = some (.int 1) ∧ F1.length = 141 ∧ mz F1 ≤ 7302250) := by
  obtain ⟨FB, FD, hA, hl, hB, hl2, hw, hm, hF, h4⟩ := start_ex
  refine TT.one (at0 _) (q := (hpA, 3, _, [.ref 0])) rfl ?_
  refine TT.one (at0 _) (q := (hpA, 4, _, [.ref 0, .ref 0])) rfl ?_
  refine TT.call (at0 _) (d := 12) (q := (1, [.ref 0], [.ref 0])) rfl rfl rfl (by simp) (by simp) rfl ?_
  refine TT.deep (d := 10) ⟨20000, (none, FB), ex_ro _ _ _ _ _ _ _ _ hA, ?_⟩ (by decide)
  refine TT.one (at0 _) (q := (FB, 8, [(1, .ref 0), (0, .ref KB)], [])) rfl ?_
  refine TT.one (at0 _) (q := (FB ++ [.inl (9, tDfl 9)], 11, [(1, .ref 0), (0, .ref KB)], [.ref 129])) ?_ ?_
  · have e : FB.length < KB := by rw [hl]; decide
    have e2 : m_wr tFty tDfl FB (8, .new 10, 3, 9, 0, 0) [] = some (FB ++ [.inl (9, tDfl 9)], [.ref 129]) := by
      show (if FB.length < KB then some (FB ++ [.inl (9, tDfl 9)], [Value.ref FB.length]) else none) = _
      rw [if_pos e, hl]
    show (match m_wr tFty tDfl FB (8, .new 10, 3, 9, 0, 0) [] with | some q => some (q.1, 11, _, q.2) | none => none) = _
    rw [e2]
  refine TT.one (at0 _) (q := (FB ++ [.inl (9, tDfl 9)], 12, _, [.ref 129, .ref 129])) rfl ?_
  refine TT.call (at0 _) (d := 12) (q := (144, [.ref 129], [.ref 129])) rfl rfl rfl (by simp) (by simp) rfl ?_
  refine TT.deep (d := 10) ⟨20000, (none, FD), ex_ro _ _ _ _ _ _ _ _ hB, ?_⟩ (by decide)
  refine TT.one (at0 _) (q := (FD, 16, [(2, .ref 129), (1, .ref 0), (0, .ref KB)], [])) rfl ?_
  refine TT.one (at0 _) (q := (FD, 17, _, [.int 0])) rfl ?_
  refine TT.one (at0 _) (q := (FD, 18, [(3, .int 0), (2, .ref 129), (1, .ref 0), (0, .ref KB)], [])) rfl ?_
  exact law_node h hl2 hm hw hF h4
end LawTT
end
section
/-! THE LAW'S ENTRY: the classes, the script, the texts, as the small machine has them -/
noncomputable def tLen : List Nat := [4, 3, 4, 5, 6, 5, 3]
noncomputable def tPl : List Nat := [59, 68, 73, 86, 88, 90, 92]
noncomputable def tTx : List String := ["door", "not", "plan", "plain", "priest", "miser", "spy"]
noncomputable def tTm (i : Nat) : Term := .string "DoorPaints$Reader" (tPl.getD i 0)
noncomputable def tRA (b0 b : Nat) (adK adV : Nat → Nat) (a : Nat) : Nat := if a < KB then b0 + a else if a = KB then b else if (a - KB) % 2 = 1 then adK ((a - KB) / 2) else adV ((a - KB) / 2 - 1)
theorem byt_ok : ∀ i, i < 7 → (tLen.getD i 0 = (tByt.getD i []).length ∧ (tByt.getD i []).length ≤ 320 ∧ ∀ b ∈ tByt.getD i [], -128 ≤ b.toInt ∧ b.toInt ≤ 127) := by decide +kernel
theorem tRo_ok {xl : List Int32} (h : xl.length ≤ 320) : roOK (tRo xl) xl := by
  refine ⟨rfl, h, rfl, fun j hj => ⟨tByt.getD j [], ?_, ?_, (byt_ok j hj).2.1, (byt_ok j hj).2.2⟩⟩
  · unfold tRo
    rw [if_neg (by omega), if_pos (by omega), if_pos (by omega), show 1 + 2 * j + 1 = 2 + 2 * j by omega]
  · unfold tRo
    rw [if_neg (by omega), if_pos (by omega), if_neg (by omega), show (2 + 2 * j) / 2 - 1 = j by omega]
theorem tRo_100 {xl : List Int32} : ∀ j y, tRo xl j = some y → j ≠ 100 := by
  intro j y h e
  subst e
  cases h
theorem ctx_of {args : Array Value} {s : State} (hts : ∀ w ∈ lw_tbl, w.before args s = true) {b L : Nat} {xs : Nat → Int32} (hL : L ≤ 320) (hX : va_X b L xs s s.heap) (hbl : b < s.heap.size) (hgv : (Jvm.Cond.and given_1 narrow_1).before args s = true) :
    ∃ (rA : Nat → Nat) (sio : Value) (dC : Nat → ClassId) (dI : Nat → Nat → Nat) (cA : Nat → ClassId), sioOK sio ∧ (∀ a, a < KB → rA a = s.heap.size + a) ∧ rA KB = b ∧ CTX tCls tStr tNest (tRo ((List.range L).map xs)) rA sio s.heap.size dC dI cA s := by
  have hA : ∀ a : Nat, a < s.heap.size → ¬ (fun q : Nat => s.heap.size ≤ q) a := fun a h => Nat.not_le.mpr h
  have hgw : ∀ w ∈ gw, w.before args s = true := fun w hw => hts w (List.mem_filter.mp hw).1
  have hfl := flat_of_before _ hgv
  -- texts
  have x1 : ∀ i, i < 7 → Cond.exactly (tTm i) "java/lang/String" ∈ flatC (Jvm.Cond.and given_1 narrow_1) := by decide +kernel
  have x2 : ∀ i, i < 7 → Cond.eq (.field (tTm i) "java/lang/String" "coder" "B") (.int 0) ∈ flatC (Jvm.Cond.and given_1 narrow_1) := by decide +kernel
  have x3 : ∀ i, i < 7 → Cond.arrayOf (.field (tTm i) "java/lang/String" "value" "[B") .byte ∈ flatC (Jvm.Cond.and given_1 narrow_1) := by decide +kernel
  have x4 : ∀ i, i < 7 → Cond.eq (.length (.field (tTm i) "java/lang/String" "value" "[B")) (.int (Int32.ofNat (tLen.getD i 0))) ∈ flatC (Jvm.Cond.and given_1 narrow_1) := by decide +kernel
  have x5 : ∀ i, i < 7 → ∀ j, j < tLen.getD i 0 → Cond.eq (.elem (.field (tTm i) "java/lang/String" "value" "[B") (.int (Int32.ofNat j))) (.int ((tByt.getD i []).getD j 0)) ∈ flatC (Jvm.Cond.and given_1 narrow_1) := by decide +kernel
  have x6 : ∀ i, i < 7 → ∀ j, j < 7 → i ≠ j → (Cond.not (Cond.eq (tTm i) (tTm j)) ∈ flatC (Jvm.Cond.and given_1 narrow_1) ∨ Cond.not (Cond.eq (tTm j) (tTm i)) ∈ flatC (Jvm.Cond.and given_1 narrow_1)) := by decide +kernel
  have x7 : ∀ i, i < 7 → tLen.getD i 0 < 2 ^ 31 := by decide +kernel
  obtain ⟨adK, adV, ⟨hSt, -⟩, hEv⟩ := vk_Sof (A := fun q : Nat => s.heap.size ≤ q) (N := 7) (tm := tTm) (len := tLen) (byt := tByt) x7 (fun i hi => hfl _ (x1 i hi)) (fun i hi => hfl _ (x2 i hi)) (fun i hi => hfl _ (x3 i hi)) (fun i hi => hfl _ (x4 i hi)) (fun i hi j hj => hfl _ (x5 i hi j hj)) (fun i j hi hj hn => (x6 i hi j hj hn).imp (fun h => hfl _ h) (fun h => hfl _ h)) hA
  -- statics
  have z1 : va_Z "java/lang/String" "COMPACT_STRINGS" "Z" (.int 1) (fun q : Nat => s.heap.size ≤ q) s s.heap := va_Zof (hts _ (by decide +kernel)) (hts _ (by decide +kernel)) (va_eqt (hfl (Cond.eq (.static "java/lang/String" "COMPACT_STRINGS" "Z") (.int 1)) (by decide +kernel))) hA
  have z2 : va_Zq "jdk/internal/util/Preconditions" "SIOOBE_FORMATTER" "Ljava/util/function/BiFunction;" (fun q : Nat => s.heap.size ≤ q) s s.heap := va_Zqof (hts _ (by decide +kernel)) (hts _ (by decide +kernel)) (hfl _ (by decide +kernel)) hA
  obtain ⟨sio, hsio, z3⟩ : ∃ sio, sioOK sio ∧ va_Z "jdk/internal/util/Preconditions" "SIOOBE_FORMATTER" "Ljava/util/function/BiFunction;" sio (fun q : Nat => s.heap.size ≤ q) s s.heap := by
    rcases z2 with h | ⟨t, h⟩
    · exact ⟨.null, Or.inl rfl, h⟩
    · exact ⟨.ref t, Or.inr ⟨t, rfl⟩, h⟩
  -- classes
  have hKn : ∀ c : Nat, ∃ D : ClassId × (Nat → Nat), ∀ q, tCls[c]? = some q → u_Kn s q.1 q.2.1 q.2.2 D.1 D.2 := by
    intro c
    cases hq : tCls[c]? with
    | none => exact ⟨(default, fun _ => 0), fun q h => by cases h⟩
    | some q =>
      obtain ⟨g1, -, -, -, -, g6, -⟩ := tCls_ok c q hq
      obtain ⟨cC, iS, hk⟩ := u_known (C := q.1) (T := q.2.1) (N := q.2.2) hgw g1 (hgw _ g6)
      exact ⟨(cC, iS), fun q' h => by cases h; exact hk⟩
  obtain ⟨D, hD⟩ := Classical.axiomOfChoice hKn
  have arr : ∀ ty : FieldType, (Cond.arrayClass ty).before args s = true → (∀ cA' : ClassId, va_RA s cA' ty = (s.vm.findClass ("[" ++ ty.toString) = some cA')) → ∃ cA, ArrOfT s cA ty ∧ va_RA s cA ty := by
    intro ty h e
    obtain ⟨c, k, comp, h1, h2, h3⟩ := Cond.arrayClass_spec h
    exact ⟨c, fun n z => ⟨fun k h => (by cases h), k, h2, comp, h3⟩, by rw [e]; exact h1⟩
  have arO : ∀ C : String, (Cond.arrayOver (.object C)).before args s = true → ∃ cA, ArrOfT s cA (.object C) ∧ va_RA s cA (.object C) := by
    intro C h
    obtain ⟨comp, c, k, h1, -, h3, h4, h5⟩ := Cond.arrayOver_spec h
    exact ⟨c, fun n z => ⟨fun k h => (by cases h), k, h3, comp, h4⟩, k, comp, h3, h4, h1, h5⟩
  obtain ⟨c0, k0⟩ := arr .int (hts _ (by decide +kernel)) (fun _ => rfl)
  obtain ⟨c1, k1⟩ := arr .boolean (hts _ (by decide +kernel)) (fun _ => rfl)
  obtain ⟨c2, k2⟩ := arr .byte (hts _ (by decide +kernel)) (fun _ => rfl)
  obtain ⟨c3, k3⟩ := arO "DoorPaints$Visitor" (hts _ (by decide +kernel))
  obtain ⟨c4, k4⟩ := arO "DoorPaints$Door" (hts _ (by decide +kernel))
  obtain ⟨c5, k5⟩ := arO "DoorPaints$Told" (hts _ (by decide +kernel))
  obtain ⟨c6, k6⟩ := arO "DoorPaints$Sheet" (hts _ (by decide +kernel))
  have rK : ∀ i, tRA s.heap.size b adK adV (KB + (1 + 2 * i)) = adK i := by
    intro i
    unfold tRA
    rw [if_neg (by omega), if_neg (by omega), if_pos (by omega), show (KB + (1 + 2 * i) - KB) / 2 = i by omega]
  have rV : ∀ i, tRA s.heap.size b adK adV (KB + (2 + 2 * i)) = adV i := by
    intro i
    unfold tRA
    rw [if_neg (by omega), if_neg (by omega), if_neg (by omega), show (KB + (2 + 2 * i) - KB) / 2 - 1 = i by omega]
  have rB : tRA s.heap.size b adK adV KB = b := by
    unfold tRA
    rw [if_neg (by omega), if_pos rfl]
  refine ⟨tRA s.heap.size b adK adV, sio, fun c => (D c).1, fun c => (D c).2, fun k => [c0, c1, c2, c3, c4, c5, c6].getD k c0, hsio, fun a ha => by unfold tRA; rw [if_pos ha], rB, ⟨fun c q hq => hD c q hq, fun k q hk => ?_⟩, fun j x hx => ?_, z1, z3, fun q hq => ?_, fun q hq => ?_, fun C hC => ?_⟩
  · match k, hk with
    | 0, hk => cases hk; exact k0
    | 1, hk => cases hk; exact k1
    | 2, hk => cases hk; exact k2
    | 3, hk => cases hk; exact k3
    | 4, hk => cases hk; exact k4
    | 5, hk => cases hk; exact k5
    | 6, hk => cases hk; exact k6
    | k + 7, hk => simp [tysL] at hk
  · unfold tRo at hx
    split at hx
    · rename_i h0
      subst h0
      cases hx
      refine Or.inl ⟨rfl, ?_⟩
      show va_T .int (tRA s.heap.size b adK adV KB) _ _ _ s s.heap
      rw [rB]
      obtain ⟨scr, q1, q2, q3, q4, q5⟩ := hX
      have hl : ((List.range L).map xs).length = L := by simp
      rw [hl]
      refine ⟨scr, q1, q2, q3, by omega, by rw [q4] <;> rfl, fun j hj => ?_, hA b hbl⟩
      rw [q5 j hj]
      simp [hj]
    · rename_i h0
      split at hx
      · rename_i h14
        split at hx
        · rename_i hodd
          obtain ⟨i, rfl⟩ : ∃ i, j = 1 + 2 * i := ⟨j / 2, by omega⟩
          have hi : i < 7 := by omega
          cases hx
          refine ⟨rfl, _, rfl, ?_⟩
          rw [rK i]
          obtain ⟨g1, g2, g3, -⟩ := hSt i hi
          refine ⟨g1, ?_, g2⟩
          have e : trv (tRA s.heap.size b adK adV) sio (.ref (KB + (1 + 2 * i + 1))) = .ref (adV i) := by
            show (if KB + (1 + 2 * i + 1) = KB + 100 then sio else .ref (tRA s.heap.size b adK adV (KB + (1 + 2 * i + 1)))) = _
            rw [if_neg (by omega), show KB + (1 + 2 * i + 1) = KB + (2 + 2 * i) by omega, rV i]
          rw [e]
          exact g3
        · rename_i hodd
          obtain ⟨i, rfl⟩ : ∃ i, j = 2 + 2 * i := ⟨j / 2 - 1, by omega⟩
          have hi : i < 7 := by omega
          cases hx
          refine Or.inr ⟨rfl, ?_⟩
          rw [rV i, show (2 + 2 * i) / 2 - 1 = i by omega]
          obtain ⟨-, -, -, g4⟩ := hSt i hi
          rw [(byt_ok i hi).1] at g4
          exact g4
      · cases hx
  · have hin : ∀ q ∈ tStr, ∃ i, i < 7 ∧ q = ("DoorPaints$Reader", tPl.getD i 0, 1 + 2 * i) := by decide +kernel
    obtain ⟨i, hi, rfl⟩ := hin q hq
    have hw : ∀ i, i < 7 → Cond.stringRef "DoorPaints$Reader" (tPl.getD i 0) (tTx.getD i "") ∈ lw_tbl := by decide +kernel
    refine ⟨tTx.getD i "", ?_⟩
    show vk_R _ _ _ (tRA s.heap.size b adK adV (KB + (1 + 2 * i))) s
    rw [rK i]
    exact vk_R.of (A := args) (hts _ (hw i hi)) (hEv i hi)
  · have hw : ∀ q ∈ tNest, Cond.methodLinkNest q.1 q.2.1 q.2.2.1 q.2.2.2 ∈ lw_tbl := by decide +kernel
    exact va_Nw.of rfl (hts _ (hw q hq))
  · have hw : ∀ C ∈ aoC, Cond.arrayOver (.object C) ∈ lw_tbl := by decide +kernel
    exact va_AO.of (hts _ (hw C hC))
end
