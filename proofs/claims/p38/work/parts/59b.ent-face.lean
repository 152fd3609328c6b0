section
/-! THE LAW'S RUN, II: entries of methods fit their nodes; what a node leaves -/
section Ent
variable {ro : Nat → Option MC} {n : Nat} {F F0 F1 : MH} {M : ND} {k : Nat} {vs : List Value} {lv : LVs}
theorem entG (hw : n_wf M = true) (h1 : M.mi = k) (h2 : M.pc = 0) (hst : M.st = []) (hfa : M.fa = []) (hea : M.ea = []) (hsu : M.su = []) (hlen : M.pa.length = vs.length) (hpa : ∀ a ∈ M.pa, okA tGam tSets vs a) (hlc : ∀ q ∈ M.lc, ∃ v, vs[q.2]? = some v ∧ m_get lv q.1 = some v) : okN tGam tSets ro M vs (k, 0, lv, []) F := by
  refine ⟨⟨fun a ha => hpa a (st_av hw ha), ⟨h1, h2, fun q hq => ?_, ?_⟩, trivial, fun q hq => ?_, fun q hq => ?_, fun q hq => ?_, hlen⟩, hpa⟩
  · obtain ⟨q0, h0, rfl⟩ := List.mem_map.mp hq
    obtain ⟨v, g1, g2⟩ := hlc q0 h0
    have hl : q0.2 < M.pa.length := by rw [hlen]; exact (List.getElem?_eq_some_iff.mp g1).1
    refine ⟨v, ?_, g2⟩
    show vs[(n_av M q0.2).1]? = some v
    rw [wf_id hw hl]; exact g1
  · show ([] : List Value).map some = (M.st.map (n_av M)).map (fun a => vs[a.1]?)
    rw [hst]; rfl
  · have hq : q ∈ M.fa.map (fun q => (q.1, q.2.1, q.2.2.1, n_av M q.2.2.2)) := hq
    rw [hfa] at hq; cases hq
  · have hq : q ∈ M.ea.map (fun q => (q.1, q.2.1, n_av M q.2.2.1, n_av M q.2.2.2)) := hq
    rw [hea] at hq; cases hq
  · have hq : q ∈ M.su := hq
    rw [hsu] at hq; cases hq
/-- an object, then ints of any size -/
noncomputable def paB (r m : Nat) (pa : List AV) : Bool := pa.all (fun a => a.2.2.2.2.isEmpty && ((a.1 == 0 && (a.2.1 == 2 && a.2.2.1 == (r : Int))) || (decide (1 ≤ a.1 ∧ a.1 ≤ m) && (a.2.1 == 0 && decide (a.2.2.1 ≤ -2147483648 ∧ 2147483647 ≤ a.2.2.2.1)))))
theorem pa_ok {r a0 m : Nat} {xs : List Int32} {pa : List AV} (h : paB r m pa = true) (hm : m = xs.length) (hg : tGam a0 = some r) : ∀ a ∈ pa, okA tGam tSets (.ref a0 :: xs.map Value.int) a := by
  intro a ha
  have h1 := List.all_eq_true.mp h a ha
  simp only [Bool.and_eq_true, Bool.or_eq_true, beq_iff_eq, decide_eq_true_eq, List.isEmpty_iff] at h1
  obtain ⟨e0, h1⟩ := h1
  rcases h1 with ⟨e1, e2, e3⟩ | ⟨e1, e2, e3⟩
  · refine ⟨.ref a0, by rw [e1]; rfl, ?_, fun r hr => by rw [e0] at hr; cases hr⟩
    unfold okE
    rw [e2, e3]
    exact ⟨a0, rfl, by simpa using hg⟩
  · obtain ⟨j, hj⟩ : ∃ j, a.1 = j + 1 := ⟨a.1 - 1, by omega⟩
    have hl : j < xs.length := by rw [← hm]; omega
    refine ⟨.int xs[j], ?_, ?_, fun r hr => by rw [e0] at hr; cases hr⟩
    · rw [hj, List.getElem?_cons_succ, List.getElem?_map, List.getElem?_eq_getElem hl]; rfl
    · unfold okE
      rw [e2]
      have := i_rng xs[j]
      exact ⟨⟨_, rfl⟩, by show a.2.2.1 ≤ (xs[j]).toInt; omega, by show (xs[j]).toInt ≤ a.2.2.2.1; omega⟩
theorem iv_cont {a j : Nat} {c : MC} (h : F[a]? = some c) : iv F a j = (match (cont c)[j]? with | some (.int x) => x | _ => 0) := by
  unfold iv
  rw [h]
  match c with
  | .inl o => rfl
  | .inr (.inl q) =>
    show q.2.getD j 0 = (match (q.2.map Value.int)[j]? with | some (.int x) => x | _ => 0)
    rw [List.getElem?_map, List.getD_eq_getElem?_getD]
    cases q.2[j]? <;> rfl
  | .inr (.inr q) =>
    show 0 = (match (q.2.map va_rf)[j]? with | some (.int x) => x | _ => 0)
    rw [List.getElem?_map]
    cases hq : q.2[j]? with
    | none => rfl
    | some o => cases o <;> rfl
theorem sh_some {a : Nat} (hs : F.map zc = sh0) (ha : a < 141) : ∃ c, F[a]? = some c := by
  have hl : F.length = 141 := by
    have : (F.map zc).length = sh0.length := by rw [hs]
    rw [List.length_map] at this
    rw [this]; rfl
  exact ⟨_, List.getElem?_eq_getElem (by omega)⟩
theorem fr_iv {ms : Mods} {a r j : Nat} (h : FRm tGam ro ms F0 F1) (hg : tGam a = some r) (hk : inM ms r j = false) (ha : a < 141) (hs0 : F0.map zc = sh0) (hs1 : F1.map zc = sh0) : iv F1 a j = iv F0 a j := by
  obtain ⟨c0, e0⟩ := sh_some hs0 ha
  obtain ⟨c1, e1⟩ := sh_some hs1 ha
  have hkb : a < KB := Nat.lt_trans ha (by decide)
  have m0 : m_cell ro F0 a = some c0 := by unfold m_cell; rw [if_pos hkb]; exact e0
  have m1 : m_cell ro F1 a = some c1 := by unfold m_cell; rw [if_pos hkb]; exact e1
  rw [iv_cont e0, iv_cont e1, (h a r j c0 c1 hg hk m0 m1).1]
/-- the tapes of class and model are the same -/
noncomputable def R4 (F : MH) : Prop := ∃ b L, BX b L (iv F) ∧ BM b L (iv F)
theorem R4.keep (h : R4 F0) (e1 : iv F1 22 1 = iv F0 22 1) (e2 : ∀ q, iv F1 23 q = iv F0 23 q) (e3 : iv F1 129 13 = iv F0 129 13) (e4 : ∀ q, iv F1 135 q = iv F0 135 q) : R4 F1 := by
  obtain ⟨b, L, hX, hM⟩ := h
  exact ⟨b, L, ⟨hX.1, by rw [e1]; exact hX.2.1, fun q => by rw [e2]; exact hX.2.2 q⟩, ⟨hM.1, by rw [e3]; exact hM.2.1, fun q => by rw [e4]; exact hM.2.2.1 q, hM.2.2.2⟩⟩
theorem node_tt {p : List ND × List SP} (h100 : ro 100 = none) (hp : p ∈ tA) (hM : M ∈ p.1) (ha : M.alts = [M]) (hok : okN tGam tSets ro M vs (k, 0, lv, []) F) (hW : WT tGam tSets tRoles ro F) : PF ro n k 0 lv [] F (fun _ F1 => WT tGam tSets tRoles ro F1 ∧ FRm tGam ro M.ms F F1) := by
  have hT := (all_NH h100 (M.stg + 1) 0 p hp M hM).2 vs (k, 0, lv, []) F (Or.inl (Nat.lt_succ_self _)) hok hW
  refine PF_of_TT (hT.imp (fun v F1 hh => ?_))
  obtain ⟨M2, hM2, q1, q2, -⟩ := hh
  rw [ha] at hM2
  cases List.mem_singleton.mp hM2
  exact ⟨q1, q2⟩
end Ent
end
section
/-! THE CALLS OF THE FACE, by their nodes (written by a program) -/
section Face
variable {ro : Nat → Option MC} {n : Nat} {F : MH} {x1 x2 x3 x4 : Int32}
theorem op_10 (h100 : ro 100 = none) (hW : WT tGam tSets tRoles ro F) : PF ro n 10 0 [(0, .ref 0), (1, .int x1)] [] F (fun _ F1 => WT tGam tSets tRoles ro F1 ∧ FRm tGam ro nd146.ms F F1) := by
  refine node_tt (p := am10) (M := nd146) (vs := [.ref 0, .int x1]) h100 (List.mem_of_getElem? (i := 10) rfl) (by simp [am10]) rfl (entG (wfA_wf (by decide +kernel)) rfl rfl rfl rfl rfl rfl rfl (pa_ok (r := 0) (a0 := 0) (m := 1) (xs := [x1]) (by decide +kernel) rfl rfl) (fun q hq => ?_)) hW
  · have hq : q ∈ [(0, 0), (1, 1)] := hq
    simp only [List.mem_cons, List.not_mem_nil, or_false] at hq
    rcases hq with rfl | rfl <;> exact ⟨_, rfl, rfl⟩
theorem op_12 (h100 : ro 100 = none) (hW : WT tGam tSets tRoles ro F) : PF ro n 12 0 [(0, .ref 0), (1, .int x1)] [] F (fun _ F1 => WT tGam tSets tRoles ro F1 ∧ FRm tGam ro nd145.ms F F1) := by
  refine node_tt (p := am12) (M := nd145) (vs := [.ref 0, .int x1]) h100 (List.mem_of_getElem? (i := 12) rfl) (by simp [am12]) rfl (entG (wfA_wf (by decide +kernel)) rfl rfl rfl rfl rfl rfl rfl (pa_ok (r := 0) (a0 := 0) (m := 1) (xs := [x1]) (by decide +kernel) rfl rfl) (fun q hq => ?_)) hW
  · have hq : q ∈ [(0, 0), (1, 1)] := hq
    simp only [List.mem_cons, List.not_mem_nil, or_false] at hq
    rcases hq with rfl | rfl <;> exact ⟨_, rfl, rfl⟩
theorem op_13 (h100 : ro 100 = none) (hW : WT tGam tSets tRoles ro F) : PF ro n 13 0 [(0, .ref 0)] [] F (fun _ F1 => WT tGam tSets tRoles ro F1 ∧ FRm tGam ro nd144.ms F F1) := by
  refine node_tt (p := am13) (M := nd144) (vs := [.ref 0]) h100 (List.mem_of_getElem? (i := 13) rfl) (by simp [am13]) rfl (entG (wfA_wf (by decide +kernel)) rfl rfl rfl rfl rfl rfl rfl (pa_ok (r := 0) (a0 := 0) (m := 0) (xs := []) (by decide +kernel) rfl rfl) (fun q hq => ?_)) hW
  · have hq : q ∈ [(0, 0)] := hq
    simp only [List.mem_cons, List.not_mem_nil, or_false] at hq
    rcases hq with rfl <;> exact ⟨_, rfl, rfl⟩
theorem op_55 (h100 : ro 100 = none) (hW : WT tGam tSets tRoles ro F) : PF ro n 55 0 [(0, .ref 0)] [] F (fun _ F1 => WT tGam tSets tRoles ro F1 ∧ FRm tGam ro nd143.ms F F1) := by
  refine node_tt (p := am55) (M := nd143) (vs := [.ref 0]) h100 (List.mem_of_getElem? (i := 55) rfl) (by simp [am55]) rfl (entG (wfA_wf (by decide +kernel)) rfl rfl rfl rfl rfl rfl rfl (pa_ok (r := 0) (a0 := 0) (m := 0) (xs := []) (by decide +kernel) rfl rfl) (fun q hq => ?_)) hW
  · have hq : q ∈ [(0, 0)] := hq
    simp only [List.mem_cons, List.not_mem_nil, or_false] at hq
    rcases hq with rfl <;> exact ⟨_, rfl, rfl⟩
theorem opR_55 (h100 : ro 100 = none) (hW : WT tGam tSets tRoles ro F) (hs : F.map zc = sh0) (hR : R4 F) : PF ro n 55 0 [(0, .ref 0)] [] F (fun _ F1 => WT tGam tSets tRoles ro F1 ∧ F1.map zc = sh0 ∧ R4 F1) :=
  ((op_55 h100 hW).and (PF.sh rfl hs)).imp (fun v F1 q => ⟨q.1.1, q.2, hR.keep (fr_iv q.1.2 (r := 13) rfl rfl (by decide) hs q.2) (fun _ => fr_iv q.1.2 (r := 14) rfl rfl (by decide) hs q.2) (fr_iv q.1.2 (r := 24) rfl rfl (by decide) hs q.2) (fun _ => fr_iv q.1.2 (r := 30) rfl rfl (by decide) hs q.2)⟩)
theorem op_56 (h100 : ro 100 = none) (hW : WT tGam tSets tRoles ro F) : PF ro n 56 0 [(0, .ref 0), (1, .int x1)] [] F (fun _ F1 => WT tGam tSets tRoles ro F1 ∧ FRm tGam ro nd142.ms F F1) := by
  refine node_tt (p := am56) (M := nd142) (vs := [.ref 0, .int x1]) h100 (List.mem_of_getElem? (i := 56) rfl) (by simp [am56]) rfl (entG (wfA_wf (by decide +kernel)) rfl rfl rfl rfl rfl rfl rfl (pa_ok (r := 0) (a0 := 0) (m := 1) (xs := [x1]) (by decide +kernel) rfl rfl) (fun q hq => ?_)) hW
  · have hq : q ∈ [(0, 0), (1, 1)] := hq
    simp only [List.mem_cons, List.not_mem_nil, or_false] at hq
    rcases hq with rfl | rfl <;> exact ⟨_, rfl, rfl⟩
theorem opR_56 (h100 : ro 100 = none) (hW : WT tGam tSets tRoles ro F) (hs : F.map zc = sh0) (hR : R4 F) : PF ro n 56 0 [(0, .ref 0), (1, .int x1)] [] F (fun _ F1 => WT tGam tSets tRoles ro F1 ∧ F1.map zc = sh0 ∧ R4 F1) :=
  ((op_56 h100 hW).and (PF.sh rfl hs)).imp (fun v F1 q => ⟨q.1.1, q.2, hR.keep (fr_iv q.1.2 (r := 13) rfl rfl (by decide) hs q.2) (fun _ => fr_iv q.1.2 (r := 14) rfl rfl (by decide) hs q.2) (fr_iv q.1.2 (r := 24) rfl rfl (by decide) hs q.2) (fun _ => fr_iv q.1.2 (r := 30) rfl rfl (by decide) hs q.2)⟩)
theorem op_62 (h100 : ro 100 = none) (hW : WT tGam tSets tRoles ro F) : PF ro n 62 0 [(0, .ref 0), (1, .int x1), (2, .int x2)] [] F (fun _ F1 => WT tGam tSets tRoles ro F1 ∧ FRm tGam ro nd141.ms F F1) := by
  refine node_tt (p := am62) (M := nd141) (vs := [.ref 0, .int x1, .int x2]) h100 (List.mem_of_getElem? (i := 62) rfl) (by simp [am62]) rfl (entG (wfA_wf (by decide +kernel)) rfl rfl rfl rfl rfl rfl rfl (pa_ok (r := 0) (a0 := 0) (m := 2) (xs := [x1, x2]) (by decide +kernel) rfl rfl) (fun q hq => ?_)) hW
  · have hq : q ∈ [(0, 0), (1, 1), (2, 2)] := hq
    simp only [List.mem_cons, List.not_mem_nil, or_false] at hq
    rcases hq with rfl | rfl | rfl <;> exact ⟨_, rfl, rfl⟩
theorem opR_62 (h100 : ro 100 = none) (hW : WT tGam tSets tRoles ro F) (hs : F.map zc = sh0) (hR : R4 F) : PF ro n 62 0 [(0, .ref 0), (1, .int x1), (2, .int x2)] [] F (fun _ F1 => WT tGam tSets tRoles ro F1 ∧ F1.map zc = sh0 ∧ R4 F1) :=
  ((op_62 h100 hW).and (PF.sh rfl hs)).imp (fun v F1 q => ⟨q.1.1, q.2, hR.keep (fr_iv q.1.2 (r := 13) rfl rfl (by decide) hs q.2) (fun _ => fr_iv q.1.2 (r := 14) rfl rfl (by decide) hs q.2) (fr_iv q.1.2 (r := 24) rfl rfl (by decide) hs q.2) (fun _ => fr_iv q.1.2 (r := 30) rfl rfl (by decide) hs q.2)⟩)
theorem op_64 (h100 : ro 100 = none) (hW : WT tGam tSets tRoles ro F) : PF ro n 64 0 [(0, .ref 0), (1, .int x1), (2, .int x2)] [] F (fun _ F1 => WT tGam tSets tRoles ro F1 ∧ FRm tGam ro nd140.ms F F1) := by
  refine node_tt (p := am64) (M := nd140) (vs := [.ref 0, .int x1, .int x2]) h100 (List.mem_of_getElem? (i := 64) rfl) (by simp [am64]) rfl (entG (wfA_wf (by decide +kernel)) rfl rfl rfl rfl rfl rfl rfl (pa_ok (r := 0) (a0 := 0) (m := 2) (xs := [x1, x2]) (by decide +kernel) rfl rfl) (fun q hq => ?_)) hW
  · have hq : q ∈ [(0, 0), (1, 1), (2, 2)] := hq
    simp only [List.mem_cons, List.not_mem_nil, or_false] at hq
    rcases hq with rfl | rfl | rfl <;> exact ⟨_, rfl, rfl⟩
theorem opR_64 (h100 : ro 100 = none) (hW : WT tGam tSets tRoles ro F) (hs : F.map zc = sh0) (hR : R4 F) : PF ro n 64 0 [(0, .ref 0), (1, .int x1), (2, .int x2)] [] F (fun _ F1 => WT tGam tSets tRoles ro F1 ∧ F1.map zc = sh0 ∧ R4 F1) :=
  ((op_64 h100 hW).and (PF.sh rfl hs)).imp (fun v F1 q => ⟨q.1.1, q.2, hR.keep (fr_iv q.1.2 (r := 13) rfl rfl (by decide) hs q.2) (fun _ => fr_iv q.1.2 (r := 14) rfl rfl (by decide) hs q.2) (fr_iv q.1.2 (r := 24) rfl rfl (by decide) hs q.2) (fun _ => fr_iv q.1.2 (r := 30) rfl rfl (by decide) hs q.2)⟩)
theorem op_66 (h100 : ro 100 = none) (hW : WT tGam tSets tRoles ro F) : PF ro n 66 0 [(0, .ref 0), (1, .int x1)] [] F (fun _ F1 => WT tGam tSets tRoles ro F1 ∧ FRm tGam ro nd139.ms F F1) := by
  refine node_tt (p := am66) (M := nd139) (vs := [.ref 0, .int x1]) h100 (List.mem_of_getElem? (i := 66) rfl) (by simp [am66]) rfl (entG (wfA_wf (by decide +kernel)) rfl rfl rfl rfl rfl rfl rfl (pa_ok (r := 0) (a0 := 0) (m := 1) (xs := [x1]) (by decide +kernel) rfl rfl) (fun q hq => ?_)) hW
  · have hq : q ∈ [(0, 0), (1, 1)] := hq
    simp only [List.mem_cons, List.not_mem_nil, or_false] at hq
    rcases hq with rfl | rfl <;> exact ⟨_, rfl, rfl⟩
theorem opR_66 (h100 : ro 100 = none) (hW : WT tGam tSets tRoles ro F) (hs : F.map zc = sh0) (hR : R4 F) : PF ro n 66 0 [(0, .ref 0), (1, .int x1)] [] F (fun _ F1 => WT tGam tSets tRoles ro F1 ∧ F1.map zc = sh0 ∧ R4 F1) :=
  ((op_66 h100 hW).and (PF.sh rfl hs)).imp (fun v F1 q => ⟨q.1.1, q.2, hR.keep (fr_iv q.1.2 (r := 13) rfl rfl (by decide) hs q.2) (fun _ => fr_iv q.1.2 (r := 14) rfl rfl (by decide) hs q.2) (fr_iv q.1.2 (r := 24) rfl rfl (by decide) hs q.2) (fun _ => fr_iv q.1.2 (r := 30) rfl rfl (by decide) hs q.2)⟩)
theorem op_67 (h100 : ro 100 = none) (hW : WT tGam tSets tRoles ro F) : PF ro n 67 0 [(0, .ref 0), (1, .int x1), (2, .int x2)] [] F (fun _ F1 => WT tGam tSets tRoles ro F1 ∧ FRm tGam ro nd138.ms F F1) := by
  refine node_tt (p := am67) (M := nd138) (vs := [.ref 0, .int x1, .int x2]) h100 (List.mem_of_getElem? (i := 67) rfl) (by simp [am67]) rfl (entG (wfA_wf (by decide +kernel)) rfl rfl rfl rfl rfl rfl rfl (pa_ok (r := 0) (a0 := 0) (m := 2) (xs := [x1, x2]) (by decide +kernel) rfl rfl) (fun q hq => ?_)) hW
  · have hq : q ∈ [(0, 0), (1, 1), (2, 2)] := hq
    simp only [List.mem_cons, List.not_mem_nil, or_false] at hq
    rcases hq with rfl | rfl | rfl <;> exact ⟨_, rfl, rfl⟩
theorem opR_67 (h100 : ro 100 = none) (hW : WT tGam tSets tRoles ro F) (hs : F.map zc = sh0) (hR : R4 F) : PF ro n 67 0 [(0, .ref 0), (1, .int x1), (2, .int x2)] [] F (fun _ F1 => WT tGam tSets tRoles ro F1 ∧ F1.map zc = sh0 ∧ R4 F1) :=
  ((op_67 h100 hW).and (PF.sh rfl hs)).imp (fun v F1 q => ⟨q.1.1, q.2, hR.keep (fr_iv q.1.2 (r := 13) rfl rfl (by decide) hs q.2) (fun _ => fr_iv q.1.2 (r := 14) rfl rfl (by decide) hs q.2) (fr_iv q.1.2 (r := 24) rfl rfl (by decide) hs q.2) (fun _ => fr_iv q.1.2 (r := 30) rfl rfl (by decide) hs q.2)⟩)
theorem op_69 (h100 : ro 100 = none) (hW : WT tGam tSets tRoles ro F) : PF ro n 69 0 [(0, .ref 0), (1, .int x1), (2, .int x2)] [] F (fun _ F1 => WT tGam tSets tRoles ro F1 ∧ FRm tGam ro nd137.ms F F1) := by
  refine node_tt (p := am69) (M := nd137) (vs := [.ref 0, .int x1, .int x2]) h100 (List.mem_of_getElem? (i := 69) rfl) (by simp [am69]) rfl (entG (wfA_wf (by decide +kernel)) rfl rfl rfl rfl rfl rfl rfl (pa_ok (r := 0) (a0 := 0) (m := 2) (xs := [x1, x2]) (by decide +kernel) rfl rfl) (fun q hq => ?_)) hW
  · have hq : q ∈ [(0, 0), (1, 1), (2, 2)] := hq
    simp only [List.mem_cons, List.not_mem_nil, or_false] at hq
    rcases hq with rfl | rfl | rfl <;> exact ⟨_, rfl, rfl⟩
theorem opR_69 (h100 : ro 100 = none) (hW : WT tGam tSets tRoles ro F) (hs : F.map zc = sh0) (hR : R4 F) : PF ro n 69 0 [(0, .ref 0), (1, .int x1), (2, .int x2)] [] F (fun _ F1 => WT tGam tSets tRoles ro F1 ∧ F1.map zc = sh0 ∧ R4 F1) :=
  ((op_69 h100 hW).and (PF.sh rfl hs)).imp (fun v F1 q => ⟨q.1.1, q.2, hR.keep (fr_iv q.1.2 (r := 13) rfl rfl (by decide) hs q.2) (fun _ => fr_iv q.1.2 (r := 14) rfl rfl (by decide) hs q.2) (fr_iv q.1.2 (r := 24) rfl rfl (by decide) hs q.2) (fun _ => fr_iv q.1.2 (r := 30) rfl rfl (by decide) hs q.2)⟩)
theorem op_75 (h100 : ro 100 = none) (hW : WT tGam tSets tRoles ro F) : PF ro n 75 0 [(0, .ref 0), (1, .int x1)] [] F (fun _ F1 => WT tGam tSets tRoles ro F1 ∧ FRm tGam ro nd136.ms F F1) := by
  refine node_tt (p := am75) (M := nd136) (vs := [.ref 0, .int x1]) h100 (List.mem_of_getElem? (i := 75) rfl) (by simp [am75]) rfl (entG (wfA_wf (by decide +kernel)) rfl rfl rfl rfl rfl rfl rfl (pa_ok (r := 0) (a0 := 0) (m := 1) (xs := [x1]) (by decide +kernel) rfl rfl) (fun q hq => ?_)) hW
  · have hq : q ∈ [(0, 0), (1, 1)] := hq
    simp only [List.mem_cons, List.not_mem_nil, or_false] at hq
    rcases hq with rfl | rfl <;> exact ⟨_, rfl, rfl⟩
theorem opR_75 (h100 : ro 100 = none) (hW : WT tGam tSets tRoles ro F) (hs : F.map zc = sh0) (hR : R4 F) : PF ro n 75 0 [(0, .ref 0), (1, .int x1)] [] F (fun _ F1 => WT tGam tSets tRoles ro F1 ∧ F1.map zc = sh0 ∧ R4 F1) :=
  ((op_75 h100 hW).and (PF.sh rfl hs)).imp (fun v F1 q => ⟨q.1.1, q.2, hR.keep (fr_iv q.1.2 (r := 13) rfl rfl (by decide) hs q.2) (fun _ => fr_iv q.1.2 (r := 14) rfl rfl (by decide) hs q.2) (fr_iv q.1.2 (r := 24) rfl rfl (by decide) hs q.2) (fun _ => fr_iv q.1.2 (r := 30) rfl rfl (by decide) hs q.2)⟩)
theorem op_81 (h100 : ro 100 = none) (hW : WT tGam tSets tRoles ro F) : PF ro n 81 0 [(0, .ref 0), (1, .int x1)] [] F (fun _ F1 => WT tGam tSets tRoles ro F1 ∧ FRm tGam ro nd135.ms F F1) := by
  refine node_tt (p := am81) (M := nd135) (vs := [.ref 0, .int x1]) h100 (List.mem_of_getElem? (i := 81) rfl) (by simp [am81]) rfl (entG (wfA_wf (by decide +kernel)) rfl rfl rfl rfl rfl rfl rfl (pa_ok (r := 0) (a0 := 0) (m := 1) (xs := [x1]) (by decide +kernel) rfl rfl) (fun q hq => ?_)) hW
  · have hq : q ∈ [(0, 0), (1, 1)] := hq
    simp only [List.mem_cons, List.not_mem_nil, or_false] at hq
    rcases hq with rfl | rfl <;> exact ⟨_, rfl, rfl⟩
theorem opR_81 (h100 : ro 100 = none) (hW : WT tGam tSets tRoles ro F) (hs : F.map zc = sh0) (hR : R4 F) : PF ro n 81 0 [(0, .ref 0), (1, .int x1)] [] F (fun _ F1 => WT tGam tSets tRoles ro F1 ∧ F1.map zc = sh0 ∧ R4 F1) :=
  ((op_81 h100 hW).and (PF.sh rfl hs)).imp (fun v F1 q => ⟨q.1.1, q.2, hR.keep (fr_iv q.1.2 (r := 13) rfl rfl (by decide) hs q.2) (fun _ => fr_iv q.1.2 (r := 14) rfl rfl (by decide) hs q.2) (fr_iv q.1.2 (r := 24) rfl rfl (by decide) hs q.2) (fun _ => fr_iv q.1.2 (r := 30) rfl rfl (by decide) hs q.2)⟩)
theorem op_82 (h100 : ro 100 = none) (hW : WT tGam tSets tRoles ro F) : PF ro n 82 0 [(0, .ref 0), (1, .int x1), (2, .int x2), (3, .int x3)] [] F (fun _ F1 => WT tGam tSets tRoles ro F1 ∧ FRm tGam ro nd134.ms F F1) := by
  refine node_tt (p := am82) (M := nd134) (vs := [.ref 0, .int x1, .int x2, .int x3]) h100 (List.mem_of_getElem? (i := 82) rfl) (by simp [am82]) rfl (entG (wfA_wf (by decide +kernel)) rfl rfl rfl rfl rfl rfl rfl (pa_ok (r := 0) (a0 := 0) (m := 3) (xs := [x1, x2, x3]) (by decide +kernel) rfl rfl) (fun q hq => ?_)) hW
  · have hq : q ∈ [(0, 0), (1, 1), (2, 2), (3, 3)] := hq
    simp only [List.mem_cons, List.not_mem_nil, or_false] at hq
    rcases hq with rfl | rfl | rfl | rfl <;> exact ⟨_, rfl, rfl⟩
theorem opR_82 (h100 : ro 100 = none) (hW : WT tGam tSets tRoles ro F) (hs : F.map zc = sh0) (hR : R4 F) : PF ro n 82 0 [(0, .ref 0), (1, .int x1), (2, .int x2), (3, .int x3)] [] F (fun _ F1 => WT tGam tSets tRoles ro F1 ∧ F1.map zc = sh0 ∧ R4 F1) :=
  ((op_82 h100 hW).and (PF.sh rfl hs)).imp (fun v F1 q => ⟨q.1.1, q.2, hR.keep (fr_iv q.1.2 (r := 13) rfl rfl (by decide) hs q.2) (fun _ => fr_iv q.1.2 (r := 14) rfl rfl (by decide) hs q.2) (fr_iv q.1.2 (r := 24) rfl rfl (by decide) hs q.2) (fun _ => fr_iv q.1.2 (r := 30) rfl rfl (by decide) hs q.2)⟩)
theorem op_83 (hb : x3 = 0 ∨ x3 = 1) (h100 : ro 100 = none) (hW : WT tGam tSets tRoles ro F) : PF ro n 83 0 [(0, .ref 0), (1, .int x1), (2, .int x2), (3, .int x3)] [] F (fun _ F1 => WT tGam tSets tRoles ro F1 ∧ FRm tGam ro nd133.ms F F1) := by
  refine node_tt (p := am83) (M := nd133) (vs := [.ref 0, .int x1, .int x2, .int x3]) h100 (List.mem_of_getElem? (i := 83) rfl) (by simp [am83]) rfl (entG (wfA_wf (by decide +kernel)) rfl rfl rfl rfl rfl rfl rfl (fun a ha => ?_) (fun q hq => ?_)) hW
  · have ha : a ∈ ([(0, 2, 0, 0, []), (1, 0, -2147483648, 2147483647, []), (2, 0, -2147483648, 2147483647, []), (3, 0, 0, 1, [])] : List AV) := ha
    simp only [List.mem_cons, List.not_mem_nil, or_false] at ha
    rcases ha with rfl | rfl | rfl | rfl
    · exact ⟨_, rfl, ⟨_, rfl, rfl⟩, fun r hr => by cases hr⟩
    · exact ⟨_, rfl, ⟨⟨_, rfl⟩, (i_rng x1).1, (i_rng x1).2⟩, fun r hr => by cases hr⟩
    · exact ⟨_, rfl, ⟨⟨_, rfl⟩, (i_rng x2).1, (i_rng x2).2⟩, fun r hr => by cases hr⟩
    · refine ⟨_, rfl, ⟨⟨_, rfl⟩, ?_, ?_⟩, fun r hr => by cases hr⟩
      · show 0 ≤ x3.toInt; rcases hb with rfl | rfl <;> decide
      · show x3.toInt ≤ 1; rcases hb with rfl | rfl <;> decide
  · have hq : q ∈ [(0, 0), (1, 1), (2, 2), (3, 3)] := hq
    simp only [List.mem_cons, List.not_mem_nil, or_false] at hq
    rcases hq with rfl | rfl | rfl | rfl <;> exact ⟨_, rfl, rfl⟩
theorem opR_83 (hb : x3 = 0 ∨ x3 = 1) (h100 : ro 100 = none) (hW : WT tGam tSets tRoles ro F) (hs : F.map zc = sh0) (hR : R4 F) : PF ro n 83 0 [(0, .ref 0), (1, .int x1), (2, .int x2), (3, .int x3)] [] F (fun _ F1 => WT tGam tSets tRoles ro F1 ∧ F1.map zc = sh0 ∧ R4 F1) :=
  ((op_83 hb h100 hW).and (PF.sh rfl hs)).imp (fun v F1 q => ⟨q.1.1, q.2, hR.keep (fr_iv q.1.2 (r := 13) rfl rfl (by decide) hs q.2) (fun _ => fr_iv q.1.2 (r := 14) rfl rfl (by decide) hs q.2) (fr_iv q.1.2 (r := 24) rfl rfl (by decide) hs q.2) (fun _ => fr_iv q.1.2 (r := 30) rfl rfl (by decide) hs q.2)⟩)
theorem op_84 (h100 : ro 100 = none) (hW : WT tGam tSets tRoles ro F) : PF ro n 84 0 [(0, .ref 0), (1, .int x1)] [] F (fun _ F1 => WT tGam tSets tRoles ro F1 ∧ FRm tGam ro nd132.ms F F1) := by
  refine node_tt (p := am84) (M := nd132) (vs := [.ref 0, .int x1]) h100 (List.mem_of_getElem? (i := 84) rfl) (by simp [am84]) rfl (entG (wfA_wf (by decide +kernel)) rfl rfl rfl rfl rfl rfl rfl (pa_ok (r := 0) (a0 := 0) (m := 1) (xs := [x1]) (by decide +kernel) rfl rfl) (fun q hq => ?_)) hW
  · have hq : q ∈ [(0, 0), (1, 1)] := hq
    simp only [List.mem_cons, List.not_mem_nil, or_false] at hq
    rcases hq with rfl | rfl <;> exact ⟨_, rfl, rfl⟩
theorem opR_84 (h100 : ro 100 = none) (hW : WT tGam tSets tRoles ro F) (hs : F.map zc = sh0) (hR : R4 F) : PF ro n 84 0 [(0, .ref 0), (1, .int x1)] [] F (fun _ F1 => WT tGam tSets tRoles ro F1 ∧ F1.map zc = sh0 ∧ R4 F1) :=
  ((op_84 h100 hW).and (PF.sh rfl hs)).imp (fun v F1 q => ⟨q.1.1, q.2, hR.keep (fr_iv q.1.2 (r := 13) rfl rfl (by decide) hs q.2) (fun _ => fr_iv q.1.2 (r := 14) rfl rfl (by decide) hs q.2) (fr_iv q.1.2 (r := 24) rfl rfl (by decide) hs q.2) (fun _ => fr_iv q.1.2 (r := 30) rfl rfl (by decide) hs q.2)⟩)
theorem op_85 (h100 : ro 100 = none) (hW : WT tGam tSets tRoles ro F) : PF ro n 85 0 [(0, .ref 0), (1, .int x1)] [] F (fun _ F1 => WT tGam tSets tRoles ro F1 ∧ FRm tGam ro nd131.ms F F1) := by
  refine node_tt (p := am85) (M := nd131) (vs := [.ref 0, .int x1]) h100 (List.mem_of_getElem? (i := 85) rfl) (by simp [am85]) rfl (entG (wfA_wf (by decide +kernel)) rfl rfl rfl rfl rfl rfl rfl (pa_ok (r := 0) (a0 := 0) (m := 1) (xs := [x1]) (by decide +kernel) rfl rfl) (fun q hq => ?_)) hW
  · have hq : q ∈ [(0, 0), (1, 1)] := hq
    simp only [List.mem_cons, List.not_mem_nil, or_false] at hq
    rcases hq with rfl | rfl <;> exact ⟨_, rfl, rfl⟩
theorem opR_85 (h100 : ro 100 = none) (hW : WT tGam tSets tRoles ro F) (hs : F.map zc = sh0) (hR : R4 F) : PF ro n 85 0 [(0, .ref 0), (1, .int x1)] [] F (fun _ F1 => WT tGam tSets tRoles ro F1 ∧ F1.map zc = sh0 ∧ R4 F1) :=
  ((op_85 h100 hW).and (PF.sh rfl hs)).imp (fun v F1 q => ⟨q.1.1, q.2, hR.keep (fr_iv q.1.2 (r := 13) rfl rfl (by decide) hs q.2) (fun _ => fr_iv q.1.2 (r := 14) rfl rfl (by decide) hs q.2) (fr_iv q.1.2 (r := 24) rfl rfl (by decide) hs q.2) (fun _ => fr_iv q.1.2 (r := 30) rfl rfl (by decide) hs q.2)⟩)
theorem op_86 (h100 : ro 100 = none) (hW : WT tGam tSets tRoles ro F) : PF ro n 86 0 [(0, .ref 0), (1, .int x1)] [] F (fun _ F1 => WT tGam tSets tRoles ro F1 ∧ FRm tGam ro nd130.ms F F1) := by
  refine node_tt (p := am86) (M := nd130) (vs := [.ref 0, .int x1]) h100 (List.mem_of_getElem? (i := 86) rfl) (by simp [am86]) rfl (entG (wfA_wf (by decide +kernel)) rfl rfl rfl rfl rfl rfl rfl (pa_ok (r := 0) (a0 := 0) (m := 1) (xs := [x1]) (by decide +kernel) rfl rfl) (fun q hq => ?_)) hW
  · have hq : q ∈ [(0, 0), (1, 1)] := hq
    simp only [List.mem_cons, List.not_mem_nil, or_false] at hq
    rcases hq with rfl | rfl <;> exact ⟨_, rfl, rfl⟩
theorem opR_86 (h100 : ro 100 = none) (hW : WT tGam tSets tRoles ro F) (hs : F.map zc = sh0) (hR : R4 F) : PF ro n 86 0 [(0, .ref 0), (1, .int x1)] [] F (fun _ F1 => WT tGam tSets tRoles ro F1 ∧ F1.map zc = sh0 ∧ R4 F1) :=
  ((op_86 h100 hW).and (PF.sh rfl hs)).imp (fun v F1 q => ⟨q.1.1, q.2, hR.keep (fr_iv q.1.2 (r := 13) rfl rfl (by decide) hs q.2) (fun _ => fr_iv q.1.2 (r := 14) rfl rfl (by decide) hs q.2) (fr_iv q.1.2 (r := 24) rfl rfl (by decide) hs q.2) (fun _ => fr_iv q.1.2 (r := 30) rfl rfl (by decide) hs q.2)⟩)
theorem op_93 (h100 : ro 100 = none) (hW : WT tGam tSets tRoles ro F) : PF ro n 93 0 [(0, .ref 0), (1, .int x1)] [] F (fun _ F1 => WT tGam tSets tRoles ro F1 ∧ FRm tGam ro nd129.ms F F1) := by
  refine node_tt (p := am93) (M := nd129) (vs := [.ref 0, .int x1]) h100 (List.mem_of_getElem? (i := 93) rfl) (by simp [am93]) rfl (entG (wfA_wf (by decide +kernel)) rfl rfl rfl rfl rfl rfl rfl (pa_ok (r := 0) (a0 := 0) (m := 1) (xs := [x1]) (by decide +kernel) rfl rfl) (fun q hq => ?_)) hW
  · have hq : q ∈ [(0, 0), (1, 1)] := hq
    simp only [List.mem_cons, List.not_mem_nil, or_false] at hq
    rcases hq with rfl | rfl <;> exact ⟨_, rfl, rfl⟩
theorem opR_93 (h100 : ro 100 = none) (hW : WT tGam tSets tRoles ro F) (hs : F.map zc = sh0) (hR : R4 F) : PF ro n 93 0 [(0, .ref 0), (1, .int x1)] [] F (fun _ F1 => WT tGam tSets tRoles ro F1 ∧ F1.map zc = sh0 ∧ R4 F1) :=
  ((op_93 h100 hW).and (PF.sh rfl hs)).imp (fun v F1 q => ⟨q.1.1, q.2, hR.keep (fr_iv q.1.2 (r := 13) rfl rfl (by decide) hs q.2) (fun _ => fr_iv q.1.2 (r := 14) rfl rfl (by decide) hs q.2) (fr_iv q.1.2 (r := 24) rfl rfl (by decide) hs q.2) (fun _ => fr_iv q.1.2 (r := 30) rfl rfl (by decide) hs q.2)⟩)
theorem op_94 (h100 : ro 100 = none) (hW : WT tGam tSets tRoles ro F) : PF ro n 94 0 [(0, .ref 0), (1, .int x1)] [] F (fun _ F1 => WT tGam tSets tRoles ro F1 ∧ FRm tGam ro nd128.ms F F1) := by
  refine node_tt (p := am94) (M := nd128) (vs := [.ref 0, .int x1]) h100 (List.mem_of_getElem? (i := 94) rfl) (by simp [am94]) rfl (entG (wfA_wf (by decide +kernel)) rfl rfl rfl rfl rfl rfl rfl (pa_ok (r := 0) (a0 := 0) (m := 1) (xs := [x1]) (by decide +kernel) rfl rfl) (fun q hq => ?_)) hW
  · have hq : q ∈ [(0, 0), (1, 1)] := hq
    simp only [List.mem_cons, List.not_mem_nil, or_false] at hq
    rcases hq with rfl | rfl <;> exact ⟨_, rfl, rfl⟩
theorem opR_94 (h100 : ro 100 = none) (hW : WT tGam tSets tRoles ro F) (hs : F.map zc = sh0) (hR : R4 F) : PF ro n 94 0 [(0, .ref 0), (1, .int x1)] [] F (fun _ F1 => WT tGam tSets tRoles ro F1 ∧ F1.map zc = sh0 ∧ R4 F1) :=
  ((op_94 h100 hW).and (PF.sh rfl hs)).imp (fun v F1 q => ⟨q.1.1, q.2, hR.keep (fr_iv q.1.2 (r := 13) rfl rfl (by decide) hs q.2) (fun _ => fr_iv q.1.2 (r := 14) rfl rfl (by decide) hs q.2) (fr_iv q.1.2 (r := 24) rfl rfl (by decide) hs q.2) (fun _ => fr_iv q.1.2 (r := 30) rfl rfl (by decide) hs q.2)⟩)
theorem op_95 (h100 : ro 100 = none) (hW : WT tGam tSets tRoles ro F) : PF ro n 95 0 [(0, .ref 0), (1, .int x1), (2, .int x2)] [] F (fun _ F1 => WT tGam tSets tRoles ro F1 ∧ FRm tGam ro nd127.ms F F1) := by
  refine node_tt (p := am95) (M := nd127) (vs := [.ref 0, .int x1, .int x2]) h100 (List.mem_of_getElem? (i := 95) rfl) (by simp [am95]) rfl (entG (wfA_wf (by decide +kernel)) rfl rfl rfl rfl rfl rfl rfl (pa_ok (r := 0) (a0 := 0) (m := 2) (xs := [x1, x2]) (by decide +kernel) rfl rfl) (fun q hq => ?_)) hW
  · have hq : q ∈ [(0, 0), (1, 1), (2, 2)] := hq
    simp only [List.mem_cons, List.not_mem_nil, or_false] at hq
    rcases hq with rfl | rfl | rfl <;> exact ⟨_, rfl, rfl⟩
theorem opR_95 (h100 : ro 100 = none) (hW : WT tGam tSets tRoles ro F) (hs : F.map zc = sh0) (hR : R4 F) : PF ro n 95 0 [(0, .ref 0), (1, .int x1), (2, .int x2)] [] F (fun _ F1 => WT tGam tSets tRoles ro F1 ∧ F1.map zc = sh0 ∧ R4 F1) :=
  ((op_95 h100 hW).and (PF.sh rfl hs)).imp (fun v F1 q => ⟨q.1.1, q.2, hR.keep (fr_iv q.1.2 (r := 13) rfl rfl (by decide) hs q.2) (fun _ => fr_iv q.1.2 (r := 14) rfl rfl (by decide) hs q.2) (fr_iv q.1.2 (r := 24) rfl rfl (by decide) hs q.2) (fun _ => fr_iv q.1.2 (r := 30) rfl rfl (by decide) hs q.2)⟩)
theorem op_107 (h100 : ro 100 = none) (hW : WT tGam tSets tRoles ro F) : PF ro n 107 0 [(0, .ref 0), (1, .int x1)] [] F (fun _ F1 => WT tGam tSets tRoles ro F1 ∧ FRm tGam ro nd126.ms F F1) := by
  refine node_tt (p := am107) (M := nd126) (vs := [.ref 0, .int x1]) h100 (List.mem_of_getElem? (i := 107) rfl) (by simp [am107]) rfl (entG (wfA_wf (by decide +kernel)) rfl rfl rfl rfl rfl rfl rfl (pa_ok (r := 0) (a0 := 0) (m := 1) (xs := [x1]) (by decide +kernel) rfl rfl) (fun q hq => ?_)) hW
  · have hq : q ∈ [(0, 0), (1, 1)] := hq
    simp only [List.mem_cons, List.not_mem_nil, or_false] at hq
    rcases hq with rfl | rfl <;> exact ⟨_, rfl, rfl⟩
theorem opR_107 (h100 : ro 100 = none) (hW : WT tGam tSets tRoles ro F) (hs : F.map zc = sh0) (hR : R4 F) : PF ro n 107 0 [(0, .ref 0), (1, .int x1)] [] F (fun _ F1 => WT tGam tSets tRoles ro F1 ∧ F1.map zc = sh0 ∧ R4 F1) :=
  ((op_107 h100 hW).and (PF.sh rfl hs)).imp (fun v F1 q => ⟨q.1.1, q.2, hR.keep (fr_iv q.1.2 (r := 13) rfl rfl (by decide) hs q.2) (fun _ => fr_iv q.1.2 (r := 14) rfl rfl (by decide) hs q.2) (fr_iv q.1.2 (r := 24) rfl rfl (by decide) hs q.2) (fun _ => fr_iv q.1.2 (r := 30) rfl rfl (by decide) hs q.2)⟩)
theorem op_109 (h100 : ro 100 = none) (hW : WT tGam tSets tRoles ro F) : PF ro n 109 0 [(0, .ref 0), (1, .int x1)] [] F (fun _ F1 => WT tGam tSets tRoles ro F1 ∧ FRm tGam ro nd125.ms F F1) := by
  refine node_tt (p := am109) (M := nd125) (vs := [.ref 0, .int x1]) h100 (List.mem_of_getElem? (i := 109) rfl) (by simp [am109]) rfl (entG (wfA_wf (by decide +kernel)) rfl rfl rfl rfl rfl rfl rfl (pa_ok (r := 0) (a0 := 0) (m := 1) (xs := [x1]) (by decide +kernel) rfl rfl) (fun q hq => ?_)) hW
  · have hq : q ∈ [(0, 0), (1, 1)] := hq
    simp only [List.mem_cons, List.not_mem_nil, or_false] at hq
    rcases hq with rfl | rfl <;> exact ⟨_, rfl, rfl⟩
theorem opR_109 (h100 : ro 100 = none) (hW : WT tGam tSets tRoles ro F) (hs : F.map zc = sh0) (hR : R4 F) : PF ro n 109 0 [(0, .ref 0), (1, .int x1)] [] F (fun _ F1 => WT tGam tSets tRoles ro F1 ∧ F1.map zc = sh0 ∧ R4 F1) :=
  ((op_109 h100 hW).and (PF.sh rfl hs)).imp (fun v F1 q => ⟨q.1.1, q.2, hR.keep (fr_iv q.1.2 (r := 13) rfl rfl (by decide) hs q.2) (fun _ => fr_iv q.1.2 (r := 14) rfl rfl (by decide) hs q.2) (fr_iv q.1.2 (r := 24) rfl rfl (by decide) hs q.2) (fun _ => fr_iv q.1.2 (r := 30) rfl rfl (by decide) hs q.2)⟩)
theorem op_111 (h100 : ro 100 = none) (hW : WT tGam tSets tRoles ro F) : PF ro n 111 0 [(0, .ref 0), (1, .int x1), (2, .int x2), (3, .int x3)] [] F (fun _ F1 => WT tGam tSets tRoles ro F1 ∧ FRm tGam ro nd124.ms F F1) := by
  refine node_tt (p := am111) (M := nd124) (vs := [.ref 0, .int x1, .int x2, .int x3]) h100 (List.mem_of_getElem? (i := 111) rfl) (by simp [am111]) rfl (entG (wfA_wf (by decide +kernel)) rfl rfl rfl rfl rfl rfl rfl (pa_ok (r := 0) (a0 := 0) (m := 3) (xs := [x1, x2, x3]) (by decide +kernel) rfl rfl) (fun q hq => ?_)) hW
  · have hq : q ∈ [(0, 0), (1, 1), (2, 2), (3, 3)] := hq
    simp only [List.mem_cons, List.not_mem_nil, or_false] at hq
    rcases hq with rfl | rfl | rfl | rfl <;> exact ⟨_, rfl, rfl⟩
theorem opR_111 (h100 : ro 100 = none) (hW : WT tGam tSets tRoles ro F) (hs : F.map zc = sh0) (hR : R4 F) : PF ro n 111 0 [(0, .ref 0), (1, .int x1), (2, .int x2), (3, .int x3)] [] F (fun _ F1 => WT tGam tSets tRoles ro F1 ∧ F1.map zc = sh0 ∧ R4 F1) :=
  ((op_111 h100 hW).and (PF.sh rfl hs)).imp (fun v F1 q => ⟨q.1.1, q.2, hR.keep (fr_iv q.1.2 (r := 13) rfl rfl (by decide) hs q.2) (fun _ => fr_iv q.1.2 (r := 14) rfl rfl (by decide) hs q.2) (fr_iv q.1.2 (r := 24) rfl rfl (by decide) hs q.2) (fun _ => fr_iv q.1.2 (r := 30) rfl rfl (by decide) hs q.2)⟩)
theorem op_113 (h100 : ro 100 = none) (hW : WT tGam tSets tRoles ro F) : PF ro n 113 0 [(0, .ref 0), (1, .int x1)] [] F (fun _ F1 => WT tGam tSets tRoles ro F1 ∧ FRm tGam ro nd123.ms F F1) := by
  refine node_tt (p := am113) (M := nd123) (vs := [.ref 0, .int x1]) h100 (List.mem_of_getElem? (i := 113) rfl) (by simp [am113]) rfl (entG (wfA_wf (by decide +kernel)) rfl rfl rfl rfl rfl rfl rfl (pa_ok (r := 0) (a0 := 0) (m := 1) (xs := [x1]) (by decide +kernel) rfl rfl) (fun q hq => ?_)) hW
  · have hq : q ∈ [(0, 0), (1, 1)] := hq
    simp only [List.mem_cons, List.not_mem_nil, or_false] at hq
    rcases hq with rfl | rfl <;> exact ⟨_, rfl, rfl⟩
theorem opR_113 (h100 : ro 100 = none) (hW : WT tGam tSets tRoles ro F) (hs : F.map zc = sh0) (hR : R4 F) : PF ro n 113 0 [(0, .ref 0), (1, .int x1)] [] F (fun _ F1 => WT tGam tSets tRoles ro F1 ∧ F1.map zc = sh0 ∧ R4 F1) :=
  ((op_113 h100 hW).and (PF.sh rfl hs)).imp (fun v F1 q => ⟨q.1.1, q.2, hR.keep (fr_iv q.1.2 (r := 13) rfl rfl (by decide) hs q.2) (fun _ => fr_iv q.1.2 (r := 14) rfl rfl (by decide) hs q.2) (fr_iv q.1.2 (r := 24) rfl rfl (by decide) hs q.2) (fun _ => fr_iv q.1.2 (r := 30) rfl rfl (by decide) hs q.2)⟩)
theorem op_114 (h100 : ro 100 = none) (hW : WT tGam tSets tRoles ro F) : PF ro n 114 0 [(0, .ref 0), (1, .int x1)] [] F (fun _ F1 => WT tGam tSets tRoles ro F1 ∧ FRm tGam ro nd122.ms F F1) := by
  refine node_tt (p := am114) (M := nd122) (vs := [.ref 0, .int x1]) h100 (List.mem_of_getElem? (i := 114) rfl) (by simp [am114]) rfl (entG (wfA_wf (by decide +kernel)) rfl rfl rfl rfl rfl rfl rfl (pa_ok (r := 0) (a0 := 0) (m := 1) (xs := [x1]) (by decide +kernel) rfl rfl) (fun q hq => ?_)) hW
  · have hq : q ∈ [(0, 0), (1, 1)] := hq
    simp only [List.mem_cons, List.not_mem_nil, or_false] at hq
    rcases hq with rfl | rfl <;> exact ⟨_, rfl, rfl⟩
theorem opR_114 (h100 : ro 100 = none) (hW : WT tGam tSets tRoles ro F) (hs : F.map zc = sh0) (hR : R4 F) : PF ro n 114 0 [(0, .ref 0), (1, .int x1)] [] F (fun _ F1 => WT tGam tSets tRoles ro F1 ∧ F1.map zc = sh0 ∧ R4 F1) :=
  ((op_114 h100 hW).and (PF.sh rfl hs)).imp (fun v F1 q => ⟨q.1.1, q.2, hR.keep (fr_iv q.1.2 (r := 13) rfl rfl (by decide) hs q.2) (fun _ => fr_iv q.1.2 (r := 14) rfl rfl (by decide) hs q.2) (fr_iv q.1.2 (r := 24) rfl rfl (by decide) hs q.2) (fun _ => fr_iv q.1.2 (r := 30) rfl rfl (by decide) hs q.2)⟩)
theorem op_117 (h100 : ro 100 = none) (hW : WT tGam tSets tRoles ro F) : PF ro n 117 0 [(0, .ref 0)] [] F (fun _ F1 => WT tGam tSets tRoles ro F1 ∧ FRm tGam ro nd121.ms F F1) := by
  refine node_tt (p := am117) (M := nd121) (vs := [.ref 0]) h100 (List.mem_of_getElem? (i := 117) rfl) (by simp [am117]) rfl (entG (wfA_wf (by decide +kernel)) rfl rfl rfl rfl rfl rfl rfl (pa_ok (r := 0) (a0 := 0) (m := 0) (xs := []) (by decide +kernel) rfl rfl) (fun q hq => ?_)) hW
  · have hq : q ∈ [(0, 0)] := hq
    simp only [List.mem_cons, List.not_mem_nil, or_false] at hq
    rcases hq with rfl <;> exact ⟨_, rfl, rfl⟩
theorem opR_117 (h100 : ro 100 = none) (hW : WT tGam tSets tRoles ro F) (hs : F.map zc = sh0) (hR : R4 F) : PF ro n 117 0 [(0, .ref 0)] [] F (fun _ F1 => WT tGam tSets tRoles ro F1 ∧ F1.map zc = sh0 ∧ R4 F1) :=
  ((op_117 h100 hW).and (PF.sh rfl hs)).imp (fun v F1 q => ⟨q.1.1, q.2, hR.keep (fr_iv q.1.2 (r := 13) rfl rfl (by decide) hs q.2) (fun _ => fr_iv q.1.2 (r := 14) rfl rfl (by decide) hs q.2) (fr_iv q.1.2 (r := 24) rfl rfl (by decide) hs q.2) (fun _ => fr_iv q.1.2 (r := 30) rfl rfl (by decide) hs q.2)⟩)
theorem op_118 (h100 : ro 100 = none) (hW : WT tGam tSets tRoles ro F) : PF ro n 118 0 [(0, .ref 0), (1, .int x1)] [] F (fun _ F1 => WT tGam tSets tRoles ro F1 ∧ FRm tGam ro nd120.ms F F1) := by
  refine node_tt (p := am118) (M := nd120) (vs := [.ref 0, .int x1]) h100 (List.mem_of_getElem? (i := 118) rfl) (by simp [am118]) rfl (entG (wfA_wf (by decide +kernel)) rfl rfl rfl rfl rfl rfl rfl (pa_ok (r := 0) (a0 := 0) (m := 1) (xs := [x1]) (by decide +kernel) rfl rfl) (fun q hq => ?_)) hW
  · have hq : q ∈ [(0, 0), (1, 1)] := hq
    simp only [List.mem_cons, List.not_mem_nil, or_false] at hq
    rcases hq with rfl | rfl <;> exact ⟨_, rfl, rfl⟩
theorem opR_118 (h100 : ro 100 = none) (hW : WT tGam tSets tRoles ro F) (hs : F.map zc = sh0) (hR : R4 F) : PF ro n 118 0 [(0, .ref 0), (1, .int x1)] [] F (fun _ F1 => WT tGam tSets tRoles ro F1 ∧ F1.map zc = sh0 ∧ R4 F1) :=
  ((op_118 h100 hW).and (PF.sh rfl hs)).imp (fun v F1 q => ⟨q.1.1, q.2, hR.keep (fr_iv q.1.2 (r := 13) rfl rfl (by decide) hs q.2) (fun _ => fr_iv q.1.2 (r := 14) rfl rfl (by decide) hs q.2) (fr_iv q.1.2 (r := 24) rfl rfl (by decide) hs q.2) (fun _ => fr_iv q.1.2 (r := 30) rfl rfl (by decide) hs q.2)⟩)
theorem op_121 (h100 : ro 100 = none) (hW : WT tGam tSets tRoles ro F) : PF ro n 121 0 [(0, .ref 0), (1, .int x1), (2, .int x2), (3, .int x3)] [] F (fun _ F1 => WT tGam tSets tRoles ro F1 ∧ FRm tGam ro nd119.ms F F1) := by
  refine node_tt (p := am121) (M := nd119) (vs := [.ref 0, .int x1, .int x2, .int x3]) h100 (List.mem_of_getElem? (i := 121) rfl) (by simp [am121]) rfl (entG (wfA_wf (by decide +kernel)) rfl rfl rfl rfl rfl rfl rfl (pa_ok (r := 0) (a0 := 0) (m := 3) (xs := [x1, x2, x3]) (by decide +kernel) rfl rfl) (fun q hq => ?_)) hW
  · have hq : q ∈ [(0, 0), (1, 1), (2, 2), (3, 3)] := hq
    simp only [List.mem_cons, List.not_mem_nil, or_false] at hq
    rcases hq with rfl | rfl | rfl | rfl <;> exact ⟨_, rfl, rfl⟩
theorem opR_121 (h100 : ro 100 = none) (hW : WT tGam tSets tRoles ro F) (hs : F.map zc = sh0) (hR : R4 F) : PF ro n 121 0 [(0, .ref 0), (1, .int x1), (2, .int x2), (3, .int x3)] [] F (fun _ F1 => WT tGam tSets tRoles ro F1 ∧ F1.map zc = sh0 ∧ R4 F1) :=
  ((op_121 h100 hW).and (PF.sh rfl hs)).imp (fun v F1 q => ⟨q.1.1, q.2, hR.keep (fr_iv q.1.2 (r := 13) rfl rfl (by decide) hs q.2) (fun _ => fr_iv q.1.2 (r := 14) rfl rfl (by decide) hs q.2) (fr_iv q.1.2 (r := 24) rfl rfl (by decide) hs q.2) (fun _ => fr_iv q.1.2 (r := 30) rfl rfl (by decide) hs q.2)⟩)
theorem op_127 (h100 : ro 100 = none) (hW : WT tGam tSets tRoles ro F) : PF ro n 127 0 [(0, .ref 0), (1, .int x1), (2, .int x2)] [] F (fun _ F1 => WT tGam tSets tRoles ro F1 ∧ FRm tGam ro nd118.ms F F1) := by
  refine node_tt (p := am127) (M := nd118) (vs := [.ref 0, .int x1, .int x2]) h100 (List.mem_of_getElem? (i := 127) rfl) (by simp [am127]) rfl (entG (wfA_wf (by decide +kernel)) rfl rfl rfl rfl rfl rfl rfl (pa_ok (r := 0) (a0 := 0) (m := 2) (xs := [x1, x2]) (by decide +kernel) rfl rfl) (fun q hq => ?_)) hW
  · have hq : q ∈ [(0, 0), (1, 1), (2, 2)] := hq
    simp only [List.mem_cons, List.not_mem_nil, or_false] at hq
    rcases hq with rfl | rfl | rfl <;> exact ⟨_, rfl, rfl⟩
theorem opR_127 (h100 : ro 100 = none) (hW : WT tGam tSets tRoles ro F) (hs : F.map zc = sh0) (hR : R4 F) : PF ro n 127 0 [(0, .ref 0), (1, .int x1), (2, .int x2)] [] F (fun _ F1 => WT tGam tSets tRoles ro F1 ∧ F1.map zc = sh0 ∧ R4 F1) :=
  ((op_127 h100 hW).and (PF.sh rfl hs)).imp (fun v F1 q => ⟨q.1.1, q.2, hR.keep (fr_iv q.1.2 (r := 13) rfl rfl (by decide) hs q.2) (fun _ => fr_iv q.1.2 (r := 14) rfl rfl (by decide) hs q.2) (fr_iv q.1.2 (r := 24) rfl rfl (by decide) hs q.2) (fun _ => fr_iv q.1.2 (r := 30) rfl rfl (by decide) hs q.2)⟩)
theorem op_128 (h100 : ro 100 = none) (hW : WT tGam tSets tRoles ro F) : PF ro n 128 0 [(0, .ref 0), (1, .int x1), (2, .int x2), (3, .int x3)] [] F (fun _ F1 => WT tGam tSets tRoles ro F1 ∧ FRm tGam ro nd117.ms F F1) := by
  refine node_tt (p := am128) (M := nd117) (vs := [.ref 0, .int x1, .int x2, .int x3]) h100 (List.mem_of_getElem? (i := 128) rfl) (by simp [am128]) rfl (entG (wfA_wf (by decide +kernel)) rfl rfl rfl rfl rfl rfl rfl (pa_ok (r := 0) (a0 := 0) (m := 3) (xs := [x1, x2, x3]) (by decide +kernel) rfl rfl) (fun q hq => ?_)) hW
  · have hq : q ∈ [(0, 0), (1, 1), (2, 2), (3, 3)] := hq
    simp only [List.mem_cons, List.not_mem_nil, or_false] at hq
    rcases hq with rfl | rfl | rfl | rfl <;> exact ⟨_, rfl, rfl⟩
theorem opR_128 (h100 : ro 100 = none) (hW : WT tGam tSets tRoles ro F) (hs : F.map zc = sh0) (hR : R4 F) : PF ro n 128 0 [(0, .ref 0), (1, .int x1), (2, .int x2), (3, .int x3)] [] F (fun _ F1 => WT tGam tSets tRoles ro F1 ∧ F1.map zc = sh0 ∧ R4 F1) :=
  ((op_128 h100 hW).and (PF.sh rfl hs)).imp (fun v F1 q => ⟨q.1.1, q.2, hR.keep (fr_iv q.1.2 (r := 13) rfl rfl (by decide) hs q.2) (fun _ => fr_iv q.1.2 (r := 14) rfl rfl (by decide) hs q.2) (fr_iv q.1.2 (r := 24) rfl rfl (by decide) hs q.2) (fun _ => fr_iv q.1.2 (r := 30) rfl rfl (by decide) hs q.2)⟩)
theorem op_130 (h100 : ro 100 = none) (hW : WT tGam tSets tRoles ro F) : PF ro n 130 0 [(0, .ref 0), (1, .int x1)] [] F (fun _ F1 => WT tGam tSets tRoles ro F1 ∧ FRm tGam ro nd116.ms F F1) := by
  refine node_tt (p := am130) (M := nd116) (vs := [.ref 0, .int x1]) h100 (List.mem_of_getElem? (i := 130) rfl) (by simp [am130]) rfl (entG (wfA_wf (by decide +kernel)) rfl rfl rfl rfl rfl rfl rfl (pa_ok (r := 0) (a0 := 0) (m := 1) (xs := [x1]) (by decide +kernel) rfl rfl) (fun q hq => ?_)) hW
  · have hq : q ∈ [(0, 0), (1, 1)] := hq
    simp only [List.mem_cons, List.not_mem_nil, or_false] at hq
    rcases hq with rfl | rfl <;> exact ⟨_, rfl, rfl⟩
theorem opR_130 (h100 : ro 100 = none) (hW : WT tGam tSets tRoles ro F) (hs : F.map zc = sh0) (hR : R4 F) : PF ro n 130 0 [(0, .ref 0), (1, .int x1)] [] F (fun _ F1 => WT tGam tSets tRoles ro F1 ∧ F1.map zc = sh0 ∧ R4 F1) :=
  ((op_130 h100 hW).and (PF.sh rfl hs)).imp (fun v F1 q => ⟨q.1.1, q.2, hR.keep (fr_iv q.1.2 (r := 13) rfl rfl (by decide) hs q.2) (fun _ => fr_iv q.1.2 (r := 14) rfl rfl (by decide) hs q.2) (fr_iv q.1.2 (r := 24) rfl rfl (by decide) hs q.2) (fun _ => fr_iv q.1.2 (r := 30) rfl rfl (by decide) hs q.2)⟩)
theorem op_131 (h100 : ro 100 = none) (hW : WT tGam tSets tRoles ro F) : PF ro n 131 0 [(0, .ref 0), (1, .int x1)] [] F (fun _ F1 => WT tGam tSets tRoles ro F1 ∧ FRm tGam ro nd115.ms F F1) := by
  refine node_tt (p := am131) (M := nd115) (vs := [.ref 0, .int x1]) h100 (List.mem_of_getElem? (i := 131) rfl) (by simp [am131]) rfl (entG (wfA_wf (by decide +kernel)) rfl rfl rfl rfl rfl rfl rfl (pa_ok (r := 0) (a0 := 0) (m := 1) (xs := [x1]) (by decide +kernel) rfl rfl) (fun q hq => ?_)) hW
  · have hq : q ∈ [(0, 0), (1, 1)] := hq
    simp only [List.mem_cons, List.not_mem_nil, or_false] at hq
    rcases hq with rfl | rfl <;> exact ⟨_, rfl, rfl⟩
theorem opR_131 (h100 : ro 100 = none) (hW : WT tGam tSets tRoles ro F) (hs : F.map zc = sh0) (hR : R4 F) : PF ro n 131 0 [(0, .ref 0), (1, .int x1)] [] F (fun _ F1 => WT tGam tSets tRoles ro F1 ∧ F1.map zc = sh0 ∧ R4 F1) :=
  ((op_131 h100 hW).and (PF.sh rfl hs)).imp (fun v F1 q => ⟨q.1.1, q.2, hR.keep (fr_iv q.1.2 (r := 13) rfl rfl (by decide) hs q.2) (fun _ => fr_iv q.1.2 (r := 14) rfl rfl (by decide) hs q.2) (fr_iv q.1.2 (r := 24) rfl rfl (by decide) hs q.2) (fun _ => fr_iv q.1.2 (r := 30) rfl rfl (by decide) hs q.2)⟩)
theorem op_132 (h100 : ro 100 = none) (hW : WT tGam tSets tRoles ro F) : PF ro n 132 0 [(0, .ref 0), (1, .int x1), (2, .int x2), (3, .int x3)] [] F (fun _ F1 => WT tGam tSets tRoles ro F1 ∧ FRm tGam ro nd114.ms F F1) := by
  refine node_tt (p := am132) (M := nd114) (vs := [.ref 0, .int x1, .int x2, .int x3]) h100 (List.mem_of_getElem? (i := 132) rfl) (by simp [am132]) rfl (entG (wfA_wf (by decide +kernel)) rfl rfl rfl rfl rfl rfl rfl (pa_ok (r := 0) (a0 := 0) (m := 3) (xs := [x1, x2, x3]) (by decide +kernel) rfl rfl) (fun q hq => ?_)) hW
  · have hq : q ∈ [(0, 0), (1, 1), (2, 2), (3, 3)] := hq
    simp only [List.mem_cons, List.not_mem_nil, or_false] at hq
    rcases hq with rfl | rfl | rfl | rfl <;> exact ⟨_, rfl, rfl⟩
theorem opR_132 (h100 : ro 100 = none) (hW : WT tGam tSets tRoles ro F) (hs : F.map zc = sh0) (hR : R4 F) : PF ro n 132 0 [(0, .ref 0), (1, .int x1), (2, .int x2), (3, .int x3)] [] F (fun _ F1 => WT tGam tSets tRoles ro F1 ∧ F1.map zc = sh0 ∧ R4 F1) :=
  ((op_132 h100 hW).and (PF.sh rfl hs)).imp (fun v F1 q => ⟨q.1.1, q.2, hR.keep (fr_iv q.1.2 (r := 13) rfl rfl (by decide) hs q.2) (fun _ => fr_iv q.1.2 (r := 14) rfl rfl (by decide) hs q.2) (fr_iv q.1.2 (r := 24) rfl rfl (by decide) hs q.2) (fun _ => fr_iv q.1.2 (r := 30) rfl rfl (by decide) hs q.2)⟩)
theorem op_136 (h100 : ro 100 = none) (hW : WT tGam tSets tRoles ro F) : PF ro n 136 0 [(0, .ref 0), (1, .int x1), (2, .int x2), (3, .int x3)] [] F (fun _ F1 => WT tGam tSets tRoles ro F1 ∧ FRm tGam ro nd113.ms F F1) := by
  refine node_tt (p := am136) (M := nd113) (vs := [.ref 0, .int x1, .int x2, .int x3]) h100 (List.mem_of_getElem? (i := 136) rfl) (by simp [am136]) rfl (entG (wfA_wf (by decide +kernel)) rfl rfl rfl rfl rfl rfl rfl (pa_ok (r := 0) (a0 := 0) (m := 3) (xs := [x1, x2, x3]) (by decide +kernel) rfl rfl) (fun q hq => ?_)) hW
  · have hq : q ∈ [(0, 0), (1, 1), (2, 2), (3, 3)] := hq
    simp only [List.mem_cons, List.not_mem_nil, or_false] at hq
    rcases hq with rfl | rfl | rfl | rfl <;> exact ⟨_, rfl, rfl⟩
theorem opR_136 (h100 : ro 100 = none) (hW : WT tGam tSets tRoles ro F) (hs : F.map zc = sh0) (hR : R4 F) : PF ro n 136 0 [(0, .ref 0), (1, .int x1), (2, .int x2), (3, .int x3)] [] F (fun _ F1 => WT tGam tSets tRoles ro F1 ∧ F1.map zc = sh0 ∧ R4 F1) :=
  ((op_136 h100 hW).and (PF.sh rfl hs)).imp (fun v F1 q => ⟨q.1.1, q.2, hR.keep (fr_iv q.1.2 (r := 13) rfl rfl (by decide) hs q.2) (fun _ => fr_iv q.1.2 (r := 14) rfl rfl (by decide) hs q.2) (fr_iv q.1.2 (r := 24) rfl rfl (by decide) hs q.2) (fun _ => fr_iv q.1.2 (r := 30) rfl rfl (by decide) hs q.2)⟩)
theorem op_139 (h100 : ro 100 = none) (hW : WT tGam tSets tRoles ro F) : PF ro n 139 0 [(0, .ref 0), (1, .int x1), (2, .int x2), (3, .int x3), (4, .int x4)] [] F (fun _ F1 => WT tGam tSets tRoles ro F1 ∧ FRm tGam ro nd112.ms F F1) := by
  refine node_tt (p := am139) (M := nd112) (vs := [.ref 0, .int x1, .int x2, .int x3, .int x4]) h100 (List.mem_of_getElem? (i := 139) rfl) (by simp [am139]) rfl (entG (wfA_wf (by decide +kernel)) rfl rfl rfl rfl rfl rfl rfl (pa_ok (r := 0) (a0 := 0) (m := 4) (xs := [x1, x2, x3, x4]) (by decide +kernel) rfl rfl) (fun q hq => ?_)) hW
  · have hq : q ∈ [(0, 0), (1, 1), (2, 2), (3, 3), (4, 4)] := hq
    simp only [List.mem_cons, List.not_mem_nil, or_false] at hq
    rcases hq with rfl | rfl | rfl | rfl | rfl <;> exact ⟨_, rfl, rfl⟩
theorem opR_139 (h100 : ro 100 = none) (hW : WT tGam tSets tRoles ro F) (hs : F.map zc = sh0) (hR : R4 F) : PF ro n 139 0 [(0, .ref 0), (1, .int x1), (2, .int x2), (3, .int x3), (4, .int x4)] [] F (fun _ F1 => WT tGam tSets tRoles ro F1 ∧ F1.map zc = sh0 ∧ R4 F1) :=
  ((op_139 h100 hW).and (PF.sh rfl hs)).imp (fun v F1 q => ⟨q.1.1, q.2, hR.keep (fr_iv q.1.2 (r := 13) rfl rfl (by decide) hs q.2) (fun _ => fr_iv q.1.2 (r := 14) rfl rfl (by decide) hs q.2) (fr_iv q.1.2 (r := 24) rfl rfl (by decide) hs q.2) (fun _ => fr_iv q.1.2 (r := 30) rfl rfl (by decide) hs q.2)⟩)
theorem op_142 (h100 : ro 100 = none) (hW : WT tGam tSets tRoles ro F) : PF ro n 142 0 [(0, .ref 0)] [] F (fun _ F1 => WT tGam tSets tRoles ro F1 ∧ FRm tGam ro nd111.ms F F1) := by
  refine node_tt (p := am142) (M := nd111) (vs := [.ref 0]) h100 (List.mem_of_getElem? (i := 142) rfl) (by simp [am142]) rfl (entG (wfA_wf (by decide +kernel)) rfl rfl rfl rfl rfl rfl rfl (pa_ok (r := 0) (a0 := 0) (m := 0) (xs := []) (by decide +kernel) rfl rfl) (fun q hq => ?_)) hW
  · have hq : q ∈ [(0, 0)] := hq
    simp only [List.mem_cons, List.not_mem_nil, or_false] at hq
    rcases hq with rfl <;> exact ⟨_, rfl, rfl⟩
theorem opR_142 (h100 : ro 100 = none) (hW : WT tGam tSets tRoles ro F) (hs : F.map zc = sh0) (hR : R4 F) : PF ro n 142 0 [(0, .ref 0)] [] F (fun _ F1 => WT tGam tSets tRoles ro F1 ∧ F1.map zc = sh0 ∧ R4 F1) :=
  ((op_142 h100 hW).and (PF.sh rfl hs)).imp (fun v F1 q => ⟨q.1.1, q.2, hR.keep (fr_iv q.1.2 (r := 13) rfl rfl (by decide) hs q.2) (fun _ => fr_iv q.1.2 (r := 14) rfl rfl (by decide) hs q.2) (fr_iv q.1.2 (r := 24) rfl rfl (by decide) hs q.2) (fun _ => fr_iv q.1.2 (r := 30) rfl rfl (by decide) hs q.2)⟩)
theorem op_143 (h100 : ro 100 = none) (hW : WT tGam tSets tRoles ro F) : PF ro n 143 0 [(0, .ref 0), (1, .int x1)] [] F (fun _ F1 => WT tGam tSets tRoles ro F1 ∧ FRm tGam ro nd110.ms F F1) := by
  refine node_tt (p := am143) (M := nd110) (vs := [.ref 0, .int x1]) h100 (List.mem_of_getElem? (i := 143) rfl) (by simp [am143]) rfl (entG (wfA_wf (by decide +kernel)) rfl rfl rfl rfl rfl rfl rfl (pa_ok (r := 0) (a0 := 0) (m := 1) (xs := [x1]) (by decide +kernel) rfl rfl) (fun q hq => ?_)) hW
  · have hq : q ∈ [(0, 0), (1, 1)] := hq
    simp only [List.mem_cons, List.not_mem_nil, or_false] at hq
    rcases hq with rfl | rfl <;> exact ⟨_, rfl, rfl⟩
theorem opR_143 (h100 : ro 100 = none) (hW : WT tGam tSets tRoles ro F) (hs : F.map zc = sh0) (hR : R4 F) : PF ro n 143 0 [(0, .ref 0), (1, .int x1)] [] F (fun _ F1 => WT tGam tSets tRoles ro F1 ∧ F1.map zc = sh0 ∧ R4 F1) :=
  ((op_143 h100 hW).and (PF.sh rfl hs)).imp (fun v F1 q => ⟨q.1.1, q.2, hR.keep (fr_iv q.1.2 (r := 13) rfl rfl (by decide) hs q.2) (fun _ => fr_iv q.1.2 (r := 14) rfl rfl (by decide) hs q.2) (fr_iv q.1.2 (r := 24) rfl rfl (by decide) hs q.2) (fun _ => fr_iv q.1.2 (r := 30) rfl rfl (by decide) hs q.2)⟩)
theorem op_147 (h100 : ro 100 = none) (hW : WT tGam tSets tRoles ro F) : PF ro n 147 0 [(0, .ref 129), (1, .int x1)] [] F (fun _ F1 => WT tGam tSets tRoles ro F1 ∧ FRm tGam ro nd208.ms F F1) := by
  refine node_tt (p := am147) (M := nd208) (vs := [.ref 129, .int x1]) h100 (List.mem_of_getElem? (i := 147) rfl) (by simp [am147]) rfl (entG (wfA_wf (by decide +kernel)) rfl rfl rfl rfl rfl rfl rfl (pa_ok (r := 24) (a0 := 129) (m := 1) (xs := [x1]) (by decide +kernel) rfl rfl) (fun q hq => ?_)) hW
  · have hq : q ∈ [(0, 0), (1, 1)] := hq
    simp only [List.mem_cons, List.not_mem_nil, or_false] at hq
    rcases hq with rfl | rfl <;> exact ⟨_, rfl, rfl⟩
theorem op_149 (h100 : ro 100 = none) (hW : WT tGam tSets tRoles ro F) : PF ro n 149 0 [(0, .ref 129), (1, .int x1)] [] F (fun _ F1 => WT tGam tSets tRoles ro F1 ∧ FRm tGam ro nd207.ms F F1) := by
  refine node_tt (p := am149) (M := nd207) (vs := [.ref 129, .int x1]) h100 (List.mem_of_getElem? (i := 149) rfl) (by simp [am149]) rfl (entG (wfA_wf (by decide +kernel)) rfl rfl rfl rfl rfl rfl rfl (pa_ok (r := 24) (a0 := 129) (m := 1) (xs := [x1]) (by decide +kernel) rfl rfl) (fun q hq => ?_)) hW
  · have hq : q ∈ [(0, 0), (1, 1)] := hq
    simp only [List.mem_cons, List.not_mem_nil, or_false] at hq
    rcases hq with rfl | rfl <;> exact ⟨_, rfl, rfl⟩
theorem op_150 (h100 : ro 100 = none) (hW : WT tGam tSets tRoles ro F) : PF ro n 150 0 [(0, .ref 129)] [] F (fun _ F1 => WT tGam tSets tRoles ro F1 ∧ FRm tGam ro nd293.ms F F1) := by
  refine node_tt (p := am150) (M := nd293) (vs := [.ref 129]) h100 (List.mem_of_getElem? (i := 150) rfl) (by simp [am150]) rfl (entG (wfA_wf (by decide +kernel)) rfl rfl rfl rfl rfl rfl rfl (pa_ok (r := 24) (a0 := 129) (m := 0) (xs := []) (by decide +kernel) rfl rfl) (fun q hq => ?_)) hW
  · have hq : q ∈ [(0, 0)] := hq
    simp only [List.mem_cons, List.not_mem_nil, or_false] at hq
    rcases hq with rfl <;> exact ⟨_, rfl, rfl⟩
theorem op_166 (h100 : ro 100 = none) (hW : WT tGam tSets tRoles ro F) : PF ro n 166 0 [(0, .ref 129)] [] F (fun _ F1 => WT tGam tSets tRoles ro F1 ∧ FRm tGam ro nd206.ms F F1) := by
  refine node_tt (p := am166) (M := nd206) (vs := [.ref 129]) h100 (List.mem_of_getElem? (i := 166) rfl) (by simp [am166]) rfl (entG (wfA_wf (by decide +kernel)) rfl rfl rfl rfl rfl rfl rfl (pa_ok (r := 24) (a0 := 129) (m := 0) (xs := []) (by decide +kernel) rfl rfl) (fun q hq => ?_)) hW
  · have hq : q ∈ [(0, 0)] := hq
    simp only [List.mem_cons, List.not_mem_nil, or_false] at hq
    rcases hq with rfl <;> exact ⟨_, rfl, rfl⟩
theorem opR_166 (h100 : ro 100 = none) (hW : WT tGam tSets tRoles ro F) (hs : F.map zc = sh0) (hR : R4 F) : PF ro n 166 0 [(0, .ref 129)] [] F (fun _ F1 => WT tGam tSets tRoles ro F1 ∧ F1.map zc = sh0 ∧ R4 F1) :=
  ((op_166 h100 hW).and (PF.sh rfl hs)).imp (fun v F1 q => ⟨q.1.1, q.2, hR.keep (fr_iv q.1.2 (r := 13) rfl rfl (by decide) hs q.2) (fun _ => fr_iv q.1.2 (r := 14) rfl rfl (by decide) hs q.2) (fr_iv q.1.2 (r := 24) rfl rfl (by decide) hs q.2) (fun _ => fr_iv q.1.2 (r := 30) rfl rfl (by decide) hs q.2)⟩)
theorem op_167 (h100 : ro 100 = none) (hW : WT tGam tSets tRoles ro F) : PF ro n 167 0 [(0, .ref 129), (1, .int x1)] [] F (fun _ F1 => WT tGam tSets tRoles ro F1 ∧ FRm tGam ro nd205.ms F F1) := by
  refine node_tt (p := am167) (M := nd205) (vs := [.ref 129, .int x1]) h100 (List.mem_of_getElem? (i := 167) rfl) (by simp [am167]) rfl (entG (wfA_wf (by decide +kernel)) rfl rfl rfl rfl rfl rfl rfl (pa_ok (r := 24) (a0 := 129) (m := 1) (xs := [x1]) (by decide +kernel) rfl rfl) (fun q hq => ?_)) hW
  · have hq : q ∈ [(0, 0), (1, 1)] := hq
    simp only [List.mem_cons, List.not_mem_nil, or_false] at hq
    rcases hq with rfl | rfl <;> exact ⟨_, rfl, rfl⟩
theorem opR_167 (h100 : ro 100 = none) (hW : WT tGam tSets tRoles ro F) (hs : F.map zc = sh0) (hR : R4 F) : PF ro n 167 0 [(0, .ref 129), (1, .int x1)] [] F (fun _ F1 => WT tGam tSets tRoles ro F1 ∧ F1.map zc = sh0 ∧ R4 F1) :=
  ((op_167 h100 hW).and (PF.sh rfl hs)).imp (fun v F1 q => ⟨q.1.1, q.2, hR.keep (fr_iv q.1.2 (r := 13) rfl rfl (by decide) hs q.2) (fun _ => fr_iv q.1.2 (r := 14) rfl rfl (by decide) hs q.2) (fr_iv q.1.2 (r := 24) rfl rfl (by decide) hs q.2) (fun _ => fr_iv q.1.2 (r := 30) rfl rfl (by decide) hs q.2)⟩)
theorem op_176 (h100 : ro 100 = none) (hW : WT tGam tSets tRoles ro F) : PF ro n 176 0 [(0, .ref 129), (1, .int x1), (2, .int x2)] [] F (fun _ F1 => WT tGam tSets tRoles ro F1 ∧ FRm tGam ro nd204.ms F F1) := by
  refine node_tt (p := am176) (M := nd204) (vs := [.ref 129, .int x1, .int x2]) h100 (List.mem_of_getElem? (i := 176) rfl) (by simp [am176]) rfl (entG (wfA_wf (by decide +kernel)) rfl rfl rfl rfl rfl rfl rfl (pa_ok (r := 24) (a0 := 129) (m := 2) (xs := [x1, x2]) (by decide +kernel) rfl rfl) (fun q hq => ?_)) hW
  · have hq : q ∈ [(0, 0), (1, 1), (2, 2)] := hq
    simp only [List.mem_cons, List.not_mem_nil, or_false] at hq
    rcases hq with rfl | rfl | rfl <;> exact ⟨_, rfl, rfl⟩
theorem opR_176 (h100 : ro 100 = none) (hW : WT tGam tSets tRoles ro F) (hs : F.map zc = sh0) (hR : R4 F) : PF ro n 176 0 [(0, .ref 129), (1, .int x1), (2, .int x2)] [] F (fun _ F1 => WT tGam tSets tRoles ro F1 ∧ F1.map zc = sh0 ∧ R4 F1) :=
  ((op_176 h100 hW).and (PF.sh rfl hs)).imp (fun v F1 q => ⟨q.1.1, q.2, hR.keep (fr_iv q.1.2 (r := 13) rfl rfl (by decide) hs q.2) (fun _ => fr_iv q.1.2 (r := 14) rfl rfl (by decide) hs q.2) (fr_iv q.1.2 (r := 24) rfl rfl (by decide) hs q.2) (fun _ => fr_iv q.1.2 (r := 30) rfl rfl (by decide) hs q.2)⟩)
theorem op_180 (h100 : ro 100 = none) (hW : WT tGam tSets tRoles ro F) : PF ro n 180 0 [(0, .ref 129), (1, .int x1), (2, .int x2)] [] F (fun _ F1 => WT tGam tSets tRoles ro F1 ∧ FRm tGam ro nd203.ms F F1) := by
  refine node_tt (p := am180) (M := nd203) (vs := [.ref 129, .int x1, .int x2]) h100 (List.mem_of_getElem? (i := 180) rfl) (by simp [am180]) rfl (entG (wfA_wf (by decide +kernel)) rfl rfl rfl rfl rfl rfl rfl (pa_ok (r := 24) (a0 := 129) (m := 2) (xs := [x1, x2]) (by decide +kernel) rfl rfl) (fun q hq => ?_)) hW
  · have hq : q ∈ [(0, 0), (1, 1), (2, 2)] := hq
    simp only [List.mem_cons, List.not_mem_nil, or_false] at hq
    rcases hq with rfl | rfl | rfl <;> exact ⟨_, rfl, rfl⟩
theorem opR_180 (h100 : ro 100 = none) (hW : WT tGam tSets tRoles ro F) (hs : F.map zc = sh0) (hR : R4 F) : PF ro n 180 0 [(0, .ref 129), (1, .int x1), (2, .int x2)] [] F (fun _ F1 => WT tGam tSets tRoles ro F1 ∧ F1.map zc = sh0 ∧ R4 F1) :=
  ((op_180 h100 hW).and (PF.sh rfl hs)).imp (fun v F1 q => ⟨q.1.1, q.2, hR.keep (fr_iv q.1.2 (r := 13) rfl rfl (by decide) hs q.2) (fun _ => fr_iv q.1.2 (r := 14) rfl rfl (by decide) hs q.2) (fr_iv q.1.2 (r := 24) rfl rfl (by decide) hs q.2) (fun _ => fr_iv q.1.2 (r := 30) rfl rfl (by decide) hs q.2)⟩)
theorem op_182 (h100 : ro 100 = none) (hW : WT tGam tSets tRoles ro F) : PF ro n 182 0 [(0, .ref 129), (1, .int x1)] [] F (fun _ F1 => WT tGam tSets tRoles ro F1 ∧ FRm tGam ro nd202.ms F F1) := by
  refine node_tt (p := am182) (M := nd202) (vs := [.ref 129, .int x1]) h100 (List.mem_of_getElem? (i := 182) rfl) (by simp [am182]) rfl (entG (wfA_wf (by decide +kernel)) rfl rfl rfl rfl rfl rfl rfl (pa_ok (r := 24) (a0 := 129) (m := 1) (xs := [x1]) (by decide +kernel) rfl rfl) (fun q hq => ?_)) hW
  · have hq : q ∈ [(0, 0), (1, 1)] := hq
    simp only [List.mem_cons, List.not_mem_nil, or_false] at hq
    rcases hq with rfl | rfl <;> exact ⟨_, rfl, rfl⟩
theorem opR_182 (h100 : ro 100 = none) (hW : WT tGam tSets tRoles ro F) (hs : F.map zc = sh0) (hR : R4 F) : PF ro n 182 0 [(0, .ref 129), (1, .int x1)] [] F (fun _ F1 => WT tGam tSets tRoles ro F1 ∧ F1.map zc = sh0 ∧ R4 F1) :=
  ((op_182 h100 hW).and (PF.sh rfl hs)).imp (fun v F1 q => ⟨q.1.1, q.2, hR.keep (fr_iv q.1.2 (r := 13) rfl rfl (by decide) hs q.2) (fun _ => fr_iv q.1.2 (r := 14) rfl rfl (by decide) hs q.2) (fr_iv q.1.2 (r := 24) rfl rfl (by decide) hs q.2) (fun _ => fr_iv q.1.2 (r := 30) rfl rfl (by decide) hs q.2)⟩)
theorem op_183 (h100 : ro 100 = none) (hW : WT tGam tSets tRoles ro F) : PF ro n 183 0 [(0, .ref 129), (1, .int x1), (2, .int x2)] [] F (fun _ F1 => WT tGam tSets tRoles ro F1 ∧ FRm tGam ro nd201.ms F F1) := by
  refine node_tt (p := am183) (M := nd201) (vs := [.ref 129, .int x1, .int x2]) h100 (List.mem_of_getElem? (i := 183) rfl) (by simp [am183]) rfl (entG (wfA_wf (by decide +kernel)) rfl rfl rfl rfl rfl rfl rfl (pa_ok (r := 24) (a0 := 129) (m := 2) (xs := [x1, x2]) (by decide +kernel) rfl rfl) (fun q hq => ?_)) hW
  · have hq : q ∈ [(0, 0), (1, 1), (2, 2)] := hq
    simp only [List.mem_cons, List.not_mem_nil, or_false] at hq
    rcases hq with rfl | rfl | rfl <;> exact ⟨_, rfl, rfl⟩
theorem opR_183 (h100 : ro 100 = none) (hW : WT tGam tSets tRoles ro F) (hs : F.map zc = sh0) (hR : R4 F) : PF ro n 183 0 [(0, .ref 129), (1, .int x1), (2, .int x2)] [] F (fun _ F1 => WT tGam tSets tRoles ro F1 ∧ F1.map zc = sh0 ∧ R4 F1) :=
  ((op_183 h100 hW).and (PF.sh rfl hs)).imp (fun v F1 q => ⟨q.1.1, q.2, hR.keep (fr_iv q.1.2 (r := 13) rfl rfl (by decide) hs q.2) (fun _ => fr_iv q.1.2 (r := 14) rfl rfl (by decide) hs q.2) (fr_iv q.1.2 (r := 24) rfl rfl (by decide) hs q.2) (fun _ => fr_iv q.1.2 (r := 30) rfl rfl (by decide) hs q.2)⟩)
theorem op_185 (h100 : ro 100 = none) (hW : WT tGam tSets tRoles ro F) : PF ro n 185 0 [(0, .ref 129), (1, .int x1), (2, .int x2)] [] F (fun _ F1 => WT tGam tSets tRoles ro F1 ∧ FRm tGam ro nd245.ms F F1) := by
  refine node_tt (p := am185) (M := nd245) (vs := [.ref 129, .int x1, .int x2]) h100 (List.mem_of_getElem? (i := 185) rfl) (by simp [am185]) rfl (entG (wfA_wf (by decide +kernel)) rfl rfl rfl rfl rfl rfl rfl (pa_ok (r := 24) (a0 := 129) (m := 2) (xs := [x1, x2]) (by decide +kernel) rfl rfl) (fun q hq => ?_)) hW
  · have hq : q ∈ [(0, 0), (1, 1), (2, 2)] := hq
    simp only [List.mem_cons, List.not_mem_nil, or_false] at hq
    rcases hq with rfl | rfl | rfl <;> exact ⟨_, rfl, rfl⟩
theorem opR_185 (h100 : ro 100 = none) (hW : WT tGam tSets tRoles ro F) (hs : F.map zc = sh0) (hR : R4 F) : PF ro n 185 0 [(0, .ref 129), (1, .int x1), (2, .int x2)] [] F (fun _ F1 => WT tGam tSets tRoles ro F1 ∧ F1.map zc = sh0 ∧ R4 F1) :=
  ((op_185 h100 hW).and (PF.sh rfl hs)).imp (fun v F1 q => ⟨q.1.1, q.2, hR.keep (fr_iv q.1.2 (r := 13) rfl rfl (by decide) hs q.2) (fun _ => fr_iv q.1.2 (r := 14) rfl rfl (by decide) hs q.2) (fr_iv q.1.2 (r := 24) rfl rfl (by decide) hs q.2) (fun _ => fr_iv q.1.2 (r := 30) rfl rfl (by decide) hs q.2)⟩)
theorem op_190 (h100 : ro 100 = none) (hW : WT tGam tSets tRoles ro F) : PF ro n 190 0 [(0, .ref 129), (1, .int x1)] [] F (fun _ F1 => WT tGam tSets tRoles ro F1 ∧ FRm tGam ro nd200.ms F F1) := by
  refine node_tt (p := am190) (M := nd200) (vs := [.ref 129, .int x1]) h100 (List.mem_of_getElem? (i := 190) rfl) (by simp [am190]) rfl (entG (wfA_wf (by decide +kernel)) rfl rfl rfl rfl rfl rfl rfl (pa_ok (r := 24) (a0 := 129) (m := 1) (xs := [x1]) (by decide +kernel) rfl rfl) (fun q hq => ?_)) hW
  · have hq : q ∈ [(0, 0), (1, 1)] := hq
    simp only [List.mem_cons, List.not_mem_nil, or_false] at hq
    rcases hq with rfl | rfl <;> exact ⟨_, rfl, rfl⟩
theorem opR_190 (h100 : ro 100 = none) (hW : WT tGam tSets tRoles ro F) (hs : F.map zc = sh0) (hR : R4 F) : PF ro n 190 0 [(0, .ref 129), (1, .int x1)] [] F (fun _ F1 => WT tGam tSets tRoles ro F1 ∧ F1.map zc = sh0 ∧ R4 F1) :=
  ((op_190 h100 hW).and (PF.sh rfl hs)).imp (fun v F1 q => ⟨q.1.1, q.2, hR.keep (fr_iv q.1.2 (r := 13) rfl rfl (by decide) hs q.2) (fun _ => fr_iv q.1.2 (r := 14) rfl rfl (by decide) hs q.2) (fr_iv q.1.2 (r := 24) rfl rfl (by decide) hs q.2) (fun _ => fr_iv q.1.2 (r := 30) rfl rfl (by decide) hs q.2)⟩)
theorem op_194 (h100 : ro 100 = none) (hW : WT tGam tSets tRoles ro F) : PF ro n 194 0 [(0, .ref 129), (1, .int x1)] [] F (fun _ F1 => WT tGam tSets tRoles ro F1 ∧ FRm tGam ro nd199.ms F F1) := by
  refine node_tt (p := am194) (M := nd199) (vs := [.ref 129, .int x1]) h100 (List.mem_of_getElem? (i := 194) rfl) (by simp [am194]) rfl (entG (wfA_wf (by decide +kernel)) rfl rfl rfl rfl rfl rfl rfl (pa_ok (r := 24) (a0 := 129) (m := 1) (xs := [x1]) (by decide +kernel) rfl rfl) (fun q hq => ?_)) hW
  · have hq : q ∈ [(0, 0), (1, 1)] := hq
    simp only [List.mem_cons, List.not_mem_nil, or_false] at hq
    rcases hq with rfl | rfl <;> exact ⟨_, rfl, rfl⟩
theorem opR_194 (h100 : ro 100 = none) (hW : WT tGam tSets tRoles ro F) (hs : F.map zc = sh0) (hR : R4 F) : PF ro n 194 0 [(0, .ref 129), (1, .int x1)] [] F (fun _ F1 => WT tGam tSets tRoles ro F1 ∧ F1.map zc = sh0 ∧ R4 F1) :=
  ((op_194 h100 hW).and (PF.sh rfl hs)).imp (fun v F1 q => ⟨q.1.1, q.2, hR.keep (fr_iv q.1.2 (r := 13) rfl rfl (by decide) hs q.2) (fun _ => fr_iv q.1.2 (r := 14) rfl rfl (by decide) hs q.2) (fr_iv q.1.2 (r := 24) rfl rfl (by decide) hs q.2) (fun _ => fr_iv q.1.2 (r := 30) rfl rfl (by decide) hs q.2)⟩)
theorem op_195 (h100 : ro 100 = none) (hW : WT tGam tSets tRoles ro F) : PF ro n 195 0 [(0, .ref 129), (1, .int x1), (2, .int x2), (3, .int x3)] [] F (fun _ F1 => WT tGam tSets tRoles ro F1 ∧ FRm tGam ro nd198.ms F F1) := by
  refine node_tt (p := am195) (M := nd198) (vs := [.ref 129, .int x1, .int x2, .int x3]) h100 (List.mem_of_getElem? (i := 195) rfl) (by simp [am195]) rfl (entG (wfA_wf (by decide +kernel)) rfl rfl rfl rfl rfl rfl rfl (pa_ok (r := 24) (a0 := 129) (m := 3) (xs := [x1, x2, x3]) (by decide +kernel) rfl rfl) (fun q hq => ?_)) hW
  · have hq : q ∈ [(0, 0), (1, 1), (2, 2), (3, 3)] := hq
    simp only [List.mem_cons, List.not_mem_nil, or_false] at hq
    rcases hq with rfl | rfl | rfl | rfl <;> exact ⟨_, rfl, rfl⟩
theorem opR_195 (h100 : ro 100 = none) (hW : WT tGam tSets tRoles ro F) (hs : F.map zc = sh0) (hR : R4 F) : PF ro n 195 0 [(0, .ref 129), (1, .int x1), (2, .int x2), (3, .int x3)] [] F (fun _ F1 => WT tGam tSets tRoles ro F1 ∧ F1.map zc = sh0 ∧ R4 F1) :=
  ((op_195 h100 hW).and (PF.sh rfl hs)).imp (fun v F1 q => ⟨q.1.1, q.2, hR.keep (fr_iv q.1.2 (r := 13) rfl rfl (by decide) hs q.2) (fun _ => fr_iv q.1.2 (r := 14) rfl rfl (by decide) hs q.2) (fr_iv q.1.2 (r := 24) rfl rfl (by decide) hs q.2) (fun _ => fr_iv q.1.2 (r := 30) rfl rfl (by decide) hs q.2)⟩)
theorem op_198 (hb : x3 = 0 ∨ x3 = 1) (h100 : ro 100 = none) (hW : WT tGam tSets tRoles ro F) : PF ro n 198 0 [(0, .ref 129), (1, .int x1), (2, .int x2), (3, .int x3)] [] F (fun _ F1 => WT tGam tSets tRoles ro F1 ∧ FRm tGam ro nd197.ms F F1) := by
  refine node_tt (p := am198) (M := nd197) (vs := [.ref 129, .int x1, .int x2, .int x3]) h100 (List.mem_of_getElem? (i := 198) rfl) (by simp [am198]) rfl (entG (wfA_wf (by decide +kernel)) rfl rfl rfl rfl rfl rfl rfl (fun a ha => ?_) (fun q hq => ?_)) hW
  · have ha : a ∈ ([(0, 2, 24, 0, []), (1, 0, -2147483648, 2147483647, []), (2, 0, -2147483648, 2147483647, []), (3, 0, 0, 1, [])] : List AV) := ha
    simp only [List.mem_cons, List.not_mem_nil, or_false] at ha
    rcases ha with rfl | rfl | rfl | rfl
    · exact ⟨_, rfl, ⟨_, rfl, rfl⟩, fun r hr => by cases hr⟩
    · exact ⟨_, rfl, ⟨⟨_, rfl⟩, (i_rng x1).1, (i_rng x1).2⟩, fun r hr => by cases hr⟩
    · exact ⟨_, rfl, ⟨⟨_, rfl⟩, (i_rng x2).1, (i_rng x2).2⟩, fun r hr => by cases hr⟩
    · refine ⟨_, rfl, ⟨⟨_, rfl⟩, ?_, ?_⟩, fun r hr => by cases hr⟩
      · show 0 ≤ x3.toInt; rcases hb with rfl | rfl <;> decide
      · show x3.toInt ≤ 1; rcases hb with rfl | rfl <;> decide
  · have hq : q ∈ [(0, 0), (1, 1), (2, 2), (3, 3)] := hq
    simp only [List.mem_cons, List.not_mem_nil, or_false] at hq
    rcases hq with rfl | rfl | rfl | rfl <;> exact ⟨_, rfl, rfl⟩
theorem opR_198 (hb : x3 = 0 ∨ x3 = 1) (h100 : ro 100 = none) (hW : WT tGam tSets tRoles ro F) (hs : F.map zc = sh0) (hR : R4 F) : PF ro n 198 0 [(0, .ref 129), (1, .int x1), (2, .int x2), (3, .int x3)] [] F (fun _ F1 => WT tGam tSets tRoles ro F1 ∧ F1.map zc = sh0 ∧ R4 F1) :=
  ((op_198 hb h100 hW).and (PF.sh rfl hs)).imp (fun v F1 q => ⟨q.1.1, q.2, hR.keep (fr_iv q.1.2 (r := 13) rfl rfl (by decide) hs q.2) (fun _ => fr_iv q.1.2 (r := 14) rfl rfl (by decide) hs q.2) (fr_iv q.1.2 (r := 24) rfl rfl (by decide) hs q.2) (fun _ => fr_iv q.1.2 (r := 30) rfl rfl (by decide) hs q.2)⟩)
theorem op_199 (h100 : ro 100 = none) (hW : WT tGam tSets tRoles ro F) : PF ro n 199 0 [(0, .ref 129), (1, .int x1)] [] F (fun _ F1 => WT tGam tSets tRoles ro F1 ∧ FRm tGam ro nd254.ms F F1) := by
  refine node_tt (p := am199) (M := nd254) (vs := [.ref 129, .int x1]) h100 (List.mem_of_getElem? (i := 199) rfl) (by simp [am199]) rfl (entG (wfA_wf (by decide +kernel)) rfl rfl rfl rfl rfl rfl rfl (pa_ok (r := 24) (a0 := 129) (m := 1) (xs := [x1]) (by decide +kernel) rfl rfl) (fun q hq => ?_)) hW
  · have hq : q ∈ [(0, 0), (1, 1)] := hq
    simp only [List.mem_cons, List.not_mem_nil, or_false] at hq
    rcases hq with rfl | rfl <;> exact ⟨_, rfl, rfl⟩
theorem opR_199 (h100 : ro 100 = none) (hW : WT tGam tSets tRoles ro F) (hs : F.map zc = sh0) (hR : R4 F) : PF ro n 199 0 [(0, .ref 129), (1, .int x1)] [] F (fun _ F1 => WT tGam tSets tRoles ro F1 ∧ F1.map zc = sh0 ∧ R4 F1) :=
  ((op_199 h100 hW).and (PF.sh rfl hs)).imp (fun v F1 q => ⟨q.1.1, q.2, hR.keep (fr_iv q.1.2 (r := 13) rfl rfl (by decide) hs q.2) (fun _ => fr_iv q.1.2 (r := 14) rfl rfl (by decide) hs q.2) (fr_iv q.1.2 (r := 24) rfl rfl (by decide) hs q.2) (fun _ => fr_iv q.1.2 (r := 30) rfl rfl (by decide) hs q.2)⟩)
theorem op_201 (h100 : ro 100 = none) (hW : WT tGam tSets tRoles ro F) : PF ro n 201 0 [(0, .ref 129), (1, .int x1)] [] F (fun _ F1 => WT tGam tSets tRoles ro F1 ∧ FRm tGam ro nd196.ms F F1) := by
  refine node_tt (p := am201) (M := nd196) (vs := [.ref 129, .int x1]) h100 (List.mem_of_getElem? (i := 201) rfl) (by simp [am201]) rfl (entG (wfA_wf (by decide +kernel)) rfl rfl rfl rfl rfl rfl rfl (pa_ok (r := 24) (a0 := 129) (m := 1) (xs := [x1]) (by decide +kernel) rfl rfl) (fun q hq => ?_)) hW
  · have hq : q ∈ [(0, 0), (1, 1)] := hq
    simp only [List.mem_cons, List.not_mem_nil, or_false] at hq
    rcases hq with rfl | rfl <;> exact ⟨_, rfl, rfl⟩
theorem opR_201 (h100 : ro 100 = none) (hW : WT tGam tSets tRoles ro F) (hs : F.map zc = sh0) (hR : R4 F) : PF ro n 201 0 [(0, .ref 129), (1, .int x1)] [] F (fun _ F1 => WT tGam tSets tRoles ro F1 ∧ F1.map zc = sh0 ∧ R4 F1) :=
  ((op_201 h100 hW).and (PF.sh rfl hs)).imp (fun v F1 q => ⟨q.1.1, q.2, hR.keep (fr_iv q.1.2 (r := 13) rfl rfl (by decide) hs q.2) (fun _ => fr_iv q.1.2 (r := 14) rfl rfl (by decide) hs q.2) (fr_iv q.1.2 (r := 24) rfl rfl (by decide) hs q.2) (fun _ => fr_iv q.1.2 (r := 30) rfl rfl (by decide) hs q.2)⟩)
theorem op_202 (h100 : ro 100 = none) (hW : WT tGam tSets tRoles ro F) : PF ro n 202 0 [(0, .ref 129), (1, .int x1)] [] F (fun _ F1 => WT tGam tSets tRoles ro F1 ∧ FRm tGam ro nd195.ms F F1) := by
  refine node_tt (p := am202) (M := nd195) (vs := [.ref 129, .int x1]) h100 (List.mem_of_getElem? (i := 202) rfl) (by simp [am202]) rfl (entG (wfA_wf (by decide +kernel)) rfl rfl rfl rfl rfl rfl rfl (pa_ok (r := 24) (a0 := 129) (m := 1) (xs := [x1]) (by decide +kernel) rfl rfl) (fun q hq => ?_)) hW
  · have hq : q ∈ [(0, 0), (1, 1)] := hq
    simp only [List.mem_cons, List.not_mem_nil, or_false] at hq
    rcases hq with rfl | rfl <;> exact ⟨_, rfl, rfl⟩
theorem opR_202 (h100 : ro 100 = none) (hW : WT tGam tSets tRoles ro F) (hs : F.map zc = sh0) (hR : R4 F) : PF ro n 202 0 [(0, .ref 129), (1, .int x1)] [] F (fun _ F1 => WT tGam tSets tRoles ro F1 ∧ F1.map zc = sh0 ∧ R4 F1) :=
  ((op_202 h100 hW).and (PF.sh rfl hs)).imp (fun v F1 q => ⟨q.1.1, q.2, hR.keep (fr_iv q.1.2 (r := 13) rfl rfl (by decide) hs q.2) (fun _ => fr_iv q.1.2 (r := 14) rfl rfl (by decide) hs q.2) (fr_iv q.1.2 (r := 24) rfl rfl (by decide) hs q.2) (fun _ => fr_iv q.1.2 (r := 30) rfl rfl (by decide) hs q.2)⟩)
theorem op_204 (h100 : ro 100 = none) (hW : WT tGam tSets tRoles ro F) : PF ro n 204 0 [(0, .ref 129), (1, .int x1)] [] F (fun _ F1 => WT tGam tSets tRoles ro F1 ∧ FRm tGam ro nd194.ms F F1) := by
  refine node_tt (p := am204) (M := nd194) (vs := [.ref 129, .int x1]) h100 (List.mem_of_getElem? (i := 204) rfl) (by simp [am204]) rfl (entG (wfA_wf (by decide +kernel)) rfl rfl rfl rfl rfl rfl rfl (pa_ok (r := 24) (a0 := 129) (m := 1) (xs := [x1]) (by decide +kernel) rfl rfl) (fun q hq => ?_)) hW
  · have hq : q ∈ [(0, 0), (1, 1)] := hq
    simp only [List.mem_cons, List.not_mem_nil, or_false] at hq
    rcases hq with rfl | rfl <;> exact ⟨_, rfl, rfl⟩
theorem opR_204 (h100 : ro 100 = none) (hW : WT tGam tSets tRoles ro F) (hs : F.map zc = sh0) (hR : R4 F) : PF ro n 204 0 [(0, .ref 129), (1, .int x1)] [] F (fun _ F1 => WT tGam tSets tRoles ro F1 ∧ F1.map zc = sh0 ∧ R4 F1) :=
  ((op_204 h100 hW).and (PF.sh rfl hs)).imp (fun v F1 q => ⟨q.1.1, q.2, hR.keep (fr_iv q.1.2 (r := 13) rfl rfl (by decide) hs q.2) (fun _ => fr_iv q.1.2 (r := 14) rfl rfl (by decide) hs q.2) (fr_iv q.1.2 (r := 24) rfl rfl (by decide) hs q.2) (fun _ => fr_iv q.1.2 (r := 30) rfl rfl (by decide) hs q.2)⟩)
theorem op_206 (h100 : ro 100 = none) (hW : WT tGam tSets tRoles ro F) : PF ro n 206 0 [(0, .ref 129), (1, .int x1)] [] F (fun _ F1 => WT tGam tSets tRoles ro F1 ∧ FRm tGam ro nd193.ms F F1) := by
  refine node_tt (p := am206) (M := nd193) (vs := [.ref 129, .int x1]) h100 (List.mem_of_getElem? (i := 206) rfl) (by simp [am206]) rfl (entG (wfA_wf (by decide +kernel)) rfl rfl rfl rfl rfl rfl rfl (pa_ok (r := 24) (a0 := 129) (m := 1) (xs := [x1]) (by decide +kernel) rfl rfl) (fun q hq => ?_)) hW
  · have hq : q ∈ [(0, 0), (1, 1)] := hq
    simp only [List.mem_cons, List.not_mem_nil, or_false] at hq
    rcases hq with rfl | rfl <;> exact ⟨_, rfl, rfl⟩
theorem opR_206 (h100 : ro 100 = none) (hW : WT tGam tSets tRoles ro F) (hs : F.map zc = sh0) (hR : R4 F) : PF ro n 206 0 [(0, .ref 129), (1, .int x1)] [] F (fun _ F1 => WT tGam tSets tRoles ro F1 ∧ F1.map zc = sh0 ∧ R4 F1) :=
  ((op_206 h100 hW).and (PF.sh rfl hs)).imp (fun v F1 q => ⟨q.1.1, q.2, hR.keep (fr_iv q.1.2 (r := 13) rfl rfl (by decide) hs q.2) (fun _ => fr_iv q.1.2 (r := 14) rfl rfl (by decide) hs q.2) (fr_iv q.1.2 (r := 24) rfl rfl (by decide) hs q.2) (fun _ => fr_iv q.1.2 (r := 30) rfl rfl (by decide) hs q.2)⟩)
theorem op_207 (h100 : ro 100 = none) (hW : WT tGam tSets tRoles ro F) : PF ro n 207 0 [(0, .ref 129), (1, .int x1), (2, .int x2)] [] F (fun _ F1 => WT tGam tSets tRoles ro F1 ∧ FRm tGam ro nd192.ms F F1) := by
  refine node_tt (p := am207) (M := nd192) (vs := [.ref 129, .int x1, .int x2]) h100 (List.mem_of_getElem? (i := 207) rfl) (by simp [am207]) rfl (entG (wfA_wf (by decide +kernel)) rfl rfl rfl rfl rfl rfl rfl (pa_ok (r := 24) (a0 := 129) (m := 2) (xs := [x1, x2]) (by decide +kernel) rfl rfl) (fun q hq => ?_)) hW
  · have hq : q ∈ [(0, 0), (1, 1), (2, 2)] := hq
    simp only [List.mem_cons, List.not_mem_nil, or_false] at hq
    rcases hq with rfl | rfl | rfl <;> exact ⟨_, rfl, rfl⟩
theorem opR_207 (h100 : ro 100 = none) (hW : WT tGam tSets tRoles ro F) (hs : F.map zc = sh0) (hR : R4 F) : PF ro n 207 0 [(0, .ref 129), (1, .int x1), (2, .int x2)] [] F (fun _ F1 => WT tGam tSets tRoles ro F1 ∧ F1.map zc = sh0 ∧ R4 F1) :=
  ((op_207 h100 hW).and (PF.sh rfl hs)).imp (fun v F1 q => ⟨q.1.1, q.2, hR.keep (fr_iv q.1.2 (r := 13) rfl rfl (by decide) hs q.2) (fun _ => fr_iv q.1.2 (r := 14) rfl rfl (by decide) hs q.2) (fr_iv q.1.2 (r := 24) rfl rfl (by decide) hs q.2) (fun _ => fr_iv q.1.2 (r := 30) rfl rfl (by decide) hs q.2)⟩)
theorem op_215 (h100 : ro 100 = none) (hW : WT tGam tSets tRoles ro F) : PF ro n 215 0 [(0, .ref 129), (1, .int x1)] [] F (fun _ F1 => WT tGam tSets tRoles ro F1 ∧ FRm tGam ro nd191.ms F F1) := by
  refine node_tt (p := am215) (M := nd191) (vs := [.ref 129, .int x1]) h100 (List.mem_of_getElem? (i := 215) rfl) (by simp [am215]) rfl (entG (wfA_wf (by decide +kernel)) rfl rfl rfl rfl rfl rfl rfl (pa_ok (r := 24) (a0 := 129) (m := 1) (xs := [x1]) (by decide +kernel) rfl rfl) (fun q hq => ?_)) hW
  · have hq : q ∈ [(0, 0), (1, 1)] := hq
    simp only [List.mem_cons, List.not_mem_nil, or_false] at hq
    rcases hq with rfl | rfl <;> exact ⟨_, rfl, rfl⟩
theorem opR_215 (h100 : ro 100 = none) (hW : WT tGam tSets tRoles ro F) (hs : F.map zc = sh0) (hR : R4 F) : PF ro n 215 0 [(0, .ref 129), (1, .int x1)] [] F (fun _ F1 => WT tGam tSets tRoles ro F1 ∧ F1.map zc = sh0 ∧ R4 F1) :=
  ((op_215 h100 hW).and (PF.sh rfl hs)).imp (fun v F1 q => ⟨q.1.1, q.2, hR.keep (fr_iv q.1.2 (r := 13) rfl rfl (by decide) hs q.2) (fun _ => fr_iv q.1.2 (r := 14) rfl rfl (by decide) hs q.2) (fr_iv q.1.2 (r := 24) rfl rfl (by decide) hs q.2) (fun _ => fr_iv q.1.2 (r := 30) rfl rfl (by decide) hs q.2)⟩)
theorem op_216 (h100 : ro 100 = none) (hW : WT tGam tSets tRoles ro F) : PF ro n 216 0 [(0, .ref 129), (1, .int x1)] [] F (fun _ F1 => WT tGam tSets tRoles ro F1 ∧ FRm tGam ro nd190.ms F F1) := by
  refine node_tt (p := am216) (M := nd190) (vs := [.ref 129, .int x1]) h100 (List.mem_of_getElem? (i := 216) rfl) (by simp [am216]) rfl (entG (wfA_wf (by decide +kernel)) rfl rfl rfl rfl rfl rfl rfl (pa_ok (r := 24) (a0 := 129) (m := 1) (xs := [x1]) (by decide +kernel) rfl rfl) (fun q hq => ?_)) hW
  · have hq : q ∈ [(0, 0), (1, 1)] := hq
    simp only [List.mem_cons, List.not_mem_nil, or_false] at hq
    rcases hq with rfl | rfl <;> exact ⟨_, rfl, rfl⟩
theorem opR_216 (h100 : ro 100 = none) (hW : WT tGam tSets tRoles ro F) (hs : F.map zc = sh0) (hR : R4 F) : PF ro n 216 0 [(0, .ref 129), (1, .int x1)] [] F (fun _ F1 => WT tGam tSets tRoles ro F1 ∧ F1.map zc = sh0 ∧ R4 F1) :=
  ((op_216 h100 hW).and (PF.sh rfl hs)).imp (fun v F1 q => ⟨q.1.1, q.2, hR.keep (fr_iv q.1.2 (r := 13) rfl rfl (by decide) hs q.2) (fun _ => fr_iv q.1.2 (r := 14) rfl rfl (by decide) hs q.2) (fr_iv q.1.2 (r := 24) rfl rfl (by decide) hs q.2) (fun _ => fr_iv q.1.2 (r := 30) rfl rfl (by decide) hs q.2)⟩)
theorem op_217 (h100 : ro 100 = none) (hW : WT tGam tSets tRoles ro F) : PF ro n 217 0 [(0, .ref 129), (1, .int x1), (2, .int x2), (3, .int x3)] [] F (fun _ F1 => WT tGam tSets tRoles ro F1 ∧ FRm tGam ro nd189.ms F F1) := by
  refine node_tt (p := am217) (M := nd189) (vs := [.ref 129, .int x1, .int x2, .int x3]) h100 (List.mem_of_getElem? (i := 217) rfl) (by simp [am217]) rfl (entG (wfA_wf (by decide +kernel)) rfl rfl rfl rfl rfl rfl rfl (pa_ok (r := 24) (a0 := 129) (m := 3) (xs := [x1, x2, x3]) (by decide +kernel) rfl rfl) (fun q hq => ?_)) hW
  · have hq : q ∈ [(0, 0), (1, 1), (2, 2), (3, 3)] := hq
    simp only [List.mem_cons, List.not_mem_nil, or_false] at hq
    rcases hq with rfl | rfl | rfl | rfl <;> exact ⟨_, rfl, rfl⟩
theorem opR_217 (h100 : ro 100 = none) (hW : WT tGam tSets tRoles ro F) (hs : F.map zc = sh0) (hR : R4 F) : PF ro n 217 0 [(0, .ref 129), (1, .int x1), (2, .int x2), (3, .int x3)] [] F (fun _ F1 => WT tGam tSets tRoles ro F1 ∧ F1.map zc = sh0 ∧ R4 F1) :=
  ((op_217 h100 hW).and (PF.sh rfl hs)).imp (fun v F1 q => ⟨q.1.1, q.2, hR.keep (fr_iv q.1.2 (r := 13) rfl rfl (by decide) hs q.2) (fun _ => fr_iv q.1.2 (r := 14) rfl rfl (by decide) hs q.2) (fr_iv q.1.2 (r := 24) rfl rfl (by decide) hs q.2) (fun _ => fr_iv q.1.2 (r := 30) rfl rfl (by decide) hs q.2)⟩)
theorem op_218 (h100 : ro 100 = none) (hW : WT tGam tSets tRoles ro F) : PF ro n 218 0 [(0, .ref 129), (1, .int x1)] [] F (fun _ F1 => WT tGam tSets tRoles ro F1 ∧ FRm tGam ro nd188.ms F F1) := by
  refine node_tt (p := am218) (M := nd188) (vs := [.ref 129, .int x1]) h100 (List.mem_of_getElem? (i := 218) rfl) (by simp [am218]) rfl (entG (wfA_wf (by decide +kernel)) rfl rfl rfl rfl rfl rfl rfl (pa_ok (r := 24) (a0 := 129) (m := 1) (xs := [x1]) (by decide +kernel) rfl rfl) (fun q hq => ?_)) hW
  · have hq : q ∈ [(0, 0), (1, 1)] := hq
    simp only [List.mem_cons, List.not_mem_nil, or_false] at hq
    rcases hq with rfl | rfl <;> exact ⟨_, rfl, rfl⟩
theorem opR_218 (h100 : ro 100 = none) (hW : WT tGam tSets tRoles ro F) (hs : F.map zc = sh0) (hR : R4 F) : PF ro n 218 0 [(0, .ref 129), (1, .int x1)] [] F (fun _ F1 => WT tGam tSets tRoles ro F1 ∧ F1.map zc = sh0 ∧ R4 F1) :=
  ((op_218 h100 hW).and (PF.sh rfl hs)).imp (fun v F1 q => ⟨q.1.1, q.2, hR.keep (fr_iv q.1.2 (r := 13) rfl rfl (by decide) hs q.2) (fun _ => fr_iv q.1.2 (r := 14) rfl rfl (by decide) hs q.2) (fr_iv q.1.2 (r := 24) rfl rfl (by decide) hs q.2) (fun _ => fr_iv q.1.2 (r := 30) rfl rfl (by decide) hs q.2)⟩)
theorem op_219 (h100 : ro 100 = none) (hW : WT tGam tSets tRoles ro F) : PF ro n 219 0 [(0, .ref 129), (1, .int x1)] [] F (fun _ F1 => WT tGam tSets tRoles ro F1 ∧ FRm tGam ro nd187.ms F F1) := by
  refine node_tt (p := am219) (M := nd187) (vs := [.ref 129, .int x1]) h100 (List.mem_of_getElem? (i := 219) rfl) (by simp [am219]) rfl (entG (wfA_wf (by decide +kernel)) rfl rfl rfl rfl rfl rfl rfl (pa_ok (r := 24) (a0 := 129) (m := 1) (xs := [x1]) (by decide +kernel) rfl rfl) (fun q hq => ?_)) hW
  · have hq : q ∈ [(0, 0), (1, 1)] := hq
    simp only [List.mem_cons, List.not_mem_nil, or_false] at hq
    rcases hq with rfl | rfl <;> exact ⟨_, rfl, rfl⟩
theorem opR_219 (h100 : ro 100 = none) (hW : WT tGam tSets tRoles ro F) (hs : F.map zc = sh0) (hR : R4 F) : PF ro n 219 0 [(0, .ref 129), (1, .int x1)] [] F (fun _ F1 => WT tGam tSets tRoles ro F1 ∧ F1.map zc = sh0 ∧ R4 F1) :=
  ((op_219 h100 hW).and (PF.sh rfl hs)).imp (fun v F1 q => ⟨q.1.1, q.2, hR.keep (fr_iv q.1.2 (r := 13) rfl rfl (by decide) hs q.2) (fun _ => fr_iv q.1.2 (r := 14) rfl rfl (by decide) hs q.2) (fr_iv q.1.2 (r := 24) rfl rfl (by decide) hs q.2) (fun _ => fr_iv q.1.2 (r := 30) rfl rfl (by decide) hs q.2)⟩)
theorem op_221 (h100 : ro 100 = none) (hW : WT tGam tSets tRoles ro F) : PF ro n 221 0 [(0, .ref 129)] [] F (fun _ F1 => WT tGam tSets tRoles ro F1 ∧ FRm tGam ro nd283.ms F F1) := by
  refine node_tt (p := am221) (M := nd283) (vs := [.ref 129]) h100 (List.mem_of_getElem? (i := 221) rfl) (by simp [am221]) rfl (entG (wfA_wf (by decide +kernel)) rfl rfl rfl rfl rfl rfl rfl (pa_ok (r := 24) (a0 := 129) (m := 0) (xs := []) (by decide +kernel) rfl rfl) (fun q hq => ?_)) hW
  · have hq : q ∈ [(0, 0)] := hq
    simp only [List.mem_cons, List.not_mem_nil, or_false] at hq
    rcases hq with rfl <;> exact ⟨_, rfl, rfl⟩
theorem opR_221 (h100 : ro 100 = none) (hW : WT tGam tSets tRoles ro F) (hs : F.map zc = sh0) (hR : R4 F) : PF ro n 221 0 [(0, .ref 129)] [] F (fun _ F1 => WT tGam tSets tRoles ro F1 ∧ F1.map zc = sh0 ∧ R4 F1) :=
  ((op_221 h100 hW).and (PF.sh rfl hs)).imp (fun v F1 q => ⟨q.1.1, q.2, hR.keep (fr_iv q.1.2 (r := 13) rfl rfl (by decide) hs q.2) (fun _ => fr_iv q.1.2 (r := 14) rfl rfl (by decide) hs q.2) (fr_iv q.1.2 (r := 24) rfl rfl (by decide) hs q.2) (fun _ => fr_iv q.1.2 (r := 30) rfl rfl (by decide) hs q.2)⟩)
theorem op_222 (h100 : ro 100 = none) (hW : WT tGam tSets tRoles ro F) : PF ro n 222 0 [(0, .ref 129), (1, .int x1)] [] F (fun _ F1 => WT tGam tSets tRoles ro F1 ∧ FRm tGam ro nd186.ms F F1) := by
  refine node_tt (p := am222) (M := nd186) (vs := [.ref 129, .int x1]) h100 (List.mem_of_getElem? (i := 222) rfl) (by simp [am222]) rfl (entG (wfA_wf (by decide +kernel)) rfl rfl rfl rfl rfl rfl rfl (pa_ok (r := 24) (a0 := 129) (m := 1) (xs := [x1]) (by decide +kernel) rfl rfl) (fun q hq => ?_)) hW
  · have hq : q ∈ [(0, 0), (1, 1)] := hq
    simp only [List.mem_cons, List.not_mem_nil, or_false] at hq
    rcases hq with rfl | rfl <;> exact ⟨_, rfl, rfl⟩
theorem opR_222 (h100 : ro 100 = none) (hW : WT tGam tSets tRoles ro F) (hs : F.map zc = sh0) (hR : R4 F) : PF ro n 222 0 [(0, .ref 129), (1, .int x1)] [] F (fun _ F1 => WT tGam tSets tRoles ro F1 ∧ F1.map zc = sh0 ∧ R4 F1) :=
  ((op_222 h100 hW).and (PF.sh rfl hs)).imp (fun v F1 q => ⟨q.1.1, q.2, hR.keep (fr_iv q.1.2 (r := 13) rfl rfl (by decide) hs q.2) (fun _ => fr_iv q.1.2 (r := 14) rfl rfl (by decide) hs q.2) (fr_iv q.1.2 (r := 24) rfl rfl (by decide) hs q.2) (fun _ => fr_iv q.1.2 (r := 30) rfl rfl (by decide) hs q.2)⟩)
theorem op_224 (h100 : ro 100 = none) (hW : WT tGam tSets tRoles ro F) : PF ro n 224 0 [(0, .ref 129), (1, .int x1), (2, .int x2), (3, .int x3)] [] F (fun _ F1 => WT tGam tSets tRoles ro F1 ∧ FRm tGam ro nd185.ms F F1) := by
  refine node_tt (p := am224) (M := nd185) (vs := [.ref 129, .int x1, .int x2, .int x3]) h100 (List.mem_of_getElem? (i := 224) rfl) (by simp [am224]) rfl (entG (wfA_wf (by decide +kernel)) rfl rfl rfl rfl rfl rfl rfl (pa_ok (r := 24) (a0 := 129) (m := 3) (xs := [x1, x2, x3]) (by decide +kernel) rfl rfl) (fun q hq => ?_)) hW
  · have hq : q ∈ [(0, 0), (1, 1), (2, 2), (3, 3)] := hq
    simp only [List.mem_cons, List.not_mem_nil, or_false] at hq
    rcases hq with rfl | rfl | rfl | rfl <;> exact ⟨_, rfl, rfl⟩
theorem opR_224 (h100 : ro 100 = none) (hW : WT tGam tSets tRoles ro F) (hs : F.map zc = sh0) (hR : R4 F) : PF ro n 224 0 [(0, .ref 129), (1, .int x1), (2, .int x2), (3, .int x3)] [] F (fun _ F1 => WT tGam tSets tRoles ro F1 ∧ F1.map zc = sh0 ∧ R4 F1) :=
  ((op_224 h100 hW).and (PF.sh rfl hs)).imp (fun v F1 q => ⟨q.1.1, q.2, hR.keep (fr_iv q.1.2 (r := 13) rfl rfl (by decide) hs q.2) (fun _ => fr_iv q.1.2 (r := 14) rfl rfl (by decide) hs q.2) (fr_iv q.1.2 (r := 24) rfl rfl (by decide) hs q.2) (fun _ => fr_iv q.1.2 (r := 30) rfl rfl (by decide) hs q.2)⟩)
theorem op_228 (h100 : ro 100 = none) (hW : WT tGam tSets tRoles ro F) : PF ro n 228 0 [(0, .ref 129), (1, .int x1), (2, .int x2)] [] F (fun _ F1 => WT tGam tSets tRoles ro F1 ∧ FRm tGam ro nd184.ms F F1) := by
  refine node_tt (p := am228) (M := nd184) (vs := [.ref 129, .int x1, .int x2]) h100 (List.mem_of_getElem? (i := 228) rfl) (by simp [am228]) rfl (entG (wfA_wf (by decide +kernel)) rfl rfl rfl rfl rfl rfl rfl (pa_ok (r := 24) (a0 := 129) (m := 2) (xs := [x1, x2]) (by decide +kernel) rfl rfl) (fun q hq => ?_)) hW
  · have hq : q ∈ [(0, 0), (1, 1), (2, 2)] := hq
    simp only [List.mem_cons, List.not_mem_nil, or_false] at hq
    rcases hq with rfl | rfl | rfl <;> exact ⟨_, rfl, rfl⟩
theorem opR_228 (h100 : ro 100 = none) (hW : WT tGam tSets tRoles ro F) (hs : F.map zc = sh0) (hR : R4 F) : PF ro n 228 0 [(0, .ref 129), (1, .int x1), (2, .int x2)] [] F (fun _ F1 => WT tGam tSets tRoles ro F1 ∧ F1.map zc = sh0 ∧ R4 F1) :=
  ((op_228 h100 hW).and (PF.sh rfl hs)).imp (fun v F1 q => ⟨q.1.1, q.2, hR.keep (fr_iv q.1.2 (r := 13) rfl rfl (by decide) hs q.2) (fun _ => fr_iv q.1.2 (r := 14) rfl rfl (by decide) hs q.2) (fr_iv q.1.2 (r := 24) rfl rfl (by decide) hs q.2) (fun _ => fr_iv q.1.2 (r := 30) rfl rfl (by decide) hs q.2)⟩)
theorem op_229 (h100 : ro 100 = none) (hW : WT tGam tSets tRoles ro F) : PF ro n 229 0 [(0, .ref 129), (1, .int x1), (2, .int x2), (3, .int x3)] [] F (fun _ F1 => WT tGam tSets tRoles ro F1 ∧ FRm tGam ro nd183.ms F F1) := by
  refine node_tt (p := am229) (M := nd183) (vs := [.ref 129, .int x1, .int x2, .int x3]) h100 (List.mem_of_getElem? (i := 229) rfl) (by simp [am229]) rfl (entG (wfA_wf (by decide +kernel)) rfl rfl rfl rfl rfl rfl rfl (pa_ok (r := 24) (a0 := 129) (m := 3) (xs := [x1, x2, x3]) (by decide +kernel) rfl rfl) (fun q hq => ?_)) hW
  · have hq : q ∈ [(0, 0), (1, 1), (2, 2), (3, 3)] := hq
    simp only [List.mem_cons, List.not_mem_nil, or_false] at hq
    rcases hq with rfl | rfl | rfl | rfl <;> exact ⟨_, rfl, rfl⟩
theorem opR_229 (h100 : ro 100 = none) (hW : WT tGam tSets tRoles ro F) (hs : F.map zc = sh0) (hR : R4 F) : PF ro n 229 0 [(0, .ref 129), (1, .int x1), (2, .int x2), (3, .int x3)] [] F (fun _ F1 => WT tGam tSets tRoles ro F1 ∧ F1.map zc = sh0 ∧ R4 F1) :=
  ((op_229 h100 hW).and (PF.sh rfl hs)).imp (fun v F1 q => ⟨q.1.1, q.2, hR.keep (fr_iv q.1.2 (r := 13) rfl rfl (by decide) hs q.2) (fun _ => fr_iv q.1.2 (r := 14) rfl rfl (by decide) hs q.2) (fr_iv q.1.2 (r := 24) rfl rfl (by decide) hs q.2) (fun _ => fr_iv q.1.2 (r := 30) rfl rfl (by decide) hs q.2)⟩)
theorem op_230 (h100 : ro 100 = none) (hW : WT tGam tSets tRoles ro F) : PF ro n 230 0 [(0, .ref 129), (1, .int x1)] [] F (fun _ F1 => WT tGam tSets tRoles ro F1 ∧ FRm tGam ro nd182.ms F F1) := by
  refine node_tt (p := am230) (M := nd182) (vs := [.ref 129, .int x1]) h100 (List.mem_of_getElem? (i := 230) rfl) (by simp [am230]) rfl (entG (wfA_wf (by decide +kernel)) rfl rfl rfl rfl rfl rfl rfl (pa_ok (r := 24) (a0 := 129) (m := 1) (xs := [x1]) (by decide +kernel) rfl rfl) (fun q hq => ?_)) hW
  · have hq : q ∈ [(0, 0), (1, 1)] := hq
    simp only [List.mem_cons, List.not_mem_nil, or_false] at hq
    rcases hq with rfl | rfl <;> exact ⟨_, rfl, rfl⟩
theorem opR_230 (h100 : ro 100 = none) (hW : WT tGam tSets tRoles ro F) (hs : F.map zc = sh0) (hR : R4 F) : PF ro n 230 0 [(0, .ref 129), (1, .int x1)] [] F (fun _ F1 => WT tGam tSets tRoles ro F1 ∧ F1.map zc = sh0 ∧ R4 F1) :=
  ((op_230 h100 hW).and (PF.sh rfl hs)).imp (fun v F1 q => ⟨q.1.1, q.2, hR.keep (fr_iv q.1.2 (r := 13) rfl rfl (by decide) hs q.2) (fun _ => fr_iv q.1.2 (r := 14) rfl rfl (by decide) hs q.2) (fr_iv q.1.2 (r := 24) rfl rfl (by decide) hs q.2) (fun _ => fr_iv q.1.2 (r := 30) rfl rfl (by decide) hs q.2)⟩)
theorem op_232 (h100 : ro 100 = none) (hW : WT tGam tSets tRoles ro F) : PF ro n 232 0 [(0, .ref 129), (1, .int x1)] [] F (fun _ F1 => WT tGam tSets tRoles ro F1 ∧ FRm tGam ro nd181.ms F F1) := by
  refine node_tt (p := am232) (M := nd181) (vs := [.ref 129, .int x1]) h100 (List.mem_of_getElem? (i := 232) rfl) (by simp [am232]) rfl (entG (wfA_wf (by decide +kernel)) rfl rfl rfl rfl rfl rfl rfl (pa_ok (r := 24) (a0 := 129) (m := 1) (xs := [x1]) (by decide +kernel) rfl rfl) (fun q hq => ?_)) hW
  · have hq : q ∈ [(0, 0), (1, 1)] := hq
    simp only [List.mem_cons, List.not_mem_nil, or_false] at hq
    rcases hq with rfl | rfl <;> exact ⟨_, rfl, rfl⟩
theorem opR_232 (h100 : ro 100 = none) (hW : WT tGam tSets tRoles ro F) (hs : F.map zc = sh0) (hR : R4 F) : PF ro n 232 0 [(0, .ref 129), (1, .int x1)] [] F (fun _ F1 => WT tGam tSets tRoles ro F1 ∧ F1.map zc = sh0 ∧ R4 F1) :=
  ((op_232 h100 hW).and (PF.sh rfl hs)).imp (fun v F1 q => ⟨q.1.1, q.2, hR.keep (fr_iv q.1.2 (r := 13) rfl rfl (by decide) hs q.2) (fun _ => fr_iv q.1.2 (r := 14) rfl rfl (by decide) hs q.2) (fr_iv q.1.2 (r := 24) rfl rfl (by decide) hs q.2) (fun _ => fr_iv q.1.2 (r := 30) rfl rfl (by decide) hs q.2)⟩)
theorem op_233 (h100 : ro 100 = none) (hW : WT tGam tSets tRoles ro F) : PF ro n 233 0 [(0, .ref 129), (1, .int x1), (2, .int x2), (3, .int x3)] [] F (fun _ F1 => WT tGam tSets tRoles ro F1 ∧ FRm tGam ro nd180.ms F F1) := by
  refine node_tt (p := am233) (M := nd180) (vs := [.ref 129, .int x1, .int x2, .int x3]) h100 (List.mem_of_getElem? (i := 233) rfl) (by simp [am233]) rfl (entG (wfA_wf (by decide +kernel)) rfl rfl rfl rfl rfl rfl rfl (pa_ok (r := 24) (a0 := 129) (m := 3) (xs := [x1, x2, x3]) (by decide +kernel) rfl rfl) (fun q hq => ?_)) hW
  · have hq : q ∈ [(0, 0), (1, 1), (2, 2), (3, 3)] := hq
    simp only [List.mem_cons, List.not_mem_nil, or_false] at hq
    rcases hq with rfl | rfl | rfl | rfl <;> exact ⟨_, rfl, rfl⟩
theorem opR_233 (h100 : ro 100 = none) (hW : WT tGam tSets tRoles ro F) (hs : F.map zc = sh0) (hR : R4 F) : PF ro n 233 0 [(0, .ref 129), (1, .int x1), (2, .int x2), (3, .int x3)] [] F (fun _ F1 => WT tGam tSets tRoles ro F1 ∧ F1.map zc = sh0 ∧ R4 F1) :=
  ((op_233 h100 hW).and (PF.sh rfl hs)).imp (fun v F1 q => ⟨q.1.1, q.2, hR.keep (fr_iv q.1.2 (r := 13) rfl rfl (by decide) hs q.2) (fun _ => fr_iv q.1.2 (r := 14) rfl rfl (by decide) hs q.2) (fr_iv q.1.2 (r := 24) rfl rfl (by decide) hs q.2) (fun _ => fr_iv q.1.2 (r := 30) rfl rfl (by decide) hs q.2)⟩)
theorem op_235 (h100 : ro 100 = none) (hW : WT tGam tSets tRoles ro F) : PF ro n 235 0 [(0, .ref 129), (1, .int x1), (2, .int x2), (3, .int x3)] [] F (fun _ F1 => WT tGam tSets tRoles ro F1 ∧ FRm tGam ro nd179.ms F F1) := by
  refine node_tt (p := am235) (M := nd179) (vs := [.ref 129, .int x1, .int x2, .int x3]) h100 (List.mem_of_getElem? (i := 235) rfl) (by simp [am235]) rfl (entG (wfA_wf (by decide +kernel)) rfl rfl rfl rfl rfl rfl rfl (pa_ok (r := 24) (a0 := 129) (m := 3) (xs := [x1, x2, x3]) (by decide +kernel) rfl rfl) (fun q hq => ?_)) hW
  · have hq : q ∈ [(0, 0), (1, 1), (2, 2), (3, 3)] := hq
    simp only [List.mem_cons, List.not_mem_nil, or_false] at hq
    rcases hq with rfl | rfl | rfl | rfl <;> exact ⟨_, rfl, rfl⟩
theorem opR_235 (h100 : ro 100 = none) (hW : WT tGam tSets tRoles ro F) (hs : F.map zc = sh0) (hR : R4 F) : PF ro n 235 0 [(0, .ref 129), (1, .int x1), (2, .int x2), (3, .int x3)] [] F (fun _ F1 => WT tGam tSets tRoles ro F1 ∧ F1.map zc = sh0 ∧ R4 F1) :=
  ((op_235 h100 hW).and (PF.sh rfl hs)).imp (fun v F1 q => ⟨q.1.1, q.2, hR.keep (fr_iv q.1.2 (r := 13) rfl rfl (by decide) hs q.2) (fun _ => fr_iv q.1.2 (r := 14) rfl rfl (by decide) hs q.2) (fr_iv q.1.2 (r := 24) rfl rfl (by decide) hs q.2) (fun _ => fr_iv q.1.2 (r := 30) rfl rfl (by decide) hs q.2)⟩)
theorem op_236 (h100 : ro 100 = none) (hW : WT tGam tSets tRoles ro F) : PF ro n 236 0 [(0, .ref 129), (1, .int x1), (2, .int x2), (3, .int x3), (4, .int x4)] [] F (fun _ F1 => WT tGam tSets tRoles ro F1 ∧ FRm tGam ro nd178.ms F F1) := by
  refine node_tt (p := am236) (M := nd178) (vs := [.ref 129, .int x1, .int x2, .int x3, .int x4]) h100 (List.mem_of_getElem? (i := 236) rfl) (by simp [am236]) rfl (entG (wfA_wf (by decide +kernel)) rfl rfl rfl rfl rfl rfl rfl (pa_ok (r := 24) (a0 := 129) (m := 4) (xs := [x1, x2, x3, x4]) (by decide +kernel) rfl rfl) (fun q hq => ?_)) hW
  · have hq : q ∈ [(0, 0), (1, 1), (2, 2), (3, 3), (4, 4)] := hq
    simp only [List.mem_cons, List.not_mem_nil, or_false] at hq
    rcases hq with rfl | rfl | rfl | rfl | rfl <;> exact ⟨_, rfl, rfl⟩
theorem opR_236 (h100 : ro 100 = none) (hW : WT tGam tSets tRoles ro F) (hs : F.map zc = sh0) (hR : R4 F) : PF ro n 236 0 [(0, .ref 129), (1, .int x1), (2, .int x2), (3, .int x3), (4, .int x4)] [] F (fun _ F1 => WT tGam tSets tRoles ro F1 ∧ F1.map zc = sh0 ∧ R4 F1) :=
  ((op_236 h100 hW).and (PF.sh rfl hs)).imp (fun v F1 q => ⟨q.1.1, q.2, hR.keep (fr_iv q.1.2 (r := 13) rfl rfl (by decide) hs q.2) (fun _ => fr_iv q.1.2 (r := 14) rfl rfl (by decide) hs q.2) (fr_iv q.1.2 (r := 24) rfl rfl (by decide) hs q.2) (fun _ => fr_iv q.1.2 (r := 30) rfl rfl (by decide) hs q.2)⟩)
theorem op_237 (h100 : ro 100 = none) (hW : WT tGam tSets tRoles ro F) : PF ro n 237 0 [(0, .ref 129)] [] F (fun _ F1 => WT tGam tSets tRoles ro F1 ∧ FRm tGam ro nd177.ms F F1) := by
  refine node_tt (p := am237) (M := nd177) (vs := [.ref 129]) h100 (List.mem_of_getElem? (i := 237) rfl) (by simp [am237]) rfl (entG (wfA_wf (by decide +kernel)) rfl rfl rfl rfl rfl rfl rfl (pa_ok (r := 24) (a0 := 129) (m := 0) (xs := []) (by decide +kernel) rfl rfl) (fun q hq => ?_)) hW
  · have hq : q ∈ [(0, 0)] := hq
    simp only [List.mem_cons, List.not_mem_nil, or_false] at hq
    rcases hq with rfl <;> exact ⟨_, rfl, rfl⟩
theorem opR_237 (h100 : ro 100 = none) (hW : WT tGam tSets tRoles ro F) (hs : F.map zc = sh0) (hR : R4 F) : PF ro n 237 0 [(0, .ref 129)] [] F (fun _ F1 => WT tGam tSets tRoles ro F1 ∧ F1.map zc = sh0 ∧ R4 F1) :=
  ((op_237 h100 hW).and (PF.sh rfl hs)).imp (fun v F1 q => ⟨q.1.1, q.2, hR.keep (fr_iv q.1.2 (r := 13) rfl rfl (by decide) hs q.2) (fun _ => fr_iv q.1.2 (r := 14) rfl rfl (by decide) hs q.2) (fr_iv q.1.2 (r := 24) rfl rfl (by decide) hs q.2) (fun _ => fr_iv q.1.2 (r := 30) rfl rfl (by decide) hs q.2)⟩)
theorem op_238 (h100 : ro 100 = none) (hW : WT tGam tSets tRoles ro F) : PF ro n 238 0 [(0, .ref 129), (1, .int x1)] [] F (fun _ F1 => WT tGam tSets tRoles ro F1 ∧ FRm tGam ro nd176.ms F F1) := by
  refine node_tt (p := am238) (M := nd176) (vs := [.ref 129, .int x1]) h100 (List.mem_of_getElem? (i := 238) rfl) (by simp [am238]) rfl (entG (wfA_wf (by decide +kernel)) rfl rfl rfl rfl rfl rfl rfl (pa_ok (r := 24) (a0 := 129) (m := 1) (xs := [x1]) (by decide +kernel) rfl rfl) (fun q hq => ?_)) hW
  · have hq : q ∈ [(0, 0), (1, 1)] := hq
    simp only [List.mem_cons, List.not_mem_nil, or_false] at hq
    rcases hq with rfl | rfl <;> exact ⟨_, rfl, rfl⟩
theorem opR_238 (h100 : ro 100 = none) (hW : WT tGam tSets tRoles ro F) (hs : F.map zc = sh0) (hR : R4 F) : PF ro n 238 0 [(0, .ref 129), (1, .int x1)] [] F (fun _ F1 => WT tGam tSets tRoles ro F1 ∧ F1.map zc = sh0 ∧ R4 F1) :=
  ((op_238 h100 hW).and (PF.sh rfl hs)).imp (fun v F1 q => ⟨q.1.1, q.2, hR.keep (fr_iv q.1.2 (r := 13) rfl rfl (by decide) hs q.2) (fun _ => fr_iv q.1.2 (r := 14) rfl rfl (by decide) hs q.2) (fr_iv q.1.2 (r := 24) rfl rfl (by decide) hs q.2) (fun _ => fr_iv q.1.2 (r := 30) rfl rfl (by decide) hs q.2)⟩)
end Face
end
