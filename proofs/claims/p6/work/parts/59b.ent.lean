/-! THE LAW'S RUN, II: entries of methods fit their nodes; what a node leaves -/
section Ent
variable {ro : Nat → Option MC} {n : Nat} {F F0 F1 : MH} {M : ND} {k : Nat} {vs : List Value} {lv : LVs}
theorem entG (hw : n_wf M = true) (h1 : M.mi = k) (h2 : M.pc = 0) (hst : M.st = []) (hfa : M.fa = []) (hea : M.ea = []) (hsu : M.su = []) (hlen : M.pa.length = vs.length) (hpa : ∀ a ∈ M.pa, okA tGam tSets vs a) (hlc : ∀ q ∈ M.lc, ∃ v, vs[q.2]? = some v ∧ m_get lv q.1 = some v) : okN tGam tSets ro M vs (k, 0, lv, []) F := by
  refine ⟨⟨fun a ha => hpa a (st_av hw ha), ⟨h1, h2, fun q hq => ?_, ?_⟩, trivial, fun q hq => ?_, fun q hq => ?_, fun q hq => ?_, hlen⟩, hpa⟩
  · obtain ⟨q0, h0, rfl⟩ := List.mem_map.mp hq
    obtain ⟨v, g1, g2⟩ := hlc q0 h0
    have hl : q0.2 < M.pa.length := by rw [hlen]; exact (List.getElem?_eq_some_iff.mp g1).1
    refine ⟨v, ?_, g2⟩
    show vs[(n_av M q0.2).1]? = some v
    rw [wf_id hw hl]; exact g1
  · show ([] : List Value).map some = (M.st.map (n_av M)).map (fun a => vs[a.1]?)
    rw [hst]; rfl
  · have hq : q ∈ M.fa.map (fun q => (q.1, q.2.1, q.2.2.1, n_av M q.2.2.2)) := hq
    rw [hfa] at hq; cases hq
  · have hq : q ∈ M.ea.map (fun q => (q.1, q.2.1, n_av M q.2.2.1, n_av M q.2.2.2)) := hq
    rw [hea] at hq; cases hq
  · have hq : q ∈ M.su := hq
    rw [hsu] at hq; cases hq
/-- an object, then ints of any size -/
def paB (r m : Nat) (pa : List AV) : Bool := pa.all (fun a => a.2.2.2.2.isEmpty && ((a.1 == 0 && (a.2.1 == 2 && a.2.2.1 == (r : Int))) || (decide (1 ≤ a.1 ∧ a.1 ≤ m) && (a.2.1 == 0 && decide (a.2.2.1 ≤ -2147483648 ∧ 2147483647 ≤ a.2.2.2.1)))))
theorem pa_ok {r a0 m : Nat} {xs : List Int32} {pa : List AV} (h : paB r m pa = true) (hm : m = xs.length) (hg : tGam a0 = some r) : ∀ a ∈ pa, okA tGam tSets (.ref a0 :: xs.map Value.int) a := by
  intro a ha
  have h1 := List.all_eq_true.mp h a ha
  simp only [Bool.and_eq_true, Bool.or_eq_true, beq_iff_eq, decide_eq_true_eq, List.isEmpty_iff] at h1
  obtain ⟨e0, h1⟩ := h1
  rcases h1 with ⟨e1, e2, e3⟩ | ⟨e1, e2, e3⟩
  · refine ⟨.ref a0, by rw [e1]; rfl, ?_, fun r hr => by rw [e0] at hr; cases hr⟩
    unfold okE
    rw [e2, e3]
    exact ⟨a0, rfl, by simpa using hg⟩
  · obtain ⟨j, hj⟩ : ∃ j, a.1 = j + 1 := ⟨a.1 - 1, by omega⟩
    have hl : j < xs.length := by rw [← hm]; omega
    refine ⟨.int xs[j], ?_, ?_, fun r hr => by rw [e0] at hr; cases hr⟩
    · rw [hj, List.getElem?_cons_succ, List.getElem?_map, List.getElem?_eq_getElem hl]; rfl
    · unfold okE
      rw [e2]
      have := i_rng xs[j]
      exact ⟨⟨_, rfl⟩, by show a.2.2.1 ≤ (xs[j]).toInt; omega, by show (xs[j]).toInt ≤ a.2.2.2.1; omega⟩
theorem iv_cont {a j : Nat} {c : MC} (h : F[a]? = some c) : iv F a j = (match (cont c)[j]? with | some (.int x) => x | _ => 0) := by
  unfold iv
  rw [h]
  match c with
  | .inl o => rfl
  | .inr (.inl q) =>
    show q.2.getD j 0 = (match (q.2.map Value.int)[j]? with | some (.int x) => x | _ => 0)
    rw [List.getElem?_map, List.getD_eq_getElem?_getD]
    cases q.2[j]? <;> rfl
  | .inr (.inr q) =>
    show 0 = (match (q.2.map va_rf)[j]? with | some (.int x) => x | _ => 0)
    rw [List.getElem?_map]
    cases hq : q.2[j]? with
    | none => rfl
    | some o => cases o <;> rfl
theorem sh_some {a : Nat} (hs : F.map zc = sh0) (ha : a < 141) : ∃ c, F[a]? = some c := by
  have hl : F.length = 141 := by
    have : (F.map zc).length = sh0.length := by rw [hs]
    rw [List.length_map] at this
    rw [this]; rfl
  exact ⟨_, List.getElem?_eq_getElem (by omega)⟩
theorem fr_iv {ms : Mods} {a r j : Nat} (h : FRm tGam ro ms F0 F1) (hg : tGam a = some r) (hk : inM ms r j = false) (ha : a < 141) (hs0 : F0.map zc = sh0) (hs1 : F1.map zc = sh0) : iv F1 a j = iv F0 a j := by
  obtain ⟨c0, e0⟩ := sh_some hs0 ha
  obtain ⟨c1, e1⟩ := sh_some hs1 ha
  have hkb : a < KB := Nat.lt_trans ha (by decide)
  have m0 : m_cell ro F0 a = some c0 := by unfold m_cell; rw [if_pos hkb]; exact e0
  have m1 : m_cell ro F1 a = some c1 := by unfold m_cell; rw [if_pos hkb]; exact e1
  rw [iv_cont e0, iv_cont e1, (h a r j c0 c1 hg hk m0 m1).1]
/-- the tapes of class and model are the same -/
def R4 (F : MH) : Prop := ∃ b L, BX b L (iv F) ∧ BM b L (iv F)
theorem R4.keep (h : R4 F0) (e1 : iv F1 22 1 = iv F0 22 1) (e2 : ∀ q, iv F1 23 q = iv F0 23 q) (e3 : iv F1 129 13 = iv F0 129 13) (e4 : ∀ q, iv F1 135 q = iv F0 135 q) : R4 F1 := by
  obtain ⟨b, L, hX, hM⟩ := h
  exact ⟨b, L, ⟨hX.1, by rw [e1]; exact hX.2.1, fun q => by rw [e2]; exact hX.2.2 q⟩, ⟨hM.1, by rw [e3]; exact hM.2.1, fun q => by rw [e4]; exact hM.2.2.1 q, hM.2.2.2⟩⟩
theorem node_tt {p : List ND × List SP} (h100 : ro 100 = none) (hp : p ∈ tA) (hM : M ∈ p.1) (ha : M.alts = [M]) (hok : okN tGam tSets ro M vs (k, 0, lv, []) F) (hW : WT tGam tSets tRoles ro F) : PF ro n k 0 lv [] F (fun _ F1 => WT tGam tSets tRoles ro F1 ∧ FRm tGam ro M.ms F F1) := by
  have hT := (all_NH h100 (M.stg + 1) 0 p hp M hM).2 vs (k, 0, lv, []) F (Or.inl (Nat.lt_succ_self _)) hok hW
  refine PF_of_TT (hT.imp (fun v F1 hh => ?_))
  obtain ⟨M2, hM2, q1, q2, -⟩ := hh
  rw [ha] at hM2
  cases List.mem_singleton.mp hM2
  exact ⟨q1, q2⟩
end Ent
