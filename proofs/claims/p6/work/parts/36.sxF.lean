/-! SYMBOLIC RUNS, VI: one step of a symbolic state, first kinds -/
/-- roles: shape (0 object, 1 row of ints, 2 row of references, 3 a row of any length that nobody writes), class or kind, what each place holds -/
abbrev RD : Type := Nat × Nat × List (Nat × Int × Int)
def okL (Γ : Nat → Option Nat) (sets : List (List Int)) (es : List (Nat × Int × Int)) (l : List Value) : Prop := l.length = es.length ∧ ∀ (k : Nat) (e : Nat × Int × Int), es[k]? = some e → ∃ v, l[k]? = some v ∧ okE Γ sets e.1 e.2.1 e.2.2 v
def okCell (Γ : Nat → Option Nat) (sets : List (List Int)) (rd : RD) (c : MC) : Prop :=
  (rd.1 = 0 ∧ (∃ fs, c = .inl (rd.2.1, fs)) ∧ okL Γ sets rd.2.2 (cont c)) ∨ (rd.1 = 1 ∧ (∃ xs, c = .inr (.inl (rd.2.1, xs))) ∧ okL Γ sets rd.2.2 (cont c)) ∨ (rd.1 = 2 ∧ (∃ os, c = .inr (.inr (rd.2.1, os))) ∧ okL Γ sets rd.2.2 (cont c)) ∨
  (rd.1 = 3 ∧ (∃ xs, c = .inr (.inl (rd.2.1, xs)) ∧ xs.length ≤ 320) ∧ ∃ e, rd.2.2 = [e] ∧ ∀ v ∈ cont c, okE Γ sets e.1 e.2.1 e.2.2 v)
/-- every cell that has a role is as the role says -/
def WT (Γ : Nat → Option Nat) (sets : List (List Int)) (roles : List RD) (ro : Nat → Option MC) (F : MH) : Prop := ∀ a r rd, Γ a = some r → roles[r]? = some rd → ∃ c, m_cell ro F a = some c ∧ okCell Γ sets rd c
/-- places that may be changed: role, from, to -/
abbrev Mods : Type := List (Nat × Nat × Nat)
def inM (ms : Mods) (r k : Nat) : Bool := ms.any fun q => q.1 == r && decide (q.2.1 ≤ k) && decide (k ≤ q.2.2)
def FRm (Γ : Nat → Option Nat) (ro : Nat → Option MC) (ms : Mods) (F0 F : MH) : Prop := ∀ a r k c0 c, Γ a = some r → inM ms r k = false → m_cell ro F0 a = some c0 → m_cell ro F a = some c → (cont c)[k]? = (cont c0)[k]? ∧ clen c = clen c0
def Good (Γ : Nat → Option Nat) (sets : List (List Int)) (roles : List RD) (ms : Mods) (MT : List MM) (ro : Nat → Option MC) (fty : Nat → Nat → FieldType) (dfl : Nat → List Value) (vs0 : List Value) (F0 : MH) (Q : Option Value → MH → Prop) (d : Nat) (S : SS) : Prop :=
  ∀ vs f fs F, (∃ t, vs = vs0 ++ t) → okS Γ sets ro vs S f fs F → WT Γ sets roles ro F → FRm Γ ro ms F0 F → RR MT ro fty dfl d f fs F Q
section SxF
variable {Γ : Nat → Option Nat} {sets : List (List Int)} {roles : List RD} {ms : Mods} {MT : List MM} {ro : Nat → Option MC} {fty : Nat → Nat → FieldType} {dfl : Nat → List Value} {vs0 : List Value} {F0 : MH} {Q : Option Value → MH → Prop} {d : Nat} {S : SS}
theorem pre_app {vs : List Value} (h : ∃ t, vs = vs0 ++ t) (v : Value) : ∃ t, vs ++ [v] = vs0 ++ t := by
  obtain ⟨t, rfl⟩ := h
  exact ⟨t ++ [v], by rw [List.append_assoc]⟩
theorem okS.frame {vs : List Value} {f : CF} {fs : List CF} {F : MH} (h : okS Γ sets ro vs S f fs F) : ∃ lv cst, f = (S.1.1, S.1.2.1, lv, cst) ∧ (∀ q ∈ S.1.2.2.1, okA Γ sets vs q.2 ∧ ∃ v, vs[q.2.1]? = some v ∧ m_get lv q.1 = some v) ∧ cst.map some = S.1.2.2.2.map (fun a => vs[a.1]?) ∧ ∀ a ∈ S.1.2.2.2, okA Γ sets vs a := by
  obtain ⟨h1, h2, -⟩ := h
  obtain ⟨mi, pc, lv, cst⟩ := f
  obtain ⟨e1, e2, e3, e4⟩ := h2
  simp only at e1 e2 e3 e4
  subst e1
  subst e2
  exact ⟨lv, cst, rfl, fun q hq => ⟨h1 _ (mem_loc hq), e3 q hq⟩, e4, fun a ha => h1 a (mem_top ha)⟩
theorem stk1 {vs : List Value} {cst : List Value} {a : AV} {r : List AV} (h : cst.map some = (a :: r).map (fun a => vs[a.1]?)) : ∃ v t, cst = v :: t ∧ vs[a.1]? = some v ∧ t.map some = r.map (fun a => vs[a.1]?) := by
  cases cst with
  | nil => simp at h
  | cons v t =>
    simp only [List.map_cons, List.cons.injEq] at h
    exact ⟨v, t, rfl, h.1.symm, h.2⟩
theorem g_const {E : MI × Option FieldType} {v : Value} {a : AV} (hE : m_at MT S.1.1 S.1.2.1 = some E) (hc : c_val E.1 = some v) (ha : c_av Γ S.2.2.2.2.2 v = some a) (h : Good Γ sets roles ms MT ro fty dfl vs0 F0 Q d (s_top (s_up S) (E.1.1 + E.1.2.2.1) S.1.2.2.1 (a :: S.1.2.2.2))) : Good Γ sets roles ms MT ro fty dfl vs0 F0 Q d S := by
  intro vs f fs F hp hS hW hF
  obtain ⟨lv, cst, rfl, hl, hc1, hc2⟩ := hS.frame
  obtain ⟨-, -, -, hpc, -⟩ := m_at_spec hE
  refine TT.one hE (c_val_spec hc fty dfl F lv cst) ?_
  obtain ⟨o1, o2⟩ := c_av_ok (sets := sets) (vs := vs) ha hS.2.2.2.2.2.2
  have hS1 := hS.up v
  refine h (vs ++ [v]) (S.1.1, E.1.1 + E.1.2.2.1, lv, v :: cst) fs F (pre_app hp v) ?_ hW hF
  refine hS1.top (fun q hq => ?_) (fun b hb => ?_) ?_
  · obtain ⟨q1, w, q2, q3⟩ := hl q hq
    exact ⟨q1.app _, w, get_app q2, q3⟩
  · rcases List.mem_cons.mp hb with rfl | hb
    · exact o1
    · exact (hc2 b hb).app _
  · simp only [List.map_cons, List.cons.injEq]
    refine ⟨?_, ?_⟩
    · rw [o2, hS.2.2.2.2.2.2]; simp
    · rw [hc1]
      apply List.map_congr_left
      intro b hb
      obtain ⟨w, hw⟩ := (hc2 b hb).get
      rw [hw, get_app hw]
theorem g_load {E : MI × Option FieldType} {i c : Nat} {a : AV} (hE : m_at MT S.1.1 S.1.2.1 = some E) (hi : l_ix E.1.2.1 = some (i, c)) (ha : x_get S.1.2.2.1 i = some a) (hk : k_is a.2.1 c = true) (h : Good Γ sets roles ms MT ro fty dfl vs0 F0 Q d (s_top S (E.1.1 + E.1.2.2.1) S.1.2.2.1 (a :: S.1.2.2.2))) : Good Γ sets roles ms MT ro fty dfl vs0 F0 Q d S := by
  intro vs f fs F hp hS hW hF
  obtain ⟨lv, cst, rfl, hl, hc1, hc2⟩ := hS.frame
  obtain ⟨oa, v, hv, hg⟩ := hl _ (x_get_mem ha)
  simp only at oa hv hg
  have ho := oa
  obtain ⟨v', p1, p2, -⟩ := oa
  obtain rfl : v' = v := Option.some.inj (p1.symm.trans hv)
  refine TT.one hE (load_spec hi hg ⟨fun e => ?_, fun e => ?_, fun e => ?_⟩ fty dfl F cst) ?_
  · subst e; exact (k_is_int p2 hk).1
  · subst e; exact (k_is_long p2 hk).1
  · subst e; obtain ⟨⟨x, e1, -⟩, -⟩ := k_is_ref p2 hk; exact ⟨x, e1⟩
  · refine h vs (S.1.1, E.1.1 + E.1.2.2.1, lv, v' :: cst) fs F hp (hS.top hl (fun b hb => ?_) ?_) hW hF
    · rcases List.mem_cons.mp hb with rfl | hb
      · exact ho
      · exact hc2 b hb
    · simp only [List.map_cons, List.cons.injEq]
      exact ⟨hv.symm, hc1⟩
/-- a result that is put on the stack in the place of others -/
theorem g_res {E : MI × Option FieldType} {r : List AV} {k : Nat} {lo hi : Int} {rl : List (Nat × Int × Int)} (hE : m_at MT S.1.1 S.1.2.1 = some E)
    (hst : ∀ vs lv cst F, okA Γ sets vs = okA Γ sets vs → (∀ a ∈ S.1.2.2.2, okA Γ sets vs a) → cst.map some = S.1.2.2.2.map (fun a => vs[a.1]?) → ∃ v t, m_one ro fty dfl E.1 F lv cst = some (F, E.1.1 + E.1.2.2.1, lv, v :: t) ∧ t.map some = r.map (fun a => vs[a.1]?) ∧ okE Γ sets k lo hi v ∧ ∀ q ∈ rl, ∃ w, vs[q.1]? = some w ∧ q.2.1 ≤ vz v - vz w ∧ vz v - vz w ≤ q.2.2)
    (hr : ∀ a ∈ r, a ∈ S.1.2.2.2) (h : Good Γ sets roles ms MT ro fty dfl vs0 F0 Q d (s_top (s_up S) (E.1.1 + E.1.2.2.1) S.1.2.2.1 ((S.2.2.2.2.2, k, lo, hi, rl) :: r))) : Good Γ sets roles ms MT ro fty dfl vs0 F0 Q d S := by
  intro vs f fs F hp hS hW hF
  obtain ⟨lv, cst, rfl, hl, hc1, hc2⟩ := hS.frame
  obtain ⟨v, t, h1, h2, h3, h4⟩ := hst vs lv cst F rfl hc2 hc1
  refine TT.one hE h1 ?_
  have hn := hS.2.2.2.2.2.2
  refine h (vs ++ [v]) (S.1.1, E.1.1 + E.1.2.2.1, lv, v :: t) fs F (pre_app hp v) ((hS.up v).top (fun q hq => ?_) (fun b hb => ?_) ?_) hW hF
  · obtain ⟨q1, w, q2, q3⟩ := hl q hq
    exact ⟨q1.app _, w, get_app q2, q3⟩
  · rcases List.mem_cons.mp hb with rfl | hb
    · exact ⟨v, by rw [hn]; simp, h3, fun q hq => by obtain ⟨w, e1, e2⟩ := h4 q hq; exact ⟨w, get_app e1, e2⟩⟩
    · exact (hc2 b (hr b hb)).app _
  · simp only [List.map_cons, List.cons.injEq]
    refine ⟨by rw [hn]; simp, ?_⟩
    rw [h2]
    apply List.map_congr_left
    intro b hb
    obtain ⟨w, hw⟩ := (hc2 b (hr b hb)).get
    rw [hw, get_app hw]
end SxF
