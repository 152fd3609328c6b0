/-! SYMBOLIC RUNS, II: states and what they mean -/
def s_avF (f : SF) : List AV := f.2.2.1.map (fun q => q.2) ++ f.2.2.2
def s_av (S : SS) : List AV := s_avF S.1 ++ (S.2.1.flatMap s_avF ++ (S.2.2.1.map (fun q => q.2.2.2) ++ S.2.2.2.1.flatMap (fun q => [q.2.2.1, q.2.2.2])))
def s_mapF (g : AV → AV) (f : SF) : SF := (f.1, f.2.1, f.2.2.1.map (fun q => (q.1, g q.2)), f.2.2.2.map g)
def s_map (g : AV → AV) (S : SS) : SS := (s_mapF g S.1, S.2.1.map (s_mapF g), S.2.2.1.map (fun q => (q.1, q.2.1, q.2.2.1, g q.2.2.2)), S.2.2.2.1.map (fun q => (q.1, q.2.1, g q.2.2.1, g q.2.2.2)), S.2.2.2.2.1, S.2.2.2.2.2)
def cont (c : MC) : List Value := match c with
  | .inl o => o.2
  | .inr (.inl q) => q.2.map Value.int
  | .inr (.inr q) => q.2.map va_rf
def clen (c : MC) : Nat := (cont c).length
def okF (vs : List Value) (sf : SF) (cf : CF) : Prop := sf.1 = cf.1 ∧ sf.2.1 = cf.2.1 ∧ (∀ q ∈ sf.2.2.1, ∃ v, vs[q.2.1]? = some v ∧ m_get cf.2.2.1 q.1 = some v) ∧ cf.2.2.2.map some = sf.2.2.2.map (fun a => vs[a.1]?)
def okFs (vs : List Value) : List SF → List CF → Prop
  | [], [] => True
  | a :: s, b :: t => okF vs a b ∧ okFs vs s t
  | _, _ => False
def okFa (Γ : Nat → Option Nat) (ro : Nat → Option MC) (F : MH) (vs : List Value) (q : FA) : Prop :=
  ∃ a c v, vs[q.1]? = some (.ref a) ∧ Γ a = some q.2.1 ∧ m_cell ro F a = some c ∧ vs[q.2.2.2.1]? = some v ∧ (if q.2.2.1 = 5000 then v = .int (Int32.ofNat (clen c)) else (cont c)[q.2.2.1]? = some v)
def okEa (Γ : Nat → Option Nat) (ro : Nat → Option MC) (F : MH) (vs : List Value) (q : EA) : Prop :=
  ∃ a c x v, vs[q.1]? = some (.ref a) ∧ Γ a = some q.2.1 ∧ m_cell ro F a = some c ∧ vs[q.2.2.1.1]? = some (.int x) ∧ 0 ≤ x.toInt ∧ vs[q.2.2.2.1]? = some v ∧ (cont c)[x.toInt.toNat]? = some v
def okSu (vs : List Value) (q : Nat × Nat × Nat) : Prop := ∃ u v w, vs[q.1]? = some u ∧ vs[q.2.1]? = some v ∧ vs[q.2.2]? = some w ∧ vz u + vz v = vz w
def okS (Γ : Nat → Option Nat) (sets : List (List Int)) (ro : Nat → Option MC) (vs : List Value) (S : SS) (f : CF) (fs : List CF) (F : MH) : Prop :=
  (∀ a ∈ s_av S, okA Γ sets vs a) ∧ okF vs S.1 f ∧ okFs vs S.2.1 fs ∧ (∀ q ∈ S.2.2.1, okFa Γ ro F vs q) ∧ (∀ q ∈ S.2.2.2.1, okEa Γ ro F vs q) ∧ (∀ q ∈ S.2.2.2.2.1, okSu vs q) ∧ S.2.2.2.2.2 = vs.length
section SxB
variable {Γ : Nat → Option Nat} {sets : List (List Int)} {vs : List Value} {ro : Nat → Option MC}
theorem s_av_map (g : AV → AV) (S : SS) : s_av (s_map g S) = (s_av S).map g := by
  have h1 : ∀ f : SF, s_avF (s_mapF g f) = (s_avF f).map g := by
    intro f
    simp only [s_avF, s_mapF, List.map_append, List.map_map]
    rfl
  simp only [s_av, s_map, List.map_append, h1, List.flatMap_map, List.map_flatMap, List.map_map]
  rfl
theorem okF.app {sf : SF} {cf : CF} (h : okF vs sf cf) (hb : ∀ a ∈ sf.2.2.2, ∃ v, vs[a.1]? = some v) (t : List Value) : okF (vs ++ t) sf cf := by
  obtain ⟨h1, h2, h3, h4⟩ := h
  refine ⟨h1, h2, fun q hq => ?_, ?_⟩
  · obtain ⟨v, g1, g2⟩ := h3 q hq
    exact ⟨v, get_app g1, g2⟩
  · rw [h4]
    apply List.map_congr_left
    intro a ha
    obtain ⟨v, hv⟩ := hb a ha
    rw [hv, get_app hv]
theorem okF.map {sf : SF} {cf : CF} (h : okF vs sf cf) (g : AV → AV) (hg : ∀ a, (g a).1 = a.1) : okF vs (s_mapF g sf) cf := by
  obtain ⟨h1, h2, h3, h4⟩ := h
  refine ⟨h1, h2, fun q hq => ?_, ?_⟩
  · obtain ⟨q0, hq0, rfl⟩ := List.mem_map.mp hq
    obtain ⟨v, g1, g2⟩ := h3 q0 hq0
    exact ⟨v, by simp only [hg]; exact g1, g2⟩
  · rw [h4]
    simp only [s_mapF, List.map_map]
    apply List.map_congr_left
    intro a _
    simp only [Function.comp, hg]
theorem okFs.map (g : AV → AV) (hg : ∀ a, (g a).1 = a.1) : ∀ {s : List SF} {t : List CF}, okFs vs s t → okFs vs (s.map (s_mapF g)) t
  | [], [], _ => trivial
  | a :: s, b :: t, h => ⟨h.1.map g hg, okFs.map g hg h.2⟩
  | [], b :: t, h => h.elim
  | a :: s, [], h => h.elim
theorem okFs.app (x : List Value) : ∀ {s : List SF} {t : List CF}, okFs vs s t → (∀ f ∈ s, ∀ a ∈ f.2.2.2, ∃ v, vs[a.1]? = some v) → okFs (vs ++ x) s t
  | [], [], _, _ => trivial
  | a :: s, b :: t, h, hb => ⟨h.1.app (hb a List.mem_cons_self) x, okFs.app x h.2 (fun f hf => hb f (List.mem_cons_of_mem _ hf))⟩
  | [], b :: t, h, _ => h.elim
  | a :: s, [], h, _ => h.elim
/-- values told more narrowly -/
theorem okS.map {S : SS} {f : CF} {fs : List CF} {F : MH} (h : okS Γ sets ro vs S f fs F) (g : AV → AV) (hg : ∀ a, (g a).1 = a.1) (ho : ∀ a ∈ s_av S, okA Γ sets vs (g a)) : okS Γ sets ro vs (s_map g S) f fs F := by
  obtain ⟨h1, h2, h3, h4, h5, h6, h7⟩ := h
  refine ⟨?_, h2.map g hg, h3.map g hg, ?_, ?_, h6, h7⟩
  · intro a ha
    rw [s_av_map] at ha
    obtain ⟨b, hb, rfl⟩ := List.mem_map.mp ha
    exact ho b hb
  · intro q hq
    obtain ⟨q0, hq0, rfl⟩ := List.mem_map.mp hq
    obtain ⟨a, c, v, g1, g2, g3, g4, g5⟩ := h4 q0 hq0
    exact ⟨a, c, v, g1, g2, g3, by simp only [hg]; exact g4, g5⟩
  · intro q hq
    obtain ⟨q0, hq0, rfl⟩ := List.mem_map.mp hq
    obtain ⟨a, c, x, v, g1, g2, g3, g4, g5, g6, g7⟩ := h5 q0 hq0
    exact ⟨a, c, x, v, g1, g2, g3, by simp only [hg]; exact g4, g5, by simp only [hg]; exact g6, g7⟩
theorem okS.cl {S : SS} {f : CF} {fs : List CF} {F : MH} (h : okS Γ sets ro vs S f fs F) {id : Nat} {lo hi : Int} {w : Value} (hw : vs[id]? = some w) (h1 : lo ≤ vz w) (h2 : vz w ≤ hi) : okS Γ sets ro vs (s_map (a_cl id lo hi) S) f fs F :=
  h.map _ (a_cl_id id lo hi) (fun a ha => a_cl_ok (h.1 a ha) hw h1 h2)
/-- the next number is given -/
def s_up (S : SS) : SS := (S.1, S.2.1, S.2.2.1, S.2.2.2.1, S.2.2.2.2.1, S.2.2.2.2.2 + 1)
theorem mem_top {S : SS} {a : AV} (h : a ∈ S.1.2.2.2) : a ∈ s_av S := List.mem_append_left _ (List.mem_append_right _ h)
theorem mem_loc {S : SS} {q : Nat × AV} (h : q ∈ S.1.2.2.1) : q.2 ∈ s_av S := List.mem_append_left _ (List.mem_append_left _ (List.mem_map.mpr ⟨q, h, rfl⟩))
theorem mem_rest {S : SS} {f : SF} {a : AV} (h : f ∈ S.2.1) (ha : a ∈ f.2.2.2) : a ∈ s_av S := List.mem_append_right _ (List.mem_append_left _ (List.mem_flatMap.mpr ⟨f, h, List.mem_append_right _ ha⟩))
theorem mem_fact {S : SS} {q : FA} (h : q ∈ S.2.2.1) : q.2.2.2 ∈ s_av S := List.mem_append_right _ (List.mem_append_right _ (List.mem_append_left _ (List.mem_map.mpr ⟨q, h, rfl⟩)))
theorem mem_ef1 {S : SS} {q : EA} (h : q ∈ S.2.2.2.1) : q.2.2.1 ∈ s_av S := List.mem_append_right _ (List.mem_append_right _ (List.mem_append_right _ (List.mem_flatMap.mpr ⟨q, h, List.mem_cons_self⟩)))
theorem mem_ef2 {S : SS} {q : EA} (h : q ∈ S.2.2.2.1) : q.2.2.2 ∈ s_av S := List.mem_append_right _ (List.mem_append_right _ (List.mem_append_right _ (List.mem_flatMap.mpr ⟨q, h, List.mem_cons_of_mem _ List.mem_cons_self⟩)))
theorem okA.get {a : AV} (h : okA Γ sets vs a) : ∃ v, vs[a.1]? = some v := h.imp fun v q => q.1
theorem okS.up {S : SS} {f : CF} {fs : List CF} {F : MH} (h : okS Γ sets ro vs S f fs F) (v : Value) : okS Γ sets ro (vs ++ [v]) (s_up S) f fs F := by
  obtain ⟨h1, h2, h3, h4, h5, h6, h7⟩ := h
  refine ⟨fun a ha => (h1 a ha).app _, h2.app (fun a ha => (h1 a (mem_top ha)).get) _, h3.app _ (fun f hf a ha => (h1 a (mem_rest hf ha)).get), ?_, ?_, ?_, ?_⟩
  · intro q hq
    obtain ⟨a, c, v, g1, g2, g3, g4, g5⟩ := h4 q hq
    exact ⟨a, c, v, get_app g1, g2, g3, get_app g4, g5⟩
  · intro q hq
    obtain ⟨a, c, x, v, g1, g2, g3, g4, g5, g6, g7⟩ := h5 q hq
    exact ⟨a, c, x, v, get_app g1, g2, g3, get_app g4, g5, get_app g6, g7⟩
  · intro q hq
    obtain ⟨u, v, w, g1, g2, g3, g4⟩ := h6 q hq
    exact ⟨u, v, w, get_app g1, get_app g2, get_app g3, g4⟩
  · show S.2.2.2.2.2 + 1 = _
    rw [h7, List.length_append]; rfl
/-- the running frame goes on: another pc, locals, stack -/
def s_top (S : SS) (pc : Nat) (lc : List (Nat × AV)) (st : List AV) : SS := ((S.1.1, pc, lc, st), S.2)
theorem okS.top {S : SS} {f : CF} {fs : List CF} {F : MH} (h : okS Γ sets ro vs S f fs F) {pc : Nat} {lc : List (Nat × AV)} {st : List AV} {lv : LVs} {cst : List Value} (ha : ∀ q ∈ lc, okA Γ sets vs q.2 ∧ ∃ v, vs[q.2.1]? = some v ∧ m_get lv q.1 = some v) (hb : ∀ a ∈ st, okA Γ sets vs a) (hc : cst.map some = st.map (fun a => vs[a.1]?)) : okS Γ sets ro vs (s_top S pc lc st) (f.1, pc, lv, cst) fs F := by
  obtain ⟨h1, h2, h3, h4, h5, h6, h7⟩ := h
  refine ⟨fun a hm => ?_, ⟨h2.1, rfl, fun q hq => (ha q hq).2, hc⟩, h3, h4, h5, h6, h7⟩
  rcases List.mem_append.mp hm with hm | hm
  · rcases List.mem_append.mp hm with hm | hm
    · obtain ⟨q, hq, rfl⟩ := List.mem_map.mp hm
      exact (ha q hq).1
    · exact hb a hm
  · exact h1 a (List.mem_append_right _ hm)
end SxB
