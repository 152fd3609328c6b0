/-! SYMBOLIC RUNS, XXI: a node is used; what is told of the end; ranks -/
def x_tid (M : ND) (m : List AV) (n j : Nat) : Nat := if j < M.pa.length then (m.getD j a0).1 else n + (j - M.pa.length)
def x_tav (M : ND) (m : List AV) (n : Nat) (a : AV) : AV := (x_tid M m n a.1, a.2.1, a.2.2.1, a.2.2.2.1, a.2.2.2.2.map (fun r => (x_tid M m n r.1, r.2)) ++ (a.2.2.2.2.flatMap (fun r => if r.1 < M.pa.length then (m.getD r.1 a0).2.2.2.2.map (fun q => (q.1, q.2.1 + r.2.1, q.2.2 + r.2.2)) else [])).take 8)
def x_xav (M : ND) (m : List AV) (n j : Nat) : AV := if j < M.pa.length then m.getD j a0 else x_tav M m n (M.xp.getD (j - M.pa.length) a0)
/-- the state behind a node -/
def x_aft (M : ND) (m : List AV) (S : SS) : SS := (S.1, S.2.1, M.xf.map (fun q => (x_tid M m S.2.2.2.2.2 q.1, q.2.1, q.2.2.1, x_xav M m S.2.2.2.2.2 q.2.2.2)) ++ S.2.2.1.filter (fun q => !(inM M.ms q.2.1 q.2.2.1)), S.2.2.2.1.filter (fun q => !(M.ms.any (fun r => r.1 == q.2.1))), S.2.2.2.2.1, S.2.2.2.2.2 + M.xp.length)
def x_msub (a b : Mods) : Bool := a.all (fun q => b.any (fun p => p.1 == q.1 && decide (p.2.1 ≤ q.2.1 ∧ q.2.2 ≤ p.2.2)))
def rsum : List (Int × Nat) → List Value → Int
  | [], _ => 0
  | q :: t, vs => q.1 * vz (vs.getD q.2 .null) + rsum t vs
def n_mes (N : ND) (vs : List Value) : Nat := (N.rk.1 + rsum N.rk.2 vs).toNat
def mU (w : Int) (b : Int × Int) : Int := max (w * b.1) (w * b.2)
/-- a bound of minus the sum -/
def x_ubO (pa : List AV) : List (Int × Nat) → Option Int
  | [] => some 0
  | q :: t => match pa[q.2]?, x_ubO pa t with
    | some b, some z => if b.2.1 = 2 then none else some (mU (-q.1) (b.2.2.1, b.2.2.2.1) + z)
    | _, _ => none
/-- a bound of the new sum less the old -/
def x_ub (m pa : List AV) : List (Int × Nat) → List (Int × Nat) → Option Int
  | [], t => x_ubO pa t
  | q :: s, [] => (match m[q.2]?, x_ub m pa s [] with
    | some a, some z => if a.2.1 = 2 then none else some (mU q.1 (a.2.2.1, a.2.2.2.1) + z)
    | _, _ => none)
  | q :: s, p :: t => (match m[q.2]?, pa[p.2]?, x_ub m pa s t with
    | some a, some b, some z => if a.2.1 = 2 ∨ b.2.1 = 2 then none else if q.1 = p.1 then some (mU q.1 (a_diff a b) + z) else some (mU q.1 (a.2.2.1, a.2.2.2.1) + (mU (-p.1) (b.2.2.1, b.2.2.2.1) + z))
    | _, _, _ => none)
def x_rk (N M : ND) (m : List AV) : Bool := match x_ub m N.pa M.rk.2 N.rk.2, x_ubO N.pa N.rk.2 with
  | some z, some l => decide (M.rk.1 - N.rk.1 + z ≤ -1 ∧ 1 ≤ N.rk.1 - l)
  | _, _ => false
def x_ap (sets : List (List Int)) (roles : List RD) (N M : ND) (d : Nat) (S : SS) : Option (List (SS × Option AV)) :=
  if M.pc = S.1.2.1 ∧ M.mi = S.1.1 ∧ M.dep ≤ d ∧ M.stg ≤ N.stg then (match x_bs roles N M.bs S [] with
    | some q => if (x_mt sets M q.1 q.2 && ((decide (M.stg < N.stg) || x_rk N M q.2) && x_msub M.ms N.ms)) = true then some (M.alts.map (fun M' => (x_aft M' q.2 q.1, M'.xr.map (x_xav M' q.2 q.1.2.2.2.2.2)))) else none
    | none => none) else none
/-- an address that has a role has a cell that is told, or never one -/
def RK (Γ : Nat → Option Nat) (roles : List RD) (ro : Nat → Option MC) : Prop := ∀ a r, Γ a = some r → (∃ rd, roles[r]? = some rd) ∨ ∀ F, m_cell ro F a = none
section SxU
variable {Γ : Nat → Option Nat} {sets : List (List Int)} {roles : List RD} {ms : Mods} {MT : List MM} {ro : Nat → Option MC} {fty : Nat → Nat → FieldType} {dfl : Nat → List Value} {vs0 : List Value} {F0 : MH} {Q : Option Value → MH → Prop} {d : Nat} {S : SS}
theorem tid_ok {M : ND} {m : List AV} {vs ws t : List Value} (h : ws.map some = m.map (fun a => vs[a.1]?)) (hl : m.length = M.pa.length) {j : Nat} {v : Value} (hv : (ws ++ t)[j]? = some v) : (vs ++ t)[x_tid M m vs.length j]? = some v := by
  have hwl := vals_len h
  unfold x_tid
  split
  · rename_i hj
    rw [List.getElem?_append_left (by omega)] at hv
    have hb : m[j]? = some m[j] := List.getElem?_eq_getElem (by omega)
    obtain ⟨w, h1, h2⟩ := vals_get h hb
    cases h1.symm.trans hv
    rw [List.getD_eq_getElem?_getD, hb]
    exact get_app h2
  · rename_i hj
    rw [List.getElem?_append_right (by omega)] at hv
    rw [List.getElem?_append_right (by omega)]
    rw [show vs.length + (j - M.pa.length) - vs.length = j - ws.length by omega]
    exact hv
theorem tav_ok {M : ND} {m : List AV} {vs ws t : List Value} (h : ws.map some = m.map (fun a => vs[a.1]?)) (hm : ∀ a ∈ m, okA Γ sets vs a) (hl : m.length = M.pa.length) {a : AV} (ha : okA Γ sets (ws ++ t) a) : okA Γ sets (vs ++ t) (x_tav M m vs.length a) := by
  obtain ⟨v, h1, h2, h3⟩ := ha
  refine ⟨v, tid_ok h hl h1, h2, fun r hr => ?_⟩
  rcases List.mem_append.mp hr with hr | hr
  · obtain ⟨r0, hr0, rfl⟩ := List.mem_map.mp hr
    obtain ⟨w, g1, g2⟩ := h3 r0 hr0
    exact ⟨w, tid_ok h hl g1, g2⟩
  · obtain ⟨r0, hr0, hr⟩ := List.mem_flatMap.mp (List.mem_of_mem_take hr)
    split at hr
    · rename_i hlt
      obtain ⟨q, hq, rfl⟩ := List.mem_map.mp hr
      obtain ⟨w, g1, g2⟩ := h3 r0 hr0
      have g3 := tid_ok h hl g1
      have hlt2 : r0.1 < m.length := by omega
      have hb : m.getD r0.1 a0 = m[r0.1] := by rw [List.getD_eq_getElem?_getD, List.getElem?_eq_getElem hlt2]; rfl
      simp only [x_tid, if_pos hlt] at g3
      rw [hb] at g3 hq
      obtain ⟨v', k1, -, k3⟩ := hm _ (List.getElem_mem hlt2)
      rw [get_app k1] at g3
      cases g3
      obtain ⟨u, j1, j2⟩ := k3 q hq
      exact ⟨u, get_app j1, by simp only; omega, by simp only; omega⟩
    · cases hr
theorem wf_xp {M : ND} (h : n_wf M = true) {i : Nat} (hi : i < M.xp.length) : (M.xp.getD i a0).1 = M.pa.length + i := by
  unfold n_wf at h
  simp only [Bool.and_eq_true, beq_iff_eq] at h
  have h1 : (M.xp.map (fun a => a.1))[i]? = ((List.range M.xp.length).map (fun i => M.pa.length + i))[i]? := by rw [h.2.2.2.2.2]
  rw [List.getElem?_map, List.getElem?_map, List.getElem?_eq_getElem hi, List.getElem?_range hi] at h1
  rw [List.getD_eq_getElem?_getD, List.getElem?_eq_getElem hi]
  simpa using h1
theorem xav_ok {M : ND} (hwf : n_wf M = true) {m : List AV} {vs ws t : List Value} (h : ws.map some = m.map (fun a => vs[a.1]?)) (hm : ∀ a ∈ m, okA Γ sets vs a) (hl : m.length = M.pa.length) (ht : t.length = M.xp.length) (hxp : ∀ a ∈ M.xp, okA Γ sets (ws ++ t) a) {j : Nat} {v : Value} (hv : (ws ++ t)[j]? = some v) : okA Γ sets (vs ++ t) (x_xav M m vs.length j) ∧ (vs ++ t)[(x_xav M m vs.length j).1]? = some v := by
  have hwl := vals_len h
  have hlt := (List.getElem?_eq_some_iff.mp hv).1
  rw [List.length_append] at hlt
  have h0 := tid_ok (M := M) h hl hv
  unfold x_xav
  unfold x_tid at h0
  split
  · rename_i hj
    rw [if_pos hj] at h0
    refine ⟨?_, h0⟩
    have hb : m[j]? = some m[j] := List.getElem?_eq_getElem (by omega)
    rw [List.getD_eq_getElem?_getD, hb]
    exact (hm _ (List.getElem_mem _)).app _
  · rename_i hj
    rw [if_neg hj] at h0
    have hi : j - M.pa.length < M.xp.length := by omega
    have hmem : M.xp.getD (j - M.pa.length) a0 ∈ M.xp := by
      rw [List.getD_eq_getElem?_getD, List.getElem?_eq_getElem hi]
      exact List.getElem_mem _
    refine ⟨tav_ok h hm hl (hxp _ hmem), ?_⟩
    simp only [x_tav]
    rw [wf_xp hwf hi, show M.pa.length + (j - M.pa.length) = j by omega]
    unfold x_tid
    rw [if_neg hj]
    exact h0
theorem fa_keep (hR : RK Γ roles ro) {vs : List Value} {F F1 : MH} {q : FA} (h : okFa Γ ro F vs q) (hi : inM ms q.2.1 q.2.2.1 = false) (hF : FRm Γ ro ms F F1) (hW : WT Γ sets roles ro F1) : okFa Γ ro F1 vs q := by
  obtain ⟨a, c, v, g1, g2, g3, g4, g5⟩ := h
  obtain ⟨rd, hrd⟩ := (hR a _ g2).resolve_right (fun z => by rw [z F] at g3; cases g3)
  obtain ⟨c1, k1, -⟩ := hW a _ rd g2 hrd
  obtain ⟨k2, k3⟩ := hF a _ _ c c1 g2 hi g3 k1
  refine ⟨a, c1, v, g1, g2, k1, g4, ?_⟩
  rw [k2, k3]
  exact g5
theorem ea_keep (hR : RK Γ roles ro) {vs : List Value} {F F1 : MH} {q : EA} (h : okEa Γ ro F vs q) (hi : (ms.any (fun r => r.1 == q.2.1)) = false) (hF : FRm Γ ro ms F F1) (hW : WT Γ sets roles ro F1) : okEa Γ ro F1 vs q := by
  obtain ⟨a, c, x, v, g1, g2, g3, g4, g5, g6, g7⟩ := h
  obtain ⟨rd, hrd⟩ := (hR a _ g2).resolve_right (fun z => by rw [z F] at g3; cases g3)
  obtain ⟨c1, k1, -⟩ := hW a _ rd g2 hrd
  have hi2 : inM ms q.2.1 x.toInt.toNat = false := by
    unfold inM
    rw [List.any_eq_false] at hi ⊢
    intro p hp
    have := hi p hp
    simp only [Bool.and_eq_true, beq_iff_eq] at this ⊢
    exact fun z => this z.1.1
  obtain ⟨k2, -⟩ := hF a _ _ c c1 g2 hi2 g3 k1
  exact ⟨a, c1, x, v, g1, g2, k1, g4, g5, g6, by rw [k2]; exact g7⟩
theorem aft_ok (hR : RK Γ roles ro) {M : ND} (hwf : n_wf M = true) {m : List AV} {vs ws : List Value} {f : CF} {fs : List CF} {F F1 : MH} {v : Option Value} (h : ws.map some = m.map (fun a => vs[a.1]?)) (hm : ∀ a ∈ m, okA Γ sets vs a) (hl : m.length = M.pa.length) (hS : okS Γ sets ro vs S f fs F) (hP : n_post Γ sets roles ro M ws F v F1) :
    ∃ t, okS Γ sets ro (vs ++ t) (x_aft M m S) f fs F1 ∧ v.toList.map some = (M.xr.map (x_xav M m S.2.2.2.2.2)).toList.map (fun a => (vs ++ t)[a.1]?) ∧ ∀ a ∈ (M.xr.map (x_xav M m S.2.2.2.2.2)).toList, okA Γ sets (vs ++ t) a := by
  obtain ⟨p1, p2, t, p3, p4, p5, p6⟩ := hP
  obtain ⟨h1, h2, h3, h4, h5, h6, h7⟩ := hS
  refine ⟨t, ⟨fun a ha => ?_, h2.app (fun a ha => (h1 a (mem_top ha)).get) _, h3.app _ (fun f hf a ha => (h1 a (mem_rest hf ha)).get), fun q hq => ?_, fun q hq => ?_, fun q hq => ?_, ?_⟩, ?_, ?_⟩
  · simp only [s_av, x_aft, List.map_append, List.mem_append] at ha
    rcases ha with ha | ha | (ha | ha) | ha
    · exact (h1 a (List.mem_append_left _ ha)).app _
    · exact (h1 a (List.mem_append_right _ (List.mem_append_left _ ha))).app _
    · obtain ⟨q, hq, rfl⟩ := List.mem_map.mp ha
      obtain ⟨q0, hq0, rfl⟩ := List.mem_map.mp hq
      obtain ⟨a, c, v, g1, g2, g3, g4, g5⟩ := p6 q0 hq0
      simp only at g4 ⊢
      rw [h7]
      exact (xav_ok hwf h hm hl p3 p5 g4).1
    · obtain ⟨q, hq, rfl⟩ := List.mem_map.mp ha
      exact (h1 _ (mem_fact (List.mem_filter.mp hq).1)).app _
    · obtain ⟨q, hq, hq2⟩ := List.mem_flatMap.mp ha
      exact (h1 _ (List.mem_append_right _ (List.mem_append_right _ (List.mem_append_right _ (List.mem_flatMap.mpr ⟨q, (List.mem_filter.mp hq).1, hq2⟩))))).app _
  · simp only [x_aft, List.mem_append] at hq
    rcases hq with hq | hq
    · obtain ⟨q0, hq0, rfl⟩ := List.mem_map.mp hq
      obtain ⟨a, c, v, g1, g2, g3, g4, g5⟩ := p6 q0 hq0
      simp only at g1 g2 g4 g5
      rw [h7]
      exact ⟨a, c, v, tid_ok h hl g1, g2, g3, (xav_ok hwf h hm hl p3 p5 g4).2, g5⟩
    · obtain ⟨hq1, hq2⟩ := List.mem_filter.mp hq
      have := fa_keep hR (h4 q hq1) (by simpa using hq2) p2 p1
      obtain ⟨a, c, v, g1, g2, g3, g4, g5⟩ := this
      exact ⟨a, c, v, get_app g1, g2, g3, get_app g4, g5⟩
  · simp only [x_aft] at hq
    obtain ⟨hq1, hq2⟩ := List.mem_filter.mp hq
    have := ea_keep hR (h5 q hq1) (by
      cases hc : M.ms.any (fun r => r.1 == q.2.1) with
      | false => rfl
      | true => rw [hc] at hq2; cases hq2) p2 p1
    obtain ⟨a, c, x, v, g1, g2, g3, g4, g5, g6, g7⟩ := this
    exact ⟨a, c, x, v, get_app g1, g2, g3, get_app g4, g5, get_app g6, g7⟩
  · obtain ⟨u, v, w, g1, g2, g3, g4⟩ := h6 q hq
    exact ⟨u, v, w, get_app g1, get_app g2, get_app g3, g4⟩
  · show S.2.2.2.2.2 + M.xp.length = _
    rw [h7, List.length_append, p3]
  · rw [h7]
    cases hx : M.xr with
    | none => rw [hx] at p4; exact p4
    | some j =>
      rw [hx] at p4
      simp only [Option.toList, List.map_cons, List.map_nil, Option.map] at p4 ⊢
      cases v with
      | none => simp at p4
      | some w =>
        simp only [List.map_cons, List.map_nil, List.cons.injEq, and_true] at p4 ⊢
        exact (xav_ok hwf h hm hl p3 p5 p4.symm).2.symm
  · rw [h7]
    cases hx : M.xr with
    | none => intro a ha; cases ha
    | some j =>
      rw [hx] at p4
      intro a ha
      simp only [Option.toList, List.map_cons, List.map_nil, Option.map, List.mem_cons, List.not_mem_nil, or_false] at p4 ha
      subst ha
      cases v with
      | none => simp at p4
      | some w =>
        simp only [List.map_cons, List.map_nil, List.cons.injEq, and_true] at p4
        exact (xav_ok hwf h hm hl p3 p5 p4.symm).1
theorem fr_trans (hR : RK Γ roles ro) {ns : Mods} {F F1 : MH} (hs : x_msub ns ms = true) (h1 : FRm Γ ro ms F0 F) (hW : WT Γ sets roles ro F) (h2 : FRm Γ ro ns F F1) : FRm Γ ro ms F0 F1 := by
  intro a r k c0 c ha hi hc0 hc
  obtain ⟨rd, hrd⟩ := (hR a r ha).resolve_right (fun z => by rw [z F0] at hc0; cases hc0)
  obtain ⟨c1, k1, -⟩ := hW a r rd ha hrd
  have hi2 : inM ns r k = false := by
    cases hc : inM ns r k with
    | false => rfl
    | true =>
      obtain ⟨q, hq, hq2⟩ := List.any_eq_true.mp hc
      obtain ⟨p, hp, hp2⟩ := List.any_eq_true.mp (List.all_eq_true.mp hs q hq)
      simp only [Bool.and_eq_true, beq_iff_eq, decide_eq_true_eq] at hq2 hp2
      have : inM ms r k = true := List.any_eq_true.mpr ⟨p, hp, by simp only [Bool.and_eq_true, beq_iff_eq, decide_eq_true_eq]; omega⟩
      rw [this] at hi; cases hi
  obtain ⟨a1, a2⟩ := h1 a r k c0 c1 ha hi hc0 k1
  obtain ⟨b1, b2⟩ := h2 a r k c1 c ha hi2 k1 hc
  exact ⟨b1.trans a1, b2.trans a2⟩
theorem mU_ok {w x : Int} {b : Int × Int} (h : i_in x b) : w * x ≤ mU w b := by
  unfold mU
  rcases Int.le_total 0 w with hw | hw
  · have := Int.mul_le_mul_of_nonneg_left h.2 hw
    omega
  · have := Int.mul_le_mul_of_nonpos_left hw h.1
    omega
theorem getD_val {vs : List Value} {j : Nat} {v : Value} (h : vs[j]? = some v) : vs.getD j .null = v := by
  rw [List.getD_eq_getElem?_getD, h]; rfl
theorem ubO_ok {pa : List AV} {vs : List Value} (hpa : ∀ i b, pa[i]? = some b → okA Γ sets vs b ∧ b.1 = i) : ∀ (t : List (Int × Nat)) (z : Int), x_ubO pa t = some z → -(rsum t vs) ≤ z
  | [], z, h => by cases h; simp [rsum]
  | q :: t, z, h => by
    rw [x_ubO] at h
    split at h
    · rename_i b z1 hb hz
      split at h
      · cases h
      · rename_i hk
        cases h
        have ih := ubO_ok hpa t z1 hz
        obtain ⟨⟨v, e1, e2, -⟩, e3⟩ := hpa _ b hb
        rw [e3] at e1
        have n := e2.num hk
        rw [rsum, getD_val e1]
        have := mU_ok (w := -q.1) (x := vz v) (b := (b.2.2.1, b.2.2.2.1)) n
        rw [Int.neg_mul] at this
        omega
    · cases h
theorem ub_ok {m pa : List AV} {vs vs0 ws : List Value} (hpa : ∀ i b, pa[i]? = some b → okA Γ sets vs b ∧ b.1 = i) (hpre : ∀ i, i < pa.length → vs0[i]? = vs[i]?) (hm : ∀ a ∈ m, okA Γ sets vs a) (h : ws.map some = m.map (fun a => vs[a.1]?)) : ∀ (s t : List (Int × Nat)) (z : Int), x_ub m pa s t = some z → rsum s ws - rsum t vs0 ≤ z
  | [], t, z, hx => by
    rw [x_ub] at hx
    have hpa0 : ∀ i b, pa[i]? = some b → vs0[i]? = vs[i]? := fun i b hb => hpre i (List.getElem?_eq_some_iff.mp hb).1
    have key : ∀ (t : List (Int × Nat)) (z : Int), x_ubO pa t = some z → rsum t vs0 = rsum t vs := by
      intro t
      induction t with
      | nil => intro z _; rfl
      | cons q t ih =>
        intro z hz
        rw [x_ubO] at hz
        split at hz
        · rename_i b z1 hb hz1
          rw [rsum, rsum, ih z1 hz1, List.getD_eq_getElem?_getD, List.getD_eq_getElem?_getD, hpa0 _ b hb]
        · cases hz
    have := ubO_ok hpa t z hx
    rw [key t z hx]
    simp only [rsum]
    omega
  | q :: s, [], z, hx => by
    rw [x_ub] at hx
    split at hx
    · rename_i a z1 ha hz
      split at hx
      · cases hx
      · rename_i hk
        cases hx
        have ih := ub_ok hpa hpre hm h s [] z1 hz
        obtain ⟨v, h1, h2⟩ := vals_get h ha
        obtain ⟨v', g1, g2, -⟩ := hm a (List.mem_of_getElem? ha)
        obtain rfl : v' = v := Option.some.inj (g1.symm.trans h2)
        have n := g2.num hk
        simp only [rsum] at ih ⊢
        rw [getD_val h1]
        have := mU_ok (w := q.1) (x := vz v') (b := (a.2.2.1, a.2.2.2.1)) n
        omega
    · cases hx
  | q :: s, p :: t, z, hx => by
    rw [x_ub] at hx
    split at hx
    · rename_i a b z1 ha hb hz
      split at hx
      · cases hx
      · rename_i hk
        have ih := ub_ok hpa hpre hm h s t z1 hz
        obtain ⟨v, h1, h2⟩ := vals_get h ha
        have oa := hm a (List.mem_of_getElem? ha)
        have oa' := oa
        obtain ⟨v', g1, g2, -⟩ := oa
        obtain rfl : v' = v := Option.some.inj (g1.symm.trans h2)
        have na := g2.num (fun e => hk (Or.inl e))
        obtain ⟨ob, e3⟩ := hpa _ b hb
        have ob' := ob
        obtain ⟨w, e1, e2, -⟩ := ob
        have nb := e2.num (fun e => hk (Or.inr e))
        have e1' := e1
        rw [e3] at e1
        rw [← hpre p.2 (List.getElem?_eq_some_iff.mp hb).1] at e1
        rw [rsum, rsum, getD_val h1, getD_val e1]
        split at hx
        · rename_i hw
          cases hx
          have hd := a_diff_ok oa' ob' (fun e => hk (Or.inl e)) (fun e => hk (Or.inr e)) h2 e1'
          have := mU_ok (w := q.1) hd
          rw [Int.mul_sub] at this
          rw [← hw]
          omega
        · cases hx
          have u1 := mU_ok (w := q.1) (x := vz v') (b := (a.2.2.1, a.2.2.2.1)) na
          have u2 := mU_ok (w := -p.1) (x := vz w) (b := (b.2.2.1, b.2.2.2.1)) nb
          rw [Int.neg_mul] at u2
          omega
    · cases hx
theorem wf_pa {N : ND} (hwf : n_wf N = true) {vs : List Value} (hN : ∀ a ∈ N.pa, okA Γ sets vs a) : ∀ i b, N.pa[i]? = some b → okA Γ sets vs b ∧ b.1 = i := by
  intro i b hb
  refine ⟨hN b (List.mem_of_getElem? hb), ?_⟩
  have := wf_id hwf (List.getElem?_eq_some_iff.mp hb).1
  unfold n_av at this
  rw [List.getD_eq_getElem?_getD, hb] at this
  exact this
theorem rk_ok {N M : ND} (hwf : n_wf N = true) {m : List AV} {vs ws : List Value} (hN : ∀ a ∈ N.pa, okA Γ sets vs a) (hn : vs0.length = N.pa.length) (hp : ∃ t, vs = vs0 ++ t) (hm : ∀ a ∈ m, okA Γ sets vs a) (h : ws.map some = m.map (fun a => vs[a.1]?)) (hx : x_rk N M m = true) : n_mes M ws < n_mes N vs0 := by
  unfold x_rk at hx
  split at hx
  · rename_i z l hz hl
    simp only [decide_eq_true_eq] at hx
    obtain ⟨t, rfl⟩ := hp
    have hpre : ∀ i, i < N.pa.length → vs0[i]? = (vs0 ++ t)[i]? := fun i hi => by rw [List.getElem?_append_left (by omega)]
    have h1 := ub_ok (wf_pa hwf hN) hpre hm h _ _ z hz
    have h2 := ub_ok (m := []) (ws := []) (wf_pa hwf hN) hpre (fun a ha => by cases ha) rfl [] _ l (by rw [x_ub]; exact hl)
    simp only [rsum] at h2
    unfold n_mes
    omega
  · cases hx
end SxU
