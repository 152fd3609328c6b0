/-! SYMBOLIC RUNS, XX: nodes: what is told of a place of the code -/
/-- method, pc, depth, stage; symbols, locals, stack, facts; facts on places that are symbols, sums, where each symbol is found (0 local, 1 stack, 2 fact, 3 ghost), ghosts; rank, what may change, new symbols of the end, where they are found (0 the result, 1 a fact); the result, facts of the end -/
abbrev ND : Type := (Nat × Nat × Nat × Nat) × (List AV × (List (Nat × Nat)) × List Nat × (List (Nat × Nat × Nat × Nat))) × ((List (Nat × Nat × Nat × Nat)) × (List (Nat × Nat × Nat)) × (List (Nat × Nat × Nat)) × (List (Nat × Nat))) × ((Int × List (Int × Nat)) × Mods × List AV × (List (Nat × Nat × Nat))) × (Option Nat × (List (Nat × Nat × Nat × Nat)) × List (List AV × (List (Nat × Nat × Nat)) × Option Nat × (List (Nat × Nat × Nat × Nat))))
def ND.mi (N : ND) : Nat := N.1.1
def ND.pc (N : ND) : Nat := N.1.2.1
def ND.dep (N : ND) : Nat := N.1.2.2.1
def ND.stg (N : ND) : Nat := N.1.2.2.2
def ND.pa (N : ND) : List AV := N.2.1.1
def ND.lc (N : ND) : List (Nat × Nat) := N.2.1.2.1
def ND.st (N : ND) : List Nat := N.2.1.2.2.1
def ND.fa (N : ND) : List (Nat × Nat × Nat × Nat) := N.2.1.2.2.2
def ND.ea (N : ND) : List (Nat × Nat × Nat × Nat) := N.2.2.1.1
def ND.su (N : ND) : List (Nat × Nat × Nat) := N.2.2.1.2.1
def ND.bs (N : ND) : List (Nat × Nat × Nat) := N.2.2.1.2.2.1
def ND.gh (N : ND) : List (Nat × Nat) := N.2.2.1.2.2.2
def ND.rk (N : ND) : Int × List (Int × Nat) := N.2.2.2.1.1
def ND.ms (N : ND) : Mods := N.2.2.2.1.2.1
def ND.xp (N : ND) : List AV := N.2.2.2.1.2.2.1
def ND.xb (N : ND) : List (Nat × Nat × Nat) := N.2.2.2.1.2.2.2
def ND.xr (N : ND) : Option Nat := N.2.2.2.2.1
def ND.xf (N : ND) : List (Nat × Nat × Nat × Nat) := N.2.2.2.2.2.1
/-- the same node with another end -/
def ND.wi (N : ND) (a : List AV × (List (Nat × Nat × Nat)) × Option Nat × (List (Nat × Nat × Nat × Nat))) : ND := (N.1, N.2.1, N.2.2.1, (N.2.2.2.1.1, N.2.2.2.1.2.1, a.1, a.2.1), (a.2.2.1, a.2.2.2, []))
/-- a node with each of its ends -/
def ND.alts (N : ND) : List ND := N :: N.2.2.2.2.2.2.map N.wi
theorem ND.alt_pa {N M : ND} (h : M ∈ N.alts) : M.pa = N.pa := by
  rcases List.mem_cons.mp h with rfl | h
  · rfl
  · obtain ⟨a, -, rfl⟩ := List.mem_map.mp h
    rfl
theorem ND.alt_ms {N M : ND} (h : M ∈ N.alts) : M.ms = N.ms := by
  rcases List.mem_cons.mp h with rfl | h
  · rfl
  · obtain ⟨a, -, rfl⟩ := List.mem_map.mp h
    rfl
def a0 : AV := (0, 0, 0, 0, [])
def n_av (N : ND) (j : Nat) : AV := N.pa.getD j a0
def n_st (N : ND) : SS := ((N.mi, N.pc, N.lc.map (fun q => (q.1, n_av N q.2)), N.st.map (n_av N)), [], N.fa.map (fun q => (q.1, q.2.1, q.2.2.1, n_av N q.2.2.2)), N.ea.map (fun q => (q.1, q.2.1, n_av N q.2.2.1, n_av N q.2.2.2)), N.su, N.pa.length)
def n_wf (N : ND) : Bool := N.pa.map (fun a => a.1) == List.range N.pa.length && (N.lc.all (fun q => decide (q.2 < N.pa.length)) && (N.st.all (fun j => decide (j < N.pa.length)) && (N.fa.all (fun q => decide (q.2.2.2 < N.pa.length)) && (N.ea.all (fun q => decide (q.2.2.1 < N.pa.length ∧ q.2.2.2 < N.pa.length)) && N.xp.map (fun a => a.1) == (List.range N.xp.length).map (fun i => N.pa.length + i)))))
def okN (Γ : Nat → Option Nat) (sets : List (List Int)) (ro : Nat → Option MC) (N : ND) (vs : List Value) (f : CF) (F : MH) : Prop := okS Γ sets ro vs (n_st N) f [] F ∧ ∀ a ∈ N.pa, okA Γ sets vs a
def n_post (Γ : Nat → Option Nat) (sets : List (List Int)) (roles : List RD) (ro : Nat → Option MC) (N : ND) (vs : List Value) (F0 : MH) (v : Option Value) (F1 : MH) : Prop :=
  WT Γ sets roles ro F1 ∧ FRm Γ ro N.ms F0 F1 ∧ ∃ t, t.length = N.xp.length ∧ v.toList.map some = N.xr.toList.map (fun j => (vs ++ t)[j]?) ∧ (∀ a ∈ N.xp, okA Γ sets (vs ++ t) a) ∧ ∀ q ∈ N.xf, okFa Γ ro F1 (vs ++ t) (q.1, q.2.1, q.2.2.1, (q.2.2.2, 0, 0, 0, []))
/-- one of the ends of a node -/
def n_posts (Γ : Nat → Option Nat) (sets : List (List Int)) (roles : List RD) (ro : Nat → Option MC) (N : ND) (vs : List Value) (F0 : MH) (v : Option Value) (F1 : MH) : Prop := ∃ M ∈ N.alts, n_post Γ sets roles ro M vs F0 v F1
def n_wfA (N : ND) : Bool := N.alts.all n_wf
theorem wfA_wf {N : ND} (h : n_wfA N = true) : n_wf N = true := List.all_eq_true.mp h N List.mem_cons_self
/-- a fact, also one that only the role tells -/
def x_mat (roles : List RD) (S : SS) (p : AV) (k : Nat) : Option (SS × AV) :=
  if p.2.1 = 2 then (match S.2.2.1.find? (fun q => q.1 == p.1 && q.2.2.1 == k) with
    | some q => some (S, q.2.2.2)
    | none => (match roles[p.2.2.1.toNat]? with
      | some rd => if rd.1 = 3 then (if k = 5000 then some (s_fact (p.1, p.2.2.1.toNat, k, x_new S (0, 0, 320)) (s_up S), x_new S (0, 0, 320)) else none)
        else if k = 5000 then none else (match rd.2.2[k]? with
        | some e => some (s_fact (p.1, p.2.2.1.toNat, k, x_new S e) (s_up S), x_new S e)
        | none => none)
      | none => none)) else none
def x_b1 (roles : List RD) (N : ND) (S : SS) (m : List AV) (b : Nat × Nat × Nat) : Option (SS × AV) :=
  if b.1 = 0 then (x_get S.1.2.2.1 b.2.1).map fun a => (S, a)
  else if b.1 = 1 then (S.1.2.2.2[b.2.1]?).map fun a => (S, a)
  else if b.1 = 2 then (match m[b.2.1]? with | some p => x_mat roles S p b.2.2 | none => none)
  else (match N.gh.find? (fun q => q.1 == b.2.1) with | some q => (N.pa[q.2]?).map fun a => (S, a) | none => none)
def x_bs (roles : List RD) (N : ND) : List (Nat × Nat × Nat) → SS → List AV → Option (SS × List AV)
  | [], S, m => some (S, m)
  | b :: t, S, m => match x_b1 roles N S m b with | some q => x_bs roles N t q.1 (m ++ [q.2]) | none => none
/-- values m are as symbol a asks -/
def x_ent (sets : List (List Int)) (m : List AV) (a : AV) : Bool := match m[a.1]? with
  | some b => x_sub sets b (a.2.1, a.2.2.1, a.2.2.2.1) && a.2.2.2.2.all (fun r => match m[r.1]? with
    | some c => !(b.2.1 == 2) && (!(c.2.1 == 2) && decide (r.2.1 ≤ (a_diff b c).1 ∧ (a_diff b c).2 ≤ r.2.2))
    | none => false)
  | none => false
def x_has (S : SS) (m : List AV) (q : Nat × Nat × Nat × Nat) : Bool := match m[q.1]?, m[q.2.2.2]? with
  | some p, some b => S.2.2.1.any (fun g => g.1 == p.1 && (g.2.1 == q.2.1 && (g.2.2.1 == q.2.2.1 && x_eq g.2.2.2 b)))
  | _, _ => false
def x_hasE (S : SS) (m : List AV) (q : Nat × Nat × Nat × Nat) : Bool := match m[q.1]?, m[q.2.2.1]?, m[q.2.2.2]? with
  | some p, some i, some b => S.2.2.2.1.any (fun g => g.1 == p.1 && (g.2.1 == q.2.1 && (x_eq g.2.2.1 i && x_eq g.2.2.2 b)))
  | _, _, _ => false
def x_hasS (S : SS) (m : List AV) (q : Nat × Nat × Nat) : Bool := match m[q.1]?, m[q.2.1]?, m[q.2.2]? with
  | some a, some b, some c => S.2.2.2.2.1.any (fun g => g.1 == a.1 && ((g.2.1 == b.1 || (!(b.2.1 == 2) && b.2.2.2.2.any (fun r => r.1 == g.2.1 && decide (r.2.1 = 0 ∧ r.2.2 = 0)))) && g.2.2 == c.1))
  | _, _, _ => false
def x_eqs (m : List AV) : List AV → List Nat → Bool
  | [], [] => true
  | a :: s, j :: t => (match m[j]? with | some b => x_eq a b | none => false) && x_eqs m s t
  | _, _ => false
def x_mt (sets : List (List Int)) (M : ND) (S : SS) (m : List AV) : Bool :=
  decide (M.mi = S.1.1 ∧ M.pc = S.1.2.1 ∧ m.length = M.pa.length) && (M.pa.all (x_ent sets m) && (M.lc.all (fun q => match x_get S.1.2.2.1 q.1, m[q.2]? with | some a, some b => x_eq a b | _, _ => false) && (x_eqs m S.1.2.2.2 M.st && (M.fa.all (x_has S m) && (M.ea.all (x_hasE S m) && M.su.all (x_hasS S m))))))
section SxT
variable {Γ : Nat → Option Nat} {sets : List (List Int)} {roles : List RD} {ms : Mods} {MT : List MM} {ro : Nat → Option MC} {fty : Nat → Nat → FieldType} {dfl : Nat → List Value} {vs0 : List Value} {F0 : MH} {Q : Option Value → MH → Prop} {d : Nat} {S : SS}
theorem mat_ok {p a : AV} {k : Nat} {S1 : SS} {vs : List Value} {f : CF} {fs : List CF} {F : MH} (hx : x_mat roles S p k = some (S1, a)) (hS : okS Γ sets ro vs S f fs F) (hW : WT Γ sets roles ro F) (hp : okA Γ sets vs p) : ∃ t, okS Γ sets ro (vs ++ t) S1 f fs F ∧ okA Γ sets (vs ++ t) a ∧ S1.1 = S.1 ∧ S1.2.1 = S.2.1 := by
  unfold x_mat at hx
  split at hx
  · rename_i hk
    split at hx
    · rename_i q hq
      cases hx
      exact ⟨[], by rw [List.append_nil]; exact hS, by rw [List.append_nil]; exact hS.1 _ (mem_fact (List.mem_of_find?_eq_some hq)), rfl, rfl⟩
    · obtain ⟨u, e1, e2, -⟩ := hp
      obtain ⟨⟨b, rfl, hΓ⟩, -⟩ := k_is_ref e2 (by rw [hk]; rfl)
      have hn := hS.2.2.2.2.2.2
      split at hx
      · rename_i rd hrd
        obtain ⟨c, hm, hcell⟩ := hW b _ rd hΓ hrd
        split at hx
        · rename_i h3
          split at hx
          · rename_i h5
            cases hx
            have e0 : (vs ++ [Value.int (Int32.ofNat (clen c))])[S.2.2.2.2.2]? = some (Value.int (Int32.ofNat (clen c))) := by rw [hn]; simp
            have hl : clen c ≤ 320 := by
              rcases hcell with ⟨e, -⟩ | ⟨e, -⟩ | ⟨e, -⟩ | ⟨-, ⟨xs, rfl, hxs⟩, -⟩
              · omega
              · omega
              · omega
              · simpa [clen, cont] using hxs
            have oa : okA Γ sets (vs ++ [Value.int (Int32.ofNat (clen c))]) (x_new S (0, 0, 320)) := by
              refine ⟨_, e0, ?_, fun q hq => by cases hq⟩
              have hz : (Int32.ofNat (clen c)).toInt = (clen c : Int) := nI_toInt (Nat.lt_of_le_of_lt hl (by decide))
              refine ⟨⟨_, rfl⟩, ?_, ?_⟩ <;> simp only [x_new, vz] <;> rw [hz] <;> omega
            refine ⟨[Value.int (Int32.ofNat (clen c))], (hS.up _).fact ⟨b, c, _, get_app e1, hΓ, hm, e0, by simp only [h5, if_pos]⟩ oa, oa, rfl, rfl⟩
          · cases hx
        · rename_i h3
          split at hx
          · cases hx
          · rename_i h5
            split at hx
            · rename_i e he
              cases hx
              obtain ⟨v, g1, g2⟩ := (okCell_get hcell h3).2 k e he
              have e0 : (vs ++ [v])[S.2.2.2.2.2]? = some v := by rw [hn]; simp
              have oa : okA Γ sets (vs ++ [v]) (x_new S e) := ⟨v, e0, g2, fun q hq => by cases hq⟩
              exact ⟨[v], (hS.up v).fact ⟨b, c, v, get_app e1, hΓ, hm, e0, by simp only; rw [if_neg h5]; exact g1⟩ oa, oa, rfl, rfl⟩
            · cases hx
      · cases hx
  · cases hx
theorem b1_ok {N : ND} {m : List AV} {b : Nat × Nat × Nat} {q : SS × AV} {vs : List Value} {f : CF} {fs : List CF} {F : MH} (hx : x_b1 roles N S m b = some q) (hS : okS Γ sets ro vs S f fs F) (hW : WT Γ sets roles ro F) (hm : ∀ a ∈ m, okA Γ sets vs a) (hN : ∀ a ∈ N.pa, okA Γ sets vs a) : ∃ t, okS Γ sets ro (vs ++ t) q.1 f fs F ∧ okA Γ sets (vs ++ t) q.2 ∧ q.1.1 = S.1 ∧ q.1.2.1 = S.2.1 := by
  obtain ⟨S1, a⟩ := q
  unfold x_b1 at hx
  split at hx
  · cases hg : x_get S.1.2.2.1 b.2.1 with
    | none => rw [hg] at hx; cases hx
    | some c =>
      rw [hg] at hx
      cases hx
      exact ⟨[], by rw [List.append_nil]; exact hS, by rw [List.append_nil]; exact hS.1 _ (mem_loc (x_get_mem hg)), rfl, rfl⟩
  · split at hx
    · cases hg : S.1.2.2.2[b.2.1]? with
      | none => rw [hg] at hx; cases hx
      | some c =>
        rw [hg] at hx
        cases hx
        exact ⟨[], by rw [List.append_nil]; exact hS, by rw [List.append_nil]; exact hS.1 _ (mem_top (List.mem_of_getElem? hg)), rfl, rfl⟩
    · split at hx
      · split at hx
        · rename_i p hp
          exact mat_ok hx hS hW (hm p (List.mem_of_getElem? hp))
        · cases hx
      · split at hx
        · rename_i q hq
          cases hg : N.pa[q.2]? with
          | none => rw [hg] at hx; cases hx
          | some c =>
            rw [hg] at hx
            cases hx
            exact ⟨[], by rw [List.append_nil]; exact hS, by rw [List.append_nil]; exact hN _ (List.mem_of_getElem? hg), rfl, rfl⟩
        · cases hx
theorem bs_ok {N : ND} {f : CF} {fs : List CF} {F : MH} (hW : WT Γ sets roles ro F) : ∀ (bs : List (Nat × Nat × Nat)) (S : SS) (m : List AV) (q : SS × List AV) (vs : List Value), x_bs roles N bs S m = some q → okS Γ sets ro vs S f fs F → (∀ a ∈ m, okA Γ sets vs a) → (∀ a ∈ N.pa, okA Γ sets vs a) → ∃ t, okS Γ sets ro (vs ++ t) q.1 f fs F ∧ (∀ a ∈ q.2, okA Γ sets (vs ++ t) a) ∧ q.1.1 = S.1 ∧ q.1.2.1 = S.2.1
  | [], S, m, q, vs, hx, hS, hm, hN => by
    cases hx
    exact ⟨[], by rw [List.append_nil]; exact hS, by rw [List.append_nil]; exact hm, rfl, rfl⟩
  | b :: bs, S, m, q, vs, hx, hS, hm, hN => by
    rw [x_bs] at hx
    split at hx
    · rename_i q1 hq1
      obtain ⟨t, h1, h2, h3, h4⟩ := b1_ok hq1 hS hW hm hN
      obtain ⟨t2, g1, g2, g3, g4⟩ := bs_ok hW bs q1.1 (m ++ [q1.2]) q (vs ++ t) hx h1 (fun a ha => by
        rcases List.mem_append.mp ha with ha | ha
        · exact (hm a ha).app _
        · simp only [List.mem_cons, List.not_mem_nil, or_false] at ha
          subst ha; exact h2) (fun a ha => (hN a ha).app _)
      rw [List.append_assoc] at g1 g2
      exact ⟨t ++ t2, g1, g2, g3.trans h3, g4.trans h4⟩
    · cases hx
/-- the values of m -/
theorem vals_of {vs : List Value} : ∀ (m : List AV), (∀ a ∈ m, okA Γ sets vs a) → ∃ ws : List Value, ws.map some = m.map (fun a => vs[a.1]?)
  | [], _ => ⟨[], rfl⟩
  | a :: m, h => by
    obtain ⟨ws, hw⟩ := vals_of m (fun b hb => h b (List.mem_cons_of_mem _ hb))
    obtain ⟨v, hv⟩ := (h a List.mem_cons_self).get
    exact ⟨v :: ws, by simp only [List.map_cons, hw, hv]⟩
theorem vals_get {vs ws : List Value} {m : List AV} (h : ws.map some = m.map (fun a => vs[a.1]?)) {j : Nat} {b : AV} (hb : m[j]? = some b) : ∃ v, ws[j]? = some v ∧ vs[b.1]? = some v := by
  have h1 : (ws.map some)[j]? = (m.map (fun a => vs[a.1]?))[j]? := by rw [h]
  rw [List.getElem?_map, List.getElem?_map, hb] at h1
  cases hw : ws[j]? with
  | none => rw [hw] at h1; simp at h1
  | some v => rw [hw] at h1; simp at h1; exact ⟨v, rfl, h1.symm⟩
theorem vals_len {vs ws : List Value} {m : List AV} (h : ws.map some = m.map (fun a => vs[a.1]?)) : ws.length = m.length := by
  have := congrArg List.length h
  simpa using this
theorem ent_ok {vs ws : List Value} {m : List AV} (h : ws.map some = m.map (fun a => vs[a.1]?)) (hm : ∀ a ∈ m, okA Γ sets vs a) {a : AV} (hx : x_ent sets m a = true) : okA Γ sets ws a := by
  unfold x_ent at hx
  split at hx
  · rename_i b hb
    simp only [Bool.and_eq_true] at hx
    obtain ⟨v, h1, h2⟩ := vals_get h hb
    have ob := hm b (List.mem_of_getElem? hb)
    have ob' := ob
    obtain ⟨v', g1, g2, -⟩ := ob
    obtain rfl : v' = v := Option.some.inj (g1.symm.trans h2)
    refine ⟨v', h1, x_sub_ok hx.1 g2, fun r hr => ?_⟩
    have hr2 := List.all_eq_true.mp hx.2 r hr
    split at hr2
    · rename_i c hc
      simp only [Bool.and_eq_true, Bool.not_eq_true', beq_eq_false_iff_ne, ne_eq, decide_eq_true_eq] at hr2
      obtain ⟨w, k1, k2⟩ := vals_get h hc
      have hd := a_diff_ok ob' (hm c (List.mem_of_getElem? hc)) hr2.1 hr2.2.1 h2 k2
      simp only [i_in] at hd
      exact ⟨w, k1, by omega, by omega⟩
    · cases hr2
  · cases hx
theorem av_mem {N : ND} {j : Nat} (h : j < N.pa.length) : n_av N j ∈ N.pa := by
  unfold n_av
  rw [List.getD_eq_getElem?_getD, List.getElem?_eq_getElem h]
  exact List.getElem_mem h
theorem wf_id {N : ND} (h : n_wf N = true) {j : Nat} (hj : j < N.pa.length) : (n_av N j).1 = j := by
  unfold n_wf at h
  simp only [Bool.and_eq_true, beq_iff_eq] at h
  have h1 : (N.pa.map (fun a => a.1))[j]? = (List.range N.pa.length)[j]? := by rw [h.1]
  rw [List.getElem?_map, List.getElem?_eq_getElem hj, List.getElem?_range hj] at h1
  unfold n_av
  rw [List.getD_eq_getElem?_getD, List.getElem?_eq_getElem hj]
  simpa using h1
theorem st_av {N : ND} (h : n_wf N = true) {a : AV} (ha : a ∈ s_av (n_st N)) : a ∈ N.pa := by
  have h0 := h
  unfold n_wf at h
  simp only [Bool.and_eq_true, List.all_eq_true, decide_eq_true_eq] at h
  obtain ⟨-, w1, w2, w3, w4, -⟩ := h
  simp only [s_av, s_avF, n_st, List.mem_append, List.map_map, List.flatMap_nil, List.not_mem_nil, false_or] at ha
  rcases ha with (ha | ha) | ha | ha
  · obtain ⟨q, hq, rfl⟩ := List.mem_map.mp ha
    exact av_mem (w1 q hq)
  · obtain ⟨q, hq, rfl⟩ := List.mem_map.mp ha
    exact av_mem (w2 q hq)
  · obtain ⟨q, hq, rfl⟩ := List.mem_map.mp ha
    exact av_mem (w3 q hq)
  · obtain ⟨q, hq, hq2⟩ := List.mem_flatMap.mp ha
    obtain ⟨q0, hq0, rfl⟩ := List.mem_map.mp hq
    simp only [List.mem_cons, List.not_mem_nil, or_false] at hq2
    rcases hq2 with rfl | rfl
    · exact av_mem (w4 q0 hq0).1
    · exact av_mem (w4 q0 hq0).2
theorem has_ok {vs ws : List Value} {m : List AV} {f : CF} {fs : List CF} {F : MH} (h : ws.map some = m.map (fun a => vs[a.1]?)) (hm : ∀ a ∈ m, okA Γ sets vs a) (hS : okS Γ sets ro vs S f fs F) {q : Nat × Nat × Nat × Nat} (hx : x_has S m q = true) : okFa Γ ro F ws (q.1, q.2.1, q.2.2.1, (q.2.2.2, 0, 0, 0, [])) := by
  unfold x_has at hx
  split at hx
  · rename_i p b hp hb
    obtain ⟨g, hg, hg2⟩ := List.any_eq_true.mp hx
    simp only [Bool.and_eq_true, beq_iff_eq] at hg2
    obtain ⟨a, c, v, g1, g2, g3, g4, g5⟩ := hS.2.2.2.1 g hg
    obtain ⟨u, k1, k2⟩ := vals_get h hp
    obtain ⟨w, k3, k4⟩ := vals_get h hb
    rw [hg2.1, k2] at g1
    cases g1
    have := x_eq_ok hg2.2.2.2 (hS.1 _ (mem_fact hg)) (hm b (List.mem_of_getElem? hb)) g4 k4
    subst this
    rw [hg2.2.1] at g2
    rw [hg2.2.2.1] at g5
    exact ⟨a, c, v, k1, g2, g3, k3, g5⟩
  · cases hx
theorem mt_ok {M : ND} {m : List AV} {vs ws : List Value} {f : CF} {fs : List CF} {F : MH} (hwf : n_wf M = true) (hx : x_mt sets M S m = true) (hS : okS Γ sets ro vs S f fs F) (hm : ∀ a ∈ m, okA Γ sets vs a) (h : ws.map some = m.map (fun a => vs[a.1]?)) : okN Γ sets ro M ws f F := by
  unfold x_mt at hx
  simp only [Bool.and_eq_true, decide_eq_true_eq, List.all_eq_true] at hx
  obtain ⟨⟨c1, c2, c3⟩, c4, c5, c6, c7, c8, c9⟩ := hx
  have hpa : ∀ a ∈ M.pa, okA Γ sets ws a := fun a ha => ent_ok h hm (c4 a ha)
  have hid : ∀ {j : Nat} {b : AV}, m[j]? = some b → (n_av M j).1 = j := by
    intro j b hb
    have hl := (List.getElem?_eq_some_iff.mp hb).1
    exact wf_id hwf (by omega)
  obtain ⟨lv, cst, rfl, hl, hc1, hc2⟩ := hS.frame
  refine ⟨⟨fun a ha => hpa a (st_av hwf ha), ⟨c1, c2, fun q hq => ?_, ?_⟩, trivial, fun q hq => ?_, fun q hq => ?_, fun q hq => ?_, ?_⟩, hpa⟩
  · obtain ⟨q0, hq0, rfl⟩ := List.mem_map.mp hq
    have hq1 := c5 q0 hq0
    split at hq1
    · rename_i a b ha hb
      obtain ⟨w, k3, k4⟩ := vals_get h hb
      obtain ⟨oa, v, hv, hg⟩ := hl _ (x_get_mem ha)
      have := x_eq_ok hq1 oa (hm b (List.mem_of_getElem? hb)) hv k4
      subst this
      exact ⟨v, by simp only [hid hb]; exact k3, hg⟩
    · cases hq1
  · have key : ∀ (s : List AV) (t : List Nat) (cs : List Value), x_eqs m s t = true → (∀ a ∈ s, okA Γ sets vs a) → cs.map some = s.map (fun a => vs[a.1]?) → cs.map some = (t.map (n_av M)).map (fun a => ws[a.1]?) := by
      intro s
      induction s with
      | nil =>
        intro t cs he _ hcs
        cases t with
        | nil => exact hcs
        | cons j t => cases he
      | cons a s ih =>
        intro t cs he ho hcs
        cases t with
        | nil => cases he
        | cons j t =>
          simp only [x_eqs, Bool.and_eq_true] at he
          obtain ⟨v, cs, rfl, e1, e2⟩ := stk1 hcs
          have h1 := he.1
          split at h1
          · rename_i b hb
            obtain ⟨w, k3, k4⟩ := vals_get h hb
            have := x_eq_ok h1 (ho a List.mem_cons_self) (hm b (List.mem_of_getElem? hb)) e1 k4
            subst this
            simp only [List.map_cons, List.cons.injEq]
            exact ⟨by rw [hid hb, k3], ih t cs he.2 (fun b hb => ho b (List.mem_cons_of_mem _ hb)) e2⟩
          · cases h1
    exact key _ _ _ c6 hc2 hc1
  · obtain ⟨q0, hq0, rfl⟩ := List.mem_map.mp hq
    have := has_ok h hm hS (c7 q0 hq0)
    obtain ⟨a, c, v, g1, g2, g3, g4, g5⟩ := this
    have hlt : q0.2.2.2 < M.pa.length := by
      unfold n_wf at hwf
      simp only [Bool.and_eq_true, List.all_eq_true, decide_eq_true_eq] at hwf
      exact hwf.2.2.2.1 q0 hq0
    exact ⟨a, c, v, g1, g2, g3, by simp only [wf_id hwf hlt]; exact g4, g5⟩
  · obtain ⟨q0, hq0, rfl⟩ := List.mem_map.mp hq
    have hx := c8 q0 hq0
    unfold x_hasE at hx
    split at hx
    · rename_i p i b hp hi hb
      obtain ⟨g, hg, hg2⟩ := List.any_eq_true.mp hx
      simp only [Bool.and_eq_true, beq_iff_eq] at hg2
      obtain ⟨a, c, x, v, g1, g2, g3, g4, g5, g6, g7⟩ := hS.2.2.2.2.1 g hg
      obtain ⟨u, k1, k2⟩ := vals_get h hp
      obtain ⟨w, k3, k4⟩ := vals_get h hb
      obtain ⟨y, k5, k6⟩ := vals_get h hi
      rw [hg2.1, k2] at g1
      cases g1
      have e1 := x_eq_ok hg2.2.2.2 (hS.1 _ (mem_ef2 hg)) (hm b (List.mem_of_getElem? hb)) g6 k4
      subst e1
      have e2 := x_eq_ok hg2.2.2.1 (hS.1 _ (mem_ef1 hg)) (hm i (List.mem_of_getElem? hi)) g4 k6
      subst e2
      rw [hg2.2.1] at g2
      exact ⟨a, c, x, v, k1, g2, g3, by simp only [hid hi]; exact k5, g5, by simp only [hid hb]; exact k3, g7⟩
    · cases hx
  · have hx := c9 q hq
    unfold x_hasS at hx
    split at hx
    · rename_i a b c ha hb hc
      obtain ⟨g, hg, hg2⟩ := List.any_eq_true.mp hx
      simp only [Bool.and_eq_true, Bool.or_eq_true, beq_iff_eq] at hg2
      obtain ⟨u, v, w, g1, g2, g3, g4⟩ := hS.2.2.2.2.2.1 g hg
      obtain ⟨u', k1, k2⟩ := vals_get h ha
      obtain ⟨v', k3, k4⟩ := vals_get h hb
      obtain ⟨w', k5, k6⟩ := vals_get h hc
      rw [hg2.1, k2] at g1
      rw [hg2.2.2, k6] at g3
      cases g1
      cases g3
      have hz : vz v = vz v' := by
        rcases hg2.2.1 with e | ⟨-, e⟩
        · rw [e, k4] at g2
          cases g2; rfl
        · obtain ⟨r, hr, hr2⟩ := List.any_eq_true.mp e
          simp only [Bool.and_eq_true, beq_iff_eq, decide_eq_true_eq] at hr2
          obtain ⟨z, z1, z2, z3⟩ := hm b (List.mem_of_getElem? hb)
          obtain rfl : z = v' := Option.some.inj (z1.symm.trans k4)
          obtain ⟨y, y1, y2, y3⟩ := z3 r hr
          rw [hr2.1, g2] at y1
          cases y1
          omega
      exact ⟨u, v', w, k1, k3, k5, by omega⟩
    · cases hx
  · show M.pa.length = ws.length
    rw [vals_len h, c3]
end SxT
