/-! SYMBOLIC RUNS, XXII: the end of a node; the runs as a function; all nodes hold -/
noncomputable def x_xb (S : SS) (r : Option AV) : List (Nat × Nat × Nat) → Option (List AV)
  | [] => some []
  | b :: t => match (if b.1 = 0 then r else (S.2.2.1.find? (fun q => q.1 == b.2.1 && q.2.2.1 == b.2.2)).map (fun q => q.2.2.2)), x_xb S r t with
    | some a, some m => some (a :: m)
    | _, _ => none
noncomputable def x_end (sets : List (List Int)) (N : ND) (S : SS) (r : Option AV) : Bool := match x_xb S r N.xb with
  | some m => decide (m.length = N.xp.length) && (N.xp.all (x_ent sets (N.pa ++ m)) && ((match N.xr, r with
      | none, none => true
      | some j, some b => (match (N.pa ++ m)[j]? with | some c => x_eq b c | none => false)
      | _, _ => false) && N.xf.all (x_has S (N.pa ++ m))))
  | none => false
noncomputable def x_try (sets : List (List Int)) (roles : List RD) (N : ND) (d : Nat) (S : SS) : List ND → Option (List (SS × Option AV))
  | [] => none
  | M :: t => match x_ap sets roles N M d S with
    | some q => some q
    | none => x_try sets roles N d S t
noncomputable def x_sym (S : SS) (j : Nat) : Option AV := if j < 100 then x_get S.1.2.2.1 j else if j < 1000 then S.1.2.2.2[j - 100]? else (match x_get S.1.2.2.1 0 with | some p => (S.2.2.1.find? (fun q => q.1 == p.1 && q.2.2.1 == j - 1000)).map (fun q => q.2.2.2) | none => none)
/-- what is told apart at a place: pc, symbol, and 0 (each value), or where the bounds are cut -/
abbrev SP : Type := Nat × Nat × Int
noncomputable def x_spl (sets : List (List Int)) (S : SS) : List SP → Option (List SS)
  | [] => none
  | q :: t => if q.1 = S.1.2.1 then (match x_sym S q.2.1 with
      | some a => if k_is a.2.1 0 = true ∧ a.2.2.1 < a.2.2.2.1 then
          (if q.2.2 = 0 then (if a.2.2.2.1 - a.2.2.1 ≤ 200 then some ((x_cs sets a).map (fun c => s_map (a_cl a.1 c c) S)) else x_spl sets S t)
          else if a.2.2.1 < q.2.2 ∧ q.2.2 ≤ a.2.2.2.1 then some [s_map (a_cl a.1 a.2.2.1 (q.2.2 - 1)) S, s_map (a_cl a.1 q.2.2 a.2.2.2.1) S] else x_spl sets S t)
        else x_spl sets S t
      | none => x_spl sets S t) else x_spl sets S t
abbrev AN : Type := List (List ND × List SP)
noncomputable def an_at (A : AN) (mi : Nat) : List ND × List SP := A.getD mi ([], [])
noncomputable def sx (Γ : Nat → Option Nat) (sets : List (List Int)) (roles : List RD) (fty : Nat → Nat → FieldType) (MT : List MM) (at_ : AT) (an : Nat → List ND × List SP) (N : ND) : Nat → Nat → SS → Bool
  | 0, _, _ => false
  | n + 1, d, S => match x_try sets roles N d S (an S.1.1).1 with
    | some l => l.all (fun q => match x_pop q.1 q.2 with
      | some S3 => sx Γ sets roles fty MT at_ an N n (d + 1) S3
      | none => N.alts.any (fun N' => x_end sets N' q.1 q.2))
    | none => match x_spl sets S (an S.1.1).2 with
      | some L => L.all (fun S3 => sx Γ sets roles fty MT at_ an N n d S3)
      | none => match at_ S.1.1 S.1.2.1 with
        | none => false
        | some E => match x_stp Γ sets roles fty MT N.ms S E.1 with
          | some L => L.all (fun S3 => sx Γ sets roles fty MT at_ an N n d S3)
          | none => match x_ret E.2 E.1.2.1 S.1.2.2.2 with
            | some r => (match x_pop S r with
              | some S3 => sx Γ sets roles fty MT at_ an N n (d + 1) S3
              | none => N.alts.any (fun N' => x_end sets N' S r))
            | none => match x_max S E.1 with
              | some S3 => sx Γ sets roles fty MT at_ an N n d S3
              | none => match x_call MT roles S E.1 with
                | some S3 => (match d with | 0 => false | d' + 1 => sx Γ sets roles fty MT at_ an N n d' S3)
                | none => false
noncomputable def n_chk (Γ : Nat → Option Nat) (sets : List (List Int)) (roles : List RD) (fty : Nat → Nat → FieldType) (MT : List MM) (at_ : AT) (an : Nat → List ND × List SP) (n : Nat) (N : ND) : Bool := n_wfA N && sx Γ sets roles fty MT at_ an N n N.dep (n_st N)
section SxV
variable {Γ : Nat → Option Nat} {sets : List (List Int)} {roles : List RD} {ms : Mods} {MT : List MM} {ro : Nat → Option MC} {fty : Nat → Nat → FieldType} {dfl : Nat → List Value} {vs0 : List Value} {F0 : MH} {Q : Option Value → MH → Prop} {d : Nat} {S : SS}
/-- what must hold when the running frame has ended with r -/
noncomputable def Fin (Γ : Nat → Option Nat) (sets : List (List Int)) (roles : List RD) (ms : Mods) (MT : List MM) (ro : Nat → Option MC) (fty : Nat → Nat → FieldType) (dfl : Nat → List Value) (vs0 : List Value) (F0 : MH) (Q : Option Value → MH → Prop) (d : Nat) (S : SS) (r : Option AV) : Prop :=
  ∀ vs f fs F v, (∃ t, vs = vs0 ++ t) → okS Γ sets ro vs S f fs F → WT Γ sets roles ro F → FRm Γ ro ms F0 F → v.toList.map some = r.toList.map (fun a => vs[a.1]?) → (∀ a ∈ r.toList, okA Γ sets vs a) → KK MT ro fty dfl d fs Q v F
theorem fin_pop {r : Option AV} {S1 : SS} (hp1 : x_pop S r = some S1) (h : Good Γ sets roles ms MT ro fty dfl vs0 F0 Q (d + 1) S1) : Fin Γ sets roles ms MT ro fty dfl vs0 F0 Q d S r := by
  intro vs f fs F v hp hS hW hF o3 o4
  unfold x_pop at hp1
  split at hp1
  · rename_i g gs hg
    cases hp1
    obtain ⟨h1, h2, h3, h4, h5, h6, h7⟩ := hS
    rw [hg] at h3
    cases fs with
    | nil => exact h3.elim
    | cons cf cfs =>
      obtain ⟨⟨k1, k2, k3, k4⟩, k5⟩ := h3
      have hk := h vs (cf.1, cf.2.1 + 3, cf.2.2.1, v.toList ++ cf.2.2.2) cfs F hp ?_ hW hF
      · exact hk
      · refine ⟨fun b hb => ?_, ⟨k1, by show g.2.1 + 3 = _; rw [k2], k3, ?_⟩, k5, h4, h5, h6, h7⟩
        · simp only [s_av, s_avF, List.mem_append] at hb
          rcases hb with (hb | hb | hb) | hb | hb
          · exact h1 b (List.mem_append_right _ (List.mem_append_left _ (by rw [hg]; exact List.mem_append_left _ (List.mem_append_left _ hb))))
          · exact o4 b hb
          · exact h1 b (List.mem_append_right _ (List.mem_append_left _ (by rw [hg]; exact List.mem_append_left _ (List.mem_append_right _ hb))))
          · exact h1 b (List.mem_append_right _ (List.mem_append_left _ (by rw [hg]; exact List.mem_append_right _ hb)))
          · exact h1 b (List.mem_append_right _ (List.mem_append_right _ (List.mem_append.mpr hb)))
        · simp only [List.map_append]
          rw [o3, k4]
  · cases hp1
theorem xb_ok {r : Option AV} {vs : List Value} {f : CF} {fs : List CF} {F : MH} (hS : okS Γ sets ro vs S f fs F) (hr : ∀ a ∈ r.toList, okA Γ sets vs a) : ∀ (xb : List (Nat × Nat × Nat)) (m : List AV), x_xb S r xb = some m → ∀ a ∈ m, okA Γ sets vs a
  | [], m, h => by cases h; intro a ha; cases ha
  | b :: t, m, h => by
    rw [x_xb] at h
    split at h
    · rename_i a m1 ha hm
      cases h
      intro c hc
      rcases List.mem_cons.mp hc with rfl | hc
      · split at ha
        · exact hr _ (by rw [ha]; exact List.mem_cons_self)
        · cases hq : S.2.2.1.find? (fun q => q.1 == b.2.1 && q.2.2.1 == b.2.2) with
          | none => rw [hq] at ha; cases ha
          | some q =>
            rw [hq] at ha
            cases ha
            exact hS.1 _ (mem_fact (List.mem_of_find?_eq_some hq))
      · exact xb_ok hS hr t m1 hm c hc
    · cases h
theorem fin_end {N : ND} {r : Option AV} (hwf : n_wf N = true) (hn : vs0.length = N.pa.length) (hN : ∀ a ∈ N.pa, okA Γ sets vs0 a) (hnil : S.2.1 = []) (hx : x_end sets N S r = true) : Fin Γ sets roles N.ms MT ro fty dfl vs0 F0 (n_post Γ sets roles ro N vs0 F0) d S r := by
  intro vs f fs F v hp hS hW hF o3 o4
  have hfs : fs = [] := by
    have := hS.2.2.1
    rw [hnil] at this
    cases fs with
    | nil => rfl
    | cons a b => exact this.elim
  subst hfs
  unfold x_end at hx
  split at hx
  · rename_i m hm
    simp only [Bool.and_eq_true, decide_eq_true_eq, List.all_eq_true] at hx
    obtain ⟨c1, c2, c3, c4⟩ := hx
    have hma := xb_ok hS o4 _ _ hm
    obtain ⟨t, ht⟩ := vals_of m hma
    obtain ⟨t0, rfl⟩ := hp
    have hNv : ∀ a ∈ N.pa, okA Γ sets (vs0 ++ t0) a := fun a ha => (hN a ha).app _
    have hall : ∀ a ∈ N.pa ++ m, okA Γ sets (vs0 ++ t0) a := fun a ha => (List.mem_append.mp ha).elim (hNv a) (hma a)
    have hws : (vs0 ++ t).map some = (N.pa ++ m).map (fun a => (vs0 ++ t0)[a.1]?) := by
      rw [List.map_append, List.map_append, ht]
      congr 1
      apply List.ext_getElem?
      intro i
      rw [List.getElem?_map, List.getElem?_map]
      cases hb : N.pa[i]? with
      | none =>
        have : vs0.length ≤ i := by rw [hn]; exact List.getElem?_eq_none_iff.mp hb
        rw [List.getElem?_eq_none this]; rfl
      | some b =>
        have hi := (List.getElem?_eq_some_iff.mp hb).1
        rw [List.getElem?_eq_getElem (by omega)]
        simp only [Option.map]
        rw [(wf_pa hwf hN i b hb).2, List.getElem?_append_left (by omega), List.getElem?_eq_getElem (by omega)]
    refine ⟨hW, hF, t, by rw [vals_len ht, c1], ?_, fun a ha => ent_ok hws hall (c2 a ha), fun q hq => has_ok hws hall hS (c4 q hq)⟩
    rw [o3]
    split at c3
    · rename_i e1
      rw [e1]; rfl
    · rename_i j b e1
      rw [e1]
      split at c3
      · rename_i c hc
        simp only [Option.toList, List.map_cons, List.map_nil]
        obtain ⟨w, k1, k2⟩ := vals_get hws hc
        have ob := o4 b (by simp)
        obtain ⟨u, hu⟩ := ob.get
        have := x_eq_ok c3 ob (hall c (List.mem_of_getElem? hc)) hu k2
        subst this
        rw [hu, k1]
      · cases c3
    · cases c3
  · cases hx
theorem g_retF {E : MI × Option FieldType} (hE : m_at MT S.1.1 S.1.2.1 = some E) {r : Option AV} (hx : x_ret E.2 E.1.2.1 S.1.2.2.2 = some r) (h : Fin Γ sets roles ms MT ro fty dfl vs0 F0 Q d S r) : Good Γ sets roles ms MT ro fty dfl vs0 F0 Q d S := by
  intro vs f fs F hp hS hW hF
  have hS0 := hS
  obtain ⟨lv, cst, rfl, hl, hc1, hc2⟩ := hS.frame
  obtain ⟨o1, v, o2, o3, o4⟩ := ret_one (ro := ro) (fty := fty) (dfl := dfl) hx hc1 hc2 F lv
  exact TT.ret hE o1 o2 (h vs _ fs F v hp hS0 hW hF o3 (fun a ha => hc2 a (o4 a ha)))
theorem fin_ends {N : ND} {r : Option AV} (hwf : n_wfA N = true) (hn : vs0.length = N.pa.length) (hN : ∀ a ∈ N.pa, okA Γ sets vs0 a) (hnil : S.2.1 = []) (hx : N.alts.any (fun N' => x_end sets N' S r) = true) : Fin Γ sets roles N.ms MT ro fty dfl vs0 F0 (n_posts Γ sets roles ro N vs0 F0) d S r := by
  obtain ⟨M, hM, hx⟩ := List.any_eq_true.mp hx
  have hw := List.all_eq_true.mp hwf M hM
  have e := ND.alt_pa hM
  have f1 : Fin Γ sets roles M.ms MT ro fty dfl vs0 F0 (n_post Γ sets roles ro M vs0 F0) d S r := fin_end hw (by rw [e]; exact hn) (by rw [e]; exact hN) hnil hx
  rw [ND.alt_ms hM] at f1
  intro vs f fs F v a1 a2 a3 a4 a5 a6
  have hfs : fs = [] := by
    have := a2.2.2.1
    rw [hnil] at this
    cases fs with
    | nil => rfl
    | cons a b => exact this.elim
  subst hfs
  exact ⟨M, hM, f1 vs f [] F v a1 a2 a3 a4 a5 a6⟩
/-- a node holds, where its rank is below k or its stage is earlier -/
noncomputable def NH (Γ : Nat → Option Nat) (sets : List (List Int)) (roles : List RD) (MT : List MM) (ro : Nat → Option MC) (fty : Nat → Nat → FieldType) (dfl : Nat → List Value) (A : AN) (s k : Nat) : Prop := ∀ p ∈ A, ∀ M ∈ p.1, n_wfA M = true ∧ ∀ ws f F, (M.stg < s ∨ (M.stg = s ∧ n_mes M ws < k)) → okN Γ sets ro M ws f F → WT Γ sets roles ro F → TT MT ro fty dfl M.dep f.1 F f.2.1 f.2.2.1 f.2.2.2 (n_posts Γ sets roles ro M ws F)
theorem g_ap (hR : RK Γ roles ro) {A : AN} {N M : ND} (hwfN : n_wf N = true) (hn : vs0.length = N.pa.length) (hN : ∀ a ∈ N.pa, okA Γ sets vs0 a) (hH : NH Γ sets roles MT ro fty dfl A N.stg (n_mes N vs0)) {p : List ND × List SP} (hp : p ∈ A) (hM : M ∈ p.1) {l : List (SS × Option AV)} (hx : x_ap sets roles N M d S = some l) (h : ∀ q ∈ l, Fin Γ sets roles N.ms MT ro fty dfl vs0 F0 Q d q.1 q.2) : Good Γ sets roles N.ms MT ro fty dfl vs0 F0 Q d S := by
  intro vs f fs F hpre hS hW hF
  obtain ⟨hwf, hMM⟩ := hH p hp M hM
  unfold x_ap at hx
  split at hx
  · rename_i hc
    obtain ⟨-, -, hd, hstg⟩ := hc
    split at hx
    · rename_i q1 hq1
      split at hx
      · rename_i hck
        cases hx
        simp only [Bool.and_eq_true, Bool.or_eq_true, decide_eq_true_eq] at hck
        obtain ⟨k1, k2, k3⟩ := hck
        obtain ⟨t0, rfl⟩ := hpre
        obtain ⟨t, b1, b2, b3, b4⟩ := bs_ok (N := N) hW M.bs S [] q1 (vs0 ++ t0) hq1 hS (fun a ha => by cases ha) (fun a ha => (hN a ha).app _)
        obtain ⟨ws, hws⟩ := vals_of q1.2 b2
        have hok := mt_ok (wfA_wf hwf) k1 b1 b2 hws
        have hl : q1.2.length = M.pa.length := by
          unfold x_mt at k1
          simp only [Bool.and_eq_true, decide_eq_true_eq] at k1
          exact k1.1.2.2
        have hT := hMM ws f F (by
          rcases k2 with k2 | k2
          · exact Or.inl k2
          · rcases Nat.lt_or_ge M.stg N.stg with hlt | hge
            · exact Or.inl hlt
            · exact Or.inr ⟨by omega, rk_ok (vs0 := vs0) hwfN (fun a ha => by rw [List.append_assoc]; exact (hN a ha).app _) hn ⟨t0 ++ t, by rw [List.append_assoc]⟩ b2 hws k2⟩) hok hW
        refine (hT.deep hd).imp (fun v F1 hP => ?_)
        obtain ⟨M', hM', hP⟩ := hP
        obtain ⟨t2, g1, g2, g3⟩ := aft_ok hR (List.all_eq_true.mp hwf M' hM') hws b2 (by rw [ND.alt_pa hM']; exact hl) b1 hP
        rw [← ND.alt_ms hM'] at k3
        refine h _ (List.mem_map.mpr ⟨M', hM', rfl⟩) _ f fs F1 v ⟨t0 ++ (t ++ t2), ?_⟩ g1 hP.1 (fr_trans hR k3 hF hW hP.2.1) g2 g3
        simp only [List.append_assoc]
      · cases hx
    · cases hx
  · cases hx
theorem try_ok {N : ND} {q : List (SS × Option AV)} : ∀ (l : List ND), x_try sets roles N d S l = some q → ∃ M ∈ l, x_ap sets roles N M d S = some q
  | [], h => by cases h
  | M :: t, h => by
    rw [x_try] at h
    split at h
    · rename_i q1 hq
      cases h
      exact ⟨M, List.mem_cons_self, hq⟩
    · obtain ⟨M2, h1, h2⟩ := try_ok t h
      exact ⟨M2, List.mem_cons_of_mem _ h1, h2⟩
theorem sym_mem {j : Nat} {a : AV} (h : x_sym S j = some a) : a ∈ s_av S := by
  unfold x_sym at h
  split at h
  · exact mem_loc (x_get_mem h)
  · split at h
    · exact mem_top (List.mem_of_getElem? h)
    · split at h
      · rename_i p hp
        cases hq : S.2.2.1.find? (fun q => q.1 == p.1 && q.2.2.1 == j - 1000) with
        | none => rw [hq] at h; cases h
        | some q =>
          rw [hq] at h
          cases h
          exact mem_fact (List.mem_of_find?_eq_some hq)
      · cases h
theorem spl_ok {L : List SS} : ∀ (l : List SP), x_spl sets S l = some L → (∀ S3 ∈ L, Good Γ sets roles ms MT ro fty dfl vs0 F0 Q d S3) → Good Γ sets roles ms MT ro fty dfl vs0 F0 Q d S
  | [], h, _ => by cases h
  | q :: t, h, hL => by
    rw [x_spl] at h
    split at h
    · split at h
      · rename_i a ha
        split at h
        · rename_i hk
          split at h
          · split at h
            · cases h
              exact g_spl (sym_mem ha) hk.1 (fun c hc => hL _ (List.mem_map.mpr ⟨c, hc, rfl⟩))
            · exact spl_ok t h hL
          · split at h
            · rename_i hc
              cases h
              intro vs f fs F hp hS hW hF
              obtain ⟨v, h1, h2, -⟩ := hS.1 a (sym_mem ha)
              have n := h2.num (k_is_int h2 hk.1).2
              by_cases hv : vz v < q.2.2
              · exact hL _ List.mem_cons_self vs f fs F hp (hS.cl h1 n.1 (by omega)) hW hF
              · exact hL _ (List.mem_cons_of_mem _ List.mem_cons_self) vs f fs F hp (hS.cl h1 (by omega) n.2) hW hF
            · exact spl_ok t h hL
        · exact spl_ok t h hL
      · exact spl_ok t h hL
    · exact spl_ok t h hL
theorem an_mem {A : AN} {mi : Nat} {M : ND} (h : M ∈ (an_at A mi).1) : ∃ p ∈ A, M ∈ p.1 := by
  unfold an_at at h
  rw [List.getD_eq_getElem?_getD] at h
  cases hp : A[mi]? with
  | none => rw [hp] at h; cases h
  | some p =>
    rw [hp] at h
    exact ⟨p, List.mem_of_getElem? hp, h⟩
theorem fin_or {N : ND} {r : Option AV} {at_ : AT} {an : Nat → List ND × List SP} {n : Nat} (hwf : n_wfA N = true) (hn : vs0.length = N.pa.length) (hN : ∀ a ∈ N.pa, okA Γ sets vs0 a) (ih : ∀ d S, sx Γ sets roles fty MT at_ an N n d S = true → Good Γ sets roles N.ms MT ro fty dfl vs0 F0 (n_posts Γ sets roles ro N vs0 F0) d S) (h : (match x_pop S r with | some S3 => sx Γ sets roles fty MT at_ an N n (d + 1) S3 | none => N.alts.any (fun N' => x_end sets N' S r)) = true) : Fin Γ sets roles N.ms MT ro fty dfl vs0 F0 (n_posts Γ sets roles ro N vs0 F0) d S r := by
  split at h
  · rename_i S3 hS3
    exact fin_pop hS3 (ih _ _ h)
  · rename_i hnone
    refine fin_ends hwf hn hN ?_ h
    unfold x_pop at hnone
    split at hnone
    · cases hnone
    · rename_i e; exact e
theorem sx_ok (hG : GOK Γ roles) (hR : RK Γ roles ro) {at_ : AT} {an : Nat → List ND × List SP} {A : AN} (hat : ∀ mi pc E, at_ mi pc = some E → m_at MT mi pc = some E) (han : ∀ mi M, M ∈ (an mi).1 → ∃ p ∈ A, M ∈ p.1) {N : ND} (hwf : n_wfA N = true) (hn : vs0.length = N.pa.length) (hN : ∀ a ∈ N.pa, okA Γ sets vs0 a) (hH : NH Γ sets roles MT ro fty dfl A N.stg (n_mes N vs0)) : ∀ (n d : Nat) (S : SS), sx Γ sets roles fty MT at_ an N n d S = true → Good Γ sets roles N.ms MT ro fty dfl vs0 F0 (n_posts Γ sets roles ro N vs0 F0) d S := by
  intro n
  induction n with
  | zero => intro d S h; cases h
  | succ n ih =>
    intro d S h
    rw [sx] at h
    split at h
    · rename_i q hq
      obtain ⟨M, hM, hap⟩ := try_ok _ hq
      obtain ⟨p, hp, hMp⟩ := han _ _ hM
      exact g_ap hR (wfA_wf hwf) hn hN hH hp hMp hap (fun q hq => fin_or hwf hn hN ih (List.all_eq_true.mp h q hq))
    · split at h
      · rename_i L hL
        exact spl_ok _ hL (fun S3 h3 => ih _ _ (List.all_eq_true.mp h S3 h3))
      · split at h
        · cases h
        · rename_i E hE0
          have hE := hat _ _ _ hE0
          split at h
          · rename_i L hL
            exact g_stp hG hE hL (fun S3 h3 => ih _ _ (List.all_eq_true.mp h S3 h3))
          · split at h
            · rename_i r hr
              exact g_retF hE hr (fin_or hwf hn hN ih h)
            · split at h
              · rename_i S3 hS3
                exact g_max hE hS3 (ih _ _ h)
              · split at h
                · rename_i S3 hS3
                  cases d with
                  | zero => cases h
                  | succ d' => exact g_call hG hE hS3 (ih _ _ h)
                · cases h
theorem nodes_ok (hG : GOK Γ roles) (hR : RK Γ roles ro) {at_ : AT} {an : Nat → List ND × List SP} {A : AN} (hat : ∀ mi pc E, at_ mi pc = some E → m_at MT mi pc = some E) (han : ∀ mi M, M ∈ (an mi).1 → ∃ p ∈ A, M ∈ p.1) (n : Nat) (hA : ∀ p ∈ A, ∀ M ∈ p.1, n_chk Γ sets roles fty MT at_ an n M = true ∨ (n_wfA M = true ∧ ∀ ws f F, okN Γ sets ro M ws f F → WT Γ sets roles ro F → TT MT ro fty dfl M.dep f.1 F f.2.1 f.2.2.1 f.2.2.2 (n_posts Γ sets roles ro M ws F))) : ∀ s k, NH Γ sets roles MT ro fty dfl A s k := by
  have hwf : ∀ p ∈ A, ∀ M ∈ p.1, n_wfA M = true := fun p hp M hM => by
    rcases hA p hp M hM with h | h
    · unfold n_chk at h
      simp only [Bool.and_eq_true] at h
      exact h.1
    · exact h.1
  have one : ∀ s k, NH Γ sets roles MT ro fty dfl A s k → ∀ p ∈ A, ∀ M ∈ p.1, ∀ ws f F, M.stg = s → n_mes M ws = k → okN Γ sets ro M ws f F → WT Γ sets roles ro F → TT MT ro fty dfl M.dep f.1 F f.2.1 f.2.2.1 f.2.2.2 (n_posts Γ sets roles ro M ws F) := by
    intro s k hNH p hp M hM ws f F hs hk hok hW
    subst hs
    subst hk
    rcases hA p hp M hM with hc | hc
    rotate_left
    · exact hc.2 ws f F hok hW
    unfold n_chk at hc
    simp only [Bool.and_eq_true] at hc
    have hlen : ws.length = M.pa.length := hok.1.2.2.2.2.2.2.symm
    have hg := sx_ok (vs0 := ws) (F0 := F) hG hR hat han hc.1 hlen hok.2 hNH n M.dep (n_st M) hc.2
    exact hg ws f [] F ⟨[], by rw [List.append_nil]⟩ hok.1 hW (fun a r k c0 c _ _ h0 h1 => by
      cases h0.symm.trans h1; exact ⟨rfl, rfl⟩)
  intro s
  induction s using Nat.strongRecOn with
  | ind s ihs =>
    intro k
    induction k using Nat.strongRecOn with
    | ind k ihk =>
      intro p hp M hM
      refine ⟨hwf p hp M hM, fun ws f F hor hok hW => ?_⟩
      rcases hor with h | ⟨h1, h2⟩
      · exact one M.stg (n_mes M ws) (ihs M.stg h _) p hp M hM ws f F rfl rfl hok hW
      · exact one s (n_mes M ws) (ihk _ h2) p hp M hM ws f F h1 rfl hok hW
end SxV
