/-! THE LAW'S RUN, V: calls of both, over the cells -/
def sCl (a : Nat) : Bool := decide (a ≤ 128)
def sMo (a : Nat) : Bool := decide (129 ≤ a ∧ a ≤ 140)
def pMo (k : Nat) : Bool := decide (145 ≤ k ∧ k ≤ 238)
set_option maxRecDepth 100000 in
theorem cloCl : sClo sCl [] = true := by decide +kernel
set_option maxRecDepth 100000 in
theorem cloMo : sClo sMo [] = true := by decide +kernel
set_option maxRecDepth 100000 in
theorem chkMo : sChk pMo [] [] = true := by decide +kernel
def J6 (ro : Nat → Option MC) (F : MH) : Prop := WT tGam tSets tRoles ro F ∧ F.map zc = sh0 ∧ RRel (iv F) (iv F)
/-- bounds by a role -/
def chB (es : List (Nat × Int × Int)) (j : Nat) (lo hi : Int) : Bool := match es[j]? with
  | some e => (e.1 == 0 || decide (10 ≤ e.1)) && decide (lo ≤ e.2.1 ∧ e.2.2 ≤ hi)
  | none => false
def esSt : List (Nat × Int × Int) := match tGam 130 with
  | some r => (match tRoles[r]? with | some rd => if rd.1 = 1 then rd.2.2 else [] | none => [])
  | none => []
def wwB : Bool := (List.range 3).all (fun o => (List.range 4).all (fun d => chB esSt (80 * o + (16 + 9 * d)) 0 6 && (chB esSt (80 * o + (17 + 9 * d)) 0 1 && ((List.range 6).all (fun i => chB esSt (80 * o + (19 + 9 * d + i)) 0 5) && chB esSt (80 * o + (4 * d + 1)) 0 5))))
set_option maxRecDepth 100000 in
theorem wwB_ok : wwB = true := by decide +kernel
section Lift
variable {xl : List Int32} {n kx km : Nat} {lvx lvm : LVs} {ι ι1 κ κ1 : IS} {F F1 : MH} {E : Option Value → Option Value → Prop} {ro : Nat → Option MC}
theorem ch_b {j : Nat} {lo hi : Int} (hW : WT tGam tSets tRoles ro F) (hs : F.map zc = sh0) (hc : chB esSt j lo hi = true) : lo ≤ (iv F 130 j).toInt ∧ (iv F 130 j).toInt ≤ hi := by
  unfold chB esSt at hc
  split at hc
  · rename_i e he
    split at he
    · rename_i r hr
      split at he
      · rename_i rd hrd
        split at he
        · rename_i h1r
          obtain ⟨c, h1, h2⟩ := hW 130 r rd hr hrd
          have hF : F[130]? = some c := by unfold m_cell at h1; rw [if_pos (by decide)] at h1; exact h1
          rw [iv_cont hF]
          simp only [Bool.and_eq_true, Bool.or_eq_true, beq_iff_eq, decide_eq_true_eq] at hc
          have hL : okL tGam tSets rd.2.2 (cont c) := by
            rcases h2 with h2 | h2 | h2 | h2
            · exact h2.2.2
            · exact h2.2.2
            · exact h2.2.2
            · rw [h1r] at h2; exact absurd h2.1 (by decide)
          obtain ⟨v, hv, hE⟩ := hL.2 j e he
          rw [hv]
          unfold okE at hE
          rcases hc.1 with h0 | h0
          · rw [if_pos h0] at hE
            obtain ⟨⟨x, rfl⟩, hE1, hE2⟩ := hE
            have q1 : e.2.1 ≤ x.toInt := hE1
            have q2 : x.toInt ≤ e.2.2 := hE2
            show lo ≤ x.toInt ∧ x.toInt ≤ hi
            omega
          · rw [if_neg (by omega), if_neg (by omega), if_neg (by omega), if_pos h0] at hE
            obtain ⟨⟨x, rfl⟩, hE1, hE2, -⟩ := hE
            have q1 : e.2.1 ≤ x.toInt := hE1
            have q2 : x.toInt ≤ e.2.2 := hE2
            show lo ≤ x.toInt ∧ x.toInt ≤ hi
            omega
        · cases he
      · cases he
    · cases he
  · cases hc
theorem ww_of (hW : WT tGam tSets tRoles ro F) (hs : F.map zc = sh0) : WW (iv F) := by
  have key : ∀ o, o < 3 → WF (rO (80 * o) (iv F 130)) := by
    intro o ho
    have h1 := List.all_eq_true.mp wwB_ok o (List.mem_range.mpr ho)
    have h2 : ∀ d, d < 4 → _ := fun d hd => List.all_eq_true.mp h1 d (List.mem_range.mpr hd)
    have g : ∀ k, k < 80 → rO (80 * o) (iv F 130) k = iv F 130 (80 * o + k) := fun k hk => by unfold rO; rw [if_pos hk]
    refine ⟨fun d hd => ?_, fun v hv => ?_⟩
    · have h3 := h2 d hd
      simp only [Bool.and_eq_true] at h3
      refine ⟨?_, ?_, fun i hi => ?_⟩
      · rw [g _ (by omega)]; exact ch_b hW hs h3.1
      · have := ch_b hW hs h3.2.1
        rw [g _ (by omega), i_eq, i_eq, n0, n1]; omega
      · have h4 := List.all_eq_true.mp h3.2.2.1 i (List.mem_range.mpr hi)
        rw [g _ (by omega)]; exact ch_b hW hs h4
    · have h3 := h2 v hv
      simp only [Bool.and_eq_true] at h3
      rw [g _ (by omega)]; exact ch_b hW hs h3.2.2.2
  exact ⟨key 0 (by omega), key 1 (by omega), key 2 (by omega)⟩
theorem RRel.cm (h : RRel ι κ) (e : ∀ a, 129 ≤ a → κ1 a = κ a) : RRel ι κ1 := by
  obtain ⟨nv, nd, h⟩ := h
  refine ⟨nv, nd, ?_⟩
  unfold RN RI RS RB BM at h ⊢
  simp only [e 129 (by omega), e 130 (by omega), e 132 (by omega), e 135 (by omega), e 137 (by omega), e 138 (by omega), e 139 (by omega)]
  exact h
theorem RRel.cx (h : RRel ι κ) (e : ∀ a j, a ≤ 128 → ι1 a j = ι a j) : RRel ι1 κ := by
  obtain ⟨nv, nd, a, b, ⟨c1, c2⟩, d, f, g⟩ := h
  exact ⟨nv, nd, a, b, ⟨c1.keep (fun a j _ g2 => e a j (by omega)), by rw [e 25 4 (by omega)]; exact c2⟩, d.keep (fun a j _ g2 => e a j (by omega)) rfl (fun _ _ => rfl), f.keep (fun a j _ g2 => e a j (by omega)) (e 0 10 (by omega)) ⟨rfl, rfl, rfl⟩ rfl, g.keep (fun a j _ g2 => e a j (by omega)) rfl rfl⟩
theorem sdX (hp : pCl kx = true) (hl : lvx.all (fun q => svB sCl q.2) = true) (hs : F.map zc = sh0) : PF (tRo xl) n kx 0 lvx [] F (fun _ F1 => ∀ a, 129 ≤ a → iv F1 a = iv F a) :=
  (PF.side cloCl chkTr hp hs (sLvB hl) sL_nil).imp (fun _ F1 h a ha => funext (fun j => h a j (Or.inl (by simp [sCl]; omega))))
theorem sdM (hp : pMo km = true) (hl : lvm.all (fun q => svB sMo q.2) = true) (hs : F.map zc = sh0) : PF (tRo xl) n km 0 lvm [] F (fun _ F1 => ∀ a j, a ≤ 128 → iv F1 a j = iv F a j) :=
  (PF.side cloMo chkMo hp hs (sLvB hl) sL_nil).imp (fun _ F1 h a j ha => h a j (Or.inl (by simp [sMo]; omega)))
/-- a call of both -/
theorem lift (hC : ∀ ι κ, RRel ι κ → WW κ → CALL xl n n kx km lvx lvm E ι κ) (px : pCl kx = true) (lx : lvx.all (fun q => svB sCl q.2) = true) (pm : pMo km = true) (lm : lvm.all (fun q => svB sMo q.2) = true) (ox : ∀ F, WT tGam tSets tRoles (tRo xl) F → PF (tRo xl) n kx 0 lvx [] F (fun _ F1 => WT tGam tSets tRoles (tRo xl) F1)) (om : ∀ F, WT tGam tSets tRoles (tRo xl) F → PF (tRo xl) n km 0 lvm [] F (fun _ F1 => WT tGam tSets tRoles (tRo xl) F1)) (sx : sP kx = true) (sm : sP km = true) (hJ : J6 (tRo xl) F) : PF (tRo xl) n kx 0 lvx [] F (fun v1 F1 => PF (tRo xl) n km 0 lvm [] F1 (fun v2 F2 => E v1 v2 ∧ J6 (tRo xl) F2)) := by
  obtain ⟨hW, hs, hR⟩ := hJ
  intro d z hx
  have o1 := ox F hW d z hx
  have s1 : z.2.map zc = sh0 := ex_sh _ _ _ _ _ _ _ _ sx hs hx
  have c1 := sdX (xl := xl) (n := n) px lx hs d z hx
  have T := hC (iv F) (iv z.2) (hR.cm c1) (ww_of o1 s1) F hs rfl d z hx z.2 s1 rfl
  refine (((T.and (om z.2 o1)).and (PF.sh (n := n) sm s1)).and (sdM pm lm s1)).imp (fun v2 F2 hh => ?_)
  obtain ⟨⟨⟨⟨t1, t2⟩, w2⟩, s2⟩, d2⟩ := hh
  exact ⟨t1, w2, s2, t2.cx d2⟩
/-- what a call of the model that tries alone leaves -/
def MF (κ κ1 : IS) : Prop := (κ1 130 = κ 130 ∧ κ1 132 = κ 132 ∧ κ1 135 = κ 135) ∧ (κ1 137 = κ 137 ∧ κ1 138 = κ 138 ∧ κ1 139 = κ 139) ∧ κ1 129 3 = κ 129 3 ∧ κ1 129 4 = κ 129 4 ∧ κ1 129 13 = κ 129 13 ∧ κ1 129 31 = κ 129 31
def mfB (ms : Mods) : Bool := ms.all (fun q => [130, 132, 135, 137, 138, 139].all (fun a => match tGam a with | some r => !(q.1 == r) | none => false) && (match tGam 129 with | some r => !(q.1 == r) || [3, 4, 13, 31].all (fun j => !(decide (q.2.1 ≤ j) && decide (j ≤ q.2.2))) | none => false))
theorem inM_no {ms : Mods} {r : Nat} (h : ms.all (fun q => !(q.1 == r)) = true) (j : Nat) : inM ms r j = false := by
  unfold inM
  rw [List.any_eq_false]
  intro q hq
  have := List.all_eq_true.mp h q hq
  simp only [Bool.not_eq_true', beq_eq_false_iff_ne] at this
  simp [this]
theorem mf_of {ms : Mods} (hb : mfB ms = true) (h : FRm tGam ro ms F F1) (hs : F.map zc = sh0) (hs1 : F1.map zc = sh0) : MF (iv F) (iv F1) := by
  have row : ∀ a, a ∈ [130, 132, 135, 137, 138, 139] → iv F1 a = iv F a := by
    intro a ha
    cases hg : tGam a with
    | none =>
      simp only [List.mem_cons, List.not_mem_nil, or_false] at ha
      rcases ha with rfl | rfl | rfl | rfl | rfl | rfl <;> exact absurd hg (by decide)
    | some r =>
      funext j
      refine fr_iv h hg (inM_no (List.all_eq_true.mpr (fun q hq => ?_)) j) ?_ hs hs1
      · have h1 := List.all_eq_true.mp hb q hq
        rw [Bool.and_eq_true] at h1
        have h2 := List.all_eq_true.mp h1.1 a ha
        rw [hg] at h2
        exact h2
      · simp only [List.mem_cons, List.not_mem_nil, or_false] at ha
        omega
  have fld : ∀ j, j ∈ [3, 4, 13, 31] → iv F1 129 j = iv F 129 j := by
    intro j hj
    cases hg : tGam 129 with
    | none => exact absurd hg (by decide)
    | some r =>
      refine fr_iv h hg ?_ (by decide) hs hs1
      unfold inM
      rw [List.any_eq_false]
      intro q hq
      have h1 := List.all_eq_true.mp hb q hq
      rw [Bool.and_eq_true] at h1
      have h2 := h1.2
      rw [hg] at h2
      simp only [Bool.or_eq_true, Bool.not_eq_true', beq_eq_false_iff_ne] at h2
      rcases h2 with h2 | h2
      · simp [h2]
      · have h3 := List.all_eq_true.mp h2 j hj
        simp only [Bool.not_eq_true', Bool.and_eq_false_iff, decide_eq_false_iff_not] at h3
        simp only [Bool.and_eq_true, beq_iff_eq, decide_eq_true_eq, not_and]
        omega
  exact ⟨⟨row 130 (by simp), row 132 (by simp), row 135 (by simp)⟩, ⟨row 137 (by simp), row 138 (by simp), row 139 (by simp)⟩, fld 3 (by simp), fld 4 (by simp), fld 13 (by simp), fld 31 (by simp)⟩
theorem RRel.mf (h : RRel ι κ) (m : MF κ κ1) : RRel ι κ1 := by
  obtain ⟨nv, nd, h⟩ := h
  refine ⟨nv, nd, ?_⟩
  obtain ⟨⟨m1, m2, m3⟩, ⟨m4, m5, m6⟩, m7, m8, m9, m10⟩ := m
  unfold RN RI RS RB BM at h ⊢
  simp only [m1, m2, m3, m4, m5, m6, m7, m8, m9, m10]
  exact h
theorem RRel.cf (h : RRel ι κ) (e : CFr ι ι1) : RRel ι1 κ := by
  obtain ⟨nv, nd, a, b, ⟨c1, c2⟩, d, f, g⟩ := h
  exact ⟨nv, nd, a, b, ⟨c1.keep (fun a j _ g2 => e a j (by omega) (by omega)), by rw [e 25 4 (by omega) (by omega)]; exact c2⟩, d.keep (fun a j _ g2 => e a j (by omega) (by omega)) rfl (fun _ _ => rfl), f.keep (fun a j _ g2 => e a j (by omega) (by omega)) (e 0 10 (by omega) (by omega)) ⟨rfl, rfl, rfl⟩ rfl, g.keep (fun a j _ g2 => e a j (by omega) (by omega)) rfl rfl⟩
/-- a call of both that tries alone -/
theorem liftF {ms1 ms2 : Mods} (hC : ∀ ι, PC xl n kx 0 lvx [] ι (fun _ ι1 => CFr ι ι1)) (px : pCl kx = true) (lx : lvx.all (fun q => svB sCl q.2) = true) (pm : pMo km = true) (lm : lvm.all (fun q => svB sMo q.2) = true) (ox : ∀ F, WT tGam tSets tRoles (tRo xl) F → PF (tRo xl) n kx 0 lvx [] F (fun _ F1 => WT tGam tSets tRoles (tRo xl) F1 ∧ FRm tGam (tRo xl) ms1 F F1)) (om : ∀ F, WT tGam tSets tRoles (tRo xl) F → PF (tRo xl) n km 0 lvm [] F (fun _ F1 => WT tGam tSets tRoles (tRo xl) F1 ∧ FRm tGam (tRo xl) ms2 F F1)) (hb : mfB ms2 = true) (sx : sP kx = true) (sm : sP km = true) (hJ : J6 (tRo xl) F) : PF (tRo xl) n kx 0 lvx [] F (fun _ F1 => PF (tRo xl) n km 0 lvm [] F1 (fun _ F2 => J6 (tRo xl) F2)) := by
  obtain ⟨hW, hs, hR⟩ := hJ
  intro d z hx
  have o1 := (ox F hW d z hx).1
  have s1 : z.2.map zc = sh0 := ex_sh _ _ _ _ _ _ _ _ sx hs hx
  have c1 := sdX (xl := xl) (n := n) px lx hs d z hx
  have T := hC (iv F) F hs rfl d z hx
  have R1 : RRel (iv z.2) (iv z.2) := (hR.cf T).cm c1
  refine (((om z.2 o1).and (PF.sh (n := n) sm s1)).and (sdM pm lm s1)).imp (fun v2 F2 hh => ?_)
  obtain ⟨⟨⟨w2, f2⟩, s2⟩, d2⟩ := hh
  exact ⟨w2, s2, (R1.mf (mf_of hb f2 s1 s2)).cx d2⟩
end Lift
section Calls
variable {xl : List Int32} {n : Nat} {F : MH} {x1 x2 x3 x4 : Int32}
theorem RN.hp {nv nd : Nat} {ι κ : IS} (h : RN nv nd ι κ) : HP κ := ⟨h.2.2.1.1.2.1.2.1, h.2.2.1.1.2.2.2.1⟩
theorem call_tr {n2 kx km : Nat} {lvx lvm : LVs} {ι κ : IS} {nv nd : Nat} {f : Nat → Int32} {r r2 : Int32} (h : RN nv nd ι κ) (hx : PC xl n kx 0 lvx [] ι (XR nv nd f r ι)) (hm : PC xl n2 km 0 lvm [] κ (MR f r2 κ)) : CALL xl n n2 kx km lvx lvm (fun _ _ => True) ι κ :=
  PC.imp hx (fun v1 ι1 g1 => PC.imp hm (fun v2 κ1 g2 => ⟨trivial, nv, nd, h.town g1.2.1 g2.2.1 g1.2.2.1 (by rw [g2.2.2]; exact g1.2.2.2)⟩))
theorem L_10 (hJ : J6 (tRo xl) F) : PF (tRo xl) n 10 0 [(0, .ref 0), (1, .int x1)] [] F (fun v1 F1 => PF (tRo xl) n 147 0 [(0, .ref 129), (1, .int x1)] [] F1 (fun v2 F2 => (fun _ _ => True) v1 v2 ∧ J6 (tRo xl) F2)) :=
  lift (E := (fun _ _ => True)) (fun ι κ ⟨_, _, h⟩ w => feed_call h) rfl rfl rfl rfl (fun F hW => (op_10 rfl hW).imp (fun _ _ q => q.1)) (fun F hW => (op_147 rfl hW).imp (fun _ _ q => q.1)) rfl rfl hJ
theorem L_12 (hJ : J6 (tRo xl) F) : PF (tRo xl) n 12 0 [(0, .ref 0), (1, .int x1)] [] F (fun v1 F1 => PF (tRo xl) n 149 0 [(0, .ref 129), (1, .int x1)] [] F1 (fun v2 F2 => (fun _ _ => True) v1 v2 ∧ J6 (tRo xl) F2)) :=
  lift (E := (fun _ _ => True)) (fun ι κ ⟨_, _, h⟩ w => end_call h) rfl rfl rfl rfl (fun F hW => (op_12 rfl hW).imp (fun _ _ q => q.1)) (fun F hW => (op_149 rfl hW).imp (fun _ _ q => q.1)) rfl rfl hJ
theorem L_55 (hJ : J6 (tRo xl) F) : PF (tRo xl) n 55 0 [(0, .ref 0)] [] F (fun v1 F1 => PF (tRo xl) n 166 0 [(0, .ref 129)] [] F1 (fun v2 F2 => (fun _ _ => True) v1 v2 ∧ J6 (tRo xl) F2)) :=
  lift (E := (fun _ _ => True)) (fun ι κ ⟨_, _, h⟩ w => fault_call h) rfl rfl rfl rfl (fun F hW => (op_55 rfl hW).imp (fun _ _ q => q.1)) (fun F hW => (op_166 rfl hW).imp (fun _ _ q => q.1)) rfl rfl hJ
theorem L_56 (hJ : J6 (tRo xl) F) : PF (tRo xl) n 56 0 [(0, .ref 0), (1, .int x1)] [] F (fun v1 F1 => PF (tRo xl) n 167 0 [(0, .ref 129), (1, .int x1)] [] F1 (fun v2 F2 => (fun v1 v2 => v1 = v2) v1 v2 ∧ J6 (tRo xl) F2)) :=
  lift (E := (fun v1 v2 => v1 = v2)) (fun ι κ ⟨_, _, h⟩ w => call_of h (ruleX (h.hx w)) (ruleM (h.hm w))) rfl rfl rfl rfl (fun F hW => (op_56 rfl hW).imp (fun _ _ q => q.1)) (fun F hW => (op_167 rfl hW).imp (fun _ _ q => q.1)) rfl rfl hJ
theorem L_62 (hJ : J6 (tRo xl) F) : PF (tRo xl) n 62 0 [(0, .ref 0), (1, .int x1), (2, .int x2)] [] F (fun v1 F1 => PF (tRo xl) n 176 0 [(0, .ref 129), (1, .int x1), (2, .int x2)] [] F1 (fun v2 F2 => (fun v1 v2 => v1 = v2) v1 v2 ∧ J6 (tRo xl) F2)) :=
  lift (E := (fun v1 v2 => v1 = v2)) (fun ι κ ⟨_, _, h⟩ w => call_of h (visitorX (h.hx w)) (visitorM (h.hm w))) rfl rfl rfl rfl (fun F hW => (op_62 rfl hW).imp (fun _ _ q => q.1)) (fun F hW => (op_176 rfl hW).imp (fun _ _ q => q.1)) rfl rfl hJ
theorem L_64 (hJ : J6 (tRo xl) F) : PF (tRo xl) n 64 0 [(0, .ref 0), (1, .int x1), (2, .int x2)] [] F (fun v1 F1 => PF (tRo xl) n 180 0 [(0, .ref 129), (1, .int x1), (2, .int x2)] [] F1 (fun v2 F2 => (fun v1 v2 => v1 = v2) v1 v2 ∧ J6 (tRo xl) F2)) :=
  lift (E := (fun v1 v2 => v1 = v2)) (fun ι κ ⟨_, _, h⟩ w => call_of h (doorX (h.hx w)) (doorM (h.hm w))) rfl rfl rfl rfl (fun F hW => (op_64 rfl hW).imp (fun _ _ q => q.1)) (fun F hW => (op_180 rfl hW).imp (fun _ _ q => q.1)) rfl rfl hJ
theorem L_66 (hJ : J6 (tRo xl) F) : PF (tRo xl) n 66 0 [(0, .ref 0), (1, .int x1)] [] F (fun v1 F1 => PF (tRo xl) n 182 0 [(0, .ref 129), (1, .int x1)] [] F1 (fun v2 F2 => (fun v1 v2 => v1 = v2) v1 v2 ∧ J6 (tRo xl) F2)) :=
  lift (E := (fun v1 v2 => v1 = v2)) (fun ι κ ⟨_, _, h⟩ w => call_of h (planX (h.hx w)) (planM (h.hm w) h.hp.1)) rfl rfl rfl rfl (fun F hW => (op_66 rfl hW).imp (fun _ _ q => q.1)) (fun F hW => (op_182 rfl hW).imp (fun _ _ q => q.1)) rfl rfl hJ
theorem L_67 (hJ : J6 (tRo xl) F) : PF (tRo xl) n 67 0 [(0, .ref 0), (1, .int x1), (2, .int x2)] [] F (fun v1 F1 => PF (tRo xl) n 183 0 [(0, .ref 129), (1, .int x1), (2, .int x2)] [] F1 (fun v2 F2 => (fun v1 v2 => v1 = v2) v1 v2 ∧ J6 (tRo xl) F2)) :=
  lift (E := (fun v1 v2 => v1 = v2)) (fun ι κ ⟨_, _, h⟩ w => call_of h (usesX (h.hx w)) (usesM (h.hm w))) rfl rfl rfl rfl (fun F hW => (op_67 rfl hW).imp (fun _ _ q => q.1)) (fun F hW => (op_183 rfl hW).imp (fun _ _ q => q.1)) rfl rfl hJ
theorem L_69 (hJ : J6 (tRo xl) F) : PF (tRo xl) n 69 0 [(0, .ref 0), (1, .int x1), (2, .int x2)] [] F (fun v1 F1 => PF (tRo xl) n 185 0 [(0, .ref 129), (1, .int x1), (2, .int x2)] [] F1 (fun v2 F2 => (fun v1 v2 => v1 = v2) v1 v2 ∧ J6 (tRo xl) F2)) :=
  lift (E := (fun v1 v2 => v1 = v2)) (fun ι κ ⟨_, _, h⟩ w => call_of h (visitX (h.hx w)) (visitM (h.hm w))) rfl rfl rfl rfl (fun F hW => (op_69 rfl hW).imp (fun _ _ q => q.1)) (fun F hW => (op_185 rfl hW).imp (fun _ _ q => q.1)) rfl rfl hJ
theorem L_75 (hJ : J6 (tRo xl) F) : PF (tRo xl) n 75 0 [(0, .ref 0), (1, .int x1)] [] F (fun v1 F1 => PF (tRo xl) n 190 0 [(0, .ref 129), (1, .int x1)] [] F1 (fun v2 F2 => (fun v1 v2 => v1 = v2) v1 v2 ∧ J6 (tRo xl) F2)) :=
  lift (E := (fun v1 v2 => v1 = v2)) (fun ι κ ⟨_, _, h⟩ w => call_of h (skyX (h.hx w)) (skyM (h.hm w))) rfl rfl rfl rfl (fun F hW => (op_75 rfl hW).imp (fun _ _ q => q.1)) (fun F hW => (op_190 rfl hW).imp (fun _ _ q => q.1)) rfl rfl hJ
theorem L_81 (hJ : J6 (tRo xl) F) : PF (tRo xl) n 81 0 [(0, .ref 0), (1, .int x1)] [] F (fun v1 F1 => PF (tRo xl) n 194 0 [(0, .ref 129), (1, .int x1)] [] F1 (fun v2 F2 => (fun v1 v2 => v1 = v2) v1 v2 ∧ J6 (tRo xl) F2)) :=
  lift (E := (fun v1 v2 => v1 = v2)) (fun ι κ ⟨_, _, h⟩ w => call_of h (scrapeX (h.hx w)) (scrapeM (h.hm w))) rfl rfl rfl rfl (fun F hW => (op_81 rfl hW).imp (fun _ _ q => q.1)) (fun F hW => (op_194 rfl hW).imp (fun _ _ q => q.1)) rfl rfl hJ
theorem L_82 (hJ : J6 (tRo xl) F) : PF (tRo xl) n 82 0 [(0, .ref 0), (1, .int x1), (2, .int x2), (3, .int x3)] [] F (fun v1 F1 => PF (tRo xl) n 195 0 [(0, .ref 129), (1, .int x1), (2, .int x2), (3, .int x3)] [] F1 (fun v2 F2 => (fun v1 v2 => v1 = v2) v1 v2 ∧ J6 (tRo xl) F2)) :=
  lift (E := (fun v1 v2 => v1 = v2)) (fun ι κ ⟨_, _, h⟩ w => call_of h (alterX (h.hx w)) (alterM (h.hm w))) rfl rfl rfl rfl (fun F hW => (op_82 rfl hW).imp (fun _ _ q => q.1)) (fun F hW => (op_195 rfl hW).imp (fun _ _ q => q.1)) rfl rfl hJ
theorem L_83 (hb : x3 = 0 ∨ x3 = 1) (hJ : J6 (tRo xl) F) : PF (tRo xl) n 83 0 [(0, .ref 0), (1, .int x1), (2, .int x2), (3, .int x3)] [] F (fun v1 F1 => PF (tRo xl) n 198 0 [(0, .ref 129), (1, .int x1), (2, .int x2), (3, .int x3)] [] F1 (fun v2 F2 => (fun _ _ => True) v1 v2 ∧ J6 (tRo xl) F2)) :=
  lift (E := (fun _ _ => True)) (fun ι κ ⟨_, _, h⟩ w => call_tr h (oughtX (h.hx w)) (oughtM (h.hm w))) rfl rfl rfl rfl (fun F hW => (op_83 hb rfl hW).imp (fun _ _ q => q.1)) (fun F hW => (op_198 hb rfl hW).imp (fun _ _ q => q.1)) rfl rfl hJ
theorem L_84 (hJ : J6 (tRo xl) F) : PF (tRo xl) n 84 0 [(0, .ref 0), (1, .int x1)] [] F (fun v1 F1 => PF (tRo xl) n 199 0 [(0, .ref 129), (1, .int x1)] [] F1 (fun v2 F2 => (fun v1 v2 => v1 = v2) v1 v2 ∧ J6 (tRo xl) F2)) :=
  lift (E := (fun v1 v2 => v1 = v2)) (fun ι κ ⟨_, _, h⟩ w => call_of h (plansX (h.hx w)) (plansM (h.hm w) h.hp)) rfl rfl rfl rfl (fun F hW => (op_84 rfl hW).imp (fun _ _ q => q.1)) (fun F hW => (op_199 rfl hW).imp (fun _ _ q => q.1)) rfl rfl hJ
theorem L_85 (hJ : J6 (tRo xl) F) : PF (tRo xl) n 85 0 [(0, .ref 0), (1, .int x1)] [] F (fun v1 F1 => PF (tRo xl) n 201 0 [(0, .ref 129), (1, .int x1)] [] F1 (fun v2 F2 => (fun v1 v2 => v1 = v2) v1 v2 ∧ J6 (tRo xl) F2)) :=
  lift (E := (fun v1 v2 => v1 = v2)) (fun ι κ ⟨_, _, h⟩ w => call_of h (cutX (h.hx w)) (cutM)) rfl rfl rfl rfl (fun F hW => (op_85 rfl hW).imp (fun _ _ q => q.1)) (fun F hW => (op_201 rfl hW).imp (fun _ _ q => q.1)) rfl rfl hJ
theorem L_109 (hJ : J6 (tRo xl) F) : PF (tRo xl) n 109 0 [(0, .ref 0), (1, .int x1)] [] F (fun v1 F1 => PF (tRo xl) n 216 0 [(0, .ref 129), (1, .int x1)] [] F1 (fun v2 F2 => (fun v1 v2 => v1 = v2) v1 v2 ∧ J6 (tRo xl) F2)) :=
  lift (E := (fun v1 v2 => v1 = v2)) (fun ι κ ⟨_, _, h⟩ w => call_of h (readsX (h.hx w)) (readsM (h.hm w))) rfl rfl rfl rfl (fun F hW => (op_109 rfl hW).imp (fun _ _ q => q.1)) (fun F hW => (op_216 rfl hW).imp (fun _ _ q => q.1)) rfl rfl hJ
theorem L_111 (hJ : J6 (tRo xl) F) : PF (tRo xl) n 111 0 [(0, .ref 0), (1, .int x1), (2, .int x2), (3, .int x3)] [] F (fun v1 F1 => PF (tRo xl) n 217 0 [(0, .ref 129), (1, .int x1), (2, .int x2), (3, .int x3)] [] F1 (fun v2 F2 => (fun v1 v2 => v1 = v2) v1 v2 ∧ J6 (tRo xl) F2)) :=
  lift (E := (fun v1 v2 => v1 = v2)) (fun ι κ ⟨_, _, h⟩ w => call_of h (seeX (h.hx w)) (seeM (h.hm w) h.hp)) rfl rfl rfl rfl (fun F hW => (op_111 rfl hW).imp (fun _ _ q => q.1)) (fun F hW => (op_217 rfl hW).imp (fun _ _ q => q.1)) rfl rfl hJ
theorem L_113 (hJ : J6 (tRo xl) F) : PF (tRo xl) n 113 0 [(0, .ref 0), (1, .int x1)] [] F (fun v1 F1 => PF (tRo xl) n 218 0 [(0, .ref 129), (1, .int x1)] [] F1 (fun v2 F2 => (fun v1 v2 => v1 = v2) v1 v2 ∧ J6 (tRo xl) F2)) :=
  lift (E := (fun v1 v2 => v1 = v2)) (fun ι κ ⟨_, _, h⟩ w => call_of h (forgetX (h.hx w)) (forgetM)) rfl rfl rfl rfl (fun F hW => (op_113 rfl hW).imp (fun _ _ q => q.1)) (fun F hW => (op_218 rfl hW).imp (fun _ _ q => q.1)) rfl rfl hJ
theorem L_130 (hJ : J6 (tRo xl) F) : PF (tRo xl) n 130 0 [(0, .ref 0), (1, .int x1)] [] F (fun v1 F1 => PF (tRo xl) n 230 0 [(0, .ref 129), (1, .int x1)] [] F1 (fun v2 F2 => (fun v1 v2 => v1 = v2) v1 v2 ∧ J6 (tRo xl) F2)) :=
  lift (E := (fun v1 v2 => v1 = v2)) (fun ι κ ⟨_, _, h⟩ w => keep_call h w) rfl rfl rfl rfl (fun F hW => (op_130 rfl hW).imp (fun _ _ q => q.1)) (fun F hW => (op_230 rfl hW).imp (fun _ _ q => q.1)) rfl rfl hJ
theorem L_131 (hJ : J6 (tRo xl) F) : PF (tRo xl) n 131 0 [(0, .ref 0), (1, .int x1)] [] F (fun v1 F1 => PF (tRo xl) n 232 0 [(0, .ref 129), (1, .int x1)] [] F1 (fun v2 F2 => (fun v1 v2 => v1 = v2) v1 v2 ∧ J6 (tRo xl) F2)) :=
  lift (E := (fun v1 v2 => v1 = v2)) (fun ι κ ⟨_, _, h⟩ w => back_call h w) rfl rfl rfl rfl (fun F hW => (op_131 rfl hW).imp (fun _ _ q => q.1)) (fun F hW => (op_232 rfl hW).imp (fun _ _ q => q.1)) rfl rfl hJ
theorem L_132 (hJ : J6 (tRo xl) F) : PF (tRo xl) n 132 0 [(0, .ref 0), (1, .int x1), (2, .int x2), (3, .int x3)] [] F (fun v1 F1 => PF (tRo xl) n 233 0 [(0, .ref 129), (1, .int x1), (2, .int x2), (3, .int x3)] [] F1 (fun v2 F2 => (fun v1 v2 => v1 = v2) v1 v2 ∧ J6 (tRo xl) F2)) :=
  lift (E := (fun v1 v2 => v1 = v2)) (fun ι κ ⟨_, _, h⟩ w => sheet_call h) rfl rfl rfl rfl (fun F hW => (op_132 rfl hW).imp (fun _ _ q => q.1)) (fun F hW => (op_233 rfl hW).imp (fun _ _ q => q.1)) rfl rfl hJ
theorem L_136 (hJ : J6 (tRo xl) F) : PF (tRo xl) n 136 0 [(0, .ref 0), (1, .int x1), (2, .int x2), (3, .int x3)] [] F (fun v1 F1 => PF (tRo xl) n 235 0 [(0, .ref 129), (1, .int x1), (2, .int x2), (3, .int x3)] [] F1 (fun v2 F2 => (fun v1 v2 => v1 = v2) v1 v2 ∧ J6 (tRo xl) F2)) :=
  lift (E := (fun v1 v2 => v1 = v2)) (fun ι κ ⟨_, _, h⟩ w => lay_call h) rfl rfl rfl rfl (fun F hW => (op_136 rfl hW).imp (fun _ _ q => q.1)) (fun F hW => (op_235 rfl hW).imp (fun _ _ q => q.1)) rfl rfl hJ
theorem L_139 (hJ : J6 (tRo xl) F) : PF (tRo xl) n 139 0 [(0, .ref 0), (1, .int x1), (2, .int x2), (3, .int x3), (4, .int x4)] [] F (fun v1 F1 => PF (tRo xl) n 236 0 [(0, .ref 129), (1, .int x1), (2, .int x2), (3, .int x3), (4, .int x4)] [] F1 (fun v2 F2 => (fun v1 v2 => v1 = v2) v1 v2 ∧ J6 (tRo xl) F2)) :=
  lift (E := (fun v1 v2 => v1 = v2)) (fun ι κ ⟨_, _, h⟩ w => read_call h w) rfl rfl rfl rfl (fun F hW => (op_139 rfl hW).imp (fun _ _ q => q.1)) (fun F hW => (op_236 rfl hW).imp (fun _ _ q => q.1)) rfl rfl hJ
theorem L_142 (hJ : J6 (tRo xl) F) : PF (tRo xl) n 142 0 [(0, .ref 0)] [] F (fun v1 F1 => PF (tRo xl) n 237 0 [(0, .ref 129)] [] F1 (fun v2 F2 => (fun v1 v2 => v1 = v2) v1 v2 ∧ J6 (tRo xl) F2)) :=
  lift (E := (fun v1 v2 => v1 = v2)) (fun ι κ ⟨_, _, h⟩ w => torn_call h) rfl rfl rfl rfl (fun F hW => (op_142 rfl hW).imp (fun _ _ q => q.1)) (fun F hW => (op_237 rfl hW).imp (fun _ _ q => q.1)) rfl rfl hJ
theorem L_143 (hJ : J6 (tRo xl) F) : PF (tRo xl) n 143 0 [(0, .ref 0), (1, .int x1)] [] F (fun v1 F1 => PF (tRo xl) n 238 0 [(0, .ref 129), (1, .int x1)] [] F1 (fun v2 F2 => (fun v1 v2 => v1 = v2) v1 v2 ∧ J6 (tRo xl) F2)) :=
  lift (E := (fun v1 v2 => v1 = v2)) (fun ι κ ⟨_, _, h⟩ w => count_call h w) rfl rfl rfl rfl (fun F hW => (op_143 rfl hW).imp (fun _ _ q => q.1)) (fun F hW => (op_238 rfl hW).imp (fun _ _ q => q.1)) rfl rfl hJ
theorem L_86 (hJ : J6 (tRo xl) F) : PF (tRo xl) n 86 0 [(0, .ref 0), (1, .int x1)] [] F (fun _ F1 => PF (tRo xl) n 202 0 [(0, .ref 129), (1, .int x1)] [] F1 (fun _ F2 => J6 (tRo xl) F2)) :=
  liftF (ms1 := nd128.ms) (ms2 := nd189.ms) (fun ι => runsF) rfl rfl rfl rfl (fun F hW => op_86 rfl hW) (fun F hW => op_202 rfl hW) (by decide +kernel) rfl rfl hJ
theorem L_93 (hJ : J6 (tRo xl) F) : PF (tRo xl) n 93 0 [(0, .ref 0), (1, .int x1)] [] F (fun _ F1 => PF (tRo xl) n 204 0 [(0, .ref 129), (1, .int x1)] [] F1 (fun _ F2 => J6 (tRo xl) F2)) :=
  liftF (ms1 := nd127.ms) (ms2 := nd188.ms) (fun ι => aheadF) rfl rfl rfl rfl (fun F hW => op_93 rfl hW) (fun F hW => op_204 rfl hW) (by decide +kernel) rfl rfl hJ
theorem L_94 (hJ : J6 (tRo xl) F) : PF (tRo xl) n 94 0 [(0, .ref 0), (1, .int x1)] [] F (fun _ F1 => PF (tRo xl) n 206 0 [(0, .ref 129), (1, .int x1)] [] F1 (fun _ F2 => J6 (tRo xl) F2)) :=
  liftF (ms1 := nd126.ms) (ms2 := nd187.ms) (fun ι => clearsF) rfl rfl rfl rfl (fun F hW => op_94 rfl hW) (fun F hW => op_206 rfl hW) (by decide +kernel) rfl rfl hJ
theorem L_95 (hJ : J6 (tRo xl) F) : PF (tRo xl) n 95 0 [(0, .ref 0), (1, .int x1), (2, .int x2)] [] F (fun _ F1 => PF (tRo xl) n 207 0 [(0, .ref 129), (1, .int x1), (2, .int x2)] [] F1 (fun _ F2 => J6 (tRo xl) F2)) :=
  liftF (ms1 := nd125.ms) (ms2 := nd186.ms) (fun ι => bestF) rfl rfl rfl rfl (fun F hW => op_95 rfl hW) (fun F hW => op_207 rfl hW) (by decide +kernel) rfl rfl hJ
theorem L_107 (hJ : J6 (tRo xl) F) : PF (tRo xl) n 107 0 [(0, .ref 0), (1, .int x1)] [] F (fun _ F1 => PF (tRo xl) n 215 0 [(0, .ref 129), (1, .int x1)] [] F1 (fun _ F2 => J6 (tRo xl) F2)) :=
  liftF (ms1 := nd124.ms) (ms2 := nd185.ms) (fun ι => fewF) rfl rfl rfl rfl (fun F hW => op_107 rfl hW) (fun F hW => op_215 rfl hW) (by decide +kernel) rfl rfl hJ
theorem L_114 (hJ : J6 (tRo xl) F) : PF (tRo xl) n 114 0 [(0, .ref 0), (1, .int x1)] [] F (fun _ F1 => PF (tRo xl) n 219 0 [(0, .ref 129), (1, .int x1)] [] F1 (fun _ F2 => J6 (tRo xl) F2)) :=
  liftF (ms1 := nd120.ms) (ms2 := nd181.ms) (fun ι => potsF) rfl rfl rfl rfl (fun F hW => op_114 rfl hW) (fun F hW => op_219 rfl hW) (by decide +kernel) rfl rfl hJ
theorem L_117 (hJ : J6 (tRo xl) F) : PF (tRo xl) n 117 0 [(0, .ref 0)] [] F (fun _ F1 => PF (tRo xl) n 221 0 [(0, .ref 129)] [] F1 (fun _ F2 => J6 (tRo xl) F2)) :=
  liftF (ms1 := nd119.ms) (ms2 := nd263.ms) (fun ι => rainedF) rfl rfl rfl rfl (fun F hW => op_117 rfl hW) (fun F hW => op_221 rfl hW) (by decide +kernel) rfl rfl hJ
theorem L_118 (hJ : J6 (tRo xl) F) : PF (tRo xl) n 118 0 [(0, .ref 0), (1, .int x1)] [] F (fun _ F1 => PF (tRo xl) n 222 0 [(0, .ref 129), (1, .int x1)] [] F1 (fun _ F2 => J6 (tRo xl) F2)) :=
  liftF (ms1 := nd118.ms) (ms2 := nd180.ms) (fun ι => ordersF) rfl rfl rfl rfl (fun F hW => op_118 rfl hW) (fun F hW => op_222 rfl hW) (by decide +kernel) rfl rfl hJ
theorem L_121 (hJ : J6 (tRo xl) F) : PF (tRo xl) n 121 0 [(0, .ref 0), (1, .int x1), (2, .int x2), (3, .int x3)] [] F (fun _ F1 => PF (tRo xl) n 224 0 [(0, .ref 129), (1, .int x1), (2, .int x2), (3, .int x3)] [] F1 (fun _ F2 => J6 (tRo xl) F2)) :=
  liftF (ms1 := nd117.ms) (ms2 := nd179.ms) (fun ι => luckF) rfl rfl rfl rfl (fun F hW => op_121 rfl hW) (fun F hW => op_224 rfl hW) (by decide +kernel) rfl rfl hJ
theorem L_127 (hJ : J6 (tRo xl) F) : PF (tRo xl) n 127 0 [(0, .ref 0), (1, .int x1), (2, .int x2)] [] F (fun _ F1 => PF (tRo xl) n 228 0 [(0, .ref 129), (1, .int x1), (2, .int x2)] [] F1 (fun _ F2 => J6 (tRo xl) F2)) :=
  liftF (ms1 := nd116.ms) (ms2 := nd178.ms) (fun ι => meanF) rfl rfl rfl rfl (fun F hW => op_127 rfl hW) (fun F hW => op_228 rfl hW) (by decide +kernel) rfl rfl hJ
theorem L_128 (hJ : J6 (tRo xl) F) : PF (tRo xl) n 128 0 [(0, .ref 0), (1, .int x1), (2, .int x2), (3, .int x3)] [] F (fun _ F1 => PF (tRo xl) n 229 0 [(0, .ref 129), (1, .int x1), (2, .int x2), (3, .int x3)] [] F1 (fun _ F2 => J6 (tRo xl) F2)) :=
  liftF (ms1 := nd115.ms) (ms2 := nd177.ms) (fun ι => driftF) rfl rfl rfl rfl (fun F hW => op_128 rfl hW) (fun F hW => op_229 rfl hW) (by decide +kernel) rfl rfl hJ
theorem text6 (hJ : J6 (tRo xl) F) : PF (tRo xl) n 13 0 [(0, .ref 0)] [] F (fun v1 F1 => PF (tRo xl) n 150 0 [(0, .ref 129)] [] F1 (fun v2 F2 => v1 = v2 ∧ J6 (tRo xl) F2)) := by
  obtain ⟨hW, hs, hR⟩ := hJ
  intro d z hx
  have o1 := op_13 (n := n) rfl hW d z hx
  have s1 : z.2.map zc = sh0 := ex_sh _ _ _ _ _ _ _ _ (show sP 13 = true from rfl) hs hx
  have k3 : ∀ q, iv z.2 23 q = iv F 23 q := fun q => fr_iv o1.2 (r := 14) rfl rfl (by decide) hs s1
  have c1 := sdX (xl := xl) (n := n) (kx := 13) (lvx := [(0, .ref 0)]) rfl rfl hs d z hx
  obtain ⟨nv, nd, h⟩ := hR.cm c1
  obtain ⟨b, L, hX, hM⟩ := h.2.2.2.2.2
  have T := text_rel (xl := xl) (n := n) (n2 := n) h F hs rfl d z hx z.2 s1 rfl
  refine (((T.and (op_150 (n := n) rfl o1.1)).and (PF.sh (n := n) rfl s1)).and (sdM (n := n) (km := 150) (lvm := [(0, .ref 129)]) rfl rfl s1)).imp (fun v2 F2 hh => ?_)
  obtain ⟨⟨⟨⟨t1, t2, t3, nv2, nd2, u1, u2, u3, u4, u5⟩, w2, f2⟩, s2⟩, d2⟩ := hh
  refine ⟨t1, w2, s2, RRel.cx (ι := iv z.2) ⟨nv2, nd2, u1, u2, u3, u4, u5, b, 0, ⟨by omega, by rw [t2]; rfl, fun q => ?_⟩, ⟨by omega, by rw [t3]; rfl, fun q => ?_, hM.2.2.2⟩⟩ d2⟩
  · rw [k3]; exact hX.2.2 q
  · rw [fr_iv f2 (r := 30) (a := 135) (j := q) rfl rfl (by decide) s1 s2]; exact hM.2.2.1 q
theorem c6_196 {x3 : Int32} (hJ : J6 (tRo xl) F) (e : ∀ F2, J6 (tRo xl) F2 → PF (tRo xl) n 0 1253 [(3, .int x3), (2, .ref 129), (1, .ref 0), (0, .ref KB)] [] F2 (fun v _ => v = some (.int 1))) : PF (tRo xl) n 0 196 [(3, .int x3), (2, .ref 129), (1, .ref 0), (0, .ref KB)] [] F (fun v _ => v = some (.int 1)) := by
  refine (l_196 ?_).weak
  intros
  refine PF.imp (L_10 hJ) (fun v1 F1 j1 => ?_)
  intros
  exact PF.imp j1 (fun v2 F2 j2 _ _ => e F2 j2.2)
theorem c6_219 {x3 : Int32} (hJ : J6 (tRo xl) F) (e : ∀ F2, J6 (tRo xl) F2 → PF (tRo xl) n 0 1253 [(3, .int x3), (2, .ref 129), (1, .ref 0), (0, .ref KB)] [] F2 (fun v _ => v = some (.int 1))) : PF (tRo xl) n 0 219 [(3, .int x3), (2, .ref 129), (1, .ref 0), (0, .ref KB)] [] F (fun v _ => v = some (.int 1)) := by
  refine (l_219 ?_).weak
  intros
  refine PF.imp (L_12 hJ) (fun v1 F1 j1 => ?_)
  intros
  exact PF.imp j1 (fun v2 F2 j2 _ _ => e F2 j2.2)
theorem c6_242 {x3 : Int32} (hJ : J6 (tRo xl) F) (e : ∀ F2, J6 (tRo xl) F2 → PF (tRo xl) n 0 1253 [(3, .int x3), (2, .ref 129), (1, .ref 0), (0, .ref KB)] [] F2 (fun v _ => v = some (.int 1))) : PF (tRo xl) n 0 242 [(3, .int x3), (2, .ref 129), (1, .ref 0), (0, .ref KB)] [] F (fun v _ => v = some (.int 1)) := by
  refine (l_242 ?_).weak
  intros
  refine PF.imp (text6 hJ) (fun v1 F1 j1 => ?_)
  intros
  exact PF.imp j1 (fun v2 F2 j2 _ _ => e F2 j2.2)
theorem c6_255 {x3 : Int32} (hJ : J6 (tRo xl) F) (e : ∀ F2, J6 (tRo xl) F2 → PF (tRo xl) n 0 1253 [(3, .int x3), (2, .ref 129), (1, .ref 0), (0, .ref KB)] [] F2 (fun v _ => v = some (.int 1))) : PF (tRo xl) n 0 255 [(3, .int x3), (2, .ref 129), (1, .ref 0), (0, .ref KB)] [] F (fun v _ => v = some (.int 1)) := by
  refine (l_255 ?_).weak
  intros
  refine PF.imp (L_55 hJ) (fun v1 F1 j1 => ?_)
  intros
  exact PF.imp j1 (fun v2 F2 j2 _ _ => e F2 j2.2)
theorem c6_268 {x3 : Int32} (hJ : J6 (tRo xl) F) (e : ∀ F2, J6 (tRo xl) F2 → PF (tRo xl) n 0 1253 [(3, .int x3), (2, .ref 129), (1, .ref 0), (0, .ref KB)] [] F2 (fun v _ => v = some (.int 1))) : PF (tRo xl) n 0 268 [(3, .int x3), (2, .ref 129), (1, .ref 0), (0, .ref KB)] [] F (fun v _ => v = some (.int 1)) := by
  refine (l_268 ?_).weak
  intros
  refine PF.imp (L_56 hJ) (fun v1 F1 j1 => ?_)
  intro r1 e1
  intros
  refine PF.imp j1 (fun v2 F2 j2 => ?_)
  intro r2 e2
  have er : r1 = r2 := by
    have t : v1 = v2 := j2.1
    rw [e1, e2] at t
    cases t; rfl
  exact ⟨fun _ => e F2 j2.2, fun hn => absurd er hn⟩
theorem c6_291 {x3 : Int32} (hJ : J6 (tRo xl) F) (e : ∀ F2, J6 (tRo xl) F2 → PF (tRo xl) n 0 1253 [(3, .int x3), (2, .ref 129), (1, .ref 0), (0, .ref KB)] [] F2 (fun v _ => v = some (.int 1))) : PF (tRo xl) n 0 291 [(3, .int x3), (2, .ref 129), (1, .ref 0), (0, .ref KB)] [] F (fun v _ => v = some (.int 1)) := by
  refine (l_291 ?_).weak
  intros
  refine PF.imp (L_62 hJ) (fun v1 F1 j1 => ?_)
  intros
  exact PF.imp j1 (fun v2 F2 j2 _ _ => e F2 j2.2)
theorem c6_324 {x3 : Int32} (hJ : J6 (tRo xl) F) (e : ∀ F2, J6 (tRo xl) F2 → PF (tRo xl) n 0 1253 [(3, .int x3), (2, .ref 129), (1, .ref 0), (0, .ref KB)] [] F2 (fun v _ => v = some (.int 1))) : PF (tRo xl) n 0 324 [(3, .int x3), (2, .ref 129), (1, .ref 0), (0, .ref KB)] [] F (fun v _ => v = some (.int 1)) := by
  refine (l_324 ?_).weak
  intros
  refine PF.imp (L_64 hJ) (fun v1 F1 j1 => ?_)
  intros
  exact PF.imp j1 (fun v2 F2 j2 _ _ => e F2 j2.2)
theorem c6_357 {x3 : Int32} (hJ : J6 (tRo xl) F) (e : ∀ F2, J6 (tRo xl) F2 → PF (tRo xl) n 0 1253 [(3, .int x3), (2, .ref 129), (1, .ref 0), (0, .ref KB)] [] F2 (fun v _ => v = some (.int 1))) : PF (tRo xl) n 0 357 [(3, .int x3), (2, .ref 129), (1, .ref 0), (0, .ref KB)] [] F (fun v _ => v = some (.int 1)) := by
  refine (l_357 ?_).weak
  intros
  refine PF.imp (L_66 hJ) (fun v1 F1 j1 => ?_)
  intros
  exact PF.imp j1 (fun v2 F2 j2 _ _ => e F2 j2.2)
theorem c6_380 {x3 : Int32} (hJ : J6 (tRo xl) F) (e : ∀ F2, J6 (tRo xl) F2 → PF (tRo xl) n 0 1253 [(3, .int x3), (2, .ref 129), (1, .ref 0), (0, .ref KB)] [] F2 (fun v _ => v = some (.int 1))) : PF (tRo xl) n 0 380 [(3, .int x3), (2, .ref 129), (1, .ref 0), (0, .ref KB)] [] F (fun v _ => v = some (.int 1)) := by
  refine (l_380 ?_).weak
  intros
  refine PF.imp (L_67 hJ) (fun v1 F1 j1 => ?_)
  intros
  exact PF.imp j1 (fun v2 F2 j2 _ _ => e F2 j2.2)
theorem c6_413 {x3 : Int32} (hJ : J6 (tRo xl) F) (e : ∀ F2, J6 (tRo xl) F2 → PF (tRo xl) n 0 1253 [(3, .int x3), (2, .ref 129), (1, .ref 0), (0, .ref KB)] [] F2 (fun v _ => v = some (.int 1))) : PF (tRo xl) n 0 413 [(3, .int x3), (2, .ref 129), (1, .ref 0), (0, .ref KB)] [] F (fun v _ => v = some (.int 1)) := by
  refine (l_413 ?_).weak
  intros
  refine PF.imp (L_69 hJ) (fun v1 F1 j1 => ?_)
  intros
  exact PF.imp j1 (fun v2 F2 j2 _ _ => e F2 j2.2)
theorem c6_446 {x3 : Int32} (hJ : J6 (tRo xl) F) (e : ∀ F2, J6 (tRo xl) F2 → PF (tRo xl) n 0 1253 [(3, .int x3), (2, .ref 129), (1, .ref 0), (0, .ref KB)] [] F2 (fun v _ => v = some (.int 1))) : PF (tRo xl) n 0 446 [(3, .int x3), (2, .ref 129), (1, .ref 0), (0, .ref KB)] [] F (fun v _ => v = some (.int 1)) := by
  refine (l_446 ?_).weak
  intros
  refine PF.imp (L_75 hJ) (fun v1 F1 j1 => ?_)
  intros
  exact PF.imp j1 (fun v2 F2 j2 _ _ => e F2 j2.2)
theorem c6_469 {x3 : Int32} (hJ : J6 (tRo xl) F) (e : ∀ F2, J6 (tRo xl) F2 → PF (tRo xl) n 0 1253 [(3, .int x3), (2, .ref 129), (1, .ref 0), (0, .ref KB)] [] F2 (fun v _ => v = some (.int 1))) : PF (tRo xl) n 0 469 [(3, .int x3), (2, .ref 129), (1, .ref 0), (0, .ref KB)] [] F (fun v _ => v = some (.int 1)) := by
  refine (l_469 ?_).weak
  intros
  refine PF.imp (L_81 hJ) (fun v1 F1 j1 => ?_)
  intros
  exact PF.imp j1 (fun v2 F2 j2 _ _ => e F2 j2.2)
theorem c6_492 {x3 : Int32} (hJ : J6 (tRo xl) F) (e : ∀ F2, J6 (tRo xl) F2 → PF (tRo xl) n 0 1253 [(3, .int x3), (2, .ref 129), (1, .ref 0), (0, .ref KB)] [] F2 (fun v _ => v = some (.int 1))) : PF (tRo xl) n 0 492 [(3, .int x3), (2, .ref 129), (1, .ref 0), (0, .ref KB)] [] F (fun v _ => v = some (.int 1)) := by
  refine (l_492 ?_).weak
  intros
  refine PF.imp (L_82 hJ) (fun v1 F1 j1 => ?_)
  intros
  exact PF.imp j1 (fun v2 F2 j2 _ _ => e F2 j2.2)
theorem c6_535 {x3 : Int32} (hJ : J6 (tRo xl) F) (e : ∀ F2, J6 (tRo xl) F2 → PF (tRo xl) n 0 1253 [(3, .int x3), (2, .ref 129), (1, .ref 0), (0, .ref KB)] [] F2 (fun v _ => v = some (.int 1))) : PF (tRo xl) n 0 535 [(3, .int x3), (2, .ref 129), (1, .ref 0), (0, .ref KB)] [] F (fun v _ => v = some (.int 1)) := by
  refine (l_535 ?_).weak
  intros
  refine ⟨fun c => ?_, fun c => ?_⟩
  · refine PF.imp (L_83 (x3 := 0) (Or.inl rfl) hJ) (fun v1 F1 j1 => ?_)
    intros
    exact ⟨fun _ => PF.imp j1 (fun v2 F2 j2 _ _ => e F2 j2.2), fun c2 => absurd c c2⟩
  · refine PF.imp (L_83 (x3 := 1) (Or.inr rfl) hJ) (fun v1 F1 j1 => ?_)
    intros
    exact ⟨fun c2 => absurd c2 c, fun _ => PF.imp j1 (fun v2 F2 j2 _ _ => e F2 j2.2)⟩
theorem c6_594 {x3 : Int32} (hJ : J6 (tRo xl) F) (e : ∀ F2, J6 (tRo xl) F2 → PF (tRo xl) n 0 1253 [(3, .int x3), (2, .ref 129), (1, .ref 0), (0, .ref KB)] [] F2 (fun v _ => v = some (.int 1))) : PF (tRo xl) n 0 594 [(3, .int x3), (2, .ref 129), (1, .ref 0), (0, .ref KB)] [] F (fun v _ => v = some (.int 1)) := by
  refine (l_594 ?_).weak
  intros
  refine PF.imp (L_84 hJ) (fun v1 F1 j1 => ?_)
  intros
  exact PF.imp j1 (fun v2 F2 j2 _ _ => e F2 j2.2)
theorem c6_617 {x3 : Int32} (hJ : J6 (tRo xl) F) (e : ∀ F2, J6 (tRo xl) F2 → PF (tRo xl) n 0 1253 [(3, .int x3), (2, .ref 129), (1, .ref 0), (0, .ref KB)] [] F2 (fun v _ => v = some (.int 1))) : PF (tRo xl) n 0 617 [(3, .int x3), (2, .ref 129), (1, .ref 0), (0, .ref KB)] [] F (fun v _ => v = some (.int 1)) := by
  refine (l_617 ?_).weak
  intros
  refine PF.imp (L_85 hJ) (fun v1 F1 j1 => ?_)
  intros
  exact PF.imp j1 (fun v2 F2 j2 _ _ => e F2 j2.2)
theorem c6_640 {x3 : Int32} (hJ : J6 (tRo xl) F) (e : ∀ F2, J6 (tRo xl) F2 → PF (tRo xl) n 0 1253 [(3, .int x3), (2, .ref 129), (1, .ref 0), (0, .ref KB)] [] F2 (fun v _ => v = some (.int 1))) : PF (tRo xl) n 0 640 [(3, .int x3), (2, .ref 129), (1, .ref 0), (0, .ref KB)] [] F (fun v _ => v = some (.int 1)) := by
  refine (l_640 ?_).weak
  intros
  refine PF.imp (L_86 hJ) (fun v1 F1 j1 => ?_)
  intros
  exact PF.imp j1 (fun v2 F2 j2 _ _ => e F2 j2)
theorem c6_663 {x3 : Int32} (hJ : J6 (tRo xl) F) (e : ∀ F2, J6 (tRo xl) F2 → PF (tRo xl) n 0 1253 [(3, .int x3), (2, .ref 129), (1, .ref 0), (0, .ref KB)] [] F2 (fun v _ => v = some (.int 1))) : PF (tRo xl) n 0 663 [(3, .int x3), (2, .ref 129), (1, .ref 0), (0, .ref KB)] [] F (fun v _ => v = some (.int 1)) := by
  refine (l_663 ?_).weak
  intros
  refine PF.imp (L_93 hJ) (fun v1 F1 j1 => ?_)
  intros
  exact PF.imp j1 (fun v2 F2 j2 _ _ => e F2 j2)
theorem c6_686 {x3 : Int32} (hJ : J6 (tRo xl) F) (e : ∀ F2, J6 (tRo xl) F2 → PF (tRo xl) n 0 1253 [(3, .int x3), (2, .ref 129), (1, .ref 0), (0, .ref KB)] [] F2 (fun v _ => v = some (.int 1))) : PF (tRo xl) n 0 686 [(3, .int x3), (2, .ref 129), (1, .ref 0), (0, .ref KB)] [] F (fun v _ => v = some (.int 1)) := by
  refine (l_686 ?_).weak
  intros
  refine PF.imp (L_94 hJ) (fun v1 F1 j1 => ?_)
  intros
  exact PF.imp j1 (fun v2 F2 j2 _ _ => e F2 j2)
theorem c6_709 {x3 : Int32} (hJ : J6 (tRo xl) F) (e : ∀ F2, J6 (tRo xl) F2 → PF (tRo xl) n 0 1253 [(3, .int x3), (2, .ref 129), (1, .ref 0), (0, .ref KB)] [] F2 (fun v _ => v = some (.int 1))) : PF (tRo xl) n 0 709 [(3, .int x3), (2, .ref 129), (1, .ref 0), (0, .ref KB)] [] F (fun v _ => v = some (.int 1)) := by
  refine (l_709 ?_).weak
  intros
  refine PF.imp (L_95 hJ) (fun v1 F1 j1 => ?_)
  intros
  exact PF.imp j1 (fun v2 F2 j2 _ _ => e F2 j2)
theorem c6_742 {x3 : Int32} (hJ : J6 (tRo xl) F) (e : ∀ F2, J6 (tRo xl) F2 → PF (tRo xl) n 0 1253 [(3, .int x3), (2, .ref 129), (1, .ref 0), (0, .ref KB)] [] F2 (fun v _ => v = some (.int 1))) : PF (tRo xl) n 0 742 [(3, .int x3), (2, .ref 129), (1, .ref 0), (0, .ref KB)] [] F (fun v _ => v = some (.int 1)) := by
  refine (l_742 ?_).weak
  intros
  refine PF.imp (L_107 hJ) (fun v1 F1 j1 => ?_)
  intros
  exact PF.imp j1 (fun v2 F2 j2 _ _ => e F2 j2)
theorem c6_765 {x3 : Int32} (hJ : J6 (tRo xl) F) (e : ∀ F2, J6 (tRo xl) F2 → PF (tRo xl) n 0 1253 [(3, .int x3), (2, .ref 129), (1, .ref 0), (0, .ref KB)] [] F2 (fun v _ => v = some (.int 1))) : PF (tRo xl) n 0 765 [(3, .int x3), (2, .ref 129), (1, .ref 0), (0, .ref KB)] [] F (fun v _ => v = some (.int 1)) := by
  refine (l_765 ?_).weak
  intros
  refine PF.imp (L_109 hJ) (fun v1 F1 j1 => ?_)
  intros
  exact PF.imp j1 (fun v2 F2 j2 _ _ => e F2 j2.2)
theorem c6_788 {x3 : Int32} (hJ : J6 (tRo xl) F) (e : ∀ F2, J6 (tRo xl) F2 → PF (tRo xl) n 0 1253 [(3, .int x3), (2, .ref 129), (1, .ref 0), (0, .ref KB)] [] F2 (fun v _ => v = some (.int 1))) : PF (tRo xl) n 0 788 [(3, .int x3), (2, .ref 129), (1, .ref 0), (0, .ref KB)] [] F (fun v _ => v = some (.int 1)) := by
  refine (l_788 ?_).weak
  intros
  refine PF.imp (L_111 hJ) (fun v1 F1 j1 => ?_)
  intros
  exact PF.imp j1 (fun v2 F2 j2 _ _ => e F2 j2.2)
theorem c6_831 {x3 : Int32} (hJ : J6 (tRo xl) F) (e : ∀ F2, J6 (tRo xl) F2 → PF (tRo xl) n 0 1253 [(3, .int x3), (2, .ref 129), (1, .ref 0), (0, .ref KB)] [] F2 (fun v _ => v = some (.int 1))) : PF (tRo xl) n 0 831 [(3, .int x3), (2, .ref 129), (1, .ref 0), (0, .ref KB)] [] F (fun v _ => v = some (.int 1)) := by
  refine (l_831 ?_).weak
  intros
  refine PF.imp (L_113 hJ) (fun v1 F1 j1 => ?_)
  intros
  exact PF.imp j1 (fun v2 F2 j2 _ _ => e F2 j2.2)
theorem c6_854 {x3 : Int32} (hJ : J6 (tRo xl) F) (e : ∀ F2, J6 (tRo xl) F2 → PF (tRo xl) n 0 1253 [(3, .int x3), (2, .ref 129), (1, .ref 0), (0, .ref KB)] [] F2 (fun v _ => v = some (.int 1))) : PF (tRo xl) n 0 854 [(3, .int x3), (2, .ref 129), (1, .ref 0), (0, .ref KB)] [] F (fun v _ => v = some (.int 1)) := by
  refine (l_854 ?_).weak
  intros
  refine PF.imp (L_114 hJ) (fun v1 F1 j1 => ?_)
  intros
  exact PF.imp j1 (fun v2 F2 j2 _ _ => e F2 j2)
theorem c6_877 {x3 : Int32} (hJ : J6 (tRo xl) F) (e : ∀ F2, J6 (tRo xl) F2 → PF (tRo xl) n 0 1253 [(3, .int x3), (2, .ref 129), (1, .ref 0), (0, .ref KB)] [] F2 (fun v _ => v = some (.int 1))) : PF (tRo xl) n 0 877 [(3, .int x3), (2, .ref 129), (1, .ref 0), (0, .ref KB)] [] F (fun v _ => v = some (.int 1)) := by
  refine (l_877 ?_).weak
  intros
  refine PF.imp (L_117 hJ) (fun v1 F1 j1 => ?_)
  intros
  exact PF.imp j1 (fun v2 F2 j2 _ _ => e F2 j2)
theorem c6_890 {x3 : Int32} (hJ : J6 (tRo xl) F) (e : ∀ F2, J6 (tRo xl) F2 → PF (tRo xl) n 0 1253 [(3, .int x3), (2, .ref 129), (1, .ref 0), (0, .ref KB)] [] F2 (fun v _ => v = some (.int 1))) : PF (tRo xl) n 0 890 [(3, .int x3), (2, .ref 129), (1, .ref 0), (0, .ref KB)] [] F (fun v _ => v = some (.int 1)) := by
  refine (l_890 ?_).weak
  intros
  refine PF.imp (L_118 hJ) (fun v1 F1 j1 => ?_)
  intros
  exact PF.imp j1 (fun v2 F2 j2 _ _ => e F2 j2)
theorem c6_913 {x3 : Int32} (hJ : J6 (tRo xl) F) (e : ∀ F2, J6 (tRo xl) F2 → PF (tRo xl) n 0 1253 [(3, .int x3), (2, .ref 129), (1, .ref 0), (0, .ref KB)] [] F2 (fun v _ => v = some (.int 1))) : PF (tRo xl) n 0 913 [(3, .int x3), (2, .ref 129), (1, .ref 0), (0, .ref KB)] [] F (fun v _ => v = some (.int 1)) := by
  refine (l_913 ?_).weak
  intros
  refine PF.imp (L_121 hJ) (fun v1 F1 j1 => ?_)
  intros
  exact PF.imp j1 (fun v2 F2 j2 _ _ => e F2 j2)
theorem c6_956 {x3 : Int32} (hJ : J6 (tRo xl) F) (e : ∀ F2, J6 (tRo xl) F2 → PF (tRo xl) n 0 1253 [(3, .int x3), (2, .ref 129), (1, .ref 0), (0, .ref KB)] [] F2 (fun v _ => v = some (.int 1))) : PF (tRo xl) n 0 956 [(3, .int x3), (2, .ref 129), (1, .ref 0), (0, .ref KB)] [] F (fun v _ => v = some (.int 1)) := by
  refine (l_956 ?_).weak
  intros
  refine PF.imp (L_127 hJ) (fun v1 F1 j1 => ?_)
  intros
  exact PF.imp j1 (fun v2 F2 j2 _ _ => e F2 j2)
theorem c6_989 {x3 : Int32} (hJ : J6 (tRo xl) F) (e : ∀ F2, J6 (tRo xl) F2 → PF (tRo xl) n 0 1253 [(3, .int x3), (2, .ref 129), (1, .ref 0), (0, .ref KB)] [] F2 (fun v _ => v = some (.int 1))) : PF (tRo xl) n 0 989 [(3, .int x3), (2, .ref 129), (1, .ref 0), (0, .ref KB)] [] F (fun v _ => v = some (.int 1)) := by
  refine (l_989 ?_).weak
  intros
  refine PF.imp (L_128 hJ) (fun v1 F1 j1 => ?_)
  intros
  exact PF.imp j1 (fun v2 F2 j2 _ _ => e F2 j2)
theorem c6_1032 {x3 : Int32} (hJ : J6 (tRo xl) F) (e : ∀ F2, J6 (tRo xl) F2 → PF (tRo xl) n 0 1253 [(3, .int x3), (2, .ref 129), (1, .ref 0), (0, .ref KB)] [] F2 (fun v _ => v = some (.int 1))) : PF (tRo xl) n 0 1032 [(3, .int x3), (2, .ref 129), (1, .ref 0), (0, .ref KB)] [] F (fun v _ => v = some (.int 1)) := by
  refine (l_1032 ?_).weak
  intros
  refine PF.imp (L_130 hJ) (fun v1 F1 j1 => ?_)
  intros
  exact PF.imp j1 (fun v2 F2 j2 _ _ => e F2 j2.2)
theorem c6_1055 {x3 : Int32} (hJ : J6 (tRo xl) F) (e : ∀ F2, J6 (tRo xl) F2 → PF (tRo xl) n 0 1253 [(3, .int x3), (2, .ref 129), (1, .ref 0), (0, .ref KB)] [] F2 (fun v _ => v = some (.int 1))) : PF (tRo xl) n 0 1055 [(3, .int x3), (2, .ref 129), (1, .ref 0), (0, .ref KB)] [] F (fun v _ => v = some (.int 1)) := by
  refine (l_1055 ?_).weak
  intros
  refine PF.imp (L_131 hJ) (fun v1 F1 j1 => ?_)
  intros
  exact PF.imp j1 (fun v2 F2 j2 _ _ => e F2 j2.2)
theorem c6_1078 {x3 : Int32} (hJ : J6 (tRo xl) F) (e : ∀ F2, J6 (tRo xl) F2 → PF (tRo xl) n 0 1253 [(3, .int x3), (2, .ref 129), (1, .ref 0), (0, .ref KB)] [] F2 (fun v _ => v = some (.int 1))) : PF (tRo xl) n 0 1078 [(3, .int x3), (2, .ref 129), (1, .ref 0), (0, .ref KB)] [] F (fun v _ => v = some (.int 1)) := by
  refine (l_1078 ?_).weak
  intros
  refine PF.imp (L_132 hJ) (fun v1 F1 j1 => ?_)
  intros
  exact PF.imp j1 (fun v2 F2 j2 _ _ => e F2 j2.2)
theorem c6_1121 {x3 : Int32} (hJ : J6 (tRo xl) F) (e : ∀ F2, J6 (tRo xl) F2 → PF (tRo xl) n 0 1253 [(3, .int x3), (2, .ref 129), (1, .ref 0), (0, .ref KB)] [] F2 (fun v _ => v = some (.int 1))) : PF (tRo xl) n 0 1121 [(3, .int x3), (2, .ref 129), (1, .ref 0), (0, .ref KB)] [] F (fun v _ => v = some (.int 1)) := by
  refine (l_1121 ?_).weak
  intros
  refine PF.imp (L_136 hJ) (fun v1 F1 j1 => ?_)
  intros
  exact PF.imp j1 (fun v2 F2 j2 _ _ => e F2 j2.2)
theorem c6_1164 {x3 : Int32} (hJ : J6 (tRo xl) F) (e : ∀ F2, J6 (tRo xl) F2 → PF (tRo xl) n 0 1253 [(3, .int x3), (2, .ref 129), (1, .ref 0), (0, .ref KB)] [] F2 (fun v _ => v = some (.int 1))) : PF (tRo xl) n 0 1164 [(3, .int x3), (2, .ref 129), (1, .ref 0), (0, .ref KB)] [] F (fun v _ => v = some (.int 1)) := by
  refine (l_1164 ?_).weak
  intros
  refine PF.imp (L_139 hJ) (fun v1 F1 j1 => ?_)
  intros
  exact PF.imp j1 (fun v2 F2 j2 _ _ => e F2 j2.2)
theorem c6_1217 {x3 : Int32} (hJ : J6 (tRo xl) F) (e : ∀ F2, J6 (tRo xl) F2 → PF (tRo xl) n 0 1253 [(3, .int x3), (2, .ref 129), (1, .ref 0), (0, .ref KB)] [] F2 (fun v _ => v = some (.int 1))) : PF (tRo xl) n 0 1217 [(3, .int x3), (2, .ref 129), (1, .ref 0), (0, .ref KB)] [] F (fun v _ => v = some (.int 1)) := by
  refine (l_1217 ?_).weak
  intros
  refine PF.imp (L_142 hJ) (fun v1 F1 j1 => ?_)
  intros
  exact PF.imp j1 (fun v2 F2 j2 _ _ => e F2 j2.2)
theorem c6_1230 {x3 : Int32} (hJ : J6 (tRo xl) F) (e : ∀ F2, J6 (tRo xl) F2 → PF (tRo xl) n 0 1253 [(3, .int x3), (2, .ref 129), (1, .ref 0), (0, .ref KB)] [] F2 (fun v _ => v = some (.int 1))) : PF (tRo xl) n 0 1230 [(3, .int x3), (2, .ref 129), (1, .ref 0), (0, .ref KB)] [] F (fun v _ => v = some (.int 1)) := by
  refine (l_1230 ?_).weak
  intros
  refine PF.imp (L_143 hJ) (fun v1 F1 j1 => ?_)
  intros
  exact PF.imp j1 (fun v2 F2 j2 _ _ => e F2 j2.2)
theorem law_PF6 : ∀ (n : Nat) (F : MH) (x3 : Int32), J6 (tRo xl) F → PF (tRo xl) n 0 18 [(3, .int x3), (2, .ref 129), (1, .ref 0), (0, .ref KB)] [] F (fun v _ => v = some (.int 1)) := by
  intro n
  induction n with
  | zero => intro F x3 _; exact PF.zero
  | succ n ih =>
    intro F x3 hJ
    have e : ∀ F2, J6 (tRo xl) F2 → PF (tRo xl) n 0 1253 [(3, .int x3), (2, .ref 129), (1, .ref 0), (0, .ref KB)] [] F2 (fun v _ => v = some (.int 1)) := fun F2 h2 => (l_1253 (ih F2 _ h2)).weak
    exact l_18 ⟨fun _ => rfl, fun _ _ _ => ⟨fun _ => c6_196 hJ (fun F2 h2 => e F2 h2), fun _ => c6_219 hJ (fun F2 h2 => e F2 h2), fun _ => c6_242 hJ (fun F2 h2 => e F2 h2), fun _ => c6_255 hJ (fun F2 h2 => e F2 h2), fun _ => c6_268 hJ (fun F2 h2 => e F2 h2), fun _ => c6_291 hJ (fun F2 h2 => e F2 h2), fun _ => c6_324 hJ (fun F2 h2 => e F2 h2), fun _ => c6_357 hJ (fun F2 h2 => e F2 h2), fun _ => c6_380 hJ (fun F2 h2 => e F2 h2), fun _ => c6_413 hJ (fun F2 h2 => e F2 h2), fun _ => c6_446 hJ (fun F2 h2 => e F2 h2), fun _ => c6_469 hJ (fun F2 h2 => e F2 h2), fun _ => c6_492 hJ (fun F2 h2 => e F2 h2), fun _ => c6_535 hJ (fun F2 h2 => e F2 h2), fun _ => c6_594 hJ (fun F2 h2 => e F2 h2), fun _ => c6_617 hJ (fun F2 h2 => e F2 h2), fun _ => c6_640 hJ (fun F2 h2 => e F2 h2), fun _ => c6_663 hJ (fun F2 h2 => e F2 h2), fun _ => c6_686 hJ (fun F2 h2 => e F2 h2), fun _ => c6_709 hJ (fun F2 h2 => e F2 h2), fun _ => c6_742 hJ (fun F2 h2 => e F2 h2), fun _ => c6_765 hJ (fun F2 h2 => e F2 h2), fun _ => c6_788 hJ (fun F2 h2 => e F2 h2), fun _ => c6_831 hJ (fun F2 h2 => e F2 h2), fun _ => c6_854 hJ (fun F2 h2 => e F2 h2), fun _ => c6_877 hJ (fun F2 h2 => e F2 h2), fun _ => c6_890 hJ (fun F2 h2 => e F2 h2), fun _ => c6_913 hJ (fun F2 h2 => e F2 h2), fun _ => c6_956 hJ (fun F2 h2 => e F2 h2), fun _ => c6_989 hJ (fun F2 h2 => e F2 h2), fun _ => c6_1032 hJ (fun F2 h2 => e F2 h2), fun _ => c6_1055 hJ (fun F2 h2 => e F2 h2), fun _ => c6_1078 hJ (fun F2 h2 => e F2 h2), fun _ => c6_1121 hJ (fun F2 h2 => e F2 h2), fun _ => c6_1164 hJ (fun F2 h2 => e F2 h2), fun _ => c6_1217 hJ (fun F2 h2 => e F2 h2), fun _ => c6_1230 hJ (fun F2 h2 => e F2 h2), fun _ => e F hJ⟩⟩
end Calls
