section
/-! CALLS, X: runs, ahead, clears -/
noncomputable def mkF (f : Nat → Int32) (nv : Nat) : Int32 := oF (fun v => (if f (4 * v + 3) = 0 then 0 else 1) <<< (Int32.ofNat v &&& 31)) nv
/-- how many ACTS there are in THE PLAN; what it leaves -/
abbrev cnF (f : Nat → Int32) : Nat := (f 52).toInt.toNat
abbrev plF (f : Nat → Int32) : Nat → Int32 := fun i => f (53 + i)
noncomputable def runR (nv nd : Nat) (f : Nat → Int32) (x : Int32) : Int32 := if 0 ≤ x.toInt ∧ x.toInt ≤ 4 then (if x.toInt = 0 then tk nd (-4) 0 (plF f) 0 f (cnF f) else if x.toInt = 1 then wrF (sq nd (-4) 0 (plF f) 0 f (cnF f)) nd else if x.toInt = 2 then fl1 nd (-4) 0 (plF f) 0 f (cnF f) else if x.toInt = 3 then alF (sq nd (-4) 0 (plF f) 0 f (cnF f)) nd else mkF (sq nd (-4) 0 (plF f) 0 f (cnF f)) nv) else -1
noncomputable def ahR (nd : Nat) (f : Nat → Int32) (x : Int32) : Int32 := if okD nd x then shF (sq nd (-4) 0 (plF f) 0 f (cnF f)) x.toInt.toNat else -1
noncomputable def clF (f : Nat → Int32) (d v : Nat) : Int32 := if koF f v d = 0 then (if wrB (viF (-4) 0 f v d) d = 0 then 1 else 0) else 0
noncomputable def clO (f : Nat → Int32) (d nv : Nat) : Int32 := oF (fun v => clF f d v <<< (Int32.ofNat v &&& 31)) nv
noncomputable def clR (nv nd : Nat) (f : Nat → Int32) (x : Int32) : Int32 := if okD nd x then clO f x.toInt.toNat nv else -1
section Runs
variable {xl : List Int32} {n : Nat} {ι ι0 ι1 κ κ0 κ1 : IS} {Q : Option Value → IS → Prop} {x1 x2 x3 x : Int32} {u v d nd nv m s : Nat} {f g : Nat → Int32} {r : Int32}
theorem no4 {P : Prop} : (0 : Int) ≤ -4 → P := fun g => absurd g (by decide)
theorem HX.tr (h : HX nv nd f ι) (hs : Sm 86 100 ι ι1) : XR nv nd f r ι (some (.int r)) ι1 := ⟨rfl, CG.of hs (by omega), by rw [hs 25 4 (by omega)]; exact h.2.1, h.1.keep (fun a j g1 g2 => hs a j (by omega))⟩
theorem HX.va (h : HX nv nd f ι) : ∀ i, i < cnF f → VA nv nd (plF f (0 + i)) := fun i hi => (h.1.2.1.2.2 (0 + i) (by have hcn : cnF f = (f 52).toInt.toNat := rfl; omega)).2
theorem HX.keep (h : HX nv nd f ι) (hs : Sm 86 100 ι ι1) : HX nv nd f ι1 := ⟨h.1.keep (fun a j g1 g2 => hs a j (by omega)), by rw [hs 25 4 (by omega)]; exact h.2.1, h.2.2⟩
/-- the trial becomes the town -/
theorem bcT_spec (h : HX nv nd f ι) (hq : ∀ ι', Sm 86 100 ι ι' → HX nv nd f ι' → TW 86 nv nd f ι' → ι' 86 4 = -4 → Q none ι') : PC xl n 52 0 [(0, .ref 86), (1, .ref 25)] [] ι Q :=
  twnB_spec (by decide) (by decide) (by omega) h.2.2.hb h.tw (fun ι1 s1 t1 b1 => hq ι1 s1 (h.keep s1) t1 b1)
theorem rehX_spec (h : HX nv nd f ι) (hq : ∀ ι', Sm 86 100 ι ι' → TW 86 nv nd (sq nd (-4) 0 (plF f) 0 f (cnF f)) ι' → Q (some (.int (fl1 nd (-4) 0 (plF f) 0 f (cnF f)))) ι') : PC xl n 87 0 [(0, .ref 0)] [] ι Q := by
  have b8 := h.1.2.1.2.1
  have hcn : cnF f = (f 52).toInt.toNat := rfl
  refine (t_87_0 ?_).weak
  rw [rf_0_5, rf_0_2', rf_0_2]
  refine bcT_spec h (fun ι1 s1 h1 t1 b1 => ?_)
  rw [h1.1.2.1.1]
  refine actX_spec (e := cnF f) (s := 0) (bo := -4) (lw := 0) h1.1.2.1 t1 h.2.2 ⟨by rw [b1]; rfl, no4⟩ no4 rfl (by omega) (Nat.zero_le _) (by omega) (fun ι2 s2 j2 t2 => ?_)
  intro r e; cases e
  exact hq ι2 (s1.trans s2) t2
theorem mkXL (hu : isTown u) (hT : TW u nv nd f ι) (h : Q (some (.int (mkF f nv))) ι) : ∀ (n v : Nat) (x2 : Int32), x2.toInt = v → v ≤ nv → PC xl n 92 4 [(0, .ref u), (1, .int (mkF f v)), (2, .int x2)] [] ι Q
  | 0, _, _, _, _ => PC.zero
  | n + 1, v, x2, hx, hv => by
    have h4 := hT.1.1
    have hlt : x2 < ι u 2 ↔ v < nv := by rw [i_lt, hx, hT.1.2]; omega
    refine t_92_4 ⟨fun c => ?_, fun c _ _ => ?_⟩
    · have : v = nv := by
        have := mt hlt.mpr c; omega
      subst this; exact h
    · have hvl := hlt.mp c
      rw [i_ixn hx, town_v hu (v := v) (by omega), (hT.2.2.1 v hvl).2.2.2]
      have go := mkXL hu hT h n (v + 1) (x2 + 1) (i_s hx (by omega)) hvl
      have e1 : mkF f (v + 1) = mkF f v ||| ((if f (4 * v + 3) = 0 then 0 else 1) <<< (Int32.ofNat v &&& 31)) := rfl
      refine ⟨fun c2 => ?_, fun c2 => ?_⟩
      · rw [e1, if_pos c2, z_shl] at go; exact go
      · rw [e1, if_neg c2, ← i_on hx] at go; exact go
theorem mkX_spec (hu : isTown u) (hT : TW u nv nd f ι) (h : Q (some (.int (mkF f nv))) ι) : PC xl n 92 0 [(0, .ref u)] [] ι Q := (t_92_0 (mkXL hu hT h n 0 0 rfl (Nat.zero_le _))).weak
theorem takX_spec (h : HX nv nd f ι) (hT : TW 86 nv nd g ι) (hq : Q (some (.int (ptF f nv - ptF g nv))) ι) : PC xl n 91 0 [(0, .ref 0)] [] ι Q := by
  refine (t_91_0 ?_).weak
  rw [rf_0_5, rf_0_2']
  refine ptX_spec (by decide) h.tw ?_
  intro r e; cases e
  refine ptX_spec (by decide) hT ?_
  intro r e; cases e
  exact hq
theorem runsX (h : HX nv nd f ι) : PC xl n 86 0 [(0, .ref 0), (1, .int x1)] [] ι (XR nv nd f (runR nv nd f x1) ι) := by
  have h4 := h.tw.1.1
  have h5 := h.tw.2.1.1
  unfold runR
  refine (t_86_0 ⟨fun c => ?_, fun c => ⟨fun c2 => rehX_spec h (fun ι1 s1 t1 => ?_), fun c2 => ?_⟩⟩).weak
  · rw [i_lt, n0] at c
    rw [if_neg (by omega)]; exact h.same
  · rw [i_lt, n0] at c
    rw [i_lt, n4] at c2
    have hw := WF.sqK (p := plF f) (s := 0) (bo := -4) (lw := 0) h.2.2 h4 h5 no4 (cnF f) h.va
    intro r e; cases e
    rw [rf_0_5, if_pos (by omega)]
    refine ⟨fun z => ?_, fun z => ?_, fun z => ?_, fun z => ?_, fun z => ?_⟩
    · rw [if_pos z]
      refine takX_spec (h.keep s1) t1 ?_
      intro r e; cases e
      rw [sq_pt h.2.2 h4 h5 no4 (cnF f) h.va]; exact h.tr s1
    · rw [if_neg (by omega), if_pos z]
      refine wrX_spec (by decide) hw t1 ?_
      intro r e; cases e; exact h.tr s1
    · rw [if_neg (by omega), if_neg (by omega), if_pos z]; exact h.tr s1
    · rw [if_neg (by omega), if_neg (by omega), if_neg (by omega), if_pos z]
      refine alX_spec (by decide) t1 ?_
      intro r e; cases e; exact h.tr s1
    · rw [if_neg (by omega), if_neg (by omega), if_neg (by omega), if_neg (by omega)]
      refine mkX_spec (by decide) t1 ?_
      intro r e; cases e; exact h.tr s1
  · rw [i_lt, n4] at c2
    rw [if_neg (by omega)]; exact h.same
theorem aheadX (h : HX nv nd f ι) : PC xl n 93 0 [(0, .ref 0), (1, .int x1)] [] ι (XR nv nd f (ahR nd f x1) ι) := by
  have h4 := h.tw.1.1
  have h5 := h.tw.2.1.1
  unfold ahR
  refine (t_93_0 ?_).weak
  rw [rf_0_2', rf_0_5]
  refine hasDr_spec h.tw.2.1.2 (fun c => ?_) (fun d hd hdl r hr => ?_)
  · intro r e; cases e
    rw [if_neg c]
    exact ⟨fun q => absurd rfl q, fun _ => h.same⟩
  · intro r2 e; cases e
    refine ⟨fun _ => rehX_spec h (fun ι1 s1 t1 => ?_), fun q => absurd q hr⟩
    have hw := WF.sqK (p := plF f) (s := 0) (bo := -4) (lw := 0) h.2.2 h4 h5 no4 (cnF f) h.va
    obtain ⟨tr1, tr2⟩ := town_d (u := 86) (by decide) (d := d) (by omega)
    intro r e _ _; cases e
    rw [i_ixn hd, tr1, if_pos (by unfold okD; omega), show x1.toInt.toNat = d by omega]
    refine shX_spec tr2 (t1.2.2.2 d hdl) (hw.1 d (by omega)).1 ?_
    intro r e; cases e; exact h.tr s1
theorem clXL (hd : x1.toInt = d) (hdl : d < nd) (h : HX nv nd f ι0) (hq : ∀ ι', Sm 86 100 ι0 ι' → Q (some (.int (clO f d nv))) ι') : ∀ (n v : Nat) (ι : IS) (x3 : Int32), x3.toInt = v → v ≤ nv → Sm 86 100 ι0 ι → PC xl n 94 20 [(0, .ref 0), (1, .int x1), (2, .int (clO f d v)), (3, .int x3)] [] ι Q
  | 0, _, _, _, _, _, _ => PC.zero
  | n + 1, v, ι, x3, hx, hv, hs => by
    have h4 := h.tw.1.1
    have h5 := h.tw.2.1.1
    have h1 := h.keep hs
    have hlt : x3 < ι 25 2 ↔ v < nv := by rw [i_lt, hx, h1.tw.1.2]; omega
    refine t_94_20 ?_
    rw [rf_0_5, rf_0_2']
    refine ⟨fun c => ?_, fun c => bcT_spec h1 (fun ι1 s1 h2 t1 b1 => ?_)⟩
    · have : v = nv := by
        have := mt hlt.mpr c; omega
      subst this; exact hq ι hs
    have hvl := hlt.mp c
    have e1 : clO f d (v + 1) = clO f d v ||| (clF f d v <<< (Int32.ofNat v &&& 31)) := rfl
    have go := fun ι2 (s2 : Sm 86 100 ι0 ι2) => clXL hd hdl h hq n (v + 1) ι2 (x3 + 1) (i_s hx (by omega)) hvl s2
    refine rcX_spec (bo := -4) (lw := 0) (by decide) t1 h.2.2 ⟨by rw [b1]; rfl, no4⟩ (fun c => ?_) (fun v' d' hv' hvl' hd' hdl' hk => ?_) (fun v' d' hv' hvl' hd' hdl' hk ι2 s2 j2 t2 => ?_) no4
    · rw [hx, hd] at c; omega
    · obtain rfl : v' = v := by omega
      obtain rfl : d' = d := by omega
      intro r e; cases e
      refine isRef_spec (fun r hr => ?_)
      intro r2 e; cases e
      refine ⟨fun _ => ?_, fun z => absurd (ko_ref hk) (hr.mp z)⟩
      have := go ι1 (hs.trans s1)
      rw [e1, clF, if_neg hk, z_shl, z_or] at this; exact this
    · obtain rfl : v' = v := by omega
      obtain rfl : d' = d := by omega
      have hw2 := h.2.2.vi (bo := -4) (lw := 0) (v := v') (d := d') (by omega) (by omega) hk no4
      obtain ⟨tr1, tr2⟩ := town_d (u := 86) (by decide) (d := d') (by omega)
      have g2 := go ι2 ((hs.trans s1).trans s2)
      intro r e; cases e
      refine isRef_spec (fun r hr => ?_)
      intro r2 e; cases e
      refine ⟨fun z => absurd (hr.mpr (sh_nref (hw2.1 d' (by omega)))) z, fun _ _ _ => ?_⟩
      rw [i_ixn hd, tr1]
      refine isWX_spec tr2 (t2.2.2.2 d' hdl') (hw2.1 d' (by omega)) ?_
      intro r e; cases e
      refine ⟨fun c3 => ?_, fun c3 => ?_⟩
      · rw [e1, clF, if_pos hk, if_neg c3, z_shl, z_or] at g2; exact g2
      · rw [e1, clF, if_pos hk, if_pos c3, ← i_on hx] at g2; exact g2
theorem clearsX (h : HX nv nd f ι) : PC xl n 94 0 [(0, .ref 0), (1, .int x1)] [] ι (XR nv nd f (clR nv nd f x1) ι) := by
  unfold clR
  refine (t_94_0 ?_).weak
  rw [rf_0_2']
  refine hasDr_spec h.tw.2.1.2 (fun c => ?_) (fun d hd hdl r hr => ?_)
  · intro r e; cases e
    rw [if_neg c]
    exact ⟨fun q => absurd rfl q, fun _ => h.same⟩
  · intro r2 e; cases e
    rw [if_pos (by unfold okD; omega), show x1.toInt.toNat = d by omega]
    exact ⟨fun _ => clXL hd hdl h (fun ι' s1 => h.tr s1) n 0 ι 0 rfl (Nat.zero_le _) Sm.rfl, fun q => absurd q hr⟩
/-- by the model -/
theorem HM.va (hp : ∀ i : Nat, (i : Int) < (rO 0 (κ 130) 52).toInt → VA nv nd (rO 0 (κ 130) (53 + i))) : ∀ i, i < cnF (rO 0 (κ 130)) → VA nv nd (plF (rO 0 (κ 130)) (0 + i)) := fun i hi => hp (0 + i) (by have hcn : cnF (rO 0 (κ 130)) = (rO 0 (κ 130) 52).toInt.toNat := rfl; omega)
/-- THE PLAN's ACTS are of VISITORS and DOORS that there are -/
noncomputable def HV (nv nd : Nat) (κ : IS) : Prop := ∀ i : Nat, (i : Int) < (rO 0 (κ 130) 52).toInt → VA nv nd (rO 0 (κ 130) (53 + i))
theorem RN.hv (h : RN nv nd ι κ) : HV nv nd κ := fun i hi => (h.2.2.1.1.2.1.2.2 i hi).2
theorem st53 {m : Nat} {x : Int32} (hx : x.toInt = m) (hm : m < 27) : κ 130 (53 + x).toNatClampNeg = rO 0 (κ 130) (53 + m) := by
  rw [i_ixn (p := 53 + m) (by rw [i_add (by rw [n53, hx]; omega), n53, hx]; omega), r_st (by omega)]
theorem pgL {bo : Int} {lw : Nat} (hM : HM nv nd κ0) (hp : HP κ0) (hv : HV nv nd κ0) (hl : 0 ≤ bo → lw < 4) (hw : WF g) (hq : ∀ κ', AF κ0 κ' → κ' 131 = sq nd bo lw (plF (rO 0 (κ0 130))) 0 g (cnF (rO 0 (κ0 130))) → κ' 129 22 = tk nd bo lw (plF (rO 0 (κ0 130))) 0 g (cnF (rO 0 (κ0 130))) → Q none κ') : ∀ (n m : Nat) (κ : IS) (x1 : Int32), x1.toInt = m → m ≤ cnF (rO 0 (κ0 130)) → AF κ0 κ → BM2 bo lw κ → κ 131 = sq nd bo lw (plF (rO 0 (κ0 130))) 0 g m → κ 129 22 = tk nd bo lw (plF (rO 0 (κ0 130))) 0 g m → PC xl n 205 7 [(0, .ref 129), (1, .int x1)] [] κ Q
  | 0, _, _, _, _, _, _, _, _, _ => PC.zero
  | n + 1, m, κ, x1, hx, hm, ha, hB, hk, ht => by
    have h4 := hM.1.1
    have h5 := hM.2.1.1
    have b8 := hp.1
    have hcn : cnF (rO 0 (κ0 130)) = (rO 0 (κ0 130) 52).toInt.toNat := rfl
    have r130 : κ 130 = κ0 130 := ha.1 130 (by omega) (by omega)
    have va := HM.va hv
    refine t_205_7 ?_
    rw [rf_129_0, c52, r130, ← r_st (h := κ0 130) (show 52 < 80 by omega)]
    refine fun _ _ => ⟨fun c => ?_, fun c _ _ => ?_⟩
    · rw [i_lt, hx] at c
      have : m = cnF (rO 0 (κ0 130)) := by omega
      subst this
      exact hq κ ha hk ht
    · rw [i_lt, hx] at c
      rw [st53 (κ := κ0) hx (by omega)]
      have hwm := WF.sqK (p := plF (rO 0 (κ0 130))) (s := 0) hw h4 h5 hl m (fun i hi => va i (by omega))
      have vm := va m (by omega)
      rw [Nat.zero_add] at vm
      refine actM_spec (bo := bo) (lw := lw) (by rw [hk]; exact hwm) (by rw [ha.2 4 (by omega) (by omega)]; exact hM.2.1.2) h4 h5 vm hB (fun κ1 k1 k2 k3 k4 => ?_)
      refine pgL hM hp hv hl hw hq n (m + 1) κ1 (x1 + 1) (i_s hx (by omega)) (by omega) (ha.trans k2) ?_ ?_ ?_
      · unfold BM2; rw [k2.2 20 (by omega) (by omega), k2.2 21 (by omega) (by omega)]; exact hB
      · rw [k1, hk]
        show _ = stp nd bo lw (sq nd bo lw (plF (rO 0 (κ0 130))) 0 g m) (plF (rO 0 (κ0 130)) (0 + m))
        rw [Nat.zero_add]
      · rw [k3, hk, ht]
        show _ = tk nd bo lw (plF (rO 0 (κ0 130))) 0 g m + usS (sq nd bo lw (plF (rO 0 (κ0 130))) 0 g m) (plF (rO 0 (κ0 130)) (0 + m))
        rw [Nat.zero_add]
theorem aheadM (h : HM nv nd κ) (hp : HP κ) (hv : HV nv nd κ) : PC xl n 204 0 [(0, .ref 129), (1, .int x1)] [] κ (MR (rO 0 (κ 130)) (ahR nd (rO 0 (κ 130)) x1) κ) := by
  have h4 := h.1.1
  have h5 := h.2.1.1
  unfold ahR
  refine (t_204_0 (isD_spec h.2.1.2 h.2.1.1 (fun c => ?_) (fun d hd hdl r hr => ?_))).weak
  · intro r e; cases e
    rw [if_neg c]
    exact ⟨fun q => absurd rfl q, fun _ => MR.same MG.rfl rfl⟩
  · intro r2 e; cases e
    refine ⟨fun _ => st_M h (fun κ1 g1 g2 g3 g4 g5 g6 g7 => ?_), fun q => absurd q hr⟩
    have hM1 : HM nv nd (up κ1 129 22 0) := ⟨⟨h4, by rw [up_ne (by omega)]; exact g5⟩, ⟨h5, by rw [up_ne (by omega)]; exact g6⟩, by rw [up_oth (by omega), g2]; exact h.2.2⟩
    have o130 : (up κ1 129 22 0) 130 = κ 130 := by rw [up_oth (by omega)]; exact g2
    have hw := WF.sqK (p := plF (rO 0 (κ 130))) (s := 0) (bo := -4) (lw := 0) h.2.2 h4 h5 no4 (cnF (rO 0 (κ 130))) (HM.va hv)
    refine (t_205_0 (pgL (bo := -4) (lw := 0) (g := rO 0 (κ 130)) hM1 (by unfold HP; rw [o130]; exact hp) (by unfold HV; rw [o130]; exact hv) no4 h.2.2 (fun κ2 k1 k2 k3 => ?_) n 0 _ 0 rfl (Nat.zero_le _) AF.rfl ?_ ?_ ?_)).weak
    · rw [o130] at k2
      refine shM_spec hd (by omega) (by rw [k2]; exact (hw.1 d (by omega)).1) ?_
      intro r e; cases e
      rw [if_pos (by unfold okD; omega), show x1.toInt.toNat = d by omega, k2]
      refine MR.same ?_ ?_
      · exact (g1.trans ⟨fun a q1 _ _ _ _ => up_oth q1, fun j q => up_ne (by omega), fun j _ => by rw [up_oth (by omega)]⟩).trans k1.mg
      · rw [k1.1 130 (by omega) (by omega)]; exact o130
    · unfold BM2; rw [up_ne (by omega), up_ne (by omega)]; exact g7
    · rw [up_oth (by omega), g3]; rfl
    · rw [up_same]; rfl
theorem clML (hd : x1.toInt = d) (hdl : d < nd) (h : HM nv nd κ0) (hq : ∀ κ', MG κ0 κ' → κ' 130 = κ0 130 → Q (some (.int (clO (rO 0 (κ0 130)) d nv))) κ') : ∀ (n v : Nat) (κ : IS) (x3 : Int32), x3.toInt = v → v ≤ nv → MG κ0 κ → κ 130 = κ0 130 → PC xl n 206 14 [(0, .ref 129), (1, .int x1), (2, .int (clO (rO 0 (κ0 130)) d v)), (3, .int x3)] [] κ Q
  | 0, _, _, _, _, _, _, _ => PC.zero
  | n + 1, v, κ, x3, hx, hv, hg, h0 => by
    have h4 := h.1.1
    have h5 := h.2.1.1
    have h1 : HM nv nd κ := ⟨⟨h4, by rw [hg.2.1 3 (by omega)]; exact h.1.2⟩, ⟨h5, by rw [hg.2.1 4 (by omega)]; exact h.2.1.2⟩, by rw [h0]; exact h.2.2⟩
    refine t_206_14 ⟨fun c => ?_, fun c => st_M h1 (fun κ1 g1 g2 g3 g4 g5 g6 g7 => ?_)⟩
    · rw [i_lt, hx, h1.1.2] at c
      have : v = nv := by omega
      subst this; exact hq κ hg h0
    rw [i_lt, hx, h1.1.2] at c
    rw [h0] at g2 g3
    have e1 : clO (rO 0 (κ0 130)) d (v + 1) = clO (rO 0 (κ0 130)) d v ||| (clF (rO 0 (κ0 130)) d v <<< (Int32.ofNat v &&& 31)) := rfl
    have l63 : ∀ (κ2 : IS) (y : Int32), MG κ0 κ2 → κ2 130 = κ0 130 → y = clO (rO 0 (κ0 130)) d (v + 1) → PC xl n 206 63 [(0, .ref 129), (1, .int x1), (2, .int y), (3, .int x3)] [] κ2 Q := fun κ2 y q1 q2 q3 => by
      rw [q3]; exact (t_206_63 (clML hd hdl h hq n (v + 1) κ2 (x3 + 1) (i_s hx (by omega)) (by omega) q1 q2)).weak
    refine koM_spec hx (by omega) hd (by omega) ?_
    intro r e; cases e
    rw [g3]
    refine ⟨fun k => l63 κ1 _ (hg.trans g1) g2 (by rw [e1, clF, if_neg k, z_shl, z_or]), fun k => viM_spec (bo := -4) (lw := 0) hx (by omega) hd (by omega) (by rw [g3]; exact h.2.2.1 d (by omega)) g7 (fun κ2 k1 k2 => ?_)⟩
    rw [g3] at k1
    have hw2 := h.2.2.vi (bo := -4) (lw := 0) (v := v) (d := d) (by omega) (by omega) k no4
    have m2 : MG κ0 κ2 := (hg.trans g1).trans (MG.at131 k2)
    have r2 : κ2 130 = κ0 130 := by rw [k2 130 (by omega)]; exact g2
    intro r e; cases e
    refine isWM_spec hd (by omega) (by rw [k1]; exact hw2.1 d (by omega)) ?_
    intro r e; cases e
    rw [k1]
    refine ⟨fun c3 => (t_175_0 ⟨fun _ => ?_, fun z => absurd rfl z⟩).weak, fun c3 => (t_175_0 ⟨fun z => absurd z (by decide), fun _ => ?_⟩).weak⟩
    · intro r e; cases e
      exact l63 κ2 _ m2 r2 (by rw [e1, clF, if_pos k, if_neg c3, i_on hx])
    · intro r e; cases e
      exact l63 κ2 _ m2 r2 (by rw [e1, clF, if_pos k, if_pos c3, i_on hx])
theorem clearsM (h : HM nv nd κ) : PC xl n 206 0 [(0, .ref 129), (1, .int x1)] [] κ (MR (rO 0 (κ 130)) (clR nv nd (rO 0 (κ 130)) x1) κ) := by
  unfold clR
  refine (t_206_0 (isD_spec h.2.1.2 h.2.1.1 (fun c => ?_) (fun d hd hdl r hr => ?_))).weak
  · intro r e; cases e
    rw [if_neg c]
    exact ⟨fun q => absurd rfl q, fun _ => MR.same MG.rfl rfl⟩
  · intro r2 e; cases e
    rw [if_pos (by unfold okD; omega), show x1.toInt.toNat = d by omega]
    exact ⟨fun _ => clML hd hdl h (fun κ' g1 g2 => MR.same g1 g2) n 0 κ 0 rfl (Nat.zero_le _) MG.rfl rfl, fun q => absurd q hr⟩
theorem mkML {κ1 : IS} {y : Int32} (h4 : nv ≤ 4) (hn : (κ1 129 3).toInt = nv) (hq : PC xl n 202 82 [(0, .ref 129), (1, .int x1), (2, .int y), (3, .int (mkF (κ1 131) nv)), (4, .int (Int32.ofNat nv))] [] κ1 Q) : ∀ (m v : Nat) (x4 : Int32), m ≤ n → x4.toInt = v → v ≤ nv → PC xl m 202 82 [(0, .ref 129), (1, .int x1), (2, .int y), (3, .int (mkF (κ1 131) v)), (4, .int x4)] [] κ1 Q
  | 0, _, _, _, _, _ => PC.zero
  | m + 1, v, x4, hm, hx, hv => by
    by_cases e : v = nv
    · subst e
      rw [i_on hx]; exact hq.le hm
    · have go := mkML h4 hn hq m (v + 1) (x4 + 1) (by omega) (i_s hx (by omega)) (by omega)
      have e1 : mkF (κ1 131) (v + 1) = mkF (κ1 131) v ||| ((if κ1 131 (4 * v + 3) = 0 then 0 else 1) <<< (Int32.ofNat v &&& 31)) := rfl
      refine t_202_82 ⟨fun c => ?_, fun c => of_spec (m := 4 * v + 3) hx (by omega) (j := 3) rfl (by omega) (by omega) ?_⟩
      · rw [i_lt, hx, hn] at c; omega
      · intro r e; cases e
        refine ⟨fun c2 => (t_175_0 ⟨fun _ => ?_, fun z => absurd rfl z⟩).weak, fun c2 => (t_175_0 ⟨fun z => absurd z (by decide), fun _ => ?_⟩).weak⟩
        · intro r e; cases e
          rw [e1, if_pos c2, ← i_on hx] at go; exact go
        · intro r e; cases e
          rw [e1, if_neg c2, ← i_on hx] at go; exact go
theorem ruML {nb : Nat} (hM : HM nv nd κ0) (hp : HP κ0) (hv : HV nv nd κ0) (hB : BM2 (-4) 0 κ0) (hq : ∀ κ', AF κ0 κ' → κ' 131 = sq nd (-4) 0 (plF (rO 0 (κ0 130))) 0 (rO 0 (κ0 130)) (cnF (rO 0 (κ0 130))) → κ' 129 22 = tk nd (-4) 0 (plF (rO 0 (κ0 130))) 0 (rO 0 (κ0 130)) (cnF (rO 0 (κ0 130))) → PC xl nb 202 82 [(0, .ref 129), (1, .int x1), (2, .int (fl1 nd (-4) 0 (plF (rO 0 (κ0 130))) 0 (rO 0 (κ0 130)) (cnF (rO 0 (κ0 130))))), (3, .int 0), (4, .int 0)] [] κ' Q) : ∀ (n m : Nat) (κ : IS) (x3 : Int32), n ≤ nb → x3.toInt = m → m ≤ cnF (rO 0 (κ0 130)) → AF κ0 κ → κ 131 = sq nd (-4) 0 (plF (rO 0 (κ0 130))) 0 (rO 0 (κ0 130)) m → κ 129 22 = tk nd (-4) 0 (plF (rO 0 (κ0 130))) 0 (rO 0 (κ0 130)) m → PC xl n 202 28 [(0, .ref 129), (1, .int x1), (2, .int (fl1 nd (-4) 0 (plF (rO 0 (κ0 130))) 0 (rO 0 (κ0 130)) m)), (3, .int x3)] [] κ Q
  | 0, _, _, _, _, _, _, _, _, _ => PC.zero
  | n + 1, m, κ, x3, hnb, hx, hm, ha, hk, ht => by
    have h4 := hM.1.1
    have h5 := hM.2.1.1
    have b8 := hp.1
    have hcn : cnF (rO 0 (κ0 130)) = (rO 0 (κ0 130) 52).toInt.toNat := rfl
    have r130 : κ 130 = κ0 130 := ha.1 130 (by omega) (by omega)
    have va := HM.va hv
    refine t_202_28 ?_
    rw [rf_129_0, c52, r130, ← r_st (h := κ0 130) (show 52 < 80 by omega)]
    refine fun _ _ => ⟨fun c => ?_, fun c _ _ => ?_⟩
    · rw [i_lt, hx] at c
      have : m = cnF (rO 0 (κ0 130)) := by omega
      subst this
      exact (hq κ ha hk ht).le (by omega)
    · rw [i_lt, hx] at c
      rw [st53 (κ := κ0) hx (by omega)]
      have hwm := WF.sqK (p := plF (rO 0 (κ0 130))) (s := 0) (bo := -4) (lw := 0) hM.2.2 h4 h5 no4 m (fun i hi => va i (by omega))
      have vm := va m (by omega)
      rw [Nat.zero_add] at vm
      have hBk : BM2 (-4) 0 κ := by unfold BM2; rw [ha.2 20 (by omega) (by omega), ha.2 21 (by omega) (by omega)]; exact hB
      refine actM_spec (bo := -4) (lw := 0) (by rw [hk]; exact hwm) (by rw [ha.2 4 (by omega) (by omega)]; exact hM.2.1.2) h4 h5 vm hBk (fun κ1 k1 k2 k3 k4 => ?_)
      rw [hk] at k4
      have e131 : κ1 131 = sq nd (-4) 0 (plF (rO 0 (κ0 130))) 0 (rO 0 (κ0 130)) (m + 1) := by
        rw [k1, hk]
        show _ = stp nd (-4) 0 (sq nd (-4) 0 (plF (rO 0 (κ0 130))) 0 (rO 0 (κ0 130)) m) (plF (rO 0 (κ0 130)) (0 + m))
        rw [Nat.zero_add]
      have e22 : κ1 129 22 = tk nd (-4) 0 (plF (rO 0 (κ0 130))) 0 (rO 0 (κ0 130)) (m + 1) := by
        rw [k3, hk, ht]
        show _ = tk nd (-4) 0 (plF (rO 0 (κ0 130))) 0 (rO 0 (κ0 130)) m + usS (sq nd (-4) 0 (plF (rO 0 (κ0 130))) 0 (rO 0 (κ0 130)) m) (plF (rO 0 (κ0 130)) (0 + m))
        rw [Nat.zero_add]
      have hfl : fl1 nd (-4) 0 (plF (rO 0 (κ0 130))) 0 (rO 0 (κ0 130)) (m + 1) = if fl1 nd (-4) 0 (plF (rO 0 (κ0 130))) 0 (rO 0 (κ0 130)) m = -4 then (if cbF (sq nd (-4) 0 (plF (rO 0 (κ0 130))) 0 (rO 0 (κ0 130)) m) (rO 0 (κ0 130) (53 + (0 + m))) then -4 else Int32.ofNat (0 + m)) else fl1 nd (-4) 0 (plF (rO 0 (κ0 130))) 0 (rO 0 (κ0 130)) m := rfl
      rw [Nat.zero_add] at hfl
      have l70 : ∀ (y : Int32) (w2 : Value), y = fl1 nd (-4) 0 (plF (rO 0 (κ0 130))) 0 (rO 0 (κ0 130)) (m + 1) → PC xl n 202 70 [(0, .ref 129), (1, .int x1), (2, w2), (3, .int x3)] [.int y] κ1 Q := fun y w2 hy => by
        rw [hy]; exact (t_202_70 (ruML hM hp hv hB hq n (m + 1) κ1 (x3 + 1) (by omega) (i_s hx (by omega)) (by omega) (ha.trans k2) e131 e22)).weak
      refine ⟨fun c2 => (t_202_69 (l70 _ _ ?_)).weak, fun c2 => ⟨fun c3 => (t_202_69 (l70 _ _ ?_)).weak, fun c3 => l70 _ _ ?_⟩⟩
      · have cb : cbF (sq nd (-4) 0 (plF (rO 0 (κ0 130))) 0 (rO 0 (κ0 130)) m) (rO 0 (κ0 130) (53 + m)) := by false_or_by_contra; rename_i hh; exact c2 (k4.mpr hh)
        rw [hfl, if_pos cb]
        split
        · rename_i z; rw [z]
        · rfl
      · rw [hfl, if_neg c3]
      · rw [hfl, if_pos c3, if_neg (k4.mp c2), i_on hx]
theorem runsM (h : HM nv nd κ) (hp : HP κ) (hv : HV nv nd κ) : PC xl n 202 0 [(0, .ref 129), (1, .int x1)] [] κ (MR (rO 0 (κ 130)) (runR nv nd (rO 0 (κ 130)) x1) κ) := by
  have h4 := h.1.1
  have h5 := h.2.1.1
  unfold runR
  refine (t_202_0 (inL (l := 0) (g := 4) rfl rfl (fun r hr => ?_))).weak
  intro r2 e; cases e
  refine ⟨fun c => ?_, fun c => ?_⟩
  · have c3 : 0 ≤ x1.toInt ∧ x1.toInt ≤ 4 := by false_or_by_contra; rename_i hh; exact c (hr.mpr hh)
    rw [if_pos c3]
    refine st_M h (fun κ1 g1 g2 g3 g4 g5 g6 g7 => ?_)
    have o130 : (up κ1 129 22 0) 130 = κ 130 := by rw [up_oth (by omega)]; exact g2
    have hM1 : HM nv nd (up κ1 129 22 0) := ⟨⟨h4, by rw [up_ne (by omega)]; exact g5⟩, ⟨h5, by rw [up_ne (by omega)]; exact g6⟩, by rw [o130]; exact h.2.2⟩
    have hw := WF.sqK (p := plF (rO 0 (κ 130))) (s := 0) (bo := -4) (lw := 0) h.2.2 h4 h5 no4 (cnF (rO 0 (κ 130))) (HM.va hv)
    have key := fun (q : _) => ruML (xl := xl) (nb := n) (x1 := x1) (Q := MR (rO 0 (κ 130)) (if x1.toInt = 0 then tk nd (-4) 0 (plF (rO 0 (κ 130))) 0 (rO 0 (κ 130)) (cnF (rO 0 (κ 130))) else if x1.toInt = 1 then wrF (sq nd (-4) 0 (plF (rO 0 (κ 130))) 0 (rO 0 (κ 130)) (cnF (rO 0 (κ 130)))) nd else if x1.toInt = 2 then fl1 nd (-4) 0 (plF (rO 0 (κ 130))) 0 (rO 0 (κ 130)) (cnF (rO 0 (κ 130))) else if x1.toInt = 3 then alF (sq nd (-4) 0 (plF (rO 0 (κ 130))) 0 (rO 0 (κ 130)) (cnF (rO 0 (κ 130)))) nd else mkF (sq nd (-4) 0 (plF (rO 0 (κ 130))) 0 (rO 0 (κ 130)) (cnF (rO 0 (κ 130)))) nv) κ) hM1 (by unfold HP; rw [o130]; exact hp) (by unfold HV; rw [o130]; exact hv) (by unfold BM2; rw [up_ne (by omega), up_ne (by omega)]; exact g7) q n 0 (up κ1 129 22 0) 0 (Nat.le_refl _) rfl (Nat.zero_le _) AF.rfl
    rw [o130] at key
    refine key (fun κ2 k1 k2 k3 => ?_) (by rw [up_oth (by omega), g3]; rfl) (by rw [up_same]; rfl)
    have n3' : (κ2 129 3).toInt = nv := by rw [k1.2 3 (by omega) (by omega), up_ne (by omega)]; exact g5
    have n4' : (κ2 129 4).toInt = nd := by rw [k1.2 4 (by omega) (by omega), up_ne (by omega)]; exact g6
    have fin : ∀ r, MR (rO 0 (κ 130)) r κ (some (.int r)) κ2 := fun r => MR.same ((g1.trans ⟨fun a q1 _ _ _ _ => up_oth q1, fun j q => up_ne (by omega), fun j _ => by rw [up_oth (by omega)]⟩).trans k1.mg) (by rw [k1.1 130 (by omega) (by omega)]; exact o130)
    refine mkML (n := n) h4 n3' ?_ n 0 0 (Nat.le_refl _) rfl (Nat.zero_le _)
    refine (t_202_82 ⟨fun _ => ⟨fun z0 => ⟨fun z1 => ⟨fun z2 => ⟨fun z3 => ?_, fun z3 => laM_spec n4' h5 ?_⟩, fun z2 => ?_⟩, fun z1 => wrM_spec (by rw [k2]; exact hw) n4' h5 ?_⟩, fun z0 => ?_⟩, fun c => ?_⟩).weak
    · rw [i_eq, n0] at z0; rw [i_eq, n1] at z1; rw [i_eq, n2i] at z2; rw [i_eq, n3] at z3
      rw [if_neg z0, if_neg z1, if_neg z2, if_neg z3, k2]; exact fin _
    · rw [i_eq, n0] at z0; rw [i_eq, n1] at z1; rw [i_eq, n2i] at z2; rw [i_eq, n3] at z3
      intro r e; cases e
      rw [if_neg z0, if_neg z1, if_neg z2, if_pos z3, k2]; exact fin _
    · rw [i_eq, n0] at z0; rw [i_eq, n1] at z1; rw [i_eq, n2i] at z2
      rw [if_neg z0, if_neg z1, if_pos z2]; exact fin _
    · rw [i_eq, n0] at z0; rw [i_eq, n1] at z1
      intro r e; cases e
      rw [if_neg z0, if_pos z1, k2]; exact fin _
    · rw [i_eq, n0] at z0
      rw [if_pos z0, k3]; exact fin _
    · rw [i_lt, n3', i_of (by omega)] at c; omega
  · rw [if_neg (hr.mp c)]; exact MR.same MG.rfl rfl
end Runs
end
section
/-! CALLS, XI: what was SEEN; pots, rained -/
noncomputable def laF (g : Nat → Int32) (d i : Nat) : Int32 := if (i : Int) < (g (16 + 9 * d)).toInt then g (19 + 9 * d + i) else -4
/-- whether a town g is as the first k that were SEEN say -/
noncomputable def agB (f g : Nat → Int32) : Nat → Int32
  | 0 => 1
  | k + 1 => if agB f g k = 0 then 0 else if laF g (f (62 + 3 * k)).toInt.toNat (f (63 + 3 * k)).toInt.toNat = f (64 + 3 * k) then 1 else 0
noncomputable def agF (f g : Nat → Int32) : Int32 := agB f g (f 61).toInt.toNat
noncomputable def poO (nd : Nat) (f : Nat → Int32) (x : Int32) (w : Nat) : Int32 := oF (fun w => agF f (sq nd x.toInt w (plF f) 0 f (cnF f)) <<< (Int32.ofNat w &&& 31)) w
noncomputable def poR (nv nd : Nat) (f : Nat → Int32) (x : Int32) : Int32 := if 0 ≤ x.toInt ∧ x.toInt < nv then poO nd f x nv else -1
/-- RAIN ahead of ACT k -/
noncomputable def rnG (nd : Nat) (f : Nat → Int32) (k : Nat) : Nat → Int32 := goF 91 (sq nd (-4) 0 (plF f) 0 f k) nd
noncomputable def rnO (nd : Nat) (f : Nat → Int32) (k : Nat) : Int32 := oF (fun k => agF f (sq nd (-4) 0 (plF f) k (rnG nd f k) (cnF f - k)) <<< (Int32.ofNat k &&& 31)) k
/-- what was SEEN is of DOORS that there are -/
noncomputable def HS (nd : Nat) (f : Nat → Int32) : Prop := ∀ i : Nat, (i : Int) < (f 61).toInt → (0 ≤ (f (62 + 3 * i)).toInt ∧ (f (62 + 3 * i)).toInt < nd) ∧ 0 ≤ (f (63 + 3 * i)).toInt ∧ (f (63 + 3 * i)).toInt ≤ 5
section Seen
variable {xl : List Int32} {n : Nat} {ι ι0 ι1 κ κ0 κ1 : IS} {Q : Option Value → IS → Prop} {x1 x2 x3 x : Int32} {u v d nd nv m s k : Nat} {f g : Nat → Int32} {r : Int32}
theorem ag_01 : ∀ m, agB f g m = 0 ∨ agB f g m = 1
  | 0 => Or.inr rfl
  | m + 1 => by
    simp only [agB]
    split
    · exact Or.inl rfl
    · split
      · exact Or.inr rfl
      · exact Or.inl rfl
theorem ag_0 (hk : ¬ laF g (f (62 + 3 * k)).toInt.toNat (f (63 + 3 * k)).toInt.toNat = f (64 + 3 * k)) : ∀ m, k < m → agB f g m = 0
  | 0, h => absurd h (Nat.not_lt_zero _)
  | m + 1, h => by
    simp only [agB]
    by_cases e : k = m
    · subst e
      split
      · rfl
      · first | rw [if_neg hk] | rfl
    · rw [ag_0 hk m (by omega), if_pos rfl]
theorem ag_1 : ∀ m, (∀ k, k < m → laF g (f (62 + 3 * k)).toInt.toNat (f (63 + 3 * k)).toInt.toNat = f (64 + 3 * k)) → agB f g m = 1
  | 0, _ => rfl
  | m + 1, h => by
    simp only [agB]
    rw [ag_1 m (fun k hk => h k (by omega)), if_neg (by decide), if_pos (h m (by omega))]
theorem agXL (hS : SX 24 nd f ι) (hT : TW 86 nv nd g ι) (hw : WF g) (hq : Q (some (.int (agF f g))) ι) : ∀ (n k : Nat) (x2 : Int32) (w3 : Value), x2.toInt = k → (k : Int) ≤ (f 61).toInt → (∀ i, i < k → laF g (f (62 + 3 * i)).toInt.toNat (f (63 + 3 * i)).toInt.toNat = f (64 + 3 * i)) → PC xl n 116 2 [(0, .ref 24), (1, .ref 86), (2, .int x2), (3, w3)] [] ι Q
  | 0, _, _, _, _, _, _ => PC.zero
  | n + 1, k, x2, w3, hx, hk, hl => by
    have h5 := hT.2.1.1
    have b6 := hS.2.1
    refine t_116_2 ?_
    rw [rf_24_3, rf_24_4, rf_24_5, hS.1]
    refine ⟨fun c => ?_, fun c _ _ => ?_⟩
    · rw [i_lt, hx] at c
      unfold agF at hq
      rw [show (f 61).toInt.toNat = k by omega, ag_1 k hl] at hq; exact hq
    · rw [i_lt, hx] at c
      obtain ⟨q1, q2, q3, q4, q5, q6⟩ := hS.2.2 k (by omega)
      rw [i_ixn hx, q1]
      refine hasDr_spec hT.2.1.2 (fun c2 => absurd q4 c2) (fun d hd hdl r hr => ?_)
      intro r2 e; cases e
      obtain ⟨tr1, tr2⟩ := town_d (u := 86) (by decide) (d := d) (by omega)
      refine ⟨fun z => absurd z hr, fun _ _ _ _ _ => ?_⟩
      rw [i_ixn hd, tr1, q2]
      refine layX_spec (i := (f (63 + 3 * k)).toInt.toNat) tr2 (hT.2.2.2 d hdl) (by omega) ?_
      intro r e _ _; cases e
      rw [q3]
      have el : laF g (f (62 + 3 * k)).toInt.toNat (f (63 + 3 * k)).toInt.toNat = if ((f (63 + 3 * k)).toInt.toNat : Int) < (g (16 + 9 * d)).toInt then g (19 + 9 * d + (f (63 + 3 * k)).toInt.toNat) else -4 := by
        rw [show (f (62 + 3 * k)).toInt.toNat = d by omega]; rfl
      rw [← el]
      refine ⟨fun c3 => agXL hS hT hw hq n (k + 1) (x2 + 1) _ (i_s hx (by omega)) (by omega) (fun i hi => ?_), fun c3 => ?_⟩
      · by_cases e : i = k
        · subst e; exact c3
        · exact hl i (by omega)
      · unfold agF at hq
        rw [ag_0 c3 _ (by omega)] at hq; exact hq
theorem agX_spec (hS : SX 24 nd f ι) (hT : TW 86 nv nd g ι) (hw : WF g) (hq : Q (some (.int (agF f g))) ι) : PC xl n 116 0 [(0, .ref 24), (1, .ref 86)] [] ι Q := (t_116_0 (agXL hS hT hw hq n 0 0 _ rfl (by have := hS.2.1; omega) (fun i hi => absurd hi (Nat.not_lt_zero _)))).weak
theorem agML (hf : rO 0 (κ 130) = f) (h61 : 0 ≤ (f 61).toInt ∧ (f 61).toInt ≤ 6) (hS : HS nd f) (h5 : nd ≤ 4) (hw : WF (κ 131)) (hq : Q (some (.int (agF f (κ 131)))) κ) : ∀ (n k : Nat) (x2 : Int32) (w3 w4 w5 : Value), x2.toInt = k → (k : Int) ≤ (f 61).toInt → PC xl n 220 4 [(0, .ref 129), (1, .int (agB f (κ 131) k)), (2, .int x2), (3, w3), (4, w4), (5, w5)] [] κ Q
  | 0, _, _, _, _, _, _, _ => PC.zero
  | n + 1, k, x2, w3, w4, w5, hx, hk => by
    have n62 : (62 : Int32).toInt = 62 := rfl
    have e130 : ∀ j, j < 80 → κ 130 j = f j := fun j hj => by rw [← hf, r_st hj]
    refine t_220_4 ?_
    rw [rf_129_0, c61, e130 61 (by omega)]
    refine fun _ _ => ⟨fun c => ?_, fun c _ _ _ _ => ?_⟩
    · rw [i_lt, hx] at c
      unfold agF at hq
      rw [show (f 61).toInt.toNat = k by omega] at hq; exact hq
    · rw [i_lt, hx] at c
      obtain ⟨q4, q5, q6⟩ := hS k (by omega)
      have e3 : (3 * x2).toInt = 3 * k := by rw [i_mul (by rw [n3, hx]; omega), n3, hx]
      have i0 : (62 + 3 * x2).toInt = (62 + 3 * k : Nat) := by rw [i_add (by rw [n62, e3]; omega), n62, e3]; omega
      have i1 : (62 + 3 * x2 + 1).toInt = (63 + 3 * k : Nat) := by rw [i_add (by rw [i0, n1]; omega), i0, n1]; omega
      have i2 : (62 + 3 * x2 + 2).toInt = (64 + 3 * k : Nat) := by rw [i_add (by rw [i0, n2i]; omega), i0, n2i]; omega
      rw [i_ixn i0, i_ixn i1, e130 _ (by omega), e130 _ (by omega)]
      have l65 : ∀ (u0 y3 y4 : Int32) (w5 : Value), u0 = laF (κ 131) (f (62 + 3 * k)).toInt.toNat (f (63 + 3 * k)).toInt.toNat → PC xl n 220 65 [(0, .ref 129), (1, .int (agB f (κ 131) k)), (2, .int x2), (3, .int y3), (4, .int y4), (5, w5)] [.int u0] κ Q := by
        intro u0 y3 y4 w5 hu
        have go : ∀ (y y1 y3 y4 y5 : Int32), y = agB f (κ 131) (k + 1) → PC xl n 220 94 [(0, .ref 129), (1, .int y1), (2, .int x2), (3, .int y3), (4, .int y4), (5, .int y5)] [.int y] κ Q := fun y y1 y3 y4 y5 hy => (t_220_94 (by rw [hy]; exact agML hf h61 hS h5 hw hq n (k + 1) (x2 + 1) (.int y3) (.int y4) (.int y5) (i_s hx (by omega)) (by omega))).weak
        refine (t_220_65 ?_).weak
        rw [rf_129_0, i_ixn i2, e130 _ (by omega)]
        refine ⟨fun c2 => (t_220_93 (go 0 _ _ _ _ ?_)).weak, fun c2 _ _ => ⟨fun c3 => (t_220_93 (go 0 _ _ _ _ ?_)).weak, fun c3 => go 1 _ _ _ _ ?_⟩⟩
        · simp only [agB]; rw [if_pos c2]
        · simp only [agB]; rw [if_neg c2, if_neg (by rw [← hu]; exact c3)]
        · simp only [agB]; rw [if_neg c2, if_pos (by rw [← hu]; exact c3)]
      have hd : (f (62 + 3 * k)).toInt = ((f (62 + 3 * k)).toInt.toNat : Nat) := by omega
      have hi : (f (63 + 3 * k)).toInt = ((f (63 + 3 * k)).toInt.toNat : Nat) := by omega
      refine ofD_spec (m := 16 + 9 * (f (62 + 3 * k)).toInt.toNat) hd (by omega) (j := 0) rfl (by omega) (by omega) ?_
      intro r e; cases e
      refine ⟨fun c2 => l65 _ _ _ _ ?_, fun c2 => layM_spec (j := (f (63 + 3 * k)).toInt.toNat) hd (by omega) hi (by omega) ?_⟩
      · rw [i_lt] at c2
        unfold laF; rw [if_neg (by omega)]
      · rw [i_lt] at c2
        intro r e; cases e
        refine l65 _ _ _ _ ?_
        unfold laF; rw [if_pos (by omega)]
theorem agM_spec (hf : rO 0 (κ 130) = f) (h61 : 0 ≤ (f 61).toInt ∧ (f 61).toInt ≤ 6) (hS : HS nd f) (h5 : nd ≤ 4) (hw : WF (κ 131)) (hq : Q (some (.int (agF f (κ 131)))) κ) : PC xl n 220 0 [(0, .ref 129)] [] κ Q := (t_220_0 (agML hf h61 hS h5 hw hq n 0 0 _ _ _ rfl (by omega))).weak
theorem TW.bor {u : Nat} (h : TW u nv nd f ι) (h1 : ∀ a j, ¬ (a = u ∧ (j = 4 ∨ j = 5)) → ι1 a j = ι a j) (hw : WF f) : TW u nv nd f ι1 :=
  ⟨⟨h.1.1, by rw [h1 u 2 (by omega)]; exact h.1.2⟩, ⟨h.2.1.1, by rw [h1 u 3 (by omega)]; exact h.2.1.2⟩, fun v hv => (h.2.2.1 v hv).keep (fun j => h1 _ _ (by omega)) (fun _ _ => rfl), fun d hd => (h.2.2.2 d hd).keep (fun j => h1 _ _ (by omega)) (fun j => h1 _ _ (by omega)) (fun _ _ => rfl) (hw.1 d (by have := h.2.1.1; omega)).1.2⟩
theorem poXL (hv : 0 ≤ x1.toInt ∧ x1.toInt < nv) (h : HX nv nd f ι0) (hq : ∀ ι', Sm 86 100 ι0 ι' → Q (some (.int (poO nd f x1 nv))) ι') : ∀ (n w : Nat) (ι : IS) (x3 : Int32), x3.toInt = w → w ≤ nv → Sm 86 100 ι0 ι → PC xl n 114 20 [(0, .ref 0), (1, .int x1), (2, .int (poO nd f x1 w)), (3, .int x3)] [] ι Q
  | 0, _, _, _, _, _, _ => PC.zero
  | n + 1, w, ι, x3, hx, hw, hs => by
    have h4 := h.tw.1.1
    have h5 := h.tw.2.1.1
    have b8 := h.1.2.1.2.1
    have hcn : cnF f = (f 52).toInt.toNat := rfl
    have h1 := h.keep hs
    have hlt : x3 < ι 25 2 ↔ w < nv := by rw [i_lt, hx, h1.tw.1.2]; omega
    refine t_114_20 ?_
    rw [rf_0_5, rf_0_2', rf_0_2]
    refine ⟨fun c => ?_, fun c => bcT_spec h1 (fun ι1 s1 h2 t1 b1 => ?_)⟩
    · have : w = nv := by
        have := mt hlt.mpr c; omega
      subst this; exact hq ι hs
    have hwl := hlt.mp c
    refine brX_spec (by decide) h2.tw h2.bo hx hwl ?_
    intro r e; cases e
    have eb : brF (-4) 0 f w = owF f w := if_neg (by omega)
    rw [eb]
    refine (t_115_0 ?_).weak
    have up4 : ∀ a j, ¬ (a = 86 ∧ (j = 4 ∨ j = 5)) → (up (up ι1 86 4 x1) 86 5 (owF f w)) a j = ι1 a j := fun a j g => by rw [up_ne (by omega), up_ne (by omega)]
    have s3 : Sm 86 100 ι1 (up (up ι1 86 4 x1) 86 5 (owF f w)) := (Sm.rfl.up (by omega)).up (by omega)
    have h3 := h2.keep s3
    have hB : BO 86 x1.toInt w f (up (up ι1 86 4 x1) 86 5 (owF f w)) := ⟨by rw [up_ne (by omega), up_same], fun _ => up_same _ _ _ _⟩
    rw [h3.1.2.1.1]
    refine actX_spec (e := cnF f) (s := 0) (bo := x1.toInt) (lw := w) h3.1.2.1 (t1.bor up4 h.2.2) h.2.2 hB (fun _ => by omega) rfl (by omega) (Nat.zero_le _) (by omega) (fun ι4 s4 j4 t4 => ?_)
    intro r e; cases e
    have sAll : Sm 86 100 ι0 ι4 := ((hs.trans s1).trans s3).trans s4
    have hw4 := WF.sqK (p := plF f) (s := 0) (bo := x1.toInt) (lw := w) h.2.2 h4 h5 (fun _ => by omega) (cnF f) h.va
    have go := poXL hv h hq n (w + 1) ι4 (x3 + 1) (i_s hx (by omega)) hwl sAll
    have e1 : poO nd f x1 (w + 1) = poO nd f x1 w ||| (agF f (sq nd x1.toInt w (plF f) 0 f (cnF f)) <<< (Int32.ofNat w &&& 31)) := rfl
    refine agX_spec (h.keep sAll).1.2.2 t4 hw4 ?_
    intro r e; cases e
    refine ⟨fun c2 => ?_, fun c2 => ?_⟩
    · rw [e1, show agF f (sq nd x1.toInt w (plF f) 0 f (cnF f)) = 0 from c2, z_shl, z_or] at go; exact go
    · rw [e1, (show agF f (sq nd x1.toInt w (plF f) 0 f (cnF f)) = 1 from (ag_01 _).resolve_left c2), ← i_on hx] at go; exact go
theorem potsX (h : HX nv nd f ι) : PC xl n 114 0 [(0, .ref 0), (1, .int x1)] [] ι (XR nv nd f (poR nv nd f x1) ι) := by
  unfold poR
  refine (t_114_0 ?_).weak
  rw [rf_0_2']
  refine hasV_spec h.tw.1.2 (fun c => ?_) (fun v hv hvl r hr => ?_)
  · intro r e; cases e
    rw [if_neg c]
    exact ⟨fun q => absurd rfl q, fun _ => h.same⟩
  · intro r2 e; cases e
    rw [if_pos (by omega)]
    exact ⟨fun _ => poXL (by omega) h (fun ι' s1 => h.tr s1) n 0 ι 0 rfl (Nat.zero_le _) Sm.rfl, fun q => absurd q hr⟩
theorem RN.hS (h : RN nv nd ι κ) : HS nd (rO 0 (κ 130)) := fun i hi => (h.2.2.1.1.2.2.2.2 i hi).2.2.2
theorem HM.mg (h : HM nv nd κ) (g : MG κ κ1) (e : κ1 130 = κ 130) : HM nv nd κ1 := ⟨⟨h.1.1, by rw [g.2.1 3 (by omega)]; exact h.1.2⟩, ⟨h.2.1.1, by rw [g.2.1 4 (by omega)]; exact h.2.1.2⟩, by rw [e]; exact h.2.2⟩
theorem poML (hx1 : 0 ≤ x1.toInt ∧ x1.toInt < nv) (h : HM nv nd κ0) (hp : HP κ0) (hv : HV nv nd κ0) (hS : HS nd (rO 0 (κ0 130))) (hq : ∀ κ', MG κ0 κ' → κ' 130 = κ0 130 → Q (some (.int (poO nd (rO 0 (κ0 130)) x1 nv))) κ') : ∀ (n w : Nat) (κ : IS) (x3 : Int32), x3.toInt = w → w ≤ nv → MG κ0 κ → κ 130 = κ0 130 → PC xl n 219 14 [(0, .ref 129), (1, .int x1), (2, .int (poO nd (rO 0 (κ0 130)) x1 w)), (3, .int x3)] [] κ Q
  | 0, _, _, _, _, _, _, _ => PC.zero
  | n + 1, w, κ, x3, hx, hw, hg, h0 => by
    have h4 := h.1.1
    have h5 := h.2.1.1
    have h1 := h.mg hg h0
    refine t_219_14 ⟨fun c => ?_, fun c => st_M h1 (fun κ1 g1 g2 g3 g4 g5 g6 g7 => ?_)⟩
    · rw [i_lt, hx, h1.1.2] at c
      have : w = nv := by omega
      subst this
      exact hq _ (hg.trans ⟨fun a q1 _ _ _ _ => up_oth q1, fun j q => up_ne (by omega), fun j _ => by rw [up_oth (by omega)]⟩) (by rw [up_oth (by omega)]; exact h0)
    rw [i_lt, hx, h1.1.2] at c
    rw [h0] at g2 g3
    have mU : MG κ1 (up (up (up κ1 129 20 x1) 129 21 x3) 129 22 0) := ⟨fun a q1 _ _ _ _ => by rw [up_oth q1, up_oth q1, up_oth q1], fun j q => by rw [up_ne (by omega), up_ne (by omega), up_ne (by omega)], fun j _ => by rw [up_oth (by omega), up_oth (by omega), up_oth (by omega)]⟩
    have o130 : (up (up (up κ1 129 20 x1) 129 21 x3) 129 22 0) 130 = κ0 130 := by rw [up_oth (by omega), up_oth (by omega), up_oth (by omega)]; exact g2
    have mA := (hg.trans g1).trans mU
    have hMA := h.mg mA o130
    have hBA : BM2 x1.toInt w (up (up (up κ1 129 20 x1) 129 21 x3) 129 22 0) := ⟨by rw [up_ne (by omega), up_ne (by omega), up_same], fun _ => ⟨by omega, by rw [up_ne (by omega), up_same]; exact hx⟩⟩
    have hw4 := WF.sqK (p := plF (rO 0 (κ0 130))) (s := 0) (bo := x1.toInt) (lw := w) h.2.2 h4 h5 (fun _ => by omega) (cnF (rO 0 (κ0 130))) (HM.va hv)
    refine (t_205_0 (pgL (bo := x1.toInt) (lw := w) (g := rO 0 (κ0 130)) hMA (by unfold HP; rw [o130]; exact hp) (by unfold HV; rw [o130]; exact hv) (fun _ => by omega) h.2.2 (fun κ2 k1 k2 k3 => ?_) n 0 _ 0 rfl (Nat.zero_le _) AF.rfl hBA ?_ ?_)).weak
    · rw [o130] at k2
      have r130 : κ2 130 = κ0 130 := by rw [k1.1 130 (by omega) (by omega)]; exact o130
      have m2 : MG κ0 κ2 := mA.trans k1.mg
      have e1 : poO nd (rO 0 (κ0 130)) x1 (w + 1) = poO nd (rO 0 (κ0 130)) x1 w ||| (agF (rO 0 (κ0 130)) (sq nd x1.toInt w (plF (rO 0 (κ0 130))) 0 (rO 0 (κ0 130)) (cnF (rO 0 (κ0 130)))) <<< (Int32.ofNat w &&& 31)) := rfl
      have go := poML hx1 h hp hv hS hq n (w + 1) κ2 (x3 + 1) (i_s hx (by omega)) (by omega) m2 r130
      refine agM_spec (nd := nd) (f := rO 0 (κ0 130)) (by rw [r130]) hp.2 hS h5 (by rw [k2]; exact hw4) ?_
      intro r e; cases e
      rw [k2]
      refine (t_175_0 ⟨fun c2 => ?_, fun c2 => ?_⟩).weak
      · intro r e; cases e
        rw [e1, c2, ← i_on hx] at go; exact go
      · intro r e; cases e
        rw [e1, (show agF (rO 0 (κ0 130)) (sq nd x1.toInt w (plF (rO 0 (κ0 130))) 0 (rO 0 (κ0 130)) (cnF (rO 0 (κ0 130)))) = 1 from (ag_01 _).resolve_left c2), ← i_on hx] at go; exact go
    · rw [up_oth (by omega), up_oth (by omega), up_oth (by omega), g3]; rfl
    · rw [up_same]; rfl
theorem potsM (h : HM nv nd κ) (hp : HP κ) (hv : HV nv nd κ) (hS : HS nd (rO 0 (κ 130))) : PC xl n 219 0 [(0, .ref 129), (1, .int x1)] [] κ (MR (rO 0 (κ 130)) (poR nv nd (rO 0 (κ 130)) x1) κ) := by
  unfold poR
  refine (t_219_0 (isV_spec h.1.2 h.1.1 (fun c => ?_) (fun v hvv hvl r hr => ?_))).weak
  · intro r e; cases e
    rw [if_neg c]
    exact ⟨fun q => absurd rfl q, fun _ => MR.same MG.rfl rfl⟩
  · intro r2 e; cases e
    rw [if_pos (by omega)]
    exact ⟨fun _ => poML (by omega) h hp hv hS (fun κ' g1 g2 => MR.same g1 g2) n 0 κ 0 rfl (Nat.zero_le _) MG.rfl rfl, fun q => absurd q hr⟩
theorem rnW (h : WF f) (h4 : nv ≤ 4) (h5 : nd ≤ 4) (va : ∀ i, i < cnF f → VA nv nd (plF f (0 + i))) {k : Nat} (hk : k ≤ cnF f) : WF (rnG nd f k) := WF.goK (WF.sqK (p := plF f) (s := 0) h h4 h5 no4 k (fun i hi => va i (by omega))) nd h5
theorem rnXL (h : HX nv nd f ι0) (hq : ∀ ι', Sm 86 100 ι0 ι' → Q (some (.int (rnO nd f (cnF f + 1)))) ι') : ∀ (n k : Nat) (ι : IS) (x2 : Int32), x2.toInt = k → k ≤ cnF f + 1 → Sm 86 100 ι0 ι → PC xl n 117 4 [(0, .ref 0), (1, .int (rnO nd f k)), (2, .int x2)] [] ι Q
  | 0, _, _, _, _, _, _ => PC.zero
  | n + 1, k, ι, x2, hx, hk, hs => by
    have h4 := h.tw.1.1
    have h5 := h.tw.2.1.1
    have b8 := h.1.2.1.2.1
    have hcn : cnF f = (f 52).toInt.toNat := rfl
    have h1 := h.keep hs
    refine t_117_4 ?_
    rw [rf_0_5, rf_0_2', rf_0_2, h1.1.2.1.1]
    refine ⟨fun c => ?_, fun c => bcT_spec h1 (fun ι1 s1 h2 t1 b1 => ?_)⟩
    · rw [i_lt, hx] at c
      have : k = cnF f + 1 := by omega
      subst this; exact hq ι hs
    rw [i_lt, hx] at c
    have hk2 : k ≤ cnF f := by omega
    have hB1 : BO 86 (-4) 0 f ι1 := ⟨by rw [b1]; rfl, no4⟩
    refine actX_spec (e := k) (s := 0) (bo := -4) (lw := 0) h2.1.2.1 t1 h.2.2 hB1 no4 rfl hx (Nat.zero_le _) (by omega) (fun ι2 s2 j2 t2 => ?_)
    rw [Nat.sub_zero] at t2 ⊢
    intro r e; cases e
    have hw2 := WF.sqK (p := plF f) (s := 0) (bo := -4) (lw := 0) h.2.2 h4 h5 no4 k (fun i hi => h.va i (by omega))
    refine weaX_spec (z := 91) (by decide) hw2 t2 rfl (by omega) (fun ι3 s3 j3 t3 => ?_)
    have s23 : Sm 86 100 ι1 ι3 := s2.trans s3
    have h3 := h2.keep s23
    rw [h3.1.2.1.1]
    have hw3 : WF (rnG nd f k) := rnW h.2.2 h4 h5 h.va hk2
    refine actX_spec (e := cnF f) (s := k) (g := rnG nd f k) (bo := -4) (lw := 0) h3.1.2.1 t3 hw3 ⟨by rw [j3, j2, b1]; rfl, no4⟩ no4 hx (by omega) hk2 (by omega) (fun ι4 s4 j4 t4 => ?_)
    intro r e; cases e
    have sAll : Sm 86 100 ι0 ι4 := ((hs.trans s1).trans s23).trans s4
    have hw4 := WF.sqK (p := plF f) (s := k) (bo := -4) (lw := 0) hw3 h4 h5 no4 (cnF f - k) (fun i hi => by have := h.va (k + i) (by omega); rw [Nat.zero_add] at this; exact this)
    have go := rnXL h hq n (k + 1) ι4 (x2 + 1) (i_s hx (by omega)) (by omega) sAll
    have e1 : rnO nd f (k + 1) = rnO nd f k ||| (agF f (sq nd (-4) 0 (plF f) k (rnG nd f k) (cnF f - k)) <<< (Int32.ofNat k &&& 31)) := rfl
    refine agX_spec (h.keep sAll).1.2.2 t4 hw4 ?_
    intro r e; cases e
    refine ⟨fun c2 => ?_, fun c2 => ?_⟩
    · rw [e1, c2, z_shl, z_or] at go; exact go
    · rw [e1, (show agF f (sq nd (-4) 0 (plF f) k (rnG nd f k) (cnF f - k)) = 1 from (ag_01 _).resolve_left c2), ← i_on hx] at go; exact go
theorem rainedX (h : HX nv nd f ι) : PC xl n 117 0 [(0, .ref 0)] [] ι (XR nv nd f (rnO nd f (cnF f + 1)) ι) :=
  (t_117_0 (rnXL h (fun ι' s1 => h.tr s1) n 0 ι 0 rfl (Nat.zero_le _) Sm.rfl)).weak
/-- the town ahead of round i, if it rains ahead of ACT k -/
noncomputable def rnS (nd : Nat) (f : Nat → Int32) (k i : Nat) : Nat → Int32 := if i ≤ k then sq nd (-4) 0 (plF f) 0 f i else sq nd (-4) 0 (plF f) k (rnG nd f k) (i - k)
theorem rn1 (h : HM nv nd κ0) (hp : HP κ0) (hv : HV nv nd κ0) (hk : k ≤ cnF (rO 0 (κ0 130))) (hx2 : x2.toInt = k) {nb : Nat} (hq : ∀ (κ' : IS) (w : Int32), AF κ0 κ' → κ' 131 = sq nd (-4) 0 (plF (rO 0 (κ0 130))) k (rnG nd (rO 0 (κ0 130)) k) (cnF (rO 0 (κ0 130)) - k) → w.toInt = (cnF (rO 0 (κ0 130)) + 1 : Nat) → PC xl nb 221 21 [(0, .ref 129), (1, .int x1), (2, .int x2), (3, .int w)] [] κ' Q) (hB : BM2 (-4) 0 κ0) : ∀ (n i : Nat) (κ : IS) (x3 : Int32), n ≤ nb → x3.toInt = i → i ≤ cnF (rO 0 (κ0 130)) → AF κ0 κ → κ 131 = rnS nd (rO 0 (κ0 130)) k i → PC xl n 221 21 [(0, .ref 129), (1, .int x1), (2, .int x2), (3, .int x3)] [] κ Q
  | 0, _, _, _, _, _, _, _, _ => PC.zero
  | n + 1, i, κ, x3, hnb, hx, hi, ha, hk1 => by
    have h4 := h.1.1
    have h5 := h.2.1.1
    have b8 := hp.1
    have hcn : cnF (rO 0 (κ0 130)) = (rO 0 (κ0 130) 52).toInt.toNat := rfl
    have va := HM.va hv
    have va0 : ∀ i, i < cnF (rO 0 (κ0 130)) → VA nv nd (rO 0 (κ0 130) (53 + i)) := fun i hi => by have := va i hi; rw [Nat.zero_add] at this; exact this
    have hG := rnW h.2.2 h4 h5 va hk
    have w0 : ∀ m, m ≤ cnF (rO 0 (κ0 130)) → WF (sq nd (-4) 0 (plF (rO 0 (κ0 130))) 0 (rO 0 (κ0 130)) m) := fun m hm => WF.sqK (bo := -4) (lw := 0) h.2.2 h4 h5 no4 m (fun i hi => va i (by omega))
    have wk : ∀ m, k + m ≤ cnF (rO 0 (κ0 130)) → WF (sq nd (-4) 0 (plF (rO 0 (κ0 130))) k (rnG nd (rO 0 (κ0 130)) k) m) := fun m hm => WF.sqK hG h4 h5 no4 m (fun i hi => va0 (k + i) (by omega))
    -- the second half of a round
    have l43 : ∀ κ1 : IS, AF κ0 κ1 → (i < k → κ1 131 = sq nd (-4) 0 (plF (rO 0 (κ0 130))) 0 (rO 0 (κ0 130)) i) → (k ≤ i → κ1 131 = sq nd (-4) 0 (plF (rO 0 (κ0 130))) k (rnG nd (rO 0 (κ0 130)) k) (i - k)) → PC xl n 221 43 [(0, .ref 129), (1, .int x1), (2, .int x2), (3, .int x3)] [] κ1 Q := by
      intro κ1 a1 q1 q2
      have r130 : κ1 130 = κ0 130 := a1.1 130 (by omega) (by omega)
      have hBk : BM2 (-4) 0 κ1 := by unfold BM2; rw [a1.2 20 (by omega) (by omega), a1.2 21 (by omega) (by omega)]; exact hB
      refine (t_221_43 ?_).weak
      rw [rf_129_0, c52, r130, ← r_st (h := κ0 130) (show 52 < 80 by omega)]
      refine fun _ _ => ⟨fun c => ?_, fun c _ _ => ?_⟩
      · rw [i_lt, hx] at c
        have ei : i = cnF (rO 0 (κ0 130)) := by omega
        refine (t_221_67 ((hq κ1 (x3 + 1) a1 ?_ ?_).le (by omega))).weak
        · rw [q2 (by omega), ei]
        · rw [i_s hx (by omega), ei]
      · rw [i_lt, hx] at c
        rw [st53 (κ := κ0) hx (by omega)]
        have hw1 : WF (κ1 131) := by
          by_cases g : i < k
          · rw [q1 g]; exact w0 i (by omega)
          · rw [q2 (by omega)]; exact wk (i - k) (by omega)
        refine actM_spec (bo := -4) (lw := 0) hw1 (by rw [a1.2 4 (by omega) (by omega)]; exact h.2.1.2) h4 h5 (va0 i (by omega)) hBk (fun κ2 k1 k2 k3 k4 => ?_)
        refine (t_221_67 (rn1 h hp hv hk hx2 hq hB n (i + 1) κ2 (x3 + 1) (by omega) (i_s hx (by omega)) (by omega) (a1.trans k2) ?_)).weak
        unfold rnS
        by_cases g : i < k
        · rw [if_pos (by omega), k1, q1 g]
          show _ = stp nd (-4) 0 (sq nd (-4) 0 (plF (rO 0 (κ0 130))) 0 (rO 0 (κ0 130)) i) (plF (rO 0 (κ0 130)) (0 + i))
          rw [Nat.zero_add]
        · rw [if_neg (by omega), k1, q2 (by omega), show i + 1 - k = (i - k) + 1 by omega]
          show _ = stp nd (-4) 0 (sq nd (-4) 0 (plF (rO 0 (κ0 130))) k (rnG nd (rO 0 (κ0 130)) k) (i - k)) (plF (rO 0 (κ0 130)) (k + (i - k)))
          rw [show k + (i - k) = i by omega]
    have r130 : κ 130 = κ0 130 := ha.1 130 (by omega) (by omega)
    have hBk : BM2 (-4) 0 κ := by unfold BM2; rw [ha.2 20 (by omega) (by omega), ha.2 21 (by omega) (by omega)]; exact hB
    refine t_221_21 ?_
    rw [rf_129_0, c52, r130, ← r_st (h := κ0 130) (show 52 < 80 by omega)]
    refine fun _ _ => ⟨fun c => ?_, fun c => ⟨fun c2 => ?_, fun c2 => ?_⟩⟩
    · rw [i_lt, hx] at c; omega
    · rw [i_eq, hx, hx2] at c2
      refine l43 κ ha (fun g => ?_) (fun g => ?_)
      · rw [hk1, rnS, if_pos (by omega)]
      · rw [hk1, rnS, if_neg (by omega)]
    · rw [i_eq, hx, hx2] at c2
      have ek : i = k := by omega
      have e0 : κ 131 = sq nd (-4) 0 (plF (rO 0 (κ0 130))) 0 (rO 0 (κ0 130)) k := by rw [hk1, rnS, if_pos (by omega), ek]
      have v91 : VA nv nd 91 := ⟨by decide, Or.inl (by decide)⟩
      refine actM_spec (bo := -4) (lw := 0) (by rw [e0]; exact w0 k hk) (by rw [ha.2 4 (by omega) (by omega)]; exact h.2.1.2) h4 h5 v91 hBk (fun κ2 k1 k2 k3 k4 => l43 κ2 (ha.trans k2) (fun g => by omega) (fun g => ?_))
      rw [k1, e0, show i - k = 0 by omega]
      show stp nd (-4) 0 (sq nd (-4) 0 (plF (rO 0 (κ0 130))) 0 (rO 0 (κ0 130)) k) 91 = rnG nd (rO 0 (κ0 130)) k
      unfold stp rnG
      rw [if_pos (by decide)]
      rfl
theorem rnML (h : HM nv nd κ0) (hp : HP κ0) (hv : HV nv nd κ0) (hS : HS nd (rO 0 (κ0 130))) (hq : ∀ κ', MG κ0 κ' → κ' 130 = κ0 130 → Q (some (.int (rnO nd (rO 0 (κ0 130)) (cnF (rO 0 (κ0 130)) + 1)))) κ') : ∀ (n k : Nat) (κ : IS) (x2 : Int32) (w3 : Value), x2.toInt = k → k ≤ cnF (rO 0 (κ0 130)) + 1 → MG κ0 κ → κ 130 = κ0 130 → PC xl n 221 4 [(0, .ref 129), (1, .int (rnO nd (rO 0 (κ0 130)) k)), (2, .int x2), (3, w3)] [] κ Q
  | 0, _, _, _, _, _, _, _, _ => PC.zero
  | n + 1, k, κ, x2, w3, hx, hk, hg, h0 => by
    have h4 := h.1.1
    have h5 := h.2.1.1
    have b8 := hp.1
    have hcn : cnF (rO 0 (κ0 130)) = (rO 0 (κ0 130) 52).toInt.toNat := rfl
    have h1 := h.mg hg h0
    have va := HM.va hv
    have va0 : ∀ i, i < cnF (rO 0 (κ0 130)) → VA nv nd (rO 0 (κ0 130) (53 + i)) := fun i hi => by have := va i hi; rw [Nat.zero_add] at this; exact this
    refine t_221_4 ?_
    rw [rf_129_0, c52, h0, ← r_st (h := κ0 130) (show 52 < 80 by omega)]
    refine fun _ _ => ⟨fun c => ?_, fun c => st_M h1 (fun κ1 g1 g2 g3 g4 g5 g6 g7 => ?_)⟩
    · rw [i_lt, hx] at c
      have : k = cnF (rO 0 (κ0 130)) + 1 := by omega
      subst this
      exact hq κ hg h0
    rw [i_lt, hx] at c
    rw [h0] at g2 g3
    have hk2 : k ≤ cnF (rO 0 (κ0 130)) := by omega
    have m1 := hg.trans g1
    have hM1 := h.mg m1 g2
    have key := rn1 (xl := xl) (k := k) (x1 := rnO nd (rO 0 (κ0 130)) k) (x2 := x2) (nb := n) (Q := Q) hM1 (by unfold HP; rw [g2]; exact hp) (by unfold HV; rw [g2]; exact hv)
    rw [g2] at key
    refine key hk2 hx (fun κ2 w a2 q2 hw => ?_) g7 n 0 κ1 0 (Nat.le_refl _) rfl (Nat.zero_le _) AF.rfl (by rw [g3, rnS, if_pos (Nat.zero_le _)]; rfl)
    have r130 : κ2 130 = κ0 130 := by rw [a2.1 130 (by omega) (by omega)]; exact g2
    have m2 : MG κ0 κ2 := m1.trans a2.mg
    have hw4 := WF.sqK (p := plF (rO 0 (κ0 130))) (s := k) (bo := -4) (lw := 0) (rnW h.2.2 h4 h5 va hk2) h4 h5 no4 (cnF (rO 0 (κ0 130)) - k) (fun i hi => va0 (k + i) (by omega))
    have e1 : rnO nd (rO 0 (κ0 130)) (k + 1) = rnO nd (rO 0 (κ0 130)) k ||| (agF (rO 0 (κ0 130)) (sq nd (-4) 0 (plF (rO 0 (κ0 130))) k (rnG nd (rO 0 (κ0 130)) k) (cnF (rO 0 (κ0 130)) - k)) <<< (Int32.ofNat k &&& 31)) := rfl
    have go := fun w3 => rnML h hp hv hS hq n (k + 1) κ2 (x2 + 1) w3 (i_s hx (by omega)) (by omega) m2 r130
    refine (t_221_21 ?_).weak
    rw [rf_129_0, c52, r130, ← r_st (h := κ0 130) (show 52 < 80 by omega)]
    refine fun _ _ => ⟨fun _ => agM_spec (nd := nd) (f := rO 0 (κ0 130)) (by rw [r130]) hp.2 hS h5 (by rw [q2]; exact hw4) ?_, fun c2 => ?_⟩
    · intro r e; cases e
      rw [q2]
      refine (t_175_0 ⟨fun c3 => ?_, fun c3 => ?_⟩).weak
      · intro r e; cases e
        rw [e1, c3, ← i_on hx] at go; exact go _
      · intro r e; cases e
        rw [e1, (show agF (rO 0 (κ0 130)) (sq nd (-4) 0 (plF (rO 0 (κ0 130))) k (rnG nd (rO 0 (κ0 130)) k) (cnF (rO 0 (κ0 130)) - k)) = 1 from (ag_01 _).resolve_left c3), ← i_on hx] at go; exact go _
    · rw [i_lt, hw] at c2; omega
theorem rainedM (h : HM nv nd κ) (hp : HP κ) (hv : HV nv nd κ) (hS : HS nd (rO 0 (κ 130))) : PC xl n 221 0 [(0, .ref 129)] [] κ (MR (rO 0 (κ 130)) (rnO nd (rO 0 (κ 130)) (cnF (rO 0 (κ 130)) + 1)) κ) :=
  (t_221_0 (rnML h hp hv hS (fun κ' g1 g2 => MR.same g1 g2) n 0 κ 0 _ rfl (Nat.zero_le _) MG.rfl rfl)).weak
end Seen
end
