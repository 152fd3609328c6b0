/-! CALLS, I: rule, visitor, door, plan, uses, reads -/
section OpA
variable {xl : List Int32} {n : Nat} {ι κ : IS} {nv nd : Nat} {f : Nat → Int32} {x1 x2 x3 : Int32} {Q : Option Value → IS → Prop}
def ruleO (nv nd : Nat) (f : Nat → Int32) (x : Int32) : Int32 := if x.toInt = 0 then Int32.ofNat nv else if x.toInt = 1 then Int32.ofNat nd else if x.toInt = 2 then f 52 else if x.toInt = 3 then weF f nd else if x.toInt = 4 then wrF f nd else if x.toInt = 5 then ptF f nv else -1
theorem ruleX (h : HX nv nd f ι) : PC xl n 56 0 [(0, .ref 0), (1, .int x1)] [] ι (XR nv nd f (ruleO nv nd f x1) ι) := by
  refine (t_56_0 ?_).weak
  rw [rf_0_2', rf_0_2]
  unfold ruleO
  refine ⟨fun c => ?_, fun c => ?_, fun c => ?_, fun c => ?_, fun c => ?_, fun c => ?_, fun c => ?_⟩
  · rw [if_pos c, i_on h.tw.1.2]; exact h.same
  · rw [if_neg (by omega), if_pos c, i_on h.tw.2.1.2]; exact h.same
  · rw [if_neg (by omega), if_neg (by omega), if_pos c, h.1.2.1.1]; exact h.same
  · rw [if_neg (by omega), if_neg (by omega), if_neg (by omega), if_pos c]
    refine weX_spec (by decide) h.2.2 h.tw ?_
    intro r e; cases e; exact h.same
  · rw [if_neg (by omega), if_neg (by omega), if_neg (by omega), if_neg (by omega), if_pos c]
    refine wrX_spec (by decide) h.2.2 h.tw ?_
    intro r e; cases e; exact h.same
  · rw [if_neg (by omega), if_neg (by omega), if_neg (by omega), if_neg (by omega), if_neg (by omega), if_pos c]
    refine ptX_spec (by decide) h.tw ?_
    intro r e; cases e; exact h.same
  · rw [if_neg (by omega), if_neg (by omega), if_neg (by omega), if_neg (by omega), if_neg (by omega), if_neg (by omega)]; exact h.same
theorem ruML2 {κ1 : IS} {y : Int32} (h4 : nv ≤ 4) (hn : (κ1 129 3).toInt = nv) (hq : PC xl n 167 42 [(0, .ref 129), (1, .int x1), (2, .int y), (3, .int (ptF (κ1 131) nv)), (4, .int (Int32.ofNat nv))] [] κ1 Q) : ∀ (m v : Nat) (x4 : Int32), m ≤ n → x4.toInt = v → v ≤ nv → PC xl m 167 42 [(0, .ref 129), (1, .int x1), (2, .int y), (3, .int (ptF (κ1 131) v)), (4, .int x4)] [] κ1 Q
  | 0, _, _, _, _, _ => PC.zero
  | m + 1, v, x4, hm, hx, hv => by
    by_cases e : v = nv
    · subst e
      rw [i_on hx]; exact hq.le hm
    · refine t_167_42 ⟨fun c => ?_, fun c => of_spec (m := 4 * v + 2) hx (by omega) (j := 2) rfl (by omega) (by omega) ?_⟩
      · rw [i_lt, hx, hn] at c; omega
      · intro r e; cases e
        exact ruML2 h4 hn hq m (v + 1) (x4 + 1) (by omega) (i_s hx (by omega)) (by omega)
theorem ruML1 {κ1 : IS} (h5 : nd ≤ 4) (hn : (κ1 129 4).toInt = nd) (hq : PC xl n 167 42 [(0, .ref 129), (1, .int x1), (2, .int (weF (κ1 131) nd)), (3, .int 0), (4, .int 0)] [] κ1 Q) : ∀ (m d : Nat) (x4 : Int32), m ≤ n → x4.toInt = d → d ≤ nd → PC xl m 167 11 [(0, .ref 129), (1, .int x1), (2, .int (weF (κ1 131) d)), (3, .int 0), (4, .int x4)] [] κ1 Q
  | 0, _, _, _, _, _ => PC.zero
  | m + 1, d, x4, hm, hx, hd => by
    refine t_167_11 ⟨fun c => ?_, fun c => ?_⟩
    · rw [i_lt, hx, hn] at c
      have : d = nd := by omega
      subst this; exact hq.le (by omega)
    · rw [i_lt, hx, hn] at c
      refine ofD_spec (m := 17 + 9 * d) hx (by omega) (j := 1) rfl (by omega) (by omega) ?_
      intro r e; cases e
      have go := ruML1 h5 hn hq m (d + 1) (x4 + 1) (by omega) (i_s hx (by omega)) (by omega)
      have e1 : weF (κ1 131) (d + 1) = weF (κ1 131) d ||| (κ1 131 (17 + 9 * d) <<< (Int32.ofNat d &&& 31)) := rfl
      rw [e1, ← i_on hx] at go; exact go
theorem ruleM (h : HM nv nd κ) : PC xl n 167 0 [(0, .ref 129), (1, .int x1)] [] κ (MR (rO 0 (κ 130)) (ruleO nv nd (rO 0 (κ 130)) x1) κ) := by
  refine (t_167_0 (st_M h (fun κ1 g1 g2 g3 g4 g5 g6 g7 => ?_))).weak
  refine ruML1 (n := n) h.2.1.1 g6 (ruML2 (n := n) (y := weF (κ1 131) nd) h.1.1 g5 ?_ n 0 0 (Nat.le_refl _) rfl (Nat.zero_le _)) n 0 0 (Nat.le_refl _) rfl (Nat.zero_le _)
  have fin : ∀ r, MR (rO 0 (κ 130)) r κ (some (.int r)) κ1 := fun r => MR.same g1 g2
  unfold ruleO
  refine (t_167_42 ⟨fun c => ?_, fun c => ?_⟩).weak
  · rw [rf_129_0, g2, show (52 : Int32).toNatClampNeg = 52 from rfl]
    refine ⟨fun c => ?_, fun c => ?_, fun c _ _ => ?_, fun c => ?_, fun c => ?_, fun c => ?_, fun c => ?_⟩
    · rw [if_pos c, i_on g5]; exact fin _
    · rw [if_neg (by omega), if_pos c, i_on g6]; exact fin _
    · rw [if_neg (by omega), if_neg (by omega), if_pos c, r_st (by omega)]; exact fin _
    · rw [if_neg (by omega), if_neg (by omega), if_neg (by omega), if_pos c, g3]; exact fin _
    · rw [if_neg (by omega), if_neg (by omega), if_neg (by omega), if_neg (by omega), if_pos c]
      refine wrM_spec (by rw [g3]; exact h.2.2) g6 h.2.1.1 ?_
      intro r e; cases e
      rw [g3]; exact fin _
    · rw [if_neg (by omega), if_neg (by omega), if_neg (by omega), if_neg (by omega), if_neg (by omega), if_pos c, g3]; exact fin _
    · rw [if_neg (by omega), if_neg (by omega), if_neg (by omega), if_neg (by omega), if_neg (by omega), if_neg (by omega)]; exact fin _
  · rw [i_lt, g5, i_of (by have := h.1.1; omega)] at c; omega
def visO (nv : Nat) (f : Nat → Int32) (x1 x2 : Int32) : Int32 := if 0 ≤ x1.toInt ∧ x1.toInt < nv ∧ 0 ≤ x2.toInt ∧ x2.toInt ≤ 4 then (if x2.toInt = 4 then owF f x1.toInt.toNat else f (4 * x1.toInt.toNat + x2.toInt.toNat)) else -1
theorem visitorX (h : HX nv nd f ι) : PC xl n 62 0 [(0, .ref 0), (1, .int x1), (2, .int x2)] [] ι (XR nv nd f (visO nv f x1 x2) ι) := by
  have h4 := h.tw.1.1
  refine (t_62_0 ?_).weak
  rw [rf_0_2']
  unfold visO
  refine hasV_spec h.tw.1.2 (fun c => ?_) (fun v hv hvl r hr => ?_)
  · intro r e; cases e
    rw [if_neg (by omega)]
    exact ⟨fun q => absurd rfl q, fun _ => h.same⟩
  · intro r2 e; cases e
    refine ⟨fun _ _ _ => ?_, fun q => absurd q hr⟩
    have hV := h.tw.2.2.1 v hvl
    rw [i_ixn hv, town_v (u := 25) (by decide) (v := v) (by omega), hV.1, hV.2.1, hV.2.2.1, hV.2.2.2, hv, Int.toNat_natCast]
    refine ⟨fun c => ?_, fun c => ?_, fun c => ?_, fun c => ?_, fun c => ?_, fun c => ?_⟩
    · rw [if_pos (by omega), if_neg (by omega), c]; exact h.same
    · rw [if_pos (by omega), if_neg (by omega), c]; exact h.same
    · rw [if_pos (by omega), if_neg (by omega), c]; exact h.same
    · rw [if_pos (by omega), if_neg (by omega), c]; exact h.same
    · rw [if_pos (by omega), if_pos c]
      refine brX_spec (by decide) h.tw h.bo hv hvl ?_
      intro r e; cases e
      have : brF (-4) 0 f v = owF f v := if_neg (by omega)
      rw [this]; exact h.same
    · rw [if_neg (by omega)]; exact h.same
theorem visitorM (h : HM nv nd κ) : PC xl n 176 0 [(0, .ref 129), (1, .int x1), (2, .int x2)] [] κ (MR (rO 0 (κ 130)) (visO nv (rO 0 (κ 130)) x1 x2) κ) := by
  have h4 := h.1.1
  unfold visO
  refine (t_176_0 (isV_spec h.1.2 h.1.1 (fun c => ?_) (fun v hv hvl r hr => ?_))).weak
  · intro r e; cases e
    rw [if_neg (by omega)]
    exact ⟨fun _ => MR.same MG.rfl rfl, fun q => absurd rfl q⟩
  · intro r2 e; cases e
    refine ⟨fun q => absurd q hr, fun _ => inL (l := 0) (g := 4) rfl rfl (fun r hr => ?_)⟩
    intro r2 e; cases e
    refine ⟨fun c => ?_, fun c => ?_⟩
    · have c2 : 0 ≤ x2.toInt ∧ x2.toInt ≤ 4 := by false_or_by_contra; rename_i hh; exact c (hr.mpr hh)
      rw [if_pos (by omega)]
      refine st_M h (fun κ1 g1 g2 g3 g4 g5 g6 g7 => ⟨fun c3 => brM_spec hv (by omega) g7 ?_, fun c3 => of_spec (m := 4 * v + x2.toInt.toNat) hv (by omega) (j := x2.toInt.toNat) (by omega) (by omega) (by omega) ?_⟩)
      · intro r e; cases e
        rw [i_lt, n4] at c3
        rw [if_pos (by omega), g3, hv, Int.toNat_natCast]
        have : brF (-4) 0 (rO 0 (κ 130)) v = owF (rO 0 (κ 130)) v := if_neg (by omega)
        rw [this]; exact MR.same g1 g2
      · intro r e; cases e
        rw [i_lt, n4] at c3
        rw [if_neg (by omega), g3, hv, Int.toNat_natCast]; exact MR.same g1 g2
    · rw [if_neg (by have := hr.mp c; omega)]; exact MR.same MG.rfl rfl
def doorO (nd : Nat) (f : Nat → Int32) (x1 x2 : Int32) : Int32 := if 0 ≤ x1.toInt ∧ x1.toInt < nd then (if x2.toInt = 0 then f (16 + 9 * x1.toInt.toNat) else if x2.toInt = 1 then shF f x1.toInt.toNat else if x2.toInt = 2 then f (18 + 9 * x1.toInt.toNat) else if x2.toInt = 3 then f (17 + 9 * x1.toInt.toNat) else if 10 ≤ x2.toInt ∧ x2.toInt < 16 then (if x2.toInt - 10 < (f (16 + 9 * x1.toInt.toNat)).toInt then f (19 + 9 * x1.toInt.toNat + (x2.toInt - 10).toNat) else -4) else -1) else -1
theorem i_10 {x : Int32} (h : 10 ≤ x.toInt) : (x - 10).toInt = x.toInt - 10 := by
  have := i_rng x
  have t : (10 : Int32).toInt = 10 := rfl
  rw [i_sub (by rw [t]; omega), t]
theorem layX_spec {a d i : Nat} (hr : rf a 0 = a + 1) (hD : DX a d f ι) (hx : x1.toInt = i) (h : Q (some (.int (if (i : Int) < (f (16 + 9 * d)).toInt then f (19 + 9 * d + i) else -4))) ι) : PC xl n 65 0 [(0, .ref a), (1, .int x1)] [] ι Q := by
  refine (t_65_0 ⟨fun c => ?_, fun c => ⟨fun c2 => ?_, fun c2 _ _ => ?_⟩⟩).weak
  · rw [i_lt, hx, n0] at c; omega
  · rw [i_lt, hx, hD.1] at c2
    rw [if_neg c2] at h; exact h
  · rw [i_lt, hx, hD.1] at c2
    rw [if_pos c2] at h
    rw [hr, i_ixn hx, hD.2.2.2 i c2]; exact h
theorem doorX (h : HX nv nd f ι) : PC xl n 64 0 [(0, .ref 0), (1, .int x1), (2, .int x2)] [] ι (XR nv nd f (doorO nd f x1 x2) ι) := by
  have h5 := h.tw.2.1.1
  have t10 : (10 : Int32).toInt = 10 := rfl
  have t16 : (16 : Int32).toInt = 16 := rfl
  refine (t_64_0 ?_).weak
  rw [rf_0_2']
  unfold doorO
  refine hasDr_spec h.tw.2.1.2 (fun c => ?_) (fun d hd hdl r hr => ?_)
  · intro r e; cases e
    rw [if_neg (by omega)]
    exact ⟨fun q => absurd rfl q, fun _ => h.same⟩
  · intro r2 e; cases e
    refine ⟨fun _ _ _ => ?_, fun q => absurd q hr⟩
    have hD := h.tw.2.2.2 d hdl
    have hW := h.2.2.1 d (by omega)
    obtain ⟨tr1, tr2⟩ := town_d (u := 25) (by decide) (d := d) (by omega)
    rw [i_ixn hd, tr1, hd, Int.toNat_natCast, if_pos (by omega)]
    have l50 : ¬ (10 ≤ x2.toInt ∧ x2.toInt < 16) → PC xl n 64 50 [(0, .ref 0), (1, .int x1), (2, .int x2), (3, .ref (25 + 7 + 2 * d))] [] ι (XR nv nd f (if x2.toInt = 0 then f (16 + 9 * d) else if x2.toInt = 1 then shF f d else if x2.toInt = 2 then f (18 + 9 * d) else if x2.toInt = 3 then f (17 + 9 * d) else if 10 ≤ x2.toInt ∧ x2.toInt < 16 then (if x2.toInt - 10 < (f (16 + 9 * d)).toInt then f (19 + 9 * d + (x2.toInt - 10).toNat) else -4) else -1) ι) := by
      intro hn
      rw [if_neg hn]
      refine (t_64_50 ?_).weak
      rw [hD.1, hD.2.1, hD.2.2.1]
      refine ⟨fun c => ?_, fun c => ?_, fun c => ?_, fun c => ?_, fun c => ?_⟩
      · rw [if_pos c]; exact h.same
      · rw [if_neg (by omega), if_pos c]
        refine shX_spec tr2 hD hW.1 ?_
        intro r e; cases e; exact h.same
      · rw [if_neg (by omega), if_neg (by omega), if_pos c]; exact h.same
      · rw [if_neg (by omega), if_neg (by omega), if_neg (by omega), if_pos c]
        refine ⟨fun c2 => ?_, fun c2 => ?_⟩
        · rw [c2]; exact h.same
        · rw [hW.2.1.resolve_left c2]; exact h.same
      · rw [if_neg (by omega), if_neg (by omega), if_neg (by omega), if_neg (by omega)]; exact h.same
    refine ⟨fun c => l50 ?_, fun c => ⟨fun c2 => l50 ?_, fun c2 => ?_⟩⟩
    · rw [i_lt, t10] at c; omega
    · rw [i_lt, t16] at c2; omega
    · rw [i_lt, t10] at c
      rw [i_lt, t16] at c2
      rw [if_neg (by omega), if_neg (by omega), if_neg (by omega), if_neg (by omega), if_pos (by omega)]
      refine layX_spec (i := (x2.toInt - 10).toNat) tr2 hD (by rw [i_10 (by omega)]; omega) ?_
      intro r e; cases e
      rw [show (((x2.toInt - 10).toNat : Nat) : Int) = x2.toInt - 10 by omega]
      exact h.same
theorem doorM (h : HM nv nd κ) : PC xl n 180 0 [(0, .ref 129), (1, .int x1), (2, .int x2)] [] κ (MR (rO 0 (κ 130)) (doorO nd (rO 0 (κ 130)) x1 x2) κ) := by
  have h5 := h.2.1.1
  unfold doorO
  refine (t_180_0 (isD_spec h.2.1.2 h.2.1.1 (fun c => ?_) (fun d hd hdl r hr => ?_))).weak
  · intro r e; cases e
    rw [if_neg (by omega)]
    exact ⟨fun q => absurd rfl q, fun _ => MR.same MG.rfl rfl⟩
  · intro r2 e; cases e
    refine ⟨fun _ => st_M h (fun κ1 g1 g2 g3 g4 g5 g6 g7 => ?_), fun q => absurd q hr⟩
    have fin : ∀ r, MR (rO 0 (κ 130)) r κ (some (.int r)) κ1 := fun r => MR.same g1 g2
    have hW : WD (κ1 131) d := by rw [g3]; exact h.2.2.1 d (by omega)
    rw [hd, Int.toNat_natCast, if_pos (by omega), ← g3]
    rw [← g3] at fin
    refine ⟨fun c => ofD_spec (m := 16 + 9 * d) hd (by omega) (j := 0) rfl (by omega) (by omega) ?_, fun c => shM_spec hd (by omega) hW.1 ?_, fun c => ofD_spec (m := 18 + 9 * d) hd (by omega) (j := 2) rfl (by omega) (by omega) ?_, fun c => ofD_spec (m := 17 + 9 * d) hd (by omega) (j := 1) rfl (by omega) (by omega) ?_, fun c => inL (l := 0) (g := 5) rfl rfl (fun r hr => ?_)⟩
    · intro r e; cases e; rw [if_pos c]; exact fin _
    · intro r e; cases e; rw [if_neg (by omega), if_pos c]; exact fin _
    · intro r e; cases e; rw [if_neg (by omega), if_neg (by omega), if_pos c]; exact fin _
    · intro r e; cases e; rw [if_neg (by omega), if_neg (by omega), if_neg (by omega), if_pos c]; exact fin _
    · intro r2 e; cases e
      rw [if_neg (by omega), if_neg (by omega), if_neg (by omega), if_neg (by omega)]
      have t10 : (10 : Int32).toInt = 10 := rfl
      have hx := i_rng x2
      have key : (0 ≤ (x2 - 10).toInt ∧ (x2 - 10).toInt ≤ 5) ↔ (10 ≤ x2.toInt ∧ x2.toInt < 16) := by
        by_cases g : -2147483638 ≤ x2.toInt
        · rw [i_sub (by rw [t10]; omega), t10]; omega
        · have : (x2 - 10).toInt = x2.toInt - 10 + 4294967296 := by
            rw [Int32.toInt_sub, t10, Int.bmod_def]; omega
          omega
      refine ⟨fun c2 => ofD_spec (m := 16 + 9 * d) hd (by omega) (j := 0) rfl (by omega) (by omega) ?_, fun c2 => ?_⟩
      · have c3 : 10 ≤ x2.toInt ∧ x2.toInt < 16 := by false_or_by_contra; rename_i hh; exact c2 (hr.mpr (fun q => hh (key.mp q)))
        intro r e; cases e
        rw [if_pos c3]
        have e10 := i_10 (x := x2) (by omega)
        refine ⟨fun c4 => ?_, fun c4 => layM_spec (j := (x2.toInt - 10).toNat) hd (by omega) (by rw [e10]; omega) (by omega) ?_⟩
        · rw [i_lt, e10] at c4
          rw [if_neg c4]; exact fin _
        · rw [i_lt, e10] at c4
          intro r e; cases e
          rw [if_pos c4]; exact fin _
      · rw [if_neg (fun q => (hr.mp c2) (key.mpr q))]; exact fin _
def planO (f : Nat → Int32) (x : Int32) : Int32 := if 0 ≤ x.toInt ∧ x.toInt < (f 52).toInt then f (53 + x.toInt.toNat) else -1
theorem planX (h : HX nv nd f ι) : PC xl n 66 0 [(0, .ref 0), (1, .int x1)] [] ι (XR nv nd f (planO f x1) ι) := by
  have hP := h.1.2.1
  refine (t_66_0 ?_).weak
  rw [rf_0_2, hP.1, show rf 24 1 = 24 + 16 from rfl]
  unfold planO
  refine ⟨fun c => ?_, fun c => ⟨fun c2 => ?_, fun c2 _ _ => ?_⟩⟩
  · rw [i_lt, n0] at c
    rw [if_neg (by omega)]; exact h.same
  · rw [i_lt] at c2
    rw [if_neg (by omega)]; exact h.same
  · rw [i_lt, n0] at c
    rw [i_lt] at c2
    rw [if_pos (by omega), i_ixn (p := x1.toInt.toNat) (by omega), (hP.2.2 x1.toInt.toNat (by omega)).1]; exact h.same
theorem planM (h : HM nv nd κ) (h8 : 0 ≤ (rO 0 (κ 130) 52).toInt ∧ (rO 0 (κ 130) 52).toInt ≤ 8) : PC xl n 182 0 [(0, .ref 129), (1, .int x1)] [] κ (MR (rO 0 (κ 130)) (planO (rO 0 (κ 130)) x1) κ) := by
  have t53 : (53 : Int32).toInt = 53 := rfl
  have e52 : rO 0 (κ 130) 52 = κ 130 52 := r_st (by omega)
  refine (t_182_0 (fun _ _ => ?_)).weak
  rw [rf_129_0, show (52 : Int32).toNatClampNeg = 52 from rfl, ← e52]
  have e1 : (rO 0 (κ 130) 52 - 1).toInt = (rO 0 (κ 130) 52).toInt - 1 := by rw [i_sub (by rw [n1]; omega), n1]
  unfold planO
  refine in32 rfl (fun r hr => ?_)
  rw [e1] at hr
  intro r2 e; cases e
  refine ⟨fun c => ?_, fun c _ _ => ?_⟩
  · rw [if_neg (by have := hr.mp c; omega)]; exact MR.same MG.rfl rfl
  · have c2 : 0 ≤ x1.toInt ∧ x1.toInt ≤ (rO 0 (κ 130) 52).toInt - 1 := by false_or_by_contra; rename_i hh; exact c (hr.mpr hh)
    rw [if_pos (by omega), i_ixn (p := 53 + x1.toInt.toNat) (by rw [i_add (by rw [t53]; omega), t53]; omega), r_st (by omega)]
    exact MR.same MG.rfl rfl
def usesO (nv nd : Nat) (f : Nat → Int32) (x1 x2 : Int32) : Int32 := if 0 ≤ x1.toInt ∧ x1.toInt < nv ∧ 0 ≤ x2.toInt ∧ x2.toInt < nd then usF f x1.toInt.toNat x2.toInt.toNat else -1
theorem usesX (h : HX nv nd f ι) : PC xl n 67 0 [(0, .ref 0), (1, .int x1), (2, .int x2)] [] ι (XR nv nd f (usesO nv nd f x1 x2) ι) := by
  refine (t_67_0 ?_).weak
  rw [rf_0_2']
  unfold usesO
  refine coX_spec (by decide) h.tw (fun c => ?_) (fun v d hv hvl hd hdl => ?_)
  · intro r e; cases e
    rw [if_neg c]; exact h.same
  · intro r e; cases e
    rw [if_pos (by omega), hv, hd, Int.toNat_natCast, Int.toNat_natCast]; exact h.same
theorem usesM (h : HM nv nd κ) : PC xl n 183 0 [(0, .ref 129), (1, .int x1), (2, .int x2)] [] κ (MR (rO 0 (κ 130)) (usesO nv nd (rO 0 (κ 130)) x1 x2) κ) := by
  have h4 := h.1.1
  have h5 := h.2.1.1
  unfold usesO
  refine (t_183_0 (isV_spec h.1.2 h.1.1 (fun c => ?_) (fun v hv hvl r hr => ?_))).weak
  · intro r e; cases e
    rw [if_neg (by omega)]
    exact ⟨fun _ => MR.same MG.rfl rfl, fun q => absurd rfl q⟩
  · intro r2 e; cases e
    refine ⟨fun q => absurd q hr, fun _ => isD_spec h.2.1.2 h.2.1.1 (fun c => ?_) (fun d hd hdl r hr => ?_)⟩
    · intro r e; cases e
      rw [if_neg (by omega)]
      exact ⟨fun q => absurd rfl q, fun _ => MR.same MG.rfl rfl⟩
    · intro r2 e; cases e
      refine ⟨fun _ => st_M h (fun κ1 g1 g2 g3 g4 g5 g6 g7 => usM_spec hv (by omega) hd (by omega) ?_), fun q => absurd q hr⟩
      intro r e; cases e
      rw [if_pos (by omega), hv, hd, Int.toNat_natCast, Int.toNat_natCast, g3]; exact MR.same g1 g2
def readsO (nv nd : Nat) (f : Nat → Int32) (x : Int32) : Int32 := if 0 ≤ x.toInt ∧ x.toInt < nv then rdF f nd x.toInt.toNat else -1
theorem rdXL {v : Nat} {w : Value} (h : HX nv nd f ι) (hq : Q (some (.int (rdF f nd v))) ι) : ∀ (n d : Nat) (x4 : Int32), x4.toInt = d → d ≤ nd → PC xl n 109 33 [(0, .ref 0), (1, w), (2, .int (owF f v)), (3, .int (rdF f d v)), (4, .int x4)] [] ι Q
  | 0, _, _, _, _ => PC.zero
  | n + 1, d, x4, hx, hd => by
    have h5 := h.tw.2.1.1
    have hlt : x4 < ι 25 3 ↔ d < nd := by rw [i_lt, hx, h.tw.2.1.2]; omega
    refine t_109_33 ?_
    rw [rf_0_2']
    refine ⟨fun c => ?_, fun c _ _ => ?_⟩
    · have : d = nd := by
        have := mt hlt.mpr c; omega
      subst this; exact hq
    · have hdl := hlt.mp c
      obtain ⟨tr1, tr2⟩ := town_d (u := 25) (by decide) (d := d) (by omega)
      rw [i_ixn hx, tr1]
      have go := rdXL (w := w) h hq n (d + 1) (x4 + 1) (i_s hx (by omega)) hdl
      have e1 : rdF f (d + 1) v = rdF f d v ||| (hlF f d (owF f v) (f (16 + 9 * d)).toInt.toNat <<< (Int32.ofNat d &&& 31)) := rfl
      refine hlX_spec tr2 (h.tw.2.2.2 d hdl) (h.2.2.1 d (by omega)).1.1 ?_
      intro r e; cases e
      refine ⟨fun c2 => ?_, fun c2 => ?_⟩
      · rw [e1, c2, z_shl, z_or] at go; exact go
      · rw [e1, (hl_01 _).resolve_left c2, ← i_on hx] at go; exact go
theorem readsX (h : HX nv nd f ι) : PC xl n 109 0 [(0, .ref 0), (1, .int x1)] [] ι (XR nv nd f (readsO nv nd f x1) ι) := by
  refine (t_109_0 ?_).weak
  rw [rf_0_2']
  unfold readsO
  refine hasV_spec h.tw.1.2 (fun c => ?_) (fun v hv hvl r hr => ?_)
  · intro r e; cases e
    rw [if_neg c]
    exact ⟨fun q => absurd rfl q, fun _ => h.same⟩
  · intro r2 e; cases e
    refine ⟨fun _ => brX_spec (by decide) h.tw h.bo hv hvl ?_, fun q => absurd q hr⟩
    intro r e; cases e
    have : brF (-4) 0 f v = owF f v := if_neg (by omega)
    rw [this, if_pos (by omega), hv, Int.toNat_natCast]
    exact rdXL h h.same n 0 0 rfl (Nat.zero_le _)
theorem rdM1 {v d h : Nat} {κ1 : IS} {y : Int32} (hv : x1.toInt = v) (hv4 : v < 4) (hB : BM2 (-4) 0 κ1) (hd : x3.toInt = d) (hd4 : d < 4) (hh : (κ1 131 (16 + 9 * d)).toInt = h) (h6 : h ≤ 6) (hq : ∀ w5 : Value, PC xl n 216 18 [(0, .ref 129), (1, .int x1), (2, .int (y ||| (hlF (κ1 131) d (owF (κ1 131) v) h <<< (x3 &&& 31)))), (3, .int (x3 + 1)), (4, .int (hlF (κ1 131) d (owF (κ1 131) v) h)), (5, w5)] [] κ1 Q) : ∀ (m i : Nat) (x5 : Int32), m ≤ n + 1 → x5.toInt = i → i ≤ h → PC xl m 216 32 [(0, .ref 129), (1, .int x1), (2, .int y), (3, .int x3), (4, .int (hlF (κ1 131) d (owF (κ1 131) v) i)), (5, .int x5)] [] κ1 Q
  | 0, _, _, _, _, _ => PC.zero
  | m + 1, i, x5, hm, hx, hi => by
    refine t_216_32 (ofD_spec (m := 16 + 9 * d) hd hd4 (j := 0) rfl (by omega) (by omega) ?_)
    intro r e; cases e
    have nxt : ∀ u0 : Int32, ∀ w4 : Value, u0 = hlF (κ1 131) d (owF (κ1 131) v) (i + 1) → i < h → PC xl m 216 68 [(0, .ref 129), (1, .int x1), (2, .int y), (3, .int x3), (4, w4), (5, .int x5)] [.int u0] κ1 Q := by
      intro u0 w4 e hi2
      rw [e]
      exact (t_216_68 (rdM1 hv hv4 hB hd hd4 hh h6 hq m (i + 1) (x5 + 1) (by omega) (i_s hx (by omega)) hi2)).weak
    refine ⟨fun c => ?_, fun c => ⟨fun c2 => ?_, fun c2 => layM_spec (j := i) hd hd4 hx (by rw [i_lt, hx, hh] at c; omega) ?_⟩⟩
    · rw [i_lt, hx, hh] at c
      have : i = h := by omega
      subst this
      refine (t_175_0 ⟨fun c2 => ?_, fun c2 => ?_⟩).weak
      · intro r e; cases e
        have := hq (.int x5)
        rw [c2] at this ⊢; exact this.le (by omega)
      · intro r e; cases e
        have := hq (.int x5)
        rw [(hl_01 _).resolve_left c2] at this ⊢; exact this.le (by omega)
    · rw [i_lt, hx, hh] at c
      refine (t_216_63 (nxt 1 _ ?_ (by omega))).weak
      simp only [hlF]
      rw [if_neg c2]
    · intro r e; cases e
      rw [i_lt, hx, hh] at c
      refine brM_spec hv hv4 hB ?_
      intro r e; cases e
      have eb : brF (-4) 0 (κ1 131) v = owF (κ1 131) v := if_neg (by omega)
      rw [eb]
      refine ⟨fun c3 => nxt 0 _ ?_ (by omega), fun c3 => (t_216_63 (nxt 1 _ ?_ (by omega))).weak⟩
      · simp only [hlF]
        rw [if_pos c2, if_neg c3]
      · simp only [hlF]
        rw [if_pos c2, if_pos c3]
theorem rdML {v : Nat} {κ1 : IS} (hv : x1.toInt = v) (hv4 : v < 4) (hB : BM2 (-4) 0 κ1) (hw : WF (κ1 131)) (h5 : nd ≤ 4) (hn : (κ1 129 4).toInt = nd) (hq : Q (some (.int (rdF (κ1 131) nd v))) κ1) : ∀ (n d : Nat) (x3 : Int32) (w4 w5 : Value), x3.toInt = d → d ≤ nd → PC xl n 216 18 [(0, .ref 129), (1, .int x1), (2, .int (rdF (κ1 131) d v)), (3, .int x3), (4, w4), (5, w5)] [] κ1 Q
  | 0, _, _, _, _, _, _ => PC.zero
  | n + 1, d, x3, w4, w5, hx, hd => by
    refine t_216_18 ⟨fun c => ?_, fun c => ?_⟩
    · rw [i_lt, hx, hn] at c
      have : d = nd := by omega
      subst this; exact hq
    · rw [i_lt, hx, hn] at c
      have hW := hw.1 d (by omega)
      refine rdM1 (n := n) (h := (κ1 131 (16 + 9 * d)).toInt.toNat) hv hv4 hB hx (by omega) (by have := hW.1.1; omega) (by have := hW.1.2; omega) (fun w => ?_) n 0 0 (by omega) rfl (Nat.zero_le _)
      have go := fun w4 w5 => rdML hv hv4 hB hw h5 hn hq n (d + 1) (x3 + 1) w4 w5 (i_s hx (by omega)) (by omega)
      have e1 : rdF (κ1 131) (d + 1) v = rdF (κ1 131) d v ||| (hlF (κ1 131) d (owF (κ1 131) v) (κ1 131 (16 + 9 * d)).toInt.toNat <<< (Int32.ofNat d &&& 31)) := rfl
      rw [e1, ← i_on hx] at go
      exact go _ _
theorem readsM (h : HM nv nd κ) : PC xl n 216 0 [(0, .ref 129), (1, .int x1)] [] κ (MR (rO 0 (κ 130)) (readsO nv nd (rO 0 (κ 130)) x1) κ) := by
  have h4 := h.1.1
  unfold readsO
  refine (t_216_0 (isV_spec h.1.2 h.1.1 (fun c => ?_) (fun v hv hvl r hr => ?_))).weak
  · intro r e; cases e
    rw [if_neg c]
    exact ⟨fun q => absurd rfl q, fun _ => MR.same MG.rfl rfl⟩
  · intro r2 e; cases e
    refine ⟨fun _ => st_M h (fun κ1 g1 g2 g3 g4 g5 g6 g7 => ?_), fun q => absurd q hr⟩
    rw [if_pos (by omega), hv, Int.toNat_natCast]
    refine rdML hv (by omega) g7 (by rw [g3]; exact h.2.2) h.2.1.1 g6 ?_ n 0 0 _ _ rfl (Nat.zero_le _)
    rw [g3]; exact MR.same g1 g2
end OpA
