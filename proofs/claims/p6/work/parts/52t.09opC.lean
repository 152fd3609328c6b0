/-! CALLS, III: plans, cut, see, forget -/
/-- counts of THE PLAN, of what was SEEN, in the model -/
def HP (κ : IS) : Prop := (0 ≤ (rO 0 (κ 130) 52).toInt ∧ (rO 0 (κ 130) 52).toInt ≤ 8) ∧ 0 ≤ (rO 0 (κ 130) 61).toInt ∧ (rO 0 (κ 130) 61).toInt ≤ 6
abbrev okAct (nv nd : Nat) (z : Int) : Prop := (90 ≤ z ∧ z ≤ 92) ∨ (0 ≤ z ∧ z / 10 < nv ∧ z % 10 < nd)
def plG (nv nd : Nat) (f : Nat → Int32) (x : Int32) : Nat → Int32 := if okAct nv nd x.toInt ∧ (f 52).toInt < 8 then fs (fs f (53 + (f 52).toInt.toNat) x) 52 (f 52 + 1) else f
def plR (nv nd : Nat) (f : Nat → Int32) (x : Int32) : Int32 := if okAct nv nd x.toInt then (if (f 52).toInt < 8 then f 52 + 1 else -3) else -1
def cuG (f : Nat → Int32) (m : Nat) (x : Int32) : Nat → Int32 := if 0 ≤ x.toInt ∧ x.toInt ≤ (f m).toInt then fs f m x else f
def cuR (f : Nat → Int32) (m : Nat) (x : Int32) : Int32 := if 0 ≤ x.toInt ∧ x.toInt ≤ (f m).toInt then f m else -1
abbrev okSee (nd : Nat) (x1 x2 x3 : Int32) : Prop := (0 ≤ x1.toInt ∧ x1.toInt < nd) ∧ (0 ≤ x2.toInt ∧ x2.toInt < 6) ∧ ((0 ≤ x3.toInt ∧ x3.toInt ≤ 5) ∨ x3 = -4)
def seF (f : Nat → Int32) (c : Nat) (x1 x2 x3 : Int32) : Nat → Int32 := fs (fs (fs (fs f (62 + 3 * c) x1) (63 + 3 * c) x2) (64 + 3 * c) x3) 61 (f 61 + 1)
def seG (nd : Nat) (f : Nat → Int32) (x1 x2 x3 : Int32) : Nat → Int32 := if okSee nd x1 x2 x3 ∧ (f 61).toInt < 6 then seF f (f 61).toInt.toNat x1 x2 x3 else f
def seR (nd : Nat) (f : Nat → Int32) (x1 x2 x3 : Int32) : Int32 := if okSee nd x1 x2 x3 then (if (f 61).toInt < 6 then f 61 + 1 else -3) else -1
section OpC
variable {xl : List Int32} {n : Nat} {ι ι1 κ κ1 : IS} {nv nd : Nat} {f g : Nat → Int32} {x1 x2 x3 : Int32} {Q : Option Value → IS → Prop} {r : Int32}
theorem rf_24_1 : rf 24 1 = 40 := by decide +kernel
theorem rf_24_3 : rf 24 3 = 41 := by decide +kernel
theorem rf_24_4 : rf 24 4 = 42 := by decide +kernel
theorem rf_24_5 : rf 24 5 = 43 := by decide +kernel
theorem n8 : (8 : Int32).toInt = 8 := rfl
theorem n53 : (53 : Int32).toInt = 53 := rfl
theorem c52 : (52 : Int32).toNatClampNeg = 52 := rfl
theorem c61 : (61 : Int32).toNatClampNeg = 61 := rfl
/-- THE PLAN or what was SEEN is told anew -/
theorem HX.told (h : HX nv nd f ι) (hs : ∀ a j, ¬ (a = 24 ∧ (j = 2 ∨ j = 6)) → ¬ (40 ≤ a ∧ a ≤ 43) → ι1 a j = ι a j) (hg : ∀ k, k < 52 → g k = f k) (hP : PX 24 nv nd g ι1) (hS : SX 24 nd g ι1) : XR nv nd g r ι (some (.int r)) ι1 :=
  ⟨rfl, fun a j g1 g2 g3 => hs a j (by omega) (by omega), by rw [hs 25 4 (by omega) (by omega)]; exact h.2.1, (h.tw.row hg h.2.2).keep (fun a j g1 g2 => hs a j (by omega) (by omega)), hP, hS⟩
theorem plansX (h : HX nv nd f ι) : PC xl n 84 0 [(0, .ref 0), (1, .int x1)] [] ι (XR nv nd (plG nv nd f x1) (plR nv nd f x1) ι) := by
  have h4 := h.tw.1.1
  have h5 := h.tw.2.1.1
  have hP := h.1.2.1
  have hS := h.1.2.2
  have b1 := hP.2.1
  refine (t_84_0 (isAct_spec rfl (fun r hr => ?_))).weak
  rw [rf_0_2', rf_0_2]
  unfold plG plR
  have bad : ¬ okAct nv nd x1.toInt → XR nv nd (if okAct nv nd x1.toInt ∧ (f 52).toInt < 8 then fs (fs f (53 + (f 52).toInt.toNat) x1) 52 (f 52 + 1) else f) (if okAct nv nd x1.toInt then (if (f 52).toInt < 8 then f 52 + 1 else -3) else -1) ι (some (.int (-1))) ι := fun q => by rw [if_neg (fun q2 => q q2.1), if_neg q]; exact h.same
  intro r2 e; cases e
  refine ⟨fun c => bad (fun q => (hr.mp c) ?_), fun c => ?_⟩
  · unfold okAct at q; unfold actP; omega
  have ca : actP x1.toInt := by false_or_by_contra; rename_i hh; exact c (hr.mpr hh)
  have c0 : 0 ≤ x1.toInt := by unfold actP at ca; omega
  refine knows_spec rfl c0 h.tw.1.2 h.tw.2.1.2 (fun r hr2 => ?_)
  intro r2 e; cases e
  refine ⟨fun c2 => ?_, fun c2 => bad (fun q => (hr2.mp c2) ?_)⟩
  · have ck : knP nv nd x1.toInt := by false_or_by_contra; rename_i hh; exact c2 (hr2.mpr hh)
    have ok : okAct nv nd x1.toInt := by unfold okAct; unfold knP at ck; omega
    rw [if_pos ok]
    obtain ⟨q, hq⟩ : ∃ q : Nat, (f 52).toInt = q := ⟨(f 52).toInt.toNat, by omega⟩
    refine (t_43_0 ?_).weak
    rw [rf_24_1, hP.1]
    refine ⟨fun c3 _ _ => ?_, fun c3 => ?_⟩
    · rw [i_lt, n8] at c3
      intro r e; cases e
      refine ⟨fun z => absurd z (by decide), fun _ => ?_⟩
      rw [if_pos ⟨ok, c3⟩, if_pos c3, hq, Int.toNat_natCast, i_ixn hq, up_same, up_ne (by omega), hP.1]
      refine h.told (fun a j g1 g2 => by rw [up_ne (by omega), up_ne (by omega)]) (fun k hk => by rw [fs_ne (by omega), fs_ne (by omega)]) ⟨?_, ?_, fun i hi => ?_⟩ ⟨?_, ?_, fun i hi => ?_⟩
      · rw [up_same, fs_same]
      · rw [fs_same, i_s hq (by omega)]; omega
      · rw [fs_same, i_s hq (by omega)] at hi
        rw [fs_ne (by omega), up_ne (by omega)]
        by_cases e : i = q
        · subst e
          rw [up_same, fs_same]
          exact ⟨rfl, c0, ck⟩
        · rw [up_ne (by omega), fs_ne (by omega)]; exact hP.2.2 i (by omega)
      · rw [up_ne (by omega), up_ne (by omega), fs_ne (by omega), fs_ne (by omega)]; exact hS.1
      · rw [fs_ne (by omega), fs_ne (by omega)]; exact hS.2.1
      · rw [fs_ne (by omega), fs_ne (by omega)] at hi
        rw [up_ne (by omega), up_ne (by omega), up_ne (by omega), up_ne (by omega), up_ne (by omega), up_ne (by omega), fs_ne (by omega), fs_ne (by omega), fs_ne (by omega), fs_ne (by omega), fs_ne (by omega), fs_ne (by omega)]
        exact hS.2.2 i hi
    · rw [i_lt, n8] at c3
      intro r e; cases e
      rw [if_neg (fun q2 => c3 q2.2), if_neg c3]
      exact ⟨fun _ => h.same, fun z => absurd rfl z⟩
  · unfold okAct at q; unfold knP; omega
theorem isActM_spec (h : HM nv nd κ) (hq : ∀ r : Int32, (r = 0 ↔ ¬ okAct nv nd x1.toInt) → Q (some (.int r)) κ) : PC xl n 200 0 [(0, .ref 129), (1, .int x1)] [] κ Q := by
  refine (t_200_0 (inL (l := 90) (g := 92) rfl rfl (fun r hr => ?_))).weak
  intro r2 e; cases e
  refine ⟨fun c => hq 1 ⟨fun z => absurd z (by decide), fun z => ?_⟩, fun c => ⟨fun c2 => hq 0 ⟨fun _ q => ?_, fun _ => rfl⟩, fun c2 => ?_⟩⟩
  · exact absurd (Or.inl (by false_or_by_contra; rename_i hh; exact c (hr.mpr hh))) z
  · rw [i_lt, n0] at c2
    have := hr.mp c
    unfold okAct at q; omega
  · rw [i_lt, n0] at c2
    have c0 : 0 ≤ x1.toInt := by omega
    have ns := hr.mp c
    have ed := i_d10 (x := x1) rfl c0
    have em := i_m10 (x := x1) rfl c0
    refine isV_spec h.1.2 h.1.1 (fun c3 => ?_) (fun v hv hvl r hr => ?_)
    · intro r e; cases e
      refine ⟨fun _ => hq 0 ⟨fun _ q => ?_, fun _ => rfl⟩, fun z => absurd rfl z⟩
      rw [ed] at c3
      unfold okAct at q; omega
    · intro r2 e; cases e
      rw [ed] at hv
      refine ⟨fun z => absurd z hr, fun _ => isD_spec h.2.1.2 h.2.1.1 (fun c3 => ?_) (fun d hd hdl r hr => ?_)⟩
      · intro r e; cases e
        refine ⟨fun _ => hq 0 ⟨fun _ q => ?_, fun _ => rfl⟩, fun z => absurd rfl z⟩
        rw [em] at c3
        unfold okAct at q; omega
      · intro r2 e; cases e
        rw [em] at hd
        refine ⟨fun z => absurd z hr, fun _ => hq 1 ⟨fun z => absurd z (by decide), fun z => absurd (Or.inr ⟨c0, by omega, by omega⟩) z⟩⟩
theorem plansM (h : HM nv nd κ) (hp : HP κ) : PC xl n 199 0 [(0, .ref 129), (1, .int x1)] [] κ (MR (plG nv nd (rO 0 (κ 130)) x1) (plR nv nd (rO 0 (κ 130)) x1) κ) := by
  have b1 := hp.1
  have e52 : rO 0 (κ 130) 52 = κ 130 52 := r_st (by omega)
  unfold plG plR
  refine (t_199_0 (isActM_spec h (fun r hr => ?_))).weak
  intro r2 e; cases e
  rw [rf_129_0, c52, ← e52]
  refine ⟨fun c _ _ => ?_, fun c => ?_⟩
  · have ok : okAct nv nd x1.toInt := by false_or_by_contra; rename_i hh; exact c (hr.mpr hh)
    rw [if_pos ok]
    obtain ⟨q, hq⟩ : ∃ q : Nat, (rO 0 (κ 130) 52).toInt = q := ⟨(rO 0 (κ 130) 52).toInt.toNat, by omega⟩
    refine ⟨fun c2 _ _ _ _ _ _ _ _ => (t_199_52 (fun _ _ => ?_)).weak, fun c2 => ?_⟩
    · have c3 : (rO 0 (κ 130) 52).toInt < 8 := by rw [i_eq, n8] at c2; omega
      have e53 : (53 + rO 0 (κ 130) 52).toInt = (53 + q : Nat) := by rw [i_add (by rw [n53, hq]; omega), n53, hq]; omega
      rw [if_pos ⟨ok, c3⟩, if_pos c3, rf_129_0, c52, up_same, up_ne (by rw [i_ixn e53]; omega), ← e52, i_ixn e53, hq, Int.toNat_natCast]
      refine ⟨rfl, MG.up0 (by omega) (MG.up0 (by omega) MG.rfl), ?_⟩
      rw [rO_up (by omega), rO_up (by omega)]
    · have c3 : ¬ (rO 0 (κ 130) 52).toInt < 8 := by rw [c2, n8]; omega
      rw [if_neg (fun z => c3 z.2), if_neg c3]; exact MR.same MG.rfl rfl
  · have no := hr.mp c
    rw [if_neg (fun z => no z.1), if_neg no]; exact MR.same MG.rfl rfl
theorem cutX (h : HX nv nd f ι) : PC xl n 85 0 [(0, .ref 0), (1, .int x1)] [] ι (XR nv nd (cuG f 52 x1) (cuR f 52 x1) ι) := by
  have hP := h.1.2.1
  have hS := h.1.2.2
  have b1 := hP.2.1
  refine (t_85_0 ?_).weak
  rw [rf_0_2, hP.1]
  unfold cuG cuR
  refine ⟨fun c => ?_, fun c => ⟨fun c2 => ?_, fun c2 => ?_⟩⟩
  · rw [i_lt, n0] at c
    rw [if_neg (by omega), if_neg (by omega)]; exact h.same
  · rw [i_lt, n0] at c
    rw [i_lt] at c2
    rw [if_pos (by omega), if_pos (by omega)]
    refine h.told (fun a j g1 g2 => up_ne (by omega)) (fun k hk => fs_ne (by omega)) ⟨?_, ?_, fun i hi => ?_⟩ ⟨?_, ?_, fun i hi => ?_⟩
    · rw [up_same, fs_same]
    · rw [fs_same]; omega
    · rw [fs_same] at hi
      rw [up_ne (by omega), fs_ne (by omega)]; exact hP.2.2 i (by omega)
    · rw [up_ne (by omega), fs_ne (by omega)]; exact hS.1
    · rw [fs_ne (by omega)]; exact hS.2.1
    · rw [fs_ne (by omega)] at hi
      rw [up_ne (by omega), up_ne (by omega), up_ne (by omega), fs_ne (by omega), fs_ne (by omega), fs_ne (by omega)]; exact hS.2.2 i hi
  · rw [i_lt] at c2
    rw [if_neg (by omega), if_neg (by omega)]; exact h.same
theorem forgetX (h : HX nv nd f ι) : PC xl n 113 0 [(0, .ref 0), (1, .int x1)] [] ι (XR nv nd (cuG f 61 x1) (cuR f 61 x1) ι) := by
  have hP := h.1.2.1
  have hS := h.1.2.2
  have b1 := hS.2.1
  refine (t_113_0 ?_).weak
  rw [rf_0_2, hS.1]
  unfold cuG cuR
  refine ⟨fun c => ?_, fun c => ⟨fun c2 => ?_, fun c2 => ?_⟩⟩
  · rw [i_lt, n0] at c
    rw [if_neg (by omega), if_neg (by omega)]; exact h.same
  · rw [i_lt, n0] at c
    rw [i_lt] at c2
    rw [if_pos (by omega), if_pos (by omega)]
    refine h.told (fun a j g1 g2 => up_ne (by omega)) (fun k hk => fs_ne (by omega)) ⟨?_, ?_, fun i hi => ?_⟩ ⟨?_, ?_, fun i hi => ?_⟩
    · rw [up_ne (by omega), fs_ne (by omega)]; exact hP.1
    · rw [fs_ne (by omega)]; exact hP.2.1
    · rw [fs_ne (by omega)] at hi
      have := hP.2.1.2
      rw [up_ne (by omega), fs_ne (by omega)]; exact hP.2.2 i hi
    · rw [up_same, fs_same]
    · rw [fs_same]; omega
    · rw [fs_same] at hi
      rw [up_ne (by omega), up_ne (by omega), up_ne (by omega), fs_ne (by omega), fs_ne (by omega), fs_ne (by omega)]; exact hS.2.2 i (by omega)
  · rw [i_lt] at c2
    rw [if_neg (by omega), if_neg (by omega)]; exact h.same
theorem cuM1 {m : Nat} (hm : m < 80) (hx : x2.toInt = m) : ∀ r : Int32, (r = 0 ↔ ¬ (0 ≤ x1.toInt ∧ x1.toInt ≤ (rO 0 (κ 130) m).toInt)) → ((r = 0 → MR (cuG (rO 0 (κ 130)) m x1) (cuR (rO 0 (κ 130)) m x1) κ (some (.int (-1))) κ) ∧ (¬ r = 0 → PC xl n 197 0 [(0, .ref 129), (1, .int x2), (2, .int x1)] [] κ (fun v2 κ2 => ∀ r2, v2 = some (.int r2) → MR (cuG (rO 0 (κ 130)) m x1) (cuR (rO 0 (κ 130)) m x1) κ (some (.int r2)) κ2))) := by
  intro r hr
  unfold cuG cuR
  refine ⟨fun c => ?_, fun c => becSt hx ?_⟩
  · have no := hr.mp c
    rw [if_neg no, if_neg no]; exact MR.same MG.rfl rfl
  · have ok : 0 ≤ x1.toInt ∧ x1.toInt ≤ (rO 0 (κ 130) m).toInt := by false_or_by_contra; rename_i hh; exact c (hr.mpr hh)
    intro r e; cases e
    rw [if_pos ok, if_pos ok]
    exact ⟨by rw [r_st hm], MG.up0 hm MG.rfl, rO_up hm⟩
theorem cutM : PC xl n 201 0 [(0, .ref 129), (1, .int x1)] [] κ (MR (cuG (rO 0 (κ 130)) 52 x1) (cuR (rO 0 (κ 130)) 52 x1) κ) := by
  refine (t_201_0 (fun _ _ => ?_)).weak
  rw [rf_129_0, c52, ← r_st (h := κ 130) (show 52 < 80 by omega)]
  refine in32 rfl (fun r hr => ?_)
  intro r2 e; cases e
  exact cuM1 (by omega) rfl r hr
theorem forgetM : PC xl n 218 0 [(0, .ref 129), (1, .int x1)] [] κ (MR (cuG (rO 0 (κ 130)) 61 x1) (cuR (rO 0 (κ 130)) 61 x1) κ) := by
  refine (t_218_0 (fun _ _ => ?_)).weak
  rw [rf_129_0, c61, ← r_st (h := κ 130) (show 61 < 80 by omega)]
  refine in32 rfl (fun r hr => ?_)
  intro r2 e; cases e
  exact cuM1 (by omega) rfl r hr
theorem addSeenX (h : HX nv nd f ι) (ok : okSee nd x1 x2 x3) : PC xl n 112 0 [(0, .ref 24), (1, .int x1), (2, .int x2), (3, .int x3)] [] ι (fun v2 κ2 => ∀ r2, v2 = some (.int r2) → ((r2 = 0 → XR nv nd (seG nd f x1 x2 x3) (seR nd f x1 x2 x3) ι (some (.int (-3))) κ2) ∧ (¬ r2 = 0 → XR nv nd (seG nd f x1 x2 x3) (seR nd f x1 x2 x3) ι (some (.int (κ2 24 6))) κ2))) := by
  have hP := h.1.2.1
  have hS := h.1.2.2
  have b1 := hS.2.1
  have b2 := hP.2.1
  obtain ⟨q, hq⟩ : ∃ q : Nat, (f 61).toInt = q := ⟨(f 61).toInt.toNat, by omega⟩
  unfold seG seR
  rw [if_pos ok]
  refine (t_112_0 ?_).weak
  rw [rf_24_3, rf_24_4, rf_24_5]
  rw [up_ne (by omega), up_ne (by omega), up_ne (by omega), hS.1, i_ixn hq]
  refine ⟨fun c3 _ _ _ _ _ _ => (t_112_41 ?_).weak, fun c3 => ?_⟩
  · rw [i_lt, n6] at c3
    intro r e; cases e
    refine ⟨fun z => absurd z (by decide), fun _ => ?_⟩
    rw [if_pos ⟨ok, c3⟩, if_pos c3, up_same, up_ne (by omega), up_ne (by omega), up_ne (by omega), hS.1, hq, Int.toNat_natCast]
    unfold seF
    refine h.told (fun a j g1 g2 => by rw [up_ne (by omega), up_ne (by omega), up_ne (by omega), up_ne (by omega)]) (fun k hk => by rw [fs_ne (by omega), fs_ne (by omega), fs_ne (by omega), fs_ne (by omega)]) ⟨?_, ?_, fun i hi => ?_⟩ ⟨?_, ?_, fun i hi => ?_⟩
    · rw [up_ne (by omega), up_ne (by omega), up_ne (by omega), up_ne (by omega), fs_ne (by omega), fs_ne (by omega), fs_ne (by omega), fs_ne (by omega)]; exact hP.1
    · rw [fs_ne (by omega), fs_ne (by omega), fs_ne (by omega), fs_ne (by omega)]; exact hP.2.1
    · rw [fs_ne (by omega), fs_ne (by omega), fs_ne (by omega), fs_ne (by omega)] at hi
      rw [up_ne (by omega), up_ne (by omega), up_ne (by omega), up_ne (by omega), fs_ne (by omega), fs_ne (by omega), fs_ne (by omega), fs_ne (by omega)]; exact hP.2.2 i hi
    · rw [up_same, fs_same]
    · rw [fs_same, i_s hq (by omega)]; omega
    · rw [fs_same, i_s hq (by omega)] at hi
      by_cases e : i = q
      · subst e
        rw [up_ne (by omega), up_ne (by omega), up_ne (by omega), up_same, up_ne (by omega), up_ne (by omega), up_same, up_ne (by omega), up_same]
        rw [fs_ne (show ¬ 62 + 3 * i = 61 by omega), fs_ne (show ¬ 62 + 3 * i = 64 + 3 * i by omega), fs_ne (show ¬ 62 + 3 * i = 63 + 3 * i by omega), fs_same, fs_ne (show ¬ 63 + 3 * i = 61 by omega), fs_ne (show ¬ 63 + 3 * i = 64 + 3 * i by omega), fs_same, fs_ne (show ¬ 64 + 3 * i = 61 by omega), fs_same]
        unfold okSee at ok
        exact ⟨rfl, rfl, rfl, ok.1, by omega⟩
      · rw [up_ne (by omega), up_ne (by omega), up_ne (by omega), up_ne (by omega), up_ne (by omega), up_ne (by omega), up_ne (by omega), up_ne (by omega), up_ne (by omega), up_ne (by omega), up_ne (by omega), up_ne (by omega)]
        rw [fs_ne (show ¬ 62 + 3 * i = 61 by omega), fs_ne (show ¬ 62 + 3 * i = 64 + 3 * q by omega), fs_ne (show ¬ 62 + 3 * i = 63 + 3 * q by omega), fs_ne (show ¬ 62 + 3 * i = 62 + 3 * q by omega), fs_ne (show ¬ 63 + 3 * i = 61 by omega), fs_ne (show ¬ 63 + 3 * i = 64 + 3 * q by omega), fs_ne (show ¬ 63 + 3 * i = 63 + 3 * q by omega), fs_ne (show ¬ 63 + 3 * i = 62 + 3 * q by omega), fs_ne (show ¬ 64 + 3 * i = 61 by omega), fs_ne (show ¬ 64 + 3 * i = 64 + 3 * q by omega), fs_ne (show ¬ 64 + 3 * i = 63 + 3 * q by omega), fs_ne (show ¬ 64 + 3 * i = 62 + 3 * q by omega)]
        exact hS.2.2 i (by omega)
  · rw [i_lt, n6] at c3
    intro r e; cases e
    rw [if_neg (fun q2 => c3 q2.2), if_neg c3]
    exact ⟨fun _ => h.same, fun z => absurd rfl z⟩
theorem seeX (h : HX nv nd f ι) : PC xl n 111 0 [(0, .ref 0), (1, .int x1), (2, .int x2), (3, .int x3)] [] ι (XR nv nd (seG nd f x1 x2 x3) (seR nd f x1 x2 x3) ι) := by
  have bad : ¬ okSee nd x1 x2 x3 → XR nv nd (seG nd f x1 x2 x3) (seR nd f x1 x2 x3) ι (some (.int (-1))) ι := fun q => by
    unfold seG seR
    rw [if_neg (fun q2 => q q2.1), if_neg q]; exact h.same
  have l13 : ((0 ≤ x3.toInt ∧ x3.toInt ≤ 5) ∨ x3 = -4) → PC xl n 111 13 [(0, .ref 0), (1, .int x1), (2, .int x2), (3, .int x3)] [] ι (XR nv nd (seG nd f x1 x2 x3) (seR nd f x1 x2 x3) ι) := by
    intro hc
    refine (t_111_13 ?_).weak
    rw [rf_0_2', rf_0_2]
    refine hasDr_spec h.tw.2.1.2 (fun c => ?_) (fun d hd hdl r hr => ?_)
    · intro r e; cases e
      exact ⟨fun _ => bad (fun q => c q.1), fun z => absurd rfl z⟩
    · intro r2 e; cases e
      refine ⟨fun z => absurd z hr, fun _ => ⟨fun c => bad (fun q => ?_), fun c => ⟨fun c2 => bad (fun q => ?_), fun c2 => ⟨fun _ => addSeenX h ⟨by omega, ?_, hc⟩, fun z => absurd z (by decide)⟩⟩⟩⟩
      · rw [i_lt, n0] at c; have := q.2.1; omega
      · rw [i_lt, n6] at c2; have := q.2.1; omega
      · rw [i_lt, n0] at c; rw [i_lt, n6] at c2; omega
  refine (t_111_0 (isCol_spec (fun r hr => ?_))).weak
  intro r2 e; cases e
  refine ⟨fun c => l13 (Or.inl (by false_or_by_contra; rename_i hh; exact c (hr.mpr hh))), fun c => ⟨fun c2 => ?_, fun c2 => l13 (Or.inr c2)⟩⟩
  have no := hr.mp c
  have b9 := bad (fun q => q.2.2.elim no c2)
  rw [rf_0_2', rf_0_2]
  refine hasDr_spec h.tw.2.1.2 (fun c => ?_) (fun d hd hdl r hr => ?_)
  · intro r e; cases e
    exact ⟨fun _ => b9, fun z => absurd rfl z⟩
  · intro r2 e; cases e
    exact ⟨fun z => absurd z hr, fun _ => ⟨fun _ => b9, fun _ => ⟨fun _ => b9, fun _ => ⟨fun z => absurd rfl z, fun _ => b9⟩⟩⟩⟩
theorem seeM (h : HM nv nd κ) (hp : HP κ) : PC xl n 217 0 [(0, .ref 129), (1, .int x1), (2, .int x2), (3, .int x3)] [] κ (MR (seG nd (rO 0 (κ 130)) x1 x2 x3) (seR nd (rO 0 (κ 130)) x1 x2 x3) κ) := by
  have b1 := hp.2
  have e61 : rO 0 (κ 130) 61 = κ 130 61 := r_st (by omega)
  have n62 : (62 : Int32).toInt = 62 := rfl
  unfold seG seR
  have bad : ¬ okSee nd x1 x2 x3 → MR (if okSee nd x1 x2 x3 ∧ (rO 0 (κ 130) 61).toInt < 6 then seF (rO 0 (κ 130)) (rO 0 (κ 130) 61).toInt.toNat x1 x2 x3 else rO 0 (κ 130)) (if okSee nd x1 x2 x3 then (if (rO 0 (κ 130) 61).toInt < 6 then rO 0 (κ 130) 61 + 1 else -3) else -1) κ (some (.int (-1))) κ := fun q => by rw [if_neg (fun q2 => q q2.1), if_neg q]; exact MR.same MG.rfl rfl
  have l40 : okSee nd x1 x2 x3 → PC xl n 217 40 [(0, .ref 129), (1, .int x1), (2, .int x2), (3, .int x3)] [] κ (MR (if okSee nd x1 x2 x3 ∧ (rO 0 (κ 130) 61).toInt < 6 then seF (rO 0 (κ 130)) (rO 0 (κ 130) 61).toInt.toNat x1 x2 x3 else rO 0 (κ 130)) (if okSee nd x1 x2 x3 then (if (rO 0 (κ 130) 61).toInt < 6 then rO 0 (κ 130) 61 + 1 else -3) else -1) κ) := by
    intro ok
    obtain ⟨q, hq⟩ : ∃ q : Nat, (rO 0 (κ 130) 61).toInt = q := ⟨(rO 0 (κ 130) 61).toInt.toNat, by omega⟩
    rw [if_pos ok]
    refine (t_217_40 ?_).weak
    rw [rf_129_0, c61, ← e61]
    refine fun _ _ => ⟨fun c2 _ _ _ _ _ _ => (t_217_87 (fun _ _ _ _ _ _ => (t_217_108 (fun _ _ => ?_)).weak)).weak, fun c2 => ?_⟩
    · have c3 : (rO 0 (κ 130) 61).toInt < 6 := by rw [i_eq, n6] at c2; omega
      have e3 : (3 * rO 0 (κ 130) 61).toInt = 3 * q := by rw [i_mul (by rw [n3, hq]; omega), n3, hq]
      have i0 : (62 + 3 * rO 0 (κ 130) 61).toInt = (62 + 3 * q : Nat) := by rw [i_add (by rw [n62, e3]; omega), n62, e3]; omega
      have i1 : (62 + 3 * rO 0 (κ 130) 61 + 1).toInt = (63 + 3 * q : Nat) := by rw [i_add (by rw [i0, n1]; omega), i0, n1]; omega
      have i2 : (62 + 3 * rO 0 (κ 130) 61 + 2).toInt = (64 + 3 * q : Nat) := by rw [i_add (by rw [i0, n2i]; omega), i0, n2i]; omega
      rw [if_pos ⟨ok, c3⟩, if_pos c3, rf_129_0, c61, i_ixn i0, i_ixn i1, i_ixn i2, up_same, up_ne (by omega), up_ne (by omega), up_ne (by omega), ← e61, hq, Int.toNat_natCast]
      refine ⟨rfl, MG.up0 (by omega) (MG.up0 (by omega) (MG.up0 (by omega) (MG.up0 (by omega) MG.rfl))), ?_⟩
      rw [rO_up (by omega), rO_up (by omega), rO_up (by omega), rO_up (by omega)]
      rfl
    · have c3 : ¬ (rO 0 (κ 130) 61).toInt < 6 := by rw [c2, n6]; omega
      rw [if_neg (fun z => c3 z.2), if_neg c3]; exact MR.same MG.rfl rfl
  refine (t_217_0 (isD_spec h.2.1.2 h.2.1.1 (fun c => ?_) (fun d hd hdl r hr => ?_))).weak
  · intro r e; cases e
    exact ⟨fun _ => bad (fun q => c q.1), fun z => absurd rfl z⟩
  · intro r2 e; cases e
    refine ⟨fun z => absurd z hr, fun _ => inL (l := 0) (g := 5) rfl rfl (fun r hr => ?_)⟩
    intro r2 e; cases e
    refine ⟨fun c => bad (fun q => (hr.mp c) (by have := q.2.1; omega)), fun c => ?_⟩
    have c2 : 0 ≤ x2.toInt ∧ x2.toInt ≤ 5 := by false_or_by_contra; rename_i hh; exact c (hr.mpr hh)
    refine ⟨fun c3 => l40 ⟨by omega, by omega, Or.inr c3⟩, fun c3 => inL (l := 0) (g := 5) rfl rfl (fun r hr => ?_)⟩
    intro r2 e; cases e
    refine ⟨fun c4 => l40 ⟨by omega, by omega, Or.inl (by false_or_by_contra; rename_i hh; exact c4 (hr.mpr hh))⟩, fun c4 => bad (fun q => q.2.2.elim (hr.mp c4) c3)⟩
end OpC
