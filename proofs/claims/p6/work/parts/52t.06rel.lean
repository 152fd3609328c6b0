/-! THE RELATION of class and model; what a call leaves -/
/-- the class's cells but those of what is told, of the trial, of the search -/
def CG (ι ι1 : IS) : Prop := ∀ a j, ¬ (24 ≤ a ∧ a ≤ 43) → ¬ (86 ≤ a ∧ a ≤ 119) → ¬ (a = 0 ∧ (j = 11 ∨ j = 12)) → ι1 a j = ι a j
/-- the model's cells but those of what is told, of what is tried -/
def MG (κ κ1 : IS) : Prop := (∀ a, ¬ a = 129 → ¬ a = 130 → ¬ a = 131 → ¬ a = 136 → ¬ a = 140 → κ1 a = κ a) ∧ (∀ j, ¬ (20 ≤ j ∧ j ≤ 27) → κ1 129 j = κ 129 j) ∧ ∀ j, 80 ≤ j → κ1 130 j = κ 130 j
def HX (nv nd : Nat) (f : Nat → Int32) (ι : IS) : Prop := TO 24 nv nd f ι ∧ ι 25 4 = -4 ∧ WF f
def HM (nv nd : Nat) (κ : IS) : Prop := (nv ≤ 4 ∧ (κ 129 3).toInt = nv) ∧ (nd ≤ 4 ∧ (κ 129 4).toInt = nd) ∧ WF (rO 0 (κ 130))
def XR (nv nd : Nat) (f : Nat → Int32) (r : Int32) (ι : IS) (v : Option Value) (ι1 : IS) : Prop := v = some (.int r) ∧ CG ι ι1 ∧ ι1 25 4 = -4 ∧ TO 24 nv nd f ι1
def MR (f : Nat → Int32) (r : Int32) (κ : IS) (v : Option Value) (κ1 : IS) : Prop := v = some (.int r) ∧ MG κ κ1 ∧ rO 0 (κ1 130) = f
/-- SHEETS -/
def RS (ι κ : IS) : Prop := (∀ k, k < 4 → ι (121 + 2 * k) 2 = κ 137 k ∧ ι (121 + 2 * k) 1 = κ 138 k ∧ (0 ≤ (κ 138 k).toInt ∧ (κ 138 k).toInt ≤ 40) ∧ ∀ i, i < 40 → ι (122 + 2 * k) i = κ 139 (40 * k + i)) ∧ ι 0 10 = κ 129 31
/-- IMAGES -/
def RI (nv nd : Nat) (ι κ : IS) : Prop := ∀ k, k < 2 → ι 85 k = κ 132 k ∧ (¬ κ 132 k = 0 → TO (45 + 20 * k) nv nd (rO (80 * (k + 1)) (κ 130)) ι)
def RB (ι κ : IS) : Prop := ∃ b L, BX b L ι ∧ BM b L κ
def RN (nv nd : Nat) (ι κ : IS) : Prop := (nv ≤ 4 ∧ (κ 129 3).toInt = nv) ∧ (nd ≤ 4 ∧ (κ 129 4).toInt = nd) ∧ (TO 24 nv nd (rO 0 (κ 130)) ι ∧ ι 25 4 = -4) ∧ RI nv nd ι κ ∧ RS ι κ ∧ RB ι κ
def RRel (ι κ : IS) : Prop := ∃ nv nd, RN nv nd ι κ
/-- bounds of what the model keeps -/
def WW (κ : IS) : Prop := WF (rO 0 (κ 130)) ∧ WF (rO 80 (κ 130)) ∧ WF (rO 160 (κ 130))
section Rel
variable {xl : List Int32} {n n2 kx km : Nat} {lvx lvm : LVs} {ι ι1 κ κ1 : IS} {nv nd : Nat} {f : Nat → Int32} {r : Int32} {Q : Option Value → IS → Prop}
theorem CG.rfl : CG ι ι := fun _ _ _ _ _ => Eq.refl _
theorem CG.of {l h : Nat} (hs : Sm l h ι ι1) (hl : (24 ≤ l ∧ h ≤ 43) ∨ (86 ≤ l ∧ h ≤ 119)) : CG ι ι1 := fun a j h1 h2 _ => hs a j (by omega)
theorem MG.rfl : MG κ κ := ⟨fun _ _ _ _ _ _ => Eq.refl _, fun _ _ => Eq.refl _, fun _ _ => Eq.refl _⟩
theorem MG.trans {κ2 : IS} (h1 : MG κ κ1) (h2 : MG κ1 κ2) : MG κ κ2 := ⟨fun a g1 g2 g3 g4 g5 => (h2.1 a g1 g2 g3 g4 g5).trans (h1.1 a g1 g2 g3 g4 g5), fun j g => (h2.2.1 j g).trans (h1.2.1 j g), fun j g => (h2.2.2 j g).trans (h1.2.2 j g)⟩
theorem MG.at131 (h : ∀ a, ¬ a = 131 → κ1 a = κ a) : MG κ κ1 := ⟨fun a _ _ g _ _ => h a g, fun j _ => by rw [h 129 (by omega)], fun j _ => by rw [h 130 (by omega)]⟩
theorem MG.st (h1 : ∀ a, ¬ a = 131 → ¬ a = 129 → κ1 a = κ a) (h2 : ∀ j, ¬ j = 20 → κ1 129 j = κ 129 j) : MG κ κ1 := ⟨fun a g1 _ g _ _ => h1 a g g1, fun j _ => h2 j (by omega), fun j _ => by rw [h1 130 (by omega) (by omega)]⟩
theorem MG.se (h1 : ∀ a, ¬ a = 130 → κ1 a = κ a) (h2 : ∀ j, 80 ≤ j → κ1 130 j = κ 130 j) : MG κ κ1 := ⟨fun a _ g _ _ _ => h1 a g, fun j _ => by rw [h1 129 (by omega)], h2⟩
theorem rO_hi {o : Nat} (h : ∀ j, 80 ≤ j → κ1 130 j = κ 130 j) (ho : 80 ≤ o) : rO o (κ1 130) = rO o (κ 130) := by
  funext j
  unfold rO
  split
  · exact h _ (by omega)
  · rfl
theorem RI.keep (h : RI nv nd ι κ) (h1 : ∀ a j, 45 ≤ a → a ≤ 85 → ι1 a j = ι a j) (h2 : κ1 132 = κ 132) (h3 : ∀ j, 80 ≤ j → κ1 130 j = κ 130 j) : RI nv nd ι1 κ1 := fun k hk => by
  rw [h1 85 k (by omega) (by omega), h2, rO_hi h3 (by omega)]
  exact ⟨(h k hk).1, fun g => ((h k hk).2 g).keep (fun a j g1 g2 => h1 a j (by omega) (by omega))⟩
theorem RS.keep (h : RS ι κ) (h1 : ∀ a j, 121 ≤ a → a ≤ 128 → ι1 a j = ι a j) (h0 : ι1 0 10 = ι 0 10) (h2 : κ1 137 = κ 137 ∧ κ1 138 = κ 138 ∧ κ1 139 = κ 139) (h3 : κ1 129 31 = κ 129 31) : RS ι1 κ1 := by
  refine ⟨fun k hk => ?_, by rw [h0, h3]; exact h.2⟩
  have g := h.1 k hk
  rw [h1 _ _ (by omega) (by omega), h1 _ _ (by omega) (by omega), h2.1, h2.2.1, h2.2.2]
  exact ⟨g.1, g.2.1, g.2.2.1, fun i hi => by rw [h1 _ _ (by omega) (by omega)]; exact g.2.2.2 i hi⟩
theorem RB.keep (h : RB ι κ) (h1 : ∀ a j, 22 ≤ a → a ≤ 23 → ι1 a j = ι a j) (h2 : κ1 129 13 = κ 129 13) (h3 : κ1 135 = κ 135) : RB ι1 κ1 := by
  obtain ⟨b, L, hX, hM⟩ := h
  exact ⟨b, L, ⟨hX.1, by rw [h1 22 1 (by omega) (by omega)]; exact hX.2.1, fun q => by rw [h1 23 q (by omega) (by omega)]; exact hX.2.2 q⟩, ⟨hM.1, by rw [h2]; exact hM.2.1, fun q => by rw [h3]; exact hM.2.2.1 q, hM.2.2.2⟩⟩
theorem RN.town (h : RN nv nd ι κ) (hc : CG ι ι1) (hm : MG κ κ1) (hb : ι1 25 4 = -4) (hT : TO 24 nv nd (rO 0 (κ1 130)) ι1) : RN nv nd ι1 κ1 := by
  obtain ⟨⟨a1, a2⟩, ⟨b1, b2⟩, c, d, e, g⟩ := h
  refine ⟨⟨a1, by rw [hm.2.1 3 (by omega)]; exact a2⟩, ⟨b1, by rw [hm.2.1 4 (by omega)]; exact b2⟩, ⟨hT, hb⟩, ?_, ?_, ?_⟩
  · exact d.keep (fun a j g1 g2 => hc a j (by omega) (by omega) (by omega)) (hm.1 132 (by omega) (by omega) (by omega) (by omega) (by omega)) hm.2.2
  · exact e.keep (fun a j g1 g2 => hc a j (by omega) (by omega) (by omega)) (hc 0 10 (by omega) (by omega) (by omega)) ⟨hm.1 137 (by omega) (by omega) (by omega) (by omega) (by omega), hm.1 138 (by omega) (by omega) (by omega) (by omega) (by omega), hm.1 139 (by omega) (by omega) (by omega) (by omega) (by omega)⟩ (hm.2.1 31 (by omega))
  · exact g.keep (fun a j g1 g2 => hc a j (by omega) (by omega) (by omega)) (hm.2.1 13 (by omega)) (hm.1 135 (by omega) (by omega) (by omega) (by omega) (by omega))
theorem RN.hx (h : RN nv nd ι κ) (w : WW κ) : HX nv nd (rO 0 (κ 130)) ι := ⟨h.2.2.1.1, h.2.2.1.2, w.1⟩
theorem RN.hm (h : RN nv nd ι κ) (w : WW κ) : HM nv nd κ := ⟨h.1, h.2.1, w.1⟩
/-- a call of both: the same answer, and the relation holds behind it -/
def CALL (xl : List Int32) (n n2 kx km : Nat) (lvx lvm : LVs) (E : Option Value → Option Value → Prop) (ι κ : IS) : Prop := PC xl n kx 0 lvx [] ι (fun v1 ι1 => PC xl n2 km 0 lvm [] κ (fun v2 κ1 => E v1 v2 ∧ RRel ι1 κ1))
theorem call_of (h : RN nv nd ι κ) (hx : PC xl n kx 0 lvx [] ι (XR nv nd f r ι)) (hm : PC xl n2 km 0 lvm [] κ (MR f r κ)) : CALL xl n n2 kx km lvx lvm (fun v1 v2 => v1 = v2) ι κ :=
  PC.imp hx (fun v1 ι1 g1 => PC.imp hm (fun v2 κ1 g2 => ⟨by rw [g1.1, g2.1], nv, nd, h.town g1.2.1 g2.2.1 g1.2.2.1 (by rw [g2.2.2]; exact g1.2.2.2)⟩))
/-- what is told stays, by the class -/
theorem HX.same (h : HX nv nd f ι) : XR nv nd f r ι (some (.int r)) ι := ⟨rfl, CG.rfl, h.2.1, h.1⟩
theorem HX.tw (h : HX nv nd f ι) : TW 25 nv nd f ι := h.1.1
theorem HX.bo (h : HX nv nd f ι) : BO 25 (-4) 0 f ι := ⟨by rw [h.2.1]; rfl, fun g => absurd g (by decide)⟩
/-- another town is told -/
theorem HX.town {g : Nat → Int32} (h : HX nv nd f ι) (hs : Sm 25 39 ι ι1) (hj : ∀ j, ι1 25 j = ι 25 j) (hT : TW 25 nv nd g ι1) (hg : ∀ k, 52 ≤ k → g k = f k) : XR nv nd g r ι (some (.int r)) ι1 := by
  refine ⟨rfl, CG.of hs (by omega), by rw [hj]; exact h.2.1, hT, ?_, ?_⟩
  · have hP := h.1.2.1
    refine ⟨by rw [hs 24 2 (by omega), hg 52 (by omega)]; exact hP.1, by rw [hg 52 (by omega)]; exact hP.2.1, fun i hi => ?_⟩
    rw [hg 52 (by omega)] at hi
    rw [hs _ _ (by omega), hg _ (by omega)]
    exact hP.2.2 i hi
  · have hS := h.1.2.2
    refine ⟨by rw [hs 24 6 (by omega), hg 61 (by omega)]; exact hS.1, by rw [hg 61 (by omega)]; exact hS.2.1, fun i hi => ?_⟩
    rw [hg 61 (by omega)] at hi
    rw [hs _ _ (by omega), hs _ _ (by omega), hs _ _ (by omega), hg _ (by omega), hg _ (by omega), hg _ (by omega)]
    exact hS.2.2 i hi
theorem vi_hi {v d k : Nat} {bo : Int} {lw : Nat} (hw : WF f) (hv : v < 4) (hd : d < 4) (hk : koF f v d = 0) (h : 52 ≤ k) : viF bo lw f v d k = f k := by
  have hT : WD (taF f v d) d := (hw.1 d hd).ta hv
  unfold viF
  split
  · exact ta_v (by omega)
  · rename_i hm
    have hr2 : ¬ (taF f v d (16 + 9 * d) = 6 ∧ taF f v d (17 + 9 * d) = 0) := by rw [ta_d hv (by omega), ta_d hv (by omega)]; exact ko_room hk hm
    rw [pa_o hT hr2 (by omega)]; exact ta_v (by omega)
theorem go_hi {z : Int} {k : Nat} (hw : WF f) (h : 52 ≤ k) : ∀ d, d ≤ 4 → goF z f d k = f k
  | 0, _ => rfl
  | d + 1, hd => by
    show dF z (goF z f d) d k = f k
    rw [dF_o ((WF.goK hw d (by omega)).1 d (by omega)) (by omega)]
    exact go_hi hw h d (by omega)
theorem rf_0_2' : rf (rf 0 2) 0 = 25 := by decide +kernel
theorem r_st {h : Nat → Int32} {k : Nat} (hk : k < 80) : rO 0 h k = h k := by
  unfold rO
  rw [if_pos hk, Nat.zero_add]
/-- behind starts: what is told in the row that is tried -/
theorem st_M (hM : HM nv nd κ) (hq : ∀ κ1, MG κ κ1 → κ1 130 = κ 130 → κ1 131 = rO 0 (κ 130) → κ1 129 20 = -4 → (κ1 129 3).toInt = nv → (κ1 129 4).toInt = nd → BM2 (-4) 0 κ1 → Q none κ1) : PC xl n 168 0 [(0, .ref 129)] [] κ Q :=
  starts_spec (fun κ1 h1 h2 h3 h4 => hq κ1 (MG.st h1 h2) (h1 130 (by omega) (by omega)) h4 h3 (by rw [h2 3 (by omega)]; exact hM.1.2) (by rw [h2 4 (by omega)]; exact hM.2.1.2) ⟨by rw [h3]; rfl, fun g => absurd g (by decide)⟩)
theorem MR.same (hm : MG κ κ1) (h : κ1 130 = κ 130) : MR (rO 0 (κ 130)) r κ (some (.int r)) κ1 := ⟨rfl, hm, by rw [h]⟩
end Rel
