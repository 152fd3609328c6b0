/-! TOWNS, I: a town as the model keeps it in a row; what the class holds of it -/
/-- a row with one place written -/
def fs (f : Nat → Int32) (k : Nat) (x : Int32) : Nat → Int32 := fun j => if j = k then x else f j
theorem fs_same {f : Nat → Int32} {k : Nat} {x : Int32} : fs f k x k = x := by simp [fs]
theorem fs_ne {f : Nat → Int32} {k j : Nat} {x : Int32} (h : ¬ j = k) : fs f k x j = f j := by simp [fs, h]
theorem up_row {ι : IS} {a k : Nat} {x : Int32} : (up ι a k x) a = fs (ι a) k x := by
  funext j; simp [up, fs]
theorem up_oth {ι : IS} {a b k : Nat} {x : Int32} (h : ¬ b = a) : (up ι a k x) b = ι b := by
  funext j; simp [up, h]
/-- 80 places of a row -/
def rO (o : Nat) (h : Nat → Int32) : Nat → Int32 := fun j => if j < 80 then h (o + j) else 0
/-- what DOOR d SHOWS -/
def shF (f : Nat → Int32) (d : Nat) : Int32 := if f (16 + 9 * d) = 0 then -4 else f (18 + 9 * d + (f (16 + 9 * d)).toInt.toNat)
def owF (f : Nat → Int32) (v : Nat) : Int32 := if f (4 * v) = 3 then f 1 else f (4 * v + 1)
/-- BRUSH: bo borrows of lw -/
def brF (bo : Int) (lw : Nat) (f : Nat → Int32) (v : Nat) : Int32 := if (v : Int) = bo then owF f lw else owF f v
def usF (f : Nat → Int32) (v d : Nat) : Int32 := if f (4 * v) = 2 then 0 else if f (4 * v) = 1 then 2 * (1 + f (16 + 9 * d) / 3) else 1 + f (16 + 9 * d) / 3
def koF (f : Nat → Int32) (v d : Nat) : Int32 := if f (4 * v + 2) < usF f v d then -2 else if ¬ f (4 * v) = 2 ∧ f (16 + 9 * d) = 6 ∧ f (17 + 9 * d) = 0 then -3 else 0
/-- the DOOR is wet, and SHOWS something -/
abbrev iwF (f : Nat → Int32) (d : Nat) : Prop := f (17 + 9 * d) = 1 ∧ ¬ f (16 + 9 * d) = 0
def paF (f : Nat → Int32) (d : Nat) (x : Int32) : Nat → Int32 :=
  if iwF f d then fs (fs (fs f (18 + 9 * d + (f (16 + 9 * d)).toInt.toNat) ((shF f d + x) - (shF f d + x) / 6 * 6)) (16 + 9 * d) (f (16 + 9 * d))) (17 + 9 * d) 1
  else fs (fs (fs f (19 + 9 * d + (f (16 + 9 * d)).toInt.toNat) x) (16 + 9 * d) (f (16 + 9 * d) + 1)) (17 + 9 * d) 1
/-- PAINT taken, SLEEVE marked -/
def taF (f : Nat → Int32) (v d : Nat) : Nat → Int32 :=
  if iwF f d then fs (fs f (4 * v + 2) (f (4 * v + 2) - usF f v d)) (4 * v + 3) (f (4 * v + 3) ||| (1 <<< (shF f d &&& 31))) else fs f (4 * v + 2) (f (4 * v + 2) - usF f v d)
def viF (bo : Int) (lw : Nat) (f : Nat → Int32) (v d : Nat) : Nat → Int32 := if f (4 * v) = 2 then taF f v d else paF (taF f v d) d (brF bo lw f v)
/-- bounds of a town -/
def WD (f : Nat → Int32) (d : Nat) : Prop := (0 ≤ (f (16 + 9 * d)).toInt ∧ (f (16 + 9 * d)).toInt ≤ 6) ∧ (f (17 + 9 * d) = 0 ∨ f (17 + 9 * d) = 1) ∧ ∀ i, i < 6 → 0 ≤ (f (19 + 9 * d + i)).toInt ∧ (f (19 + 9 * d + i)).toInt ≤ 5
def WF (f : Nat → Int32) : Prop := (∀ d, d < 4 → WD f d) ∧ ∀ v, v < 4 → 0 ≤ (f (4 * v + 1)).toInt ∧ (f (4 * v + 1)).toInt ≤ 5
/-- the class's DOOR at a, VISITOR at a, town at u -/
def DX (a d : Nat) (f : Nat → Int32) (ι : IS) : Prop := ι a 1 = f (16 + 9 * d) ∧ ι a 3 = f (17 + 9 * d) ∧ ι a 2 = f (18 + 9 * d) ∧ ∀ i : Nat, (i : Int) < (f (16 + 9 * d)).toInt → ι (a + 1) i = f (19 + 9 * d + i)
def VX (a v : Nat) (f : Nat → Int32) (ι : IS) : Prop := ι a 0 = f (4 * v) ∧ ι a 1 = f (4 * v + 1) ∧ ι a 2 = f (4 * v + 2) ∧ ι a 3 = f (4 * v + 3)
def TW (u nv nd : Nat) (f : Nat → Int32) (ι : IS) : Prop := (nv ≤ 4 ∧ (ι u 2).toInt = nv) ∧ (nd ≤ 4 ∧ (ι u 3).toInt = nd) ∧ (∀ v, v < nv → VX (u + 2 + v) v f ι) ∧ ∀ d, d < nd → DX (u + 7 + 2 * d) d f ι
/-- who borrows in the town at u -/
def BO (u : Nat) (bo : Int) (lw : Nat) (f : Nat → Int32) (ι : IS) : Prop := (ι u 4).toInt = bo ∧ (0 ≤ bo → ι u 5 = owF f lw)
section Town1
variable {f g : Nat → Int32} {ι ι' κ κ' : IS} {a d v u nv nd i k : Nat} {x y : Int32} {bo : Int} {lw : Nat}
theorem n3 : (3 : Int32).toInt = 3 := rfl
theorem n0 : (0 : Int32).toInt = 0 := rfl
theorem n1 : (1 : Int32).toInt = 1 := rfl
theorem n2i : (2 : Int32).toInt = 2 := rfl
theorem n4 : (4 : Int32).toInt = 4 := rfl
theorem n6 : (6 : Int32).toInt = 6 := rfl
theorem n9 : (9 : Int32).toInt = 9 := rfl
theorem n16 : (16 : Int32).toInt = 16 := rfl
theorem n80 : (80 : Int32).toInt = 80 := rfl
theorem nm4 : (-4 : Int32).toInt = -4 := rfl
theorem i_nz (h : ¬ x = 0) (h0 : 0 ≤ x.toInt) : 0 < x.toInt := by
  rcases Int.lt_or_eq_of_le h0 with h1 | h1
  · exact h1
  · exact absurd (i_eq.mpr (by rw [← h1]; rfl)) h
theorem i_z (h : x.toInt = 0) : x = 0 := i_eq.mpr (by rw [h]; rfl)
theorem i_6 (h0 : 0 ≤ x.toInt) (h6 : x.toInt ≤ 6) : x = 0 ∨ x = 1 ∨ x = 2 ∨ x = 3 ∨ x = 4 ∨ x = 5 ∨ x = 6 := by
  have e : x.toInt = 0 ∨ x.toInt = 1 ∨ x.toInt = 2 ∨ x.toInt = 3 ∨ x.toInt = 4 ∨ x.toInt = 5 ∨ x.toInt = 6 := by omega
  simp only [i_eq]
  exact e
theorem shF_0 (h : f (16 + 9 * d) = 0) : shF f d = -4 := if_pos h
theorem shF_s {k : Nat} (h : (f (16 + 9 * d)).toInt = (k + 1 : Nat)) : shF f d = f (19 + 9 * d + k) := by
  have hn : ¬ f (16 + 9 * d) = 0 := fun e => by rw [e, n0] at h; omega
  unfold shF
  rw [if_neg hn, h]
  congr 1
  show 18 + 9 * d + (k + 1) = 19 + 9 * d + k
  omega
theorem WD.sh (h : WD f d) (h0 : ¬ f (16 + 9 * d) = 0) : 0 ≤ (shF f d).toInt ∧ (shF f d).toInt ≤ 5 := by
  have h1 := i_nz h0 h.1.1
  obtain ⟨k, hk⟩ : ∃ k : Nat, (f (16 + 9 * d)).toInt = (k + 1 : Nat) := ⟨(f (16 + 9 * d)).toInt.toNat - 1, by omega⟩
  rw [shF_s hk]
  have h6 := h.1.2
  exact h.2.2 k (by omega)
theorem WD.sh4 (h : WD f d) : shF f d = -4 ↔ f (16 + 9 * d) = 0 := by
  refine ⟨fun e => ?_, shF_0⟩
  false_or_by_contra
  rename_i h0
  have := (h.sh h0).1
  rw [e, nm4] at this
  omega
theorem WD.us (h : WD f d) : 0 ≤ (usF f v d).toInt := by
  unfold usF
  rcases i_6 h.1.1 h.1.2 with e | e | e | e | e | e | e <;> rw [e] <;> (split; decide; split <;> decide)
theorem town_d (hu : isTown u) (hd : d < 4) : re (rf u 1) d = u + 7 + 2 * d ∧ rf (u + 7 + 2 * d) 0 = u + 7 + 2 * d + 1 := by
  have h := town_at hu
  refine ⟨by rw [h.2.1]; exact (h.2.2.2 d hd).2.1, ?_⟩
  rw [(h.2.2.2 d hd).2.2]; omega
theorem town_v (hu : isTown u) (hv : v < 4) : re (rf u 0) v = u + 2 + v := by
  have h := town_at hu
  rw [h.1]; exact (h.2.2.2 v hv).1
/-- a DOOR that stays, in a row that stays there -/
theorem DX.keep (h : DX a d f ι) (h1 : ∀ j, ι' a j = ι a j) (h2 : ∀ j, ι' (a + 1) j = ι (a + 1) j) (hg : ∀ j, j < 9 → g (16 + 9 * d + j) = f (16 + 9 * d + j)) (h6 : (f (16 + 9 * d)).toInt ≤ 6) : DX a d g ι' := by
  have e0 : g (16 + 9 * d) = f (16 + 9 * d) := hg 0 (by omega)
  have e1 : g (17 + 9 * d) = f (17 + 9 * d) := by have := hg 1 (by omega); rw [show 16 + 9 * d + 1 = 17 + 9 * d by omega] at this; exact this
  have e2 : g (18 + 9 * d) = f (18 + 9 * d) := by have := hg 2 (by omega); rw [show 16 + 9 * d + 2 = 18 + 9 * d by omega] at this; exact this
  refine ⟨by rw [h1, e0]; exact h.1, by rw [h1, e1]; exact h.2.1, by rw [h1, e2]; exact h.2.2.1, fun i hi => ?_⟩
  rw [e0] at hi
  rw [h2, h.2.2.2 i hi]
  have := hg (3 + i) (by omega)
  rw [show 16 + 9 * d + (3 + i) = 19 + 9 * d + i by omega] at this
  exact this.symm
theorem VX.keep (h : VX a v f ι) (h1 : ∀ j, ι' a j = ι a j) (hg : ∀ j, j < 4 → g (4 * v + j) = f (4 * v + j)) : VX a v g ι' :=
  ⟨by rw [h1, h.1]; exact (hg 0 (by omega)).symm, by rw [h1, h.2.1]; exact (hg 1 (by omega)).symm, by rw [h1, h.2.2.1]; exact (hg 2 (by omega)).symm, by rw [h1, h.2.2.2]; exact (hg 3 (by omega)).symm⟩
theorem TW.keep (h : TW u nv nd f ι) (h1 : ∀ a j, u ≤ a → a ≤ u + 14 → ι' a j = ι a j) : TW u nv nd f ι' :=
  ⟨⟨h.1.1, by rw [h1 u 2 (by omega) (by omega)]; exact h.1.2⟩, ⟨h.2.1.1, by rw [h1 u 3 (by omega) (by omega)]; exact h.2.1.2⟩, fun v hv => by
    have := h.1.1
    have hx := h.2.2.1 v hv
    unfold VX at hx ⊢
    simp only [h1 (u + 2 + v) _ (by omega) (by omega)]
    exact hx, fun d hd => by
    have := h.2.1.1
    have hx := h.2.2.2 d hd
    unfold DX at hx ⊢
    simp only [h1 (u + 7 + 2 * d) _ (by omega) (by omega), h1 (u + 7 + 2 * d + 1) _ (by omega) (by omega)]
    exact hx⟩
/-- one DOOR changes -/
theorem TW.door (h : TW u nv nd f ι) (hw : WF f) (hd : d < nd) (hs : Sm (u + 7 + 2 * d) (u + 7 + 2 * d + 1) ι ι') (hg : ∀ j, ¬ (16 + 9 * d ≤ j ∧ j < 25 + 9 * d) → g j = f j) (hD : DX (u + 7 + 2 * d) d g ι') : TW u nv nd g ι' := by
  have h4 := h.1.1
  have h5 := h.2.1.1
  refine ⟨⟨h.1.1, by rw [hs u 2 (by omega)]; exact h.1.2⟩, ⟨h.2.1.1, by rw [hs u 3 (by omega)]; exact h.2.1.2⟩, fun v hv => ?_, fun e he => ?_⟩
  · exact (h.2.2.1 v hv).keep (fun j => hs _ _ (by omega)) (fun j hj => hg _ (by omega))
  · by_cases ed : e = d
    · subst ed; exact hD
    · exact (h.2.2.2 e he).keep (fun j => hs _ _ (by omega)) (fun j => hs _ _ (by omega)) (fun j hj => hg _ (by omega)) (hw.1 e (by omega)).1.2
/-- one VISITOR changes -/
theorem TW.vis (h : TW u nv nd f ι) (hw : WF f) (hv : v < nv) (hs : Sm (u + 2 + v) (u + 2 + v) ι ι') (hg : ∀ j, ¬ (4 * v ≤ j ∧ j < 4 * v + 4) → g j = f j) (hD : VX (u + 2 + v) v g ι') : TW u nv nd g ι' := by
  have h4 := h.1.1
  have h5 := h.2.1.1
  refine ⟨⟨h.1.1, by rw [hs u 2 (by omega)]; exact h.1.2⟩, ⟨h.2.1.1, by rw [hs u 3 (by omega)]; exact h.2.1.2⟩, fun e he => ?_, fun e he => ?_⟩
  · by_cases ed : e = v
    · subst ed; exact hD
    · exact (h.2.2.1 e he).keep (fun j => hs _ _ (by omega)) (fun j hj => hg _ (by omega))
  · exact (h.2.2.2 e he).keep (fun j => hs _ _ (by omega)) (fun j => hs _ _ (by omega)) (fun j hj => hg _ (by omega)) (hw.1 e (by omega)).1.2
theorem ixV {x1 x2 : Int32} {v j : Nat} (hv : x1.toInt = v) (h4 : v < 4) (hj : x2.toInt = j) (h5 : j < 9) : (4 * x1 + x2).toNatClampNeg = 4 * v + j := by
  have e : (4 * x1).toInt = 4 * v := by rw [i_mul (by rw [n4, hv]; omega), n4, hv]
  exact i_ixn (by rw [i_add (by rw [e, hj]; omega), e, hj]; omega)
theorem ixD {x1 x2 : Int32} {d j : Nat} (hd : x1.toInt = d) (h4 : d < 4) (hj : x2.toInt = j) (h5 : j < 10) : (16 + 9 * x1 + x2).toNatClampNeg = 16 + 9 * d + j := by
  have e : (9 * x1).toInt = 9 * d := by rw [i_mul (by rw [n9, hd]; omega), n9, hd]
  have e2 : (16 + 9 * x1).toInt = 16 + 9 * d := by rw [i_add (by rw [e, n16]; omega), e, n16]
  exact i_ixn (by rw [i_add (by rw [e2, hj]; omega), e2, hj]; omega)
end Town1
