section
/-! TOWNS, I: a town as the model keeps it in a row; what the class holds of it -/
/-- a row with one place written -/
noncomputable def fs (f : Nat → Int32) (k : Nat) (x : Int32) : Nat → Int32 := fun j => if j = k then x else f j
theorem fs_same {f : Nat → Int32} {k : Nat} {x : Int32} : fs f k x k = x := by simp [fs]
theorem fs_ne {f : Nat → Int32} {k j : Nat} {x : Int32} (h : ¬ j = k) : fs f k x j = f j := by simp [fs, h]
theorem up_row {ι : IS} {a k : Nat} {x : Int32} : (up ι a k x) a = fs (ι a) k x := by
  funext j; simp [up, fs]
theorem up_oth {ι : IS} {a b k : Nat} {x : Int32} (h : ¬ b = a) : (up ι a k x) b = ι b := by
  funext j; simp [up, h]
/-- 80 places of a row -/
noncomputable def rO (o : Nat) (h : Nat → Int32) : Nat → Int32 := fun j => if j < 80 then h (o + j) else 0
/-- what DOOR d SHOWS -/
noncomputable def shF (f : Nat → Int32) (d : Nat) : Int32 := if f (16 + 9 * d) = 0 then -4 else f (18 + 9 * d + (f (16 + 9 * d)).toInt.toNat)
noncomputable def owF (f : Nat → Int32) (v : Nat) : Int32 := if f (4 * v) = 3 then f 1 else f (4 * v + 1)
/-- BRUSH: bo borrows of lw -/
noncomputable def brF (bo : Int) (lw : Nat) (f : Nat → Int32) (v : Nat) : Int32 := if (v : Int) = bo then owF f lw else owF f v
noncomputable def usF (f : Nat → Int32) (v d : Nat) : Int32 := if f (4 * v) = 2 then 0 else if f (4 * v) = 1 then 2 * (1 + f (16 + 9 * d) / 3) else 1 + f (16 + 9 * d) / 3
noncomputable def koF (f : Nat → Int32) (v d : Nat) : Int32 := if f (4 * v + 2) < usF f v d then -2 else if ¬ f (4 * v) = 2 ∧ f (16 + 9 * d) = 6 ∧ f (17 + 9 * d) = 0 then -3 else 0
/-- the DOOR is wet, and SHOWS something -/
abbrev iwF (f : Nat → Int32) (d : Nat) : Prop := f (17 + 9 * d) = 1 ∧ ¬ f (16 + 9 * d) = 0
noncomputable def paF (f : Nat → Int32) (d : Nat) (x : Int32) : Nat → Int32 :=
  if iwF f d then fs (fs (fs f (18 + 9 * d + (f (16 + 9 * d)).toInt.toNat) ((shF f d + x) - (shF f d + x) / 6 * 6)) (16 + 9 * d) (f (16 + 9 * d))) (17 + 9 * d) 1
  else fs (fs (fs f (19 + 9 * d + (f (16 + 9 * d)).toInt.toNat) x) (16 + 9 * d) (f (16 + 9 * d) + 1)) (17 + 9 * d) 1
/-- PAINT taken, SLEEVE marked -/
noncomputable def taF (f : Nat → Int32) (v d : Nat) : Nat → Int32 :=
  if iwF f d then fs (fs f (4 * v + 2) (f (4 * v + 2) - usF f v d)) (4 * v + 3) (f (4 * v + 3) ||| (1 <<< (shF f d &&& 31))) else fs f (4 * v + 2) (f (4 * v + 2) - usF f v d)
noncomputable def viF (bo : Int) (lw : Nat) (f : Nat → Int32) (v d : Nat) : Nat → Int32 := if f (4 * v) = 2 then taF f v d else paF (taF f v d) d (brF bo lw f v)
/-- bounds of a town -/
noncomputable def WD (f : Nat → Int32) (d : Nat) : Prop := (0 ≤ (f (16 + 9 * d)).toInt ∧ (f (16 + 9 * d)).toInt ≤ 6) ∧ (f (17 + 9 * d) = 0 ∨ f (17 + 9 * d) = 1) ∧ ∀ i, i < 6 → 0 ≤ (f (19 + 9 * d + i)).toInt ∧ (f (19 + 9 * d + i)).toInt ≤ 5
noncomputable def WF (f : Nat → Int32) : Prop := (∀ d, d < 4 → WD f d) ∧ ∀ v, v < 4 → 0 ≤ (f (4 * v + 1)).toInt ∧ (f (4 * v + 1)).toInt ≤ 5
/-- the class's DOOR at a, VISITOR at a, town at u -/
noncomputable def DX (a d : Nat) (f : Nat → Int32) (ι : IS) : Prop := ι a 1 = f (16 + 9 * d) ∧ ι a 3 = f (17 + 9 * d) ∧ ι a 2 = f (18 + 9 * d) ∧ ∀ i : Nat, (i : Int) < (f (16 + 9 * d)).toInt → ι (a + 1) i = f (19 + 9 * d + i)
noncomputable def VX (a v : Nat) (f : Nat → Int32) (ι : IS) : Prop := ι a 0 = f (4 * v) ∧ ι a 1 = f (4 * v + 1) ∧ ι a 2 = f (4 * v + 2) ∧ ι a 3 = f (4 * v + 3)
noncomputable def TW (u nv nd : Nat) (f : Nat → Int32) (ι : IS) : Prop := (nv ≤ 4 ∧ (ι u 2).toInt = nv) ∧ (nd ≤ 4 ∧ (ι u 3).toInt = nd) ∧ (∀ v, v < nv → VX (u + 2 + v) v f ι) ∧ ∀ d, d < nd → DX (u + 7 + 2 * d) d f ι
/-- who borrows in the town at u -/
noncomputable def BO (u : Nat) (bo : Int) (lw : Nat) (f : Nat → Int32) (ι : IS) : Prop := (ι u 4).toInt = bo ∧ (0 ≤ bo → ι u 5 = owF f lw)
section Town1
variable {f g : Nat → Int32} {ι ι' κ κ' : IS} {a d v u nv nd i k : Nat} {x y : Int32} {bo : Int} {lw : Nat}
theorem n3 : (3 : Int32).toInt = 3 := rfl
theorem n0 : (0 : Int32).toInt = 0 := rfl
theorem n1 : (1 : Int32).toInt = 1 := rfl
theorem n2i : (2 : Int32).toInt = 2 := rfl
theorem n4 : (4 : Int32).toInt = 4 := rfl
theorem n6 : (6 : Int32).toInt = 6 := rfl
theorem n9 : (9 : Int32).toInt = 9 := rfl
theorem n16 : (16 : Int32).toInt = 16 := rfl
theorem n80 : (80 : Int32).toInt = 80 := rfl
theorem nm4 : (-4 : Int32).toInt = -4 := rfl
theorem i_nz (h : ¬ x = 0) (h0 : 0 ≤ x.toInt) : 0 < x.toInt := by
  rcases Int.lt_or_eq_of_le h0 with h1 | h1
  · exact h1
  · exact absurd (i_eq.mpr (by rw [← h1]; rfl)) h
theorem i_z (h : x.toInt = 0) : x = 0 := i_eq.mpr (by rw [h]; rfl)
theorem i_6 (h0 : 0 ≤ x.toInt) (h6 : x.toInt ≤ 6) : x = 0 ∨ x = 1 ∨ x = 2 ∨ x = 3 ∨ x = 4 ∨ x = 5 ∨ x = 6 := by
  have e : x.toInt = 0 ∨ x.toInt = 1 ∨ x.toInt = 2 ∨ x.toInt = 3 ∨ x.toInt = 4 ∨ x.toInt = 5 ∨ x.toInt = 6 := by omega
  simp only [i_eq]
  exact e
theorem shF_0 (h : f (16 + 9 * d) = 0) : shF f d = -4 := if_pos h
theorem shF_s {k : Nat} (h : (f (16 + 9 * d)).toInt = (k + 1 : Nat)) : shF f d = f (19 + 9 * d + k) := by
  have hn : ¬ f (16 + 9 * d) = 0 := fun e => by rw [e, n0] at h; omega
  unfold shF
  rw [if_neg hn, h]
  congr 1
  show 18 + 9 * d + (k + 1) = 19 + 9 * d + k
  omega
theorem WD.sh (h : WD f d) (h0 : ¬ f (16 + 9 * d) = 0) : 0 ≤ (shF f d).toInt ∧ (shF f d).toInt ≤ 5 := by
  have h1 := i_nz h0 h.1.1
  obtain ⟨k, hk⟩ : ∃ k : Nat, (f (16 + 9 * d)).toInt = (k + 1 : Nat) := ⟨(f (16 + 9 * d)).toInt.toNat - 1, by omega⟩
  rw [shF_s hk]
  have h6 := h.1.2
  exact h.2.2 k (by omega)
theorem WD.sh4 (h : WD f d) : shF f d = -4 ↔ f (16 + 9 * d) = 0 := by
  refine ⟨fun e => ?_, shF_0⟩
  false_or_by_contra
  rename_i h0
  have := (h.sh h0).1
  rw [e, nm4] at this
  omega
theorem WD.us (h : WD f d) : 0 ≤ (usF f v d).toInt := by
  unfold usF
  rcases i_6 h.1.1 h.1.2 with e | e | e | e | e | e | e <;> rw [e] <;> (split; decide; split <;> decide)
theorem town_d (hu : isTown u) (hd : d < 4) : re (rf u 1) d = u + 7 + 2 * d ∧ rf (u + 7 + 2 * d) 0 = u + 7 + 2 * d + 1 := by
  have h := town_at hu
  refine ⟨by rw [h.2.1]; exact (h.2.2.2 d hd).2.1, ?_⟩
  rw [(h.2.2.2 d hd).2.2]; omega
theorem town_v (hu : isTown u) (hv : v < 4) : re (rf u 0) v = u + 2 + v := by
  have h := town_at hu
  rw [h.1]; exact (h.2.2.2 v hv).1
/-- a DOOR that stays, in a row that stays there -/
theorem DX.keep (h : DX a d f ι) (h1 : ∀ j, ι' a j = ι a j) (h2 : ∀ j, ι' (a + 1) j = ι (a + 1) j) (hg : ∀ j, j < 9 → g (16 + 9 * d + j) = f (16 + 9 * d + j)) (h6 : (f (16 + 9 * d)).toInt ≤ 6) : DX a d g ι' := by
  have e0 : g (16 + 9 * d) = f (16 + 9 * d) := hg 0 (by omega)
  have e1 : g (17 + 9 * d) = f (17 + 9 * d) := by have := hg 1 (by omega); rw [show 16 + 9 * d + 1 = 17 + 9 * d by omega] at this; exact this
  have e2 : g (18 + 9 * d) = f (18 + 9 * d) := by have := hg 2 (by omega); rw [show 16 + 9 * d + 2 = 18 + 9 * d by omega] at this; exact this
  refine ⟨by rw [h1, e0]; exact h.1, by rw [h1, e1]; exact h.2.1, by rw [h1, e2]; exact h.2.2.1, fun i hi => ?_⟩
  rw [e0] at hi
  rw [h2, h.2.2.2 i hi]
  have := hg (3 + i) (by omega)
  rw [show 16 + 9 * d + (3 + i) = 19 + 9 * d + i by omega] at this
  exact this.symm
theorem VX.keep (h : VX a v f ι) (h1 : ∀ j, ι' a j = ι a j) (hg : ∀ j, j < 4 → g (4 * v + j) = f (4 * v + j)) : VX a v g ι' :=
  ⟨by rw [h1, h.1]; exact (hg 0 (by omega)).symm, by rw [h1, h.2.1]; exact (hg 1 (by omega)).symm, by rw [h1, h.2.2.1]; exact (hg 2 (by omega)).symm, by rw [h1, h.2.2.2]; exact (hg 3 (by omega)).symm⟩
theorem TW.keep (h : TW u nv nd f ι) (h1 : ∀ a j, u ≤ a → a ≤ u + 14 → ι' a j = ι a j) : TW u nv nd f ι' :=
  ⟨⟨h.1.1, by rw [h1 u 2 (by omega) (by omega)]; exact h.1.2⟩, ⟨h.2.1.1, by rw [h1 u 3 (by omega) (by omega)]; exact h.2.1.2⟩, fun v hv => by
    have := h.1.1
    have hx := h.2.2.1 v hv
    unfold VX at hx ⊢
    simp only [h1 (u + 2 + v) _ (by omega) (by omega)]
    exact hx, fun d hd => by
    have := h.2.1.1
    have hx := h.2.2.2 d hd
    unfold DX at hx ⊢
    simp only [h1 (u + 7 + 2 * d) _ (by omega) (by omega), h1 (u + 7 + 2 * d + 1) _ (by omega) (by omega)]
    exact hx⟩
/-- one DOOR changes -/
theorem TW.door (h : TW u nv nd f ι) (hw : WF f) (hd : d < nd) (hs : Sm (u + 7 + 2 * d) (u + 7 + 2 * d + 1) ι ι') (hg : ∀ j, ¬ (16 + 9 * d ≤ j ∧ j < 25 + 9 * d) → g j = f j) (hD : DX (u + 7 + 2 * d) d g ι') : TW u nv nd g ι' := by
  have h4 := h.1.1
  have h5 := h.2.1.1
  refine ⟨⟨h.1.1, by rw [hs u 2 (by omega)]; exact h.1.2⟩, ⟨h.2.1.1, by rw [hs u 3 (by omega)]; exact h.2.1.2⟩, fun v hv => ?_, fun e he => ?_⟩
  · exact (h.2.2.1 v hv).keep (fun j => hs _ _ (by omega)) (fun j hj => hg _ (by omega))
  · by_cases ed : e = d
    · subst ed; exact hD
    · exact (h.2.2.2 e he).keep (fun j => hs _ _ (by omega)) (fun j => hs _ _ (by omega)) (fun j hj => hg _ (by omega)) (hw.1 e (by omega)).1.2
/-- one VISITOR changes -/
theorem TW.vis (h : TW u nv nd f ι) (hw : WF f) (hv : v < nv) (hs : Sm (u + 2 + v) (u + 2 + v) ι ι') (hg : ∀ j, ¬ (4 * v ≤ j ∧ j < 4 * v + 4) → g j = f j) (hD : VX (u + 2 + v) v g ι') : TW u nv nd g ι' := by
  have h4 := h.1.1
  have h5 := h.2.1.1
  refine ⟨⟨h.1.1, by rw [hs u 2 (by omega)]; exact h.1.2⟩, ⟨h.2.1.1, by rw [hs u 3 (by omega)]; exact h.2.1.2⟩, fun e he => ?_, fun e he => ?_⟩
  · by_cases ed : e = v
    · subst ed; exact hD
    · exact (h.2.2.1 e he).keep (fun j => hs _ _ (by omega)) (fun j hj => hg _ (by omega))
  · exact (h.2.2.2 e he).keep (fun j => hs _ _ (by omega)) (fun j => hs _ _ (by omega)) (fun j hj => hg _ (by omega)) (hw.1 e (by omega)).1.2
theorem ixV {x1 x2 : Int32} {v j : Nat} (hv : x1.toInt = v) (h4 : v < 4) (hj : x2.toInt = j) (h5 : j < 9) : (4 * x1 + x2).toNatClampNeg = 4 * v + j := by
  have e : (4 * x1).toInt = 4 * v := by rw [i_mul (by rw [n4, hv]; omega), n4, hv]
  exact i_ixn (by rw [i_add (by rw [e, hj]; omega), e, hj]; omega)
theorem ixD {x1 x2 : Int32} {d j : Nat} (hd : x1.toInt = d) (h4 : d < 4) (hj : x2.toInt = j) (h5 : j < 10) : (16 + 9 * x1 + x2).toNatClampNeg = 16 + 9 * d + j := by
  have e : (9 * x1).toInt = 9 * d := by rw [i_mul (by rw [n9, hd]; omega), n9, hd]
  have e2 : (16 + 9 * x1).toInt = 16 + 9 * d := by rw [i_add (by rw [e, n16]; omega), e, n16]
  exact i_ixn (by rw [i_add (by rw [e2, hj]; omega), e2, hj]; omega)
end Town1
end
section
/-! TOWNS, II: the model's row: what is read of it, a VISIT -/
section Mod1
variable {xl : List Int32} {n mi pc : Nat} {lv : LVs} {st : List Value} {ι κ : IS} {Q : Option Value → IS → Prop} {x1 x2 x3 : Int32} {d v j m nd nv : Nat} {f : Nat → Int32} {bo : Int} {lw : Nat}
/-- behind its end a row of ints holds nothing -/
theorem PC.z (h : (∀ a j, 0 < ln a → ln a ≤ j → ι a j = 0) → PC xl n mi pc lv st ι Q) : PC xl n mi pc lv st ι Q := by
  intro F hs hi
  refine h (fun a j h0 hl => ?_) F hs hi
  rw [← hi]
  unfold iv
  cases hF : F[a]? with
  | none => rfl
  | some c =>
    rcases c with o | q | q
    · have h1 := sh_get hs hF
      unfold ln at h0
      rw [h1] at h0
      exact absurd h0 (Nat.lt_irrefl _)
    · have h1 := (sh_row hs hF).1
      show q.2.getD j 0 = 0
      rw [List.getD_eq_getElem?_getD, List.getElem?_eq_none (by omega)]; rfl
    · rfl
theorem ln_130 : ln 130 = 240 := by decide +kernel
theorem ln_131 : ln 131 = 80 := by decide +kernel
theorem rf_129_1 : rf 129 1 = 131 := by decide +kernel
theorem i_s {x : Int32} {k : Nat} (hx : x.toInt = k) (hk : k < 2147483647) : (x + 1).toInt = (k + 1 : Nat) := by
  rw [i_add (by rw [hx, n1]; omega), hx, n1]; rfl
theorem i_p {x : Int32} {k : Nat} (hx : x.toInt = (k + 1 : Nat)) (hk : k < 2147483647) : (x - 1).toInt = k := by
  rw [i_sub (by rw [hx, n1]; omega), hx, n1]; omega
theorem i_on {x : Int32} {k : Nat} (hx : x.toInt = k) : x = Int32.ofNat k := by
  have := i_rng x
  rw [i_eq, hx, i_of (by omega)]
theorem startsL : ∀ (n k : Nat) (κ : IS) (x : Int32), x.toInt = k → k ≤ 80 → (∀ κ', (∀ a, ¬ a = 131 → ¬ a = 129 → κ' a = κ a) → (∀ j, ¬ j = 20 → κ' 129 j = κ 129 j) → κ' 129 20 = -4 → (∀ j, κ' 131 j = if k ≤ j ∧ j < 80 then κ 130 j else κ 131 j) → Q none κ') → PC xl n 168 2 [(0, .ref 129), (1, .int x)] [] κ Q
  | 0, _, _, _, _, _, _ => PC.zero
  | n + 1, k, κ, x, hx, hk, hq => by
    refine t_168_2 ⟨fun c => ?_, fun c _ _ _ _ => ?_⟩
    · rw [i_lt, hx, n80] at c
      refine hq _ (fun a h1 h2 => up_oth h2) (fun j hj => up_ne (by omega)) (up_same _ _ _ _) (fun j => ?_)
      rw [if_neg (by omega)]; exact up_ne (by omega)
    · rw [i_lt, hx, n80] at c
      rw [rf_129_0, rf_129_1, i_ixn hx]
      refine startsL n (k + 1) _ (x + 1) (i_s hx (by omega)) (by omega) (fun κ' h1 h2 h3 h4 => hq κ' (fun a g1 g2 => ?_) (fun j hj => ?_) h3 (fun j => ?_))
      · rw [h1 a g1 g2]; exact up_oth g1
      · rw [h2 j hj]; exact up_ne (by omega)
      · rw [h4 j]
        by_cases e : j = k
        · subst e
          rw [if_neg (by omega), if_pos (by omega), up_same]
        · by_cases g : k + 1 ≤ j ∧ j < 80
          · rw [if_pos g, if_pos (by omega)]; exact up_ne (by omega)
          · rw [if_neg g, if_neg (by omega)]; exact up_ne (by omega)
theorem starts_spec (hq : ∀ κ', (∀ a, ¬ a = 131 → ¬ a = 129 → κ' a = κ a) → (∀ j, ¬ j = 20 → κ' 129 j = κ 129 j) → κ' 129 20 = -4 → κ' 131 = rO 0 (κ 130) → Q none κ') : PC xl n 168 0 [(0, .ref 129)] [] κ Q := by
  refine PC.z (fun hz => (t_168_0 (startsL n 0 κ 0 rfl (by omega) (fun κ' h1 h2 h3 h4 => hq κ' h1 h2 h3 ?_))).weak)
  funext j
  rw [h4 j]
  unfold rO
  by_cases g : j < 80
  · rw [if_pos ⟨Nat.zero_le _, g⟩, if_pos g, Nat.zero_add]
  · rw [if_neg (by omega), if_neg g]; exact hz 131 j (by rw [ln_131]; omega) (by rw [ln_131]; omega)
theorem settlesL : ∀ (n k : Nat) (κ : IS) (x : Int32), x.toInt = k → k ≤ 80 → (∀ κ', (∀ a, ¬ a = 130 → κ' a = κ a) → (∀ j, κ' 130 j = if k ≤ j ∧ j < 80 then κ 131 j else κ 130 j) → Q none κ') → PC xl n 189 2 [(0, .ref 129), (1, .int x)] [] κ Q
  | 0, _, _, _, _, _, _ => PC.zero
  | n + 1, k, κ, x, hx, hk, hq => by
    refine t_189_2 ⟨fun c => ?_, fun c _ _ _ _ => ?_⟩
    · rw [i_lt, hx, n80] at c
      refine hq κ (fun a h1 => rfl) (fun j => ?_)
      rw [if_neg (by omega)]
    · rw [i_lt, hx, n80] at c
      rw [rf_129_0, rf_129_1, i_ixn hx]
      refine settlesL n (k + 1) _ (x + 1) (i_s hx (by omega)) (by omega) (fun κ' h1 h4 => hq κ' (fun a g1 => ?_) (fun j => ?_))
      · rw [h1 a g1]; exact up_oth g1
      · rw [h4 j]
        by_cases e : j = k
        · subst e
          rw [if_neg (by omega), if_pos (by omega), up_same]
        · by_cases g : k + 1 ≤ j ∧ j < 80
          · rw [if_pos g, if_pos (by omega)]; exact up_ne (by omega)
          · rw [if_neg g, if_neg (by omega)]; exact up_ne (by omega)
theorem settles_spec (hq : ∀ κ', (∀ a, ¬ a = 130 → κ' a = κ a) → rO 0 (κ' 130) = κ 131 → (∀ j, 80 ≤ j → κ' 130 j = κ 130 j) → Q none κ') : PC xl n 189 0 [(0, .ref 129)] [] κ Q := by
  refine PC.z (fun hz => (t_189_0 (settlesL n 0 κ 0 rfl (by omega) (fun κ' h1 h4 => hq κ' h1 ?_ (fun j hj => ?_)))).weak)
  · funext j
    unfold rO
    by_cases g : j < 80
    · rw [if_pos g, Nat.zero_add, h4 j, if_pos ⟨Nat.zero_le _, g⟩]
    · rw [if_neg g]; exact (hz 131 j (by rw [ln_131]; omega) (by rw [ln_131]; omega)).symm
  · rw [h4 j, if_neg (by omega)]
theorem ofD_spec (hd : x1.toInt = d) (h4 : d < 4) (hj : x2.toInt = j) (h9 : j < 10) (hm : m = 16 + 9 * d + j) (h : Q (some (.int (κ 131 m))) κ) : PC xl n 169 0 [(0, .ref 129), (1, .int x1), (2, .int x2)] [] κ Q := by
  refine (t_169_0 (fun _ _ => ?_)).weak
  rw [rf_129_1, ixD hd h4 hj h9, ← hm]; exact h
theorem of_spec (hv : x1.toInt = v) (h4 : v < 4) (hj : x2.toInt = j) (h9 : j < 9) (hm : m = 4 * v + j) (h : Q (some (.int (κ 131 m))) κ) : PC xl n 170 0 [(0, .ref 129), (1, .int x1), (2, .int x2)] [] κ Q := by
  refine (t_170_0 (fun _ _ => ?_)).weak
  rw [rf_129_1, ixV hv h4 hj h9, ← hm]; exact h
theorem becD_spec (hd : x1.toInt = d) (h4 : d < 4) (hj : x2.toInt = j) (h9 : j < 10) (hm : m = 16 + 9 * d + j) (h : Q none (up κ 131 m x3)) : PC xl n 188 0 [(0, .ref 129), (1, .int x1), (2, .int x2), (3, .int x3)] [] κ Q := by
  refine (t_188_0 (fun _ _ => ?_)).weak
  rw [rf_129_1, ixD hd h4 hj h9, ← hm]; exact h
theorem i_3 {k : Nat} (h : x2.toInt = k) (hk : k < 100) : (3 + x2).toInt = (3 + k : Nat) := by
  rw [i_add (by rw [n3, h]; omega), n3, h]; omega
theorem layM_spec (hd : x1.toInt = d) (h4 : d < 4) (hj : x2.toInt = j) (h9 : j < 7) (h : Q (some (.int (κ 131 (19 + 9 * d + j)))) κ) : PC xl n 174 0 [(0, .ref 129), (1, .int x1), (2, .int x2)] [] κ Q := by
  refine (t_174_0 (ofD_spec (m := 19 + 9 * d + j) hd h4 (i_3 hj (by omega)) (by omega) (by omega) ?_)).weak
  intro r e; cases e; exact h
theorem shM_spec (hd : x1.toInt = d) (h4 : d < 4) (hw : 0 ≤ (κ 131 (16 + 9 * d)).toInt ∧ (κ 131 (16 + 9 * d)).toInt ≤ 6) (h : Q (some (.int (shF (κ 131) d))) κ) : PC xl n 173 0 [(0, .ref 129), (1, .int x1)] [] κ Q := by
  refine (t_173_0 (ofD_spec (m := 16 + 9 * d) hd h4 (j := 0) rfl (by omega) (by omega) ?_)).weak
  intro r e; cases e
  refine ⟨fun c => ofD_spec (m := 16 + 9 * d) hd h4 (j := 0) rfl (by omega) (by omega) ?_, fun c => ?_⟩
  · intro r e; cases e
    have h1 := i_nz c hw.1
    obtain ⟨k, hk⟩ : ∃ k : Nat, (κ 131 (16 + 9 * d)).toInt = (k + 1 : Nat) := ⟨(κ 131 (16 + 9 * d)).toInt.toNat - 1, by omega⟩
    refine layM_spec (j := k) hd h4 (i_p hk (by omega)) (by omega) ?_
    intro r e; cases e
    rw [shF_s hk] at h
    exact h
  · rw [shF_0 c] at h; exact h
theorem usM_spec (hv : x1.toInt = v) (hv4 : v < 4) (hd : x2.toInt = d) (hd4 : d < 4) (h : Q (some (.int (usF (κ 131) v d))) κ) : PC xl n 184 0 [(0, .ref 129), (1, .int x1), (2, .int x2)] [] κ Q := by
  refine (t_184_0 (ofD_spec (m := 16 + 9 * d) hd hd4 (j := 0) rfl (by omega) (by omega) ?_)).weak
  intro r e; cases e
  refine of_spec (m := 4 * v) hv hv4 (j := 0) rfl (by omega) (by omega) ?_
  intro r e; cases e
  unfold usF at h
  refine ⟨fun c => ⟨fun c2 => ?_, fun c2 => ?_⟩, fun c => ?_⟩
  · rw [if_neg c, if_neg c2] at h; exact h
  · rw [if_neg c, if_pos c2] at h; exact h
  · rw [if_pos c] at h; exact h
theorem owM_spec (hv : x1.toInt = v) (hv4 : v < 4) (h : Q (some (.int (owF (κ 131) v))) κ) : PC xl n 179 0 [(0, .ref 129), (1, .int x1)] [] κ Q := by
  unfold owF at h
  refine (t_179_0 (of_spec (m := 4 * v) hv hv4 (j := 0) rfl (by omega) (by omega) ?_)).weak
  intro r e; cases e
  refine ⟨fun c => of_spec (m := 4 * v + 1) hv hv4 (j := 1) rfl (by omega) (by omega) ?_, fun c => of_spec (m := 1) (v := 0) rfl (by omega) (j := 1) rfl (by omega) (by omega) ?_⟩
  · intro r e; cases e
    rw [if_neg c] at h; exact h
  · intro r e; cases e
    rw [if_pos c] at h; exact h
/-- who borrows, in the model -/
noncomputable def BM2 (bo : Int) (lw : Nat) (κ : IS) : Prop := (κ 129 20).toInt = bo ∧ (0 ≤ bo → lw < 4 ∧ (κ 129 21).toInt = lw)
theorem brM_spec (hv : x1.toInt = v) (hv4 : v < 4) (hB : BM2 bo lw κ) (h : Q (some (.int (brF bo lw (κ 131) v))) κ) : PC xl n 178 0 [(0, .ref 129), (1, .int x1)] [] κ Q := by
  unfold brF at h
  refine (t_178_0 ⟨fun c => owM_spec hv hv4 ?_, fun c => ?_⟩).weak
  · intro r e; cases e
    rw [i_eq, hv, hB.1] at c
    rw [if_neg c] at h; exact h
  · rw [i_eq, hv, hB.1] at c
    have := hB.2 (by omega)
    refine owM_spec this.2 this.1 ?_
    intro r e; cases e
    rw [if_pos c] at h; exact h
theorem koM_spec (hv : x1.toInt = v) (hv4 : v < 4) (hd : x2.toInt = d) (hd4 : d < 4) (h : Q (some (.int (koF (κ 131) v d))) κ) : PC xl n 186 0 [(0, .ref 129), (1, .int x1), (2, .int x2)] [] κ Q := by
  have l35 : ∀ u : Int32, (u = 0 ↔ ¬ (¬ κ 131 (4 * v) = 2 ∧ κ 131 (16 + 9 * d) = 6 ∧ κ 131 (17 + 9 * d) = 0)) → PC xl n 186 35 [(0, .ref 129), (1, .int x1), (2, .int x2)] [.int u] κ Q := by
    intro u hu
    refine (t_186_35 (of_spec (m := 4 * v + 2) hv hv4 (j := 2) rfl (by omega) (by omega) ?_)).weak
    intro r e; cases e
    refine usM_spec hv hv4 hd hd4 ?_
    intro r e; cases e
    unfold koF at h
    refine ⟨fun c => ⟨fun c2 => ?_, fun c2 => ?_⟩, fun c => ?_⟩
    · rw [if_neg c, if_neg (hu.mp c2)] at h; exact h
    · have c3 : ¬ κ 131 (4 * v) = 2 ∧ κ 131 (16 + 9 * d) = 6 ∧ κ 131 (17 + 9 * d) = 0 := by
        false_or_by_contra; rename_i hh; exact c2 (hu.mpr hh)
      rw [if_neg c, if_pos c3] at h; exact h
    · rw [if_pos c] at h; exact h
  have l34 : ¬ (¬ κ 131 (4 * v) = 2 ∧ κ 131 (16 + 9 * d) = 6 ∧ κ 131 (17 + 9 * d) = 0) → PC xl n 186 34 [(0, .ref 129), (1, .int x1), (2, .int x2)] [] κ Q := fun hh => (t_186_34 (l35 0 ⟨fun _ => hh, fun _ => rfl⟩)).weak
  refine (t_186_0 (of_spec (m := 4 * v) hv hv4 (j := 0) rfl (by omega) (by omega) ?_)).weak
  intro r e; cases e
  refine ⟨fun c => l34 (fun hh => hh.1 c), fun c => ofD_spec (m := 16 + 9 * d) hd hd4 (j := 0) rfl (by omega) (by omega) ?_⟩
  intro r e; cases e
  refine ⟨fun c2 => l34 (fun hh => c2 hh.2.1), fun c2 => ofD_spec (m := 17 + 9 * d) hd hd4 (j := 1) rfl (by omega) (by omega) ?_⟩
  intro r e; cases e
  refine ⟨fun c3 => l34 (fun hh => c3 hh.2.2), fun c3 => l35 1 ⟨fun q => absurd q (by decide), fun q => absurd ⟨c, c2, c3⟩ q⟩⟩
theorem ta_d (hv : v < 4) {k : Nat} (hk : 16 ≤ k) : taF f v d k = f k := by
  unfold taF
  split
  · rw [fs_ne (by omega), fs_ne (by omega)]
  · rw [fs_ne (by omega)]
theorem ta_v {k : Nat} (hk : ¬ k = 4 * v + 2 ∧ ¬ k = 4 * v + 3) : taF f v d k = f k := by
  unfold taF
  split
  · rw [fs_ne (by omega), fs_ne (by omega)]
  · rw [fs_ne (by omega)]
theorem ta_br {w : Nat} : brF bo lw (taF f v d) w = brF bo lw f w := by
  unfold brF owF
  rw [ta_v (by omega), ta_v (by omega), ta_v (by omega), ta_v (by omega), ta_v (by omega)]
theorem ta_sh (hv : v < 4) : shF (taF f v d) d = shF f d := by
  unfold shF
  rw [ta_d hv (by omega), ta_d hv (by omega)]
theorem rowE {g : Nat → Int32} {k : Nat} {x : Int32} (h : κ 131 = g) : (up κ 131 k x) 131 = fs g k x := by rw [up_row, h]
theorem viM_spec (hv : x1.toInt = v) (hv4 : v < 4) (hd : x2.toInt = d) (hd4 : d < 4) (hw : WD (κ 131) d) (hB : BM2 bo lw κ) (h : ∀ κ', κ' 131 = viF bo lw (κ 131) v d → (∀ a, ¬ a = 131 → κ' a = κ a) → Q (some (.int (usF (κ 131) v d))) κ') : PC xl n 187 0 [(0, .ref 129), (1, .int x1), (2, .int x2)] [] κ Q := by
  have l74 : ∀ (κ1 : IS) (u : Int32), κ1 131 = taF (κ 131) v d → (∀ a, ¬ a = 131 → κ1 a = κ a) → (u = 0 ↔ ¬ iwF (κ 131) d) → PC xl n 187 74 [(0, .ref 129), (1, .int x1), (2, .int x2), (3, .int (usF (κ 131) v d)), (4, .int (shF (κ 131) d)), (5, .int u)] [] κ1 Q := by
    intro κ1 u h1 h2 hu
    have e0 : κ1 131 (16 + 9 * d) = κ 131 (16 + 9 * d) := by rw [h1, ta_d hv4 (by omega)]
    have e1 : κ1 131 (17 + 9 * d) = κ 131 (17 + 9 * d) := by rw [h1, ta_d hv4 (by omega)]
    refine (t_187_74 (of_spec (m := 4 * v) hv hv4 (j := 0) rfl (by omega) (by omega) ?_)).weak
    intro r e; cases e
    have e3 : κ1 131 (4 * v) = κ 131 (4 * v) := by rw [h1, ta_v (by omega)]
    rw [e3]
    refine ⟨fun c => h κ1 (by rw [h1]; exact (if_pos c).symm) h2, fun c => ofD_spec (m := 16 + 9 * d) hd hd4 (j := 0) rfl (by omega) (by omega) ?_⟩
    intro r e; cases e
    have hvi : viF bo lw (κ 131) v d = paF (taF (κ 131) v d) d (brF bo lw (κ 131) v) := if_neg c
    have hB1 : BM2 bo lw κ1 := by unfold BM2; rw [h2 129 (by omega)]; exact hB
    have hbr : brF bo lw (κ1 131) v = brF bo lw (κ 131) v := by rw [h1, ta_br]
    have iw1 : iwF (taF (κ 131) v d) d ↔ iwF (κ 131) d := by
      unfold iwF
      rw [ta_d hv4 (by omega), ta_d hv4 (by omega)]
    obtain ⟨q, hq⟩ : ∃ q : Nat, (κ 131 (16 + 9 * d)).toInt = q := ⟨(κ 131 (16 + 9 * d)).toInt.toNat, by have := hw.1.1; omega⟩
    have q6 : q ≤ 6 := by have := hw.1.2; omega
    refine ⟨fun c2 => ?_, fun c2 => ?_⟩
    · have ni : ¬ iwF (κ 131) d := hu.mp c2
      refine (t_187_109 ⟨fun _ => brM_spec hv hv4 hB1 ?_, fun c3 => absurd c2 c3⟩).weak
      intro r e; cases e
      refine becD_spec (m := 19 + 9 * d + q) hd hd4 (j := 3 + q) (i_3 (by rw [e0]; exact hq) (by omega)) (by omega) (by omega) ?_
      refine ⟨fun _ => becD_spec (m := 16 + 9 * d) hd hd4 (j := 0) rfl (by omega) (by omega) (becD_spec (m := 17 + 9 * d) hd hd4 (j := 1) rfl (by omega) (by omega) ?_), fun c3 => absurd c2 c3⟩
      refine h _ ?_ (fun a ha => by rw [up_oth ha, up_oth ha, up_oth ha]; exact h2 a ha)
      rw [rowE (rowE (rowE h1)), hbr, hvi]
      unfold paF
      rw [if_neg (fun hh => ni (iw1.mp hh)), ta_d hv4 (show 16 ≤ 16 + 9 * d by omega), hq, e0]
      rfl
    · have yi : iwF (κ 131) d := by false_or_by_contra; rename_i hh; exact c2 (hu.mpr hh)
      have q0 : 0 < q := by
        have := i_nz yi.2 hw.1.1
        omega
      obtain ⟨k, rfl⟩ : ∃ k, q = k + 1 := ⟨q - 1, by omega⟩
      refine (t_187_109 ⟨fun c3 => absurd c3 c2, fun _ => brM_spec hv hv4 hB1 ?_⟩).weak
      intro r e; cases e
      refine becD_spec (m := 19 + 9 * d + k) hd hd4 (j := 3 + k) (i_3 (i_p (by rw [e0]; exact hq) (by omega)) (by omega)) (by omega) (by omega) ?_
      refine ⟨fun c3 => absurd c3 c2, fun _ => becD_spec (m := 16 + 9 * d) hd hd4 (j := 0) rfl (by omega) (by omega) (becD_spec (m := 17 + 9 * d) hd hd4 (j := 1) rfl (by omega) (by omega) ?_)⟩
      refine h _ ?_ (fun a ha => by rw [up_oth ha, up_oth ha, up_oth ha]; exact h2 a ha)
      rw [rowE (rowE (rowE h1)), hbr, hvi]
      unfold paF
      rw [if_pos (iw1.mpr yi), ta_d hv4 (show 16 ≤ 16 + 9 * d by omega), hq, e0, ta_sh hv4, show 18 + 9 * d + ((k + 1 : Nat) : Int).toNat = 19 + 9 * d + k by rw [Int.toNat_natCast]; omega]
  have l36 : ∀ u : Int32, (u = 0 ↔ ¬ iwF (κ 131) d) → PC xl n 187 36 [(0, .ref 129), (1, .int x1), (2, .int x2), (3, .int (usF (κ 131) v d)), (4, .int (shF (κ 131) d))] [.int u] κ Q := by
    intro u hu
    refine (t_187_36 (fun _ _ _ _ => ⟨fun c => ?_, fun c _ _ _ _ => ?_⟩)).weak
    · rw [rf_129_1, ixV hv hv4 (j := 2) rfl (by omega)]
      refine l74 _ u ?_ (fun a ha => up_oth ha) hu
      rw [up_row]; exact (if_neg (hu.mp c)).symm
    · have yi : iwF (κ 131) d := by false_or_by_contra; rename_i hh; exact c (hu.mpr hh)
      rw [rf_129_1, ixV hv hv4 (j := 2) rfl (by omega), ixV hv hv4 (j := 3) rfl (by omega)]
      refine l74 _ u ?_ (fun a ha => by rw [up_oth ha, up_oth ha]) hu
      rw [up_row, up_row, fs_ne (by omega)]; exact (if_pos yi).symm
  refine (t_187_0 (usM_spec hv hv4 hd hd4 ?_)).weak
  intro r e; cases e
  refine shM_spec hd hd4 hw.1 ?_
  intro r e; cases e
  refine ofD_spec (m := 17 + 9 * d) hd hd4 (j := 1) rfl (by omega) (by omega) ?_
  intro r e; cases e
  have l35 : ¬ iwF (κ 131) d → PC xl n 187 35 [(0, .ref 129), (1, .int x1), (2, .int x2), (3, .int (usF (κ 131) v d)), (4, .int (shF (κ 131) d))] [] κ Q := fun hh => (t_187_35 (l36 0 ⟨fun _ => hh, fun _ => rfl⟩)).weak
  refine ⟨fun c => l35 (fun hh => c hh.1), fun c => ⟨fun c2 => l35 (fun hh => hh.2 (hw.sh4.mp c2)), fun c2 => l36 1 ⟨fun q => absurd q (by decide), fun q => absurd ⟨c, fun z => c2 (shF_0 z)⟩ q⟩⟩⟩
end Mod1
end
section
/-! TOWNS, III: the class's DOORS and VISITORS; a VISIT -/
section Cls1
variable {xl : List Int32} {n mi pc : Nat} {ι ι' κ : IS} {Q : Option Value → IS → Prop} {x1 x2 x3 x : Int32} {a u d v j m nd nv : Nat} {f g : Nat → Int32} {bo : Int} {lw : Nat}
theorem shX_spec (hr : rf a 0 = a + 1) (hD : DX a d f ι) (hw : 0 ≤ (f (16 + 9 * d)).toInt ∧ (f (16 + 9 * d)).toInt ≤ 6) (h : Q (some (.int (shF f d))) ι) : PC xl n 60 0 [(0, .ref a)] [] ι Q := by
  refine (t_60_0 ⟨fun c => ?_, fun c => ⟨fun c2 => ?_, fun c2 _ _ => ?_⟩⟩).weak
  · rw [i_lt, n0, hD.1] at c
    rw [shF_0 (i_z (by omega))] at h; exact h
  · rw [i_lt, n6, hD.1] at c2; omega
  · rw [i_lt, n0, hD.1] at c
    obtain ⟨k, hk⟩ : ∃ k : Nat, (f (16 + 9 * d)).toInt = (k + 1 : Nat) := ⟨(f (16 + 9 * d)).toInt.toNat - 1, by omega⟩
    rw [hr, hD.1, i_ixn (i_p hk (by omega)), hD.2.2.2 k (by omega), ← shF_s hk]; exact h
theorem addX_spec {q : Nat} (hr : rf a 0 = a + 1) (hD : DX a d f ι) (hq : (f (16 + 9 * d)).toInt = q) (h6 : q < 6) (h : ∀ ι', Sm a (a + 1) ι ι' → DX a d (fs (fs f (19 + 9 * d + q) x) (16 + 9 * d) (f (16 + 9 * d) + 1)) ι' → Q (some (.int 1)) ι') : PC xl n 35 0 [(0, .ref a), (1, .int x)] [] ι Q := by
  refine (t_35_0 ⟨fun c _ _ => ?_, fun c => ?_⟩).weak
  · rw [hr, hD.1, i_ixn hq, up_ne (by omega), hD.1]
    refine h _ ((Sm.rfl.up (by omega)).up (by omega)) ⟨?_, ?_, ?_, fun i hi => ?_⟩
    · rw [up_same, fs_same]
    · rw [up_ne (by omega), up_ne (by omega), fs_ne (by omega), fs_ne (by omega)]; exact hD.2.1
    · rw [up_ne (by omega), up_ne (by omega), fs_ne (by omega), fs_ne (by omega)]; exact hD.2.2.1
    · rw [fs_same, i_s hq (by omega)] at hi
      rw [up_ne (by omega), fs_ne (by omega)]
      by_cases e : i = q
      · subst e
        rw [up_same, fs_same]
      · rw [up_ne (by omega), fs_ne (by omega)]
        exact hD.2.2.2 i (by omega)
  · rw [i_lt, n6, hD.1] at c; omega
theorem loseX_spec {k : Nat} (hD : DX a d f ι) (hk : (f (16 + 9 * d)).toInt = (k + 1 : Nat)) (h : ∀ ι', Sm a (a + 1) ι ι' → DX a d (fs f (16 + 9 * d) (f (16 + 9 * d) - 1)) ι' → Q none ι') : PC xl n 78 0 [(0, .ref a)] [] ι Q := by
  have := i_rng (f (16 + 9 * d))
  refine (t_78_0 ⟨fun c => ?_, fun c => ?_⟩).weak
  · rw [i_lt, n0, hD.1] at c; omega
  · rw [hD.1]
    refine h _ (Sm.rfl.up (by omega)) ⟨?_, ?_, ?_, fun i hi => ?_⟩
    · rw [up_same, fs_same]
    · rw [up_ne (by omega), fs_ne (by omega)]; exact hD.2.1
    · rw [up_ne (by omega), fs_ne (by omega)]; exact hD.2.2.1
    · rw [fs_same, i_p hk (by omega)] at hi
      rw [up_ne (by omega), fs_ne (by omega)]
      exact hD.2.2.2 i (by omega)
/-- the DOOR's being wet is written -/
theorem DX.wet (hD : DX a d f ι) : DX a d (fs f (17 + 9 * d) x) (up ι a 3 x) := by
  refine ⟨?_, ?_, ?_, fun i hi => ?_⟩
  · rw [up_ne (by omega), fs_ne (by omega)]; exact hD.1
  · rw [up_same, fs_same]
  · rw [up_ne (by omega), fs_ne (by omega)]; exact hD.2.2.1
  · rw [fs_ne (by omega)] at hi
    rw [up_ne (by omega), fs_ne (by omega)]
    exact hD.2.2.2 i hi
theorem paX_spec (hr : rf a 0 = a + 1) (hD : DX a d f ι) (hw : WD f d) (hf : ¬ (f (16 + 9 * d) = 6 ∧ f (17 + 9 * d) = 0)) (h : ∀ ι', Sm a (a + 1) ι ι' → DX a d (paF f d x) ι' → Q none ι') : PC xl n 74 0 [(0, .ref a), (1, .int x)] [] ι Q := by
  obtain ⟨q, hq⟩ : ∃ q : Nat, (f (16 + 9 * d)).toInt = q := ⟨(f (16 + 9 * d)).toInt.toNat, by have := hw.1.1; omega⟩
  have q6 : q ≤ 6 := by have := hw.1.2; omega
  have dry : ¬ iwF f d → PC xl n 35 0 [(0, .ref a), (1, .int x)] [] ι (fun v2 κ2 => ∀ r2, v2 = some (.int r2) → Q none (up κ2 a 3 1)) := by
    intro ni
    refine addX_spec hr hD hq ?_ (fun ι' s1 d1 r _ => h _ (s1.up (by omega)) ?_)
    · rcases Nat.lt_or_ge q 6 with g | g
      · exact g
      · have e6 : f (16 + 9 * d) = 6 := by rw [i_eq, hq, n6]; omega
        exfalso
        rcases hw.2.1 with e | e
        · exact hf ⟨e6, e⟩
        · exact ni ⟨e, by rw [e6]; decide⟩
    · unfold paF
      rw [if_neg ni, hq]
      exact d1.wet
  refine (t_74_0 (shX_spec hr hD hw.1 ?_)).weak
  intro r e; cases e
  rw [hD.2.1, hr, hD.1]
  refine ⟨fun c => dry (fun hh => ?_), fun c => ⟨fun c2 => dry (fun hh => hh.2 (hw.sh4.mp c2)), fun c2 _ _ => ?_⟩⟩
  · rw [hh.1] at c; exact absurd c (by decide)
  · have yi : iwF f d := ⟨hw.2.1.resolve_left c, fun e => c2 (shF_0 e)⟩
    have q0 : 0 < q := by have := i_nz yi.2 hw.1.1; omega
    obtain ⟨k, rfl⟩ : ∃ k, q = k + 1 := ⟨q - 1, by omega⟩
    rw [i_ixn (i_p hq (by omega))]
    refine h _ ((Sm.rfl.up (by omega)).up (by omega)) ?_
    unfold paF
    rw [if_pos yi, hq, show 18 + 9 * d + ((k + 1 : Nat) : Int).toNat = 19 + 9 * d + k by rw [Int.toNat_natCast]; omega]
    refine DX.wet ⟨?_, ?_, ?_, fun i hi => ?_⟩
    · rw [up_ne (by omega), fs_same]; exact hD.1
    · rw [up_ne (by omega), fs_ne (by omega), fs_ne (by omega)]; exact hD.2.1
    · rw [up_ne (by omega), fs_ne (by omega), fs_ne (by omega)]; exact hD.2.2.1
    · rw [fs_same, hq] at hi
      rw [fs_ne (by omega)]
      by_cases e : i = k
      · subst e
        rw [up_same, fs_same]
      · rw [up_ne (by omega), fs_ne (by omega)]
        exact hD.2.2.2 i (by omega)
theorem fullX_spec (hD : DX a d f ι) (hw : WD f d) (h : ∀ r : Int32, (r = 0 ↔ ¬ (f (16 + 9 * d) = 6 ∧ f (17 + 9 * d) = 0)) → Q (some (.int r)) ι) : PC xl n 71 0 [(0, .ref a)] [] ι Q := by
  have h6 := hw.1.2
  refine (t_71_0 ⟨fun c => h 0 ⟨fun _ hh => ?_, fun _ => rfl⟩, fun c => ⟨fun c2 => h 0 ⟨fun _ hh => ?_, fun _ => rfl⟩, fun c2 => h 1 ⟨fun q => absurd q (by decide), fun q => absurd ⟨?_, ?_⟩ q⟩⟩⟩).weak
  · rw [i_lt, hD.1, hh.1] at c; exact absurd c (by decide)
  · rw [hD.2.1] at c2; exact c2 hh.2
  · rw [i_lt, hD.1, n6] at c; rw [i_eq, n6]; omega
  · rw [hD.2.1] at c2; exact c2
theorem isCol_spec (h : ∀ r : Int32, (r = 0 ↔ ¬ (0 ≤ x.toInt ∧ x.toInt ≤ 5)) → Q (some (.int r)) ι) : PC xl n 73 0 [(0, .int x)] [] ι Q := by
  refine (t_73_0 ⟨fun c => h 0 ⟨fun _ hh => ?_, fun _ => rfl⟩, fun c => ⟨fun c2 => h 0 ⟨fun _ hh => ?_, fun _ => rfl⟩, fun c2 => h 1 ⟨fun q => absurd q (by decide), fun q => absurd ⟨?_, ?_⟩ q⟩⟩⟩).weak
  · rw [i_lt, n0] at c; omega
  · rw [i_lt, n6] at c2; omega
  · rw [i_lt, n0] at c; omega
  · rw [i_lt, n6] at c2; omega
theorem hasV_spec (ha : (ι u 2).toInt = nv) (h1 : ¬ (0 ≤ x.toInt ∧ x.toInt < nv) → Q (some (.int 0)) ι) (h2 : ∀ v : Nat, x.toInt = v → v < nv → ∀ r : Int32, ¬ r = 0 → Q (some (.int r)) ι) : PC xl n 49 0 [(0, .ref u), (1, .int x)] [] ι Q := by
  refine has_spec (z := x.toInt) rfl ha (fun r hr => ?_)
  by_cases c : 0 ≤ x.toInt ∧ x.toInt < nv
  · exact h2 x.toInt.toNat (by omega) (by omega) r (fun e => (hr.mp e) c)
  · rw [hr.mpr c]; exact h1 c
theorem hasDr_spec (ha : (ι u 3).toInt = nd) (h1 : ¬ (0 ≤ x.toInt ∧ x.toInt < nd) → Q (some (.int 0)) ι) (h2 : ∀ d : Nat, x.toInt = d → d < nd → ∀ r : Int32, ¬ r = 0 → Q (some (.int r)) ι) : PC xl n 50 0 [(0, .ref u), (1, .int x)] [] ι Q := by
  refine hasD_spec (z := x.toInt) rfl ha (fun r hr => ?_)
  by_cases c : 0 ≤ x.toInt ∧ x.toInt < nd
  · exact h2 x.toInt.toNat (by omega) (by omega) r (fun e => (hr.mp e) c)
  · rw [hr.mpr c]; exact h1 c
theorem brX_spec (hu : isTown u) (hT : TW u nv nd f ι) (hB : BO u bo lw f ι) (hx : x.toInt = v) (hv : v < nv) (h : Q (some (.int (brF bo lw f v))) ι) : PC xl n 63 0 [(0, .ref u), (1, .int x)] [] ι Q := by
  have h4 := hT.1.1
  refine (t_63_0 (hasV_spec hT.1.2 (fun c => absurd ⟨by omega, by omega⟩ c) (fun v' hv' hlt r hr => ?_))).weak
  intro r2 e; cases e
  have vv : v' = v := by omega
  subst vv
  unfold brF at h
  rw [i_ixn hx, town_v hu (by omega), show (0 : Int32).toNatClampNeg = 0 from rfl, town_v hu (v := 0) (by omega)]
  have hV := hT.2.2.1 v' hv
  have hV0 := hT.2.2.1 0 (by omega)
  refine ⟨fun _ => ⟨fun c _ _ => ⟨fun c2 _ _ => ?_, fun c2 _ _ => ?_⟩, fun c => ?_⟩, fun c => absurd c hr⟩
  · rw [i_eq, hx, hB.1] at c
    rw [hV.1] at c2
    rw [if_neg c, owF, if_neg c2] at h
    rw [hV.2.1]; exact h
  · rw [i_eq, hx, hB.1] at c
    rw [hV.1] at c2
    rw [if_neg c, owF, if_pos c2] at h
    rw [show u + 2 + 0 = u + 2 + 0 from rfl, hV0.2.1]; exact h
  · rw [i_eq, hx, hB.1] at c
    rw [if_pos c] at h
    rw [hB.2 (by omega)]; exact h
theorem coX_spec (hu : isTown u) (hT : TW u nv nd f ι) (h1 : ¬ (0 ≤ x1.toInt ∧ x1.toInt < nv ∧ 0 ≤ x2.toInt ∧ x2.toInt < nd) → Q (some (.int (-1))) ι) (h2 : ∀ v d : Nat, x1.toInt = v → v < nv → x2.toInt = d → d < nd → Q (some (.int (usF f v d))) ι) : PC xl n 68 0 [(0, .ref u), (1, .int x1), (2, .int x2)] [] ι Q := by
  have h4 := hT.1.1
  have h5 := hT.2.1.1
  refine (t_68_0 (hasV_spec hT.1.2 (fun c => ?_) (fun v hv hlt r hr => ?_))).weak
  · intro r e; cases e
    exact ⟨fun _ => h1 (fun hh => c ⟨hh.1, hh.2.1⟩), fun c => absurd rfl c⟩
  · intro r2 e; cases e
    refine ⟨fun c => absurd c hr, fun _ => hasDr_spec hT.2.1.2 (fun c => ?_) (fun d hd hdl r hr2 => ?_)⟩
    · intro r e; cases e
      exact ⟨fun c => absurd rfl c, fun _ => h1 (fun hh => c hh.2.2)⟩
    · intro r3 e; cases e
      refine ⟨fun _ _ _ _ _ => ?_, fun c => absurd c hr2⟩
      have h := h2 v d hv hlt hd hdl
      rw [i_ixn hv, i_ixn hd, town_v hu (by omega), (town_d hu (d := d) (by omega)).1, (hT.2.2.1 v hlt).1, (hT.2.2.2 d hdl).1]
      unfold usF at h
      refine ⟨fun c => ?_, fun c => ?_, fun c => ?_⟩
      · have e1 : f (4 * v) = 1 := by rw [i_eq, c, n1]
        rw [e1, if_neg (by decide), if_pos rfl] at h; exact h
      · have e1 : f (4 * v) = 2 := by rw [i_eq, c, n2i]
        rw [e1, if_pos rfl] at h; exact h
      · rw [if_neg (fun e => c.2 (by rw [e, n2i])), if_neg (fun e => c.1 (by rw [e, n1]))] at h; exact h
theorem pa_o {k : Nat} (hw : WD f d) (hf : ¬ (f (16 + 9 * d) = 6 ∧ f (17 + 9 * d) = 0)) (hk : ¬ (16 + 9 * d ≤ k ∧ k < 25 + 9 * d)) : paF f d x k = f k := by
  have h0 := hw.1.1
  have h6 := hw.1.2
  unfold paF
  split
  · rename_i yi
    have := i_nz yi.2 h0
    rw [fs_ne (by omega), fs_ne (by omega), fs_ne (by omega)]
  · rename_i ni
    have : (f (16 + 9 * d)).toInt < 6 := by
      rcases Int.lt_or_eq_of_le h6 with g | g
      · exact g
      · exfalso
        have e6 : f (16 + 9 * d) = 6 := by rw [i_eq, g, n6]
        rcases hw.2.1 with e | e
        · exact hf ⟨e6, e⟩
        · exact ni ⟨e, by rw [e6]; decide⟩
    rw [fs_ne (by omega), fs_ne (by omega), fs_ne (by omega)]
theorem WD.ta (hv : v < 4) {e : Nat} (h : WD f e) : WD (taF f v d) e := by
  unfold WD at h ⊢
  rw [ta_d hv (by omega), ta_d hv (by omega)]
  refine ⟨h.1, h.2.1, fun i hi => ?_⟩
  rw [ta_d hv (by omega)]; exact h.2.2 i hi
theorem i_m6 {z : Int} (h : x.toInt = z) (h0 : 0 ≤ z) (h1 : z < 1000) : (x - x / 6 * 6).toInt = z % 6 := by
  have h2 : (x / 6).toInt = z / 6 := by
    rw [Int32.toInt_div, n6, h, Int.tdiv_eq_ediv_of_nonneg h0]
    exact i_bm (by omega)
  have h3 : (x / 6 * 6).toInt = z / 6 * 6 := by rw [i_mul (by rw [h2, n6]; omega), h2, n6]
  rw [i_sub (by rw [h3, h]; omega), h3, h]; omega
theorem WD.pa (h : WD f d) (hf : ¬ (f (16 + 9 * d) = 6 ∧ f (17 + 9 * d) = 0)) (hx : 0 ≤ x.toInt ∧ x.toInt ≤ 5) : WD (paF f d x) d := by
  obtain ⟨q, hq⟩ : ∃ q : Nat, (f (16 + 9 * d)).toInt = q := ⟨(f (16 + 9 * d)).toInt.toNat, by have := h.1.1; omega⟩
  have q6 : q ≤ 6 := by have := h.1.2; omega
  unfold paF
  split
  · rename_i yi
    have q0 : 0 < q := by have := i_nz yi.2 h.1.1; omega
    obtain ⟨k, rfl⟩ : ∃ k, q = k + 1 := ⟨q - 1, by omega⟩
    rw [hq, show 18 + 9 * d + ((k + 1 : Nat) : Int).toNat = 19 + 9 * d + k by rw [Int.toNat_natCast]; omega]
    refine ⟨?_, Or.inr fs_same, fun i hi => ?_⟩
    · rw [fs_ne (by omega), fs_same]; exact h.1
    · rw [fs_ne (by omega), fs_ne (by omega)]
      by_cases e : i = k
      · subst e
        rw [fs_same]
        have hs := h.sh yi.2
        rw [i_m6 (z := (shF f d).toInt + x.toInt) (i_add (by omega)) (by omega) (by omega)]
        omega
      · rw [fs_ne (by omega)]; exact h.2.2 i hi
  · rename_i ni
    have ql : q < 6 := by
      rcases Nat.lt_or_ge q 6 with g | g
      · exact g
      · have e6 : f (16 + 9 * d) = 6 := by rw [i_eq, hq, n6]; omega
        exfalso
        rcases h.2.1 with e | e
        · exact hf ⟨e6, e⟩
        · exact ni ⟨e, by rw [e6]; decide⟩
    rw [hq, Int.toNat_natCast]
    refine ⟨?_, Or.inr fs_same, fun i hi => ?_⟩
    · rw [fs_ne (by omega), fs_same, i_s hq (by omega)]; omega
    · rw [fs_ne (by omega), fs_ne (by omega)]
      by_cases e : i = q
      · subst e
        rw [fs_same]; exact hx
      · rw [fs_ne (by omega)]; exact h.2.2 i hi
theorem WF.br (h : WF f) (hv : v < 4) (hl : 0 ≤ bo → lw < 4) : 0 ≤ (brF bo lw f v).toInt ∧ (brF bo lw f v).toInt ≤ 5 := by
  have ow : ∀ w, w < 4 → 0 ≤ (owF f w).toInt ∧ (owF f w).toInt ≤ 5 := by
    intro w hw
    unfold owF
    split
    · exact h.2 0 (by omega)
    · exact h.2 w hw
  unfold brF
  split
  · exact ow lw (hl (by omega))
  · exact ow v hv
/-- no reason to keep out: there is room -/
theorem ko_room (h : koF f v d = 0) (hm : ¬ f (4 * v) = 2) : ¬ (f (16 + 9 * d) = 6 ∧ f (17 + 9 * d) = 0) := by
  intro hh
  unfold koF at h
  split at h
  · exact absurd h (by decide)
  · rw [if_pos ⟨hm, hh⟩] at h; exact absurd h (by decide)
theorem WF.vi (h : WF f) (hv : v < 4) (hd : d < 4) (hk : koF f v d = 0) (hl : 0 ≤ bo → lw < 4) : WF (viF bo lw f v d) := by
  have hT : WF (taF f v d) := ⟨fun e he => (h.1 e he).ta hv, fun w hw => by rw [ta_v (by omega)]; exact h.2 w hw⟩
  unfold viF
  split
  · exact hT
  · rename_i hm
    have hr := ko_room hk hm
    have hr2 : ¬ (taF f v d (16 + 9 * d) = 6 ∧ taF f v d (17 + 9 * d) = 0) := by rw [ta_d hv (by omega), ta_d hv (by omega)]; exact hr
    refine ⟨fun e he => ?_, fun w hw => ?_⟩
    · by_cases ed : e = d
      · subst ed; exact (hT.1 e he).pa hr2 (h.br hv hl)
      · have h1 := hT.1 e he
        unfold WD at h1 ⊢
        rw [pa_o (hT.1 d hd) hr2 (by omega), pa_o (hT.1 d hd) hr2 (by omega)]
        exact ⟨h1.1, h1.2.1, fun i hi => by rw [pa_o (hT.1 d hd) hr2 (by omega)]; exact h1.2.2 i hi⟩
    · rw [pa_o (hT.1 d hd) hr2 (by omega)]; exact hT.2 w hw
theorem vi_ow (h : WF f) (hv : v < 4) (hd : d < 4) (hk : koF f v d = 0) {w : Nat} (hw : w < 4) : owF (viF bo lw f v d) w = owF f w := by
  have hT : WD (taF f v d) d := (h.1 d hd).ta hv
  have e : ∀ k, k < 16 → ¬ (k = 4 * v + 2 ∨ k = 4 * v + 3) → viF bo lw f v d k = f k := by
    intro k h1 h2
    unfold viF
    split
    · exact ta_v (by omega)
    · rename_i hm
      have hr2 : ¬ (taF f v d (16 + 9 * d) = 6 ∧ taF f v d (17 + 9 * d) = 0) := by rw [ta_d hv (by omega), ta_d hv (by omega)]; exact ko_room hk hm
      rw [pa_o hT hr2 (by omega)]; exact ta_v (by omega)
  unfold owF
  rw [e _ (by omega) (by omega), e _ (by omega) (by omega), e _ (by omega) (by omega)]
theorem rcX_spec (hu : isTown u) (hT : TW u nv nd f ι) (hw : WF f) (hB : BO u bo lw f ι) (h1 : ¬ (0 ≤ x1.toInt ∧ x1.toInt < nv ∧ 0 ≤ x2.toInt ∧ x2.toInt < nd) → Q (some (.int (-1))) ι) (h2 : ∀ v d : Nat, x1.toInt = v → v < nv → x2.toInt = d → d < nd → ¬ koF f v d = 0 → Q (some (.int (koF f v d))) ι) (h3 : ∀ v d : Nat, x1.toInt = v → v < nv → x2.toInt = d → d < nd → koF f v d = 0 → ∀ ι', Sm u (u + 14) ι ι' → (∀ j, ι' u j = ι u j) → TW u nv nd (viF bo lw f v d) ι' → Q (some (.int (shF (viF bo lw f v d) d))) ι') (hl : 0 ≤ bo → lw < 4) : PC xl n 70 0 [(0, .ref u), (1, .int x1), (2, .int x2)] [] ι Q := by
  have h4 := hT.1.1
  have h5 := hT.2.1.1
  refine (t_70_0 (coX_spec hu hT (fun c => ?_) (fun v d hv hvl hd hdl => ?_))).weak
  · intro r e; cases e
    exact ⟨fun q => absurd rfl q, fun _ => h1 c⟩
  intro r e; cases e
  have hv4 : v < 4 := by omega
  have hd4 : d < 4 := by omega
  have hW := hw.1 d hd4
  have us0 := hW.us (v := v)
  have hV := hT.2.2.1 v hvl
  have hD := hT.2.2.2 d hdl
  obtain ⟨tr1, tr2⟩ := town_d hu (d := d) hd4
  have tv := town_v hu (v := v) hv4
  rw [i_ixn hv, i_ixn hd, tv, tr1, hV.2.2.1, hV.1]
  have l91 : ∀ ι1 : IS, Sm u (u + 14) ι ι1 → (∀ j, ι1 u j = ι u j) → TW u nv nd (taF f v d) ι1 → koF f v d = 0 → PC xl n 70 91 [(0, .ref u), (1, .int x1), (2, .int x2), (3, .int (usF f v d)), (4, .ref (u + 2 + v)), (5, .ref (u + 7 + 2 * d))] [] ι1 Q := by
    intro ι1 s1 su t1 ko
    have hV1 := t1.2.2.1 v hvl
    have hD1 := t1.2.2.2 d hdl
    have hW1 : WD (taF f v d) d := hW.ta hv4
    have k4 : ι1 (u + 2 + v) 0 = f (4 * v) := by rw [hV1.1, ta_v (by omega)]
    refine (t_70_91 ⟨fun c => ?_, fun c => ?_⟩).weak
    · rw [k4] at c
      refine shX_spec tr2 hD1 hW1.1 ?_
      intro r e; cases e
      have hvi : viF bo lw f v d = taF f v d := if_pos c
      have := h3 v d hv hvl hd hdl ko ι1 s1 su (by rw [hvi]; exact t1)
      rw [hvi] at this; exact this
    · rw [k4] at c
      have hvi : viF bo lw f v d = paF (taF f v d) d (brF bo lw f v) := if_neg c
      have hB1 : BO u bo lw (taF f v d) ι1 := ⟨by rw [su]; exact hB.1, fun h => by
        rw [su, hB.2 h]
        unfold owF
        rw [ta_v (by omega), ta_v (by omega), ta_v (by omega)]⟩
      refine brX_spec hu t1 hB1 hv hvl ?_
      intro r e; cases e
      have hr2 : ¬ (taF f v d (16 + 9 * d) = 6 ∧ taF f v d (17 + 9 * d) = 0) := by rw [ta_d hv4 (by omega), ta_d hv4 (by omega)]; exact ko_room ko c
      rw [ta_br]
      refine paX_spec tr2 hD1 hW1 hr2 (fun ι2 s2 d2 => ?_)
      have hW2 : WD (viF bo lw f v d) d := by rw [hvi]; exact hW1.pa hr2 (hw.br hv4 hl)
      refine shX_spec tr2 d2 (hvi ▸ hW2.1) ?_
      intro r e; cases e
      rw [← hvi]
      refine h3 v d hv hvl hd hdl ko ι2 (s1.trans (s2.wide (by omega) (by omega))) (fun j => by rw [s2 u j (by omega)]; exact su j) ?_
      have hwT : WF (taF f v d) := ⟨fun e he => (hw.1 e he).ta hv4, fun w hw2 => by rw [ta_v (by omega)]; exact hw.2 w hw2⟩
      rw [hvi]
      exact t1.door hwT hdl s2 (fun j hj => pa_o hW1 hr2 hj) d2
  have l62 : koF f v d = 0 → PC xl n 70 62 [(0, .ref u), (1, .int x1), (2, .int x2), (3, .int (usF f v d)), (4, .ref (u + 2 + v)), (5, .ref (u + 7 + 2 * d))] [] ι Q := by
    intro ko
    have s1 : Sm (u + 2 + v) (u + 2 + v) ι (up ι (u + 2 + v) 2 (f (4 * v + 2) - usF f v d)) := Sm.rfl.up (by omega)
    have V1 : VX (u + 2 + v) v (fs f (4 * v + 2) (f (4 * v + 2) - usF f v d)) (up ι (u + 2 + v) 2 (f (4 * v + 2) - usF f v d)) := by
      refine ⟨?_, ?_, ?_, ?_⟩
      · rw [up_ne (by omega), fs_ne (by omega)]; exact hV.1
      · rw [up_ne (by omega), fs_ne (by omega)]; exact hV.2.1
      · rw [up_same, fs_same]
      · rw [up_ne (by omega), fs_ne (by omega)]; exact hV.2.2.2
    have T1 : TW u nv nd (fs f (4 * v + 2) (f (4 * v + 2) - usF f v d)) (up ι (u + 2 + v) 2 (f (4 * v + 2) - usF f v d)) := hT.vis hw hvl s1 (fun j hj => fs_ne (by omega)) V1
    have D1 := T1.2.2.2 d hdl
    refine (t_70_62 ?_).weak
    rw [hV.2.2.1]
    have w3 : (up ι (u + 2 + v) 2 (f (4 * v + 2) - usF f v d)) (u + 7 + 2 * d) 3 = f (17 + 9 * d) := by rw [up_ne (by omega)]; exact hD.2.1
    rw [w3]
    refine ⟨fun c => l91 _ (s1.wide (by omega) (by omega)) (fun j => up_ne (by omega)) ?_ ko, fun c => shX_spec tr2 D1 (by rw [fs_ne (by omega)]; exact hW.1) ?_⟩
    · have : taF f v d = fs f (4 * v + 2) (f (4 * v + 2) - usF f v d) := if_neg (fun hh => by rw [hh.1] at c; exact absurd c (by decide))
      rw [this]; exact T1
    · intro r e; cases e
      have es : shF (fs f (4 * v + 2) (f (4 * v + 2) - usF f v d)) d = shF f d := by
        unfold shF
        rw [fs_ne (by omega), fs_ne (by omega)]
      rw [es]
      refine (t_72_0 (isCol_spec (fun r hr => ?_))).weak
      intro r2 e; cases e
      by_cases c0 : f (16 + 9 * d) = 0
      · have : taF f v d = fs f (4 * v + 2) (f (4 * v + 2) - usF f v d) := if_neg (fun hh => hh.2 c0)
        have rz : r = 0 := hr.mpr (by rw [shF_0 c0, nm4]; omega)
        exact ⟨fun _ => l91 _ (s1.wide (by omega) (by omega)) (fun j => up_ne (by omega)) (by rw [this]; exact T1) ko, fun q => absurd rz q⟩
      · have yi : iwF f d := ⟨hW.2.1.resolve_left c, c0⟩
        have hta : taF f v d = fs (fs f (4 * v + 2) (f (4 * v + 2) - usF f v d)) (4 * v + 3) (f (4 * v + 3) ||| (1 <<< (shF f d &&& 31))) := if_pos yi
        refine ⟨fun q => absurd (hW.sh c0) (hr.mp q), fun _ => ?_⟩
        have e3 : (up ι (u + 2 + v) 2 (f (4 * v + 2) - usF f v d)) (u + 2 + v) 3 = f (4 * v + 3) := by rw [V1.2.2.2, fs_ne (by omega)]
        rw [e3]
        refine l91 _ ((s1.wide (by omega) (by omega)).up (by omega)) (fun j => by rw [up_ne (by omega), up_ne (by omega)]) ?_ ko
        rw [hta]
        refine T1.vis ?_ hvl (Sm.rfl.up (by omega)) (fun j hj => fs_ne (by omega)) ⟨?_, ?_, ?_, ?_⟩
        · refine ⟨fun e he => ?_, fun w hw2 => by rw [fs_ne (by omega)]; exact hw.2 w hw2⟩
          have h9 := hw.1 e he
          unfold WD at h9 ⊢
          rw [fs_ne (by omega), fs_ne (by omega)]
          exact ⟨h9.1, h9.2.1, fun i hi => by rw [fs_ne (by omega)]; exact h9.2.2 i hi⟩
        · rw [up_ne (by omega), fs_ne (by omega)]; exact V1.1
        · rw [up_ne (by omega), fs_ne (by omega)]; exact V1.2.1
        · rw [up_ne (by omega), fs_ne (by omega)]; exact V1.2.2.1
        · rw [up_same, fs_same]
  have hko : koF f v d = if f (4 * v + 2) < usF f v d then -2 else if ¬ f (4 * v) = 2 ∧ f (16 + 9 * d) = 6 ∧ f (17 + 9 * d) = 0 then -3 else 0 := rfl
  refine ⟨fun _ _ _ _ _ => ⟨fun c => ⟨fun c2 => l62 ?_, fun c2 => fullX_spec hD hW (fun r hr => ?_)⟩, fun c => ?_⟩, fun q => ?_⟩
  · rw [hko, if_neg c, if_neg (fun hh => hh.1 c2)]
  · intro r2 e; cases e
    refine ⟨fun q => l62 ?_, fun q => ?_⟩
    · rw [hko, if_neg c, if_neg (fun hh => (hr.mp q) hh.2)]
    · have hh : f (16 + 9 * d) = 6 ∧ f (17 + 9 * d) = 0 := by false_or_by_contra; rename_i h9; exact q (hr.mpr h9)
      have e3 : koF f v d = -3 := by rw [hko, if_neg c, if_pos ⟨c2, hh⟩]
      have := h2 v d hv hvl hd hdl (by rw [e3]; decide)
      rw [e3] at this; exact this
  · have e3 : koF f v d = -2 := by rw [hko, if_pos c]
    have := h2 v d hv hvl hd hdl (by rw [e3]; decide)
    rw [e3] at this; exact this
  · rw [q] at us0; exact absurd us0 (by decide)
end Cls1
end
section
/-! TOWNS, IV: HOUR, RAIN, SUN; how many LAYERS -/
noncomputable def tpF (f : Nat → Int32) (d h : Nat) : Nat → Int32
  | 0 => 0
  | t + 1 => tpF f d h t + f (19 + 9 * d + (h - 1 - t))
noncomputable def smL (f : Nat → Int32) (d p : Nat) : Nat → Int32
  | 0 => 0
  | m + 1 => smL f d p m + f (19 + 9 * d + (p + m))
noncomputable def raF (f : Nat → Int32) (d : Nat) : Nat → Int32 :=
  if f (16 + 9 * d) = 0 then f else
  fs (fs (fs f (19 + 9 * d + ((f (16 + 9 * d)).toInt.toNat - 3)) (smL f d ((f (16 + 9 * d)).toInt.toNat - 3) ((f (16 + 9 * d)).toInt.toNat - ((f (16 + 9 * d)).toInt.toNat - 3)) - smL f d ((f (16 + 9 * d)).toInt.toNat - 3) ((f (16 + 9 * d)).toInt.toNat - ((f (16 + 9 * d)).toInt.toNat - 3)) / 6 * 6)) (16 + 9 * d) (Int32.ofNat ((f (16 + 9 * d)).toInt.toNat - 3) + 1)) (17 + 9 * d) 1
noncomputable def suN (f : Nat → Int32) (d : Nat) : Nat → Nat
  | 0 => 0
  | h + 1 => if f (19 + 9 * d + h) = 0 then suN f d h else h + 1
noncomputable def sunF (f : Nat → Int32) (d : Nat) : Nat → Int32 := fs (fs f (17 + 9 * d) 0) (16 + 9 * d) (Int32.ofNat (suN f d (f (16 + 9 * d)).toInt.toNat))
noncomputable def dF (z : Int) (f : Nat → Int32) (d : Nat) : Nat → Int32 := if z = 91 then raF f d else if z = 92 then sunF f d else fs f (17 + 9 * d) 0
noncomputable def goF (z : Int) (f : Nat → Int32) : Nat → Nat → Int32
  | 0 => f
  | d + 1 => dF z (goF z f d) d
/-- a sum over what comes ahead -/
noncomputable def sF (g : Nat → Int32) : Nat → Int32
  | 0 => 0
  | d + 1 => sF g d + g d
section Sky1
variable {xl : List Int32} {n mi pc : Nat} {ι ι' ι0 κ κ0 : IS} {Q : Option Value → IS → Prop} {x1 x2 x3 x : Int32} {a u d v j m nd nv h k t c p : Nat} {f g : Nat → Int32} {z : Int}
theorem fs_fs {y w b : Int32} : fs (fs (fs f k y) m w) k b = fs (fs f m w) k b := by
  funext q
  unfold fs
  split
  · rfl
  · rename_i hq
    split
    · rfl
    · first | rfl | rw [if_neg hq]
theorem fs_2 {y w : Int32} : fs (fs f k y) k w = fs f k w := by
  funext q
  unfold fs
  split
  · rfl
  · rename_i hq
    first | rfl | rw [if_neg hq]
theorem fs_id {y : Int32} (hy : f k = y) : fs f k y = f := by
  funext q
  unfold fs
  split
  · rename_i hq
    rw [hq, hy]
  · rfl
theorem fs_cm {y w : Int32} (hk : ¬ k = m) : fs (fs f k y) m w = fs (fs f m w) k y := by
  funext q
  unfold fs
  by_cases e1 : q = m
  · rw [if_pos e1, if_neg (by omega), if_pos e1]
  · rw [if_neg e1, if_neg e1]
theorem o_in (hk : k ≤ 2147483647) : (Int32.ofNat k).toInt = k := i_of hk
theorem o_p (hk : k < 2147483647) : Int32.ofNat (k + 1) - 1 = Int32.ofNat k := i_eq.mpr (by rw [i_p (i_of (by omega)) hk, i_of (by omega)])
theorem o_s (hk : k < 2147483647) : Int32.ofNat k + 1 = Int32.ofNat (k + 1) := i_eq.mpr (by rw [i_s (i_of (by omega)) hk, i_of (by omega)])
theorem tp_sm (hc : c ≤ 3) : tpF f d (p + c) c = smL f d p c := by
  match c, hc with
  | 0, _ => rfl
  | 1, _ => simp [tpF, smL]
  | 2, _ =>
    simp only [tpF, smL]
    rw [show p + 2 - 1 - 0 = p + 1 by omega, show p + 2 - 1 - 1 = p + 0 by omega, Int32.zero_add, Int32.zero_add, Int32.add_comm]
  | 3, _ =>
    simp only [tpF, smL]
    rw [show p + 3 - 1 - 0 = p + 2 by omega, show p + 3 - 1 - 1 = p + 1 by omega, show p + 3 - 1 - 2 = p + 0 by omega, Int32.zero_add, Int32.zero_add, Int32.add_comm, ← Int32.add_assoc, Int32.add_assoc, Int32.add_comm (f (19 + 9 * d + (p + 2))), ← Int32.add_assoc]
theorem sm_b (hf : ∀ i, i < 6 → 0 ≤ (f (19 + 9 * d + i)).toInt ∧ (f (19 + 9 * d + i)).toInt ≤ 5) : ∀ c, p + c ≤ 6 → 0 ≤ (smL f d p c).toInt ∧ (smL f d p c).toInt ≤ 5 * c
  | 0, _ => ⟨by simp [smL, n0], by simp [smL, n0]⟩
  | c + 1, hc => by
    have h1 := sm_b hf c (by omega)
    have h2 := hf (p + c) (by omega)
    simp only [smL]
    rw [i_add (by omega)]
    omega
/-- a RAIN over a DOOR, by the class -/
theorem rainL (hr : rf a 0 = a + 1) (hh : (f (16 + 9 * d)).toInt = h) (h0 : 0 < h) (h6 : h ≤ 6) (hq : ∀ ι', Sm a (a + 1) ι0 ι' → DX a d (raF f d) ι' → Q none ι') : ∀ (n t : Nat) (ι : IS) (x2 : Int32), x2.toInt = t → t ≤ 3 → t ≤ h → Sm a (a + 1) ι0 ι → DX a d (fs f (16 + 9 * d) (Int32.ofNat (h - t))) ι → PC xl n 77 12 [(0, .ref a), (1, .int (tpF f d h t)), (2, .int x2)] [] ι Q
  | 0, _, _, _, _, _, _, _, _ => PC.zero
  | n + 1, t, ι, x2, hx, ht, hth, hs, hD => by
    have e0 : ι a 1 = Int32.ofNat (h - t) := by rw [hD.1, fs_same]
    have fin : (t = 3 ∨ h - t = 0) → PC xl n 77 41 [(0, .ref a), (1, .int (tpF f d h t)), (2, .int x2)] [] ι Q := by
      intro he
      refine (t_77_41 (addX_spec (q := h - t) hr hD (by rw [fs_same]; exact i_of (by omega)) (by omega) (fun ι1 s1 d1 r _ => ?_))).weak
      refine hq _ ((hs.trans s1).up (by omega)) ?_
      have ef : ¬ f (16 + 9 * d) = 0 := fun e => by rw [e, n0] at hh; omega
      unfold raF
      rw [if_neg ef, hh, Int.toNat_natCast]
      have ep : h - 3 = h - t := by omega
      have ec : h - (h - 3) = t := by omega
      rw [ec, ep]
      have es : tpF f d h t = smL f d (h - t) t := by
        have := tp_sm (f := f) (d := d) (p := h - t) ht
        rw [show h - t + t = h by omega] at this
        exact this
      rw [es, fs_same, fs_fs] at d1
      exact d1.wet
    refine t_77_12 ⟨fun c => fin (Or.inl ?_), fun c => ⟨fun c2 => fin (Or.inr ?_), fun c2 => ?_⟩⟩
    · rw [i_lt, hx, n3] at c; omega
    · rw [i_lt, n0, e0, i_of (by omega)] at c2; omega
    · rw [i_lt, hx, n3] at c
      rw [i_lt, n0, e0, i_of (by omega)] at c2
      have hk : ((fs f (16 + 9 * d) (Int32.ofNat (h - t))) (16 + 9 * d)).toInt = (h - 1 - t + 1 : Nat) := by rw [fs_same, i_of (by omega)]; omega
      refine shX_spec hr hD (by rw [hk]; omega) ?_
      intro r e; cases e
      refine loseX_spec hD hk (fun ι1 s1 d1 => ?_)
      rw [shF_s hk, fs_ne (by omega)]
      refine rainL hr hh h0 h6 hq n (t + 1) ι1 (x2 + 1) (i_s hx (by omega)) (by omega) (by omega) (hs.trans s1) ?_
      rw [fs_same, fs_2, show h - t = h - (t + 1) + 1 by omega, o_p (by omega)] at d1
      exact d1
theorem raX_spec (hr : rf a 0 = a + 1) (hD : DX a d f ι) (hw : WD f d) (hq : ∀ ι', Sm a (a + 1) ι ι' → DX a d (raF f d) ι' → Q none ι') : PC xl n 77 0 [(0, .ref a)] [] ι Q := by
  obtain ⟨h, hh⟩ : ∃ q : Nat, (f (16 + 9 * d)).toInt = q := ⟨(f (16 + 9 * d)).toInt.toNat, by have := hw.1.1; omega⟩
  have h6 : h ≤ 6 := by have := hw.1.2; omega
  refine (t_77_0 ⟨fun c => ?_, fun c => hq ι Sm.rfl ?_⟩).weak
  · rw [hD.1] at c
    have h0 : 0 < h := by have := i_nz c hw.1.1; omega
    refine rainL hr hh h0 h6 hq n 0 ι 0 rfl (by omega) (by omega) Sm.rfl ?_
    rw [fs_id (by rw [i_on hh]; rfl)]
    exact hD
  · rw [hD.1] at c
    unfold raF
    rw [if_pos c]; exact hD
theorem su_le : ∀ q, suN f d q ≤ q
  | 0 => Nat.le_refl _
  | q + 1 => by
    simp only [suN]
    split
    · have := su_le q; omega
    · exact Nat.le_refl _
/-- SUN over a DOOR, by the class -/
theorem sunL {s : Nat} (hr : rf a 0 = a + 1) (h6 : h ≤ 6) (hq : ∀ ι', Sm a (a + 1) ι0 ι' → DX a d (fs (fs f (17 + 9 * d) 0) (16 + 9 * d) (Int32.ofNat s)) ι' → Q none ι') : ∀ (n t k : Nat) (ι : IS) (x1 : Int32), x1.toInt = t → k + t = h → suN f d k = s → Sm a (a + 1) ι0 ι → DX a d (fs f (16 + 9 * d) (Int32.ofNat k)) ι → PC xl n 79 2 [(0, .ref a), (1, .int x1)] [] ι Q
  | 0, _, _, _, _, _, _, _, _, _ => PC.zero
  | n + 1, t, k, ι, x1, hx, hk, hsu, hs, hD => by
    have fin : ∀ ι1, ι1 = ι → k = s → Q none (up ι1 a 3 0) := by
      intro ι1 e1 e2
      rw [e1]
      refine hq _ (hs.up (by omega)) ?_
      have := hD.wet (x := 0)
      rw [fs_cm (by omega), e2] at this
      exact this
    refine t_79_2 ⟨fun c => fin ι rfl ?_, fun c => ?_⟩
    · rw [i_lt, hx, n6] at c
      have : k = 0 := by omega
      rw [this] at hsu
      rw [this, ← hsu]; rfl
    have hv : ((fs f (16 + 9 * d) (Int32.ofNat k)) (16 + 9 * d)).toInt = k := by rw [fs_same, i_of (by omega)]
    refine shX_spec hr hD (by rw [hv]; omega) ?_
    intro r e; cases e
    match k, hk, hsu, hD, hv, fin with
    | 0, hk, hsu, hD, hv, fin =>
      have e4 : shF (fs f (16 + 9 * d) (Int32.ofNat 0)) d = -4 := shF_0 fs_same
      rw [e4]
      exact ⟨fun _ => fin ι rfl (by rw [← hsu]; rfl), fun c => absurd c (by decide)⟩
    | k + 1, hk, hsu, hD, hv, fin =>
      rw [shF_s hv, fs_ne (by omega)]
      simp only [suN] at hsu
      refine ⟨fun c => fin ι rfl ?_, fun c => loseX_spec hD hv (fun ι1 s1 d1 => ?_)⟩
      · rw [if_neg c] at hsu; exact hsu
      · rw [if_pos c] at hsu
        rw [fs_same, fs_2, o_p (by omega)] at d1
        exact sunL hr h6 hq n (t + 1) k ι1 (x1 + 1) (i_s hx (by omega)) (by omega) hsu (hs.trans s1) d1
theorem sunX_spec (hr : rf a 0 = a + 1) (hD : DX a d f ι) (hw : WD f d) (hq : ∀ ι', Sm a (a + 1) ι ι' → DX a d (sunF f d) ι' → Q none ι') : PC xl n 79 0 [(0, .ref a)] [] ι Q := by
  obtain ⟨h, hh⟩ : ∃ q : Nat, (f (16 + 9 * d)).toInt = q := ⟨(f (16 + 9 * d)).toInt.toNat, by have := hw.1.1; omega⟩
  have h6 : h ≤ 6 := by have := hw.1.2; omega
  refine (t_79_0 (sunL (s := suN f d h) (h := h) hr h6 (fun ι' s1 d1 => hq ι' s1 ?_) n 0 h ι 0 rfl rfl rfl Sm.rfl ?_)).weak
  · unfold sunF
    rw [hh, Int.toNat_natCast]; exact d1
  · rw [fs_id (i_on hh)]; exact hD
theorem dF_o (hw : WD f d) (hk : ¬ (16 + 9 * d ≤ k ∧ k < 25 + 9 * d)) : dF z f d k = f k := by
  have h6 := hw.1.2
  unfold dF
  split
  · unfold raF
    split
    · rfl
    · rw [fs_ne (by omega), fs_ne (by omega), fs_ne (by omega)]
  · split
    · unfold sunF
      rw [fs_ne (by omega), fs_ne (by omega)]
    · rw [fs_ne (by omega)]
theorem WD.dfF (hw : WD f d) : WD (dF z f d) d := by
  obtain ⟨h, hh⟩ : ∃ q : Nat, (f (16 + 9 * d)).toInt = q := ⟨(f (16 + 9 * d)).toInt.toNat, by have := hw.1.1; omega⟩
  have h6 : h ≤ 6 := by have := hw.1.2; omega
  unfold dF
  split
  · unfold raF
    split
    · exact hw
    · rw [hh, Int.toNat_natCast]
      have hb := sm_b (f := f) (d := d) (p := h - 3) hw.2.2 (h - (h - 3)) (by omega)
      refine ⟨?_, Or.inr fs_same, fun i hi => ?_⟩
      · rw [fs_ne (by omega), fs_same, o_s (by omega), i_of (by omega)]; omega
      · rw [fs_ne (by omega), fs_ne (by omega)]
        by_cases e : i = h - 3
        · rw [e, fs_same, i_m6 (z := (smL f d (h - 3) (h - (h - 3))).toInt) rfl hb.1 (by omega)]
          omega
        · rw [fs_ne (by omega)]; exact hw.2.2 i hi
  · split
    · unfold sunF
      have := su_le (f := f) (d := d) (f (16 + 9 * d)).toInt.toNat
      refine ⟨?_, ?_, fun i hi => ?_⟩
      · rw [fs_same, i_of (by omega)]; omega
      · rw [fs_ne (by omega), fs_same]; exact Or.inl rfl
      · rw [fs_ne (by omega), fs_ne (by omega)]; exact hw.2.2 i hi
    · refine ⟨?_, Or.inl fs_same, fun i hi => ?_⟩
      · rw [fs_ne (by omega)]; exact hw.1
      · rw [fs_ne (by omega)]; exact hw.2.2 i hi
theorem WF.dfF (hw : WF f) (hd : d < 4) : WF (dF z f d) := by
  refine ⟨fun e he => ?_, fun w hv => ?_⟩
  · by_cases ed : e = d
    · subst ed; exact (hw.1 e he).dfF
    · have h1 := hw.1 e he
      unfold WD at h1 ⊢
      rw [dF_o (hw.1 d hd) (by omega), dF_o (hw.1 d hd) (by omega)]
      exact ⟨h1.1, h1.2.1, fun i hi => by rw [dF_o (hw.1 d hd) (by omega)]; exact h1.2.2 i hi⟩
  · rw [dF_o (hw.1 d hd) (by omega)]; exact hw.2 w hv
theorem WF.goK (hw : WF f) : ∀ d, d ≤ 4 → WF (goF z f d)
  | 0, _ => hw
  | d + 1, hd => (WF.goK hw d (by omega)).dfF (by omega)
theorem go_v (hw : WF f) (hk : k < 16) : ∀ d, d ≤ 4 → goF z f d k = f k
  | 0, _ => rfl
  | d + 1, hd => by
    show dF z (goF z f d) d k = f k
    rw [dF_o ((WF.goK hw d (by omega)).1 d (by omega)) (by omega)]
    exact go_v hw hk d (by omega)
/-- HOUR, RAIN, SUN, by the class -/
theorem weaL (hu : isTown u) (hw : WF f) (hz : x1.toInt = z) (hz2 : 90 ≤ z ∧ z ≤ 92) (hq : ∀ ι', Sm u (u + 14) ι0 ι' → (∀ j, ι' u j = ι0 u j) → TW u nv nd (goF z f nd) ι' → Q none ι') : ∀ (n d : Nat) (ι : IS) (x2 : Int32), x2.toInt = d → d ≤ nd → Sm u (u + 14) ι0 ι → (∀ j, ι u j = ι0 u j) → TW u nv nd (goF z f d) ι → PC xl n 76 2 [(0, .ref u), (1, .int x1), (2, .int x2)] [] ι Q
  | 0, _, _, _, _, _, _, _, _ => PC.zero
  | n + 1, d, ι, x2, hx, hd, hs, hj, hT => by
    have h5 := hT.2.1.1
    have hlt : x2 < ι u 3 ↔ d < nd := by rw [i_lt, hx, hT.2.1.2]; omega
    refine t_76_2 ⟨fun c => ?_, fun c => ?_⟩
    · have : d = nd := by
        have := mt hlt.mpr c; omega
      subst this
      exact hq ι hs hj hT
    have hdl := hlt.mp c
    have hw1 := WF.goK (z := z) hw d (by omega)
    have hW := hw1.1 d (by omega)
    obtain ⟨tr1, tr2⟩ := town_d hu (d := d) (by omega)
    have hD := hT.2.2.2 d hdl
    have nxt : ∀ ι1, Sm (u + 7 + 2 * d) (u + 7 + 2 * d + 1) ι ι1 → DX (u + 7 + 2 * d) d (dF z (goF z f d) d) ι1 → PC xl n 76 2 [(0, .ref u), (1, .int x1), (2, .int (x2 + 1))] [] ι1 Q := by
      intro ι1 s1 d1
      refine weaL hu hw hz hz2 hq n (d + 1) ι1 (x2 + 1) (i_s hx (by omega)) hdl (hs.trans (s1.wide (by omega) (by omega))) (fun j => by rw [s1 u j (by omega)]; exact hj j) ?_
      exact hT.door hw1 hdl s1 (fun k hk => dF_o hW hk) d1
    rw [i_ixn hx, tr1]
    refine ⟨fun c => fun _ _ => ?_, fun c => fun _ _ => ?_, fun c => fun _ _ => ?_, fun c => ?_⟩
    · refine nxt _ (Sm.rfl.up (by omega)) ?_
      unfold dF
      rw [if_neg (by omega), if_neg (by omega)]
      exact hD.wet
    · refine raX_spec tr2 hD hW (fun ι1 s1 d1 => nxt ι1 s1 ?_)
      unfold dF
      rw [if_pos (by omega)]; exact d1
    · refine sunX_spec tr2 hD hW (fun ι1 s1 d1 => nxt ι1 s1 ?_)
      unfold dF
      rw [if_neg (by omega), if_pos (by omega)]; exact d1
    · omega
theorem weaX_spec (hu : isTown u) (hw : WF f) (hT : TW u nv nd f ι) (hz : x1.toInt = z) (hz2 : 90 ≤ z ∧ z ≤ 92) (hq : ∀ ι', Sm u (u + 14) ι ι' → (∀ j, ι' u j = ι u j) → TW u nv nd (goF z f nd) ι' → Q none ι') : PC xl n 76 0 [(0, .ref u), (1, .int x1)] [] ι Q :=
  (t_76_0 (weaL hu hw hz hz2 hq n 0 ι 0 rfl (Nat.zero_le _) Sm.rfl (fun _ => rfl) hT)).weak
/-- the same by the model -/
theorem raML {h : Nat} (hx1 : x1.toInt = d) (hd4 : d < 4) (hx2 : x2.toInt = h) (h6 : h ≤ 6) (hx3 : x3 = Int32.ofNat p) (hp : p < h) (hq : Q none (up (up (up κ 131 (19 + 9 * d + p) (smL (κ 131) d p (h - p) - smL (κ 131) d p (h - p) / 6 * 6)) 131 (16 + 9 * d) (Int32.ofNat p + 1)) 131 (17 + 9 * d) 1)) : ∀ (n i : Nat) (x5 : Int32), x5.toInt = (p + i : Nat) → p + i ≤ h → PC xl n 192 30 [(0, .ref 129), (1, .int x1), (2, .int x2), (3, .int x3), (4, .int (smL (κ 131) d p i)), (5, .int x5)] [] κ Q
  | 0, _, _, _, _ => PC.zero
  | n + 1, i, x5, hx5, hi => by
    refine t_192_30 ⟨fun c => ?_, fun c => ?_⟩
    · rw [i_lt, hx5, hx2] at c
      have e : i = h - p := by omega
      subst e
      rw [hx3]
      refine becD_spec (m := 19 + 9 * d + p) hx1 hd4 (j := 3 + p) (i_3 (i_of (by omega)) (by omega)) (by omega) (by omega) ?_
      refine becD_spec (m := 16 + 9 * d) hx1 hd4 (j := 0) rfl (by omega) (by omega) ?_
      exact becD_spec (m := 17 + 9 * d) hx1 hd4 (j := 1) rfl (by omega) (by omega) hq
    · rw [i_lt, hx5, hx2] at c
      refine layM_spec (j := p + i) hx1 hd4 hx5 (by omega) ?_
      intro r e; cases e
      exact raML hx1 hd4 hx2 h6 hx3 hp hq n (i + 1) (x5 + 1) (i_s hx5 (by show p + i < _; omega)) (by omega)
theorem raM_spec (hx : x1.toInt = d) (hd4 : d < 4) (hw : WD (κ 131) d) (hq : ∀ κ', κ' 131 = raF (κ 131) d → (∀ a, ¬ a = 131 → κ' a = κ a) → Q none κ') : PC xl n 192 0 [(0, .ref 129), (1, .int x1)] [] κ Q := by
  obtain ⟨h, hh⟩ : ∃ q : Nat, (κ 131 (16 + 9 * d)).toInt = q := ⟨(κ 131 (16 + 9 * d)).toInt.toNat, by have := hw.1.1; omega⟩
  have h6 : h ≤ 6 := by have := hw.1.2; omega
  refine (t_192_0 (ofD_spec (m := 16 + 9 * d) hx hd4 (j := 0) rfl (by omega) (by omega) ?_)).weak
  intro r e; cases e
  have l23 : ∀ x3 : Int32, x3 = Int32.ofNat (h - 3) → 0 < h → PC xl n 192 23 [(0, .ref 129), (1, .int x1), (2, .int (κ 131 (16 + 9 * d)))] [.int x3] κ Q := by
    intro x3 hx3 h0
    refine (t_192_23 (raML (p := h - 3) hx hd4 hh h6 hx3 (by omega) (hq _ ?_ (fun a ha => by rw [up_oth ha, up_oth ha, up_oth ha])) n 0 x3 (by rw [hx3]; exact i_of (by omega)) (by omega))).weak
    have ef : ¬ κ 131 (16 + 9 * d) = 0 := fun e => by rw [e, n0] at hh; omega
    rw [rowE (rowE (rowE rfl))]
    unfold raF
    rw [if_neg ef, hh, Int.toNat_natCast]
  refine ⟨fun c => hq κ ?_ (fun _ _ => rfl), fun c => ⟨fun c2 => ?_, fun c2 => ?_⟩⟩
  · rw [i_lt, n0, hh] at c
    unfold raF
    rw [if_pos (i_z (by omega))]
  · rw [i_lt, n0, hh] at c
    rw [i_lt, n3, hh] at c2
    exact l23 0 (by rw [show h - 3 = 0 by omega]; rfl) (by omega)
  · rw [i_lt, n3, hh] at c2
    refine l23 _ ?_ (by omega)
    rw [i_eq, i_sub (by rw [hh, n3]; omega), hh, n3, i_of (by omega)]; omega
theorem sunML {s : Nat} (hx1 : x1 = 92) (hx2 : x2.toInt = d) (hd4 : d < 4) (hq : ∀ κ', κ' 131 = fs g (16 + 9 * d) (Int32.ofNat s) → (∀ a, ¬ a = 131 → κ' a = κ0 a) → PC xl n 191 62 [(0, .ref 129), (1, .int x1), (2, .int x2)] [] κ' Q) : ∀ (n2 k : Nat) (κ : IS), n2 ≤ n + 1 → k ≤ 6 → suN g d k = s → κ 131 = fs g (16 + 9 * d) (Int32.ofNat k) → (∀ a, ¬ a = 131 → κ a = κ0 a) → PC xl n2 191 31 [(0, .ref 129), (1, .int x1), (2, .int x2)] [] κ Q
  | 0, _, _, _, _, _, _, _ => PC.zero
  | n2 + 1, k, κ, hn, h6, hs, hk, ha => by
    have e16 : κ 131 (16 + 9 * d) = Int32.ofNat k := by rw [hk, fs_same]
    refine t_191_31 ⟨fun c => absurd hx1 c, fun _ => shM_spec hx2 hd4 (by rw [e16, i_of (by omega)]; omega) ?_⟩
    intro r e; cases e
    match k, h6, hs, hk, e16 with
    | 0, h6, hs, hk, e16 =>
      rw [shF_0 e16]
      refine ⟨fun _ => (hq κ (by rw [hk, ← hs]; rfl) ha).le (by omega), fun c => absurd c (by decide)⟩
    | k + 1, h6, hs, hk, e16 =>
      have e9 : shF (κ 131) d = g (19 + 9 * d + k) := by rw [shF_s (k := k) (by rw [e16, i_of (by omega)]), hk, fs_ne (by omega)]
      rw [e9]
      simp only [suN] at hs
      refine ⟨fun c => ?_, fun c => ofD_spec (m := 16 + 9 * d) hx2 hd4 (j := 0) rfl (by omega) (by omega) ?_⟩
      · rw [if_neg c] at hs
        exact (hq κ (by rw [hk, ← hs]) ha).le (by omega)
      · intro r e; cases e
        rw [if_pos c] at hs
        refine becD_spec (m := 16 + 9 * d) hx2 hd4 (j := 0) rfl (by omega) (by omega) ?_
        refine sunML hx1 hx2 hd4 hq n2 k _ (by omega) (by omega) hs ?_ (fun a h => by rw [up_oth h]; exact ha a h)
        rw [rowE hk, fs_2, e16, o_p (by omega)]
theorem goML (hw : WF f) (hz : x1.toInt = z) (hz2 : 90 ≤ z ∧ z ≤ 92) (hn : (κ0 129 4).toInt = nd) (h5 : nd ≤ 4) (hq : ∀ κ', κ' 131 = goF z f nd → (∀ a, ¬ a = 131 → κ' a = κ0 a) → Q none κ') : ∀ (n d : Nat) (κ : IS) (x2 : Int32), x2.toInt = d → d ≤ nd → κ 131 = goF z f d → (∀ a, ¬ a = 131 → κ a = κ0 a) → PC xl n 191 2 [(0, .ref 129), (1, .int x1), (2, .int x2)] [] κ Q
  | 0, _, _, _, _, _, _, _ => PC.zero
  | n + 1, d, κ, x2, hx, hd, hk, ha => by
    have hlt : x2 < κ 129 4 ↔ d < nd := by rw [i_lt, hx, ha 129 (by omega), hn]; omega
    refine t_191_2 ⟨fun c => ?_, fun c => ?_⟩
    · have : d = nd := by
        have := mt hlt.mpr c; omega
      subst this
      exact hq κ hk ha
    have hdl := hlt.mp c
    have hw1 := WF.goK (z := z) hw d (by omega)
    have hW := hw1.1 d (by omega)
    have l62 : ∀ κ1, κ1 131 = dF z (goF z f d) d → (∀ a, ¬ a = 131 → κ1 a = κ0 a) → PC xl n 191 62 [(0, .ref 129), (1, .int x1), (2, .int x2)] [] κ1 Q := fun κ1 h1 h2 => (t_191_62 (goML hw hz hz2 hn h5 hq n (d + 1) κ1 (x2 + 1) (i_s hx (by omega)) hdl h1 h2)).weak
    refine ⟨fun c1 => becD_spec (m := 17 + 9 * d) hx (by omega) (j := 1) rfl (by omega) (by omega) ?_, fun c1 => raM_spec hx (by omega) (by rw [hk]; exact hW) (fun κ1 h1 h2 => ?_)⟩
    · have z91 : ¬ z = 91 := fun e => c1 (by rw [i_eq, hz, e]; rfl)
      by_cases z92 : z = 92
      · have x92 : x1 = 92 := by rw [i_eq, hz, z92]; rfl
        obtain ⟨h, hh⟩ : ∃ q : Nat, (goF z f d (16 + 9 * d)).toInt = q := ⟨(goF z f d (16 + 9 * d)).toInt.toNat, by have := hW.1.1; omega⟩
        have h6 : h ≤ 6 := by have := hW.1.2; omega
        have sg : ∀ q, suN (fs (goF z f d) (17 + 9 * d) 0) d q = suN (goF z f d) d q := by
          intro q
          induction q with
          | zero => rfl
          | succ q ih => simp only [suN]; rw [fs_ne (by omega), ih]
        refine sunML (g := fs (goF z f d) (17 + 9 * d) 0) (s := suN (goF z f d) d h) (κ0 := κ0) x92 hx (by omega) (fun κ1 h1 h2 => l62 κ1 ?_ h2) n h _ (by omega) h6 (sg h) ?_ (fun a h => by rw [up_oth h]; exact ha a h)
        · rw [h1]
          unfold dF
          rw [if_neg z91, if_pos z92]
          unfold sunF
          rw [hh, Int.toNat_natCast]
        · rw [rowE hk]; exact (fs_id (by rw [fs_ne (by omega)]; exact i_on hh)).symm
      · refine (t_191_31 ⟨fun _ => l62 _ ?_ (fun a h => by rw [up_oth h]; exact ha a h), fun c2 => ?_⟩).weak
        · rw [rowE hk]
          unfold dF
          rw [if_neg z91, if_neg z92]
        · exact absurd (by rw [← hz, c2]; rfl) z92
    · have z91 : z = 91 := by rw [← hz, c1]; rfl
      refine (t_191_31 ⟨fun _ => l62 _ ?_ (fun a h => by rw [h2 a h]; exact ha a h), fun c2 => ?_⟩).weak
      · rw [h1, hk]
        unfold dF
        rw [if_pos z91]
      · rw [c2] at c1; exact absurd c1 (by decide)
theorem goM_spec (hw : WF (κ 131)) (hz : x1.toInt = z) (hz2 : 90 ≤ z ∧ z ≤ 92) (hn : (κ 129 4).toInt = nd) (h5 : nd ≤ 4) (hq : ∀ κ', κ' 131 = goF z (κ 131) nd → (∀ a, ¬ a = 131 → κ' a = κ a) → Q none κ') : PC xl n 191 0 [(0, .ref 129), (1, .int x1)] [] κ Q :=
  (t_191_0 (goML hw hz hz2 hn h5 hq n 0 κ 0 rfl (Nat.zero_le _) rfl (fun _ _ => rfl))).weak
theorem alX (hu : isTown u) (hT : TW u nv nd f ι) (h : Q (some (.int (sF (fun d => f (16 + 9 * d)) nd))) ι) : ∀ (n d : Nat) (x2 : Int32), x2.toInt = d → d ≤ nd → PC xl n 80 4 [(0, .ref u), (1, .int (sF (fun d => f (16 + 9 * d)) d)), (2, .int x2)] [] ι Q
  | 0, _, _, _, _ => PC.zero
  | n + 1, d, x2, hx, hd => by
    have h5 := hT.2.1.1
    have hlt : x2 < ι u 3 ↔ d < nd := by rw [i_lt, hx, hT.2.1.2]; omega
    refine t_80_4 ⟨fun c => ?_, fun c _ _ => ?_⟩
    · have : d = nd := by
        have := mt hlt.mpr c; omega
      subst this; exact h
    · have hdl := hlt.mp c
      rw [i_ixn hx, (town_d hu (d := d) (by omega)).1, (hT.2.2.2 d hdl).1]
      exact alX hu hT h n (d + 1) (x2 + 1) (i_s hx (by omega)) hdl
theorem alX_spec (hu : isTown u) (hT : TW u nv nd f ι) (h : Q (some (.int (sF (fun d => f (16 + 9 * d)) nd))) ι) : PC xl n 80 0 [(0, .ref u)] [] ι Q := (t_80_0 (alX hu hT h n 0 0 rfl (Nat.zero_le _))).weak
theorem laML (hn : (κ 129 4).toInt = nd) (h5 : nd ≤ 4) (h : Q (some (.int (sF (fun d => κ 131 (16 + 9 * d)) nd))) κ) : ∀ (n d : Nat) (x2 : Int32), x2.toInt = d → d ≤ nd → PC xl n 193 4 [(0, .ref 129), (1, .int (sF (fun d => κ 131 (16 + 9 * d)) d)), (2, .int x2)] [] κ Q
  | 0, _, _, _, _ => PC.zero
  | n + 1, d, x2, hx, hd => by
    have hlt : x2 < κ 129 4 ↔ d < nd := by rw [i_lt, hx, hn]; omega
    refine t_193_4 ⟨fun c => ?_, fun c => ?_⟩
    · have : d = nd := by
        have := mt hlt.mpr c; omega
      subst this; exact h
    · have hdl := hlt.mp c
      refine ofD_spec (m := 16 + 9 * d) hx (by omega) (j := 0) rfl (by omega) (by omega) ?_
      intro r e; cases e
      exact laML hn h5 h n (d + 1) (x2 + 1) (i_s hx (by omega)) hdl
theorem laM_spec (hn : (κ 129 4).toInt = nd) (h5 : nd ≤ 4) (h : Q (some (.int (sF (fun d => κ 131 (16 + 9 * d)) nd))) κ) : PC xl n 193 0 [(0, .ref 129)] [] κ Q := (t_193_0 (laML hn h5 h n 0 0 rfl (Nat.zero_le _))).weak
end Sky1
end
