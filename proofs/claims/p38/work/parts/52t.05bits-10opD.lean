section
/-! TOWNS, VI: sums and bits over DOORS and VISITORS -/
/-- bits of what comes ahead -/
noncomputable def oF (g : Nat → Int32) : Nat → Int32
  | 0 => 0
  | d + 1 => oF g d ||| g d
/-- whether DOOR d is WRONG -/
noncomputable def wrB (f : Nat → Int32) (d : Nat) : Int32 := if f (16 + 9 * d) = 0 then 0 else if ((f (18 + 9 * d) >>> (shF f d &&& 31)) &&& 1) = 1 then 1 else 0
noncomputable def wrF (f : Nat → Int32) (nd : Nat) : Int32 := oF (fun d => wrB f d <<< (Int32.ofNat d &&& 31)) nd
noncomputable def weF (f : Nat → Int32) (nd : Nat) : Int32 := oF (fun d => f (17 + 9 * d) <<< (Int32.ofNat d &&& 31)) nd
noncomputable def ptF (f : Nat → Int32) (nv : Nat) : Int32 := sF (fun v => f (4 * v + 2)) nv
noncomputable def alF (f : Nat → Int32) (nd : Nat) : Int32 := sF (fun d => f (16 + 9 * d)) nd
/-- whether one of the first m LAYERS of DOOR d is x -/
noncomputable def hlF (f : Nat → Int32) (d : Nat) (x : Int32) : Nat → Int32
  | 0 => 0
  | m + 1 => if hlF f d x m = 0 then (if f (19 + 9 * d + m) = x then 1 else 0) else 1
noncomputable def rdF (f : Nat → Int32) (nd v : Nat) : Int32 := oF (fun d => hlF f d (owF f v) (f (16 + 9 * d)).toInt.toNat <<< (Int32.ofNat d &&& 31)) nd
section Bits
variable {xl : List Int32} {n mi pc : Nat} {ι ι' ι0 κ κ0 : IS} {Q : Option Value → IS → Prop} {x1 x2 x3 x : Int32} {a u d v j m nd nv h k t c p : Nat} {f g : Nat → Int32} {z : Int} {w1 : Value}
theorem z_shl {y : Int32} : (0 : Int32) <<< y = 0 := by simp
theorem z_or {y : Int32} : y ||| 0 = y := by simp
theorem wrB_01 : wrB f d = 0 ∨ wrB f d = 1 := by
  unfold wrB
  split
  · exact Or.inl rfl
  · split
    · exact Or.inr rfl
    · exact Or.inl rfl
theorem isWX_spec (hr : rf a 0 = a + 1) (hD : DX a d f ι) (hw : WD f d) (h : Q (some (.int (wrB f d))) ι) : PC xl n 59 0 [(0, .ref a)] [] ι Q := by
  unfold wrB at h
  refine (t_59_0 (shX_spec hr hD hw.1 ?_)).weak
  intro r e; cases e
  refine ⟨fun c => ?_, fun c => (t_38_0 ⟨fun c2 => ?_, fun c2 => ?_⟩).weak⟩
  · rw [if_pos (hw.sh4.mp c)] at h; exact h
  · intro r e; cases e
    rw [hD.2.2.1] at c2
    rw [if_neg (fun e => c (shF_0 e)), if_neg c2] at h
    exact ⟨fun _ => h, fun q => absurd rfl q⟩
  · intro r e; cases e
    rw [hD.2.2.1] at c2
    rw [if_neg (fun e => c (shF_0 e)), if_pos c2] at h
    exact ⟨fun q => absurd q (by decide), fun _ => h⟩
theorem isWM_spec (hd : x1.toInt = d) (h4 : d < 4) (hw : WD (κ 131) d) (h : Q (some (.int (wrB (κ 131) d))) κ) : PC xl n 172 0 [(0, .ref 129), (1, .int x1)] [] κ Q := by
  unfold wrB at h
  refine (t_172_0 (shM_spec hd h4 hw.1 ?_)).weak
  intro r e; cases e
  refine ⟨fun c => ?_, fun c => ofD_spec (m := 18 + 9 * d) hd h4 (j := 2) rfl (by omega) (by omega) ?_⟩
  · rw [if_pos (hw.sh4.mp c)] at h; exact h
  · intro r e; cases e
    refine shM_spec hd h4 hw.1 ?_
    intro r e; cases e
    refine ⟨fun c2 => ?_, fun c2 => ?_⟩
    · rw [if_neg (fun e => c (shF_0 e)), if_neg c2] at h; exact h
    · rw [if_neg (fun e => c (shF_0 e)), if_pos c2] at h; exact h
theorem wrXL (hu : isTown u) (hw : WF f) (hT : TW u nv nd f ι) (h : Q (some (.int (wrF f nd))) ι) : ∀ (n d : Nat) (x2 : Int32), x2.toInt = d → d ≤ nd → PC xl n 58 4 [(0, .ref u), (1, .int (wrF f d)), (2, .int x2)] [] ι Q
  | 0, _, _, _, _ => PC.zero
  | n + 1, d, x2, hx, hd => by
    have h5 := hT.2.1.1
    have hlt : x2 < ι u 3 ↔ d < nd := by rw [i_lt, hx, hT.2.1.2]; omega
    refine t_58_4 ⟨fun c => ?_, fun c _ _ => ?_⟩
    · have : d = nd := by
        have := mt hlt.mpr c; omega
      subst this; exact h
    · have hdl := hlt.mp c
      obtain ⟨tr1, tr2⟩ := town_d hu (d := d) (by omega)
      rw [i_ixn hx, tr1]
      have go := wrXL hu hw hT h n (d + 1) (x2 + 1) (i_s hx (by omega)) hdl
      have e1 : wrF f (d + 1) = wrF f d ||| (wrB f d <<< (Int32.ofNat d &&& 31)) := rfl
      refine isWX_spec tr2 (hT.2.2.2 d hdl) (hw.1 d (by omega)) ?_
      intro r e; cases e
      refine ⟨fun c2 => ?_, fun c2 => ?_⟩
      · rw [e1, c2, z_shl] at go; exact go
      · rw [e1, wrB_01.resolve_left c2, ← i_on hx] at go; exact go
theorem wrX_spec (hu : isTown u) (hw : WF f) (hT : TW u nv nd f ι) (h : Q (some (.int (wrF f nd))) ι) : PC xl n 58 0 [(0, .ref u)] [] ι Q := (t_58_0 (wrXL hu hw hT h n 0 0 rfl (Nat.zero_le _))).weak
theorem wrML (hw : WF (κ 131)) (hn : (κ 129 4).toInt = nd) (h5 : nd ≤ 4) (h : Q (some (.int (wrF (κ 131) nd))) κ) : ∀ (n d : Nat) (x2 : Int32), x2.toInt = d → d ≤ nd → PC xl n 171 4 [(0, .ref 129), (1, .int (wrF (κ 131) d)), (2, .int x2)] [] κ Q
  | 0, _, _, _, _ => PC.zero
  | n + 1, d, x2, hx, hd => by
    have hlt : x2 < κ 129 4 ↔ d < nd := by rw [i_lt, hx, hn]; omega
    refine t_171_4 ⟨fun c => ?_, fun c => ?_⟩
    · have : d = nd := by
        have := mt hlt.mpr c; omega
      subst this; exact h
    · have hdl := hlt.mp c
      have go := wrML hw hn h5 h n (d + 1) (x2 + 1) (i_s hx (by omega)) hdl
      have e1 : wrF (κ 131) (d + 1) = wrF (κ 131) d ||| (wrB (κ 131) d <<< (Int32.ofNat d &&& 31)) := rfl
      refine isWM_spec hx (by omega) (hw.1 d (by omega)) ?_
      intro r e; cases e
      refine (t_175_0 ⟨fun c2 => ?_, fun c2 => ?_⟩).weak
      · intro r e; cases e
        rw [e1, c2, ← i_on hx] at go; exact go
      · intro r e; cases e
        rw [e1, wrB_01.resolve_left c2, ← i_on hx] at go; exact go
theorem wrM_spec (hw : WF (κ 131)) (hn : (κ 129 4).toInt = nd) (h5 : nd ≤ 4) (h : Q (some (.int (wrF (κ 131) nd))) κ) : PC xl n 171 0 [(0, .ref 129)] [] κ Q := (t_171_0 (wrML hw hn h5 h n 0 0 rfl (Nat.zero_le _))).weak
theorem weXL (hu : isTown u) (hw : WF f) (hT : TW u nv nd f ι) (h : Q (some (.int (weF f nd))) ι) : ∀ (n d : Nat) (x2 : Int32), x2.toInt = d → d ≤ nd → PC xl n 57 4 [(0, .ref u), (1, .int (weF f d)), (2, .int x2)] [] ι Q
  | 0, _, _, _, _ => PC.zero
  | n + 1, d, x2, hx, hd => by
    have h5 := hT.2.1.1
    have hlt : x2 < ι u 3 ↔ d < nd := by rw [i_lt, hx, hT.2.1.2]; omega
    refine t_57_4 ⟨fun c => ?_, fun c _ _ => ?_⟩
    · have : d = nd := by
        have := mt hlt.mpr c; omega
      subst this; exact h
    · have hdl := hlt.mp c
      rw [i_ixn hx, (town_d hu (d := d) (by omega)).1, (hT.2.2.2 d hdl).2.1]
      have go := weXL hu hw hT h n (d + 1) (x2 + 1) (i_s hx (by omega)) hdl
      have e1 : weF f (d + 1) = weF f d ||| (f (17 + 9 * d) <<< (Int32.ofNat d &&& 31)) := rfl
      refine ⟨fun c2 => ?_, fun c2 => ?_⟩
      · rw [e1, c2, z_shl] at go; exact go
      · rw [e1, (hw.1 d (by omega)).2.1.resolve_left c2, ← i_on hx] at go; exact go
theorem weX_spec (hu : isTown u) (hw : WF f) (hT : TW u nv nd f ι) (h : Q (some (.int (weF f nd))) ι) : PC xl n 57 0 [(0, .ref u)] [] ι Q := (t_57_0 (weXL hu hw hT h n 0 0 rfl (Nat.zero_le _))).weak
theorem ptXL (hu : isTown u) (hT : TW u nv nd f ι) (h : Q (some (.int (ptF f nv))) ι) : ∀ (n v : Nat) (x2 : Int32), x2.toInt = v → v ≤ nv → PC xl n 61 4 [(0, .ref u), (1, .int (ptF f v)), (2, .int x2)] [] ι Q
  | 0, _, _, _, _ => PC.zero
  | n + 1, v, x2, hx, hv => by
    have h4 := hT.1.1
    have hlt : x2 < ι u 2 ↔ v < nv := by rw [i_lt, hx, hT.1.2]; omega
    refine t_61_4 ⟨fun c => ?_, fun c _ _ => ?_⟩
    · have : v = nv := by
        have := mt hlt.mpr c; omega
      subst this; exact h
    · have hvl := hlt.mp c
      rw [i_ixn hx, town_v hu (v := v) (by omega), (hT.2.2.1 v hvl).2.2.1]
      exact ptXL hu hT h n (v + 1) (x2 + 1) (i_s hx (by omega)) hvl
theorem ptX_spec (hu : isTown u) (hT : TW u nv nd f ι) (h : Q (some (.int (ptF f nv))) ι) : PC xl n 61 0 [(0, .ref u)] [] ι Q := (t_61_0 (ptXL hu hT h n 0 0 rfl (Nat.zero_le _))).weak
theorem hl_1 {q : Nat} (hq : f (19 + 9 * d + q) = x) : ∀ m, q < m → hlF f d x m = 1
  | 0, hm => absurd hm (Nat.not_lt_zero _)
  | m + 1, hm => by
    simp only [hlF]
    by_cases e : q = m
    · subst e
      split
      · first | rfl | rw [if_pos hq]
      · rfl
    · rw [hl_1 hq m (by omega), if_neg (by decide)]
theorem hl_0 : ∀ m, (∀ q, q < m → ¬ f (19 + 9 * d + q) = x) → hlF f d x m = 0
  | 0, _ => rfl
  | m + 1, hm => by
    simp only [hlF]
    rw [hl_0 m (fun q hq => hm q (by omega)), if_pos rfl, if_neg (hm m (by omega))]
theorem hl_01 : ∀ m, hlF f d x m = 0 ∨ hlF f d x m = 1
  | 0 => Or.inl rfl
  | m + 1 => by
    simp only [hlF]
    split
    · split
      · exact Or.inr rfl
      · exact Or.inl rfl
    · exact Or.inr rfl
theorem hlXL (hr : rf a 0 = a + 1) (hD : DX a d f ι) (hh : (f (16 + 9 * d)).toInt = h) (hq : Q (some (.int (hlF f d x h))) ι) : ∀ (n i : Nat) (x2 : Int32), x2.toInt = i → i ≤ h → (∀ q, q < i → ¬ f (19 + 9 * d + q) = x) → PC xl n 110 2 [(0, .ref a), (1, .int x), (2, .int x2)] [] ι Q
  | 0, _, _, _, _, _ => PC.zero
  | n + 1, i, x2, hx, hi, hl => by
    have := i_rng (f (16 + 9 * d))
    have hlt : x2 < ι a 1 ↔ i < h := by rw [i_lt, hx, hD.1, hh]; omega
    refine t_110_2 ⟨fun c => ?_, fun c _ _ => ?_⟩
    · have : i = h := by
        have := mt hlt.mpr c; omega
      subst this
      rw [hl_0 i hl] at hq; exact hq
    · have hil := hlt.mp c
      rw [hr, i_ixn hx, hD.2.2.2 i (by omega)]
      refine ⟨fun c2 => hlXL hr hD hh hq n (i + 1) (x2 + 1) (i_s hx (by omega)) hil (fun q hq2 => ?_), fun c2 => ?_⟩
      · by_cases e : q = i
        · subst e; exact c2
        · exact hl q (by omega)
      · rw [hl_1 c2 h hil] at hq; exact hq
theorem hlX_spec (hr : rf a 0 = a + 1) (hD : DX a d f ι) (h0 : 0 ≤ (f (16 + 9 * d)).toInt) (hq : Q (some (.int (hlF f d x (f (16 + 9 * d)).toInt.toNat))) ι) : PC xl n 110 0 [(0, .ref a), (1, .int x)] [] ι Q := (t_110_0 (hlXL (h := (f (16 + 9 * d)).toInt.toNat) hr hD (by omega) hq n 0 0 rfl (Nat.zero_le _) (fun q hq => absurd hq (Nat.not_lt_zero _)))).weak
/-- the model's counts -/
theorem in32 {y0 y1 : Int32} {c : Int64} (hc : c.toInt = 0) (h : ∀ r : Int32, (r = 0 ↔ ¬ (0 ≤ y0.toInt ∧ y0.toInt ≤ y1.toInt)) → Q (some (.int r)) κ) : PC xl n 148 0 [(0, .long y0.toInt64), (2, .long c), (4, .long y1.toInt64)] [] κ Q := by
  refine in_spec ?_
  rw [Int32.toInt_toInt64, Int32.toInt_toInt64, hc]
  by_cases e : 0 ≤ y0.toInt ∧ y0.toInt ≤ y1.toInt
  · rw [if_pos e]; exact h 1 ⟨fun q => absurd q (by decide), fun q => absurd e q⟩
  · rw [if_neg e]; exact h 0 ⟨fun _ => e, fun _ => rfl⟩
theorem inL {y0 : Int32} {lo hi : Int64} {l g : Int} (hl : lo.toInt = l) (hg : hi.toInt = g) (h : ∀ r : Int32, (r = 0 ↔ ¬ (l ≤ y0.toInt ∧ y0.toInt ≤ g)) → Q (some (.int r)) κ) : PC xl n 148 0 [(0, .long y0.toInt64), (2, .long lo), (4, .long hi)] [] κ Q := by
  refine in_spec ?_
  rw [Int32.toInt_toInt64, hl, hg]
  by_cases e : l ≤ y0.toInt ∧ y0.toInt ≤ g
  · rw [if_pos e]; exact h 1 ⟨fun q => absurd q (by decide), fun q => absurd e q⟩
  · rw [if_neg e]; exact h 0 ⟨fun _ => e, fun _ => rfl⟩
theorem isV_spec (hn : (κ 129 3).toInt = nv) (h4 : nv ≤ 4) (h1 : ¬ (0 ≤ x.toInt ∧ x.toInt < nv) → Q (some (.int 0)) κ) (h2 : ∀ v : Nat, x.toInt = v → v < nv → ∀ r : Int32, ¬ r = 0 → Q (some (.int r)) κ) : PC xl n 177 0 [(0, .ref 129), (1, .int x)] [] κ Q := by
  have e1 : (κ 129 3 - 1).toInt = nv - 1 := by rw [i_sub (by rw [hn, n1]; omega), hn, n1]
  refine (t_177_0 (in32 rfl (fun r hr => ?_))).weak
  intro r2 e; cases e
  rw [e1] at hr
  by_cases c : 0 ≤ x.toInt ∧ x.toInt < nv
  · exact h2 x.toInt.toNat (by omega) (by omega) r (fun e => (hr.mp e) (by omega))
  · rw [hr.mpr (by omega)]; exact h1 c
theorem isD_spec (hn : (κ 129 4).toInt = nd) (h4 : nd ≤ 4) (h1 : ¬ (0 ≤ x.toInt ∧ x.toInt < nd) → Q (some (.int 0)) κ) (h2 : ∀ d : Nat, x.toInt = d → d < nd → ∀ r : Int32, ¬ r = 0 → Q (some (.int r)) κ) : PC xl n 181 0 [(0, .ref 129), (1, .int x)] [] κ Q := by
  have e1 : (κ 129 4 - 1).toInt = nd - 1 := by rw [i_sub (by rw [hn, n1]; omega), hn, n1]
  refine (t_181_0 (in32 rfl (fun r hr => ?_))).weak
  intro r2 e; cases e
  rw [e1] at hr
  by_cases c : 0 ≤ x.toInt ∧ x.toInt < nd
  · exact h2 x.toInt.toNat (by omega) (by omega) r (fun e => (hr.mp e) (by omega))
  · rw [hr.mpr (by omega)]; exact h1 c
end Bits
end
section
/-! THE RELATION of class and model; what a call leaves -/
/-- the class's cells but those of what is told, of the trial, of the search -/
noncomputable def CG (ι ι1 : IS) : Prop := ∀ a j, ¬ (24 ≤ a ∧ a ≤ 43) → ¬ (86 ≤ a ∧ a ≤ 119) → ¬ (a = 0 ∧ (j = 11 ∨ j = 12)) → ι1 a j = ι a j
/-- the model's cells but those of what is told, of what is tried -/
noncomputable def MG (κ κ1 : IS) : Prop := (∀ a, ¬ a = 129 → ¬ a = 130 → ¬ a = 131 → ¬ a = 136 → ¬ a = 140 → κ1 a = κ a) ∧ (∀ j, ¬ (20 ≤ j ∧ j ≤ 27) → κ1 129 j = κ 129 j) ∧ ∀ j, 80 ≤ j → κ1 130 j = κ 130 j
noncomputable def HX (nv nd : Nat) (f : Nat → Int32) (ι : IS) : Prop := TO 24 nv nd f ι ∧ ι 25 4 = -4 ∧ WF f
noncomputable def HM (nv nd : Nat) (κ : IS) : Prop := (nv ≤ 4 ∧ (κ 129 3).toInt = nv) ∧ (nd ≤ 4 ∧ (κ 129 4).toInt = nd) ∧ WF (rO 0 (κ 130))
noncomputable def XR (nv nd : Nat) (f : Nat → Int32) (r : Int32) (ι : IS) (v : Option Value) (ι1 : IS) : Prop := v = some (.int r) ∧ CG ι ι1 ∧ ι1 25 4 = -4 ∧ TO 24 nv nd f ι1
noncomputable def MR (f : Nat → Int32) (r : Int32) (κ : IS) (v : Option Value) (κ1 : IS) : Prop := v = some (.int r) ∧ MG κ κ1 ∧ rO 0 (κ1 130) = f
/-- SHEETS -/
noncomputable def RS (ι κ : IS) : Prop := (∀ k, k < 4 → ι (121 + 2 * k) 2 = κ 137 k ∧ ι (121 + 2 * k) 1 = κ 138 k ∧ (0 ≤ (κ 138 k).toInt ∧ (κ 138 k).toInt ≤ 40) ∧ ∀ i, i < 40 → ι (122 + 2 * k) i = κ 139 (40 * k + i)) ∧ ι 0 10 = κ 129 31
/-- IMAGES -/
noncomputable def RI (nv nd : Nat) (ι κ : IS) : Prop := ∀ k, k < 2 → ι 85 k = κ 132 k ∧ (¬ κ 132 k = 0 → TO (45 + 20 * k) nv nd (rO (80 * (k + 1)) (κ 130)) ι)
noncomputable def RB (ι κ : IS) : Prop := ∃ b L, BX b L ι ∧ BM b L κ
noncomputable def RN (nv nd : Nat) (ι κ : IS) : Prop := (nv ≤ 4 ∧ (κ 129 3).toInt = nv) ∧ (nd ≤ 4 ∧ (κ 129 4).toInt = nd) ∧ (TO 24 nv nd (rO 0 (κ 130)) ι ∧ ι 25 4 = -4) ∧ RI nv nd ι κ ∧ RS ι κ ∧ RB ι κ
noncomputable def RRel (ι κ : IS) : Prop := ∃ nv nd, RN nv nd ι κ
/-- bounds of what the model keeps -/
noncomputable def WW (κ : IS) : Prop := WF (rO 0 (κ 130)) ∧ WF (rO 80 (κ 130)) ∧ WF (rO 160 (κ 130))
section Rel
variable {xl : List Int32} {n n2 kx km : Nat} {lvx lvm : LVs} {ι ι1 κ κ1 : IS} {nv nd : Nat} {f : Nat → Int32} {r : Int32} {Q : Option Value → IS → Prop}
theorem CG.rfl : CG ι ι := fun _ _ _ _ _ => Eq.refl _
theorem CG.of {l h : Nat} (hs : Sm l h ι ι1) (hl : (24 ≤ l ∧ h ≤ 43) ∨ (86 ≤ l ∧ h ≤ 119)) : CG ι ι1 := fun a j h1 h2 _ => hs a j (by omega)
theorem MG.rfl : MG κ κ := ⟨fun _ _ _ _ _ _ => Eq.refl _, fun _ _ => Eq.refl _, fun _ _ => Eq.refl _⟩
theorem MG.trans {κ2 : IS} (h1 : MG κ κ1) (h2 : MG κ1 κ2) : MG κ κ2 := ⟨fun a g1 g2 g3 g4 g5 => (h2.1 a g1 g2 g3 g4 g5).trans (h1.1 a g1 g2 g3 g4 g5), fun j g => (h2.2.1 j g).trans (h1.2.1 j g), fun j g => (h2.2.2 j g).trans (h1.2.2 j g)⟩
theorem MG.at131 (h : ∀ a, ¬ a = 131 → κ1 a = κ a) : MG κ κ1 := ⟨fun a _ _ g _ _ => h a g, fun j _ => by rw [h 129 (by omega)], fun j _ => by rw [h 130 (by omega)]⟩
theorem MG.st (h1 : ∀ a, ¬ a = 131 → ¬ a = 129 → κ1 a = κ a) (h2 : ∀ j, ¬ j = 20 → κ1 129 j = κ 129 j) : MG κ κ1 := ⟨fun a g1 _ g _ _ => h1 a g g1, fun j _ => h2 j (by omega), fun j _ => by rw [h1 130 (by omega) (by omega)]⟩
theorem MG.se (h1 : ∀ a, ¬ a = 130 → κ1 a = κ a) (h2 : ∀ j, 80 ≤ j → κ1 130 j = κ 130 j) : MG κ κ1 := ⟨fun a _ g _ _ _ => h1 a g, fun j _ => by rw [h1 129 (by omega)], h2⟩
theorem rO_hi {o : Nat} (h : ∀ j, 80 ≤ j → κ1 130 j = κ 130 j) (ho : 80 ≤ o) : rO o (κ1 130) = rO o (κ 130) := by
  funext j
  unfold rO
  split
  · exact h _ (by omega)
  · rfl
theorem RI.keep (h : RI nv nd ι κ) (h1 : ∀ a j, 45 ≤ a → a ≤ 85 → ι1 a j = ι a j) (h2 : κ1 132 = κ 132) (h3 : ∀ j, 80 ≤ j → κ1 130 j = κ 130 j) : RI nv nd ι1 κ1 := fun k hk => by
  rw [h1 85 k (by omega) (by omega), h2, rO_hi h3 (by omega)]
  exact ⟨(h k hk).1, fun g => ((h k hk).2 g).keep (fun a j g1 g2 => h1 a j (by omega) (by omega))⟩
theorem RS.keep (h : RS ι κ) (h1 : ∀ a j, 121 ≤ a → a ≤ 128 → ι1 a j = ι a j) (h0 : ι1 0 10 = ι 0 10) (h2 : κ1 137 = κ 137 ∧ κ1 138 = κ 138 ∧ κ1 139 = κ 139) (h3 : κ1 129 31 = κ 129 31) : RS ι1 κ1 := by
  refine ⟨fun k hk => ?_, by rw [h0, h3]; exact h.2⟩
  have g := h.1 k hk
  rw [h1 _ _ (by omega) (by omega), h1 _ _ (by omega) (by omega), h2.1, h2.2.1, h2.2.2]
  exact ⟨g.1, g.2.1, g.2.2.1, fun i hi => by rw [h1 _ _ (by omega) (by omega)]; exact g.2.2.2 i hi⟩
theorem RB.keep (h : RB ι κ) (h1 : ∀ a j, 22 ≤ a → a ≤ 23 → ι1 a j = ι a j) (h2 : κ1 129 13 = κ 129 13) (h3 : κ1 135 = κ 135) : RB ι1 κ1 := by
  obtain ⟨b, L, hX, hM⟩ := h
  exact ⟨b, L, ⟨hX.1, by rw [h1 22 1 (by omega) (by omega)]; exact hX.2.1, fun q => by rw [h1 23 q (by omega) (by omega)]; exact hX.2.2 q⟩, ⟨hM.1, by rw [h2]; exact hM.2.1, fun q => by rw [h3]; exact hM.2.2.1 q, hM.2.2.2⟩⟩
theorem RN.town (h : RN nv nd ι κ) (hc : CG ι ι1) (hm : MG κ κ1) (hb : ι1 25 4 = -4) (hT : TO 24 nv nd (rO 0 (κ1 130)) ι1) : RN nv nd ι1 κ1 := by
  obtain ⟨⟨a1, a2⟩, ⟨b1, b2⟩, c, d, e, g⟩ := h
  refine ⟨⟨a1, by rw [hm.2.1 3 (by omega)]; exact a2⟩, ⟨b1, by rw [hm.2.1 4 (by omega)]; exact b2⟩, ⟨hT, hb⟩, ?_, ?_, ?_⟩
  · exact d.keep (fun a j g1 g2 => hc a j (by omega) (by omega) (by omega)) (hm.1 132 (by omega) (by omega) (by omega) (by omega) (by omega)) hm.2.2
  · exact e.keep (fun a j g1 g2 => hc a j (by omega) (by omega) (by omega)) (hc 0 10 (by omega) (by omega) (by omega)) ⟨hm.1 137 (by omega) (by omega) (by omega) (by omega) (by omega), hm.1 138 (by omega) (by omega) (by omega) (by omega) (by omega), hm.1 139 (by omega) (by omega) (by omega) (by omega) (by omega)⟩ (hm.2.1 31 (by omega))
  · exact g.keep (fun a j g1 g2 => hc a j (by omega) (by omega) (by omega)) (hm.2.1 13 (by omega)) (hm.1 135 (by omega) (by omega) (by omega) (by omega) (by omega))
theorem RN.hx (h : RN nv nd ι κ) (w : WW κ) : HX nv nd (rO 0 (κ 130)) ι := ⟨h.2.2.1.1, h.2.2.1.2, w.1⟩
theorem RN.hm (h : RN nv nd ι κ) (w : WW κ) : HM nv nd κ := ⟨h.1, h.2.1, w.1⟩
/-- a call of both: the same answer, and the relation holds behind it -/
noncomputable def CALL (xl : List Int32) (n n2 kx km : Nat) (lvx lvm : LVs) (E : Option Value → Option Value → Prop) (ι κ : IS) : Prop := PC xl n kx 0 lvx [] ι (fun v1 ι1 => PC xl n2 km 0 lvm [] κ (fun v2 κ1 => E v1 v2 ∧ RRel ι1 κ1))
theorem call_of (h : RN nv nd ι κ) (hx : PC xl n kx 0 lvx [] ι (XR nv nd f r ι)) (hm : PC xl n2 km 0 lvm [] κ (MR f r κ)) : CALL xl n n2 kx km lvx lvm (fun v1 v2 => v1 = v2) ι κ :=
  PC.imp hx (fun v1 ι1 g1 => PC.imp hm (fun v2 κ1 g2 => ⟨by rw [g1.1, g2.1], nv, nd, h.town g1.2.1 g2.2.1 g1.2.2.1 (by rw [g2.2.2]; exact g1.2.2.2)⟩))
/-- what is told stays, by the class -/
theorem HX.same (h : HX nv nd f ι) : XR nv nd f r ι (some (.int r)) ι := ⟨rfl, CG.rfl, h.2.1, h.1⟩
theorem HX.tw (h : HX nv nd f ι) : TW 25 nv nd f ι := h.1.1
theorem HX.bo (h : HX nv nd f ι) : BO 25 (-4) 0 f ι := ⟨by rw [h.2.1]; rfl, fun g => absurd g (by decide)⟩
/-- another town is told -/
theorem HX.town {g : Nat → Int32} (h : HX nv nd f ι) (hs : Sm 25 39 ι ι1) (hj : ∀ j, ι1 25 j = ι 25 j) (hT : TW 25 nv nd g ι1) (hg : ∀ k, 52 ≤ k → g k = f k) : XR nv nd g r ι (some (.int r)) ι1 := by
  refine ⟨rfl, CG.of hs (by omega), by rw [hj]; exact h.2.1, hT, ?_, ?_⟩
  · have hP := h.1.2.1
    refine ⟨by rw [hs 24 2 (by omega), hg 52 (by omega)]; exact hP.1, by rw [hg 52 (by omega)]; exact hP.2.1, fun i hi => ?_⟩
    rw [hg 52 (by omega)] at hi
    rw [hs _ _ (by omega), hg _ (by omega)]
    exact hP.2.2 i hi
  · have hS := h.1.2.2
    refine ⟨by rw [hs 24 6 (by omega), hg 61 (by omega)]; exact hS.1, by rw [hg 61 (by omega)]; exact hS.2.1, fun i hi => ?_⟩
    rw [hg 61 (by omega)] at hi
    rw [hs _ _ (by omega), hs _ _ (by omega), hs _ _ (by omega), hg _ (by omega), hg _ (by omega), hg _ (by omega)]
    exact hS.2.2 i hi
theorem vi_hi {v d k : Nat} {bo : Int} {lw : Nat} (hw : WF f) (hv : v < 4) (hd : d < 4) (hk : koF f v d = 0) (h : 52 ≤ k) : viF bo lw f v d k = f k := by
  have hT : WD (taF f v d) d := (hw.1 d hd).ta hv
  unfold viF
  split
  · exact ta_v (by omega)
  · rename_i hm
    have hr2 : ¬ (taF f v d (16 + 9 * d) = 6 ∧ taF f v d (17 + 9 * d) = 0) := by rw [ta_d hv (by omega), ta_d hv (by omega)]; exact ko_room hk hm
    rw [pa_o hT hr2 (by omega)]; exact ta_v (by omega)
theorem go_hi {z : Int} {k : Nat} (hw : WF f) (h : 52 ≤ k) : ∀ d, d ≤ 4 → goF z f d k = f k
  | 0, _ => rfl
  | d + 1, hd => by
    show dF z (goF z f d) d k = f k
    rw [dF_o ((WF.goK hw d (by omega)).1 d (by omega)) (by omega)]
    exact go_hi hw h d (by omega)
theorem rf_0_2' : rf (rf 0 2) 0 = 25 := by decide +kernel
theorem r_st {h : Nat → Int32} {k : Nat} (hk : k < 80) : rO 0 h k = h k := by
  unfold rO
  rw [if_pos hk, Nat.zero_add]
/-- behind starts: what is told in the row that is tried -/
theorem st_M (hM : HM nv nd κ) (hq : ∀ κ1, MG κ κ1 → κ1 130 = κ 130 → κ1 131 = rO 0 (κ 130) → κ1 129 20 = -4 → (κ1 129 3).toInt = nv → (κ1 129 4).toInt = nd → BM2 (-4) 0 κ1 → Q none κ1) : PC xl n 168 0 [(0, .ref 129)] [] κ Q :=
  starts_spec (fun κ1 h1 h2 h3 h4 => hq κ1 (MG.st h1 h2) (h1 130 (by omega) (by omega)) h4 h3 (by rw [h2 3 (by omega)]; exact hM.1.2) (by rw [h2 4 (by omega)]; exact hM.2.1.2) ⟨by rw [h3]; rfl, fun g => absurd g (by decide)⟩)
theorem MR.same (hm : MG κ κ1) (h : κ1 130 = κ 130) : MR (rO 0 (κ 130)) r κ (some (.int r)) κ1 := ⟨rfl, hm, by rw [h]⟩
end Rel
end
section
/-! CALLS, I: rule, visitor, door, plan, uses, reads -/
section OpA
variable {xl : List Int32} {n : Nat} {ι κ : IS} {nv nd : Nat} {f : Nat → Int32} {x1 x2 x3 : Int32} {Q : Option Value → IS → Prop}
noncomputable def ruleO (nv nd : Nat) (f : Nat → Int32) (x : Int32) : Int32 := if x.toInt = 0 then Int32.ofNat nv else if x.toInt = 1 then Int32.ofNat nd else if x.toInt = 2 then f 52 else if x.toInt = 3 then weF f nd else if x.toInt = 4 then wrF f nd else if x.toInt = 5 then ptF f nv else -1
theorem ruleX (h : HX nv nd f ι) : PC xl n 56 0 [(0, .ref 0), (1, .int x1)] [] ι (XR nv nd f (ruleO nv nd f x1) ι) := by
  refine (t_56_0 ?_).weak
  rw [rf_0_2', rf_0_2]
  unfold ruleO
  refine ⟨fun c => ?_, fun c => ?_, fun c => ?_, fun c => ?_, fun c => ?_, fun c => ?_, fun c => ?_⟩
  · rw [if_pos c, i_on h.tw.1.2]; exact h.same
  · rw [if_neg (by omega), if_pos c, i_on h.tw.2.1.2]; exact h.same
  · rw [if_neg (by omega), if_neg (by omega), if_pos c, h.1.2.1.1]; exact h.same
  · rw [if_neg (by omega), if_neg (by omega), if_neg (by omega), if_pos c]
    refine weX_spec (by decide) h.2.2 h.tw ?_
    intro r e; cases e; exact h.same
  · rw [if_neg (by omega), if_neg (by omega), if_neg (by omega), if_neg (by omega), if_pos c]
    refine wrX_spec (by decide) h.2.2 h.tw ?_
    intro r e; cases e; exact h.same
  · rw [if_neg (by omega), if_neg (by omega), if_neg (by omega), if_neg (by omega), if_neg (by omega), if_pos c]
    refine ptX_spec (by decide) h.tw ?_
    intro r e; cases e; exact h.same
  · rw [if_neg (by omega), if_neg (by omega), if_neg (by omega), if_neg (by omega), if_neg (by omega), if_neg (by omega)]; exact h.same
theorem ruML2 {κ1 : IS} {y : Int32} (h4 : nv ≤ 4) (hn : (κ1 129 3).toInt = nv) (hq : PC xl n 167 42 [(0, .ref 129), (1, .int x1), (2, .int y), (3, .int (ptF (κ1 131) nv)), (4, .int (Int32.ofNat nv))] [] κ1 Q) : ∀ (m v : Nat) (x4 : Int32), m ≤ n → x4.toInt = v → v ≤ nv → PC xl m 167 42 [(0, .ref 129), (1, .int x1), (2, .int y), (3, .int (ptF (κ1 131) v)), (4, .int x4)] [] κ1 Q
  | 0, _, _, _, _, _ => PC.zero
  | m + 1, v, x4, hm, hx, hv => by
    by_cases e : v = nv
    · subst e
      rw [i_on hx]; exact hq.le hm
    · refine t_167_42 ⟨fun c => ?_, fun c => of_spec (m := 4 * v + 2) hx (by omega) (j := 2) rfl (by omega) (by omega) ?_⟩
      · rw [i_lt, hx, hn] at c; omega
      · intro r e; cases e
        exact ruML2 h4 hn hq m (v + 1) (x4 + 1) (by omega) (i_s hx (by omega)) (by omega)
theorem ruML1 {κ1 : IS} (h5 : nd ≤ 4) (hn : (κ1 129 4).toInt = nd) (hq : PC xl n 167 42 [(0, .ref 129), (1, .int x1), (2, .int (weF (κ1 131) nd)), (3, .int 0), (4, .int 0)] [] κ1 Q) : ∀ (m d : Nat) (x4 : Int32), m ≤ n → x4.toInt = d → d ≤ nd → PC xl m 167 11 [(0, .ref 129), (1, .int x1), (2, .int (weF (κ1 131) d)), (3, .int 0), (4, .int x4)] [] κ1 Q
  | 0, _, _, _, _, _ => PC.zero
  | m + 1, d, x4, hm, hx, hd => by
    refine t_167_11 ⟨fun c => ?_, fun c => ?_⟩
    · rw [i_lt, hx, hn] at c
      have : d = nd := by omega
      subst this; exact hq.le (by omega)
    · rw [i_lt, hx, hn] at c
      refine ofD_spec (m := 17 + 9 * d) hx (by omega) (j := 1) rfl (by omega) (by omega) ?_
      intro r e; cases e
      have go := ruML1 h5 hn hq m (d + 1) (x4 + 1) (by omega) (i_s hx (by omega)) (by omega)
      have e1 : weF (κ1 131) (d + 1) = weF (κ1 131) d ||| (κ1 131 (17 + 9 * d) <<< (Int32.ofNat d &&& 31)) := rfl
      rw [e1, ← i_on hx] at go; exact go
theorem ruleM (h : HM nv nd κ) : PC xl n 167 0 [(0, .ref 129), (1, .int x1)] [] κ (MR (rO 0 (κ 130)) (ruleO nv nd (rO 0 (κ 130)) x1) κ) := by
  refine (t_167_0 (st_M h (fun κ1 g1 g2 g3 g4 g5 g6 g7 => ?_))).weak
  refine ruML1 (n := n) h.2.1.1 g6 (ruML2 (n := n) (y := weF (κ1 131) nd) h.1.1 g5 ?_ n 0 0 (Nat.le_refl _) rfl (Nat.zero_le _)) n 0 0 (Nat.le_refl _) rfl (Nat.zero_le _)
  have fin : ∀ r, MR (rO 0 (κ 130)) r κ (some (.int r)) κ1 := fun r => MR.same g1 g2
  unfold ruleO
  refine (t_167_42 ⟨fun c => ?_, fun c => ?_⟩).weak
  · rw [rf_129_0, g2, show (52 : Int32).toNatClampNeg = 52 from rfl]
    refine ⟨fun c => ?_, fun c => ?_, fun c _ _ => ?_, fun c => ?_, fun c => ?_, fun c => ?_, fun c => ?_⟩
    · rw [if_pos c, i_on g5]; exact fin _
    · rw [if_neg (by omega), if_pos c, i_on g6]; exact fin _
    · rw [if_neg (by omega), if_neg (by omega), if_pos c, r_st (by omega)]; exact fin _
    · rw [if_neg (by omega), if_neg (by omega), if_neg (by omega), if_pos c, g3]; exact fin _
    · rw [if_neg (by omega), if_neg (by omega), if_neg (by omega), if_neg (by omega), if_pos c]
      refine wrM_spec (by rw [g3]; exact h.2.2) g6 h.2.1.1 ?_
      intro r e; cases e
      rw [g3]; exact fin _
    · rw [if_neg (by omega), if_neg (by omega), if_neg (by omega), if_neg (by omega), if_neg (by omega), if_pos c, g3]; exact fin _
    · rw [if_neg (by omega), if_neg (by omega), if_neg (by omega), if_neg (by omega), if_neg (by omega), if_neg (by omega)]; exact fin _
  · rw [i_lt, g5, i_of (by have := h.1.1; omega)] at c; omega
noncomputable def visO (nv : Nat) (f : Nat → Int32) (x1 x2 : Int32) : Int32 := if 0 ≤ x1.toInt ∧ x1.toInt < nv ∧ 0 ≤ x2.toInt ∧ x2.toInt ≤ 4 then (if x2.toInt = 4 then owF f x1.toInt.toNat else f (4 * x1.toInt.toNat + x2.toInt.toNat)) else -1
theorem visitorX (h : HX nv nd f ι) : PC xl n 62 0 [(0, .ref 0), (1, .int x1), (2, .int x2)] [] ι (XR nv nd f (visO nv f x1 x2) ι) := by
  have h4 := h.tw.1.1
  refine (t_62_0 ?_).weak
  rw [rf_0_2']
  unfold visO
  refine hasV_spec h.tw.1.2 (fun c => ?_) (fun v hv hvl r hr => ?_)
  · intro r e; cases e
    rw [if_neg (by omega)]
    exact ⟨fun q => absurd rfl q, fun _ => h.same⟩
  · intro r2 e; cases e
    refine ⟨fun _ _ _ => ?_, fun q => absurd q hr⟩
    have hV := h.tw.2.2.1 v hvl
    rw [i_ixn hv, town_v (u := 25) (by decide) (v := v) (by omega), hV.1, hV.2.1, hV.2.2.1, hV.2.2.2, hv, Int.toNat_natCast]
    refine ⟨fun c => ?_, fun c => ?_, fun c => ?_, fun c => ?_, fun c => ?_, fun c => ?_⟩
    · rw [if_pos (by omega), if_neg (by omega), c]; exact h.same
    · rw [if_pos (by omega), if_neg (by omega), c]; exact h.same
    · rw [if_pos (by omega), if_neg (by omega), c]; exact h.same
    · rw [if_pos (by omega), if_neg (by omega), c]; exact h.same
    · rw [if_pos (by omega), if_pos c]
      refine brX_spec (by decide) h.tw h.bo hv hvl ?_
      intro r e; cases e
      have : brF (-4) 0 f v = owF f v := if_neg (by omega)
      rw [this]; exact h.same
    · rw [if_neg (by omega)]; exact h.same
theorem visitorM (h : HM nv nd κ) : PC xl n 176 0 [(0, .ref 129), (1, .int x1), (2, .int x2)] [] κ (MR (rO 0 (κ 130)) (visO nv (rO 0 (κ 130)) x1 x2) κ) := by
  have h4 := h.1.1
  unfold visO
  refine (t_176_0 (isV_spec h.1.2 h.1.1 (fun c => ?_) (fun v hv hvl r hr => ?_))).weak
  · intro r e; cases e
    rw [if_neg (by omega)]
    exact ⟨fun _ => MR.same MG.rfl rfl, fun q => absurd rfl q⟩
  · intro r2 e; cases e
    refine ⟨fun q => absurd q hr, fun _ => inL (l := 0) (g := 4) rfl rfl (fun r hr => ?_)⟩
    intro r2 e; cases e
    refine ⟨fun c => ?_, fun c => ?_⟩
    · have c2 : 0 ≤ x2.toInt ∧ x2.toInt ≤ 4 := by false_or_by_contra; rename_i hh; exact c (hr.mpr hh)
      rw [if_pos (by omega)]
      refine st_M h (fun κ1 g1 g2 g3 g4 g5 g6 g7 => ⟨fun c3 => brM_spec hv (by omega) g7 ?_, fun c3 => of_spec (m := 4 * v + x2.toInt.toNat) hv (by omega) (j := x2.toInt.toNat) (by omega) (by omega) (by omega) ?_⟩)
      · intro r e; cases e
        rw [i_lt, n4] at c3
        rw [if_pos (by omega), g3, hv, Int.toNat_natCast]
        have : brF (-4) 0 (rO 0 (κ 130)) v = owF (rO 0 (κ 130)) v := if_neg (by omega)
        rw [this]; exact MR.same g1 g2
      · intro r e; cases e
        rw [i_lt, n4] at c3
        rw [if_neg (by omega), g3, hv, Int.toNat_natCast]; exact MR.same g1 g2
    · rw [if_neg (by have := hr.mp c; omega)]; exact MR.same MG.rfl rfl
noncomputable def doorO (nd : Nat) (f : Nat → Int32) (x1 x2 : Int32) : Int32 := if 0 ≤ x1.toInt ∧ x1.toInt < nd then (if x2.toInt = 0 then f (16 + 9 * x1.toInt.toNat) else if x2.toInt = 1 then shF f x1.toInt.toNat else if x2.toInt = 2 then f (18 + 9 * x1.toInt.toNat) else if x2.toInt = 3 then f (17 + 9 * x1.toInt.toNat) else if 10 ≤ x2.toInt ∧ x2.toInt < 16 then (if x2.toInt - 10 < (f (16 + 9 * x1.toInt.toNat)).toInt then f (19 + 9 * x1.toInt.toNat + (x2.toInt - 10).toNat) else -4) else -1) else -1
theorem i_10 {x : Int32} (h : 10 ≤ x.toInt) : (x - 10).toInt = x.toInt - 10 := by
  have := i_rng x
  have t : (10 : Int32).toInt = 10 := rfl
  rw [i_sub (by rw [t]; omega), t]
theorem layX_spec {a d i : Nat} (hr : rf a 0 = a + 1) (hD : DX a d f ι) (hx : x1.toInt = i) (h : Q (some (.int (if (i : Int) < (f (16 + 9 * d)).toInt then f (19 + 9 * d + i) else -4))) ι) : PC xl n 65 0 [(0, .ref a), (1, .int x1)] [] ι Q := by
  refine (t_65_0 ⟨fun c => ?_, fun c => ⟨fun c2 => ?_, fun c2 _ _ => ?_⟩⟩).weak
  · rw [i_lt, hx, n0] at c; omega
  · rw [i_lt, hx, hD.1] at c2
    rw [if_neg c2] at h; exact h
  · rw [i_lt, hx, hD.1] at c2
    rw [if_pos c2] at h
    rw [hr, i_ixn hx, hD.2.2.2 i c2]; exact h
theorem doorX (h : HX nv nd f ι) : PC xl n 64 0 [(0, .ref 0), (1, .int x1), (2, .int x2)] [] ι (XR nv nd f (doorO nd f x1 x2) ι) := by
  have h5 := h.tw.2.1.1
  have t10 : (10 : Int32).toInt = 10 := rfl
  have t16 : (16 : Int32).toInt = 16 := rfl
  refine (t_64_0 ?_).weak
  rw [rf_0_2']
  unfold doorO
  refine hasDr_spec h.tw.2.1.2 (fun c => ?_) (fun d hd hdl r hr => ?_)
  · intro r e; cases e
    rw [if_neg (by omega)]
    exact ⟨fun q => absurd rfl q, fun _ => h.same⟩
  · intro r2 e; cases e
    refine ⟨fun _ _ _ => ?_, fun q => absurd q hr⟩
    have hD := h.tw.2.2.2 d hdl
    have hW := h.2.2.1 d (by omega)
    obtain ⟨tr1, tr2⟩ := town_d (u := 25) (by decide) (d := d) (by omega)
    rw [i_ixn hd, tr1, hd, Int.toNat_natCast, if_pos (by omega)]
    have l50 : ¬ (10 ≤ x2.toInt ∧ x2.toInt < 16) → PC xl n 64 50 [(0, .ref 0), (1, .int x1), (2, .int x2), (3, .ref (25 + 7 + 2 * d))] [] ι (XR nv nd f (if x2.toInt = 0 then f (16 + 9 * d) else if x2.toInt = 1 then shF f d else if x2.toInt = 2 then f (18 + 9 * d) else if x2.toInt = 3 then f (17 + 9 * d) else if 10 ≤ x2.toInt ∧ x2.toInt < 16 then (if x2.toInt - 10 < (f (16 + 9 * d)).toInt then f (19 + 9 * d + (x2.toInt - 10).toNat) else -4) else -1) ι) := by
      intro hn
      rw [if_neg hn]
      refine (t_64_50 ?_).weak
      rw [hD.1, hD.2.1, hD.2.2.1]
      refine ⟨fun c => ?_, fun c => ?_, fun c => ?_, fun c => ?_, fun c => ?_⟩
      · rw [if_pos c]; exact h.same
      · rw [if_neg (by omega), if_pos c]
        refine shX_spec tr2 hD hW.1 ?_
        intro r e; cases e; exact h.same
      · rw [if_neg (by omega), if_neg (by omega), if_pos c]; exact h.same
      · rw [if_neg (by omega), if_neg (by omega), if_neg (by omega), if_pos c]
        refine ⟨fun c2 => ?_, fun c2 => ?_⟩
        · rw [c2]; exact h.same
        · rw [hW.2.1.resolve_left c2]; exact h.same
      · rw [if_neg (by omega), if_neg (by omega), if_neg (by omega), if_neg (by omega)]; exact h.same
    refine ⟨fun c => l50 ?_, fun c => ⟨fun c2 => l50 ?_, fun c2 => ?_⟩⟩
    · rw [i_lt, t10] at c; omega
    · rw [i_lt, t16] at c2; omega
    · rw [i_lt, t10] at c
      rw [i_lt, t16] at c2
      rw [if_neg (by omega), if_neg (by omega), if_neg (by omega), if_neg (by omega), if_pos (by omega)]
      refine layX_spec (i := (x2.toInt - 10).toNat) tr2 hD (by rw [i_10 (by omega)]; omega) ?_
      intro r e; cases e
      rw [show (((x2.toInt - 10).toNat : Nat) : Int) = x2.toInt - 10 by omega]
      exact h.same
theorem doorM (h : HM nv nd κ) : PC xl n 180 0 [(0, .ref 129), (1, .int x1), (2, .int x2)] [] κ (MR (rO 0 (κ 130)) (doorO nd (rO 0 (κ 130)) x1 x2) κ) := by
  have h5 := h.2.1.1
  unfold doorO
  refine (t_180_0 (isD_spec h.2.1.2 h.2.1.1 (fun c => ?_) (fun d hd hdl r hr => ?_))).weak
  · intro r e; cases e
    rw [if_neg (by omega)]
    exact ⟨fun q => absurd rfl q, fun _ => MR.same MG.rfl rfl⟩
  · intro r2 e; cases e
    refine ⟨fun _ => st_M h (fun κ1 g1 g2 g3 g4 g5 g6 g7 => ?_), fun q => absurd q hr⟩
    have fin : ∀ r, MR (rO 0 (κ 130)) r κ (some (.int r)) κ1 := fun r => MR.same g1 g2
    have hW : WD (κ1 131) d := by rw [g3]; exact h.2.2.1 d (by omega)
    rw [hd, Int.toNat_natCast, if_pos (by omega), ← g3]
    rw [← g3] at fin
    refine ⟨fun c => ofD_spec (m := 16 + 9 * d) hd (by omega) (j := 0) rfl (by omega) (by omega) ?_, fun c => shM_spec hd (by omega) hW.1 ?_, fun c => ofD_spec (m := 18 + 9 * d) hd (by omega) (j := 2) rfl (by omega) (by omega) ?_, fun c => ofD_spec (m := 17 + 9 * d) hd (by omega) (j := 1) rfl (by omega) (by omega) ?_, fun c => inL (l := 0) (g := 5) rfl rfl (fun r hr => ?_)⟩
    · intro r e; cases e; rw [if_pos c]; exact fin _
    · intro r e; cases e; rw [if_neg (by omega), if_pos c]; exact fin _
    · intro r e; cases e; rw [if_neg (by omega), if_neg (by omega), if_pos c]; exact fin _
    · intro r e; cases e; rw [if_neg (by omega), if_neg (by omega), if_neg (by omega), if_pos c]; exact fin _
    · intro r2 e; cases e
      rw [if_neg (by omega), if_neg (by omega), if_neg (by omega), if_neg (by omega)]
      have t10 : (10 : Int32).toInt = 10 := rfl
      have hx := i_rng x2
      have key : (0 ≤ (x2 - 10).toInt ∧ (x2 - 10).toInt ≤ 5) ↔ (10 ≤ x2.toInt ∧ x2.toInt < 16) := by
        by_cases g : -2147483638 ≤ x2.toInt
        · rw [i_sub (by rw [t10]; omega), t10]; omega
        · have : (x2 - 10).toInt = x2.toInt - 10 + 4294967296 := by
            rw [Int32.toInt_sub, t10, Int.bmod_def]; omega
          omega
      refine ⟨fun c2 => ofD_spec (m := 16 + 9 * d) hd (by omega) (j := 0) rfl (by omega) (by omega) ?_, fun c2 => ?_⟩
      · have c3 : 10 ≤ x2.toInt ∧ x2.toInt < 16 := by false_or_by_contra; rename_i hh; exact c2 (hr.mpr (fun q => hh (key.mp q)))
        intro r e; cases e
        rw [if_pos c3]
        have e10 := i_10 (x := x2) (by omega)
        refine ⟨fun c4 => ?_, fun c4 => layM_spec (j := (x2.toInt - 10).toNat) hd (by omega) (by rw [e10]; omega) (by omega) ?_⟩
        · rw [i_lt, e10] at c4
          rw [if_neg c4]; exact fin _
        · rw [i_lt, e10] at c4
          intro r e; cases e
          rw [if_pos c4]; exact fin _
      · rw [if_neg (fun q => (hr.mp c2) (key.mpr q))]; exact fin _
noncomputable def planO (f : Nat → Int32) (x : Int32) : Int32 := if 0 ≤ x.toInt ∧ x.toInt < (f 52).toInt then f (53 + x.toInt.toNat) else -1
theorem planX (h : HX nv nd f ι) : PC xl n 66 0 [(0, .ref 0), (1, .int x1)] [] ι (XR nv nd f (planO f x1) ι) := by
  have hP := h.1.2.1
  refine (t_66_0 ?_).weak
  rw [rf_0_2, hP.1, show rf 24 1 = 24 + 16 from rfl]
  unfold planO
  refine ⟨fun c => ?_, fun c => ⟨fun c2 => ?_, fun c2 _ _ => ?_⟩⟩
  · rw [i_lt, n0] at c
    rw [if_neg (by omega)]; exact h.same
  · rw [i_lt] at c2
    rw [if_neg (by omega)]; exact h.same
  · rw [i_lt, n0] at c
    rw [i_lt] at c2
    rw [if_pos (by omega), i_ixn (p := x1.toInt.toNat) (by omega), (hP.2.2 x1.toInt.toNat (by omega)).1]; exact h.same
theorem planM (h : HM nv nd κ) (h8 : 0 ≤ (rO 0 (κ 130) 52).toInt ∧ (rO 0 (κ 130) 52).toInt ≤ 8) : PC xl n 182 0 [(0, .ref 129), (1, .int x1)] [] κ (MR (rO 0 (κ 130)) (planO (rO 0 (κ 130)) x1) κ) := by
  have t53 : (53 : Int32).toInt = 53 := rfl
  have e52 : rO 0 (κ 130) 52 = κ 130 52 := r_st (by omega)
  refine (t_182_0 (fun _ _ => ?_)).weak
  rw [rf_129_0, show (52 : Int32).toNatClampNeg = 52 from rfl, ← e52]
  have e1 : (rO 0 (κ 130) 52 - 1).toInt = (rO 0 (κ 130) 52).toInt - 1 := by rw [i_sub (by rw [n1]; omega), n1]
  unfold planO
  refine in32 rfl (fun r hr => ?_)
  rw [e1] at hr
  intro r2 e; cases e
  refine ⟨fun c => ?_, fun c _ _ => ?_⟩
  · rw [if_neg (by have := hr.mp c; omega)]; exact MR.same MG.rfl rfl
  · have c2 : 0 ≤ x1.toInt ∧ x1.toInt ≤ (rO 0 (κ 130) 52).toInt - 1 := by false_or_by_contra; rename_i hh; exact c (hr.mpr hh)
    rw [if_pos (by omega), i_ixn (p := 53 + x1.toInt.toNat) (by rw [i_add (by rw [t53]; omega), t53]; omega), r_st (by omega)]
    exact MR.same MG.rfl rfl
noncomputable def usesO (nv nd : Nat) (f : Nat → Int32) (x1 x2 : Int32) : Int32 := if 0 ≤ x1.toInt ∧ x1.toInt < nv ∧ 0 ≤ x2.toInt ∧ x2.toInt < nd then usF f x1.toInt.toNat x2.toInt.toNat else -1
theorem usesX (h : HX nv nd f ι) : PC xl n 67 0 [(0, .ref 0), (1, .int x1), (2, .int x2)] [] ι (XR nv nd f (usesO nv nd f x1 x2) ι) := by
  refine (t_67_0 ?_).weak
  rw [rf_0_2']
  unfold usesO
  refine coX_spec (by decide) h.tw (fun c => ?_) (fun v d hv hvl hd hdl => ?_)
  · intro r e; cases e
    rw [if_neg c]; exact h.same
  · intro r e; cases e
    rw [if_pos (by omega), hv, hd, Int.toNat_natCast, Int.toNat_natCast]; exact h.same
theorem usesM (h : HM nv nd κ) : PC xl n 183 0 [(0, .ref 129), (1, .int x1), (2, .int x2)] [] κ (MR (rO 0 (κ 130)) (usesO nv nd (rO 0 (κ 130)) x1 x2) κ) := by
  have h4 := h.1.1
  have h5 := h.2.1.1
  unfold usesO
  refine (t_183_0 (isV_spec h.1.2 h.1.1 (fun c => ?_) (fun v hv hvl r hr => ?_))).weak
  · intro r e; cases e
    rw [if_neg (by omega)]
    exact ⟨fun _ => MR.same MG.rfl rfl, fun q => absurd rfl q⟩
  · intro r2 e; cases e
    refine ⟨fun q => absurd q hr, fun _ => isD_spec h.2.1.2 h.2.1.1 (fun c => ?_) (fun d hd hdl r hr => ?_)⟩
    · intro r e; cases e
      rw [if_neg (by omega)]
      exact ⟨fun q => absurd rfl q, fun _ => MR.same MG.rfl rfl⟩
    · intro r2 e; cases e
      refine ⟨fun _ => st_M h (fun κ1 g1 g2 g3 g4 g5 g6 g7 => usM_spec hv (by omega) hd (by omega) ?_), fun q => absurd q hr⟩
      intro r e; cases e
      rw [if_pos (by omega), hv, hd, Int.toNat_natCast, Int.toNat_natCast, g3]; exact MR.same g1 g2
noncomputable def readsO (nv nd : Nat) (f : Nat → Int32) (x : Int32) : Int32 := if 0 ≤ x.toInt ∧ x.toInt < nv then rdF f nd x.toInt.toNat else -1
theorem rdXL {v : Nat} {w : Value} (h : HX nv nd f ι) (hq : Q (some (.int (rdF f nd v))) ι) : ∀ (n d : Nat) (x4 : Int32), x4.toInt = d → d ≤ nd → PC xl n 109 33 [(0, .ref 0), (1, w), (2, .int (owF f v)), (3, .int (rdF f d v)), (4, .int x4)] [] ι Q
  | 0, _, _, _, _ => PC.zero
  | n + 1, d, x4, hx, hd => by
    have h5 := h.tw.2.1.1
    have hlt : x4 < ι 25 3 ↔ d < nd := by rw [i_lt, hx, h.tw.2.1.2]; omega
    refine t_109_33 ?_
    rw [rf_0_2']
    refine ⟨fun c => ?_, fun c _ _ => ?_⟩
    · have : d = nd := by
        have := mt hlt.mpr c; omega
      subst this; exact hq
    · have hdl := hlt.mp c
      obtain ⟨tr1, tr2⟩ := town_d (u := 25) (by decide) (d := d) (by omega)
      rw [i_ixn hx, tr1]
      have go := rdXL (w := w) h hq n (d + 1) (x4 + 1) (i_s hx (by omega)) hdl
      have e1 : rdF f (d + 1) v = rdF f d v ||| (hlF f d (owF f v) (f (16 + 9 * d)).toInt.toNat <<< (Int32.ofNat d &&& 31)) := rfl
      refine hlX_spec tr2 (h.tw.2.2.2 d hdl) (h.2.2.1 d (by omega)).1.1 ?_
      intro r e; cases e
      refine ⟨fun c2 => ?_, fun c2 => ?_⟩
      · rw [e1, c2, z_shl, z_or] at go; exact go
      · rw [e1, (hl_01 _).resolve_left c2, ← i_on hx] at go; exact go
theorem readsX (h : HX nv nd f ι) : PC xl n 109 0 [(0, .ref 0), (1, .int x1)] [] ι (XR nv nd f (readsO nv nd f x1) ι) := by
  refine (t_109_0 ?_).weak
  rw [rf_0_2']
  unfold readsO
  refine hasV_spec h.tw.1.2 (fun c => ?_) (fun v hv hvl r hr => ?_)
  · intro r e; cases e
    rw [if_neg c]
    exact ⟨fun q => absurd rfl q, fun _ => h.same⟩
  · intro r2 e; cases e
    refine ⟨fun _ => brX_spec (by decide) h.tw h.bo hv hvl ?_, fun q => absurd q hr⟩
    intro r e; cases e
    have : brF (-4) 0 f v = owF f v := if_neg (by omega)
    rw [this, if_pos (by omega), hv, Int.toNat_natCast]
    exact rdXL h h.same n 0 0 rfl (Nat.zero_le _)
theorem rdM1 {v d h : Nat} {κ1 : IS} {y : Int32} (hv : x1.toInt = v) (hv4 : v < 4) (hB : BM2 (-4) 0 κ1) (hd : x3.toInt = d) (hd4 : d < 4) (hh : (κ1 131 (16 + 9 * d)).toInt = h) (h6 : h ≤ 6) (hq : ∀ w5 : Value, PC xl n 216 18 [(0, .ref 129), (1, .int x1), (2, .int (y ||| (hlF (κ1 131) d (owF (κ1 131) v) h <<< (x3 &&& 31)))), (3, .int (x3 + 1)), (4, .int (hlF (κ1 131) d (owF (κ1 131) v) h)), (5, w5)] [] κ1 Q) : ∀ (m i : Nat) (x5 : Int32), m ≤ n + 1 → x5.toInt = i → i ≤ h → PC xl m 216 32 [(0, .ref 129), (1, .int x1), (2, .int y), (3, .int x3), (4, .int (hlF (κ1 131) d (owF (κ1 131) v) i)), (5, .int x5)] [] κ1 Q
  | 0, _, _, _, _, _ => PC.zero
  | m + 1, i, x5, hm, hx, hi => by
    refine t_216_32 (ofD_spec (m := 16 + 9 * d) hd hd4 (j := 0) rfl (by omega) (by omega) ?_)
    intro r e; cases e
    have nxt : ∀ u0 : Int32, ∀ w4 : Value, u0 = hlF (κ1 131) d (owF (κ1 131) v) (i + 1) → i < h → PC xl m 216 68 [(0, .ref 129), (1, .int x1), (2, .int y), (3, .int x3), (4, w4), (5, .int x5)] [.int u0] κ1 Q := by
      intro u0 w4 e hi2
      rw [e]
      exact (t_216_68 (rdM1 hv hv4 hB hd hd4 hh h6 hq m (i + 1) (x5 + 1) (by omega) (i_s hx (by omega)) hi2)).weak
    refine ⟨fun c => ?_, fun c => ⟨fun c2 => ?_, fun c2 => layM_spec (j := i) hd hd4 hx (by rw [i_lt, hx, hh] at c; omega) ?_⟩⟩
    · rw [i_lt, hx, hh] at c
      have : i = h := by omega
      subst this
      refine (t_175_0 ⟨fun c2 => ?_, fun c2 => ?_⟩).weak
      · intro r e; cases e
        have := hq (.int x5)
        rw [c2] at this ⊢; exact this.le (by omega)
      · intro r e; cases e
        have := hq (.int x5)
        rw [(hl_01 _).resolve_left c2] at this ⊢; exact this.le (by omega)
    · rw [i_lt, hx, hh] at c
      refine (t_216_63 (nxt 1 _ ?_ (by omega))).weak
      simp only [hlF]
      rw [if_neg c2]
    · intro r e; cases e
      rw [i_lt, hx, hh] at c
      refine brM_spec hv hv4 hB ?_
      intro r e; cases e
      have eb : brF (-4) 0 (κ1 131) v = owF (κ1 131) v := if_neg (by omega)
      rw [eb]
      refine ⟨fun c3 => nxt 0 _ ?_ (by omega), fun c3 => (t_216_63 (nxt 1 _ ?_ (by omega))).weak⟩
      · simp only [hlF]
        rw [if_pos c2, if_neg c3]
      · simp only [hlF]
        rw [if_pos c2, if_pos c3]
theorem rdML {v : Nat} {κ1 : IS} (hv : x1.toInt = v) (hv4 : v < 4) (hB : BM2 (-4) 0 κ1) (hw : WF (κ1 131)) (h5 : nd ≤ 4) (hn : (κ1 129 4).toInt = nd) (hq : Q (some (.int (rdF (κ1 131) nd v))) κ1) : ∀ (n d : Nat) (x3 : Int32) (w4 w5 : Value), x3.toInt = d → d ≤ nd → PC xl n 216 18 [(0, .ref 129), (1, .int x1), (2, .int (rdF (κ1 131) d v)), (3, .int x3), (4, w4), (5, w5)] [] κ1 Q
  | 0, _, _, _, _, _, _ => PC.zero
  | n + 1, d, x3, w4, w5, hx, hd => by
    refine t_216_18 ⟨fun c => ?_, fun c => ?_⟩
    · rw [i_lt, hx, hn] at c
      have : d = nd := by omega
      subst this; exact hq
    · rw [i_lt, hx, hn] at c
      have hW := hw.1 d (by omega)
      refine rdM1 (n := n) (h := (κ1 131 (16 + 9 * d)).toInt.toNat) hv hv4 hB hx (by omega) (by have := hW.1.1; omega) (by have := hW.1.2; omega) (fun w => ?_) n 0 0 (by omega) rfl (Nat.zero_le _)
      have go := fun w4 w5 => rdML hv hv4 hB hw h5 hn hq n (d + 1) (x3 + 1) w4 w5 (i_s hx (by omega)) (by omega)
      have e1 : rdF (κ1 131) (d + 1) v = rdF (κ1 131) d v ||| (hlF (κ1 131) d (owF (κ1 131) v) (κ1 131 (16 + 9 * d)).toInt.toNat <<< (Int32.ofNat d &&& 31)) := rfl
      rw [e1, ← i_on hx] at go
      exact go _ _
theorem readsM (h : HM nv nd κ) : PC xl n 216 0 [(0, .ref 129), (1, .int x1)] [] κ (MR (rO 0 (κ 130)) (readsO nv nd (rO 0 (κ 130)) x1) κ) := by
  have h4 := h.1.1
  unfold readsO
  refine (t_216_0 (isV_spec h.1.2 h.1.1 (fun c => ?_) (fun v hv hvl r hr => ?_))).weak
  · intro r e; cases e
    rw [if_neg c]
    exact ⟨fun q => absurd rfl q, fun _ => MR.same MG.rfl rfl⟩
  · intro r2 e; cases e
    refine ⟨fun _ => st_M h (fun κ1 g1 g2 g3 g4 g5 g6 g7 => ?_), fun q => absurd q hr⟩
    rw [if_pos (by omega), hv, Int.toNat_natCast]
    refine rdML hv (by omega) g7 (by rw [g3]; exact h.2.2) h.2.1.1 g6 ?_ n 0 0 _ _ rfl (Nat.zero_le _)
    rw [g3]; exact MR.same g1 g2
end OpA
end
section
/-! CALLS, II: visit, sky, scrape, alter, ought, plans, cut, see, forget -/
section OpB
variable {xl : List Int32} {n : Nat} {ι ι1 κ κ1 : IS} {nv nd : Nat} {f g : Nat → Int32} {x1 x2 x3 : Int32} {Q : Option Value → IS → Prop} {r : Int32}
theorem rO_up {k : Nat} {x : Int32} (hk : k < 80) : rO 0 ((up κ 130 k x) 130) = fs (rO 0 (κ 130)) k x := by
  rw [up_row]
  funext j
  unfold rO fs
  by_cases e : j = k
  · subst e
    rw [if_pos hk, if_pos (Nat.zero_add _), if_pos rfl]
  · by_cases g : j < 80
    · rw [if_pos g, if_neg (by omega), if_neg e]; exact (if_pos g).symm
    · rw [if_neg g, if_neg e]; exact (if_neg g).symm
theorem MG.up0 {k : Nat} {x : Int32} (hk : k < 80) (h : MG κ κ1) : MG κ (up κ1 130 k x) := h.trans (MG.se (fun a ha => up_oth ha) (fun j hj => up_ne (by omega)))
theorem TW.row {u : Nat} (h : TW u nv nd f ι) (hg : ∀ k, k < 52 → g k = f k) (hw : WF f) : TW u nv nd g ι := by
  have h4 := h.1.1
  have h5 := h.2.1.1
  exact ⟨h.1, h.2.1, fun v hv => (h.2.2.1 v hv).keep (fun _ => rfl) (fun j hj => hg _ (by omega)), fun d hd => (h.2.2.2 d hd).keep (fun _ => rfl) (fun _ => rfl) (fun j hj => hg _ (by omega)) (hw.1 d (by omega)).1.2⟩
abbrev okVD (nv nd : Nat) (x1 x2 : Int32) : Prop := 0 ≤ x1.toInt ∧ x1.toInt < nv ∧ 0 ≤ x2.toInt ∧ x2.toInt < nd
noncomputable def visG (nv nd : Nat) (f : Nat → Int32) (x1 x2 : Int32) : Nat → Int32 := if okVD nv nd x1 x2 ∧ koF f x1.toInt.toNat x2.toInt.toNat = 0 then viF (-4) 0 f x1.toInt.toNat x2.toInt.toNat else f
noncomputable def visR (nv nd : Nat) (f : Nat → Int32) (x1 x2 : Int32) : Int32 := if okVD nv nd x1 x2 then (if koF f x1.toInt.toNat x2.toInt.toNat = 0 then shF (viF (-4) 0 f x1.toInt.toNat x2.toInt.toNat) x2.toInt.toNat else koF f x1.toInt.toNat x2.toInt.toNat) else -1
theorem visitX (h : HX nv nd f ι) : PC xl n 69 0 [(0, .ref 0), (1, .int x1), (2, .int x2)] [] ι (XR nv nd (visG nv nd f x1 x2) (visR nv nd f x1 x2) ι) := by
  have h4 := h.tw.1.1
  have h5 := h.tw.2.1.1
  refine (t_69_0 ?_).weak
  rw [rf_0_2']
  unfold visG visR
  refine rcX_spec (by decide) h.tw h.2.2 h.bo (fun c => ?_) (fun v d hv hvl hd hdl hk => ?_) (fun v d hv hvl hd hdl hk ι1 s1 j1 t1 => ?_) (fun g => absurd g (by decide))
  · intro r e; cases e
    rw [if_neg (fun q => c q.1), if_neg c]; exact h.same
  · intro r e; cases e
    rw [show x1.toInt.toNat = v by omega, show x2.toInt.toNat = d by omega, if_neg (fun q => hk q.2), if_pos (by unfold okVD; omega), if_neg hk]; exact h.same
  · intro r e; cases e
    rw [show x1.toInt.toNat = v by omega, show x2.toInt.toNat = d by omega, if_pos ⟨by unfold okVD; omega, hk⟩, if_pos (by unfold okVD; omega), if_pos hk]
    exact h.town s1 j1 t1 (fun k hk2 => vi_hi h.2.2 (by omega) (by omega) hk hk2)
theorem visitM (h : HM nv nd κ) : PC xl n 185 0 [(0, .ref 129), (1, .int x1), (2, .int x2)] [] κ (MR (visG nv nd (rO 0 (κ 130)) x1 x2) (visR nv nd (rO 0 (κ 130)) x1 x2) κ) := by
  have h4 := h.1.1
  have h5 := h.2.1.1
  unfold visG visR
  refine (t_185_0 (isV_spec h.1.2 h.1.1 (fun c => ?_) (fun v hv hvl r hr => ?_))).weak
  · intro r e; cases e
    rw [if_neg (by unfold okVD; omega), if_neg (by unfold okVD; omega)]
    exact ⟨fun _ => MR.same MG.rfl rfl, fun q => absurd rfl q⟩
  · intro r2 e; cases e
    refine ⟨fun q => absurd q hr, fun _ => isD_spec h.2.1.2 h.2.1.1 (fun c => ?_) (fun d hd hdl r hr => ?_)⟩
    · intro r e; cases e
      rw [if_neg (by unfold okVD; omega), if_neg (by unfold okVD; omega)]
      exact ⟨fun q => absurd rfl q, fun _ => MR.same MG.rfl rfl⟩
    · intro r2 e; cases e
      rw [show x1.toInt.toNat = v by omega, show x2.toInt.toNat = d by omega]
      have ok : okVD nv nd x1 x2 := by unfold okVD; omega
      rw [if_pos ok]
      refine ⟨fun _ => st_M h (fun κ1 g1 g2 g3 g4 g5 g6 g7 => koM_spec hv (by omega) hd (by omega) ?_), fun q => absurd q hr⟩
      intro r e; cases e
      rw [g3]
      refine ⟨fun c => viM_spec (bo := -4) (lw := 0) hv (by omega) hd (by omega) (by rw [g3]; exact h.2.2.1 d (by omega)) g7 (fun κ2 k1 k2 => ?_), fun c => ?_⟩
      · intro r e
        rw [g3] at k1
        rw [if_pos ⟨ok, c⟩, if_pos c]
        refine settles_spec (fun κ3 m1 m2 m3 => shM_spec hd (by omega) ?_ ?_)
        · rw [m1 131 (by omega), k1]; exact (h.2.2.vi (by omega) (by omega) c (fun g => absurd g (by decide))).1 d (by omega) |>.1
        · intro r e; cases e
          rw [m1 131 (by omega), k1]
          exact ⟨rfl, (g1.trans (MG.at131 k2)).trans (MG.se m1 m3), by rw [m2, k1]⟩
      · rw [if_neg (fun q => c q.2), if_neg c]; exact MR.same g1 g2
noncomputable def skyG (nd : Nat) (f : Nat → Int32) (x : Int32) : Nat → Int32 := if 0 ≤ x.toInt ∧ x.toInt ≤ 2 then goF (90 + x.toInt) f nd else f
noncomputable def skyR (nd : Nat) (f : Nat → Int32) (x : Int32) : Int32 := if 0 ≤ x.toInt ∧ x.toInt ≤ 2 then alF (goF (90 + x.toInt) f nd) nd else -1
theorem i_90 (h : 0 ≤ x1.toInt ∧ x1.toInt ≤ 2) : (90 + x1).toInt = 90 + x1.toInt := by
  have t : (90 : Int32).toInt = 90 := rfl
  rw [i_add (by rw [t]; omega), t]
theorem skyX (h : HX nv nd f ι) : PC xl n 75 0 [(0, .ref 0), (1, .int x1)] [] ι (XR nv nd (skyG nd f x1) (skyR nd f x1) ι) := by
  refine (t_75_0 ?_).weak
  rw [rf_0_2']
  unfold skyG skyR
  refine ⟨fun c => ?_, fun c => ⟨fun c2 => ?_, fun c2 => ?_⟩⟩
  · rw [i_lt, n0] at c
    rw [if_neg (by omega), if_neg (by omega)]; exact h.same
  · rw [i_lt, n0] at c
    rw [i_lt, n2i] at c2
    have c3 : 0 ≤ x1.toInt ∧ x1.toInt ≤ 2 := by omega
    rw [if_pos c3, if_pos c3]
    refine weaX_spec (by decide) h.2.2 h.tw (i_90 c3) (by omega) (fun ι1 s1 j1 t1 => alX_spec (by decide) t1 ?_)
    intro r e; cases e
    exact h.town s1 j1 t1 (fun k hk => go_hi h.2.2 hk nd h.tw.2.1.1)
  · rw [i_lt, n2i] at c2
    rw [if_neg (by omega), if_neg (by omega)]; exact h.same
theorem skyM (h : HM nv nd κ) : PC xl n 190 0 [(0, .ref 129), (1, .int x1)] [] κ (MR (skyG nd (rO 0 (κ 130)) x1) (skyR nd (rO 0 (κ 130)) x1) κ) := by
  unfold skyG skyR
  refine (t_190_0 (inL (l := 0) (g := 2) rfl rfl (fun r hr => ?_))).weak
  intro r2 e; cases e
  refine ⟨fun c => ?_, fun c => ?_⟩
  · have c3 : 0 ≤ x1.toInt ∧ x1.toInt ≤ 2 := by false_or_by_contra; rename_i hh; exact c (hr.mpr hh)
    rw [if_pos c3, if_pos c3]
    refine st_M h (fun κ1 g1 g2 g3 g4 g5 g6 g7 => goM_spec (by rw [g3]; exact h.2.2) (i_90 c3) (by omega) g6 h.2.1.1 (fun κ2 k1 k2 => settles_spec (fun κ3 m1 m2 m3 => laM_spec (nd := nd) ?_ h.2.1.1 ?_)))
    · rw [m1 129 (by omega), k2 129 (by omega)]; exact g6
    · intro r e; cases e
      rw [g3] at k1
      rw [m1 131 (by omega), k1]
      exact ⟨rfl, (g1.trans (MG.at131 k2)).trans (MG.se m1 m3), by rw [m2, k1]⟩
  · have c3 := hr.mp c
    rw [if_neg c3, if_neg c3]; exact MR.same MG.rfl rfl
abbrev okD (nd : Nat) (x : Int32) : Prop := 0 ≤ x.toInt ∧ x.toInt < nd
noncomputable def scrF (f : Nat → Int32) (d : Nat) : Nat → Int32 := fs (fs f (16 + 9 * d) (f (16 + 9 * d) - 1)) (17 + 9 * d) 0
noncomputable def scrG (nd : Nat) (f : Nat → Int32) (x : Int32) : Nat → Int32 := if okD nd x ∧ ¬ f (16 + 9 * x.toInt.toNat) = 0 then scrF f x.toInt.toNat else f
noncomputable def scrR (nd : Nat) (f : Nat → Int32) (x : Int32) : Int32 := if okD nd x then (if f (16 + 9 * x.toInt.toNat) = 0 then -2 else shF (scrF f x.toInt.toNat) x.toInt.toNat) else -1
theorem scrW {d : Nat} (hw : WD f d) (h0 : ¬ f (16 + 9 * d) = 0) : 0 ≤ (scrF f d (16 + 9 * d)).toInt ∧ (scrF f d (16 + 9 * d)).toInt ≤ 6 := by
  have h1 := i_nz h0 hw.1.1
  have h6 := hw.1.2
  unfold scrF
  rw [fs_ne (by omega), fs_same, i_sub (by rw [n1]; omega), n1]; omega
theorem scrapeX (h : HX nv nd f ι) : PC xl n 81 0 [(0, .ref 0), (1, .int x1)] [] ι (XR nv nd (scrG nd f x1) (scrR nd f x1) ι) := by
  have h5 := h.tw.2.1.1
  refine (t_81_0 ?_).weak
  rw [rf_0_2']
  unfold scrG scrR
  refine hasDr_spec h.tw.2.1.2 (fun c => ?_) (fun d hd hdl r hr => ?_)
  · intro r e; cases e
    rw [if_neg (fun q => c q.1), if_neg c]
    exact ⟨fun q => absurd rfl q, fun _ => h.same⟩
  · intro r2 e; cases e
    have hD := h.tw.2.2.2 d hdl
    have hW := h.2.2.1 d (by omega)
    obtain ⟨tr1, tr2⟩ := town_d (u := 25) (by decide) (d := d) (by omega)
    have ok : okD nd x1 := by unfold okD; omega
    rw [i_ixn hd, tr1, show x1.toInt.toNat = d by omega, hD.1, if_pos ok]
    refine ⟨fun _ _ _ => ⟨fun c => ?_, fun c => ?_⟩, fun q => absurd q hr⟩
    · have h1 := i_nz c hW.1.1
      obtain ⟨k, hk⟩ : ∃ k : Nat, (f (16 + 9 * d)).toInt = (k + 1 : Nat) := ⟨(f (16 + 9 * d)).toInt.toNat - 1, by omega⟩
      rw [if_pos ⟨ok, c⟩, if_neg c]
      refine loseX_spec hD hk (fun ι1 s1 d1 => ?_)
      have d2 : DX (25 + 7 + 2 * d) d (scrF f d) (up ι1 (25 + 7 + 2 * d) 3 0) := d1.wet
      refine shX_spec tr2 d2 (scrW hW c) ?_
      intro r e; cases e
      have s2 : Sm (25 + 7 + 2 * d) (25 + 7 + 2 * d + 1) ι (up ι1 (25 + 7 + 2 * d) 3 0) := s1.up (by omega)
      refine h.town (s2.wide (by omega) (by omega)) (fun j => s2 _ _ (by omega)) (h.tw.door h.2.2 hdl s2 (fun j hj => ?_) d2) (fun k hk => ?_)
      · unfold scrF; rw [fs_ne (by omega), fs_ne (by omega)]
      · unfold scrF; rw [fs_ne (by omega), fs_ne (by omega)]
    · rw [if_neg (fun q => q.2 c), if_pos c]; exact h.same
theorem scrapeM (h : HM nv nd κ) : PC xl n 194 0 [(0, .ref 129), (1, .int x1)] [] κ (MR (scrG nd (rO 0 (κ 130)) x1) (scrR nd (rO 0 (κ 130)) x1) κ) := by
  have h5 := h.2.1.1
  unfold scrG scrR
  refine (t_194_0 (isD_spec h.2.1.2 h.2.1.1 (fun c => ?_) (fun d hd hdl r hr => ?_))).weak
  · intro r e; cases e
    rw [if_neg (fun q => c q.1), if_neg c]
    exact ⟨fun q => absurd rfl q, fun _ => MR.same MG.rfl rfl⟩
  · intro r2 e; cases e
    have ok : okD nd x1 := by unfold okD; omega
    have hW := h.2.2.1 d (by omega)
    rw [show x1.toInt.toNat = d by omega, if_pos ok]
    refine ⟨fun _ => st_M h (fun κ1 g1 g2 g3 g4 g5 g6 g7 => shM_spec hd (by omega) (by rw [g3]; exact hW.1) ?_), fun q => absurd q hr⟩
    intro r e; cases e
    rw [g3]
    refine ⟨fun c => ofD_spec (m := 16 + 9 * d) hd (by omega) (j := 0) rfl (by omega) (by omega) ?_, fun c => ?_⟩
    · intro r e; cases e
      have c0 : ¬ rO 0 (κ 130) (16 + 9 * d) = 0 := fun e => c (shF_0 e)
      rw [if_pos ⟨ok, c0⟩, if_neg c0]
      refine becD_spec (m := 16 + 9 * d) hd (by omega) (j := 0) rfl (by omega) (by omega) ?_
      refine becD_spec (m := 17 + 9 * d) hd (by omega) (j := 1) rfl (by omega) (by omega) ?_
      have k1 : (up (up κ1 131 (16 + 9 * d) (κ1 131 (16 + 9 * d) - 1)) 131 (17 + 9 * d) 0) 131 = scrF (rO 0 (κ 130)) d := by rw [rowE (rowE g3), g3]; rfl
      refine settles_spec (fun κ3 m1 m2 m3 => shM_spec hd (by omega) ?_ ?_)
      · rw [m1 131 (by omega), k1]; exact scrW hW c0
      · intro r e; cases e
        rw [m1 131 (by omega), k1]
        exact ⟨rfl, (g1.trans (MG.at131 (fun a ha => by rw [up_oth ha, up_oth ha]))).trans (MG.se m1 m3), by rw [m2, k1]⟩
    · have c0 := hW.sh4.mp c
      rw [if_neg (fun q => q.2 c0), if_pos c0]; exact MR.same g1 g2
noncomputable def moF (x : Int32) : Int := if x.toInt = 0 then 3 else if x.toInt = 1 then 5 else if x.toInt = 2 then 99 else 0
abbrev okAl (nv : Nat) (x1 x2 x3 : Int32) : Prop := 0 ≤ x1.toInt ∧ x1.toInt < nv ∧ 0 ≤ x2.toInt ∧ x2.toInt ≤ 3 ∧ 0 ≤ x3.toInt ∧ x3.toInt ≤ moF x2
noncomputable def altG (nv : Nat) (f : Nat → Int32) (x1 x2 x3 : Int32) : Nat → Int32 := if okAl nv x1 x2 x3 then fs f (4 * x1.toInt.toNat + x2.toInt.toNat) x3 else f
noncomputable def altR (nv : Nat) (f : Nat → Int32) (x1 x2 x3 : Int32) : Int32 := if okAl nv x1 x2 x3 then f (4 * x1.toInt.toNat + x2.toInt.toNat) else -1
theorem altX1 {v j : Nat} (h : HX nv nd f ι) (hvl : v < nv) (hj : j < 4) (hr : ι (25 + 2 + v) j = f (4 * v + j)) : XR nv nd (fs f (4 * v + j) x3) (f (4 * v + j)) ι (some (.int (ι (25 + 2 + v) j))) (up ι (25 + 2 + v) j x3) := by
  have h4 := h.tw.1.1
  have hV := h.tw.2.2.1 v hvl
  have s1 : Sm (25 + 2 + v) (25 + 2 + v) ι (up ι (25 + 2 + v) j x3) := Sm.rfl.up (by omega)
  have V1 : VX (25 + 2 + v) v (fs f (4 * v + j) x3) (up ι (25 + 2 + v) j x3) := by
    have e : ∀ k, k < 4 → ι (25 + 2 + v) k = f (4 * v + k) → (up ι (25 + 2 + v) j x3) (25 + 2 + v) k = fs f (4 * v + j) x3 (4 * v + k) := by
      intro k hk hh
      by_cases ek : k = j
      · subst ek; rw [up_same, fs_same]
      · rw [up_ne (by omega), fs_ne (by omega)]; exact hh
    exact ⟨e 0 (by omega) hV.1, e 1 (by omega) hV.2.1, e 2 (by omega) hV.2.2.1, e 3 (by omega) hV.2.2.2⟩
  have := h.town (r := f (4 * v + j)) (s1.wide (by omega) (by omega)) (fun j => s1 _ _ (by omega)) (h.tw.vis h.2.2 hvl s1 (fun k hk => fs_ne (by omega)) V1) (fun k hk => fs_ne (by omega))
  rw [hr]; exact this
theorem alterX (h : HX nv nd f ι) : PC xl n 82 0 [(0, .ref 0), (1, .int x1), (2, .int x2), (3, .int x3)] [] ι (XR nv nd (altG nv f x1 x2 x3) (altR nv f x1 x2 x3) ι) := by
  have h4 := h.tw.1.1
  have t99 : (99 : Int32).toInt = 99 := rfl
  refine (t_82_0 ?_).weak
  rw [rf_0_2']
  unfold altG altR
  refine hasV_spec h.tw.1.2 (fun c => ?_) (fun v hv hvl r hr => ?_)
  · intro r e; cases e
    rw [if_neg (by unfold okAl; omega), if_neg (by unfold okAl; omega)]
    exact ⟨fun _ => h.same, fun q => absurd rfl q⟩
  · intro r2 e; cases e
    have hV := h.tw.2.2.1 v hvl
    rw [i_ixn hv, town_v (u := 25) (by decide) (v := v) (by omega), show x1.toInt.toNat = v by omega]
    have bad : ¬ okAl nv x1 x2 x3 → XR nv nd (if okAl nv x1 x2 x3 then fs f (4 * v + x2.toInt.toNat) x3 else f) (if okAl nv x1 x2 x3 then f (4 * v + x2.toInt.toNat) else -1) ι (some (.int (-1))) ι := fun q => by rw [if_neg q, if_neg q]; exact h.same
    have good : ∀ j : Nat, j < 4 → x2.toInt = j → okAl nv x1 x2 x3 → ι (25 + 2 + v) j = f (4 * v + j) → XR nv nd (if okAl nv x1 x2 x3 then fs f (4 * v + x2.toInt.toNat) x3 else f) (if okAl nv x1 x2 x3 then f (4 * v + x2.toInt.toNat) else -1) ι (some (.int (ι (25 + 2 + v) j))) (up ι (25 + 2 + v) j x3) := fun j hj e q hh => by
      rw [if_pos q, if_pos q, show x2.toInt.toNat = j by omega]; exact altX1 h hvl hj hh
    have l113 : ¬ (x2.toInt = 0 ∧ x3.toInt < 4) → ¬ (x2.toInt = 1 ∧ x3.toInt < 6) → ¬ (x2.toInt = 2 ∧ x3.toInt ≤ 99) → 0 ≤ x3.toInt → ∀ w0 w1 : Value, PC xl n 82 113 [(0, w0), (1, w1), (2, .int x2), (3, .int x3), (4, .ref (25 + 2 + v))] [] ι (XR nv nd (if okAl nv x1 x2 x3 then fs f (4 * v + x2.toInt.toNat) x3 else f) (if okAl nv x1 x2 x3 then f (4 * v + x2.toInt.toNat) else -1) ι) := by
      intro q0 q1 q2 q3 w0 w1
      refine (t_82_113 ⟨fun c => bad ?_, fun c => ⟨fun c2 => bad ?_, fun c2 => ?_⟩⟩).weak
      · rw [i_eq, n3] at c
        unfold okAl moF
        split
        · omega
        · split
          · omega
          · split <;> omega
      · rw [i_eq, n3] at c
        rw [i_eq, n0] at c2
        unfold okAl moF
        rw [if_neg (by omega), if_neg (by omega), if_neg (by omega)]; omega
      · rw [i_eq, n3] at c
        subst c2
        refine good 3 (by omega) c ?_ hV.2.2.2
        unfold okAl moF
        rw [n0, if_neg (by omega), if_neg (by omega), if_neg (by omega)]; omega
    have l86 : ¬ (x2.toInt = 0 ∧ x3.toInt < 4) → ¬ (x2.toInt = 1 ∧ x3.toInt < 6) → 0 ≤ x3.toInt → ∀ w0 w1 : Value, PC xl n 82 86 [(0, w0), (1, w1), (2, .int x2), (3, .int x3), (4, .ref (25 + 2 + v))] [] ι (XR nv nd (if okAl nv x1 x2 x3 then fs f (4 * v + x2.toInt.toNat) x3 else f) (if okAl nv x1 x2 x3 then f (4 * v + x2.toInt.toNat) else -1) ι) := by
      intro q0 q1 q3 w0 w1
      refine (t_82_86 ⟨fun c => l113 q0 q1 ?_ q3 w0 w1, fun c => ⟨fun c2 => l113 q0 q1 ?_ q3 w0 w1, fun c2 => ?_⟩⟩).weak
      · rw [i_eq, n2i] at c; omega
      · rw [i_lt, t99] at c2; omega
      · rw [i_eq, n2i] at c
        rw [i_lt, t99] at c2
        refine good 2 (by omega) c ?_ hV.2.2.1
        unfold okAl moF
        rw [if_neg (by omega), if_neg (by omega), if_pos (by omega)]; omega
    have l59 : ¬ (x2.toInt = 0 ∧ x3.toInt < 4) → 0 ≤ x3.toInt → ∀ w0 w1 : Value, PC xl n 82 59 [(0, w0), (1, w1), (2, .int x2), (3, .int x3), (4, .ref (25 + 2 + v))] [] ι (XR nv nd (if okAl nv x1 x2 x3 then fs f (4 * v + x2.toInt.toNat) x3 else f) (if okAl nv x1 x2 x3 then f (4 * v + x2.toInt.toNat) else -1) ι) := by
      intro q0 q3 w0 w1
      refine (t_82_59 ⟨fun c => l86 q0 ?_ q3 w0 w1, fun c => ⟨fun c2 => l86 q0 ?_ q3 w0 w1, fun c2 => ?_⟩⟩).weak
      · rw [i_eq, n1] at c; omega
      · rw [i_lt, n6] at c2; omega
      · rw [i_eq, n1] at c
        rw [i_lt, n6] at c2
        refine good 1 (by omega) c ?_ hV.2.1
        unfold okAl moF
        rw [if_neg (by omega), if_pos (by omega)]; omega
    refine ⟨fun q => absurd q hr, fun _ => ⟨fun c _ _ => ⟨fun c2 => l59 ?_ ?_ _ _, fun c2 => ⟨fun c3 => l59 ?_ ?_ _ _, fun c3 => ?_⟩⟩, fun c => bad ?_⟩⟩
    · rw [i_eq, n0] at c2; omega
    · rw [i_lt, n0] at c; omega
    · rw [i_lt, n4] at c3; omega
    · rw [i_lt, n0] at c; omega
    · rw [i_lt, n0] at c
      rw [i_eq, n0] at c2
      rw [i_lt, n4] at c3
      refine good 0 (by omega) c2 ?_ hV.1
      unfold okAl moF
      rw [if_pos (by omega)]; omega
    · rw [i_lt, n0] at c
      unfold okAl; omega
theorem becSt {k : Nat} (hk : x1.toInt = k) (h : Q (some (.int (κ 130 k))) (up κ 130 k x2)) : PC xl n 197 0 [(0, .ref 129), (1, .int x1), (2, .int x2)] [] κ Q := by
  refine (t_197_0 (fun _ _ _ _ => ?_)).weak
  rw [rf_129_0, i_ixn hk]; exact h
theorem moM (h : ∀ y : Int32, y.toInt = moF x1 → Q (some (.int y)) κ) : PC xl n 196 0 [(0, .int x1)] [] κ Q := by
  unfold moF at h
  refine (t_196_0 ⟨fun c => ⟨fun c2 => ⟨fun c3 => h 0 ?_, fun c3 => h 99 ?_⟩, fun c2 => h 5 ?_⟩, fun c => h 3 ?_⟩).weak
  · rw [i_eq, n0] at c; rw [i_eq, n1] at c2; rw [i_eq, n2i] at c3
    rw [if_neg c, if_neg c2, if_neg c3]; rfl
  · rw [i_eq, n0] at c; rw [i_eq, n1] at c2; rw [i_eq, n2i] at c3
    rw [if_neg c, if_neg c2, if_pos c3]; rfl
  · rw [i_eq, n0] at c; rw [i_eq, n1] at c2
    rw [if_neg c, if_pos c2]; rfl
  · rw [i_eq, n0] at c
    rw [if_pos c]; rfl
theorem alterM (h : HM nv nd κ) : PC xl n 195 0 [(0, .ref 129), (1, .int x1), (2, .int x2), (3, .int x3)] [] κ (MR (altG nv (rO 0 (κ 130)) x1 x2 x3) (altR nv (rO 0 (κ 130)) x1 x2 x3) κ) := by
  have h4 := h.1.1
  unfold altG altR
  have bad : ¬ okAl nv x1 x2 x3 → MR (if okAl nv x1 x2 x3 then fs (rO 0 (κ 130)) (4 * x1.toInt.toNat + x2.toInt.toNat) x3 else rO 0 (κ 130)) (if okAl nv x1 x2 x3 then rO 0 (κ 130) (4 * x1.toInt.toNat + x2.toInt.toNat) else -1) κ (some (.int (-1))) κ := fun q => by rw [if_neg q, if_neg q]; exact MR.same MG.rfl rfl
  refine (t_195_0 (isV_spec h.1.2 h.1.1 (fun c => ?_) (fun v hv hvl r hr => ?_))).weak
  · intro r e; cases e
    exact ⟨fun _ => bad (by unfold okAl; omega), fun q => absurd rfl q⟩
  · intro r2 e; cases e
    refine ⟨fun q => absurd q hr, fun _ => inL (l := 0) (g := 3) rfl rfl (fun r hr => ?_)⟩
    intro r2 e; cases e
    refine ⟨fun c => bad (by have := hr.mp c; unfold okAl; omega), fun c => moM (fun y hy => ?_)⟩
    have c3 : 0 ≤ x2.toInt ∧ x2.toInt ≤ 3 := by false_or_by_contra; rename_i hh; exact c (hr.mpr hh)
    intro r2 e; cases e
    refine in32 rfl (fun r hr => ?_)
    rw [hy] at hr
    intro r2 e; cases e
    refine ⟨fun c => bad (by have := hr.mp c; unfold okAl; omega), fun c => ?_⟩
    have c4 : 0 ≤ x3.toInt ∧ x3.toInt ≤ moF x2 := by false_or_by_contra; rename_i hh; exact c (hr.mpr hh)
    have ok : okAl nv x1 x2 x3 := by unfold okAl; omega
    rw [if_pos ok, if_pos ok, show x1.toInt.toNat = v by omega]
    refine becSt (k := 4 * v + x2.toInt.toNat) ?_ ?_
    · have e : (4 * x1).toInt = 4 * v := by rw [i_mul (by rw [n4, hv]; omega), n4, hv]
      rw [i_add (by rw [e]; omega), e]; omega
    · intro r e; cases e
      refine ⟨by rw [r_st (by omega)], MG.up0 (by omega) MG.rfl, rO_up (by omega)⟩
noncomputable def ouF (f : Nat → Int32) (x2 x3 : Int32) (d : Nat) : Int32 := if x3 = 0 then f (18 + 9 * d) &&& ((1 <<< (x2 &&& 31)) ^^^ (-1)) else f (18 + 9 * d) ||| (1 <<< (x2 &&& 31))
abbrev okOu (nd : Nat) (x1 x2 : Int32) : Prop := 0 ≤ x1.toInt ∧ x1.toInt < nd ∧ 0 ≤ x2.toInt ∧ x2.toInt ≤ 5
noncomputable def ouG (nd : Nat) (f : Nat → Int32) (x1 x2 x3 : Int32) : Nat → Int32 := if okOu nd x1 x2 then fs f (18 + 9 * x1.toInt.toNat) (ouF f x2 x3 x1.toInt.toNat) else f
noncomputable def ouRX (nd : Nat) (x1 x2 x3 : Int32) : Int32 := if okOu nd x1 x2 then (if x3 = 0 then 0 else 1) else -1
noncomputable def ouRM (nd : Nat) (f : Nat → Int32) (x1 x2 : Int32) : Int32 := if okOu nd x1 x2 then (f (18 + 9 * x1.toInt.toNat) >>> (x2 &&& 31)) &&& 1 else -1
theorem oughtX (h : HX nv nd f ι) : PC xl n 83 0 [(0, .ref 0), (1, .int x1), (2, .int x2), (3, .int x3)] [] ι (XR nv nd (ouG nd f x1 x2 x3) (ouRX nd x1 x2 x3) ι) := by
  have h5 := h.tw.2.1.1
  refine (t_83_0 ?_).weak
  rw [rf_0_2']
  unfold ouG ouRX
  refine hasDr_spec h.tw.2.1.2 (fun c => ?_) (fun d hd hdl r hr => ?_)
  · intro r e; cases e
    rw [if_neg (by unfold okOu; omega), if_neg (by unfold okOu; omega)]
    exact ⟨fun _ => h.same, fun q => absurd rfl q⟩
  · intro r2 e; cases e
    refine ⟨fun q => absurd q hr, fun _ => isCol_spec (fun r hr => ?_)⟩
    intro r2 e; cases e
    refine ⟨fun c _ _ => ?_, fun c => ?_⟩
    · have c2 : 0 ≤ x2.toInt ∧ x2.toInt ≤ 5 := by false_or_by_contra; rename_i hh; exact c (hr.mpr hh)
      have ok : okOu nd x1 x2 := by unfold okOu; omega
      have hD := h.tw.2.2.2 d hdl
      obtain ⟨tr1, tr2⟩ := town_d (u := 25) (by decide) (d := d) (by omega)
      rw [i_ixn hd, tr1, show x1.toInt.toNat = d by omega, if_pos ok, if_pos ok]
      have fin : ∀ y : Int32, y = ouF f x2 x3 d → ∀ r, XR nv nd (fs f (18 + 9 * d) (ouF f x2 x3 d)) r ι (some (.int r)) (up ι (25 + 7 + 2 * d) 2 y) := by
        intro y hy r
        rw [hy]
        have s1 : Sm (25 + 7 + 2 * d) (25 + 7 + 2 * d + 1) ι (up ι (25 + 7 + 2 * d) 2 (ouF f x2 x3 d)) := Sm.rfl.up (by omega)
        refine h.town (s1.wide (by omega) (by omega)) (fun j => s1 _ _ (by omega)) (h.tw.door h.2.2 hdl s1 (fun k hk => fs_ne (by omega)) ⟨?_, ?_, ?_, fun i hi => ?_⟩) (fun k hk => fs_ne (by omega))
        · rw [up_ne (by omega), fs_ne (by omega)]; exact hD.1
        · rw [up_ne (by omega), fs_ne (by omega)]; exact hD.2.1
        · rw [up_same, fs_same]
        · rw [fs_ne (by omega)] at hi
          rw [up_ne (by omega), fs_ne (by omega)]; exact hD.2.2.2 i hi
      refine (t_39_0 ?_).weak
      rw [hD.2.2.1]
      refine ⟨fun c3 => ⟨fun _ => ?_, fun q => absurd c3 q⟩, fun c3 => ⟨fun q => absurd q c3, fun _ => ?_⟩⟩
      · rw [if_pos c3]
        exact fin _ (by unfold ouF; rw [if_pos c3]) 0
      · rw [if_neg c3]
        exact fin _ (by unfold ouF; rw [if_neg c3]) 1
    · rw [if_neg (by have := hr.mp c; unfold okOu; omega), if_neg (by have := hr.mp c; unfold okOu; omega)]; exact h.same
theorem oughtM (h : HM nv nd κ) : PC xl n 198 0 [(0, .ref 129), (1, .int x1), (2, .int x2), (3, .int x3)] [] κ (MR (ouG nd (rO 0 (κ 130)) x1 x2 x3) (ouRM nd (rO 0 (κ 130)) x1 x2) κ) := by
  have h5 := h.2.1.1
  unfold ouG ouRM
  refine (t_198_0 (isD_spec h.2.1.2 h.2.1.1 (fun c => ?_) (fun d hd hdl r hr => ?_))).weak
  · intro r e; cases e
    rw [if_neg (by unfold okOu; omega), if_neg (by unfold okOu; omega)]
    exact ⟨fun _ => MR.same MG.rfl rfl, fun q => absurd rfl q⟩
  · intro r2 e; cases e
    refine ⟨fun q => absurd q hr, fun _ => inL (l := 0) (g := 5) rfl rfl (fun r hr => ?_)⟩
    intro r2 e; cases e
    refine ⟨fun c _ _ => ?_, fun c => ?_⟩
    · have c2 : 0 ≤ x2.toInt ∧ x2.toInt ≤ 5 := by false_or_by_contra; rename_i hh; exact c (hr.mpr hh)
      have ok : okOu nd x1 x2 := by unfold okOu; omega
      rw [rf_129_0, ixD hd (by omega) (j := 2) rfl (by omega), show 16 + 9 * d + 2 = 18 + 9 * d by omega, show x1.toInt.toNat = d by omega, if_pos ok, if_pos ok, ← r_st (h := κ 130) (show 18 + 9 * d < 80 by omega)]
      refine ⟨fun c3 _ _ => ⟨rfl, MG.up0 (by omega) MG.rfl, ?_⟩, fun c3 _ _ => ⟨rfl, MG.up0 (by omega) MG.rfl, ?_⟩⟩
      · rw [rO_up (by omega)]; unfold ouF; rw [if_pos c3]
      · rw [rO_up (by omega)]; unfold ouF; rw [if_neg c3]
    · rw [if_neg (by have := hr.mp c; unfold okOu; omega), if_neg (by have := hr.mp c; unfold okOu; omega)]; exact MR.same MG.rfl rfl
end OpB
end
section
/-! CALLS, III: plans, cut, see, forget -/
/-- counts of THE PLAN, of what was SEEN, in the model -/
noncomputable def HP (κ : IS) : Prop := (0 ≤ (rO 0 (κ 130) 52).toInt ∧ (rO 0 (κ 130) 52).toInt ≤ 8) ∧ 0 ≤ (rO 0 (κ 130) 61).toInt ∧ (rO 0 (κ 130) 61).toInt ≤ 6
abbrev okAct (nv nd : Nat) (z : Int) : Prop := (90 ≤ z ∧ z ≤ 92) ∨ (0 ≤ z ∧ z / 10 < nv ∧ z % 10 < nd)
noncomputable def plG (nv nd : Nat) (f : Nat → Int32) (x : Int32) : Nat → Int32 := if okAct nv nd x.toInt ∧ (f 52).toInt < 8 then fs (fs f (53 + (f 52).toInt.toNat) x) 52 (f 52 + 1) else f
noncomputable def plR (nv nd : Nat) (f : Nat → Int32) (x : Int32) : Int32 := if okAct nv nd x.toInt then (if (f 52).toInt < 8 then f 52 + 1 else -3) else -1
noncomputable def cuG (f : Nat → Int32) (m : Nat) (x : Int32) : Nat → Int32 := if 0 ≤ x.toInt ∧ x.toInt ≤ (f m).toInt then fs f m x else f
noncomputable def cuR (f : Nat → Int32) (m : Nat) (x : Int32) : Int32 := if 0 ≤ x.toInt ∧ x.toInt ≤ (f m).toInt then f m else -1
abbrev okSee (nd : Nat) (x1 x2 x3 : Int32) : Prop := (0 ≤ x1.toInt ∧ x1.toInt < nd) ∧ (0 ≤ x2.toInt ∧ x2.toInt < 6) ∧ ((0 ≤ x3.toInt ∧ x3.toInt ≤ 5) ∨ x3 = -4)
noncomputable def seF (f : Nat → Int32) (c : Nat) (x1 x2 x3 : Int32) : Nat → Int32 := fs (fs (fs (fs f (62 + 3 * c) x1) (63 + 3 * c) x2) (64 + 3 * c) x3) 61 (f 61 + 1)
noncomputable def seG (nd : Nat) (f : Nat → Int32) (x1 x2 x3 : Int32) : Nat → Int32 := if okSee nd x1 x2 x3 ∧ (f 61).toInt < 6 then seF f (f 61).toInt.toNat x1 x2 x3 else f
noncomputable def seR (nd : Nat) (f : Nat → Int32) (x1 x2 x3 : Int32) : Int32 := if okSee nd x1 x2 x3 then (if (f 61).toInt < 6 then f 61 + 1 else -3) else -1
section OpC
variable {xl : List Int32} {n : Nat} {ι ι1 κ κ1 : IS} {nv nd : Nat} {f g : Nat → Int32} {x1 x2 x3 : Int32} {Q : Option Value → IS → Prop} {r : Int32}
theorem rf_24_1 : rf 24 1 = 40 := by decide +kernel
theorem rf_24_3 : rf 24 3 = 41 := by decide +kernel
theorem rf_24_4 : rf 24 4 = 42 := by decide +kernel
theorem rf_24_5 : rf 24 5 = 43 := by decide +kernel
theorem n8 : (8 : Int32).toInt = 8 := rfl
theorem n53 : (53 : Int32).toInt = 53 := rfl
theorem c52 : (52 : Int32).toNatClampNeg = 52 := rfl
theorem c61 : (61 : Int32).toNatClampNeg = 61 := rfl
/-- THE PLAN or what was SEEN is told anew -/
theorem HX.told (h : HX nv nd f ι) (hs : ∀ a j, ¬ (a = 24 ∧ (j = 2 ∨ j = 6)) → ¬ (40 ≤ a ∧ a ≤ 43) → ι1 a j = ι a j) (hg : ∀ k, k < 52 → g k = f k) (hP : PX 24 nv nd g ι1) (hS : SX 24 nd g ι1) : XR nv nd g r ι (some (.int r)) ι1 :=
  ⟨rfl, fun a j g1 g2 g3 => hs a j (by omega) (by omega), by rw [hs 25 4 (by omega) (by omega)]; exact h.2.1, (h.tw.row hg h.2.2).keep (fun a j g1 g2 => hs a j (by omega) (by omega)), hP, hS⟩
theorem plansX (h : HX nv nd f ι) : PC xl n 84 0 [(0, .ref 0), (1, .int x1)] [] ι (XR nv nd (plG nv nd f x1) (plR nv nd f x1) ι) := by
  have h4 := h.tw.1.1
  have h5 := h.tw.2.1.1
  have hP := h.1.2.1
  have hS := h.1.2.2
  have b1 := hP.2.1
  refine (t_84_0 (isAct_spec rfl (fun r hr => ?_))).weak
  rw [rf_0_2', rf_0_2]
  unfold plG plR
  have bad : ¬ okAct nv nd x1.toInt → XR nv nd (if okAct nv nd x1.toInt ∧ (f 52).toInt < 8 then fs (fs f (53 + (f 52).toInt.toNat) x1) 52 (f 52 + 1) else f) (if okAct nv nd x1.toInt then (if (f 52).toInt < 8 then f 52 + 1 else -3) else -1) ι (some (.int (-1))) ι := fun q => by rw [if_neg (fun q2 => q q2.1), if_neg q]; exact h.same
  intro r2 e; cases e
  refine ⟨fun c => bad (fun q => (hr.mp c) ?_), fun c => ?_⟩
  · unfold okAct at q; unfold actP; omega
  have ca : actP x1.toInt := by false_or_by_contra; rename_i hh; exact c (hr.mpr hh)
  have c0 : 0 ≤ x1.toInt := by unfold actP at ca; omega
  refine knows_spec rfl c0 h.tw.1.2 h.tw.2.1.2 (fun r hr2 => ?_)
  intro r2 e; cases e
  refine ⟨fun c2 => ?_, fun c2 => bad (fun q => (hr2.mp c2) ?_)⟩
  · have ck : knP nv nd x1.toInt := by false_or_by_contra; rename_i hh; exact c2 (hr2.mpr hh)
    have ok : okAct nv nd x1.toInt := by unfold okAct; unfold knP at ck; omega
    rw [if_pos ok]
    obtain ⟨q, hq⟩ : ∃ q : Nat, (f 52).toInt = q := ⟨(f 52).toInt.toNat, by omega⟩
    refine (t_43_0 ?_).weak
    rw [rf_24_1, hP.1]
    refine ⟨fun c3 _ _ => ?_, fun c3 => ?_⟩
    · rw [i_lt, n8] at c3
      intro r e; cases e
      refine ⟨fun z => absurd z (by decide), fun _ => ?_⟩
      rw [if_pos ⟨ok, c3⟩, if_pos c3, hq, Int.toNat_natCast, i_ixn hq, up_same, up_ne (by omega), hP.1]
      refine h.told (fun a j g1 g2 => by rw [up_ne (by omega), up_ne (by omega)]) (fun k hk => by rw [fs_ne (by omega), fs_ne (by omega)]) ⟨?_, ?_, fun i hi => ?_⟩ ⟨?_, ?_, fun i hi => ?_⟩
      · rw [up_same, fs_same]
      · rw [fs_same, i_s hq (by omega)]; omega
      · rw [fs_same, i_s hq (by omega)] at hi
        rw [fs_ne (by omega), up_ne (by omega)]
        by_cases e : i = q
        · subst e
          rw [up_same, fs_same]
          exact ⟨rfl, c0, ck⟩
        · rw [up_ne (by omega), fs_ne (by omega)]; exact hP.2.2 i (by omega)
      · rw [up_ne (by omega), up_ne (by omega), fs_ne (by omega), fs_ne (by omega)]; exact hS.1
      · rw [fs_ne (by omega), fs_ne (by omega)]; exact hS.2.1
      · rw [fs_ne (by omega), fs_ne (by omega)] at hi
        rw [up_ne (by omega), up_ne (by omega), up_ne (by omega), up_ne (by omega), up_ne (by omega), up_ne (by omega), fs_ne (by omega), fs_ne (by omega), fs_ne (by omega), fs_ne (by omega), fs_ne (by omega), fs_ne (by omega)]
        exact hS.2.2 i hi
    · rw [i_lt, n8] at c3
      intro r e; cases e
      rw [if_neg (fun q2 => c3 q2.2), if_neg c3]
      exact ⟨fun _ => h.same, fun z => absurd rfl z⟩
  · unfold okAct at q; unfold knP; omega
theorem isActM_spec (h : HM nv nd κ) (hq : ∀ r : Int32, (r = 0 ↔ ¬ okAct nv nd x1.toInt) → Q (some (.int r)) κ) : PC xl n 200 0 [(0, .ref 129), (1, .int x1)] [] κ Q := by
  refine (t_200_0 (inL (l := 90) (g := 92) rfl rfl (fun r hr => ?_))).weak
  intro r2 e; cases e
  refine ⟨fun c => hq 1 ⟨fun z => absurd z (by decide), fun z => ?_⟩, fun c => ⟨fun c2 => hq 0 ⟨fun _ q => ?_, fun _ => rfl⟩, fun c2 => ?_⟩⟩
  · exact absurd (Or.inl (by false_or_by_contra; rename_i hh; exact c (hr.mpr hh))) z
  · rw [i_lt, n0] at c2
    have := hr.mp c
    unfold okAct at q; omega
  · rw [i_lt, n0] at c2
    have c0 : 0 ≤ x1.toInt := by omega
    have ns := hr.mp c
    have ed := i_d10 (x := x1) rfl c0
    have em := i_m10 (x := x1) rfl c0
    refine isV_spec h.1.2 h.1.1 (fun c3 => ?_) (fun v hv hvl r hr => ?_)
    · intro r e; cases e
      refine ⟨fun _ => hq 0 ⟨fun _ q => ?_, fun _ => rfl⟩, fun z => absurd rfl z⟩
      rw [ed] at c3
      unfold okAct at q; omega
    · intro r2 e; cases e
      rw [ed] at hv
      refine ⟨fun z => absurd z hr, fun _ => isD_spec h.2.1.2 h.2.1.1 (fun c3 => ?_) (fun d hd hdl r hr => ?_)⟩
      · intro r e; cases e
        refine ⟨fun _ => hq 0 ⟨fun _ q => ?_, fun _ => rfl⟩, fun z => absurd rfl z⟩
        rw [em] at c3
        unfold okAct at q; omega
      · intro r2 e; cases e
        rw [em] at hd
        refine ⟨fun z => absurd z hr, fun _ => hq 1 ⟨fun z => absurd z (by decide), fun z => absurd (Or.inr ⟨c0, by omega, by omega⟩) z⟩⟩
theorem plansM (h : HM nv nd κ) (hp : HP κ) : PC xl n 199 0 [(0, .ref 129), (1, .int x1)] [] κ (MR (plG nv nd (rO 0 (κ 130)) x1) (plR nv nd (rO 0 (κ 130)) x1) κ) := by
  have b1 := hp.1
  have e52 : rO 0 (κ 130) 52 = κ 130 52 := r_st (by omega)
  unfold plG plR
  refine (t_199_0 (isActM_spec h (fun r hr => ?_))).weak
  intro r2 e; cases e
  rw [rf_129_0, c52, ← e52]
  refine ⟨fun c _ _ => ?_, fun c => ?_⟩
  · have ok : okAct nv nd x1.toInt := by false_or_by_contra; rename_i hh; exact c (hr.mpr hh)
    rw [if_pos ok]
    obtain ⟨q, hq⟩ : ∃ q : Nat, (rO 0 (κ 130) 52).toInt = q := ⟨(rO 0 (κ 130) 52).toInt.toNat, by omega⟩
    refine ⟨fun c2 _ _ _ _ _ _ _ _ => (t_199_52 (fun _ _ => ?_)).weak, fun c2 => ?_⟩
    · have c3 : (rO 0 (κ 130) 52).toInt < 8 := by rw [i_eq, n8] at c2; omega
      have e53 : (53 + rO 0 (κ 130) 52).toInt = (53 + q : Nat) := by rw [i_add (by rw [n53, hq]; omega), n53, hq]; omega
      rw [if_pos ⟨ok, c3⟩, if_pos c3, rf_129_0, c52, up_same, up_ne (by rw [i_ixn e53]; omega), ← e52, i_ixn e53, hq, Int.toNat_natCast]
      refine ⟨rfl, MG.up0 (by omega) (MG.up0 (by omega) MG.rfl), ?_⟩
      rw [rO_up (by omega), rO_up (by omega)]
    · have c3 : ¬ (rO 0 (κ 130) 52).toInt < 8 := by rw [c2, n8]; omega
      rw [if_neg (fun z => c3 z.2), if_neg c3]; exact MR.same MG.rfl rfl
  · have no := hr.mp c
    rw [if_neg (fun z => no z.1), if_neg no]; exact MR.same MG.rfl rfl
theorem cutX (h : HX nv nd f ι) : PC xl n 85 0 [(0, .ref 0), (1, .int x1)] [] ι (XR nv nd (cuG f 52 x1) (cuR f 52 x1) ι) := by
  have hP := h.1.2.1
  have hS := h.1.2.2
  have b1 := hP.2.1
  refine (t_85_0 ?_).weak
  rw [rf_0_2, hP.1]
  unfold cuG cuR
  refine ⟨fun c => ?_, fun c => ⟨fun c2 => ?_, fun c2 => ?_⟩⟩
  · rw [i_lt, n0] at c
    rw [if_neg (by omega), if_neg (by omega)]; exact h.same
  · rw [i_lt, n0] at c
    rw [i_lt] at c2
    rw [if_pos (by omega), if_pos (by omega)]
    refine h.told (fun a j g1 g2 => up_ne (by omega)) (fun k hk => fs_ne (by omega)) ⟨?_, ?_, fun i hi => ?_⟩ ⟨?_, ?_, fun i hi => ?_⟩
    · rw [up_same, fs_same]
    · rw [fs_same]; omega
    · rw [fs_same] at hi
      rw [up_ne (by omega), fs_ne (by omega)]; exact hP.2.2 i (by omega)
    · rw [up_ne (by omega), fs_ne (by omega)]; exact hS.1
    · rw [fs_ne (by omega)]; exact hS.2.1
    · rw [fs_ne (by omega)] at hi
      rw [up_ne (by omega), up_ne (by omega), up_ne (by omega), fs_ne (by omega), fs_ne (by omega), fs_ne (by omega)]; exact hS.2.2 i hi
  · rw [i_lt] at c2
    rw [if_neg (by omega), if_neg (by omega)]; exact h.same
theorem forgetX (h : HX nv nd f ι) : PC xl n 113 0 [(0, .ref 0), (1, .int x1)] [] ι (XR nv nd (cuG f 61 x1) (cuR f 61 x1) ι) := by
  have hP := h.1.2.1
  have hS := h.1.2.2
  have b1 := hS.2.1
  refine (t_113_0 ?_).weak
  rw [rf_0_2, hS.1]
  unfold cuG cuR
  refine ⟨fun c => ?_, fun c => ⟨fun c2 => ?_, fun c2 => ?_⟩⟩
  · rw [i_lt, n0] at c
    rw [if_neg (by omega), if_neg (by omega)]; exact h.same
  · rw [i_lt, n0] at c
    rw [i_lt] at c2
    rw [if_pos (by omega), if_pos (by omega)]
    refine h.told (fun a j g1 g2 => up_ne (by omega)) (fun k hk => fs_ne (by omega)) ⟨?_, ?_, fun i hi => ?_⟩ ⟨?_, ?_, fun i hi => ?_⟩
    · rw [up_ne (by omega), fs_ne (by omega)]; exact hP.1
    · rw [fs_ne (by omega)]; exact hP.2.1
    · rw [fs_ne (by omega)] at hi
      have := hP.2.1.2
      rw [up_ne (by omega), fs_ne (by omega)]; exact hP.2.2 i hi
    · rw [up_same, fs_same]
    · rw [fs_same]; omega
    · rw [fs_same] at hi
      rw [up_ne (by omega), up_ne (by omega), up_ne (by omega), fs_ne (by omega), fs_ne (by omega), fs_ne (by omega)]; exact hS.2.2 i (by omega)
  · rw [i_lt] at c2
    rw [if_neg (by omega), if_neg (by omega)]; exact h.same
theorem cuM1 {m : Nat} (hm : m < 80) (hx : x2.toInt = m) : ∀ r : Int32, (r = 0 ↔ ¬ (0 ≤ x1.toInt ∧ x1.toInt ≤ (rO 0 (κ 130) m).toInt)) → ((r = 0 → MR (cuG (rO 0 (κ 130)) m x1) (cuR (rO 0 (κ 130)) m x1) κ (some (.int (-1))) κ) ∧ (¬ r = 0 → PC xl n 197 0 [(0, .ref 129), (1, .int x2), (2, .int x1)] [] κ (fun v2 κ2 => ∀ r2, v2 = some (.int r2) → MR (cuG (rO 0 (κ 130)) m x1) (cuR (rO 0 (κ 130)) m x1) κ (some (.int r2)) κ2))) := by
  intro r hr
  unfold cuG cuR
  refine ⟨fun c => ?_, fun c => becSt hx ?_⟩
  · have no := hr.mp c
    rw [if_neg no, if_neg no]; exact MR.same MG.rfl rfl
  · have ok : 0 ≤ x1.toInt ∧ x1.toInt ≤ (rO 0 (κ 130) m).toInt := by false_or_by_contra; rename_i hh; exact c (hr.mpr hh)
    intro r e; cases e
    rw [if_pos ok, if_pos ok]
    exact ⟨by rw [r_st hm], MG.up0 hm MG.rfl, rO_up hm⟩
theorem cutM : PC xl n 201 0 [(0, .ref 129), (1, .int x1)] [] κ (MR (cuG (rO 0 (κ 130)) 52 x1) (cuR (rO 0 (κ 130)) 52 x1) κ) := by
  refine (t_201_0 (fun _ _ => ?_)).weak
  rw [rf_129_0, c52, ← r_st (h := κ 130) (show 52 < 80 by omega)]
  refine in32 rfl (fun r hr => ?_)
  intro r2 e; cases e
  exact cuM1 (by omega) rfl r hr
theorem forgetM : PC xl n 218 0 [(0, .ref 129), (1, .int x1)] [] κ (MR (cuG (rO 0 (κ 130)) 61 x1) (cuR (rO 0 (κ 130)) 61 x1) κ) := by
  refine (t_218_0 (fun _ _ => ?_)).weak
  rw [rf_129_0, c61, ← r_st (h := κ 130) (show 61 < 80 by omega)]
  refine in32 rfl (fun r hr => ?_)
  intro r2 e; cases e
  exact cuM1 (by omega) rfl r hr
theorem addSeenX (h : HX nv nd f ι) (ok : okSee nd x1 x2 x3) : PC xl n 112 0 [(0, .ref 24), (1, .int x1), (2, .int x2), (3, .int x3)] [] ι (fun v2 κ2 => ∀ r2, v2 = some (.int r2) → ((r2 = 0 → XR nv nd (seG nd f x1 x2 x3) (seR nd f x1 x2 x3) ι (some (.int (-3))) κ2) ∧ (¬ r2 = 0 → XR nv nd (seG nd f x1 x2 x3) (seR nd f x1 x2 x3) ι (some (.int (κ2 24 6))) κ2))) := by
  have hP := h.1.2.1
  have hS := h.1.2.2
  have b1 := hS.2.1
  have b2 := hP.2.1
  obtain ⟨q, hq⟩ : ∃ q : Nat, (f 61).toInt = q := ⟨(f 61).toInt.toNat, by omega⟩
  unfold seG seR
  rw [if_pos ok]
  refine (t_112_0 ?_).weak
  rw [rf_24_3, rf_24_4, rf_24_5]
  rw [up_ne (by omega), up_ne (by omega), up_ne (by omega), hS.1, i_ixn hq]
  refine ⟨fun c3 _ _ _ _ _ _ => (t_112_41 ?_).weak, fun c3 => ?_⟩
  · rw [i_lt, n6] at c3
    intro r e; cases e
    refine ⟨fun z => absurd z (by decide), fun _ => ?_⟩
    rw [if_pos ⟨ok, c3⟩, if_pos c3, up_same, up_ne (by omega), up_ne (by omega), up_ne (by omega), hS.1, hq, Int.toNat_natCast]
    unfold seF
    refine h.told (fun a j g1 g2 => by rw [up_ne (by omega), up_ne (by omega), up_ne (by omega), up_ne (by omega)]) (fun k hk => by rw [fs_ne (by omega), fs_ne (by omega), fs_ne (by omega), fs_ne (by omega)]) ⟨?_, ?_, fun i hi => ?_⟩ ⟨?_, ?_, fun i hi => ?_⟩
    · rw [up_ne (by omega), up_ne (by omega), up_ne (by omega), up_ne (by omega), fs_ne (by omega), fs_ne (by omega), fs_ne (by omega), fs_ne (by omega)]; exact hP.1
    · rw [fs_ne (by omega), fs_ne (by omega), fs_ne (by omega), fs_ne (by omega)]; exact hP.2.1
    · rw [fs_ne (by omega), fs_ne (by omega), fs_ne (by omega), fs_ne (by omega)] at hi
      rw [up_ne (by omega), up_ne (by omega), up_ne (by omega), up_ne (by omega), fs_ne (by omega), fs_ne (by omega), fs_ne (by omega), fs_ne (by omega)]; exact hP.2.2 i hi
    · rw [up_same, fs_same]
    · rw [fs_same, i_s hq (by omega)]; omega
    · rw [fs_same, i_s hq (by omega)] at hi
      by_cases e : i = q
      · subst e
        rw [up_ne (by omega), up_ne (by omega), up_ne (by omega), up_same, up_ne (by omega), up_ne (by omega), up_same, up_ne (by omega), up_same]
        rw [fs_ne (show ¬ 62 + 3 * i = 61 by omega), fs_ne (show ¬ 62 + 3 * i = 64 + 3 * i by omega), fs_ne (show ¬ 62 + 3 * i = 63 + 3 * i by omega), fs_same, fs_ne (show ¬ 63 + 3 * i = 61 by omega), fs_ne (show ¬ 63 + 3 * i = 64 + 3 * i by omega), fs_same, fs_ne (show ¬ 64 + 3 * i = 61 by omega), fs_same]
        unfold okSee at ok
        exact ⟨rfl, rfl, rfl, ok.1, by omega⟩
      · rw [up_ne (by omega), up_ne (by omega), up_ne (by omega), up_ne (by omega), up_ne (by omega), up_ne (by omega), up_ne (by omega), up_ne (by omega), up_ne (by omega), up_ne (by omega), up_ne (by omega), up_ne (by omega)]
        rw [fs_ne (show ¬ 62 + 3 * i = 61 by omega), fs_ne (show ¬ 62 + 3 * i = 64 + 3 * q by omega), fs_ne (show ¬ 62 + 3 * i = 63 + 3 * q by omega), fs_ne (show ¬ 62 + 3 * i = 62 + 3 * q by omega), fs_ne (show ¬ 63 + 3 * i = 61 by omega), fs_ne (show ¬ 63 + 3 * i = 64 + 3 * q by omega), fs_ne (show ¬ 63 + 3 * i = 63 + 3 * q by omega), fs_ne (show ¬ 63 + 3 * i = 62 + 3 * q by omega), fs_ne (show ¬ 64 + 3 * i = 61 by omega), fs_ne (show ¬ 64 + 3 * i = 64 + 3 * q by omega), fs_ne (show ¬ 64 + 3 * i = 63 + 3 * q by omega), fs_ne (show ¬ 64 + 3 * i = 62 + 3 * q by omega)]
        exact hS.2.2 i (by omega)
  · rw [i_lt, n6] at c3
    intro r e; cases e
    rw [if_neg (fun q2 => c3 q2.2), if_neg c3]
    exact ⟨fun _ => h.same, fun z => absurd rfl z⟩
theorem seeX (h : HX nv nd f ι) : PC xl n 111 0 [(0, .ref 0), (1, .int x1), (2, .int x2), (3, .int x3)] [] ι (XR nv nd (seG nd f x1 x2 x3) (seR nd f x1 x2 x3) ι) := by
  have bad : ¬ okSee nd x1 x2 x3 → XR nv nd (seG nd f x1 x2 x3) (seR nd f x1 x2 x3) ι (some (.int (-1))) ι := fun q => by
    unfold seG seR
    rw [if_neg (fun q2 => q q2.1), if_neg q]; exact h.same
  have l13 : ((0 ≤ x3.toInt ∧ x3.toInt ≤ 5) ∨ x3 = -4) → PC xl n 111 13 [(0, .ref 0), (1, .int x1), (2, .int x2), (3, .int x3)] [] ι (XR nv nd (seG nd f x1 x2 x3) (seR nd f x1 x2 x3) ι) := by
    intro hc
    refine (t_111_13 ?_).weak
    rw [rf_0_2', rf_0_2]
    refine hasDr_spec h.tw.2.1.2 (fun c => ?_) (fun d hd hdl r hr => ?_)
    · intro r e; cases e
      exact ⟨fun _ => bad (fun q => c q.1), fun z => absurd rfl z⟩
    · intro r2 e; cases e
      refine ⟨fun z => absurd z hr, fun _ => ⟨fun c => bad (fun q => ?_), fun c => ⟨fun c2 => bad (fun q => ?_), fun c2 => ⟨fun _ => addSeenX h ⟨by omega, ?_, hc⟩, fun z => absurd z (by decide)⟩⟩⟩⟩
      · rw [i_lt, n0] at c; have := q.2.1; omega
      · rw [i_lt, n6] at c2; have := q.2.1; omega
      · rw [i_lt, n0] at c; rw [i_lt, n6] at c2; omega
  refine (t_111_0 (isCol_spec (fun r hr => ?_))).weak
  intro r2 e; cases e
  refine ⟨fun c => l13 (Or.inl (by false_or_by_contra; rename_i hh; exact c (hr.mpr hh))), fun c => ⟨fun c2 => ?_, fun c2 => l13 (Or.inr c2)⟩⟩
  have no := hr.mp c
  have b9 := bad (fun q => q.2.2.elim no c2)
  rw [rf_0_2', rf_0_2]
  refine hasDr_spec h.tw.2.1.2 (fun c => ?_) (fun d hd hdl r hr => ?_)
  · intro r e; cases e
    exact ⟨fun _ => b9, fun z => absurd rfl z⟩
  · intro r2 e; cases e
    exact ⟨fun z => absurd z hr, fun _ => ⟨fun _ => b9, fun _ => ⟨fun _ => b9, fun _ => ⟨fun z => absurd rfl z, fun _ => b9⟩⟩⟩⟩
theorem seeM (h : HM nv nd κ) (hp : HP κ) : PC xl n 217 0 [(0, .ref 129), (1, .int x1), (2, .int x2), (3, .int x3)] [] κ (MR (seG nd (rO 0 (κ 130)) x1 x2 x3) (seR nd (rO 0 (κ 130)) x1 x2 x3) κ) := by
  have b1 := hp.2
  have e61 : rO 0 (κ 130) 61 = κ 130 61 := r_st (by omega)
  have n62 : (62 : Int32).toInt = 62 := rfl
  unfold seG seR
  have bad : ¬ okSee nd x1 x2 x3 → MR (if okSee nd x1 x2 x3 ∧ (rO 0 (κ 130) 61).toInt < 6 then seF (rO 0 (κ 130)) (rO 0 (κ 130) 61).toInt.toNat x1 x2 x3 else rO 0 (κ 130)) (if okSee nd x1 x2 x3 then (if (rO 0 (κ 130) 61).toInt < 6 then rO 0 (κ 130) 61 + 1 else -3) else -1) κ (some (.int (-1))) κ := fun q => by rw [if_neg (fun q2 => q q2.1), if_neg q]; exact MR.same MG.rfl rfl
  have l40 : okSee nd x1 x2 x3 → PC xl n 217 40 [(0, .ref 129), (1, .int x1), (2, .int x2), (3, .int x3)] [] κ (MR (if okSee nd x1 x2 x3 ∧ (rO 0 (κ 130) 61).toInt < 6 then seF (rO 0 (κ 130)) (rO 0 (κ 130) 61).toInt.toNat x1 x2 x3 else rO 0 (κ 130)) (if okSee nd x1 x2 x3 then (if (rO 0 (κ 130) 61).toInt < 6 then rO 0 (κ 130) 61 + 1 else -3) else -1) κ) := by
    intro ok
    obtain ⟨q, hq⟩ : ∃ q : Nat, (rO 0 (κ 130) 61).toInt = q := ⟨(rO 0 (κ 130) 61).toInt.toNat, by omega⟩
    rw [if_pos ok]
    refine (t_217_40 ?_).weak
    rw [rf_129_0, c61, ← e61]
    refine fun _ _ => ⟨fun c2 _ _ _ _ _ _ => (t_217_87 (fun _ _ _ _ _ _ => (t_217_108 (fun _ _ => ?_)).weak)).weak, fun c2 => ?_⟩
    · have c3 : (rO 0 (κ 130) 61).toInt < 6 := by rw [i_eq, n6] at c2; omega
      have e3 : (3 * rO 0 (κ 130) 61).toInt = 3 * q := by rw [i_mul (by rw [n3, hq]; omega), n3, hq]
      have i0 : (62 + 3 * rO 0 (κ 130) 61).toInt = (62 + 3 * q : Nat) := by rw [i_add (by rw [n62, e3]; omega), n62, e3]; omega
      have i1 : (62 + 3 * rO 0 (κ 130) 61 + 1).toInt = (63 + 3 * q : Nat) := by rw [i_add (by rw [i0, n1]; omega), i0, n1]; omega
      have i2 : (62 + 3 * rO 0 (κ 130) 61 + 2).toInt = (64 + 3 * q : Nat) := by rw [i_add (by rw [i0, n2i]; omega), i0, n2i]; omega
      rw [if_pos ⟨ok, c3⟩, if_pos c3, rf_129_0, c61, i_ixn i0, i_ixn i1, i_ixn i2, up_same, up_ne (by omega), up_ne (by omega), up_ne (by omega), ← e61, hq, Int.toNat_natCast]
      refine ⟨rfl, MG.up0 (by omega) (MG.up0 (by omega) (MG.up0 (by omega) (MG.up0 (by omega) MG.rfl))), ?_⟩
      rw [rO_up (by omega), rO_up (by omega), rO_up (by omega), rO_up (by omega)]
      rfl
    · have c3 : ¬ (rO 0 (κ 130) 61).toInt < 6 := by rw [c2, n6]; omega
      rw [if_neg (fun z => c3 z.2), if_neg c3]; exact MR.same MG.rfl rfl
  refine (t_217_0 (isD_spec h.2.1.2 h.2.1.1 (fun c => ?_) (fun d hd hdl r hr => ?_))).weak
  · intro r e; cases e
    exact ⟨fun _ => bad (fun q => c q.1), fun z => absurd rfl z⟩
  · intro r2 e; cases e
    refine ⟨fun z => absurd z hr, fun _ => inL (l := 0) (g := 5) rfl rfl (fun r hr => ?_)⟩
    intro r2 e; cases e
    refine ⟨fun c => bad (fun q => (hr.mp c) (by have := q.2.1; omega)), fun c => ?_⟩
    have c2 : 0 ≤ x2.toInt ∧ x2.toInt ≤ 5 := by false_or_by_contra; rename_i hh; exact c (hr.mpr hh)
    refine ⟨fun c3 => l40 ⟨by omega, by omega, Or.inr c3⟩, fun c3 => inL (l := 0) (g := 5) rfl rfl (fun r hr => ?_)⟩
    intro r2 e; cases e
    refine ⟨fun c4 => l40 ⟨by omega, by omega, Or.inl (by false_or_by_contra; rename_i hh; exact c4 (hr.mpr hh))⟩, fun c4 => bad (fun q => q.2.2.elim (hr.mp c4) c3)⟩
end OpC
end
section
/-! CALLS, IV: keep, back, sheet, lay, torn, count, fault; feed, end -/
/-- what keep leaves, by the class -/
noncomputable def kpX (nv nd : Nat) (f : Nat → Int32) (x1 : Int32) (ι : IS) (v : Option Value) (ι1 : IS) : Prop := (∃ k : Nat, x1.toInt = k ∧ k < 2 ∧ v = some (.int (if ι 85 k = 0 then 0 else 1)) ∧ (∀ a j, ¬ (45 + 20 * k ≤ a ∧ a ≤ 64 + 20 * k) → ¬ (a = 85 ∧ j = k) → ι1 a j = ι a j) ∧ ι1 85 k = 1 ∧ TO (45 + 20 * k) nv nd f ι1) ∨ (¬ (0 ≤ x1.toInt ∧ x1.toInt < 2) ∧ v = some (.int (-1)) ∧ ι1 = ι)
section OpD
variable {xl : List Int32} {n n2 : Nat} {ι ι1 κ κ1 : IS} {nv nd : Nat} {f g : Nat → Int32} {x1 x2 x3 : Int32} {Q : Option Value → IS → Prop} {r : Int32}
theorem img_at {k : Nat} (hk : k < 2) : re (rf 0 3) k = 45 + 20 * k ∧ isTold (45 + 20 * k) := by
  match k, hk with
  | 0, _ => exact ⟨re_img0, by decide⟩
  | 1, _ => exact ⟨re_img1, by decide⟩
/-- rows copied: to t from s -/
theorem copL {t s : Nat} (hx1 : x1.toInt = t) (hx2 : x2.toInt = s) (ht : t ≤ 160) (hs : s ≤ 160) (hts : s + 80 ≤ t ∨ t + 80 ≤ s) (hq : ∀ κ', (∀ a, ¬ a = 130 → κ' a = κ a) → (∀ j, κ' 130 j = if t ≤ j ∧ j < t + 80 then κ 130 (s + (j - t)) else κ 130 j) → Q none κ') : ∀ (n i : Nat) (κ2 : IS) (x3 : Int32), x3.toInt = i → i ≤ 80 → (∀ a, ¬ a = 130 → κ2 a = κ a) → (∀ j, κ2 130 j = if t ≤ j ∧ j < t + i then κ 130 (s + (j - t)) else κ 130 j) → PC xl n 231 2 [(0, .ref 129), (1, .int x1), (2, .int x2), (3, .int x3)] [] κ2 Q
  | 0, _, _, _, _, _, _, _ => PC.zero
  | n + 1, i, κ2, x3, hx, hi, h1, h2 => by
    refine t_231_2 ⟨fun c => ?_, fun c _ _ _ _ => ?_⟩
    · rw [i_lt, hx, n80] at c
      have : i = 80 := by omega
      subst this
      exact hq κ2 h1 h2
    · rw [i_lt, hx, n80] at c
      have e1 : (x1 + x3).toInt = (t + i : Nat) := by rw [i_add (by rw [hx1, hx]; omega), hx1, hx]; rfl
      have e2 : (x2 + x3).toInt = (s + i : Nat) := by rw [i_add (by rw [hx2, hx]; omega), hx2, hx]; rfl
      rw [rf_129_0, i_ixn e1, i_ixn e2, h2 (s + i), if_neg (by omega)]
      refine copL hx1 hx2 ht hs hts hq n (i + 1) _ (x3 + 1) (i_s hx (by omega)) (by omega) (fun a ha => by rw [up_oth ha]; exact h1 a ha) (fun j => ?_)
      by_cases e : j = t + i
      · subst e
        rw [up_same, if_pos (by omega), show t + i - t = i by omega]
      · rw [up_ne (by omega), h2 j]
        by_cases g : t ≤ j ∧ j < t + i
        · rw [if_pos g, if_pos (by omega)]
        · rw [if_neg g, if_neg (by omega)]
theorem cop_spec {t s : Nat} (hx1 : x1.toInt = t) (hx2 : x2.toInt = s) (ht : t ≤ 160) (hs : s ≤ 160) (hts : s + 80 ≤ t ∨ t + 80 ≤ s) (hq : ∀ κ', (∀ a, ¬ a = 130 → κ' a = κ a) → (∀ j, κ' 130 j = if t ≤ j ∧ j < t + 80 then κ 130 (s + (j - t)) else κ 130 j) → Q none κ') : PC xl n 231 0 [(0, .ref 129), (1, .int x1), (2, .int x2)] [] κ Q :=
  (t_231_0 (copL hx1 hx2 ht hs hts hq n 0 κ 0 rfl (Nat.zero_le _) (fun _ _ => rfl) (fun j => by rw [if_neg (by omega)]))).weak
theorem i_80 {k : Nat} (hk : x1.toInt = k) (h2 : k < 2) : (80 * (x1 + 1)).toInt = (80 * (k + 1) : Nat) := by
  have e := i_s hk (by omega)
  rw [i_mul (by rw [n80, e]; omega), n80, e]; rfl
/-- an image is kept -/
theorem keep_call (h : RN nv nd ι κ) (w : WW κ) : CALL xl n n2 130 230 [(0, .ref 0), (1, .int x1)] [(0, .ref 129), (1, .int x1)] (fun v1 v2 => v1 = v2) ι κ := by
  have hx := h.hx w
  have key : PC xl n 130 0 [(0, .ref 0), (1, .int x1)] [] ι (kpX nv nd (rO 0 (κ 130)) x1 ι) := by
    refine (t_130_0 ⟨fun c => ?_, fun c => ⟨fun c2 _ _ => ?_, fun c2 => ?_⟩⟩).weak
    · rw [i_lt, n0] at c
      exact Or.inr ⟨by omega, rfl, rfl⟩
    · rw [i_lt, n0] at c
      rw [i_lt, n2i] at c2
      obtain ⟨k, hk⟩ : ∃ k : Nat, x1.toInt = k := ⟨x1.toInt.toNat, by omega⟩
      have hk2 : k < 2 := by omega
      obtain ⟨e1, e2⟩ := img_at hk2
      rw [rf_0_4, rf_0_2, i_ixn hk, e1, show vp_nar .boolean 1 = 1 from rfl]
      have fin : ∀ (ι1 : IS) (y : Int32), (y = if ι 85 k = 0 then 0 else 1) → Sm (45 + 20 * k) (45 + 20 * k + 19) ι ι1 → TO (45 + 20 * k) nv nd (rO 0 (κ 130)) ι1 → kpX nv nd (rO 0 (κ 130)) x1 ι (some (.int y)) (up ι1 85 k 1) := fun ι1 y hy s1 t1 =>
        Or.inl ⟨k, hk, hk2, by rw [hy], fun a j g1 g2 => by rw [up_ne (by omega)]; exact s1 a j (by omega), up_same _ _ _ _, t1.keep (fun a j g1 g2 => up_ne (by omega))⟩
      refine ⟨fun e _ _ => tolB_spec e2 (by decide) (by omega) w.1.hb hx.1 (fun ι1 s1 t1 _ _ _ => ?_), fun e _ _ => tolB_spec e2 (by decide) (by omega) w.1.hb hx.1 (fun ι1 s1 t1 _ _ _ => ?_)⟩
      · exact fin ι1 0 (by rw [if_pos e]) s1 t1
      · exact fin ι1 1 (by rw [if_neg e]) s1 t1
    · rw [i_lt, n2i] at c2
      exact Or.inr ⟨by omega, rfl, rfl⟩
  refine PC.imp key (fun v1 ι1 g1 => ?_)
  refine (t_230_0 (inL (l := 0) (g := 1) rfl rfl (fun r hr => ?_))).weak
  intro r2 e; cases e
  refine ⟨fun c _ _ => ?_, fun c => ?_⟩
  · have c2 : 0 ≤ x1.toInt ∧ x1.toInt ≤ 1 := by false_or_by_contra; rename_i hh; exact c (hr.mpr hh)
    rcases g1 with ⟨k, hk, hk2, q1, q2, q3, q4⟩ | ⟨q0, -⟩
    · have fin : ∀ y : Int32, (y = if κ 132 k = 0 then 0 else 1) → ∀ κ3 : IS, (∀ a, ¬ a = 130 → κ3 a = (up κ 132 k 1) a) → (∀ j, κ3 130 j = if 80 * (k + 1) ≤ j ∧ j < 80 * (k + 1) + 80 then (up κ 132 k 1) 130 (0 + (j - 80 * (k + 1))) else (up κ 132 k 1) 130 j) → v1 = some (Value.int y) ∧ RRel ι1 κ3 := by
        intro y hy κ3 m1 m2
        obtain ⟨⟨a1, a2⟩, ⟨b1, b2⟩, ⟨c1, c3⟩, dd, ee, gg⟩ := h
        have o130 : (up κ 132 k 1) 130 = κ 130 := up_oth (by omega)
        have o129 : κ3 129 = κ 129 := by rw [m1 129 (by omega)]; exact up_oth (by omega)
        rw [o130] at m2
        have f0 : rO 0 (κ3 130) = rO 0 (κ 130) := by
          funext j
          unfold rO
          split
          · rw [m2, if_neg (by omega)]
          · rfl
        refine ⟨by rw [q1, hy, (dd k hk2).1], nv, nd, ⟨a1, by rw [o129]; exact a2⟩, ⟨b1, by rw [o129]; exact b2⟩, ⟨by rw [f0]; exact c1.keep (fun a j g1 g2 => q2 a j (by omega) (by omega)), by rw [q2 25 4 (by omega) (by omega)]; exact c3⟩, fun q hq => ?_, ?_, ?_⟩
        · by_cases e : q = k
          · subst e
            rw [q3, m1 132 (by omega), up_same]
            refine ⟨rfl, fun _ => ?_⟩
            have : rO (80 * (q + 1)) (κ3 130) = rO 0 (κ 130) := by
              funext j
              unfold rO
              split
              · rw [m2, if_pos (by omega), show 0 + (80 * (q + 1) + j - 80 * (q + 1)) = 0 + j by omega]
              · rfl
            rw [this]; exact q4
          · rw [q2 85 q (by omega) (by omega), m1 132 (by omega), up_ne (by omega)]
            refine ⟨(dd q hq).1, fun z => ?_⟩
            have : rO (80 * (q + 1)) (κ3 130) = rO (80 * (q + 1)) (κ 130) := by
              funext j
              unfold rO
              split
              · rw [m2, if_neg (by omega)]
              · rfl
            rw [this]; exact ((dd q hq).2 z).keep (fun a j g1 g2 => q2 a j (by omega) (by omega))
        · exact ee.keep (fun a j g1 g2 => q2 a j (by omega) (by omega)) (q2 0 10 (by omega) (by omega)) ⟨by rw [m1 137 (by omega)]; exact up_oth (by omega), by rw [m1 138 (by omega)]; exact up_oth (by omega), by rw [m1 139 (by omega)]; exact up_oth (by omega)⟩ (by rw [o129])
        · exact gg.keep (fun a j g1 g2 => q2 a j (by omega) (by omega)) (by rw [o129]) (by rw [m1 135 (by omega)]; exact up_oth (by omega))
      rw [rf_129_2, i_ixn hk, show vp_nar .boolean 1 = 1 from rfl]
      refine (t_175_0 ⟨fun e => ?_, fun e => ?_⟩).weak
      · intro r2 e2 _ _; cases e2
        exact cop_spec (s := 0) (i_80 hk hk2) rfl (by omega) (by omega) (by omega) (fun κ3 m1 m2 => fin 0 (by rw [if_pos e]) κ3 m1 m2)
      · intro r2 e2 _ _; cases e2
        exact cop_spec (s := 0) (i_80 hk hk2) rfl (by omega) (by omega) (by omega) (fun κ3 m1 m2 => fin 1 (by rw [if_neg e]) κ3 m1 m2)
    · omega
  · have no := hr.mp c
    rcases g1 with ⟨k, hk, hk2, -⟩ | ⟨-, q1, q2⟩
    · omega
    · rw [q2]; exact ⟨q1, nv, nd, h⟩
theorem WW.img (w : WW κ) {k : Nat} (hk : k < 2) : WF (rO (80 * (k + 1)) (κ 130)) := by
  match k, hk with
  | 0, _ => exact w.2.1
  | 1, _ => exact w.2.2
noncomputable def baG (κ : IS) (x : Int32) : Nat → Int32 := if 0 ≤ x.toInt ∧ x.toInt < 2 ∧ ¬ κ 132 x.toInt.toNat = 0 then rO (80 * (x.toInt.toNat + 1)) (κ 130) else rO 0 (κ 130)
noncomputable def baR (nd : Nat) (κ : IS) (x : Int32) : Int32 := if 0 ≤ x.toInt ∧ x.toInt < 2 then (if κ 132 x.toInt.toNat = 0 then -2 else alF (rO (80 * (x.toInt.toNat + 1)) (κ 130)) nd) else -1
theorem backX (h : RN nv nd ι κ) (w : WW κ) : PC xl n 131 0 [(0, .ref 0), (1, .int x1)] [] ι (XR nv nd (baG κ x1) (baR nd κ x1) ι) := by
  have hx := h.hx w
  unfold baG baR
  refine (t_131_0 ?_).weak
  rw [rf_0_2', rf_0_2, rf_0_4]
  refine ⟨fun c => ?_, fun c => ⟨fun c2 _ _ => ?_, fun c2 => ?_⟩⟩
  · rw [i_lt, n0] at c
    rw [if_neg (by omega), if_neg (by omega)]; exact hx.same
  · rw [i_lt, n0] at c
    rw [i_lt, n2i] at c2
    obtain ⟨k, hk⟩ : ∃ k : Nat, x1.toInt = k := ⟨x1.toInt.toNat, by omega⟩
    have hk2 : k < 2 := by omega
    obtain ⟨e1, e2⟩ := img_at hk2
    have hd := h.2.2.2.1 k hk2
    rw [i_ixn hk, e1, hd.1, show x1.toInt.toNat = k by omega, if_pos (show 0 ≤ x1.toInt ∧ x1.toInt < 2 by omega)]
    refine ⟨fun c3 _ _ => tolB_spec (by decide) e2 (by omega) (w.img hk2).hb (hd.2 c3) (fun ι1 s1 t1 b1 => alX_spec (by decide) t1.1 ?_), fun c3 => ?_⟩
    · intro r e; cases e
      rw [if_pos ⟨by omega, by omega, c3⟩, if_neg c3]
      exact ⟨rfl, CG.of s1 (by omega), b1, t1⟩
    · rw [if_neg (fun z => z.2.2 c3), if_pos c3]; exact hx.same
  · rw [i_lt, n2i] at c2
    rw [if_neg (by omega), if_neg (by omega)]; exact hx.same
theorem backM (h : RN nv nd ι κ) (w : WW κ) : PC xl n 232 0 [(0, .ref 129), (1, .int x1)] [] κ (MR (baG κ x1) (baR nd κ x1) κ) := by
  unfold baG baR
  refine (t_232_0 (inL (l := 0) (g := 1) rfl rfl (fun r hr => ?_))).weak
  intro r2 e; cases e
  refine ⟨fun c _ _ => ?_, fun c => ?_⟩
  · have c2 : 0 ≤ x1.toInt ∧ x1.toInt ≤ 1 := by false_or_by_contra; rename_i hh; exact c (hr.mpr hh)
    obtain ⟨k, hk⟩ : ∃ k : Nat, x1.toInt = k := ⟨x1.toInt.toNat, by omega⟩
    have hk2 : k < 2 := by omega
    rw [rf_129_2, i_ixn hk, show x1.toInt.toNat = k by omega, if_pos (show 0 ≤ x1.toInt ∧ x1.toInt < 2 by omega)]
    refine ⟨fun c3 => cop_spec (t := 0) rfl (i_80 hk hk2) (by omega) (by omega) (by omega) (fun κ1 m1 m2 => ?_), fun c3 => ?_⟩
    · have f0 : rO 0 (κ1 130) = rO (80 * (k + 1)) (κ 130) := by
        funext j
        unfold rO
        split
        · rw [m2, if_pos (by omega), show 80 * (k + 1) + (0 + j - 0) = 80 * (k + 1) + j by omega]
        · rfl
      have g0 : MG κ κ1 := MG.se m1 (fun j hj => by rw [m2, if_neg (by omega)])
      have hM : HM nv nd κ1 := ⟨⟨h.1.1, by rw [m1 129 (by omega)]; exact h.1.2⟩, ⟨h.2.1.1, by rw [m1 129 (by omega)]; exact h.2.1.2⟩, by rw [f0]; exact w.img hk2⟩
      refine st_M hM (fun κ2 g1 g2 g3 g4 g5 g6 g7 => laM_spec (nd := nd) g6 h.2.1.1 ?_)
      intro r e; cases e
      rw [if_pos ⟨by omega, by omega, c3⟩, if_neg c3, g3, f0]
      exact ⟨rfl, g0.trans g1, by rw [g2, f0]⟩
    · rw [if_neg (fun z => z.2.2 c3), if_pos c3]; exact MR.same MG.rfl rfl
  · have no := hr.mp c
    rw [if_neg (by omega), if_neg (by omega)]; exact MR.same MG.rfl rfl
theorem back_call (h : RN nv nd ι κ) (w : WW κ) : CALL xl n n2 131 232 [(0, .ref 0), (1, .int x1)] [(0, .ref 129), (1, .int x1)] (fun v1 v2 => v1 = v2) ι κ := call_of h (backX h w) (backM h w)
theorem torn_call (h : RN nv nd ι κ) : CALL xl n n2 142 237 [(0, .ref 0)] [(0, .ref 129)] (fun v1 v2 => v1 = v2) ι κ :=
  (t_142_0 ((t_237_0 ⟨by rw [h.2.2.2.2.1.2], nv, nd, h⟩).weak)).weak
theorem fault_call (h : RN nv nd ι κ) : CALL xl n n2 55 166 [(0, .ref 0)] [(0, .ref 129)] (fun _ _ => True) ι κ :=
  (t_55_0 ((t_166_0 ⟨trivial, nv, nd, h⟩).weak)).weak
theorem re_sh {k : Nat} (hk : k < 4) : re (rf 0 8) k = 121 + 2 * k ∧ rf (121 + 2 * k) 0 = 122 + 2 * k := by
  match k, hk with
  | 0, _ => exact ⟨by decide +kernel, by decide +kernel⟩
  | 1, _ => exact ⟨by decide +kernel, by decide +kernel⟩
  | 2, _ => exact ⟨by decide +kernel, by decide +kernel⟩
  | 3, _ => exact ⟨by decide +kernel, by decide +kernel⟩
theorem rf_129_28 : rf 129 28 = 137 := by decide +kernel
theorem rf_129_29 : rf 129 29 = 138 := by decide +kernel
theorem rf_129_30 : rf 129 30 = 139 := by decide +kernel
theorem count_call (h : RN nv nd ι κ) (w : WW κ) : CALL xl n n2 143 238 [(0, .ref 0), (1, .int x1)] [(0, .ref 129), (1, .int x1)] (fun v1 v2 => v1 = v2) ι κ := by
  have hx := h.hx w
  have hm := h.hm w
  obtain ⟨b, L, hX, hM⟩ := h.2.2.2.2.2
  have i0 := h.2.2.2.1 0 (by omega)
  have i1 := h.2.2.2.1 1 (by omega)
  have s0 := h.2.2.2.2.1.1 0 (by omega)
  have key : ∀ v : Option Value, (∀ κ1 : IS, MG κ κ1 → κ1 130 = κ 130 → κ1 131 = rO 0 (κ 130) → (κ1 129 4).toInt = nd → (((x1.toInt = 0 → PC xl n2 193 0 [(0, .ref 129)] [] κ1 (fun v2 κ2 => ∀ r2, v2 = some (.int r2) → v = some (.int r2) ∧ RRel ι κ2)) ∧ (x1.toInt = 1 → v = some (.int (κ1 130 61))) ∧ (x1.toInt = 2 → v = some (.int ((if κ1 132 0 = 0 then 0 else 1) + (if κ1 132 1 = 0 then 0 else 1)))) ∧ (x1.toInt = 3 → v = some (.int (κ1 129 13))) ∧ (x1.toInt = 4 → v = some (.int (if κ1 137 0 = -4 then -4 else κ1 138 0))) ∧ ((x1.toInt < 0 ∨ 4 < x1.toInt) → v = some (.int (-1)))))) → PC xl n2 238 0 [(0, .ref 129), (1, .int x1)] [] κ (fun v2 κ1 => v = v2 ∧ RRel ι κ1) := by
    intro v hv
    refine (t_238_0 (st_M hm (fun κ1 g1 g2 g3 g4 g5 g6 g7 => ?_))).weak
    have hR : RRel ι κ1 := ⟨nv, nd, h.town CG.rfl g1 h.2.2.1.2 (by rw [g2]; exact h.2.2.1.1)⟩
    obtain ⟨q0, q1, q2, q3, q4, q5⟩ := hv κ1 g1 g2 g3 g6
    rw [rf_129_0, rf_129_2, rf_129_28, rf_129_29, c61, show (0 : Int32).toNatClampNeg = 0 from rfl, show (1 : Int32).toNatClampNeg = 1 from rfl]
    refine ⟨fun c => q0 c, fun c _ _ => ⟨q1 c, hR⟩, fun c _ _ => ?_, fun c => ⟨q3 c, hR⟩, fun c _ _ => ⟨fun c2 _ _ => ⟨?_, hR⟩, fun c2 => ⟨?_, hR⟩⟩, fun c => ⟨q5 c, hR⟩⟩
    · have q := q2 c
      have flag : ∀ (y : Int32) {Q2 : Option Value → IS → Prop}, Q2 (some (.int (if y = 0 then 0 else 1))) κ1 → PC xl n2 175 0 [(0, .int y)] [] κ1 Q2 := by
        intro y Q2 hq
        refine (t_175_0 ⟨fun e => ?_, fun e => ?_⟩).weak
        · rw [if_pos e] at hq; exact hq
        · rw [if_neg e] at hq; exact hq
      refine flag _ ?_
      intro r e _ _; cases e
      refine flag _ ?_
      intro r e; cases e
      exact ⟨q, hR⟩
    · rw [q4 c, if_neg c2]
    · rw [q4 c, if_pos c2]
  have m132 : ∀ κ1 : IS, MG κ κ1 → κ1 132 = κ 132 ∧ κ1 137 = κ 137 ∧ κ1 138 = κ 138 ∧ κ1 129 13 = κ 129 13 := fun κ1 g => ⟨g.1 132 (by omega) (by omega) (by omega) (by omega) (by omega), g.1 137 (by omega) (by omega) (by omega) (by omega) (by omega), g.1 138 (by omega) (by omega) (by omega) (by omega) (by omega), g.2.1 13 (by omega)⟩
  refine (t_143_0 ?_).weak
  rw [rf_0_2', rf_0_2, rf_0_4, rf_0_1, show (0 : Int32).toNatClampNeg = 0 from rfl, show (1 : Int32).toNatClampNeg = 1 from rfl, (re_sh (k := 0) (by omega)).1]
  refine ⟨fun c => alX_spec (by decide) hx.tw ?_, fun c => key _ (fun κ1 g1 g2 g3 g4 => ?_), fun c _ _ => ?_, fun c => key _ (fun κ1 g1 g2 g3 g4 => ?_), fun c _ _ => ⟨fun c2 _ _ => key _ (fun κ1 g1 g2 g3 g4 => ?_), fun c2 => key _ (fun κ1 g1 g2 g3 g4 => ?_)⟩, fun c => key _ (fun κ1 g1 g2 g3 g4 => ?_)⟩
  · intro r e; cases e
    refine key _ (fun κ1 g1 g2 g3 g4 => ⟨fun _ => laM_spec g4 h.2.1.1 ?_, fun z => by omega, fun z => by omega, fun z => by omega, fun z => by omega, fun z => by omega⟩)
    intro r e; cases e
    rw [g3]
    exact ⟨rfl, nv, nd, h.town CG.rfl g1 h.2.2.1.2 (by rw [g2]; exact h.2.2.1.1)⟩
  · refine ⟨fun z => by omega, fun _ => ?_, fun z => by omega, fun z => by omega, fun z => by omega, fun z => by omega⟩
    rw [g2, hx.1.2.2.1, r_st (by omega)]
  · have fin : ∀ y : Int32, y = (if κ 132 0 = 0 then 0 else 1) + (if κ 132 1 = 0 then 0 else 1) → PC xl n2 238 0 [(0, .ref 129), (1, .int x1)] [] κ (fun v2 κ1 => some (.int y) = v2 ∧ RRel ι κ1) := fun y hy => key _ (fun κ1 g1 g2 g3 g4 => ⟨fun z => by omega, fun z => by omega, fun _ => by rw [(m132 κ1 g1).1, hy], fun z => by omega, fun z => by omega, fun z => by omega⟩)
    rw [i0.1, i1.1]
    refine ⟨fun c2 _ _ => ⟨fun c3 => fin _ ?_, fun c3 => fin _ ?_⟩, fun c2 _ _ => ⟨fun c3 => fin _ ?_, fun c3 => fin _ ?_⟩⟩
    · rw [if_pos c2, if_pos c3]
    · rw [if_pos c2, if_neg c3]
    · rw [if_neg c2, if_pos c3]
    · rw [if_neg c2, if_neg c3]
  · refine ⟨fun z => by omega, fun z => by omega, fun z => by omega, fun _ => ?_, fun z => by omega, fun z => by omega⟩
    rw [(m132 κ1 g1).2.2.2, i_eq.mpr (hX.2.1.trans hM.2.1.symm)]
  · refine ⟨fun z => by omega, fun z => by omega, fun z => by omega, fun z => by omega, fun _ => ?_, fun z => by omega⟩
    rw [s0.1] at c2
    rw [(m132 κ1 g1).2.1, (m132 κ1 g1).2.2.1, if_neg c2, s0.2.1]
  · refine ⟨fun z => by omega, fun z => by omega, fun z => by omega, fun z => by omega, fun _ => ?_, fun z => by omega⟩
    rw [s0.1] at c2
    rw [(m132 κ1 g1).2.1, (m132 κ1 g1).2.2.1, if_pos c2]
  · exact ⟨fun z => by omega, fun z => by omega, fun z => by omega, fun z => by omega, fun z => by omega, fun _ => rfl⟩
/-- a byte is fed, bytes are cut off -/
theorem RN.tape (h : RN nv nd ι κ) (h1 : ∀ a j, ¬ (22 ≤ a ∧ a ≤ 23) → ι1 a j = ι a j) (h2 : ∀ a j, ¬ (a = 129 ∧ j = 13) → ¬ a = 135 → κ1 a j = κ a j) (hB : RB ι1 κ1) : RN nv nd ι1 κ1 := by
  obtain ⟨⟨a1, a2⟩, ⟨b1, b2⟩, ⟨c1, c3⟩, dd, ee, gg⟩ := h
  have r130 : κ1 130 = κ 130 := funext (fun j => h2 130 j (by omega) (by omega))
  refine ⟨⟨a1, by rw [h2 129 3 (by omega) (by omega)]; exact a2⟩, ⟨b1, by rw [h2 129 4 (by omega) (by omega)]; exact b2⟩, ⟨by rw [r130]; exact c1.keep (fun a j g1 g2 => h1 a j (by omega)), by rw [h1 25 4 (by omega)]; exact c3⟩, ?_, ?_, hB⟩
  · exact dd.keep (fun a j g1 g2 => h1 a j (by omega)) (funext (fun j => h2 132 j (by omega) (by omega))) (fun j _ => by rw [r130])
  · exact ee.keep (fun a j g1 g2 => h1 a j (by omega)) (h1 0 10 (by omega)) ⟨funext (fun j => h2 137 j (by omega) (by omega)), funext (fun j => h2 138 j (by omega) (by omega)), funext (fun j => h2 139 j (by omega) (by omega))⟩ (h2 129 31 (by omega) (by omega))
theorem feed_call (h : RN nv nd ι κ) : CALL xl n n2 10 147 [(0, .ref 0), (1, .int x1)] [(0, .ref 129), (1, .int x1)] (fun _ _ => True) ι κ := by
  obtain ⟨b, L, hX, hM⟩ := h.2.2.2.2.2
  refine feedX hX.2.1 (fun h1 h2 h3 ι' h4 h5 h6 v => feedM hM.2.1 hM.1 (fun _ _ _ κ' k4 k5 k6 v2 => ⟨trivial, nv, nd, h.tape (fun a j g => h4 a j (by omega) (by omega)) (fun a j g1 g2 => k4 a j g1 (by omega)) ?_⟩) (fun c _ => absurd ⟨h1, h2, h3⟩ c)) (fun c v => feedM hM.2.1 hM.1 (fun h1 h2 h3 _ _ _ _ _ => absurd ⟨h1, h2, h3⟩ c) (fun _ _ => ⟨trivial, nv, nd, h⟩))
  refine ⟨fun q => if q = L then x1.toInt else b q, L + 1, ⟨by omega, h5, fun q => ?_⟩, ⟨by omega, k5, fun q => ?_, fun q => ?_⟩⟩
  · show _ = if q = L then x1.toInt else b q
    split
    · rename_i e; rw [e, h6]
    · rw [h4 23 q (by omega) (by omega)]; exact hX.2.2 q
  · show _ = if q = L then x1.toInt else b q
    split
    · rename_i e; rw [e, k6]
    · rw [k4 135 q (by omega) (by omega)]; exact hM.2.2.1 q
  · show 0 ≤ if q = L then x1.toInt else b q
    split
    · exact h1
    · exact hM.2.2.2 q
theorem end_call (h : RN nv nd ι κ) : CALL xl n n2 12 149 [(0, .ref 0), (1, .int x1)] [(0, .ref 129), (1, .int x1)] (fun _ _ => True) ι κ := by
  obtain ⟨b, L, hX, hM⟩ := h.2.2.2.2.2
  refine endXs hX.2.1 (fun h1 h2 v => endMs hM.2.1 (fun _ _ v2 => ⟨trivial, nv, nd, h.tape (fun a j g => up_ne (by omega)) (fun a j g1 g2 => up_ne g1) ?_⟩) (fun c _ => absurd ⟨h1, h2⟩ c)) (fun c v => endMs hM.2.1 (fun h1 h2 _ => absurd ⟨h1, h2⟩ c) (fun _ _ => ⟨trivial, nv, nd, h⟩))
  have hn : ((x1.toInt.toNat : Nat) : Int) = x1.toInt := Int.toNat_of_nonneg h1
  have hl := hX.1
  refine ⟨b, x1.toInt.toNat, ⟨by omega, ?_, fun q => ?_⟩, ⟨by omega, ?_, fun q => ?_, hM.2.2.2⟩⟩
  · rw [up_same, hn]
  · rw [up_ne (by omega)]; exact hX.2.2 q
  · rw [up_same, hn]
  · rw [up_ne (by omega)]; exact hM.2.2.1 q
end OpD
end
