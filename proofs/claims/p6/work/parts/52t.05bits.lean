/-! TOWNS, VI: sums and bits over DOORS and VISITORS -/
/-- bits of what comes ahead -/
def oF (g : Nat → Int32) : Nat → Int32
  | 0 => 0
  | d + 1 => oF g d ||| g d
/-- whether DOOR d is WRONG -/
def wrB (f : Nat → Int32) (d : Nat) : Int32 := if f (16 + 9 * d) = 0 then 0 else if ((f (18 + 9 * d) >>> (shF f d &&& 31)) &&& 1) = 1 then 1 else 0
def wrF (f : Nat → Int32) (nd : Nat) : Int32 := oF (fun d => wrB f d <<< (Int32.ofNat d &&& 31)) nd
def weF (f : Nat → Int32) (nd : Nat) : Int32 := oF (fun d => f (17 + 9 * d) <<< (Int32.ofNat d &&& 31)) nd
def ptF (f : Nat → Int32) (nv : Nat) : Int32 := sF (fun v => f (4 * v + 2)) nv
def alF (f : Nat → Int32) (nd : Nat) : Int32 := sF (fun d => f (16 + 9 * d)) nd
/-- whether one of the first m LAYERS of DOOR d is x -/
def hlF (f : Nat → Int32) (d : Nat) (x : Int32) : Nat → Int32
  | 0 => 0
  | m + 1 => if hlF f d x m = 0 then (if f (19 + 9 * d + m) = x then 1 else 0) else 1
def rdF (f : Nat → Int32) (nd v : Nat) : Int32 := oF (fun d => hlF f d (owF f v) (f (16 + 9 * d)).toInt.toNat <<< (Int32.ofNat d &&& 31)) nd
section Bits
variable {xl : List Int32} {n mi pc : Nat} {ι ι' ι0 κ κ0 : IS} {Q : Option Value → IS → Prop} {x1 x2 x3 x : Int32} {a u d v j m nd nv h k t c p : Nat} {f g : Nat → Int32} {z : Int} {w1 : Value}
theorem z_shl {y : Int32} : (0 : Int32) <<< y = 0 := by simp
theorem z_or {y : Int32} : y ||| 0 = y := by simp
theorem wrB_01 : wrB f d = 0 ∨ wrB f d = 1 := by
  unfold wrB
  split
  · exact Or.inl rfl
  · split
    · exact Or.inr rfl
    · exact Or.inl rfl
theorem isWX_spec (hr : rf a 0 = a + 1) (hD : DX a d f ι) (hw : WD f d) (h : Q (some (.int (wrB f d))) ι) : PC xl n 59 0 [(0, .ref a)] [] ι Q := by
  unfold wrB at h
  refine (t_59_0 (shX_spec hr hD hw.1 ?_)).weak
  intro r e; cases e
  refine ⟨fun c => ?_, fun c => (t_38_0 ⟨fun c2 => ?_, fun c2 => ?_⟩).weak⟩
  · rw [if_pos (hw.sh4.mp c)] at h; exact h
  · intro r e; cases e
    rw [hD.2.2.1] at c2
    rw [if_neg (fun e => c (shF_0 e)), if_neg c2] at h
    exact ⟨fun _ => h, fun q => absurd rfl q⟩
  · intro r e; cases e
    rw [hD.2.2.1] at c2
    rw [if_neg (fun e => c (shF_0 e)), if_pos c2] at h
    exact ⟨fun q => absurd q (by decide), fun _ => h⟩
theorem isWM_spec (hd : x1.toInt = d) (h4 : d < 4) (hw : WD (κ 131) d) (h : Q (some (.int (wrB (κ 131) d))) κ) : PC xl n 172 0 [(0, .ref 129), (1, .int x1)] [] κ Q := by
  unfold wrB at h
  refine (t_172_0 (shM_spec hd h4 hw.1 ?_)).weak
  intro r e; cases e
  refine ⟨fun c => ?_, fun c => ofD_spec (m := 18 + 9 * d) hd h4 (j := 2) rfl (by omega) (by omega) ?_⟩
  · rw [if_pos (hw.sh4.mp c)] at h; exact h
  · intro r e; cases e
    refine shM_spec hd h4 hw.1 ?_
    intro r e; cases e
    refine ⟨fun c2 => ?_, fun c2 => ?_⟩
    · rw [if_neg (fun e => c (shF_0 e)), if_neg c2] at h; exact h
    · rw [if_neg (fun e => c (shF_0 e)), if_pos c2] at h; exact h
theorem wrXL (hu : isTown u) (hw : WF f) (hT : TW u nv nd f ι) (h : Q (some (.int (wrF f nd))) ι) : ∀ (n d : Nat) (x2 : Int32), x2.toInt = d → d ≤ nd → PC xl n 58 4 [(0, .ref u), (1, .int (wrF f d)), (2, .int x2)] [] ι Q
  | 0, _, _, _, _ => PC.zero
  | n + 1, d, x2, hx, hd => by
    have h5 := hT.2.1.1
    have hlt : x2 < ι u 3 ↔ d < nd := by rw [i_lt, hx, hT.2.1.2]; omega
    refine t_58_4 ⟨fun c => ?_, fun c _ _ => ?_⟩
    · have : d = nd := by
        have := mt hlt.mpr c; omega
      subst this; exact h
    · have hdl := hlt.mp c
      obtain ⟨tr1, tr2⟩ := town_d hu (d := d) (by omega)
      rw [i_ixn hx, tr1]
      have go := wrXL hu hw hT h n (d + 1) (x2 + 1) (i_s hx (by omega)) hdl
      have e1 : wrF f (d + 1) = wrF f d ||| (wrB f d <<< (Int32.ofNat d &&& 31)) := rfl
      refine isWX_spec tr2 (hT.2.2.2 d hdl) (hw.1 d (by omega)) ?_
      intro r e; cases e
      refine ⟨fun c2 => ?_, fun c2 => ?_⟩
      · rw [e1, c2, z_shl] at go; exact go
      · rw [e1, wrB_01.resolve_left c2, ← i_on hx] at go; exact go
theorem wrX_spec (hu : isTown u) (hw : WF f) (hT : TW u nv nd f ι) (h : Q (some (.int (wrF f nd))) ι) : PC xl n 58 0 [(0, .ref u)] [] ι Q := (t_58_0 (wrXL hu hw hT h n 0 0 rfl (Nat.zero_le _))).weak
theorem wrML (hw : WF (κ 131)) (hn : (κ 129 4).toInt = nd) (h5 : nd ≤ 4) (h : Q (some (.int (wrF (κ 131) nd))) κ) : ∀ (n d : Nat) (x2 : Int32), x2.toInt = d → d ≤ nd → PC xl n 171 4 [(0, .ref 129), (1, .int (wrF (κ 131) d)), (2, .int x2)] [] κ Q
  | 0, _, _, _, _ => PC.zero
  | n + 1, d, x2, hx, hd => by
    have hlt : x2 < κ 129 4 ↔ d < nd := by rw [i_lt, hx, hn]; omega
    refine t_171_4 ⟨fun c => ?_, fun c => ?_⟩
    · have : d = nd := by
        have := mt hlt.mpr c; omega
      subst this; exact h
    · have hdl := hlt.mp c
      have go := wrML hw hn h5 h n (d + 1) (x2 + 1) (i_s hx (by omega)) hdl
      have e1 : wrF (κ 131) (d + 1) = wrF (κ 131) d ||| (wrB (κ 131) d <<< (Int32.ofNat d &&& 31)) := rfl
      refine isWM_spec hx (by omega) (hw.1 d (by omega)) ?_
      intro r e; cases e
      refine (t_175_0 ⟨fun c2 => ?_, fun c2 => ?_⟩).weak
      · intro r e; cases e
        rw [e1, c2, ← i_on hx] at go; exact go
      · intro r e; cases e
        rw [e1, wrB_01.resolve_left c2, ← i_on hx] at go; exact go
theorem wrM_spec (hw : WF (κ 131)) (hn : (κ 129 4).toInt = nd) (h5 : nd ≤ 4) (h : Q (some (.int (wrF (κ 131) nd))) κ) : PC xl n 171 0 [(0, .ref 129)] [] κ Q := (t_171_0 (wrML hw hn h5 h n 0 0 rfl (Nat.zero_le _))).weak
theorem weXL (hu : isTown u) (hw : WF f) (hT : TW u nv nd f ι) (h : Q (some (.int (weF f nd))) ι) : ∀ (n d : Nat) (x2 : Int32), x2.toInt = d → d ≤ nd → PC xl n 57 4 [(0, .ref u), (1, .int (weF f d)), (2, .int x2)] [] ι Q
  | 0, _, _, _, _ => PC.zero
  | n + 1, d, x2, hx, hd => by
    have h5 := hT.2.1.1
    have hlt : x2 < ι u 3 ↔ d < nd := by rw [i_lt, hx, hT.2.1.2]; omega
    refine t_57_4 ⟨fun c => ?_, fun c _ _ => ?_⟩
    · have : d = nd := by
        have := mt hlt.mpr c; omega
      subst this; exact h
    · have hdl := hlt.mp c
      rw [i_ixn hx, (town_d hu (d := d) (by omega)).1, (hT.2.2.2 d hdl).2.1]
      have go := weXL hu hw hT h n (d + 1) (x2 + 1) (i_s hx (by omega)) hdl
      have e1 : weF f (d + 1) = weF f d ||| (f (17 + 9 * d) <<< (Int32.ofNat d &&& 31)) := rfl
      refine ⟨fun c2 => ?_, fun c2 => ?_⟩
      · rw [e1, c2, z_shl] at go; exact go
      · rw [e1, (hw.1 d (by omega)).2.1.resolve_left c2, ← i_on hx] at go; exact go
theorem weX_spec (hu : isTown u) (hw : WF f) (hT : TW u nv nd f ι) (h : Q (some (.int (weF f nd))) ι) : PC xl n 57 0 [(0, .ref u)] [] ι Q := (t_57_0 (weXL hu hw hT h n 0 0 rfl (Nat.zero_le _))).weak
theorem ptXL (hu : isTown u) (hT : TW u nv nd f ι) (h : Q (some (.int (ptF f nv))) ι) : ∀ (n v : Nat) (x2 : Int32), x2.toInt = v → v ≤ nv → PC xl n 61 4 [(0, .ref u), (1, .int (ptF f v)), (2, .int x2)] [] ι Q
  | 0, _, _, _, _ => PC.zero
  | n + 1, v, x2, hx, hv => by
    have h4 := hT.1.1
    have hlt : x2 < ι u 2 ↔ v < nv := by rw [i_lt, hx, hT.1.2]; omega
    refine t_61_4 ⟨fun c => ?_, fun c _ _ => ?_⟩
    · have : v = nv := by
        have := mt hlt.mpr c; omega
      subst this; exact h
    · have hvl := hlt.mp c
      rw [i_ixn hx, town_v hu (v := v) (by omega), (hT.2.2.1 v hvl).2.2.1]
      exact ptXL hu hT h n (v + 1) (x2 + 1) (i_s hx (by omega)) hvl
theorem ptX_spec (hu : isTown u) (hT : TW u nv nd f ι) (h : Q (some (.int (ptF f nv))) ι) : PC xl n 61 0 [(0, .ref u)] [] ι Q := (t_61_0 (ptXL hu hT h n 0 0 rfl (Nat.zero_le _))).weak
theorem hl_1 {q : Nat} (hq : f (19 + 9 * d + q) = x) : ∀ m, q < m → hlF f d x m = 1
  | 0, hm => absurd hm (Nat.not_lt_zero _)
  | m + 1, hm => by
    simp only [hlF]
    by_cases e : q = m
    · subst e
      split
      · first | rfl | rw [if_pos hq]
      · rfl
    · rw [hl_1 hq m (by omega), if_neg (by decide)]
theorem hl_0 : ∀ m, (∀ q, q < m → ¬ f (19 + 9 * d + q) = x) → hlF f d x m = 0
  | 0, _ => rfl
  | m + 1, hm => by
    simp only [hlF]
    rw [hl_0 m (fun q hq => hm q (by omega)), if_pos rfl, if_neg (hm m (by omega))]
theorem hl_01 : ∀ m, hlF f d x m = 0 ∨ hlF f d x m = 1
  | 0 => Or.inl rfl
  | m + 1 => by
    simp only [hlF]
    split
    · split
      · exact Or.inr rfl
      · exact Or.inl rfl
    · exact Or.inr rfl
theorem hlXL (hr : rf a 0 = a + 1) (hD : DX a d f ι) (hh : (f (16 + 9 * d)).toInt = h) (hq : Q (some (.int (hlF f d x h))) ι) : ∀ (n i : Nat) (x2 : Int32), x2.toInt = i → i ≤ h → (∀ q, q < i → ¬ f (19 + 9 * d + q) = x) → PC xl n 110 2 [(0, .ref a), (1, .int x), (2, .int x2)] [] ι Q
  | 0, _, _, _, _, _ => PC.zero
  | n + 1, i, x2, hx, hi, hl => by
    have := i_rng (f (16 + 9 * d))
    have hlt : x2 < ι a 1 ↔ i < h := by rw [i_lt, hx, hD.1, hh]; omega
    refine t_110_2 ⟨fun c => ?_, fun c _ _ => ?_⟩
    · have : i = h := by
        have := mt hlt.mpr c; omega
      subst this
      rw [hl_0 i hl] at hq; exact hq
    · have hil := hlt.mp c
      rw [hr, i_ixn hx, hD.2.2.2 i (by omega)]
      refine ⟨fun c2 => hlXL hr hD hh hq n (i + 1) (x2 + 1) (i_s hx (by omega)) hil (fun q hq2 => ?_), fun c2 => ?_⟩
      · by_cases e : q = i
        · subst e; exact c2
        · exact hl q (by omega)
      · rw [hl_1 c2 h hil] at hq; exact hq
theorem hlX_spec (hr : rf a 0 = a + 1) (hD : DX a d f ι) (h0 : 0 ≤ (f (16 + 9 * d)).toInt) (hq : Q (some (.int (hlF f d x (f (16 + 9 * d)).toInt.toNat))) ι) : PC xl n 110 0 [(0, .ref a), (1, .int x)] [] ι Q := (t_110_0 (hlXL (h := (f (16 + 9 * d)).toInt.toNat) hr hD (by omega) hq n 0 0 rfl (Nat.zero_le _) (fun q hq => absurd hq (Nat.not_lt_zero _)))).weak
/-- the model's counts -/
theorem in32 {y0 y1 : Int32} {c : Int64} (hc : c.toInt = 0) (h : ∀ r : Int32, (r = 0 ↔ ¬ (0 ≤ y0.toInt ∧ y0.toInt ≤ y1.toInt)) → Q (some (.int r)) κ) : PC xl n 148 0 [(0, .long y0.toInt64), (2, .long c), (4, .long y1.toInt64)] [] κ Q := by
  refine in_spec ?_
  rw [Int32.toInt_toInt64, Int32.toInt_toInt64, hc]
  by_cases e : 0 ≤ y0.toInt ∧ y0.toInt ≤ y1.toInt
  · rw [if_pos e]; exact h 1 ⟨fun q => absurd q (by decide), fun q => absurd e q⟩
  · rw [if_neg e]; exact h 0 ⟨fun _ => e, fun _ => rfl⟩
theorem inL {y0 : Int32} {lo hi : Int64} {l g : Int} (hl : lo.toInt = l) (hg : hi.toInt = g) (h : ∀ r : Int32, (r = 0 ↔ ¬ (l ≤ y0.toInt ∧ y0.toInt ≤ g)) → Q (some (.int r)) κ) : PC xl n 148 0 [(0, .long y0.toInt64), (2, .long lo), (4, .long hi)] [] κ Q := by
  refine in_spec ?_
  rw [Int32.toInt_toInt64, hl, hg]
  by_cases e : l ≤ y0.toInt ∧ y0.toInt ≤ g
  · rw [if_pos e]; exact h 1 ⟨fun q => absurd q (by decide), fun q => absurd e q⟩
  · rw [if_neg e]; exact h 0 ⟨fun _ => e, fun _ => rfl⟩
theorem isV_spec (hn : (κ 129 3).toInt = nv) (h4 : nv ≤ 4) (h1 : ¬ (0 ≤ x.toInt ∧ x.toInt < nv) → Q (some (.int 0)) κ) (h2 : ∀ v : Nat, x.toInt = v → v < nv → ∀ r : Int32, ¬ r = 0 → Q (some (.int r)) κ) : PC xl n 177 0 [(0, .ref 129), (1, .int x)] [] κ Q := by
  have e1 : (κ 129 3 - 1).toInt = nv - 1 := by rw [i_sub (by rw [hn, n1]; omega), hn, n1]
  refine (t_177_0 (in32 rfl (fun r hr => ?_))).weak
  intro r2 e; cases e
  rw [e1] at hr
  by_cases c : 0 ≤ x.toInt ∧ x.toInt < nv
  · exact h2 x.toInt.toNat (by omega) (by omega) r (fun e => (hr.mp e) (by omega))
  · rw [hr.mpr (by omega)]; exact h1 c
theorem isD_spec (hn : (κ 129 4).toInt = nd) (h4 : nd ≤ 4) (h1 : ¬ (0 ≤ x.toInt ∧ x.toInt < nd) → Q (some (.int 0)) κ) (h2 : ∀ d : Nat, x.toInt = d → d < nd → ∀ r : Int32, ¬ r = 0 → Q (some (.int r)) κ) : PC xl n 181 0 [(0, .ref 129), (1, .int x)] [] κ Q := by
  have e1 : (κ 129 4 - 1).toInt = nd - 1 := by rw [i_sub (by rw [hn, n1]; omega), hn, n1]
  refine (t_181_0 (in32 rfl (fun r hr => ?_))).weak
  intro r2 e; cases e
  rw [e1] at hr
  by_cases c : 0 ≤ x.toInt ∧ x.toInt < nd
  · exact h2 x.toInt.toNat (by omega) (by omega) r (fun e => (hr.mp e) (by omega))
  · rw [hr.mpr (by omega)]; exact h1 c
end Bits
