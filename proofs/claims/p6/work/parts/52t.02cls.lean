/-! TOWNS, III: the class's DOORS and VISITORS; a VISIT -/
section Cls1
variable {xl : List Int32} {n mi pc : Nat} {ι ι' κ : IS} {Q : Option Value → IS → Prop} {x1 x2 x3 x : Int32} {a u d v j m nd nv : Nat} {f g : Nat → Int32} {bo : Int} {lw : Nat}
theorem shX_spec (hr : rf a 0 = a + 1) (hD : DX a d f ι) (hw : 0 ≤ (f (16 + 9 * d)).toInt ∧ (f (16 + 9 * d)).toInt ≤ 6) (h : Q (some (.int (shF f d))) ι) : PC xl n 60 0 [(0, .ref a)] [] ι Q := by
  refine (t_60_0 ⟨fun c => ?_, fun c => ⟨fun c2 => ?_, fun c2 _ _ => ?_⟩⟩).weak
  · rw [i_lt, n0, hD.1] at c
    rw [shF_0 (i_z (by omega))] at h; exact h
  · rw [i_lt, n6, hD.1] at c2; omega
  · rw [i_lt, n0, hD.1] at c
    obtain ⟨k, hk⟩ : ∃ k : Nat, (f (16 + 9 * d)).toInt = (k + 1 : Nat) := ⟨(f (16 + 9 * d)).toInt.toNat - 1, by omega⟩
    rw [hr, hD.1, i_ixn (i_p hk (by omega)), hD.2.2.2 k (by omega), ← shF_s hk]; exact h
theorem addX_spec {q : Nat} (hr : rf a 0 = a + 1) (hD : DX a d f ι) (hq : (f (16 + 9 * d)).toInt = q) (h6 : q < 6) (h : ∀ ι', Sm a (a + 1) ι ι' → DX a d (fs (fs f (19 + 9 * d + q) x) (16 + 9 * d) (f (16 + 9 * d) + 1)) ι' → Q (some (.int 1)) ι') : PC xl n 35 0 [(0, .ref a), (1, .int x)] [] ι Q := by
  refine (t_35_0 ⟨fun c _ _ => ?_, fun c => ?_⟩).weak
  · rw [hr, hD.1, i_ixn hq, up_ne (by omega), hD.1]
    refine h _ ((Sm.rfl.up (by omega)).up (by omega)) ⟨?_, ?_, ?_, fun i hi => ?_⟩
    · rw [up_same, fs_same]
    · rw [up_ne (by omega), up_ne (by omega), fs_ne (by omega), fs_ne (by omega)]; exact hD.2.1
    · rw [up_ne (by omega), up_ne (by omega), fs_ne (by omega), fs_ne (by omega)]; exact hD.2.2.1
    · rw [fs_same, i_s hq (by omega)] at hi
      rw [up_ne (by omega), fs_ne (by omega)]
      by_cases e : i = q
      · subst e
        rw [up_same, fs_same]
      · rw [up_ne (by omega), fs_ne (by omega)]
        exact hD.2.2.2 i (by omega)
  · rw [i_lt, n6, hD.1] at c; omega
theorem loseX_spec {k : Nat} (hD : DX a d f ι) (hk : (f (16 + 9 * d)).toInt = (k + 1 : Nat)) (h : ∀ ι', Sm a (a + 1) ι ι' → DX a d (fs f (16 + 9 * d) (f (16 + 9 * d) - 1)) ι' → Q none ι') : PC xl n 78 0 [(0, .ref a)] [] ι Q := by
  have := i_rng (f (16 + 9 * d))
  refine (t_78_0 ⟨fun c => ?_, fun c => ?_⟩).weak
  · rw [i_lt, n0, hD.1] at c; omega
  · rw [hD.1]
    refine h _ (Sm.rfl.up (by omega)) ⟨?_, ?_, ?_, fun i hi => ?_⟩
    · rw [up_same, fs_same]
    · rw [up_ne (by omega), fs_ne (by omega)]; exact hD.2.1
    · rw [up_ne (by omega), fs_ne (by omega)]; exact hD.2.2.1
    · rw [fs_same, i_p hk (by omega)] at hi
      rw [up_ne (by omega), fs_ne (by omega)]
      exact hD.2.2.2 i (by omega)
/-- the DOOR's being wet is written -/
theorem DX.wet (hD : DX a d f ι) : DX a d (fs f (17 + 9 * d) x) (up ι a 3 x) := by
  refine ⟨?_, ?_, ?_, fun i hi => ?_⟩
  · rw [up_ne (by omega), fs_ne (by omega)]; exact hD.1
  · rw [up_same, fs_same]
  · rw [up_ne (by omega), fs_ne (by omega)]; exact hD.2.2.1
  · rw [fs_ne (by omega)] at hi
    rw [up_ne (by omega), fs_ne (by omega)]
    exact hD.2.2.2 i hi
theorem paX_spec (hr : rf a 0 = a + 1) (hD : DX a d f ι) (hw : WD f d) (hf : ¬ (f (16 + 9 * d) = 6 ∧ f (17 + 9 * d) = 0)) (h : ∀ ι', Sm a (a + 1) ι ι' → DX a d (paF f d x) ι' → Q none ι') : PC xl n 74 0 [(0, .ref a), (1, .int x)] [] ι Q := by
  obtain ⟨q, hq⟩ : ∃ q : Nat, (f (16 + 9 * d)).toInt = q := ⟨(f (16 + 9 * d)).toInt.toNat, by have := hw.1.1; omega⟩
  have q6 : q ≤ 6 := by have := hw.1.2; omega
  have dry : ¬ iwF f d → PC xl n 35 0 [(0, .ref a), (1, .int x)] [] ι (fun v2 κ2 => ∀ r2, v2 = some (.int r2) → Q none (up κ2 a 3 1)) := by
    intro ni
    refine addX_spec hr hD hq ?_ (fun ι' s1 d1 r _ => h _ (s1.up (by omega)) ?_)
    · rcases Nat.lt_or_ge q 6 with g | g
      · exact g
      · have e6 : f (16 + 9 * d) = 6 := by rw [i_eq, hq, n6]; omega
        exfalso
        rcases hw.2.1 with e | e
        · exact hf ⟨e6, e⟩
        · exact ni ⟨e, by rw [e6]; decide⟩
    · unfold paF
      rw [if_neg ni, hq]
      exact d1.wet
  refine (t_74_0 (shX_spec hr hD hw.1 ?_)).weak
  intro r e; cases e
  rw [hD.2.1, hr, hD.1]
  refine ⟨fun c => dry (fun hh => ?_), fun c => ⟨fun c2 => dry (fun hh => hh.2 (hw.sh4.mp c2)), fun c2 _ _ => ?_⟩⟩
  · rw [hh.1] at c; exact absurd c (by decide)
  · have yi : iwF f d := ⟨hw.2.1.resolve_left c, fun e => c2 (shF_0 e)⟩
    have q0 : 0 < q := by have := i_nz yi.2 hw.1.1; omega
    obtain ⟨k, rfl⟩ : ∃ k, q = k + 1 := ⟨q - 1, by omega⟩
    rw [i_ixn (i_p hq (by omega))]
    refine h _ ((Sm.rfl.up (by omega)).up (by omega)) ?_
    unfold paF
    rw [if_pos yi, hq, show 18 + 9 * d + ((k + 1 : Nat) : Int).toNat = 19 + 9 * d + k by rw [Int.toNat_natCast]; omega]
    refine DX.wet ⟨?_, ?_, ?_, fun i hi => ?_⟩
    · rw [up_ne (by omega), fs_same]; exact hD.1
    · rw [up_ne (by omega), fs_ne (by omega), fs_ne (by omega)]; exact hD.2.1
    · rw [up_ne (by omega), fs_ne (by omega), fs_ne (by omega)]; exact hD.2.2.1
    · rw [fs_same, hq] at hi
      rw [fs_ne (by omega)]
      by_cases e : i = k
      · subst e
        rw [up_same, fs_same]
      · rw [up_ne (by omega), fs_ne (by omega)]
        exact hD.2.2.2 i (by omega)
theorem fullX_spec (hD : DX a d f ι) (hw : WD f d) (h : ∀ r : Int32, (r = 0 ↔ ¬ (f (16 + 9 * d) = 6 ∧ f (17 + 9 * d) = 0)) → Q (some (.int r)) ι) : PC xl n 71 0 [(0, .ref a)] [] ι Q := by
  have h6 := hw.1.2
  refine (t_71_0 ⟨fun c => h 0 ⟨fun _ hh => ?_, fun _ => rfl⟩, fun c => ⟨fun c2 => h 0 ⟨fun _ hh => ?_, fun _ => rfl⟩, fun c2 => h 1 ⟨fun q => absurd q (by decide), fun q => absurd ⟨?_, ?_⟩ q⟩⟩⟩).weak
  · rw [i_lt, hD.1, hh.1] at c; exact absurd c (by decide)
  · rw [hD.2.1] at c2; exact c2 hh.2
  · rw [i_lt, hD.1, n6] at c; rw [i_eq, n6]; omega
  · rw [hD.2.1] at c2; exact c2
theorem isCol_spec (h : ∀ r : Int32, (r = 0 ↔ ¬ (0 ≤ x.toInt ∧ x.toInt ≤ 5)) → Q (some (.int r)) ι) : PC xl n 73 0 [(0, .int x)] [] ι Q := by
  refine (t_73_0 ⟨fun c => h 0 ⟨fun _ hh => ?_, fun _ => rfl⟩, fun c => ⟨fun c2 => h 0 ⟨fun _ hh => ?_, fun _ => rfl⟩, fun c2 => h 1 ⟨fun q => absurd q (by decide), fun q => absurd ⟨?_, ?_⟩ q⟩⟩⟩).weak
  · rw [i_lt, n0] at c; omega
  · rw [i_lt, n6] at c2; omega
  · rw [i_lt, n0] at c; omega
  · rw [i_lt, n6] at c2; omega
theorem hasV_spec (ha : (ι u 2).toInt = nv) (h1 : ¬ (0 ≤ x.toInt ∧ x.toInt < nv) → Q (some (.int 0)) ι) (h2 : ∀ v : Nat, x.toInt = v → v < nv → ∀ r : Int32, ¬ r = 0 → Q (some (.int r)) ι) : PC xl n 49 0 [(0, .ref u), (1, .int x)] [] ι Q := by
  refine has_spec (z := x.toInt) rfl ha (fun r hr => ?_)
  by_cases c : 0 ≤ x.toInt ∧ x.toInt < nv
  · exact h2 x.toInt.toNat (by omega) (by omega) r (fun e => (hr.mp e) c)
  · rw [hr.mpr c]; exact h1 c
theorem hasDr_spec (ha : (ι u 3).toInt = nd) (h1 : ¬ (0 ≤ x.toInt ∧ x.toInt < nd) → Q (some (.int 0)) ι) (h2 : ∀ d : Nat, x.toInt = d → d < nd → ∀ r : Int32, ¬ r = 0 → Q (some (.int r)) ι) : PC xl n 50 0 [(0, .ref u), (1, .int x)] [] ι Q := by
  refine hasD_spec (z := x.toInt) rfl ha (fun r hr => ?_)
  by_cases c : 0 ≤ x.toInt ∧ x.toInt < nd
  · exact h2 x.toInt.toNat (by omega) (by omega) r (fun e => (hr.mp e) c)
  · rw [hr.mpr c]; exact h1 c
theorem brX_spec (hu : isTown u) (hT : TW u nv nd f ι) (hB : BO u bo lw f ι) (hx : x.toInt = v) (hv : v < nv) (h : Q (some (.int (brF bo lw f v))) ι) : PC xl n 63 0 [(0, .ref u), (1, .int x)] [] ι Q := by
  have h4 := hT.1.1
  refine (t_63_0 (hasV_spec hT.1.2 (fun c => absurd ⟨by omega, by omega⟩ c) (fun v' hv' hlt r hr => ?_))).weak
  intro r2 e; cases e
  have vv : v' = v := by omega
  subst vv
  unfold brF at h
  rw [i_ixn hx, town_v hu (by omega), show (0 : Int32).toNatClampNeg = 0 from rfl, town_v hu (v := 0) (by omega)]
  have hV := hT.2.2.1 v' hv
  have hV0 := hT.2.2.1 0 (by omega)
  refine ⟨fun _ => ⟨fun c _ _ => ⟨fun c2 _ _ => ?_, fun c2 _ _ => ?_⟩, fun c => ?_⟩, fun c => absurd c hr⟩
  · rw [i_eq, hx, hB.1] at c
    rw [hV.1] at c2
    rw [if_neg c, owF, if_neg c2] at h
    rw [hV.2.1]; exact h
  · rw [i_eq, hx, hB.1] at c
    rw [hV.1] at c2
    rw [if_neg c, owF, if_pos c2] at h
    rw [show u + 2 + 0 = u + 2 + 0 from rfl, hV0.2.1]; exact h
  · rw [i_eq, hx, hB.1] at c
    rw [if_pos c] at h
    rw [hB.2 (by omega)]; exact h
theorem coX_spec (hu : isTown u) (hT : TW u nv nd f ι) (h1 : ¬ (0 ≤ x1.toInt ∧ x1.toInt < nv ∧ 0 ≤ x2.toInt ∧ x2.toInt < nd) → Q (some (.int (-1))) ι) (h2 : ∀ v d : Nat, x1.toInt = v → v < nv → x2.toInt = d → d < nd → Q (some (.int (usF f v d))) ι) : PC xl n 68 0 [(0, .ref u), (1, .int x1), (2, .int x2)] [] ι Q := by
  have h4 := hT.1.1
  have h5 := hT.2.1.1
  refine (t_68_0 (hasV_spec hT.1.2 (fun c => ?_) (fun v hv hlt r hr => ?_))).weak
  · intro r e; cases e
    exact ⟨fun _ => h1 (fun hh => c ⟨hh.1, hh.2.1⟩), fun c => absurd rfl c⟩
  · intro r2 e; cases e
    refine ⟨fun c => absurd c hr, fun _ => hasDr_spec hT.2.1.2 (fun c => ?_) (fun d hd hdl r hr2 => ?_)⟩
    · intro r e; cases e
      exact ⟨fun c => absurd rfl c, fun _ => h1 (fun hh => c hh.2.2)⟩
    · intro r3 e; cases e
      refine ⟨fun _ _ _ _ _ => ?_, fun c => absurd c hr2⟩
      have h := h2 v d hv hlt hd hdl
      rw [i_ixn hv, i_ixn hd, town_v hu (by omega), (town_d hu (d := d) (by omega)).1, (hT.2.2.1 v hlt).1, (hT.2.2.2 d hdl).1]
      unfold usF at h
      refine ⟨fun c => ?_, fun c => ?_, fun c => ?_⟩
      · have e1 : f (4 * v) = 1 := by rw [i_eq, c, n1]
        rw [e1, if_neg (by decide), if_pos rfl] at h; exact h
      · have e1 : f (4 * v) = 2 := by rw [i_eq, c, n2i]
        rw [e1, if_pos rfl] at h; exact h
      · rw [if_neg (fun e => c.2 (by rw [e, n2i])), if_neg (fun e => c.1 (by rw [e, n1]))] at h; exact h
theorem pa_o {k : Nat} (hw : WD f d) (hf : ¬ (f (16 + 9 * d) = 6 ∧ f (17 + 9 * d) = 0)) (hk : ¬ (16 + 9 * d ≤ k ∧ k < 25 + 9 * d)) : paF f d x k = f k := by
  have h0 := hw.1.1
  have h6 := hw.1.2
  unfold paF
  split
  · rename_i yi
    have := i_nz yi.2 h0
    rw [fs_ne (by omega), fs_ne (by omega), fs_ne (by omega)]
  · rename_i ni
    have : (f (16 + 9 * d)).toInt < 6 := by
      rcases Int.lt_or_eq_of_le h6 with g | g
      · exact g
      · exfalso
        have e6 : f (16 + 9 * d) = 6 := by rw [i_eq, g, n6]
        rcases hw.2.1 with e | e
        · exact hf ⟨e6, e⟩
        · exact ni ⟨e, by rw [e6]; decide⟩
    rw [fs_ne (by omega), fs_ne (by omega), fs_ne (by omega)]
theorem WD.ta (hv : v < 4) {e : Nat} (h : WD f e) : WD (taF f v d) e := by
  unfold WD at h ⊢
  rw [ta_d hv (by omega), ta_d hv (by omega)]
  refine ⟨h.1, h.2.1, fun i hi => ?_⟩
  rw [ta_d hv (by omega)]; exact h.2.2 i hi
theorem i_m6 {z : Int} (h : x.toInt = z) (h0 : 0 ≤ z) (h1 : z < 1000) : (x - x / 6 * 6).toInt = z % 6 := by
  have h2 : (x / 6).toInt = z / 6 := by
    rw [Int32.toInt_div, n6, h, Int.tdiv_eq_ediv_of_nonneg h0]
    exact i_bm (by omega)
  have h3 : (x / 6 * 6).toInt = z / 6 * 6 := by rw [i_mul (by rw [h2, n6]; omega), h2, n6]
  rw [i_sub (by rw [h3, h]; omega), h3, h]; omega
theorem WD.pa (h : WD f d) (hf : ¬ (f (16 + 9 * d) = 6 ∧ f (17 + 9 * d) = 0)) (hx : 0 ≤ x.toInt ∧ x.toInt ≤ 5) : WD (paF f d x) d := by
  obtain ⟨q, hq⟩ : ∃ q : Nat, (f (16 + 9 * d)).toInt = q := ⟨(f (16 + 9 * d)).toInt.toNat, by have := h.1.1; omega⟩
  have q6 : q ≤ 6 := by have := h.1.2; omega
  unfold paF
  split
  · rename_i yi
    have q0 : 0 < q := by have := i_nz yi.2 h.1.1; omega
    obtain ⟨k, rfl⟩ : ∃ k, q = k + 1 := ⟨q - 1, by omega⟩
    rw [hq, show 18 + 9 * d + ((k + 1 : Nat) : Int).toNat = 19 + 9 * d + k by rw [Int.toNat_natCast]; omega]
    refine ⟨?_, Or.inr fs_same, fun i hi => ?_⟩
    · rw [fs_ne (by omega), fs_same]; exact h.1
    · rw [fs_ne (by omega), fs_ne (by omega)]
      by_cases e : i = k
      · subst e
        rw [fs_same]
        have hs := h.sh yi.2
        rw [i_m6 (z := (shF f d).toInt + x.toInt) (i_add (by omega)) (by omega) (by omega)]
        omega
      · rw [fs_ne (by omega)]; exact h.2.2 i hi
  · rename_i ni
    have ql : q < 6 := by
      rcases Nat.lt_or_ge q 6 with g | g
      · exact g
      · have e6 : f (16 + 9 * d) = 6 := by rw [i_eq, hq, n6]; omega
        exfalso
        rcases h.2.1 with e | e
        · exact hf ⟨e6, e⟩
        · exact ni ⟨e, by rw [e6]; decide⟩
    rw [hq, Int.toNat_natCast]
    refine ⟨?_, Or.inr fs_same, fun i hi => ?_⟩
    · rw [fs_ne (by omega), fs_same, i_s hq (by omega)]; omega
    · rw [fs_ne (by omega), fs_ne (by omega)]
      by_cases e : i = q
      · subst e
        rw [fs_same]; exact hx
      · rw [fs_ne (by omega)]; exact h.2.2 i hi
theorem WF.br (h : WF f) (hv : v < 4) (hl : 0 ≤ bo → lw < 4) : 0 ≤ (brF bo lw f v).toInt ∧ (brF bo lw f v).toInt ≤ 5 := by
  have ow : ∀ w, w < 4 → 0 ≤ (owF f w).toInt ∧ (owF f w).toInt ≤ 5 := by
    intro w hw
    unfold owF
    split
    · exact h.2 0 (by omega)
    · exact h.2 w hw
  unfold brF
  split
  · exact ow lw (hl (by omega))
  · exact ow v hv
/-- no reason to keep out: there is room -/
theorem ko_room (h : koF f v d = 0) (hm : ¬ f (4 * v) = 2) : ¬ (f (16 + 9 * d) = 6 ∧ f (17 + 9 * d) = 0) := by
  intro hh
  unfold koF at h
  split at h
  · exact absurd h (by decide)
  · rw [if_pos ⟨hm, hh⟩] at h; exact absurd h (by decide)
theorem WF.vi (h : WF f) (hv : v < 4) (hd : d < 4) (hk : koF f v d = 0) (hl : 0 ≤ bo → lw < 4) : WF (viF bo lw f v d) := by
  have hT : WF (taF f v d) := ⟨fun e he => (h.1 e he).ta hv, fun w hw => by rw [ta_v (by omega)]; exact h.2 w hw⟩
  unfold viF
  split
  · exact hT
  · rename_i hm
    have hr := ko_room hk hm
    have hr2 : ¬ (taF f v d (16 + 9 * d) = 6 ∧ taF f v d (17 + 9 * d) = 0) := by rw [ta_d hv (by omega), ta_d hv (by omega)]; exact hr
    refine ⟨fun e he => ?_, fun w hw => ?_⟩
    · by_cases ed : e = d
      · subst ed; exact (hT.1 e he).pa hr2 (h.br hv hl)
      · have h1 := hT.1 e he
        unfold WD at h1 ⊢
        rw [pa_o (hT.1 d hd) hr2 (by omega), pa_o (hT.1 d hd) hr2 (by omega)]
        exact ⟨h1.1, h1.2.1, fun i hi => by rw [pa_o (hT.1 d hd) hr2 (by omega)]; exact h1.2.2 i hi⟩
    · rw [pa_o (hT.1 d hd) hr2 (by omega)]; exact hT.2 w hw
theorem vi_ow (h : WF f) (hv : v < 4) (hd : d < 4) (hk : koF f v d = 0) {w : Nat} (hw : w < 4) : owF (viF bo lw f v d) w = owF f w := by
  have hT : WD (taF f v d) d := (h.1 d hd).ta hv
  have e : ∀ k, k < 16 → ¬ (k = 4 * v + 2 ∨ k = 4 * v + 3) → viF bo lw f v d k = f k := by
    intro k h1 h2
    unfold viF
    split
    · exact ta_v (by omega)
    · rename_i hm
      have hr2 : ¬ (taF f v d (16 + 9 * d) = 6 ∧ taF f v d (17 + 9 * d) = 0) := by rw [ta_d hv (by omega), ta_d hv (by omega)]; exact ko_room hk hm
      rw [pa_o hT hr2 (by omega)]; exact ta_v (by omega)
  unfold owF
  rw [e _ (by omega) (by omega), e _ (by omega) (by omega), e _ (by omega) (by omega)]
theorem rcX_spec (hu : isTown u) (hT : TW u nv nd f ι) (hw : WF f) (hB : BO u bo lw f ι) (h1 : ¬ (0 ≤ x1.toInt ∧ x1.toInt < nv ∧ 0 ≤ x2.toInt ∧ x2.toInt < nd) → Q (some (.int (-1))) ι) (h2 : ∀ v d : Nat, x1.toInt = v → v < nv → x2.toInt = d → d < nd → ¬ koF f v d = 0 → Q (some (.int (koF f v d))) ι) (h3 : ∀ v d : Nat, x1.toInt = v → v < nv → x2.toInt = d → d < nd → koF f v d = 0 → ∀ ι', Sm u (u + 14) ι ι' → (∀ j, ι' u j = ι u j) → TW u nv nd (viF bo lw f v d) ι' → Q (some (.int (shF (viF bo lw f v d) d))) ι') (hl : 0 ≤ bo → lw < 4) : PC xl n 70 0 [(0, .ref u), (1, .int x1), (2, .int x2)] [] ι Q := by
  have h4 := hT.1.1
  have h5 := hT.2.1.1
  refine (t_70_0 (coX_spec hu hT (fun c => ?_) (fun v d hv hvl hd hdl => ?_))).weak
  · intro r e; cases e
    exact ⟨fun q => absurd rfl q, fun _ => h1 c⟩
  intro r e; cases e
  have hv4 : v < 4 := by omega
  have hd4 : d < 4 := by omega
  have hW := hw.1 d hd4
  have us0 := hW.us (v := v)
  have hV := hT.2.2.1 v hvl
  have hD := hT.2.2.2 d hdl
  obtain ⟨tr1, tr2⟩ := town_d hu (d := d) hd4
  have tv := town_v hu (v := v) hv4
  rw [i_ixn hv, i_ixn hd, tv, tr1, hV.2.2.1, hV.1]
  have l91 : ∀ ι1 : IS, Sm u (u + 14) ι ι1 → (∀ j, ι1 u j = ι u j) → TW u nv nd (taF f v d) ι1 → koF f v d = 0 → PC xl n 70 91 [(0, .ref u), (1, .int x1), (2, .int x2), (3, .int (usF f v d)), (4, .ref (u + 2 + v)), (5, .ref (u + 7 + 2 * d))] [] ι1 Q := by
    intro ι1 s1 su t1 ko
    have hV1 := t1.2.2.1 v hvl
    have hD1 := t1.2.2.2 d hdl
    have hW1 : WD (taF f v d) d := hW.ta hv4
    have k4 : ι1 (u + 2 + v) 0 = f (4 * v) := by rw [hV1.1, ta_v (by omega)]
    refine (t_70_91 ⟨fun c => ?_, fun c => ?_⟩).weak
    · rw [k4] at c
      refine shX_spec tr2 hD1 hW1.1 ?_
      intro r e; cases e
      have hvi : viF bo lw f v d = taF f v d := if_pos c
      have := h3 v d hv hvl hd hdl ko ι1 s1 su (by rw [hvi]; exact t1)
      rw [hvi] at this; exact this
    · rw [k4] at c
      have hvi : viF bo lw f v d = paF (taF f v d) d (brF bo lw f v) := if_neg c
      have hB1 : BO u bo lw (taF f v d) ι1 := ⟨by rw [su]; exact hB.1, fun h => by
        rw [su, hB.2 h]
        unfold owF
        rw [ta_v (by omega), ta_v (by omega), ta_v (by omega)]⟩
      refine brX_spec hu t1 hB1 hv hvl ?_
      intro r e; cases e
      have hr2 : ¬ (taF f v d (16 + 9 * d) = 6 ∧ taF f v d (17 + 9 * d) = 0) := by rw [ta_d hv4 (by omega), ta_d hv4 (by omega)]; exact ko_room ko c
      rw [ta_br]
      refine paX_spec tr2 hD1 hW1 hr2 (fun ι2 s2 d2 => ?_)
      have hW2 : WD (viF bo lw f v d) d := by rw [hvi]; exact hW1.pa hr2 (hw.br hv4 hl)
      refine shX_spec tr2 d2 (hvi ▸ hW2.1) ?_
      intro r e; cases e
      rw [← hvi]
      refine h3 v d hv hvl hd hdl ko ι2 (s1.trans (s2.wide (by omega) (by omega))) (fun j => by rw [s2 u j (by omega)]; exact su j) ?_
      have hwT : WF (taF f v d) := ⟨fun e he => (hw.1 e he).ta hv4, fun w hw2 => by rw [ta_v (by omega)]; exact hw.2 w hw2⟩
      rw [hvi]
      exact t1.door hwT hdl s2 (fun j hj => pa_o hW1 hr2 hj) d2
  have l62 : koF f v d = 0 → PC xl n 70 62 [(0, .ref u), (1, .int x1), (2, .int x2), (3, .int (usF f v d)), (4, .ref (u + 2 + v)), (5, .ref (u + 7 + 2 * d))] [] ι Q := by
    intro ko
    have s1 : Sm (u + 2 + v) (u + 2 + v) ι (up ι (u + 2 + v) 2 (f (4 * v + 2) - usF f v d)) := Sm.rfl.up (by omega)
    have V1 : VX (u + 2 + v) v (fs f (4 * v + 2) (f (4 * v + 2) - usF f v d)) (up ι (u + 2 + v) 2 (f (4 * v + 2) - usF f v d)) := by
      refine ⟨?_, ?_, ?_, ?_⟩
      · rw [up_ne (by omega), fs_ne (by omega)]; exact hV.1
      · rw [up_ne (by omega), fs_ne (by omega)]; exact hV.2.1
      · rw [up_same, fs_same]
      · rw [up_ne (by omega), fs_ne (by omega)]; exact hV.2.2.2
    have T1 : TW u nv nd (fs f (4 * v + 2) (f (4 * v + 2) - usF f v d)) (up ι (u + 2 + v) 2 (f (4 * v + 2) - usF f v d)) := hT.vis hw hvl s1 (fun j hj => fs_ne (by omega)) V1
    have D1 := T1.2.2.2 d hdl
    refine (t_70_62 ?_).weak
    rw [hV.2.2.1]
    have w3 : (up ι (u + 2 + v) 2 (f (4 * v + 2) - usF f v d)) (u + 7 + 2 * d) 3 = f (17 + 9 * d) := by rw [up_ne (by omega)]; exact hD.2.1
    rw [w3]
    refine ⟨fun c => l91 _ (s1.wide (by omega) (by omega)) (fun j => up_ne (by omega)) ?_ ko, fun c => shX_spec tr2 D1 (by rw [fs_ne (by omega)]; exact hW.1) ?_⟩
    · have : taF f v d = fs f (4 * v + 2) (f (4 * v + 2) - usF f v d) := if_neg (fun hh => by rw [hh.1] at c; exact absurd c (by decide))
      rw [this]; exact T1
    · intro r e; cases e
      have es : shF (fs f (4 * v + 2) (f (4 * v + 2) - usF f v d)) d = shF f d := by
        unfold shF
        rw [fs_ne (by omega), fs_ne (by omega)]
      rw [es]
      refine (t_72_0 (isCol_spec (fun r hr => ?_))).weak
      intro r2 e; cases e
      by_cases c0 : f (16 + 9 * d) = 0
      · have : taF f v d = fs f (4 * v + 2) (f (4 * v + 2) - usF f v d) := if_neg (fun hh => hh.2 c0)
        have rz : r = 0 := hr.mpr (by rw [shF_0 c0, nm4]; omega)
        exact ⟨fun _ => l91 _ (s1.wide (by omega) (by omega)) (fun j => up_ne (by omega)) (by rw [this]; exact T1) ko, fun q => absurd rz q⟩
      · have yi : iwF f d := ⟨hW.2.1.resolve_left c, c0⟩
        have hta : taF f v d = fs (fs f (4 * v + 2) (f (4 * v + 2) - usF f v d)) (4 * v + 3) (f (4 * v + 3) ||| (1 <<< (shF f d &&& 31))) := if_pos yi
        refine ⟨fun q => absurd (hW.sh c0) (hr.mp q), fun _ => ?_⟩
        have e3 : (up ι (u + 2 + v) 2 (f (4 * v + 2) - usF f v d)) (u + 2 + v) 3 = f (4 * v + 3) := by rw [V1.2.2.2, fs_ne (by omega)]
        rw [e3]
        refine l91 _ ((s1.wide (by omega) (by omega)).up (by omega)) (fun j => by rw [up_ne (by omega), up_ne (by omega)]) ?_ ko
        rw [hta]
        refine T1.vis ?_ hvl (Sm.rfl.up (by omega)) (fun j hj => fs_ne (by omega)) ⟨?_, ?_, ?_, ?_⟩
        · refine ⟨fun e he => ?_, fun w hw2 => by rw [fs_ne (by omega)]; exact hw.2 w hw2⟩
          have h9 := hw.1 e he
          unfold WD at h9 ⊢
          rw [fs_ne (by omega), fs_ne (by omega)]
          exact ⟨h9.1, h9.2.1, fun i hi => by rw [fs_ne (by omega)]; exact h9.2.2 i hi⟩
        · rw [up_ne (by omega), fs_ne (by omega)]; exact V1.1
        · rw [up_ne (by omega), fs_ne (by omega)]; exact V1.2.1
        · rw [up_ne (by omega), fs_ne (by omega)]; exact V1.2.2.1
        · rw [up_same, fs_same]
  have hko : koF f v d = if f (4 * v + 2) < usF f v d then -2 else if ¬ f (4 * v) = 2 ∧ f (16 + 9 * d) = 6 ∧ f (17 + 9 * d) = 0 then -3 else 0 := rfl
  refine ⟨fun _ _ _ _ _ => ⟨fun c => ⟨fun c2 => l62 ?_, fun c2 => fullX_spec hD hW (fun r hr => ?_)⟩, fun c => ?_⟩, fun q => ?_⟩
  · rw [hko, if_neg c, if_neg (fun hh => hh.1 c2)]
  · intro r2 e; cases e
    refine ⟨fun q => l62 ?_, fun q => ?_⟩
    · rw [hko, if_neg c, if_neg (fun hh => (hr.mp q) hh.2)]
    · have hh : f (16 + 9 * d) = 6 ∧ f (17 + 9 * d) = 0 := by false_or_by_contra; rename_i h9; exact q (hr.mpr h9)
      have e3 : koF f v d = -3 := by rw [hko, if_neg c, if_pos ⟨c2, hh⟩]
      have := h2 v d hv hvl hd hdl (by rw [e3]; decide)
      rw [e3] at this; exact this
  · have e3 : koF f v d = -2 := by rw [hko, if_pos c]
    have := h2 v d hv hvl hd hdl (by rw [e3]; decide)
    rw [e3] at this; exact this
  · rw [q] at us0; exact absurd us0 (by decide)
end Cls1
