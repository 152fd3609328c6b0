/-! LINES: what a door ought not -/
def cI (z : Int) : Int32 := Int32.ofNat z.toNat
section NotL
variable {xl : List Int32} {b : Nat → Int} {lo L n n2 nv nd cnt : Nat} {ι ι' κ κ' : IS} {t : TK} {Q : Option Value → IS → Prop} {x1 : Int32} {w : Value}
theorem cI_int {z : Int} (h0 : 0 ≤ z) (h1 : z ≤ 1000000) : (cI z).toInt = z := by unfold cI; rw [i_of (by omega)]; omega
theorem cI_eq {x : Int32} {z : Int} (h : x.toInt = z) (h0 : 0 ≤ z) (h1 : z ≤ 1000000) : x = cI z := by rw [i_eq, h, cI_int h0 h1]
theorem bit_one : ∀ i, i < 32 → (1 : Int32).toBitVec.getLsbD i = decide (i = 0) := by decide +kernel
theorem and_one (x : Int32) : x &&& 1 = 0 ∨ x &&& 1 = 1 := by
  cases h : x.toBitVec.getLsbD 0 with
  | false =>
    refine Or.inl (Int32.toBitVec_inj.mp (BitVec.eq_of_getLsbD_eq fun i hi => ?_))
    rw [Int32.toBitVec_and, BitVec.getLsbD_and, bit_one i hi]
    by_cases e : i = 0
    · subst e; rw [h]; rfl
    · simp [e]
  | true =>
    refine Or.inr (Int32.toBitVec_inj.mp (BitVec.eq_of_getLsbD_eq fun i hi => ?_))
    rw [Int32.toBitVec_and, BitVec.getLsbD_and, bit_one i hi]
    by_cases e : i = 0
    · subst e; rw [h]; rfl
    · simp [e]
theorem or_zero {x y : Int32} (h : x ||| y = 0) : y = 0 := by
  refine Int32.toBitVec_inj.mp (BitVec.eq_of_getLsbD_eq fun i hi => ?_)
  have h1 : (x ||| y).toBitVec.getLsbD i = (0 : Int32).toBitVec.getLsbD i := by rw [h]
  have h2 : (0 : Int32).toBitVec.getLsbD i = false := BitVec.getLsbD_zero
  rw [h2, Int32.toBitVec_or, BitVec.getLsbD_or, Bool.or_eq_false_iff] at h1
  rw [h1.2, h2]
theorem or_nz {x : Int32} {z : Int} (h0 : 0 ≤ z) (h1 : z ≤ 5) : ¬ x ||| ((1 : Int32) <<< (cI z &&& 31)) = 0 := by
  intro h
  have h2 := or_zero h
  have h3 : z = 0 ∨ z = 1 ∨ z = 2 ∨ z = 3 ∨ z = 4 ∨ z = 5 := by omega
  rcases h3 with rfl | rfl | rfl | rfl | rfl | rfl <;> exact absurd h2 (by decide)
/-- the class's way through such a line, from its name on -/
theorem nX {s1 s2 s3 : TK} (e1 : tokF b L t.2.2.1 = s1) (e2 : tokF b L s1.2.2.1 = s2) (e3 : tokF b L s2.2.2.1 = s3) (hB : BX b L ι) (hT : TX ι t) (ht : TBd lo b L t) (h0 : ι 1 2 = 0)
    (hF1 : ¬ nOK s1 3 → ∀ ι' : IS, FX ι' s1.2.1 → Q none ι')
    (hF2 : nOK s1 3 → ¬ nOK s2 5 → ∀ ι' : IS, FX ι' s2.2.1 → Q none ι')
    (hF3 : nOK s1 3 → nOK s2 5 → ¬ ((ι (10 + 2 * s1.2.2.2.toNat) 2 >>> (cI s2.2.2.2 &&& 31)) &&& 1) = 0 → ∀ ι' : IS, FX ι' s2.2.1 → Q none ι')
    (hO : nOK s1 3 → nOK s2 5 → ((ι (10 + 2 * s1.2.2.2.toNat) 2 >>> (cI s2.2.2.2 &&& 31)) &&& 1) = 0 → ∀ ι' : IS, (∀ a j, dX a j → ¬ (a = 10 + 2 * s1.2.2.2.toNat ∧ j = 2) → ι' a j = ι a j) → ι' (10 + 2 * s1.2.2.2.toNat) 2 = ι (10 + 2 * s1.2.2.2.toNat) 2 ||| (1 <<< (cI s2.2.2.2 &&& 31)) → BX b L ι' → EX b L ι' s3 → Q none ι') :
    PC xl n 37 0 [(0, .ref 1)] [] ι Q := by
  have b1 : TBd lo b L s1 := e1 ▸ tok_n ht
  have b2 : TBd lo b L s2 := e2 ▸ tok_n b1
  have b3 : TBd lo b L s3 := e3 ▸ tok_n b2
  refine (t_37_0 ?_).weak
  rw [rf_1_0, rf_1_1, rf_2_0, rf_3_1]
  refine advT hB hT ht (fun ι1 k1 => ?_)
  rw [e1] at k1
  refine numX (m := 3) (TX.tk k1) b1 rfl (fun g1 => ?_) (fun g1 ι' hf => ?_)
  rotate_left
  · intro r hr
    cases hr
    exact ⟨fun c => absurd rfl c, fun _ => hF1 g1 ι' hf⟩
  intro r hr
  cases hr
  refine ⟨fun _ _ _ => ?_, fun c => absurd c (by decide)⟩
  have p1 : (ι1 22 5).toInt = s1.2.2.2 := (TX.tk k1).2.2.2 g1.1
  have v1 := b1.2.2.2.1 g1.1
  have d4 : s1.2.2.2.toNat < 4 := by have := g1.2; omega
  have p1n : (ι1 22 5).toInt = (s1.2.2.2.toNat : Nat) := by rw [p1]; omega
  rw [i_ixn p1n, re_9 _ d4]
  generalize hd : s1.2.2.2.toNat = d at *
  refine advT (hB.tk k1) (TX.tk k1) b1 (fun ι2 k2 => ?_)
  rw [e2] at k2
  refine numX (m := 5) (TX.tk k2) b2 rfl (fun g2 => ?_) (fun g2 ι' hf => ?_)
  rotate_left
  · intro r hr
    cases hr
    exact ⟨fun c => absurd rfl c, fun _ => hF2 g1 g2 ι' hf⟩
  intro r hr
  cases hr
  refine ⟨fun _ => ?_, fun c => absurd c (by decide)⟩
  have v2 := b2.2.2.2.1 g2.1
  have p2 : ι2 22 5 = cI s2.2.2.2 := cI_eq ((TX.tk k2).2.2.2 g2.1) v2.1 (by omega)
  have d2 : ∀ a j, dX a j → ι2 a j = ι a j := fun a j hd => (tkX_d k2 a j hd).trans (tkX_d k1 a j hd)
  have q2 : ι2 (10 + 2 * d) 2 = ι (10 + 2 * d) 2 := d2 _ _ (by unfold dX; omega)
  refine (t_38_0 ?_).weak
  rw [p2, q2]
  refine ⟨fun c => ?_, fun c => ?_⟩
  rotate_left
  · intro r hr
    cases hr
    refine ⟨fun c => absurd c (by decide), fun _ => ?_⟩
    exact fail_spec (hF3 g1 g2 (by rw [c]; decide) _ (FX.fail (TX.tk k2) (by decide)))
  have hbit := (and_one (ι (10 + 2 * d) 2 >>> (cI s2.2.2.2 &&& 31))).resolve_right c
  intro r hr
  cases hr
  refine ⟨fun _ => ?_, fun c => absurd rfl c⟩
  refine (t_39_0 ⟨fun c => absurd c (by decide), fun _ => ?_⟩).weak
  rw [q2]
  have f1 : ∀ a j, ¬ (a = 10 + 2 * d ∧ j = 2) → (up ι2 (10 + 2 * d) 2 (ι (10 + 2 * d) 2 ||| (1 <<< (cI s2.2.2.2 &&& 31)))) a j = ι2 a j := fun a j h1 => up_ne h1
  have f2 : (up ι2 (10 + 2 * d) 2 (ι (10 + 2 * d) 2 ||| (1 <<< (cI s2.2.2.2 &&& 31)))) (10 + 2 * d) 2 = ι (10 + 2 * d) 2 ||| (1 <<< (cI s2.2.2.2 &&& 31)) := up_same _ _ _ _
  revert f1 f2
  generalize (up ι2 (10 + 2 * d) 2 (ι (10 + 2 * d) 2 ||| (1 <<< (cI s2.2.2.2 &&& 31)))) = ι3
  intro f1 f2
  have B3 : BX b L ι3 := ((hB.tk k1).tk k2).congr (fun j => f1 _ _ (by omega)) (fun j => f1 _ _ (by omega))
  have T3 : TX ι3 s2 := (TX.tk k2).congr (fun j => f1 _ _ (by omega))
  refine advT B3 T3 b2 (fun ι4 k4 => ?_)
  rw [e3] at k4
  have z4 : ι4 1 2 = 0 := by rw [tkX_f k4, f1 1 2 (by omega), tkX_f k2, tkX_f k1]; exact h0
  refine endX (B3.tk k4) (TX.tk k4) b3 z4 (fun ι5 o5 B5 E5 => ?_)
  have o : ∀ a j, dX a j → ι5 a j = ι3 a j := fun a j hd => (o5 a j hd).trans (tkX_d k4 a j hd)
  refine hO g1 g2 hbit ι5 (fun a j hd h1 => ?_) ?_ B5 E5
  · rw [o a j hd, f1 a j h1, d2 a j hd]
  · rw [o _ _ (by unfold dX; omega), f2]
/-- the model's, from the token behind the name on -/
theorem nM {s1 s2 s3 : TK} (hB : BM b L κ) (hT : TM κ s1) (b1 : TBd lo b L s1) (h4 : s1.1 ≠ 4) (e2 : tokF b L s1.2.2.1 = s2) (e3 : tokF b L s2.2.2.1 = s3)
    (hF1 : ¬ nOK s1 3 → ∀ κ' : IS, FM κ' s1.2.1 → Q none κ')
    (hF2 : nOK s1 3 → ¬ nOK s2 5 → ∀ κ' : IS, FM κ' s2.2.1 → Q none κ')
    (hF3 : nOK s1 3 → nOK s2 5 → ¬ ((κ 134 s1.2.2.2.toNat >>> (cI s2.2.2.2 &&& 31)) &&& 1) = 0 → ∀ κ' : IS, FM κ' s2.2.1 → Q none κ')
    (hO : nOK s1 3 → nOK s2 5 → ((κ 134 s1.2.2.2.toNat >>> (cI s2.2.2.2 &&& 31)) &&& 1) = 0 → ∀ κ' : IS, (∀ a j, dM a j → ¬ (a = 134 ∧ j = s1.2.2.2.toNat) → ¬ (a = 129 ∧ j = 10) → κ' a j = κ a j) → κ' 134 s1.2.2.2.toNat = κ 134 s1.2.2.2.toNat ||| (1 <<< (cI s2.2.2.2 &&& 31)) → (κ' 129 10).toInt = max (κ 129 10).toInt (s1.2.2.2.toNat : Nat) → BM b L κ' → TM κ' s3 → Q none κ') :
    PC xl n 162 0 [(0, .ref 129)] [] κ Q := by
  have t0 : (0 : Int32).toInt = 0 := rfl
  have t3 : (3 : Int32).toInt = 3 := rfl
  have t5 : (5 : Int32).toInt = 5 := rfl
  have b2 : TBd lo b L s2 := e2 ▸ tok_n b1
  have b3 : TBd lo b L s3 := e3 ▸ tok_n b2
  -- behind a fault
  have fl : ∀ (κ1 : IS) (r1 : Int32) (p : Nat), FM κ1 p → (∀ κ' : IS, FM κ' p → Q none κ') → PC xl n 162 27 [(0, .ref 129), (1, .int r1)] [.ref 129] κ1 Q := by
    intro κ1 r1 p hF hQ
    have F2 : FM (up κ1 129 10 (κ1 129 10)) p := hF.congr (up_ne (by simp)) (up_ne (by simp))
    refine (t_162_27 (looked_f (nz F2.1) ?_)).weak
    intro r hr
    cases hr
    exact ⟨fun _ => next_f F2.1 (hQ _ F2), fun c => absurd c (nz F2.1)⟩
  by_cases g1 : nOK s1 3
  rotate_left
  · refine (t_162_0 (rdn_bad hT h4 (fun hh => g1 ⟨hh.1, by rw [t3] at hh; omega⟩) (fun c hc => ?_))).weak
    have F1 : FM (failM κ c) s1.2.1 := FM.fail hT hc
    intro r hr
    cases hr
    exact ⟨fun _ => fl _ _ _ F1 (hF1 g1), fun c => absurd c (nz F1.1)⟩
  have v1 := b1.2.2.2.1 g1.1
  have d4 : s1.2.2.2.toNat < 4 := by have := g1.2; omega
  have k17 : (κ 129 17).toInt = (s1.2.2.2.toNat : Nat) := by rw [hT.2.2.2.2 g1.1]; omega
  generalize hd : s1.2.2.2.toNat = d at *
  refine (t_162_0 (rdn_ok hB hT b1 g1.1 (by rw [t0]; omega) (by rw [t3]; exact g1.2) (fun κ1 k1 => ?_))).weak
  rw [e2] at k1
  intro r hr
  cases hr
  by_cases h42 : s2.1 = 4
  · have F2 := FM.four (TM.tk k1) h42
    exact ⟨fun _ => fl _ _ _ F2 (hF2 g1 (fun hh => by have := hh.1; omega)), fun c => absurd c (nz F2.1)⟩
  have f18 := ((TM.tk k1).2.2.1 h42).2
  have k10 : κ1 129 10 = κ 129 10 := k1.1 129 10 (by omega)
  -- behind the highest door
  have rest : ∀ κ2 : IS, (∀ a j, ¬ (a = 129 ∧ j = 10) → κ2 a j = κ1 a j) → (κ2 129 10).toInt = max (κ 129 10).toInt (d : Nat) → PC xl n 161 0 [(0, .ref 129), (1, .int 0), (2, .int 5)] [] κ2 (fun v2 κ3 => ∀ r2, v2 = some (.int r2) → ((¬ (κ3 129 18) = 0 → PC xl n 151 0 [(0, .ref 129)] [] κ3 (fun _ κ4 => Q none κ4)) ∧ ((κ3 129 18) = 0 → (0 ≤ (κ 129 17).toInt → (κ 129 17).toInt < ln (rf 129 11) → ((¬ (((κ3 (rf 129 11) (κ 129 17).toNatClampNeg) >>> (r2 &&& 31)) &&& 1) = 0 → PC xl n 162 67 [(0, .ref 129), (1, .int (κ 129 17)), (2, .int r2)] [.int 0, .ref 129] κ3 Q) ∧ ((((κ3 (rf 129 11) (κ 129 17).toNatClampNeg) >>> (r2 &&& 31)) &&& 1) = 0 → PC xl n 162 67 [(0, .ref 129), (1, .int (κ 129 17)), (2, .int r2)] [.int 1, .ref 129] κ3 Q)))))) := by
    intro κ2 o2 m2
    have T2 : TM κ2 s2 := (TM.tk k1).congr (fun j _ _ => o2 _ _ (by omega))
    have B2 : BM b L κ2 := (hB.tk k1).congr (o2 _ _ (by omega)) (fun q => o2 _ _ (by omega))
    have e := T2.2.2.1 h42
    by_cases g2 : nOK s2 5
    rotate_left
    · refine looked_bad e.2 (fun hh => g2 ?_) (fun c hc => ?_)
      · have t2e : (2 : Int32).toInt = 2 := rfl
        have q1 := hh.1
        rw [i_eq, e.1, t2e] at q1
        have q2 : s2.1 = 2 := by omega
        have q3 := T2.2.2.2.2 q2
        rw [q3, t5] at hh
        exact ⟨q2, hh.2.2⟩
      · have F2 : FM (failM κ2 c) s2.2.1 := FM.fail T2 hc
        intro r hr
        cases hr
        exact ⟨fun _ => next_f F2.1 (hF2 g1 g2 _ F2), fun c => absurd c (nz F2.1)⟩
    have v2 := b2.2.2.2.1 g2.1
    have w2 : (κ2 129 17).toInt = s2.2.2.2 := T2.2.2.2.2 g2.1
    refine looked_ok e.2 (by rw [i_eq, e.1, g2.1]; rfl) (by rw [w2, t0]; exact v2.1) (by rw [w2, t5]; exact g2.2) ?_
    have c2 : κ2 129 17 = cI s2.2.2.2 := cI_eq w2 v2.1 (by omega)
    intro r hr
    cases hr
    have x4 : κ2 134 d = κ 134 d := by rw [o2 _ _ (by omega), k1.1 _ _ (by omega)]
    rw [rf_129_11, i_ixn k17, c2, x4]
    refine ⟨fun c => absurd e.2 c, fun _ _ _ => ⟨fun c => ?_, fun c => ?_⟩⟩
    · refine (t_162_67 (needs_spec (fun hh => ?_) (fun _ _ => ?_))).weak
      · rcases hh with hh | hh
        · exact absurd rfl hh
        · exact absurd e.2 hh
      · intro _ _ _ _
        have F2 : FM (failM κ2 4) s2.2.1 := FM.fail T2 (by decide)
        have F3 : ∀ x, FM (up (failM κ2 4) (rf 129 11) (κ 129 17).toNatClampNeg x) s2.2.1 := fun x => F2.congr (up_ne (by rw [rf_129_11]; omega)) (up_ne (by rw [rf_129_11]; omega))
        exact next_f (F3 _).1 (hF3 g1 g2 c _ (F3 _))
    · refine (t_162_67 (needs_spec (fun _ => ?_) (fun c => absurd c (by decide)))).weak
      intro _ _ _ _
      rw [rf_129_11, i_ixn k17, x4]
      have T3 : TM (up κ2 134 d (κ 134 d ||| (1 <<< (cI s2.2.2.2 &&& 31)))) s2 := T2.congr (fun j _ _ => up_ne (by omega))
      have B3 : BM b L (up κ2 134 d (κ 134 d ||| (1 <<< (cI s2.2.2.2 &&& 31)))) := B2.congr (up_ne (by omega)) (fun q => up_ne (by omega))
      refine nextT B3 T3 b2 h42 (fun κ4 k4 => ?_)
      rw [e3] at k4
      refine hO g1 g2 c κ4 (fun a j hd h1 h2 => ?_) ?_ ?_ (B3.tk k4) (TM.tk k4)
      · rw [tkM_d k4 a j hd, up_ne h1, o2 a j h2, tkM_d k1 a j hd]
      · rw [k4.1 _ _ (by omega), up_same]
      · rw [k4.1 _ _ (by omega), up_ne (by omega)]; exact m2
  refine ⟨fun c => absurd f18 c, fun _ => ⟨fun c => ?_, fun c => ?_⟩⟩
  · rw [i_lt, k10, k17] at c
    refine (t_162_27 (rest _ (fun a j h1 => up_ne h1) ?_)).weak
    rw [up_same, k10]; omega
  · rw [i_lt, k10, k17] at c
    refine rest _ (fun a j h1 => up_ne h1) ?_
    rw [up_same, k17]; omega
theorem DR.nots {d : Nat} (h : DR nv nd cnt ι κ) (hd : d < 4) {x : Int32} (hx : ¬ x = 0) (h1 : ∀ a j, dX a j → ¬ (a = 10 + 2 * d ∧ j = 2) → ι' a j = ι a j) (h2 : ∀ a j, dM a j → ¬ (a = 134 ∧ j = d) → ¬ (a = 129 ∧ j = 10) → κ' a j = κ a j) (hi : ι' (10 + 2 * d) 2 = x) (hk : κ' 134 d = x) (hm : (κ' 129 10).toInt = max (κ 129 10).toInt (d : Nat)) : DR nv nd cnt ι' κ' := by
  have x1 : ∀ a j, a ≤ 21 → ¬ a = 1 → ¬ (a = 10 + 2 * d ∧ j = 2) → ι' a j = ι a j := fun a j h3 h4 h5 => h1 a j ⟨h3, fun e => h4 e.1⟩ h5
  have m3 : ∀ j, κ' 133 j = κ 133 j := fun j => h2 133 j (Or.inl rfl) (by omega) (by omega)
  have m4 : ∀ j, ¬ j = d → κ' 134 j = κ 134 j := fun j g => h2 134 j (Or.inr (Or.inl rfl)) (fun e => g e.2) (by omega)
  have m9 : ∀ j, 6 ≤ j → j ≤ 9 → κ' 129 j = κ 129 j := fun j g1 g2 => h2 129 j (Or.inr (Or.inr ⟨rfl, g1, by omega⟩)) (by omega) (by omega)
  obtain ⟨⟨a1, a2, a3⟩, ⟨b1, b2, b3⟩, c, dv, e, f, g, i1, i2⟩ := h
  refine ⟨⟨a1, by rw [x1 3 2 (by omega) (by omega) (by omega)]; exact a2, by rw [m9 6 (by omega) (by omega)]; exact a3⟩, ⟨b1, by rw [x1 3 3 (by omega) (by omega) (by omega)]; exact b2, by rw [m9 7 (by omega) (by omega)]; exact b3⟩, ?_, ?_, ?_, ?_, ?_, by rw [x1 2 6 (by omega) (by omega) (by omega)]; exact i1, by rw [m3]; exact i2⟩
  · rw [h1 1 4 ⟨by omega, by omega⟩ (by omega), m9 8 (by omega) (by omega)]; exact c
  · refine ⟨fun v hv => ?_, fun v hv => by rw [m3]; exact dv.2 v hv⟩
    rw [x1 _ _ (by omega) (by omega) (by omega), x1 _ _ (by omega) (by omega) (by omega), x1 _ _ (by omega) (by omega) (by omega), x1 _ _ (by omega) (by omega) (by omega), m3, m3, m3]
    exact dv.1 v hv
  · intro q hq
    obtain ⟨e1, e2, e3, e4, e5, e6⟩ := e q hq
    rw [x1 _ 1 (by omega) (by omega) (by omega), x1 _ 3 (by omega) (by omega) (by omega), m3, m3, m3]
    refine ⟨e1, e2, e3, ?_, e5, fun i hi => ?_⟩
    · by_cases eq : q = d
      · rw [eq, hi, hk]
      · rw [x1 _ _ (by omega) (by omega) (by omega), m4 q eq]; exact e4
    · rw [x1 _ _ (by omega) (by omega) (by omega), m3]
      exact e6 i hi
  · refine ⟨f.1, by rw [x1 _ _ (by omega) (by omega) (by omega)]; exact f.2.1, by rw [m3]; exact f.2.2.1, fun i hi => ?_⟩
    rw [x1 _ _ (by omega) (by omega) (by omega), m3]
    exact f.2.2.2 i hi
  · have x18 : ∀ i, ι' 18 i = ι 18 i := fun i => x1 18 i (by omega) (by omega) (by omega)
    have mx1 : (κ 129 10).toInt ≤ (κ' 129 10).toInt := by clear g; rw [hm]; omega
    have mx2 : (d : Int) ≤ (κ' 129 10).toInt := by clear g; rw [hm]; omega
    have mx3 : (κ 129 10).toInt < (d : Nat) → (d : Int) = (κ' 129 10).toInt := by clear g; rw [hm]; omega
    have mx4 : ¬ (κ 129 10).toInt < (d : Nat) → (κ' 129 10).toInt = (κ 129 10).toInt ∧ ¬ (κ 129 10).toInt = -4 := by clear g; rw [hm]; omega
    obtain ⟨g1, g2, g3, g4⟩ := g
    refine ⟨fun i hi hl => ?_, fun q hq hn => ?_, ?_, ?_⟩
    · rw [x18] at hl ⊢
      have := g1 i hi hl
      rw [m9 9 (by clear g3 g4; omega) (by clear g3 g4; omega)]
      exact ⟨this.1, Int.le_trans this.2 mx1⟩
    · by_cases eq : q = d
      · rw [eq]; exact mx2
      · rw [m4 q eq] at hn
        exact Int.le_trans (g2 q hq hn) mx1
    · rw [m9 9 (by clear g3 g4; omega) (by clear g3 g4; omega)]
      simp only [x18]
      exact g3
    · by_cases hc : (κ 129 10).toInt < (d : Nat)
      · exact Or.inr (Or.inr ⟨d, hd, by rw [hk]; exact hx, mx3 hc⟩)
      · rw [(mx4 hc).1]
        simp only [x18]
        rcases g4 with q | q | ⟨q, q1, q2, q3⟩
        · exact absurd q (mx4 hc).2
        · exact Or.inr (Or.inl q)
        · refine Or.inr (Or.inr ⟨q, q1, ?_, q3⟩)
          by_cases eq : q = d
          · rw [eq, hk]; exact hx
          · rw [m4 q eq]; exact q2
theorem N2 {K : IS → IS → Prop} (h : OK lo b L t nv nd cnt ι κ) (h1 : t.1 = 1) (hx : x1.toInt = 5) (hK : ∀ ι1 κ1 : IS, LO lo b L ι1 κ1 → K ι1 κ1) : PC xl n 37 0 [(0, .ref 1)] [] ι (fun _ ι1 => PC xl n2 154 123 [(0, .ref 129), (1, .int x1)] [] κ (fun _ κ1 => K ι1 κ1)) := by
  obtain ⟨hX, hM, tX, tM, tb, hd, h0⟩ := h
  have b1 : TBd lo b L (tokF b L t.2.2.1) := tok_n tb
  have go : ∀ (κ1 : IS) {R : Option Value → IS → Prop}, PC xl n2 162 0 [(0, .ref 129)] [] κ1 (fun _ κ2 => R none κ2) → PC xl n2 158 0 [(0, .ref 129), (1, .int x1)] [] κ1 R := by
    intro κ1 R hR
    exact (t_158_0 ⟨fun c => by omega, fun _ => hR, fun c => by omega, fun c => by omega⟩).weak
  refine nX rfl rfl rfl hX tX tb h0 (fun g1 ι1 f1 => ?_) (fun g1 g2 ι1 f1 => ?_) (fun g1 g2 g3 ι1 f1 => ?_) (fun g1 g2 g3 ι1 o1 v1 B1 E1 => ?_)
  · refine pre123 hM tM tb h1 (fun κ1 k1 h4 => hK _ _ (Or.inr (FR.mk f1 (FM.four (TM.tk k1) h4)))) (fun κ1 k1 h4 => go κ1 ?_)
    refine nM (hM.tk k1) (TM.tk k1) b1 h4 rfl rfl (fun _ κ2 f2 => ?_) (fun c => absurd c g1) (fun c => absurd c g1) (fun c => absurd c g1)
    exact tail_spec (lo := lo) (b := b) (L := L) (Or.inr (FR.mk f1 f2)) (fun κ3 h3 => hK _ _ h3)
  all_goals
    have v1b := b1.2.2.2.1 g1.1
    have d4 : (tokF b L t.2.2.1).2.2.2.toNat < 4 := by have := g1.2; omega
    have bits : ∀ κ1 : IS, tkM κ κ1 (tokF b L t.2.2.1) → ι (10 + 2 * (tokF b L t.2.2.1).2.2.2.toNat) 2 = κ1 134 (tokF b L t.2.2.1).2.2.2.toNat := fun κ1 k1 => by
      rw [k1.1 134 _ (by omega)]
      exact (hd.2.2.2.2.1 _ d4).2.2.2.1
  · refine pre123 hM tM tb h1 (fun κ1 k1 h4 => absurd g1.1 (by omega)) (fun κ1 k1 h4 => go κ1 ?_)
    refine nM (hM.tk k1) (TM.tk k1) b1 h4 rfl rfl (fun c => absurd g1 c) (fun _ _ κ2 f2 => ?_) (fun _ c => absurd c g2) (fun _ c => absurd c g2)
    exact tail_spec (lo := lo) (b := b) (L := L) (Or.inr (FR.mk f1 f2)) (fun κ3 h3 => hK _ _ h3)
  · refine pre123 hM tM tb h1 (fun κ1 k1 h4 => absurd g1.1 (by omega)) (fun κ1 k1 h4 => go κ1 ?_)
    refine nM (hM.tk k1) (TM.tk k1) b1 h4 rfl rfl (fun c => absurd g1 c) (fun _ c => absurd g2 c) (fun _ _ _ κ2 f2 => ?_) (fun _ _ c => absurd c (by rw [← bits κ1 k1]; exact g3))
    exact tail_spec (lo := lo) (b := b) (L := L) (Or.inr (FR.mk f1 f2)) (fun κ3 h3 => hK _ _ h3)
  · refine pre123 hM tM tb h1 (fun κ1 k1 h4 => absurd g1.1 (by omega)) (fun κ1 k1 h4 => go κ1 ?_)
    refine nM (hM.tk k1) (TM.tk k1) b1 h4 rfl rfl (fun c => absurd g1 c) (fun _ c => absurd g2 c) (fun _ _ c => absurd (by rw [← bits κ1 k1]; exact g3) c) (fun _ _ _ κ2 o2 w0 m2 B2 T2 => ?_)
    have b2 : TBd lo b L (tokF b L (tokF b L t.2.2.1).2.2.1) := tok_n b1
    have b3 : TBd lo b L (tokF b L (tokF b L (tokF b L t.2.2.1).2.2.1).2.2.1) := tok_n b2
    have v2b := b2.2.2.2.1 g2.1
    have D : DR nv nd cnt ι1 κ2 := (hd.congr (fun _ _ _ => rfl) (tkM_d k1)).nots d4 (or_nz v2b.1 g2.2) o1 o2 v1 (by rw [w0, ← bits κ1 k1]) m2
    have fin : EL lo b L ι1 κ2 := by
      by_cases h43 : (tokF b L (tokF b L (tokF b L t.2.2.1).2.2.1).2.2.1).1 = 4
      · rcases E1 with ⟨q, -⟩ | ⟨-, q⟩
        · omega
        · exact Or.inr (FR.mk q (FM.four T2 h43))
      · exact Or.inl ⟨_, nv, nd, cnt, B1, B2, T2, b3, h43, D, E1⟩
    exact tail_spec fin (fun κ3 h3 => hK _ _ h3)
end NotL
