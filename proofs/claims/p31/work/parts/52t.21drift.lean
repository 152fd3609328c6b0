/-! CALLS, XII: drift -/
noncomputable def gotF (y : Int32) : Int32 := (y >>> (16 &&& 31)) &&& 32767
noncomputable def yF (y : Int32) : Nat → Int32
  | 0 => y
  | i + 1 => yF y i * 1103515245 + 12345
/-- the ACT that a number makes -/
noncomputable def dA (nv nd : Nat) (y : Int32) : Int32 := if (gotF y - gotF y / 8 * 8) < 5 then 10 * (gotF y / 8 - gotF y / 8 / Int32.ofNat nv * Int32.ofNat nv) + (gotF y / 32 - gotF y / 32 / Int32.ofNat nd * Int32.ofNat nd) else 90 + (gotF y - gotF y / 8 * 8) - 5
noncomputable def dP (nv nd : Nat) (y : Int32) : Nat → Int32 := fun i => dA nv nd (yF y (i + 1))
noncomputable def drR (nv nd : Nat) (f : Nat → Int32) (x1 x2 x3 : Int32) : Int32 := if (1 ≤ x2.toInt ∧ x2.toInt ≤ 60) ∧ 0 ≤ x3.toInt ∧ x3.toInt ≤ 1 then (if nv = 0 ∨ nd = 0 then -2 else if x3.toInt = 0 then alF (sq nd (-4) 0 (dP nv nd x1) 0 f x2.toInt.toNat) nd else wrF (sq nd (-4) 0 (dP nv nd x1) 0 f x2.toInt.toNat) nd) else -1
section Drift
variable {xl : List Int32} {n : Nat} {ι ι0 ι1 κ κ0 κ1 : IS} {Q : Option Value → IS → Prop} {x1 x2 x3 x y : Int32} {u v d nd nv m s : Nat} {f g : Nat → Int32} {r : Int32}
theorem m15 (i : Nat) : (32767#32).getLsbD i = decide (i < 15) := by
  have h : (32767#32).getLsbD i = (decide (i < 32) && Nat.testBit (2 ^ 15 - 1) i) := BitVec.getLsbD_ofNat 32 (2 ^ 15 - 1) i
  rw [h, Nat.testBit_two_pow_sub_one]
  by_cases e : i < 15
  · simp [e]; omega
  · simp [e]
theorem sh16 : (y.toUInt32 >>> ((16 : Int32).toUInt32 &&& Int32.toUInt32 31)).toInt32 &&& 32767 = gotF y := by
  unfold gotF
  apply Int32.toBitVec_inj.mp
  have e1 : ((y.toUInt32 >>> ((16 : Int32).toUInt32 &&& Int32.toUInt32 31)).toInt32 &&& 32767).toBitVec = (y.toBitVec >>> 16) &&& 32767#32 := rfl
  have e2 : ((y >>> (16 &&& 31)) &&& 32767).toBitVec = (y.toBitVec.sshiftRight 16) &&& 32767#32 := rfl
  rw [e1, e2]
  apply BitVec.eq_of_getLsbD_eq
  intro i hi
  rw [BitVec.getLsbD_and, BitVec.getLsbD_and, m15]
  by_cases e : i < 15
  · rw [BitVec.getLsbD_ushiftRight, BitVec.getLsbD_sshiftRight]
    have : ¬ 32 ≤ i := by omega
    have h2 : 16 + i < 32 := by omega
    simp [this, h2]
  · simp [e]
theorem got_b : 0 ≤ (gotF y).toInt ∧ (gotF y).toInt ≤ 32767 := by
  unfold gotF
  have e : ((y >>> (16 &&& 31)) &&& 32767).toInt = (((y >>> (16 &&& 31)).toBitVec &&& 32767#32)).toInt := rfl
  have h1 : ((y >>> (16 &&& 31)).toBitVec &&& 32767#32).toNat ≤ 32767 := by
    rw [BitVec.toNat_and]
    exact Nat.and_le_right
  rw [e, BitVec.toInt_eq_toNat_of_lt (by omega)]
  omega
theorem i_dv {z w : Int} (hx : x.toInt = z) (hy : y.toInt = w) (h0 : 0 ≤ z) (h1 : 0 < w) : (x / y).toInt = z / w := by
  have hr := i_rng x
  rw [Int32.toInt_div, hx, hy, Int.tdiv_eq_ediv_of_nonneg h0]
  have a : z / w ≤ z := Int.ediv_le_self w h0
  have b : 0 ≤ z / w := Int.ediv_nonneg h0 (by omega)
  exact i_bm (by omega)
theorem i_md {z w : Int} (hx : x.toInt = z) (hy : y.toInt = w) (h0 : 0 ≤ z) (h1 : 0 < w) : (x - x / y * y).toInt = z % w := by
  have hr := i_rng x
  have h2 := i_dv hx hy h0 h1
  have a : z / w * w ≤ z := Int.ediv_mul_le z (by omega)
  have b : 0 ≤ z / w := Int.ediv_nonneg h0 (by omega)
  have c : 0 ≤ z / w * w := Int.mul_nonneg b (by omega)
  have h3 : (x / y * y).toInt = z / w * w := by rw [i_mul (by rw [h2, hy]; omega), h2, hy]
  have e := Int.emod_def z w
  rw [Int.mul_comm] at e
  rw [i_sub (by rw [h3, hx]; omega), h3, hx, e]
theorem md_b {z w : Int} (h1 : 0 < w) : 0 ≤ z % w ∧ z % w < w := ⟨Int.emod_nonneg z (by omega), Int.emod_lt_of_pos z h1⟩
theorem c8 : (8 : Int32).toInt = 8 := rfl
theorem c32 : (32 : Int32).toInt = 32 := rfl
theorem c10 : (10 : Int32).toInt = 10 := rfl
theorem c5 : (5 : Int32).toInt = 5 := rfl
theorem c90 : (90 : Int32).toInt = 90 := rfl
/-- the numbers of a VISIT by a seed -/
theorem dv1 (h1 : 0 < nv) (h4 : nv ≤ 4) : (gotF y / 8 - gotF y / 8 / Int32.ofNat nv * Int32.ofNat nv).toInt = ((gotF y).toInt / 8) % nv := i_md (i_dv rfl c8 got_b.1 (by omega)) (i_of (by omega)) (Int.ediv_nonneg got_b.1 (by omega)) (by omega)
theorem dv2 (h1 : 0 < nd) (h4 : nd ≤ 4) : (gotF y / 32 - gotF y / 32 / Int32.ofNat nd * Int32.ofNat nd).toInt = ((gotF y).toInt / 32) % nd := i_md (i_dv rfl c32 got_b.1 (by omega)) (i_of (by omega)) (Int.ediv_nonneg got_b.1 (by omega)) (by omega)
theorem dv3 : (gotF y - gotF y / 8 * 8).toInt = (gotF y).toInt % 8 := i_md rfl c8 got_b.1 (by omega)
theorem dA_v (h1 : 0 < nv) (h4 : nv ≤ 4) (h2 : 0 < nd) (h5 : nd ≤ 4) (hc : (gotF y - gotF y / 8 * 8) < 5) : (dA nv nd y).toInt = 10 * (((gotF y).toInt / 8) % nv) + ((gotF y).toInt / 32) % nd := by
  have b1 := md_b (z := (gotF y).toInt / 8) (w := nv) (by omega)
  have b2 := md_b (z := (gotF y).toInt / 32) (w := nd) (by omega)
  unfold dA
  rw [if_pos hc]
  have e1 : (10 * (gotF y / 8 - gotF y / 8 / Int32.ofNat nv * Int32.ofNat nv)).toInt = 10 * (((gotF y).toInt / 8) % nv) := by rw [i_mul (by rw [c10, dv1 h1 h4]; omega), c10, dv1 h1 h4]
  rw [i_add (by rw [e1, dv2 h2 h5]; omega), e1, dv2 h2 h5]
theorem dA_s (hc : ¬ (gotF y - gotF y / 8 * 8) < 5) : (dA nv nd y).toInt = 85 + (gotF y).toInt % 8 ∧ 90 ≤ (dA nv nd y).toInt ∧ (dA nv nd y).toInt ≤ 92 := by
  have b1 := md_b (z := (gotF y).toInt) (w := 8) (by omega)
  have hc2 := hc
  rw [i_lt, dv3, c5] at hc2
  have e : (dA nv nd y).toInt = 85 + (gotF y).toInt % 8 := by
    unfold dA
    rw [if_neg hc]
    have e1 : (90 + (gotF y - gotF y / 8 * 8)).toInt = 90 + (gotF y).toInt % 8 := by rw [i_add (by rw [c90, dv3]; omega), c90, dv3]
    rw [i_sub (by rw [e1, c5]; omega), e1, c5]; omega
  omega
theorem dA_va (h1 : 0 < nv) (h4 : nv ≤ 4) (h2 : 0 < nd) (h5 : nd ≤ 4) : VA nv nd (dA nv nd y) := by
  unfold VA knP
  by_cases hc : (gotF y - gotF y / 8 * 8) < 5
  · have b1 := md_b (z := (gotF y).toInt / 8) (w := nv) (by omega)
    have b2 := md_b (z := (gotF y).toInt / 32) (w := nd) (by omega)
    rw [dA_v h1 h4 h2 h5 hc]
    refine ⟨by omega, Or.inr ⟨by omega, by omega⟩⟩
  · have := dA_s (nv := nv) (nd := nd) hc
    exact ⟨by omega, Or.inl ⟨by omega, by omega⟩⟩
theorem seedX_spec (h1 : 0 < nv) (h2 : 0 < nd) (hT : TW 86 nv nd g ι) (hw : WF g) (hb : ι 86 4 = -4) (hq : ∀ ι', Sm 86 100 ι ι' → ι' 86 4 = -4 → TW 86 nv nd (stp nd (-4) 0 g (dA nv nd y)) ι' → Q none ι') : PC xl n 129 0 [(0, .ref 86), (1, .int (gotF y))] [] ι Q := by
  have h4 := hT.1.1
  have h5 := hT.2.1.1
  refine (t_129_0 ⟨fun c => ?_, fun c => ?_⟩).weak
  · have e2 : ι 86 2 = Int32.ofNat nv := i_on hT.1.2
    have e3 : ι 86 3 = Int32.ofNat nd := i_on hT.2.1.2
    have b1 := md_b (z := (gotF y).toInt / 8) (w := nv) (by omega)
    have b2 := md_b (z := (gotF y).toInt / 32) (w := nd) (by omega)
    have hA := dA_v h1 h4 h2 h5 c
    have d1 := dv1 (y := y) h1 h4
    have d2 := dv2 (y := y) h2 h5
    have n9 : ¬ 90 ≤ (dA nv nd y).toInt := by omega
    have av : avF (dA nv nd y) = (((gotF y).toInt / 8) % nv).toNat := by unfold avF; omega
    have ad : adF (dA nv nd y) = (((gotF y).toInt / 32) % nd).toNat := by unfold adF; omega
    refine (t_98_0 ⟨fun z => ?_, fun _ => ⟨fun z => ?_, fun _ => ?_⟩⟩).weak
    · rw [i_lt, n0, hT.1.2] at z; omega
    · rw [i_lt, n0, hT.2.1.2] at z; omega
    · intro r e; cases e
      refine ⟨fun z => absurd z (by decide), fun _ _ _ => ?_⟩
      rw [e2, e3]
      refine rcX_spec (bo := -4) (lw := 0) (by decide) hT hw ⟨by rw [hb]; rfl, no4⟩ (fun c => ?_) (fun v d hv hvl hd hdl hk => ?_) (fun v d hv hvl hd hdl hk ι1 s1 j1 t1 => ?_) no4
      · rw [d1, d2] at c; omega
      · rw [d1] at hv
        rw [d2] at hd
        intro r e; cases e
        refine hq ι Sm.rfl hb ?_
        unfold stp; rw [if_neg n9, if_neg (by rw [av, ad, show (((gotF y).toInt / 8) % nv).toNat = v by omega, show (((gotF y).toInt / 32) % nd).toNat = d by omega]; exact hk)]; exact hT
      · rw [d1] at hv
        rw [d2] at hd
        intro r e; cases e
        refine hq ι1 s1 (by rw [j1]; exact hb) ?_
        unfold stp
        rw [if_neg n9, av, ad, show (((gotF y).toInt / 8) % nv).toNat = v by omega, show (((gotF y).toInt / 32) % nd).toNat = d by omega, if_pos hk]; exact t1
  · have hA := dA_s (nv := nv) (nd := nd) c
    have ea : 90 + (gotF y - gotF y / 8 * 8) - 5 = dA nv nd y := by unfold dA; rw [if_neg c]
    rw [ea]
    refine weaX_spec (by decide) hw hT rfl hA.2 (fun ι1 s1 j1 t1 => hq ι1 s1 (by rw [j1]; exact hb) ?_)
    unfold stp; rw [if_pos hA.2.1]; exact t1
theorem drXL {N : Nat} (h1 : 0 < nv) (h2 : 0 < nd) (hN : x2.toInt = N) (h : HX nv nd f ι0) (hq : ∀ ι', Sm 86 100 ι0 ι' → TW 86 nv nd (sq nd (-4) 0 (dP nv nd y) 0 f N) ι' → (¬ x3 = 0 → Q (some (.int (wrF (sq nd (-4) 0 (dP nv nd y) 0 f N) nd))) ι') ∧ (x3 = 0 → Q (some (.int (alF (sq nd (-4) 0 (dP nv nd y) 0 f N) nd))) ι')) : ∀ (n i : Nat) (ι : IS) (x5 : Int32), x5.toInt = i → i ≤ N → Sm 86 100 ι0 ι → ι 86 4 = -4 → TW 86 nv nd (sq nd (-4) 0 (dP nv nd y) 0 f i) ι → PC xl n 128 58 [(0, .ref 0), (1, .int x1), (2, .int x2), (3, .int x3), (4, .int (yF y i)), (5, .int x5)] [] ι Q
  | 0, _, _, _, _, _, _, _, _ => PC.zero
  | n + 1, i, ι, x5, hx, hi, hs, hb, hT => by
    have h4 := hT.1.1
    have h5 := hT.2.1.1
    have r2 := i_rng x2
    have hw := WF.sqK (p := dP nv nd y) (s := 0) (bo := -4) (lw := 0) h.2.2 h4 h5 no4 i (fun _ _ => dA_va h1 h4 h2 h5)
    refine t_128_58 ?_
    rw [rf_0_5, sh16]
    refine ⟨fun c => ?_, fun c => ?_⟩
    · rw [i_lt, hx, hN] at c
      have : i = N := by omega
      subst this
      refine ⟨fun z => wrX_spec (by decide) hw hT ?_, fun z => alX_spec (by decide) hT ?_⟩
      · intro r e; cases e; exact (hq ι hs hT).1 z
      · intro r e; cases e; exact (hq ι hs hT).2 z
    · rw [i_lt, hx, hN] at c
      refine seedX_spec h1 h2 hT hw hb (fun ι1 s1 b1 t1 => ?_)
      refine drXL h1 h2 hN h hq n (i + 1) ι1 (x5 + 1) (i_s hx (by omega)) (by omega) (hs.trans s1) b1 ?_
      show TW 86 nv nd (stp nd (-4) 0 (sq nd (-4) 0 (dP nv nd y) 0 f i) (dA nv nd (yF y (0 + i + 1)))) ι1
      rw [Nat.zero_add]
      exact t1
theorem driftX (h : HX nv nd f ι) : PC xl n 128 0 [(0, .ref 0), (1, .int x1), (2, .int x2), (3, .int x3)] [] ι (XR nv nd f (drR nv nd f x1 x2 x3) ι) := by
  have c60 : (60 : Int32).toInt = 60 := rfl
  unfold drR
  refine (t_128_0 ?_).weak
  rw [rf_0_5, rf_0_2']
  refine ⟨fun c => ?_, fun c => ⟨fun c2 => ?_, fun c2 => ⟨fun c3 => ?_, fun c3 => ⟨fun c4 => ?_, fun c4 => ?_⟩⟩⟩⟩
  · rw [i_lt, n1] at c
    rw [if_neg (by omega)]; exact h.same
  · rw [i_lt, c60] at c2
    rw [if_neg (by omega)]; exact h.same
  · rw [i_lt, n0] at c3
    rw [if_neg (by omega)]; exact h.same
  · rw [i_lt, n1] at c
    rw [i_lt, c60] at c2
    rw [i_lt, n0] at c3
    rw [i_lt, n1] at c4
    rw [if_pos (by omega)]
    have no : (nv = 0 ∨ nd = 0) → XR nv nd f (if nv = 0 ∨ nd = 0 then -2 else if x3.toInt = 0 then alF (sq nd (-4) 0 (dP nv nd x1) 0 f x2.toInt.toNat) nd else wrF (sq nd (-4) 0 (dP nv nd x1) 0 f x2.toInt.toNat) nd) ι (some (.int (-2))) ι := fun q => by rw [if_pos q]; exact h.same
    refine (t_98_0 ⟨fun z => ?_, fun z => ⟨fun z2 => ?_, fun z2 => ?_⟩⟩).weak
    · rw [i_lt, n0, h.tw.1.2] at z
      intro r e; cases e
      exact ⟨fun q => absurd rfl q, fun _ => no (Or.inl (by omega))⟩
    · rw [i_lt, n0, h.tw.2.1.2] at z2
      intro r e; cases e
      exact ⟨fun q => absurd rfl q, fun _ => no (Or.inr (by omega))⟩
    · rw [i_lt, n0, h.tw.1.2] at z
      rw [i_lt, n0, h.tw.2.1.2] at z2
      intro r e; cases e
      rw [if_neg (by omega)]
      refine ⟨fun _ => bcT_spec h (fun ι1 s1 h1 t1 b1 => ?_), fun q => absurd q (by decide)⟩
      refine drXL (N := x2.toInt.toNat) (y := x1) (by omega) (by omega) (by omega) h (fun ι2 s2 t2 => ⟨fun q => ?_, fun q => ?_⟩) n 0 ι1 0 rfl (Nat.zero_le _) s1 b1 t1
      · rw [i_eq, n0] at q
        rw [if_neg q]; exact h.tr s2
      · rw [i_eq, n0] at q
        rw [if_pos q]; exact h.tr s2
  · rw [i_lt, n1] at c4
    rw [if_neg (by omega)]; exact h.same
theorem drML {N : Nat} {w1 : Value} (h1 : 0 < nv) (h2 : 0 < nd) (hN : x2.toInt = N) (h : HM nv nd κ0) (hB : BM2 (-4) 0 κ0) (hq : ∀ κ', AF κ0 κ' → κ' 131 = sq nd (-4) 0 (dP nv nd y) 0 (rO 0 (κ0 130)) N → (¬ x3 = 0 → Q (some (.int (wrF (sq nd (-4) 0 (dP nv nd y) 0 (rO 0 (κ0 130)) N) nd))) κ') ∧ (x3 = 0 → Q (some (.int (alF (sq nd (-4) 0 (dP nv nd y) 0 (rO 0 (κ0 130)) N) nd))) κ')) : ∀ (n i : Nat) (κ : IS) (x5 : Int32) (w6 w7 : Value), x5.toInt = i → i ≤ N → AF κ0 κ → κ 131 = sq nd (-4) 0 (dP nv nd y) 0 (rO 0 (κ0 130)) i → PC xl n 229 48 [(0, .ref 129), (1, w1), (2, .int x2), (3, .int x3), (4, .int (yF y i)), (5, .int x5), (6, w6), (7, w7)] [] κ Q
  | 0, _, _, _, _, _, _, _, _, _ => PC.zero
  | n + 1, i, κ, x5, w6, w7, hx, hi, ha, hk => by
    have h4 := h.1.1
    have h5 := h.2.1.1
    have r2 := i_rng x2
    have hw := WF.sqK (p := dP nv nd y) (s := 0) (bo := -4) (lw := 0) h.2.2 h4 h5 no4 i (fun _ _ => dA_va h1 h4 h2 h5)
    have n3' : (κ 129 3).toInt = nv := by rw [ha.2 3 (by omega) (by omega)]; exact h.1.2
    have n4' : (κ 129 4).toInt = nd := by rw [ha.2 4 (by omega) (by omega)]; exact h.2.1.2
    have hBk : BM2 (-4) 0 κ := by unfold BM2; rw [ha.2 20 (by omega) (by omega), ha.2 21 (by omega) (by omega)]; exact hB
    refine t_229_48 ⟨fun c => ?_, fun c => ?_⟩
    · rw [i_lt, hx, hN] at c
      have : i = N := by omega
      subst this
      refine ⟨fun z => wrM_spec (by rw [hk]; exact hw) n4' h5 ?_, fun z => laM_spec n4' h5 ?_⟩
      · intro r e; cases e
        rw [hk]; exact (hq κ ha hk).1 z
      · intro r e; cases e
        rw [hk]; exact (hq κ ha hk).2 z
    · rw [i_lt, hx, hN] at c
      have nxt : ∀ (a : Int32) (w6 w7 : Value), a = dA nv nd (yF y (i + 1)) → PC xl n 203 0 [(0, .ref 129), (1, .int a)] [] κ (fun _ κ3 => PC xl n 229 48 [(0, .ref 129), (1, w1), (2, .int x2), (3, .int x3), (4, .int (yF y i * 1103515245 + 12345)), (5, .int (x5 + 1)), (6, w6), (7, w7)] [] κ3 Q) := by
        intro a w6 w7 hA
        rw [hA]
        refine actM_spec (bo := -4) (lw := 0) (by rw [hk]; exact hw) n4' h4 h5 (dA_va h1 h4 h2 h5) hBk (fun κ1 k1 k2 k3 k4 => ?_)
        refine drML h1 h2 hN h hB hq n (i + 1) κ1 (x5 + 1) w6 w7 (i_s hx (by omega)) (by omega) (ha.trans k2) ?_
        rw [k1, hk]
        show _ = stp nd (-4) 0 (sq nd (-4) 0 (dP nv nd y) 0 (rO 0 (κ0 130)) i) (dA nv nd (yF y (0 + i + 1)))
        rw [Nat.zero_add]
      have ey : yF y (i + 1) = yF y i * 1103515245 + 12345 := rfl
      have eg : ((yF y i * 1103515245 + 12345) >>> (16 &&& 31)) &&& 32767 = gotF (yF y (i + 1)) := rfl
      rw [eg]
      refine ⟨fun c2 => nxt _ _ _ ?_, fun c2 _ _ => nxt _ _ _ ?_⟩
      · unfold dA; rw [if_neg c2]
      · unfold dA; rw [if_pos c2, i_on n3', i_on n4']
theorem driftM (h : HM nv nd κ) : PC xl n 229 0 [(0, .ref 129), (1, .int x1), (2, .int x2), (3, .int x3)] [] κ (MR (rO 0 (κ 130)) (drR nv nd (rO 0 (κ 130)) x1 x2 x3) κ) := by
  have h4 := h.1.1
  have h5 := h.2.1.1
  unfold drR
  refine (t_229_0 (inL (l := 1) (g := 60) rfl rfl (fun r hr => ?_))).weak
  intro r2 e; cases e
  refine ⟨fun c => ?_, fun c => (t_208_0 (inL (l := 0) (g := 1) rfl rfl (fun r hr2 => ?_))).weak⟩
  · rw [if_neg (fun q => (hr.mp c) q.1)]; exact MR.same MG.rfl rfl
  have c1 : 1 ≤ x2.toInt ∧ x2.toInt ≤ 60 := by false_or_by_contra; rename_i hh; exact c (hr.mpr hh)
  intro r2 e; cases e
  intro r3 e; cases e
  refine ⟨fun c2 => ?_, fun c2 => ?_⟩
  · have c3 : 0 ≤ x3.toInt ∧ x3.toInt ≤ 1 := by false_or_by_contra; rename_i hh; exact c2 (hr2.mpr hh)
    rw [if_pos ⟨c1, c3⟩]
    have no : (nv = 0 ∨ nd = 0) → MR (rO 0 (κ 130)) (if nv = 0 ∨ nd = 0 then -2 else if x3.toInt = 0 then alF (sq nd (-4) 0 (dP nv nd x1) 0 (rO 0 (κ 130)) x2.toInt.toNat) nd else wrF (sq nd (-4) 0 (dP nv nd x1) 0 (rO 0 (κ 130)) x2.toInt.toNat) nd) κ (some (.int (-2))) κ := fun q => by rw [if_pos q]; exact MR.same MG.rfl rfl
    refine ⟨fun z => no (Or.inl ?_), fun z => ⟨fun z2 => st_M h (fun κ1 g1 g2 g3 g4 g5 g6 g7 => ?_), fun z2 => no (Or.inr ?_)⟩⟩
    · rw [i_eq, h.1.2, n0] at z; omega
    · rw [i_eq, h.1.2, n0] at z
      rw [i_eq, h.2.1.2, n0] at z2
      rw [if_neg (by omega)]
      have hM1 := h.mg g1 g2
      have key := drML (xl := xl) (nv := nv) (nd := nd) (x2 := x2) (x3 := x3) (y := x1) (N := x2.toInt.toNat) (w1 := .int x1) (κ0 := κ1) (Q := MR (rO 0 (κ 130)) (if x3.toInt = 0 then alF (sq nd (-4) 0 (dP nv nd x1) 0 (rO 0 (κ 130)) x2.toInt.toNat) nd else wrF (sq nd (-4) 0 (dP nv nd x1) 0 (rO 0 (κ 130)) x2.toInt.toNat) nd) κ) (by omega) (by omega) (by omega) hM1 g7
      rw [g2] at key
      refine key (fun κ2 a2 q2 => ⟨fun q => ?_, fun q => ?_⟩) n 0 κ1 0 _ _ rfl (Nat.zero_le _) AF.rfl (by rw [g3]; rfl)
      · rw [i_eq, n0] at q
        rw [if_neg q]; exact MR.same (g1.trans a2.mg) (by rw [a2.1 130 (by omega) (by omega)]; exact g2)
      · rw [i_eq, n0] at q
        rw [if_pos q]; exact MR.same (g1.trans a2.mg) (by rw [a2.1 130 (by omega) (by omega)]; exact g2)
    · rw [i_eq, h.2.1.2, n0] at z2; omega
  · rw [if_neg (fun q => (hr2.mp c2) q.2)]; exact MR.same MG.rfl rfl
end Drift
