/-! TOWNS, V: one becomes another -/
/-- what is told at t: the town, THE PLAN, what was SEEN -/
noncomputable def PX (t nv nd : Nat) (f : Nat → Int32) (ι : IS) : Prop := ι t 2 = f 52 ∧ (0 ≤ (f 52).toInt ∧ (f 52).toInt ≤ 8) ∧ ∀ i : Nat, (i : Int) < (f 52).toInt → ι (t + 16) i = f (53 + i) ∧ 0 ≤ (f (53 + i)).toInt ∧ knP nv nd (f (53 + i)).toInt
noncomputable def SX (t nd : Nat) (f : Nat → Int32) (ι : IS) : Prop := ι t 6 = f 61 ∧ (0 ≤ (f 61).toInt ∧ (f 61).toInt ≤ 6) ∧ ∀ i : Nat, (i : Int) < (f 61).toInt → ι (t + 17) i = f (62 + 3 * i) ∧ ι (t + 18) i = f (63 + 3 * i) ∧ ι (t + 19) i = f (64 + 3 * i) ∧ ((0 ≤ (f (62 + 3 * i)).toInt ∧ (f (62 + 3 * i)).toInt < nd) ∧ 0 ≤ (f (63 + 3 * i)).toInt ∧ (f (63 + 3 * i)).toInt ≤ 5)
noncomputable def TO (t nv nd : Nat) (f : Nat → Int32) (ι : IS) : Prop := TW (t + 1) nv nd f ι ∧ PX t nv nd f ι ∧ SX t nd f ι
/-- bounds of how many LAYERS -/
noncomputable def HB (f : Nat → Int32) : Prop := ∀ d, d < 4 → 0 ≤ (f (16 + 9 * d)).toInt ∧ (f (16 + 9 * d)).toInt ≤ 6
theorem WF.hb {f : Nat → Int32} (h : WF f) : HB f := fun d hd => (h.1 d hd).1
section Bec
variable {xl : List Int32} {n mi pc : Nat} {ι ι' ι0 κ κ0 : IS} {Q : Option Value → IS → Prop} {x1 x2 x3 x : Int32} {a b u w d v j m nd nv h k t s c p : Nat} {f g : Nat → Int32}
theorem visB_spec (hab : ¬ a = b) (h : ∀ ι', Sm a a ι ι' → (∀ j, j < 4 → ι' a j = ι b j) → Q none ι') : PC xl n 53 0 [(0, .ref a), (1, .ref b)] [] ι Q := by
  refine (t_53_0 (h _ ((((Sm.rfl.up (by omega)).up (by omega)).up (by omega)).up (by omega)) (fun j hj => ?_))).weak
  match j, hj with
  | 0, _ => rw [up_ne (by omega), up_ne (by omega), up_ne (by omega), up_same]
  | 1, _ => rw [up_ne (by omega), up_ne (by omega), up_same, up_ne (by omega)]
  | 2, _ => rw [up_ne (by omega), up_same, up_ne (by omega), up_ne (by omega)]
  | 3, _ => rw [up_same, up_ne (by omega), up_ne (by omega), up_ne (by omega)]
theorem dorBL (hra : rf a 0 = a + 1) (hrb : rf b 0 = b + 1) (hab : a + 1 < b ∨ b + 1 < a) (hh : (f (16 + 9 * d)).toInt = h) (hq : ∀ ι', Sm a (a + 1) ι0 ι' → DX a d f ι' → Q none ι') : ∀ (n i : Nat) (ι : IS) (x2 : Int32), x2.toInt = i → i ≤ h → Sm a (a + 1) ι0 ι → DX b d f ι → (∀ q, q < i → ι (a + 1) q = f (19 + 9 * d + q)) → PC xl n 54 2 [(0, .ref a), (1, .ref b), (2, .int x2)] [] ι Q
  | 0, _, _, _, _, _, _, _, _ => PC.zero
  | n + 1, i, ι, x2, hx, hi, hs, hD, hl => by
    have := i_rng (f (16 + 9 * d))
    have hlt : x2 < ι b 1 ↔ i < h := by rw [i_lt, hx, hD.1, hh]; omega
    refine t_54_2 ⟨fun c => ?_, fun c _ _ _ _ => ?_⟩
    · have : i = h := by
        have := mt hlt.mpr c; omega
      subst this
      rw [up_ne (by omega), up_ne (by omega), up_ne (by omega), hD.1, hD.2.1, hD.2.2.1]
      refine hq _ (((hs.up (by omega)).up (by omega)).up (by omega)) ⟨?_, ?_, ?_, fun q hq => ?_⟩
      · rw [up_ne (by omega), up_ne (by omega), up_same]
      · rw [up_same]
      · rw [up_ne (by omega), up_same]
      · rw [up_ne (by omega), up_ne (by omega), up_ne (by omega)]; exact hl q (by omega)
    · have hil := hlt.mp c
      rw [hra, hrb, i_ixn hx, hD.2.2.2 i (by omega)]
      refine dorBL hra hrb hab hh hq n (i + 1) _ (x2 + 1) (i_s hx (by omega)) hil (hs.up (by omega)) ?_ (fun q hq2 => ?_)
      · refine ⟨?_, ?_, ?_, fun q hq2 => ?_⟩
        · rw [up_ne (by omega)]; exact hD.1
        · rw [up_ne (by omega)]; exact hD.2.1
        · rw [up_ne (by omega)]; exact hD.2.2.1
        · rw [up_ne (by omega)]; exact hD.2.2.2 q hq2
      · by_cases e : q = i
        · subst e; rw [up_same]
        · rw [up_ne (by omega)]; exact hl q (by omega)
theorem dorB_spec (hra : rf a 0 = a + 1) (hrb : rf b 0 = b + 1) (hab : a + 1 < b ∨ b + 1 < a) (hD : DX b d f ι) (h0 : 0 ≤ (f (16 + 9 * d)).toInt) (hq : ∀ ι', Sm a (a + 1) ι ι' → DX a d f ι' → Q none ι') : PC xl n 54 0 [(0, .ref a), (1, .ref b)] [] ι Q :=
  (t_54_0 (dorBL (h := (f (16 + 9 * d)).toInt.toNat) hra hrb hab (by omega) hq n 0 ι 0 rfl (Nat.zero_le _) Sm.rfl hD (fun q hq => absurd hq (Nat.not_lt_zero _)))).weak
theorem twn_dis (hu : isTown u) (hw : isTown w) (hn : ¬ u = w) : u + 14 < w ∨ w + 14 < u := by
  unfold isTown at hu hw; omega
theorem twnBD (hu : isTown u) (hw : isTown w) (hn : ¬ u = w) (hW : HB f) (hq : ∀ ι', Sm u (u + 14) ι0 ι' → TW u nv nd f ι' → ι' u 4 = -4 → Q none ι') : ∀ (n d : Nat) (ι : IS) (x2 : Int32), x2.toInt = d → d ≤ nd → Sm u (u + 14) ι0 ι → TW w nv nd f ι → (ι u 2).toInt = nv → (ι u 3).toInt = nd → (∀ v, v < nv → VX (u + 2 + v) v f ι) → (∀ q, q < d → DX (u + 7 + 2 * q) q f ι) → PC xl n 52 49 [(0, .ref u), (1, .ref w), (2, .int x2)] [] ι Q
  | 0, _, _, _, _, _, _, _, _, _, _, _ => PC.zero
  | n + 1, d, ι, x2, hx, hd, hs, hT, h2, h3, hV, hD => by
    have h4 := hT.1.1
    have h5 := hT.2.1.1
    have ds := twn_dis hu hw hn
    have hlt : x2 < ι u 3 ↔ d < nd := by rw [i_lt, hx, h3]; omega
    refine t_52_49 ⟨fun c => ?_, fun c _ _ _ _ => ?_⟩
    · have : d = nd := by
        have := mt hlt.mpr c; omega
      subst this
      refine hq _ (hs.up (by omega)) ⟨⟨h4, by rw [up_ne (by omega)]; exact h2⟩, ⟨h5, by rw [up_ne (by omega)]; exact h3⟩, fun v hv => ?_, fun q hq2 => ?_⟩ (up_same _ _ _ _)
      · exact (hV v hv).keep (fun j => up_ne (by omega)) (fun j _ => rfl)
      · exact (hD q hq2).keep (fun j => up_ne (by omega)) (fun j => up_ne (by omega)) (fun j _ => rfl) (hW q (by omega)).2
    · have hdl := hlt.mp c
      obtain ⟨tu1, tu2⟩ := town_d hu (d := d) (by omega)
      obtain ⟨tw1, tw2⟩ := town_d hw (d := d) (by omega)
      rw [i_ixn hx, tu1, tw1]
      refine dorB_spec tu2 tw2 (by omega) (hT.2.2.2 d hdl) (hW d (by omega)).1 (fun ι1 s1 d1 => ?_)
      refine twnBD hu hw hn hW hq n (d + 1) ι1 (x2 + 1) (i_s hx (by omega)) hdl (hs.trans (s1.wide (by omega) (by omega))) (hT.keep (fun a j g1 g2 => s1 a j (by omega))) (by rw [s1 u 2 (by omega)]; exact h2) (by rw [s1 u 3 (by omega)]; exact h3) (fun v hv => (hV v hv).keep (fun j => s1 _ _ (by omega)) (fun j _ => rfl)) (fun q hq2 => ?_)
      by_cases e : q = d
      · subst e; exact d1
      · exact (hD q (by omega)).keep (fun j => s1 _ _ (by omega)) (fun j => s1 _ _ (by omega)) (fun j _ => rfl) (hW q (by omega)).2
theorem twnBV (hu : isTown u) (hw : isTown w) (hn : ¬ u = w) (hW : HB f) (hq : ∀ ι', Sm u (u + 14) ι0 ι' → TW u nv nd f ι' → ι' u 4 = -4 → Q none ι') : ∀ (n v : Nat) (ι : IS) (x2 : Int32), x2.toInt = v → v ≤ nv → Sm u (u + 14) ι0 ι → TW w nv nd f ι → (ι u 2).toInt = nv → (∀ q, q < v → VX (u + 2 + q) q f ι) → PC xl n 52 10 [(0, .ref u), (1, .ref w), (2, .int x2)] [] ι Q
  | 0, _, _, _, _, _, _, _, _, _ => PC.zero
  | n + 1, v, ι, x2, hx, hd, hs, hT, h2, hV => by
    have h4 := hT.1.1
    have h5 := hT.2.1.1
    have ds := twn_dis hu hw hn
    have hlt : x2 < ι u 2 ↔ v < nv := by rw [i_lt, hx, h2]; omega
    refine t_52_10 ⟨fun c => ?_, fun c _ _ _ _ => ?_⟩
    · have : v = nv := by
        have := mt hlt.mpr c; omega
      subst this
      refine twnBD hu hw hn hW hq n 0 _ 0 rfl (Nat.zero_le _) (hs.up (by omega)) (hT.keep (fun a j g1 g2 => up_ne (by omega))) (by rw [up_ne (by omega)]; exact h2) (by rw [up_same]; exact hT.2.1.2) (fun q hq2 => (hV q hq2).keep (fun j => up_ne (by omega)) (fun j _ => rfl)) (fun q hq => absurd hq (Nat.not_lt_zero _))
    · have hvl := hlt.mp c
      rw [i_ixn hx, town_v hu (v := v) (by omega), town_v hw (v := v) (by omega)]
      refine visB_spec (by omega) (fun ι1 s1 e1 => ?_)
      refine twnBV hu hw hn hW hq n (v + 1) ι1 (x2 + 1) (i_s hx (by omega)) hvl (hs.trans (s1.wide (by omega) (by omega))) (hT.keep (fun a j g1 g2 => s1 a j (by omega))) (by rw [s1 u 2 (by omega)]; exact h2) (fun q hq2 => ?_)
      by_cases e : q = v
      · subst e
        have := hT.2.2.1 q hvl
        exact ⟨by rw [e1 0 (by omega)]; exact this.1, by rw [e1 1 (by omega)]; exact this.2.1, by rw [e1 2 (by omega)]; exact this.2.2.1, by rw [e1 3 (by omega)]; exact this.2.2.2⟩
      · exact (hV q (by omega)).keep (fun j => s1 _ _ (by omega)) (fun j _ => rfl)
theorem twnB_spec (hu : isTown u) (hw : isTown w) (hn : ¬ u = w) (hW : HB f) (hT : TW w nv nd f ι) (hq : ∀ ι', Sm u (u + 14) ι ι' → TW u nv nd f ι' → ι' u 4 = -4 → Q none ι') : PC xl n 52 0 [(0, .ref u), (1, .ref w)] [] ι Q := by
  have ds := twn_dis hu hw hn
  exact (t_52_0 (twnBV hu hw hn hW hq n 0 _ 0 rfl (Nat.zero_le _) (Sm.rfl.up (by omega)) (hT.keep (fun a j g1 g2 => up_ne (by omega))) (by rw [up_same]; exact hT.1.2) (fun q hq => absurd hq (Nat.not_lt_zero _)))).weak
theorem told_dis (ht : isTold t) (hs : isTold s) (hn : ¬ t = s) : t + 19 < s ∨ s + 19 < t := by
  unfold isTold at ht hs; omega
theorem PX.keep (h : PX t nv nd f ι) (h1 : ι' t 2 = ι t 2) (h2 : ∀ j, ι' (t + 16) j = ι (t + 16) j) : PX t nv nd f ι' :=
  ⟨by rw [h1]; exact h.1, h.2.1, fun i hi => by rw [h2]; exact h.2.2 i hi⟩
theorem SX.keep (h : SX t nd f ι) (h1 : ι' t 6 = ι t 6) (h2 : ∀ a j, t + 17 ≤ a → a ≤ t + 19 → ι' a j = ι a j) : SX t nd f ι' :=
  ⟨by rw [h1]; exact h.1, h.2.1, fun i hi => by rw [h2 (t + 17) i (by omega) (by omega), h2 (t + 18) i (by omega) (by omega), h2 (t + 19) i (by omega) (by omega)]; exact h.2.2 i hi⟩
theorem TO.keep (h : TO t nv nd f ι) (h1 : ∀ a j, t ≤ a → a ≤ t + 19 → ι' a j = ι a j) : TO t nv nd f ι' :=
  ⟨h.1.keep (fun a j g1 g2 => h1 a j (by omega) (by omega)), h.2.1.keep (h1 _ _ (by omega) (by omega)) (fun j => h1 _ _ (by omega) (by omega)), h.2.2.keep (h1 _ _ (by omega) (by omega)) (fun a j g1 g2 => h1 a j (by omega) (by omega))⟩
theorem tolB3 (ht : isTold t) (hs : isTold s) (hn : ¬ t = s) (hc : (f 61).toInt = c) (hc6 : c ≤ 6) (hq : ∀ ι', Sm t (t + 19) ι0 ι' → TO t nv nd f ι' → ι' (t + 1) 4 = -4 → Q none ι') : ∀ (n i : Nat) (ι : IS) (x2 : Int32), x2.toInt = i → i ≤ c → Sm t (t + 19) ι0 ι → TW (t + 1) nv nd f ι → ι (t + 1) 4 = -4 → PX t nv nd f ι → SX s nd f ι → ι t 6 = f 61 → (∀ q, q < i → ι (t + 17) q = f (62 + 3 * q) ∧ ι (t + 18) q = f (63 + 3 * q) ∧ ι (t + 19) q = f (64 + 3 * q)) → PC xl n 51 57 [(0, .ref t), (1, .ref s), (2, .int x2)] [] ι Q
  | 0, _, _, _, _, _, _, _, _, _, _, _, _ => PC.zero
  | n + 1, i, ι, x2, hx, hi, hsm, hT, hb, hP, hS, h6, hl => by
    have ds := told_dis ht hs hn
    obtain ⟨-, r0, r1, r3, r4, r5⟩ := told_at ht
    obtain ⟨-, q0, q1, q3, q4, q5⟩ := told_at hs
    have hlt : x2 < ι t 6 ↔ i < c := by rw [i_lt, hx, h6, hc]; omega
    refine t_51_57 ⟨fun cc => ?_, fun cc _ _ _ _ _ _ _ _ => (t_51_89 (fun _ _ _ _ => ?_)).weak⟩
    · have : i = c := by
        have := mt hlt.mpr cc; omega
      subst this
      refine hq ι hsm ⟨hT, hP, h6, hS.2.1, fun q hq2 => ?_⟩ hb
      have g1 := hl q (by omega)
      exact ⟨g1.1, g1.2.1, g1.2.2, (hS.2.2 q hq2).2.2.2⟩
    · have hil := hlt.mp cc
      have g := hS.2.2 i (by omega)
      rw [r3, r4, r5, q3, q4, q5, i_ixn hx, up_ne (by omega), up_ne (by omega), up_ne (by omega), g.1, g.2.1, g.2.2.1]
      refine tolB3 ht hs hn hc hc6 hq n (i + 1) _ (x2 + 1) (i_s hx (by omega)) hil (((hsm.up (by omega)).up (by omega)).up (by omega)) (hT.keep (fun a j g1 g2 => by rw [up_ne (by omega), up_ne (by omega), up_ne (by omega)])) (by rw [up_ne (by omega), up_ne (by omega), up_ne (by omega)]; exact hb) (hP.keep (by rw [up_ne (by omega), up_ne (by omega), up_ne (by omega)]) (fun j => by rw [up_ne (by omega), up_ne (by omega), up_ne (by omega)])) (hS.keep (by rw [up_ne (by omega), up_ne (by omega), up_ne (by omega)]) (fun a j g1 g2 => by rw [up_ne (by omega), up_ne (by omega), up_ne (by omega)])) (by rw [up_ne (by omega), up_ne (by omega), up_ne (by omega)]; exact h6) (fun q hq2 => ?_)
      by_cases e : q = i
      · subst e
        exact ⟨by rw [up_ne (by omega), up_ne (by omega), up_same], by rw [up_ne (by omega), up_same], by rw [up_same]⟩
      · rw [up_ne (by omega), up_ne (by omega), up_ne (by omega), up_ne (by omega), up_ne (by omega), up_ne (by omega), up_ne (by omega), up_ne (by omega), up_ne (by omega)]
        exact hl q (by omega)
theorem tolB2 (ht : isTold t) (hs : isTold s) (hn : ¬ t = s) (hc : (f 52).toInt = c) (hc8 : c ≤ 8) (hq : ∀ ι', Sm t (t + 19) ι0 ι' → TO t nv nd f ι' → ι' (t + 1) 4 = -4 → Q none ι') : ∀ (n i : Nat) (ι : IS) (x2 : Int32), x2.toInt = i → i ≤ c → Sm t (t + 19) ι0 ι → TW (t + 1) nv nd f ι → ι (t + 1) 4 = -4 → PX s nv nd f ι → SX s nd f ι → ι t 2 = f 52 → (∀ q, q < i → ι (t + 16) q = f (53 + q)) → PC xl n 51 21 [(0, .ref t), (1, .ref s), (2, .int x2)] [] ι Q
  | 0, _, _, _, _, _, _, _, _, _, _, _, _ => PC.zero
  | n + 1, i, ι, x2, hx, hi, hsm, hT, hb, hP, hS, h2, hl => by
    have ds := told_dis ht hs hn
    obtain ⟨-, r0, r1, r3, r4, r5⟩ := told_at ht
    obtain ⟨-, q0, q1, q3, q4, q5⟩ := told_at hs
    have hlt : x2 < ι t 2 ↔ i < c := by rw [i_lt, hx, h2, hc]; omega
    refine t_51_21 ⟨fun cc => ?_, fun cc _ _ _ _ => ?_⟩
    · have : i = c := by
        have := mt hlt.mpr cc; omega
      subst this
      have hS2 := hS.2.1
      refine tolB3 (c := (f 61).toInt.toNat) ht hs hn (by omega) (by omega) hq n 0 _ 0 rfl (Nat.zero_le _) (hsm.up (by omega)) (hT.keep (fun a j g1 g2 => up_ne (by omega))) (by rw [up_ne (by omega)]; exact hb) ⟨by rw [up_ne (by omega)]; exact h2, hP.2.1, fun q hq2 => ?_⟩ (hS.keep (up_ne (by omega)) (fun a j g1 g2 => up_ne (by omega))) (by rw [up_same]; exact hS.1) (fun q hq => absurd hq (Nat.not_lt_zero _))
      exact ⟨by rw [up_ne (by omega)]; exact hl q (by omega), (hP.2.2 q hq2).2⟩
    · have hil := hlt.mp cc
      rw [r1, q1, i_ixn hx, (hP.2.2 i (by omega)).1]
      refine tolB2 ht hs hn hc hc8 hq n (i + 1) _ (x2 + 1) (i_s hx (by omega)) hil (hsm.up (by omega)) (hT.keep (fun a j g1 g2 => up_ne (by omega))) (by rw [up_ne (by omega)]; exact hb) (hP.keep (up_ne (by omega)) (fun j => up_ne (by omega))) (hS.keep (up_ne (by omega)) (fun a j g1 g2 => up_ne (by omega))) (by rw [up_ne (by omega)]; exact h2) (fun q hq2 => ?_)
      by_cases e : q = i
      · subst e; rw [up_same]
      · rw [up_ne (by omega)]; exact hl q (by omega)
theorem tolB_spec (ht : isTold t) (hs : isTold s) (hn : ¬ t = s) (hW : HB f) (hT : TO s nv nd f ι) (hq : ∀ ι', Sm t (t + 19) ι ι' → TO t nv nd f ι' → ι' (t + 1) 4 = -4 → Q none ι') : PC xl n 51 0 [(0, .ref t), (1, .ref s)] [] ι Q := by
  have ds := told_dis ht hs hn
  obtain ⟨ut, r0, r1, r3, r4, r5⟩ := told_at ht
  obtain ⟨us, q0, q1, q3, q4, q5⟩ := told_at hs
  refine (t_51_0 ?_).weak
  rw [r0, q0]
  refine twnB_spec ut us (by omega) hW hT.1 (fun ι1 s1 t1 b1 => ?_)
  have hP2 := hT.2.1.2.1
  have hP : PX s nv nd f ι1 := hT.2.1.keep (s1 _ _ (by omega)) (fun j => s1 _ _ (by omega))
  have hS : SX s nd f ι1 := hT.2.2.keep (s1 _ _ (by omega)) (fun a j g1 g2 => s1 _ _ (by omega))
  refine tolB2 (c := (f 52).toInt.toNat) ht hs hn (by omega) (by omega) hq n 0 _ 0 rfl (Nat.zero_le _) ((s1.wide (by omega) (by omega)).up (by omega)) (t1.keep (fun a j g1 g2 => up_ne (by omega))) (by rw [up_ne (by omega)]; exact b1) (hP.keep (up_ne (by omega)) (fun j => up_ne (by omega))) (hS.keep (up_ne (by omega)) (fun a j g1 g2 => up_ne (by omega))) (by rw [up_same]; exact hP.1) (fun q hq => absurd hq (Nat.not_lt_zero _))
end Bec
