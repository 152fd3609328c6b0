/-! CALLS, VI: read -/
abbrev refP (r : Int32) : Prop := r = -1 ∨ r = -2 ∨ r = -3
/-- pairs read from i on, m of them: the answer, whether it was done, the town then, the FAULT -/
def rdS (nv nd : Nat) (fl cv cd : Nat → Int32) : Nat → Nat → (Nat → Int32) → Int32 × Bool × (Nat → Int32) × Int32
  | 0, i, f => (Int32.ofNat i, true, f, 0)
  | m + 1, i, f => if fl i = 0 then (if refP (visR nv nd f (cv i) (cd i)) then ((-20) - Int32.ofNat i, false, f, 0) else rdS nv nd fl cv cd m (i + 1) (visG nv nd f (cv i) (cd i))) else (Int32.ofNat i, true, f, fl i)
/-- the FAULT of the pair at p -/
def flP (l lane sz : Int32) (p : Int) : Int32 := if flF l lane sz p = 0 then flF l lane sz (p + 1) else flF l lane sz p
section OpR
variable {xl : List Int32} {n n2 : Nat} {ι ι0 ι1 κ κ0 κ1 : IS} {nv nd : Nat} {f g : Nat → Int32} {x1 x2 x3 x4 x : Int32} {Q : Option Value → IS → Prop} {r : Int32}
theorem isRef_spec (h : ∀ r : Int32, (r = 0 ↔ ¬ refP x) → Q (some (.int r)) ι) : PC xl n 90 0 [(0, .int x)] [] ι Q := by
  refine (t_90_0 ?_).weak
  refine ⟨fun c => h 1 ⟨fun q => absurd q (by decide), fun q => absurd (Or.inl c) q⟩, fun c => ⟨fun c2 => h 1 ⟨fun q => absurd q (by decide), fun q => absurd (Or.inr (Or.inl c2)) q⟩, fun c2 => ⟨fun c3 => h 0 ⟨fun _ q => ?_, fun _ => rfl⟩, fun c3 => h 1 ⟨fun q => absurd q (by decide), fun q => absurd (Or.inr (Or.inr c3)) q⟩⟩⟩⟩
  rcases q with q | q | q
  · exact c q
  · exact c2 q
  · exact c3 q
theorem WF.visK (h : WF f) (h4 : nv ≤ 4) (h5 : nd ≤ 4) : WF (visG nv nd f x1 x2) := by
  unfold visG
  split
  · rename_i c
    exact h.vi (by have := c.1; unfold okVD at this; omega) (by have := c.1; unfold okVD at this; omega) c.2 (fun g => absurd g (by decide))
  · exact h
theorem flF_ok {l lane sz : Int32} {p : Int} (h : flF l lane sz p = 0) : 0 ≤ p ∧ p < sz.toInt := by
  unfold flF at h
  split at h
  · exact absurd h (by decide)
  · split at h
    · split at h
      · exact absurd h (by decide)
      · omega
    · exact absurd h (by decide)
theorem flP_ok {l lane sz : Int32} {p : Int} (h : flP l lane sz p = 0) : 0 ≤ p ∧ p + 1 < sz.toInt := by
  unfold flP at h
  split at h
  · rename_i c
    have h1 := flF_ok c
    have h2 := flF_ok h
    omega
  · rename_i c; exact absurd h c
theorem visR_b (h : WF f) (h5 : nd ≤ 4) (h4 : nv ≤ 4) : refP (visR nv nd f x1 x2) ↔ ((visR nv nd f x1 x2).toInt < 0 ∧ ¬ visR nv nd f x1 x2 = -4) := by
  have m1 : (-1 : Int32).toInt = -1 := rfl
  have m2 : (-2 : Int32).toInt = -2 := rfl
  have m3 : (-3 : Int32).toInt = -3 := rfl
  have ref : ∀ y : Int32, refP y → (y.toInt < 0 ∧ ¬ y = -4) := by
    intro y hy
    rcases hy with rfl | rfl | rfl
    · exact ⟨by decide, by decide⟩
    · exact ⟨by decide, by decide⟩
    · exact ⟨by decide, by decide⟩
  refine ⟨ref _, fun hh => ?_⟩
  unfold visR at hh ⊢
  split at hh
  · rename_i ok
    rw [if_pos ok]
    split at hh
    · rename_i c
      unfold okVD at ok
      have hw := (h.vi (bo := -4) (lw := 0) (v := x1.toInt.toNat) (d := x2.toInt.toNat) (by omega) (by omega) c (fun g => absurd g (by decide))).1 x2.toInt.toNat (by omega)
      exfalso
      by_cases e : viF (-4) 0 f x1.toInt.toNat x2.toInt.toNat (16 + 9 * x2.toInt.toNat) = 0
      · exact hh.2 (shF_0 e)
      · have := (hw.sh e).1; omega
    · rename_i c
      rw [if_neg c]
      unfold koF at c ⊢
      split
      · exact Or.inr (Or.inl rfl)
      · rename_i c2
        rw [if_neg c2] at c
        split
        · exact Or.inr (Or.inr rfl)
        · rename_i c3
          rw [if_neg c3] at c; exact absurd rfl c
  · rename_i ok
    rw [if_neg ok]; exact Or.inl rfl
theorem rcT_spec (hT : TW 86 nv nd f ι) (hw : WF f) (hb : ι 86 4 = -4) (h : ∀ ι', Sm 86 100 ι ι' → ι' 86 4 = -4 → TW 86 nv nd (visG nv nd f x1 x2) ι' → Q (some (.int (visR nv nd f x1 x2))) ι') : PC xl n 70 0 [(0, .ref 86), (1, .int x1), (2, .int x2)] [] ι Q := by
  have h4 := hT.1.1
  have h5 := hT.2.1.1
  have hB : BO 86 (-4) 0 f ι := ⟨by rw [hb]; rfl, fun g => absurd g (by decide)⟩
  unfold visG visR at h
  refine rcX_spec (by decide) hT hw hB (fun c => ?_) (fun v d hv hvl hd hdl hk => ?_) (fun v d hv hvl hd hdl hk ι1 s1 j1 t1 => ?_) (fun g => absurd g (by decide))
  · have := h ι Sm.rfl hb
    rw [if_neg (fun q => c q.1), if_neg c] at this; exact this hT
  · have := h ι Sm.rfl hb
    rw [show x1.toInt.toNat = v by omega, show x2.toInt.toNat = d by omega, if_neg (fun q => hk q.2), if_pos (by unfold okVD; omega), if_neg hk] at this; exact this hT
  · have := h ι1 s1 (by rw [j1]; exact hb)
    rw [show x1.toInt.toNat = v by omega, show x2.toInt.toNat = d by omega, if_pos ⟨by unfold okVD; omega, hk⟩, if_pos (by unfold okVD; omega), if_pos hk] at this; exact this t1
/-- what reading by the class leaves -/
def RXP (nv nd : Nat) (R : Int32 × Bool × (Nat → Int32) × Int32) (ι : IS) (v : Option Value) (ι1 : IS) : Prop := v = some (.int R.1) ∧ ((R.2.1 = false ∧ Sm 86 100 ι ι1) ∨ (R.2.1 = true ∧ (∀ a j, ¬ (25 ≤ a ∧ a ≤ 39) → ¬ (86 ≤ a ∧ a ≤ 100) → ¬ (a = 0 ∧ j = 10) → ι1 a j = ι a j) ∧ ι1 0 10 = R.2.2.2 ∧ ι1 25 4 = -4 ∧ TW 25 nv nd R.2.2.1 ι1))
theorem celX_spec {a i : Nat} (hr : rf a 0 = a + 1) (hi : x.toInt = i) (hl : (i : Int) < (ι a 1).toInt) (h : Q (some (.int (ι (a + 1) i))) ι) : PC xl n 141 0 [(0, .ref a), (1, .int x)] [] ι Q := by
  refine (t_141_0 ⟨fun c => ?_, fun c => ⟨fun c2 => ?_, fun c2 _ _ => ?_⟩⟩).weak
  · rw [i_lt, hi, n0] at c; omega
  · rw [i_lt, hi] at c2; omega
  · rw [hr, i_ixn hi]; exact h
theorem rdR138 {i : Nat} {x6 : Int32} {w9 : Value} {w5 : Nat} {x8 : Int32} {R : Int32 × Bool × (Nat → Int32) × Int32} (hs : Sm 86 100 ι0 ι) (hT : TW 86 nv nd f ι) (hw : WF f) (hR : R = (Int32.ofNat i, true, f, x6)) : PC xl n 139 138 [(0, .ref 0), (1, .int x1), (2, .int x2), (3, .int x3), (4, .int x4), (5, .ref w5), (6, .int x6), (7, .int (Int32.ofNat i)), (8, .int x8), (9, w9)] [] ι (RXP nv nd R ι0) := by
  refine (t_139_138 ?_).weak
  rw [rf_0_2', show rf 0 5 = 86 from rfl]
  refine twnB_spec (by decide) (by decide) (by omega) hw.hb hT (fun ι1 s1 t1 b1 => ?_)
  rw [hR]
  refine ⟨rfl, Or.inr ⟨rfl, fun a j g1 g2 g3 => ?_, up_same _ _ _ _, by rw [up_ne (by omega)]; exact b1, t1.keep (fun a j g1 g2 => up_ne (by omega))⟩⟩
  rw [up_ne (by omega), s1 a j (by omega), hs a j (by omega)]
theorem rdXLp {k N : Nat} {R : Int32 × Bool × (Nat → Int32) × Int32} {lk sz : Int32} {cl : Nat → Int32} (hk4 : k < 4) (hN : x4.toInt = N) (hN2 : N ≤ 20) (hl : ι0 (121 + 2 * k) 2 = lk) (hz : ι0 (121 + 2 * k) 1 = sz) (hz4 : sz.toInt ≤ 40) (hcl : ∀ i, i < 40 → ι0 (122 + 2 * k) i = cl i) : ∀ (n m i : Nat) (f : Nat → Int32) (ι : IS) (x8 : Int32) (w9 : Value), i + m = N → x8.toInt = i → Sm 86 100 ι0 ι → TW 86 nv nd f ι → ι 86 4 = -4 → WF f → (i = 0 ∨ (0 ≤ x3.toInt ∧ x3.toInt < 40)) → rdS nv nd (fun i => flP lk x2 sz (x3.toInt + 2 * i)) (fun i => cl (x3.toInt + 2 * i).toNat) (fun i => cl (x3.toInt + 2 * i + 1).toNat) m i f = R → PC xl n 139 59 [(0, .ref 0), (1, .int x1), (2, .int x2), (3, .int x3), (4, .int x4), (5, .ref (121 + 2 * k)), (6, .int 0), (7, .int (Int32.ofNat i)), (8, .int x8), (9, w9)] [] ι (RXP nv nd R ι0)
  | 0, _, _, _, _, _, _, _, _, _, _, _, _, _, _ => PC.zero
  | n + 1, m, i, f, ι, x8, w9, hm, hx, hs, hT, hb, hw, h40, hR => by
    have h4 := hT.1.1
    have h5 := hT.2.1.1
    obtain ⟨e1, e2⟩ := re_sh hk4
    have hr : rf (121 + 2 * k) 0 = 121 + 2 * k + 1 := by rw [e2]; omega
    have hl1 : ι (121 + 2 * k) 2 = lk := by rw [hs _ _ (by omega)]; exact hl
    have hz1 : ι (121 + 2 * k) 1 = sz := by rw [hs _ _ (by omega)]; exact hz
    refine t_139_59 ⟨fun c => ?_, fun c => ⟨fun c2 => absurd rfl c2, fun _ => ?_⟩⟩
    · rw [i_lt, hx, hN] at c
      have : m = 0 := by omega
      subst this
      exact rdR138 hs hT hw hR.symm
    · rw [i_lt, hx, hN] at c
      obtain ⟨m, rfl⟩ : ∃ q, m = q + 1 := ⟨m - 1, by omega⟩
      have hx3 := i_rng x3
      have e2i : (2 * x8).toInt = 2 * i := by rw [i_mul (by rw [n2i, hx]; omega), n2i, hx]
      have ep : (x3 + 2 * x8).toInt = x3.toInt + 2 * i := by
        rcases h40 with h0 | h0
        · subst h0
          rw [i_add (by rw [e2i]; omega), e2i]
        · rw [i_add (by rw [e2i]; omega), e2i]
      -- the FAULT of the pair
      have hfl : ∀ {Q2 : Option Value → IS → Prop}, Q2 (some (.int (flP lk x2 sz (x3.toInt + 2 * i)))) ι → PC xl n 140 0 [(0, .ref (121 + 2 * k)), (1, .int x2), (2, .int (x3 + 2 * x8))] [] ι Q2 := by
        intro Q2 hq
        refine (t_140_0 (flX_spec ?_)).weak
        rw [hl1, hz1, ep]
        intro r e; cases e
        unfold flP at hq
        refine ⟨fun c2 => flX_spec ?_, fun c2 => ?_⟩
        · have := flF_ok c2
          rw [if_pos c2] at hq
          intro r e; cases e
          rw [hl1, hz1, i_add (by rw [ep, n1]; omega), ep, n1]; exact hq
        · rw [if_neg c2] at hq; exact hq
      refine hfl ?_
      intro r e; cases e
      simp only [rdS] at hR
      refine ⟨fun c2 => ?_, fun c2 => ?_⟩
      · rw [if_neg c2] at hR
        refine (t_139_132 (t_139_59 (n := n) ⟨fun _ => ?_, fun _ => ⟨fun _ => ?_, fun z => absurd z c2⟩⟩).weak).weak
        · exact rdR138 hs hT hw hR.symm
        · exact rdR138 hs hT hw hR.symm
      · rw [if_pos c2] at hR
        have pk := flP_ok c2
        have c0 : ι (122 + 2 * k) (x3.toInt + 2 * i).toNat = cl (x3.toInt + 2 * i).toNat := by rw [hs _ _ (by omega)]; exact hcl _ (by omega)
        have c1 : ι (122 + 2 * k) (x3.toInt + 2 * i + 1).toNat = cl (x3.toInt + 2 * i + 1).toNat := by rw [hs _ _ (by omega)]; exact hcl _ (by omega)
        refine celX_spec (i := (x3.toInt + 2 * i).toNat) hr (by rw [ep]; omega) (by rw [hz1]; omega) ?_
        intro r e; cases e
        refine celX_spec (i := (x3.toInt + 2 * i + 1).toNat) hr (by rw [i_add (by rw [ep, n1]; omega), ep, n1]; omega) (by rw [hz1]; omega) ?_
        intro r e; cases e
        rw [show 121 + 2 * k + 1 = 122 + 2 * k by omega, c0, c1, show rf 0 5 = 86 from rfl]
        refine rcT_spec hT hw hb (fun ι1 s1 b1 t1 => ?_)
        intro r e; cases e
        refine isRef_spec (fun r hr2 => ?_)
        intro r2 e; cases e
        refine ⟨fun c3 => ?_, fun c3 => ?_⟩
        · rw [if_neg (hr2.mp c3)] at hR
          refine (t_139_132 ?_).weak
          have go := rdXLp hk4 hN hN2 hl hz hz4 hcl n m (i + 1) (visG nv nd f (cl (x3.toInt + 2 * i).toNat) (cl (x3.toInt + 2 * i + 1).toNat)) ι1 (x8 + 1) (.int (x3 + 2 * x8)) (by omega) (i_s hx (by omega)) (hs.trans s1) t1 b1 (hw.visK h4 h5) (Or.inr (by omega)) hR
          rw [← o_s (by omega)] at go
          rw [c2]
          exact go
        · have rp : refP (visR nv nd f (cl (x3.toInt + 2 * i).toNat) (cl (x3.toInt + 2 * i + 1).toNat)) := by false_or_by_contra; rename_i hh; exact c3 (hr2.mpr hh)
          rw [if_pos rp] at hR
          rw [← hR, i_on hx]
          exact ⟨rfl, Or.inl ⟨rfl, hs.trans s1⟩⟩
end OpR
