/-! TOWNS, IV: HOUR, RAIN, SUN; how many LAYERS -/
def tpF (f : Nat → Int32) (d h : Nat) : Nat → Int32
  | 0 => 0
  | t + 1 => tpF f d h t + f (19 + 9 * d + (h - 1 - t))
def smL (f : Nat → Int32) (d p : Nat) : Nat → Int32
  | 0 => 0
  | m + 1 => smL f d p m + f (19 + 9 * d + (p + m))
def raF (f : Nat → Int32) (d : Nat) : Nat → Int32 :=
  if f (16 + 9 * d) = 0 then f else
  fs (fs (fs f (19 + 9 * d + ((f (16 + 9 * d)).toInt.toNat - 3)) (smL f d ((f (16 + 9 * d)).toInt.toNat - 3) ((f (16 + 9 * d)).toInt.toNat - ((f (16 + 9 * d)).toInt.toNat - 3)) - smL f d ((f (16 + 9 * d)).toInt.toNat - 3) ((f (16 + 9 * d)).toInt.toNat - ((f (16 + 9 * d)).toInt.toNat - 3)) / 6 * 6)) (16 + 9 * d) (Int32.ofNat ((f (16 + 9 * d)).toInt.toNat - 3) + 1)) (17 + 9 * d) 1
def suN (f : Nat → Int32) (d : Nat) : Nat → Nat
  | 0 => 0
  | h + 1 => if f (19 + 9 * d + h) = 0 then suN f d h else h + 1
def sunF (f : Nat → Int32) (d : Nat) : Nat → Int32 := fs (fs f (17 + 9 * d) 0) (16 + 9 * d) (Int32.ofNat (suN f d (f (16 + 9 * d)).toInt.toNat))
def dF (z : Int) (f : Nat → Int32) (d : Nat) : Nat → Int32 := if z = 91 then raF f d else if z = 92 then sunF f d else fs f (17 + 9 * d) 0
def goF (z : Int) (f : Nat → Int32) : Nat → Nat → Int32
  | 0 => f
  | d + 1 => dF z (goF z f d) d
/-- a sum over what comes ahead -/
def sF (g : Nat → Int32) : Nat → Int32
  | 0 => 0
  | d + 1 => sF g d + g d
section Sky1
variable {xl : List Int32} {n mi pc : Nat} {ι ι' ι0 κ κ0 : IS} {Q : Option Value → IS → Prop} {x1 x2 x3 x : Int32} {a u d v j m nd nv h k t c p : Nat} {f g : Nat → Int32} {z : Int}
theorem fs_fs {y w b : Int32} : fs (fs (fs f k y) m w) k b = fs (fs f m w) k b := by
  funext q
  unfold fs
  split
  · rfl
  · rename_i hq
    split
    · rfl
    · first | rfl | rw [if_neg hq]
theorem fs_2 {y w : Int32} : fs (fs f k y) k w = fs f k w := by
  funext q
  unfold fs
  split
  · rfl
  · rename_i hq
    first | rfl | rw [if_neg hq]
theorem fs_id {y : Int32} (hy : f k = y) : fs f k y = f := by
  funext q
  unfold fs
  split
  · rename_i hq
    rw [hq, hy]
  · rfl
theorem fs_cm {y w : Int32} (hk : ¬ k = m) : fs (fs f k y) m w = fs (fs f m w) k y := by
  funext q
  unfold fs
  by_cases e1 : q = m
  · rw [if_pos e1, if_neg (by omega), if_pos e1]
  · rw [if_neg e1, if_neg e1]
theorem o_in (hk : k ≤ 2147483647) : (Int32.ofNat k).toInt = k := i_of hk
theorem o_p (hk : k < 2147483647) : Int32.ofNat (k + 1) - 1 = Int32.ofNat k := i_eq.mpr (by rw [i_p (i_of (by omega)) hk, i_of (by omega)])
theorem o_s (hk : k < 2147483647) : Int32.ofNat k + 1 = Int32.ofNat (k + 1) := i_eq.mpr (by rw [i_s (i_of (by omega)) hk, i_of (by omega)])
theorem tp_sm (hc : c ≤ 3) : tpF f d (p + c) c = smL f d p c := by
  match c, hc with
  | 0, _ => rfl
  | 1, _ => simp [tpF, smL]
  | 2, _ =>
    simp only [tpF, smL]
    rw [show p + 2 - 1 - 0 = p + 1 by omega, show p + 2 - 1 - 1 = p + 0 by omega, Int32.zero_add, Int32.zero_add, Int32.add_comm]
  | 3, _ =>
    simp only [tpF, smL]
    rw [show p + 3 - 1 - 0 = p + 2 by omega, show p + 3 - 1 - 1 = p + 1 by omega, show p + 3 - 1 - 2 = p + 0 by omega, Int32.zero_add, Int32.zero_add, Int32.add_comm, ← Int32.add_assoc, Int32.add_assoc, Int32.add_comm (f (19 + 9 * d + (p + 2))), ← Int32.add_assoc]
theorem sm_b (hf : ∀ i, i < 6 → 0 ≤ (f (19 + 9 * d + i)).toInt ∧ (f (19 + 9 * d + i)).toInt ≤ 5) : ∀ c, p + c ≤ 6 → 0 ≤ (smL f d p c).toInt ∧ (smL f d p c).toInt ≤ 5 * c
  | 0, _ => ⟨by simp [smL, n0], by simp [smL, n0]⟩
  | c + 1, hc => by
    have h1 := sm_b hf c (by omega)
    have h2 := hf (p + c) (by omega)
    simp only [smL]
    rw [i_add (by omega)]
    omega
/-- a RAIN over a DOOR, by the class -/
theorem rainL (hr : rf a 0 = a + 1) (hh : (f (16 + 9 * d)).toInt = h) (h0 : 0 < h) (h6 : h ≤ 6) (hq : ∀ ι', Sm a (a + 1) ι0 ι' → DX a d (raF f d) ι' → Q none ι') : ∀ (n t : Nat) (ι : IS) (x2 : Int32), x2.toInt = t → t ≤ 3 → t ≤ h → Sm a (a + 1) ι0 ι → DX a d (fs f (16 + 9 * d) (Int32.ofNat (h - t))) ι → PC xl n 77 12 [(0, .ref a), (1, .int (tpF f d h t)), (2, .int x2)] [] ι Q
  | 0, _, _, _, _, _, _, _, _ => PC.zero
  | n + 1, t, ι, x2, hx, ht, hth, hs, hD => by
    have e0 : ι a 1 = Int32.ofNat (h - t) := by rw [hD.1, fs_same]
    have fin : (t = 3 ∨ h - t = 0) → PC xl n 77 41 [(0, .ref a), (1, .int (tpF f d h t)), (2, .int x2)] [] ι Q := by
      intro he
      refine (t_77_41 (addX_spec (q := h - t) hr hD (by rw [fs_same]; exact i_of (by omega)) (by omega) (fun ι1 s1 d1 r _ => ?_))).weak
      refine hq _ ((hs.trans s1).up (by omega)) ?_
      have ef : ¬ f (16 + 9 * d) = 0 := fun e => by rw [e, n0] at hh; omega
      unfold raF
      rw [if_neg ef, hh, Int.toNat_natCast]
      have ep : h - 3 = h - t := by omega
      have ec : h - (h - 3) = t := by omega
      rw [ec, ep]
      have es : tpF f d h t = smL f d (h - t) t := by
        have := tp_sm (f := f) (d := d) (p := h - t) ht
        rw [show h - t + t = h by omega] at this
        exact this
      rw [es, fs_same, fs_fs] at d1
      exact d1.wet
    refine t_77_12 ⟨fun c => fin (Or.inl ?_), fun c => ⟨fun c2 => fin (Or.inr ?_), fun c2 => ?_⟩⟩
    · rw [i_lt, hx, n3] at c; omega
    · rw [i_lt, n0, e0, i_of (by omega)] at c2; omega
    · rw [i_lt, hx, n3] at c
      rw [i_lt, n0, e0, i_of (by omega)] at c2
      have hk : ((fs f (16 + 9 * d) (Int32.ofNat (h - t))) (16 + 9 * d)).toInt = (h - 1 - t + 1 : Nat) := by rw [fs_same, i_of (by omega)]; omega
      refine shX_spec hr hD (by rw [hk]; omega) ?_
      intro r e; cases e
      refine loseX_spec hD hk (fun ι1 s1 d1 => ?_)
      rw [shF_s hk, fs_ne (by omega)]
      refine rainL hr hh h0 h6 hq n (t + 1) ι1 (x2 + 1) (i_s hx (by omega)) (by omega) (by omega) (hs.trans s1) ?_
      rw [fs_same, fs_2, show h - t = h - (t + 1) + 1 by omega, o_p (by omega)] at d1
      exact d1
theorem raX_spec (hr : rf a 0 = a + 1) (hD : DX a d f ι) (hw : WD f d) (hq : ∀ ι', Sm a (a + 1) ι ι' → DX a d (raF f d) ι' → Q none ι') : PC xl n 77 0 [(0, .ref a)] [] ι Q := by
  obtain ⟨h, hh⟩ : ∃ q : Nat, (f (16 + 9 * d)).toInt = q := ⟨(f (16 + 9 * d)).toInt.toNat, by have := hw.1.1; omega⟩
  have h6 : h ≤ 6 := by have := hw.1.2; omega
  refine (t_77_0 ⟨fun c => ?_, fun c => hq ι Sm.rfl ?_⟩).weak
  · rw [hD.1] at c
    have h0 : 0 < h := by have := i_nz c hw.1.1; omega
    refine rainL hr hh h0 h6 hq n 0 ι 0 rfl (by omega) (by omega) Sm.rfl ?_
    rw [fs_id (by rw [i_on hh]; rfl)]
    exact hD
  · rw [hD.1] at c
    unfold raF
    rw [if_pos c]; exact hD
theorem su_le : ∀ q, suN f d q ≤ q
  | 0 => Nat.le_refl _
  | q + 1 => by
    simp only [suN]
    split
    · have := su_le q; omega
    · exact Nat.le_refl _
/-- SUN over a DOOR, by the class -/
theorem sunL {s : Nat} (hr : rf a 0 = a + 1) (h6 : h ≤ 6) (hq : ∀ ι', Sm a (a + 1) ι0 ι' → DX a d (fs (fs f (17 + 9 * d) 0) (16 + 9 * d) (Int32.ofNat s)) ι' → Q none ι') : ∀ (n t k : Nat) (ι : IS) (x1 : Int32), x1.toInt = t → k + t = h → suN f d k = s → Sm a (a + 1) ι0 ι → DX a d (fs f (16 + 9 * d) (Int32.ofNat k)) ι → PC xl n 79 2 [(0, .ref a), (1, .int x1)] [] ι Q
  | 0, _, _, _, _, _, _, _, _, _ => PC.zero
  | n + 1, t, k, ι, x1, hx, hk, hsu, hs, hD => by
    have fin : ∀ ι1, ι1 = ι → k = s → Q none (up ι1 a 3 0) := by
      intro ι1 e1 e2
      rw [e1]
      refine hq _ (hs.up (by omega)) ?_
      have := hD.wet (x := 0)
      rw [fs_cm (by omega), e2] at this
      exact this
    refine t_79_2 ⟨fun c => fin ι rfl ?_, fun c => ?_⟩
    · rw [i_lt, hx, n6] at c
      have : k = 0 := by omega
      rw [this] at hsu
      rw [this, ← hsu]; rfl
    have hv : ((fs f (16 + 9 * d) (Int32.ofNat k)) (16 + 9 * d)).toInt = k := by rw [fs_same, i_of (by omega)]
    refine shX_spec hr hD (by rw [hv]; omega) ?_
    intro r e; cases e
    match k, hk, hsu, hD, hv, fin with
    | 0, hk, hsu, hD, hv, fin =>
      have e4 : shF (fs f (16 + 9 * d) (Int32.ofNat 0)) d = -4 := shF_0 fs_same
      rw [e4]
      exact ⟨fun _ => fin ι rfl (by rw [← hsu]; rfl), fun c => absurd c (by decide)⟩
    | k + 1, hk, hsu, hD, hv, fin =>
      rw [shF_s hv, fs_ne (by omega)]
      simp only [suN] at hsu
      refine ⟨fun c => fin ι rfl ?_, fun c => loseX_spec hD hv (fun ι1 s1 d1 => ?_)⟩
      · rw [if_neg c] at hsu; exact hsu
      · rw [if_pos c] at hsu
        rw [fs_same, fs_2, o_p (by omega)] at d1
        exact sunL hr h6 hq n (t + 1) k ι1 (x1 + 1) (i_s hx (by omega)) (by omega) hsu (hs.trans s1) d1
theorem sunX_spec (hr : rf a 0 = a + 1) (hD : DX a d f ι) (hw : WD f d) (hq : ∀ ι', Sm a (a + 1) ι ι' → DX a d (sunF f d) ι' → Q none ι') : PC xl n 79 0 [(0, .ref a)] [] ι Q := by
  obtain ⟨h, hh⟩ : ∃ q : Nat, (f (16 + 9 * d)).toInt = q := ⟨(f (16 + 9 * d)).toInt.toNat, by have := hw.1.1; omega⟩
  have h6 : h ≤ 6 := by have := hw.1.2; omega
  refine (t_79_0 (sunL (s := suN f d h) (h := h) hr h6 (fun ι' s1 d1 => hq ι' s1 ?_) n 0 h ι 0 rfl rfl rfl Sm.rfl ?_)).weak
  · unfold sunF
    rw [hh, Int.toNat_natCast]; exact d1
  · rw [fs_id (i_on hh)]; exact hD
theorem dF_o (hw : WD f d) (hk : ¬ (16 + 9 * d ≤ k ∧ k < 25 + 9 * d)) : dF z f d k = f k := by
  have h6 := hw.1.2
  unfold dF
  split
  · unfold raF
    split
    · rfl
    · rw [fs_ne (by omega), fs_ne (by omega), fs_ne (by omega)]
  · split
    · unfold sunF
      rw [fs_ne (by omega), fs_ne (by omega)]
    · rw [fs_ne (by omega)]
theorem WD.dfF (hw : WD f d) : WD (dF z f d) d := by
  obtain ⟨h, hh⟩ : ∃ q : Nat, (f (16 + 9 * d)).toInt = q := ⟨(f (16 + 9 * d)).toInt.toNat, by have := hw.1.1; omega⟩
  have h6 : h ≤ 6 := by have := hw.1.2; omega
  unfold dF
  split
  · unfold raF
    split
    · exact hw
    · rw [hh, Int.toNat_natCast]
      have hb := sm_b (f := f) (d := d) (p := h - 3) hw.2.2 (h - (h - 3)) (by omega)
      refine ⟨?_, Or.inr fs_same, fun i hi => ?_⟩
      · rw [fs_ne (by omega), fs_same, o_s (by omega), i_of (by omega)]; omega
      · rw [fs_ne (by omega), fs_ne (by omega)]
        by_cases e : i = h - 3
        · rw [e, fs_same, i_m6 (z := (smL f d (h - 3) (h - (h - 3))).toInt) rfl hb.1 (by omega)]
          omega
        · rw [fs_ne (by omega)]; exact hw.2.2 i hi
  · split
    · unfold sunF
      have := su_le (f := f) (d := d) (f (16 + 9 * d)).toInt.toNat
      refine ⟨?_, ?_, fun i hi => ?_⟩
      · rw [fs_same, i_of (by omega)]; omega
      · rw [fs_ne (by omega), fs_same]; exact Or.inl rfl
      · rw [fs_ne (by omega), fs_ne (by omega)]; exact hw.2.2 i hi
    · refine ⟨?_, Or.inl fs_same, fun i hi => ?_⟩
      · rw [fs_ne (by omega)]; exact hw.1
      · rw [fs_ne (by omega)]; exact hw.2.2 i hi
theorem WF.dfF (hw : WF f) (hd : d < 4) : WF (dF z f d) := by
  refine ⟨fun e he => ?_, fun w hv => ?_⟩
  · by_cases ed : e = d
    · subst ed; exact (hw.1 e he).dfF
    · have h1 := hw.1 e he
      unfold WD at h1 ⊢
      rw [dF_o (hw.1 d hd) (by omega), dF_o (hw.1 d hd) (by omega)]
      exact ⟨h1.1, h1.2.1, fun i hi => by rw [dF_o (hw.1 d hd) (by omega)]; exact h1.2.2 i hi⟩
  · rw [dF_o (hw.1 d hd) (by omega)]; exact hw.2 w hv
theorem WF.goK (hw : WF f) : ∀ d, d ≤ 4 → WF (goF z f d)
  | 0, _ => hw
  | d + 1, hd => (WF.goK hw d (by omega)).dfF (by omega)
theorem go_v (hw : WF f) (hk : k < 16) : ∀ d, d ≤ 4 → goF z f d k = f k
  | 0, _ => rfl
  | d + 1, hd => by
    show dF z (goF z f d) d k = f k
    rw [dF_o ((WF.goK hw d (by omega)).1 d (by omega)) (by omega)]
    exact go_v hw hk d (by omega)
/-- HOUR, RAIN, SUN, by the class -/
theorem weaL (hu : isTown u) (hw : WF f) (hz : x1.toInt = z) (hz2 : 90 ≤ z ∧ z ≤ 92) (hq : ∀ ι', Sm u (u + 14) ι0 ι' → (∀ j, ι' u j = ι0 u j) → TW u nv nd (goF z f nd) ι' → Q none ι') : ∀ (n d : Nat) (ι : IS) (x2 : Int32), x2.toInt = d → d ≤ nd → Sm u (u + 14) ι0 ι → (∀ j, ι u j = ι0 u j) → TW u nv nd (goF z f d) ι → PC xl n 76 2 [(0, .ref u), (1, .int x1), (2, .int x2)] [] ι Q
  | 0, _, _, _, _, _, _, _, _ => PC.zero
  | n + 1, d, ι, x2, hx, hd, hs, hj, hT => by
    have h5 := hT.2.1.1
    have hlt : x2 < ι u 3 ↔ d < nd := by rw [i_lt, hx, hT.2.1.2]; omega
    refine t_76_2 ⟨fun c => ?_, fun c => ?_⟩
    · have : d = nd := by
        have := mt hlt.mpr c; omega
      subst this
      exact hq ι hs hj hT
    have hdl := hlt.mp c
    have hw1 := WF.goK (z := z) hw d (by omega)
    have hW := hw1.1 d (by omega)
    obtain ⟨tr1, tr2⟩ := town_d hu (d := d) (by omega)
    have hD := hT.2.2.2 d hdl
    have nxt : ∀ ι1, Sm (u + 7 + 2 * d) (u + 7 + 2 * d + 1) ι ι1 → DX (u + 7 + 2 * d) d (dF z (goF z f d) d) ι1 → PC xl n 76 2 [(0, .ref u), (1, .int x1), (2, .int (x2 + 1))] [] ι1 Q := by
      intro ι1 s1 d1
      refine weaL hu hw hz hz2 hq n (d + 1) ι1 (x2 + 1) (i_s hx (by omega)) hdl (hs.trans (s1.wide (by omega) (by omega))) (fun j => by rw [s1 u j (by omega)]; exact hj j) ?_
      exact hT.door hw1 hdl s1 (fun k hk => dF_o hW hk) d1
    rw [i_ixn hx, tr1]
    refine ⟨fun c => fun _ _ => ?_, fun c => fun _ _ => ?_, fun c => fun _ _ => ?_, fun c => ?_⟩
    · refine nxt _ (Sm.rfl.up (by omega)) ?_
      unfold dF
      rw [if_neg (by omega), if_neg (by omega)]
      exact hD.wet
    · refine raX_spec tr2 hD hW (fun ι1 s1 d1 => nxt ι1 s1 ?_)
      unfold dF
      rw [if_pos (by omega)]; exact d1
    · refine sunX_spec tr2 hD hW (fun ι1 s1 d1 => nxt ι1 s1 ?_)
      unfold dF
      rw [if_neg (by omega), if_pos (by omega)]; exact d1
    · omega
theorem weaX_spec (hu : isTown u) (hw : WF f) (hT : TW u nv nd f ι) (hz : x1.toInt = z) (hz2 : 90 ≤ z ∧ z ≤ 92) (hq : ∀ ι', Sm u (u + 14) ι ι' → (∀ j, ι' u j = ι u j) → TW u nv nd (goF z f nd) ι' → Q none ι') : PC xl n 76 0 [(0, .ref u), (1, .int x1)] [] ι Q :=
  (t_76_0 (weaL hu hw hz hz2 hq n 0 ι 0 rfl (Nat.zero_le _) Sm.rfl (fun _ => rfl) hT)).weak
/-- the same by the model -/
theorem raML {h : Nat} (hx1 : x1.toInt = d) (hd4 : d < 4) (hx2 : x2.toInt = h) (h6 : h ≤ 6) (hx3 : x3 = Int32.ofNat p) (hp : p < h) (hq : Q none (up (up (up κ 131 (19 + 9 * d + p) (smL (κ 131) d p (h - p) - smL (κ 131) d p (h - p) / 6 * 6)) 131 (16 + 9 * d) (Int32.ofNat p + 1)) 131 (17 + 9 * d) 1)) : ∀ (n i : Nat) (x5 : Int32), x5.toInt = (p + i : Nat) → p + i ≤ h → PC xl n 192 30 [(0, .ref 129), (1, .int x1), (2, .int x2), (3, .int x3), (4, .int (smL (κ 131) d p i)), (5, .int x5)] [] κ Q
  | 0, _, _, _, _ => PC.zero
  | n + 1, i, x5, hx5, hi => by
    refine t_192_30 ⟨fun c => ?_, fun c => ?_⟩
    · rw [i_lt, hx5, hx2] at c
      have e : i = h - p := by omega
      subst e
      rw [hx3]
      refine becD_spec (m := 19 + 9 * d + p) hx1 hd4 (j := 3 + p) (i_3 (i_of (by omega)) (by omega)) (by omega) (by omega) ?_
      refine becD_spec (m := 16 + 9 * d) hx1 hd4 (j := 0) rfl (by omega) (by omega) ?_
      exact becD_spec (m := 17 + 9 * d) hx1 hd4 (j := 1) rfl (by omega) (by omega) hq
    · rw [i_lt, hx5, hx2] at c
      refine layM_spec (j := p + i) hx1 hd4 hx5 (by omega) ?_
      intro r e; cases e
      exact raML hx1 hd4 hx2 h6 hx3 hp hq n (i + 1) (x5 + 1) (i_s hx5 (by show p + i < _; omega)) (by omega)
theorem raM_spec (hx : x1.toInt = d) (hd4 : d < 4) (hw : WD (κ 131) d) (hq : ∀ κ', κ' 131 = raF (κ 131) d → (∀ a, ¬ a = 131 → κ' a = κ a) → Q none κ') : PC xl n 192 0 [(0, .ref 129), (1, .int x1)] [] κ Q := by
  obtain ⟨h, hh⟩ : ∃ q : Nat, (κ 131 (16 + 9 * d)).toInt = q := ⟨(κ 131 (16 + 9 * d)).toInt.toNat, by have := hw.1.1; omega⟩
  have h6 : h ≤ 6 := by have := hw.1.2; omega
  refine (t_192_0 (ofD_spec (m := 16 + 9 * d) hx hd4 (j := 0) rfl (by omega) (by omega) ?_)).weak
  intro r e; cases e
  have l23 : ∀ x3 : Int32, x3 = Int32.ofNat (h - 3) → 0 < h → PC xl n 192 23 [(0, .ref 129), (1, .int x1), (2, .int (κ 131 (16 + 9 * d)))] [.int x3] κ Q := by
    intro x3 hx3 h0
    refine (t_192_23 (raML (p := h - 3) hx hd4 hh h6 hx3 (by omega) (hq _ ?_ (fun a ha => by rw [up_oth ha, up_oth ha, up_oth ha])) n 0 x3 (by rw [hx3]; exact i_of (by omega)) (by omega))).weak
    have ef : ¬ κ 131 (16 + 9 * d) = 0 := fun e => by rw [e, n0] at hh; omega
    rw [rowE (rowE (rowE rfl))]
    unfold raF
    rw [if_neg ef, hh, Int.toNat_natCast]
  refine ⟨fun c => hq κ ?_ (fun _ _ => rfl), fun c => ⟨fun c2 => ?_, fun c2 => ?_⟩⟩
  · rw [i_lt, n0, hh] at c
    unfold raF
    rw [if_pos (i_z (by omega))]
  · rw [i_lt, n0, hh] at c
    rw [i_lt, n3, hh] at c2
    exact l23 0 (by rw [show h - 3 = 0 by omega]; rfl) (by omega)
  · rw [i_lt, n3, hh] at c2
    refine l23 _ ?_ (by omega)
    rw [i_eq, i_sub (by rw [hh, n3]; omega), hh, n3, i_of (by omega)]; omega
theorem sunML {s : Nat} (hx1 : x1 = 92) (hx2 : x2.toInt = d) (hd4 : d < 4) (hq : ∀ κ', κ' 131 = fs g (16 + 9 * d) (Int32.ofNat s) → (∀ a, ¬ a = 131 → κ' a = κ0 a) → PC xl n 191 62 [(0, .ref 129), (1, .int x1), (2, .int x2)] [] κ' Q) : ∀ (n2 k : Nat) (κ : IS), n2 ≤ n + 1 → k ≤ 6 → suN g d k = s → κ 131 = fs g (16 + 9 * d) (Int32.ofNat k) → (∀ a, ¬ a = 131 → κ a = κ0 a) → PC xl n2 191 31 [(0, .ref 129), (1, .int x1), (2, .int x2)] [] κ Q
  | 0, _, _, _, _, _, _, _ => PC.zero
  | n2 + 1, k, κ, hn, h6, hs, hk, ha => by
    have e16 : κ 131 (16 + 9 * d) = Int32.ofNat k := by rw [hk, fs_same]
    refine t_191_31 ⟨fun c => absurd hx1 c, fun _ => shM_spec hx2 hd4 (by rw [e16, i_of (by omega)]; omega) ?_⟩
    intro r e; cases e
    match k, h6, hs, hk, e16 with
    | 0, h6, hs, hk, e16 =>
      rw [shF_0 e16]
      refine ⟨fun _ => (hq κ (by rw [hk, ← hs]; rfl) ha).le (by omega), fun c => absurd c (by decide)⟩
    | k + 1, h6, hs, hk, e16 =>
      have e9 : shF (κ 131) d = g (19 + 9 * d + k) := by rw [shF_s (k := k) (by rw [e16, i_of (by omega)]), hk, fs_ne (by omega)]
      rw [e9]
      simp only [suN] at hs
      refine ⟨fun c => ?_, fun c => ofD_spec (m := 16 + 9 * d) hx2 hd4 (j := 0) rfl (by omega) (by omega) ?_⟩
      · rw [if_neg c] at hs
        exact (hq κ (by rw [hk, ← hs]) ha).le (by omega)
      · intro r e; cases e
        rw [if_pos c] at hs
        refine becD_spec (m := 16 + 9 * d) hx2 hd4 (j := 0) rfl (by omega) (by omega) ?_
        refine sunML hx1 hx2 hd4 hq n2 k _ (by omega) (by omega) hs ?_ (fun a h => by rw [up_oth h]; exact ha a h)
        rw [rowE hk, fs_2, e16, o_p (by omega)]
theorem goML (hw : WF f) (hz : x1.toInt = z) (hz2 : 90 ≤ z ∧ z ≤ 92) (hn : (κ0 129 4).toInt = nd) (h5 : nd ≤ 4) (hq : ∀ κ', κ' 131 = goF z f nd → (∀ a, ¬ a = 131 → κ' a = κ0 a) → Q none κ') : ∀ (n d : Nat) (κ : IS) (x2 : Int32), x2.toInt = d → d ≤ nd → κ 131 = goF z f d → (∀ a, ¬ a = 131 → κ a = κ0 a) → PC xl n 191 2 [(0, .ref 129), (1, .int x1), (2, .int x2)] [] κ Q
  | 0, _, _, _, _, _, _, _ => PC.zero
  | n + 1, d, κ, x2, hx, hd, hk, ha => by
    have hlt : x2 < κ 129 4 ↔ d < nd := by rw [i_lt, hx, ha 129 (by omega), hn]; omega
    refine t_191_2 ⟨fun c => ?_, fun c => ?_⟩
    · have : d = nd := by
        have := mt hlt.mpr c; omega
      subst this
      exact hq κ hk ha
    have hdl := hlt.mp c
    have hw1 := WF.goK (z := z) hw d (by omega)
    have hW := hw1.1 d (by omega)
    have l62 : ∀ κ1, κ1 131 = dF z (goF z f d) d → (∀ a, ¬ a = 131 → κ1 a = κ0 a) → PC xl n 191 62 [(0, .ref 129), (1, .int x1), (2, .int x2)] [] κ1 Q := fun κ1 h1 h2 => (t_191_62 (goML hw hz hz2 hn h5 hq n (d + 1) κ1 (x2 + 1) (i_s hx (by omega)) hdl h1 h2)).weak
    refine ⟨fun c1 => becD_spec (m := 17 + 9 * d) hx (by omega) (j := 1) rfl (by omega) (by omega) ?_, fun c1 => raM_spec hx (by omega) (by rw [hk]; exact hW) (fun κ1 h1 h2 => ?_)⟩
    · have z91 : ¬ z = 91 := fun e => c1 (by rw [i_eq, hz, e]; rfl)
      by_cases z92 : z = 92
      · have x92 : x1 = 92 := by rw [i_eq, hz, z92]; rfl
        obtain ⟨h, hh⟩ : ∃ q : Nat, (goF z f d (16 + 9 * d)).toInt = q := ⟨(goF z f d (16 + 9 * d)).toInt.toNat, by have := hW.1.1; omega⟩
        have h6 : h ≤ 6 := by have := hW.1.2; omega
        have sg : ∀ q, suN (fs (goF z f d) (17 + 9 * d) 0) d q = suN (goF z f d) d q := by
          intro q
          induction q with
          | zero => rfl
          | succ q ih => simp only [suN]; rw [fs_ne (by omega), ih]
        refine sunML (g := fs (goF z f d) (17 + 9 * d) 0) (s := suN (goF z f d) d h) (κ0 := κ0) x92 hx (by omega) (fun κ1 h1 h2 => l62 κ1 ?_ h2) n h _ (by omega) h6 (sg h) ?_ (fun a h => by rw [up_oth h]; exact ha a h)
        · rw [h1]
          unfold dF
          rw [if_neg z91, if_pos z92]
          unfold sunF
          rw [hh, Int.toNat_natCast]
        · rw [rowE hk]; exact (fs_id (by rw [fs_ne (by omega)]; exact i_on hh)).symm
      · refine (t_191_31 ⟨fun _ => l62 _ ?_ (fun a h => by rw [up_oth h]; exact ha a h), fun c2 => ?_⟩).weak
        · rw [rowE hk]
          unfold dF
          rw [if_neg z91, if_neg z92]
        · exact absurd (by rw [← hz, c2]; rfl) z92
    · have z91 : z = 91 := by rw [← hz, c1]; rfl
      refine (t_191_31 ⟨fun _ => l62 _ ?_ (fun a h => by rw [h2 a h]; exact ha a h), fun c2 => ?_⟩).weak
      · rw [h1, hk]
        unfold dF
        rw [if_pos z91]
      · rw [c2] at c1; exact absurd c1 (by decide)
theorem goM_spec (hw : WF (κ 131)) (hz : x1.toInt = z) (hz2 : 90 ≤ z ∧ z ≤ 92) (hn : (κ 129 4).toInt = nd) (h5 : nd ≤ 4) (hq : ∀ κ', κ' 131 = goF z (κ 131) nd → (∀ a, ¬ a = 131 → κ' a = κ a) → Q none κ') : PC xl n 191 0 [(0, .ref 129), (1, .int x1)] [] κ Q :=
  (t_191_0 (goML hw hz hz2 hn h5 hq n 0 κ 0 rfl (Nat.zero_le _) rfl (fun _ _ => rfl))).weak
theorem alX (hu : isTown u) (hT : TW u nv nd f ι) (h : Q (some (.int (sF (fun d => f (16 + 9 * d)) nd))) ι) : ∀ (n d : Nat) (x2 : Int32), x2.toInt = d → d ≤ nd → PC xl n 80 4 [(0, .ref u), (1, .int (sF (fun d => f (16 + 9 * d)) d)), (2, .int x2)] [] ι Q
  | 0, _, _, _, _ => PC.zero
  | n + 1, d, x2, hx, hd => by
    have h5 := hT.2.1.1
    have hlt : x2 < ι u 3 ↔ d < nd := by rw [i_lt, hx, hT.2.1.2]; omega
    refine t_80_4 ⟨fun c => ?_, fun c _ _ => ?_⟩
    · have : d = nd := by
        have := mt hlt.mpr c; omega
      subst this; exact h
    · have hdl := hlt.mp c
      rw [i_ixn hx, (town_d hu (d := d) (by omega)).1, (hT.2.2.2 d hdl).1]
      exact alX hu hT h n (d + 1) (x2 + 1) (i_s hx (by omega)) hdl
theorem alX_spec (hu : isTown u) (hT : TW u nv nd f ι) (h : Q (some (.int (sF (fun d => f (16 + 9 * d)) nd))) ι) : PC xl n 80 0 [(0, .ref u)] [] ι Q := (t_80_0 (alX hu hT h n 0 0 rfl (Nat.zero_le _))).weak
theorem laML (hn : (κ 129 4).toInt = nd) (h5 : nd ≤ 4) (h : Q (some (.int (sF (fun d => κ 131 (16 + 9 * d)) nd))) κ) : ∀ (n d : Nat) (x2 : Int32), x2.toInt = d → d ≤ nd → PC xl n 193 4 [(0, .ref 129), (1, .int (sF (fun d => κ 131 (16 + 9 * d)) d)), (2, .int x2)] [] κ Q
  | 0, _, _, _, _ => PC.zero
  | n + 1, d, x2, hx, hd => by
    have hlt : x2 < κ 129 4 ↔ d < nd := by rw [i_lt, hx, hn]; omega
    refine t_193_4 ⟨fun c => ?_, fun c => ?_⟩
    · have : d = nd := by
        have := mt hlt.mpr c; omega
      subst this; exact h
    · have hdl := hlt.mp c
      refine ofD_spec (m := 16 + 9 * d) hx (by omega) (j := 0) rfl (by omega) (by omega) ?_
      intro r e; cases e
      exact laML hn h5 h n (d + 1) (x2 + 1) (i_s hx (by omega)) hdl
theorem laM_spec (hn : (κ 129 4).toInt = nd) (h5 : nd ≤ 4) (h : Q (some (.int (sF (fun d => κ 131 (16 + 9 * d)) nd))) κ) : PC xl n 193 0 [(0, .ref 129)] [] κ Q := (t_193_0 (laML hn h5 h n 0 0 rfl (Nat.zero_le _))).weak
end Sky1
