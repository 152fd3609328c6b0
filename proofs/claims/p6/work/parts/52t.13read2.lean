/-! CALLS, VII: read by the model, and by both -/
/-- what reading by the model leaves -/
def RMP (R : Int32 × Bool × (Nat → Int32) × Int32) (κ : IS) (v : Option Value) (κ1 : IS) : Prop := v = some (.int R.1) ∧ ((R.2.1 = false ∧ MG κ κ1 ∧ rO 0 (κ1 130) = rO 0 (κ 130)) ∨ (R.2.1 = true ∧ ∃ κ', MG κ κ' ∧ κ1 = up κ' 129 31 R.2.2.2 ∧ rO 0 (κ' 130) = R.2.2.1))
section OpR2
variable {xl : List Int32} {n n2 : Nat} {ι ι0 ι1 κ κ0 κ1 : IS} {nv nd : Nat} {f g : Nat → Int32} {x1 x2 x3 x4 x : Int32} {Q : Option Value → IS → Prop} {r : Int32}
theorem l_bm {z : Int} (h : -9223372036854775808 ≤ z ∧ z ≤ 9223372036854775807) : z.bmod 18446744073709551616 = z := by
  rw [Int.bmod_def]; omega
theorem l_add {x y : Int64} (h : -9223372036854775808 ≤ x.toInt + y.toInt ∧ x.toInt + y.toInt ≤ 9223372036854775807) : (x + y).toInt = x.toInt + y.toInt := by
  rw [Int64.toInt_add]; exact l_bm h
theorem rf_129_32 : rf 129 32 = 140 := by decide +kernel
theorem c77 {k i c : Nat} {x6 x7 x8 : Int32} {w9 : Value} (hk : x1.toInt = k) (hi : x7.toInt = i) (hi2 : i ≤ 20) (hc : x8.toInt = c) (hc2 : c < 2) (hq : ∀ y9 : Int64, PC xl n 236 156 [(0, .ref 129), (1, .int x1), (2, .int x2), (3, .int x3), (4, .int x4), (5, .int 0), (6, .int x6), (7, .int x7), (8, .int x8), (9, .long y9)] [.int (flF (κ 137 k) x2 (κ 138 k) (x3.toInt + 2 * i + c))] κ Q) : PC xl n 236 77 [(0, .ref 129), (1, .int x1), (2, .int x2), (3, .int x3), (4, .int x4), (5, .int 0), (6, .int x6), (7, .int x7), (8, .int x8), (9, w9)] [] κ Q := by
  have hx3 := i_rng x3
  have e2i : (2 * x7).toInt = 2 * i := by rw [i_mul (by rw [n2i, hi]; omega), n2i, hi]
  have ep : (x3.toInt64 + (2 * x7).toInt64 + x8.toInt64).toInt = x3.toInt + 2 * i + c := by
    have e1 : (x3.toInt64 + (2 * x7).toInt64).toInt = x3.toInt + 2 * i := by rw [l_add (by rw [Int32.toInt_toInt64, Int32.toInt_toInt64, e2i]; omega), Int32.toInt_toInt64, Int32.toInt_toInt64, e2i]
    rw [l_add (by rw [e1, Int32.toInt_toInt64, hc]; omega), e1, Int32.toInt_toInt64, hc]
  have z64 : (0 : Int64).toInt = 0 := rfl
  unfold flF at hq
  refine (t_236_77 ?_).weak
  rw [rf_129_28, rf_129_29, i_ixn hk]
  refine ⟨fun c => ?_, fun _ => ⟨fun c => absurd rfl c, fun _ _ _ => ⟨fun c1 _ _ => ⟨fun c2 => ⟨fun c3 => ?_, fun c3 _ _ => ⟨fun c4 => ?_, fun c4 => ?_⟩⟩, fun c2 => ?_⟩, fun c1 => ?_⟩⟩⟩
  · rw [i_lt, hc, n2i] at c; omega
  · rw [lg_cmp_lt, Int64.lt_iff_toInt_lt, ep, z64] at c3
    refine (t_236_151 ?_).weak
    have := hq (x3.toInt64 + (2 * x7).toInt64 + x8.toInt64)
    rw [if_neg c1, if_pos c2, if_pos (Or.inl c3)] at this; exact this
  · rw [lg_cmp_lt, Int64.lt_iff_toInt_lt, ep, z64] at c3
    rw [lg_cmp_lt, Int64.lt_iff_toInt_lt, ep, Int32.toInt_toInt64] at c4
    have := hq (x3.toInt64 + (2 * x7).toInt64 + x8.toInt64)
    rw [if_neg c1, if_pos c2, if_neg (by omega)] at this; exact this
  · rw [lg_cmp_lt, Int64.lt_iff_toInt_lt, ep, Int32.toInt_toInt64] at c4
    refine (t_236_151 ?_).weak
    have := hq (x3.toInt64 + (2 * x7).toInt64 + x8.toInt64)
    rw [if_neg c1, if_pos c2, if_pos (Or.inr (by omega))] at this; exact this
  · have := hq (x3.toInt64 + (2 * x7).toInt64 + x8.toInt64)
    rw [if_neg c1, if_neg c2] at this; exact this
  · have := hq (x3.toInt64 + (2 * x7).toInt64 + x8.toInt64)
    rw [if_pos c1] at this; exact this
def sMv (a : Nat) : Bool := decide (129 ≤ a ∧ a ≤ 139)
def pMv (k : Nat) : Bool := decide (k = 148 ∨ (168 ≤ k ∧ k ≤ 170) ∨ (173 ≤ k ∧ k ≤ 174) ∨ (177 ≤ k ∧ k ≤ 179) ∨ k = 181 ∨ (184 ≤ k ∧ k ≤ 189))
set_option maxRecDepth 100000 in
theorem cloMv : sClo sMv [(9, 32)] = true := by decide +kernel
set_option maxRecDepth 100000 in
theorem chkMv : sChk pMv [(9, 32)] [] = true := by decide +kernel
theorem lvS2 {S : Nat → Bool} {a : Nat} (h : S a = true) : sLv S [(0, .ref a), (1, .int x1), (2, .int x2)] := by
  intro q hq
  simp only [List.mem_cons, List.not_mem_nil, or_false] at hq
  rcases hq with rfl | rfl | rfl
  · intro b e; cases e; exact Or.inl h
  · exact sV_int
  · exact sV_int
theorem vis140 : PC xl n 185 0 [(0, .ref 129), (1, .int x1), (2, .int x2)] [] κ (fun _ κ1 => ∀ j, κ1 140 j = κ 140 j) := (PC.side cloMv chkMv rfl (lvS2 rfl)).imp (fun _ κ1 h j => h 140 j (Or.inl rfl))
/-- what was told comes back -/
theorem rbL {x5 x6 x7 x8 x9 : Int32} (hq : ∀ κ', (∀ a, ¬ a = 130 → κ' a = κ a) → (∀ j, κ' 130 j = if j < 80 then κ 140 j else κ 130 j) → Q (some (.int ((-20) - x7))) κ') : ∀ (n i : Nat) (κ2 : IS) (x10 : Int32), x10.toInt = i → i ≤ 80 → (∀ a, ¬ a = 130 → κ2 a = κ a) → (∀ j, κ2 130 j = if j < i then κ 140 j else κ 130 j) → PC xl n 236 219 [(0, .ref 129), (1, .int x1), (2, .int x2), (3, .int x3), (4, .int x4), (5, .int x5), (6, .int x6), (7, .int x7), (8, .int x8), (9, .int x9), (10, .int x10)] [] κ2 Q
  | 0, _, _, _, _, _, _, _ => PC.zero
  | n + 1, i, κ2, x10, hx, hi, h1, h2 => by
    refine t_236_219 ⟨fun c => ?_, fun c _ _ _ _ => ?_⟩
    · rw [i_lt, hx, n80] at c
      have : i = 80 := by omega
      subst this
      exact hq κ2 h1 h2
    · rw [i_lt, hx, n80] at c
      rw [rf_129_0, rf_129_32, i_ixn hx, h1 140 (by omega)]
      refine rbL hq n (i + 1) _ (x10 + 1) (i_s hx (by omega)) (by omega) (fun a ha => by rw [up_oth ha]; exact h1 a ha) (fun j => ?_)
      by_cases e : j = i
      · subst e; rw [up_same, if_pos (by omega)]
      · rw [up_ne (by omega), h2 j]
        by_cases g : j < i
        · rw [if_pos g, if_pos (by omega)]
        · rw [if_neg g, if_neg (by omega)]
theorem rdMLp {k N : Nat} {R : Int32 × Bool × (Nat → Int32) × Int32} (hk : x1.toInt = k) (hk4 : k < 4) (hN : x4.toInt = N) (hN2 : N ≤ 20) (hM : HM nv nd κ0) (hz4 : (κ0 138 k).toInt ≤ 40) : ∀ (n m i : Nat) (f : Nat → Int32) (κ : IS) (x7 : Int32) (w8 w9 : Value), i + m = N → x7.toInt = i → MG κ0 κ → rO 0 (κ 130) = f → (∀ j, j < 80 → κ 140 j = κ0 130 j) → WF f → rdS nv nd (fun i => flP (κ0 137 k) x2 (κ0 138 k) (x3.toInt + 2 * i)) (fun i => κ0 139 (40 * k + (x3.toInt + 2 * i).toNat)) (fun i => κ0 139 (40 * k + (x3.toInt + 2 * i + 1).toNat)) m i f = R → PC xl n 236 62 [(0, .ref 129), (1, .int x1), (2, .int x2), (3, .int x3), (4, .int x4), (5, .int 0), (6, .int (Int32.ofNat i)), (7, .int x7), (8, w8), (9, w9)] [] κ (RMP R κ0)
  | 0, _, _, _, _, _, _, _, _, _, _, _, _, _, _ => PC.zero
  | n + 1, m, i, f, κ, x7, w8, w9, hm, hx, hg, hf, hh, hw, hR => by
    have h4 := hM.1.1
    have h5 := hM.2.1.1
    have r137 : κ 137 = κ0 137 := hg.1 137 (by omega) (by omega) (by omega) (by omega) (by omega)
    have r138 : κ 138 = κ0 138 := hg.1 138 (by omega) (by omega) (by omega) (by omega) (by omega)
    have r139 : κ 139 = κ0 139 := hg.1 139 (by omega) (by omega) (by omega) (by omega) (by omega)
    have hM1 : HM nv nd κ := ⟨⟨h4, by rw [hg.2.1 3 (by omega)]; exact hM.1.2⟩, ⟨h5, by rw [hg.2.1 4 (by omega)]; exact hM.2.1.2⟩, by rw [hf]; exact hw⟩
    refine t_236_62 ⟨fun c => ?_, fun c => ⟨fun c2 => absurd rfl c2, fun _ => ?_⟩⟩
    · rw [i_lt, hx, hN] at c
      have : m = 0 := by omega
      subst this
      rw [← hR]
      exact ⟨rfl, Or.inr ⟨rfl, κ, hg, rfl, hf⟩⟩
    · rw [i_lt, hx, hN] at c
      obtain ⟨m, rfl⟩ : ∃ q, m = q + 1 := ⟨m - 1, by omega⟩
      have hx3 := i_rng x3
      simp only [rdS] at hR
      -- behind the two tries
      have bad : ∀ (y x8 : Int32) (w : Value), ¬ y = 0 → flP (κ0 137 k) x2 (κ0 138 k) (x3.toInt + 2 * i) = y → PC xl n 236 164 [(0, .ref 129), (1, .int x1), (2, .int x2), (3, .int x3), (4, .int x4), (5, .int y), (6, .int (Int32.ofNat i)), (7, .int x7), (8, .int x8), (9, w)] [] κ (RMP R κ0) := by
        intro y x8 w hy hfl
        rw [hfl, if_neg hy] at hR
        refine (t_236_164 ⟨fun _ => (t_236_255 (t_236_62 (n := n) ⟨fun _ => ?_, fun _ => ⟨fun _ => ?_, fun z => absurd z hy⟩⟩).weak).weak, fun z => absurd z hy⟩).weak
        · rw [← hR]; exact ⟨rfl, Or.inr ⟨rfl, κ, hg, rfl, hf⟩⟩
        · rw [← hR]; exact ⟨rfl, Or.inr ⟨rfl, κ, hg, rfl, hf⟩⟩
      have good : ∀ (x8 : Int32) (w : Value), flP (κ0 137 k) x2 (κ0 138 k) (x3.toInt + 2 * i) = 0 → PC xl n 236 164 [(0, .ref 129), (1, .int x1), (2, .int x2), (3, .int x3), (4, .int x4), (5, .int 0), (6, .int (Int32.ofNat i)), (7, .int x7), (8, .int x8), (9, w)] [] κ (RMP R κ0) := by
        intro x8 w hfl
        have pk := flP_ok hfl
        rw [hfl, if_pos rfl] at hR
        have e0 : (40 * x1).toInt = 40 * k := by rw [i_mul (by rw [n40, hk]; omega), n40, hk]
        have e1 : (40 * x1 + x3).toInt = 40 * k + x3.toInt := by rw [i_add (by rw [e0]; omega), e0]
        have e2i : (2 * x7).toInt = 2 * i := by rw [i_mul (by rw [n2i, hx]; omega), n2i, hx]
        have e2 : (40 * x1 + x3 + 2 * x7).toInt = (40 * k + (x3.toInt + 2 * i).toNat : Nat) := by rw [i_add (by rw [e1, e2i]; omega), e1, e2i]; omega
        have e3 : (40 * x1 + x3 + 2 * x7 + 1).toInt = (40 * k + (x3.toInt + 2 * i + 1).toNat : Nat) := by rw [i_add (by rw [e2, n1]; omega), e2, n1]; omega
        refine (t_236_164 ⟨fun z => absurd rfl z, fun _ _ _ _ _ => ?_⟩).weak
        rw [rf_129_30, i_ixn e2, i_ixn e3, r139]
        refine PC.imp (PC.and (visitM hM1) vis140) (fun v1 κ1 g1 => ?_)
        obtain ⟨⟨g1, g2, g3⟩, g140⟩ := g1
        rw [hf] at g1 g3
        intro r e
        rw [g1] at e
        cases e
        have vb := visR_b (x1 := κ0 139 (40 * k + (x3.toInt + 2 * i).toNat)) (x2 := κ0 139 (40 * k + (x3.toInt + 2 * i + 1).toNat)) hw h5 h4
        have h140 : ∀ j, j < 80 → κ1 140 j = κ0 130 j := fun j hj => by rw [g140]; exact hh j hj
        have nxt : ∀ x8 x9 : Int32, ¬ refP (visR nv nd f (κ0 139 (40 * k + (x3.toInt + 2 * i).toNat)) (κ0 139 (40 * k + (x3.toInt + 2 * i + 1).toNat))) → PC xl n 236 252 [(0, .ref 129), (1, .int x1), (2, .int x2), (3, .int x3), (4, .int x4), (5, .int 0), (6, .int (Int32.ofNat i)), (7, .int x7), (8, .int x8), (9, .int x9)] [] κ1 (RMP R κ0) := by
          intro x8 x9 nr
          rw [if_neg nr] at hR
          refine (t_236_252 (n := n) (t_236_255 (n := n) ?_).weak).weak
          have go := rdMLp hk hk4 hN hN2 hM hz4 n m (i + 1) _ κ1 (x7 + 1) (.int x8) (.int x9) (by omega) (i_s hx (by omega)) (hg.trans g2) g3 h140 (hw.visK h4 h5) hR
          rw [← o_s (by omega)] at go
          exact go
        refine ⟨fun c => nxt _ _ (fun q => ?_), fun c => ⟨fun c2 => nxt _ _ (fun q => (vb.mp q).2 c2), fun c2 => ?_⟩⟩
        · rw [i_lt, n0] at c; exact c (vb.mp q).1
        · rw [i_lt, n0] at c
          rw [if_pos (vb.mpr ⟨c, c2⟩)] at hR
          refine rbL (fun κ' m1 m2 => ?_) n 0 κ1 0 rfl (Nat.zero_le _) (fun _ _ => rfl) (fun j => by rw [if_neg (Nat.not_lt_zero _)])
          rw [← hR, i_on hx]
          refine ⟨rfl, Or.inl ⟨rfl, (hg.trans g2).trans (MG.se m1 (fun j hj => by rw [m2, if_neg (by omega)])), ?_⟩⟩
          funext j
          unfold rO
          split
          · rw [m2, if_pos (by omega), h140 _ (by omega)]
          · rfl
      refine c77 (c := 0) hk hx (by omega) rfl (by omega) (fun y9 => (t_236_156 ?_).weak)
      rw [r137, r138, show x3.toInt + 2 * (i : Int) + ((0 : Nat) : Int) = x3.toInt + 2 * i by omega]
      by_cases f0 : flF (κ0 137 k) x2 (κ0 138 k) (x3.toInt + 2 * i) = 0
      · rw [f0]
        refine c77 (c := 1) hk hx (by omega) rfl (by omega) (fun y9 => (t_236_156 ?_).weak)
        rw [r137, r138]
        have ef : flP (κ0 137 k) x2 (κ0 138 k) (x3.toInt + 2 * i) = flF (κ0 137 k) x2 (κ0 138 k) (x3.toInt + 2 * i + 1) := by unfold flP; rw [if_pos f0]
        refine (t_236_77 ⟨fun _ => ?_, fun c => absurd c (by decide)⟩).weak
        by_cases f1 : flF (κ0 137 k) x2 (κ0 138 k) (x3.toInt + 2 * i + 1) = 0
        · rw [show x3.toInt + 2 * (i : Int) + ((1 : Nat) : Int) = x3.toInt + 2 * i + 1 from rfl, f1]
          exact good _ _ (by rw [ef]; exact f1)
        · exact bad _ _ _ f1 ef
      · refine (t_236_77 ⟨fun c => absurd (show (0 : Int32) + 1 < 2 by decide) c, fun _ => ⟨fun _ => bad _ _ _ f0 ?_, fun z => absurd z f0⟩⟩).weak
        unfold flP; rw [if_neg f0]
theorem hadL {k N : Nat} (hq : ∀ κ', (∀ a, ¬ a = 140 → κ' a = κ a) → (∀ j, j < 80 → κ' 140 j = κ 130 j) → PC xl n 236 62 [(0, .ref 129), (1, .int x1), (2, .int x2), (3, .int x3), (4, .int x4), (5, .int 0), (6, .int 0), (7, .int 0), (8, .null), (9, .null)] [] κ' Q) : ∀ (m i : Nat) (κ2 : IS) (x5 : Int32), m ≤ n → x5.toInt = i → i ≤ 80 → (∀ a, ¬ a = 140 → κ2 a = κ a) → (∀ j, j < i → κ2 140 j = κ 130 j) → PC xl m 236 26 [(0, .ref 129), (1, .int x1), (2, .int x2), (3, .int x3), (4, .int x4), (5, .int x5)] [] κ2 Q
  | 0, _, _, _, _, _, _, _, _ => PC.zero
  | m + 1, i, κ2, x5, hm, hx, hi, h1, h2 => by
    refine t_236_26 ⟨fun c => ?_, fun c _ _ _ _ => ?_⟩
    · rw [i_lt, hx, n80] at c
      exact (hq κ2 h1 (fun j hj => h2 j (by omega))).le (by omega)
    · rw [i_lt, hx, n80] at c
      rw [rf_129_0, rf_129_32, i_ixn hx, h1 130 (by omega)]
      refine hadL (k := k) (N := N) hq m (i + 1) _ (x5 + 1) (by omega) (i_s hx (by omega)) (by omega) (fun a ha => by rw [up_oth ha]; exact h1 a ha) (fun j hj => ?_)
      by_cases e : j = i
      · subst e; rw [up_same]
      · rw [up_ne (by omega)]; exact h2 j (by omega)
theorem RN.torn (h : RN nv nd ι κ) (h1 : ∀ a j, ¬ (25 ≤ a ∧ a ≤ 39) → ¬ (86 ≤ a ∧ a ≤ 100) → ¬ (a = 0 ∧ j = 10) → ι1 a j = ι a j) (hm : MG κ κ1) (hb : ι1 25 4 = -4) (hT : TW 25 nv nd (rO 0 (κ1 130)) ι1) (hg : ∀ k, 52 ≤ k → rO 0 (κ1 130) k = rO 0 (κ 130) k) (t : Int32) (ht : ι1 0 10 = t) : RN nv nd ι1 (up κ1 129 31 t) := by
  obtain ⟨⟨a1, a2⟩, ⟨b1, b2⟩, ⟨c1, c3⟩, dd, ee, gg⟩ := h
  have o : ∀ a, ¬ a = 129 → (up κ1 129 31 t) a = κ1 a := fun a ha => up_oth ha
  have q : ∀ j, ¬ j = 31 → (up κ1 129 31 t) 129 j = κ1 129 j := fun j hj => up_ne (by omega)
  refine ⟨⟨a1, by rw [q 3 (by omega), hm.2.1 3 (by omega)]; exact a2⟩, ⟨b1, by rw [q 4 (by omega), hm.2.1 4 (by omega)]; exact b2⟩, ⟨?_, hb⟩, ?_, ?_, ?_⟩
  · rw [o 130 (by omega)]
    refine ⟨hT, ?_, ?_⟩
    · have hP := c1.2.1
      refine ⟨by rw [h1 24 2 (by omega) (by omega) (by omega), hg 52 (by omega)]; exact hP.1, by rw [hg 52 (by omega)]; exact hP.2.1, fun i hi => ?_⟩
      rw [hg 52 (by omega)] at hi
      rw [h1 _ _ (by omega) (by omega) (by omega), hg _ (by omega)]
      exact hP.2.2 i hi
    · have hS := c1.2.2
      refine ⟨by rw [h1 24 6 (by omega) (by omega) (by omega), hg 61 (by omega)]; exact hS.1, by rw [hg 61 (by omega)]; exact hS.2.1, fun i hi => ?_⟩
      rw [hg 61 (by omega)] at hi
      rw [h1 _ _ (by omega) (by omega) (by omega), h1 _ _ (by omega) (by omega) (by omega), h1 _ _ (by omega) (by omega) (by omega), hg _ (by omega), hg _ (by omega), hg _ (by omega)]
      exact hS.2.2 i hi
  · exact dd.keep (fun a j g1 g2 => h1 a j (by omega) (by omega) (by omega)) (by rw [o 132 (by omega)]; exact hm.1 132 (by omega) (by omega) (by omega) (by omega) (by omega)) (fun j hj => by rw [o 130 (by omega)]; exact hm.2.2 j hj)
  · refine ⟨fun k hk => ?_, by rw [ht, up_same]⟩
    have g := ee.1 k hk
    rw [h1 _ _ (by omega) (by omega) (by omega), h1 _ _ (by omega) (by omega) (by omega), o 137 (by omega), o 138 (by omega), o 139 (by omega), hm.1 137 (by omega) (by omega) (by omega) (by omega) (by omega), hm.1 138 (by omega) (by omega) (by omega) (by omega) (by omega), hm.1 139 (by omega) (by omega) (by omega) (by omega) (by omega)]
    exact ⟨g.1, g.2.1, g.2.2.1, fun i hi => by rw [h1 _ _ (by omega) (by omega) (by omega)]; exact g.2.2.2 i hi⟩
  · exact gg.keep (fun a j g1 g2 => h1 a j (by omega) (by omega) (by omega)) (by rw [q 13 (by omega)]; exact hm.2.1 13 (by omega)) (by rw [o 135 (by omega)]; exact hm.1 135 (by omega) (by omega) (by omega) (by omega) (by omega))
theorem rdS_hi {fl cv cd : Nat → Int32} {q : Nat} (hq : 52 ≤ q) (h4 : nv ≤ 4) (h5 : nd ≤ 4) : ∀ (m i : Nat) (f : Nat → Int32), WF f → (rdS nv nd fl cv cd m i f).2.2.1 q = f q
  | 0, _, _, _ => rfl
  | m + 1, i, f, hw => by
    simp only [rdS]
    split
    · split
      · rfl
      · rw [rdS_hi hq h4 h5 m (i + 1) _ (hw.visK h4 h5)]
        unfold visG
        split
        · rename_i c
          have ok := c.1
          unfold okVD at ok
          exact vi_hi hw (by omega) (by omega) c.2 hq
        · rfl
    · rfl
theorem read_call (h : RN nv nd ι κ) (w : WW κ) : CALL xl n n2 139 236 [(0, .ref 0), (1, .int x1), (2, .int x2), (3, .int x3), (4, .int x4)] [(0, .ref 129), (1, .int x1), (2, .int x2), (3, .int x3), (4, .int x4)] (fun v1 v2 => v1 = v2) ι κ := by
  have hx := h.hx w
  have hm := h.hm w
  have n20 : (20 : Int32).toInt = 20 := rfl
  -- the class
  have key : PC xl n 139 0 [(0, .ref 0), (1, .int x1), (2, .int x2), (3, .int x3), (4, .int x4)] [] ι (fun v ι1 => (¬ ((0 ≤ x1.toInt ∧ x1.toInt < 4) ∧ (0 ≤ x2.toInt ∧ x2.toInt < 3) ∧ 0 ≤ x4.toInt ∧ x4.toInt ≤ 20) ∧ v = some (.int (-1)) ∧ ι1 = ι) ∨ (∃ k N : Nat, x1.toInt = k ∧ k < 4 ∧ (0 ≤ x2.toInt ∧ x2.toInt < 3) ∧ x4.toInt = N ∧ N ≤ 20 ∧ RXP nv nd (rdS nv nd (fun i => flP (κ 137 k) x2 (κ 138 k) (x3.toInt + 2 * i)) (fun i => κ 139 (40 * k + (x3.toInt + 2 * i).toNat)) (fun i => κ 139 (40 * k + (x3.toInt + 2 * i + 1).toNat)) N 0 (rO 0 (κ 130))) ι v ι1)) := by
    refine (t_139_0 (isSh_spec (fun r hr => ?_))).weak
    intro r2 e; cases e
    refine ⟨fun c => Or.inl ⟨fun q => (hr.mp c) q.1, rfl, rfl⟩, fun c => isLn_spec (fun r hr2 => ?_)⟩
    have c1 : 0 ≤ x1.toInt ∧ x1.toInt < 4 := by false_or_by_contra; rename_i hh; exact c (hr.mpr hh)
    intro r2 e; cases e
    refine ⟨fun c => Or.inl ⟨fun q => (hr2.mp c) q.2.1, rfl, rfl⟩, fun c => ?_⟩
    have c2 : 0 ≤ x2.toInt ∧ x2.toInt < 3 := by false_or_by_contra; rename_i hh; exact c (hr2.mpr hh)
    refine ⟨fun c3 => Or.inl ⟨fun q => ?_, rfl, rfl⟩, fun c3 => ⟨fun c4 _ _ => ?_, fun c4 => Or.inl ⟨fun q => ?_, rfl, rfl⟩⟩⟩
    · rw [i_lt, n0] at c3; omega
    · rw [i_lt, n0] at c3
      rw [i_lt, n20] at c4
      obtain ⟨k, hk⟩ : ∃ k : Nat, x1.toInt = k := ⟨x1.toInt.toNat, by omega⟩
      obtain ⟨N, hN⟩ : ∃ N : Nat, x4.toInt = N := ⟨x4.toInt.toNat, by omega⟩
      have hk4 : k < 4 := by omega
      have hS := h.2.2.2.2.1.1 k hk4
      rw [show rf 0 5 = 86 from rfl, rf_0_2', i_ixn hk, (re_sh hk4).1]
      refine twnB_spec (by decide) (by decide) (by omega) w.1.hb hx.tw (fun ι1 s1 t1 b1 => ?_)
      refine PC.imp (rdXLp (lk := κ 137 k) (sz := κ 138 k) (cl := fun i => κ 139 (40 * k + i)) hk4 hN (by omega) ?_ ?_ hS.2.2.1.2 (fun i hi => ?_) n N 0 (rO 0 (κ 130)) ι1 0 .null (by omega) rfl Sm.rfl t1 b1 w.1 (Or.inl rfl) rfl) (fun v ι2 g => Or.inr ⟨k, N, hk, hk4, c2, hN, by omega, ?_⟩)
      · rw [s1 _ _ (by omega)]; exact hS.1
      · rw [s1 _ _ (by omega)]; exact hS.2.1
      · rw [s1 _ _ (by omega)]; exact hS.2.2.2 i hi
      · obtain ⟨g0, g⟩ := g
        refine ⟨g0, ?_⟩
        rcases g with ⟨p1, p2⟩ | ⟨p1, p2, p3, p4, p5⟩
        · exact Or.inl ⟨p1, s1.trans p2⟩
        · exact Or.inr ⟨p1, fun a j q1 q2 q3 => by rw [p2 a j q1 q2 q3]; exact s1 a j (by omega), p3, p4, p5⟩
    · rw [i_lt, n20] at c4; omega
  refine PC.imp key (fun v1 ι1 g1 => ?_)
  refine (t_236_0 (isSM_spec (fun r hr => ?_))).weak
  intro r2 e; cases e
  have same : ¬ ((0 ≤ x1.toInt ∧ x1.toInt < 4) ∧ (0 ≤ x2.toInt ∧ x2.toInt < 3) ∧ 0 ≤ x4.toInt ∧ x4.toInt ≤ 20) → v1 = some (.int (-1)) ∧ RRel ι1 κ := by
    intro q
    rcases g1 with ⟨-, q1, q2⟩ | ⟨k, N, q1, q2, q3, q4, q5, -⟩
    · rw [q2]; exact ⟨q1, nv, nd, h⟩
    · exact absurd ⟨by omega, q3, by omega⟩ q
  refine ⟨fun c => same (fun q => (hr.mp c) ⟨q.1, q.2.1⟩), fun c => inL (l := 0) (g := 20) rfl rfl (fun r hr2 => ?_)⟩
  have c1 : (0 ≤ x1.toInt ∧ x1.toInt < 4) ∧ 0 ≤ x2.toInt ∧ x2.toInt < 3 := by false_or_by_contra; rename_i hh; exact c (hr.mpr hh)
  intro r2 e; cases e
  refine ⟨fun c2 => ?_, fun c2 => same (fun q => (hr2.mp c2) q.2.2)⟩
  have c3 : 0 ≤ x4.toInt ∧ x4.toInt ≤ 20 := by false_or_by_contra; rename_i hh; exact c2 (hr2.mpr hh)
  rcases g1 with ⟨q0, -⟩ | ⟨k, N, hk, hk4, -, hN, hN2, g1⟩
  · exact absurd ⟨c1.1, c1.2, c3⟩ q0
  have hS := h.2.2.2.2.1.1 k hk4
  refine hadL (n := n2) (k := k) (N := N) (fun κ2 m1 m2 => ?_) n2 0 κ 0 (Nat.le_refl _) rfl (Nat.zero_le _) (fun _ _ => rfl) (fun j hj => absurd hj (Nat.not_lt_zero _))
  have g2 : MG κ κ2 := ⟨fun a _ _ _ _ q => m1 a q, fun j _ => by rw [m1 129 (by omega)], fun j _ => by rw [m1 130 (by omega)]⟩
  refine PC.imp (rdMLp hk hk4 hN hN2 hm hS.2.2.1.2 n2 N 0 (rO 0 (κ 130)) κ2 0 .null .null (by omega) rfl g2 (by rw [m1 130 (by omega)]) m2 w.1 rfl) (fun v2 κ3 g3 => ?_)
  obtain ⟨p0, p⟩ := g1
  obtain ⟨q0, q⟩ := g3
  refine ⟨by rw [p0, q0], ?_⟩
  rcases p with ⟨p1, p2⟩ | ⟨p1, p2, p3, p4, p5⟩
  · rcases q with ⟨q1, q2, q3⟩ | ⟨q1, -⟩
    · exact ⟨nv, nd, h.town (CG.of p2 (by omega)) q2 (by rw [p2 25 4 (by omega)]; exact h.2.2.1.2) (by rw [q3]; exact h.2.2.1.1.keep (fun a j g1 g2 => p2 a j (by omega)))⟩
    · rw [p1] at q1; cases q1
  · rcases q with ⟨q1, -⟩ | ⟨q1, κ', q2, q3, q4⟩
    · rw [p1] at q1; cases q1
    · rw [q3]
      exact ⟨nv, nd, h.torn p2 q2 p4 (by rw [q4]; exact p5) (fun j hj => by rw [q4]; exact rdS_hi hj hm.1.1 hm.2.1.1 N 0 _ w.1) _ p3⟩
end OpR2
