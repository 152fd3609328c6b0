/-! CALLS, XIV: orders by the model -/
section OrdM
variable {xl : List Int32} {n : Nat} {ι κ κ0 κ1 : IS} {Q : Option Value → IS → Prop} {x1 x2 x3 x : Int32} {d nd nv c m k : Nat} {f g : Nat → Int32}
theorem rf_129_24 : rf 129 24 = 136 := by decide +kernel
theorem on_inj {a b : Nat} (ha : a < 2147483648) (hb : b < 2147483648) (h : Int32.ofNat a = Int32.ofNat b) : a = b := by
  have := congrArg Int32.toInt h
  rw [i_of (by omega), i_of (by omega)] at this
  omega
theorem msk_b (hc : c ≤ 5) : ∀ r, r ≤ c → mskR ((dgL c k).drop (c - r)) < 32
  | 0, _ => by
    rw [Nat.sub_zero, List.drop_eq_nil_of_le (by rw [dg_len]; exact Nat.le_refl _)]; decide
  | r + 1, hr => by
    have ih := msk_b hc r (by omega)
    rw [msk_s (show c - (r + 1) < c by omega), show c - (r + 1) + 1 = c - r by omega]
    exact (bit_ok ih (by have := dg_lt (c := c) (k := k) (i := c - (r + 1)) (by omega); omega)).2.2
theorem st_MO (hM : HM nv nd κ) (hq : ∀ κ1, MG κ κ1 → κ1 130 = κ 130 → κ1 131 = rO 0 (κ 130) → κ1 129 20 = -4 → (κ1 129 3).toInt = nv → (κ1 129 4).toInt = nd → BM2 (-4) 0 κ1 → κ1 136 = κ 136 → Q none κ1) : PC xl n 168 0 [(0, .ref 129)] [] κ Q :=
  starts_spec (fun κ1 h1 h2 h3 h4 => hq κ1 (MG.st h1 h2) (h1 130 (by omega) (by omega)) h4 h3 (by rw [h2 3 (by omega)]; exact hM.1.2) (by rw [h2 4 (by omega)]; exact hM.2.1.2) ⟨by rw [h3]; rfl, fun g => absurd g (by decide)⟩ (h1 136 (by omega) (by omega)))
theorem isoL (hc : c ≤ 5) (hx2 : x2.toInt = c) (hk : k < 3126) (hq : ∀ κ' (r : Int32), (∀ a, ¬ a = 136 → κ' a = κ a) → (∀ i, i < c → κ' 136 i = Int32.ofNat ((dgL c k).getD i 0)) → (r = 0 ↔ ¬ mskR (dgL c k) = 2 ^ c - 1) → Q (some (.int r)) κ') : ∀ (n j : Nat) (κ2 : IS) (x3 x4 x5 : Int32), j ≤ c → x5.toInt = (j : Int) - 1 → x3.toInt = ((k / c ^ (c - j) : Nat) : Int) → x4 = Int32.ofNat (mskR ((dgL c k).drop j)) → (∀ a, ¬ a = 136 → κ2 a = κ a) → (∀ i, j ≤ i → i < c → κ2 136 i = Int32.ofNat ((dgL c k).getD i 0)) → PC xl n 223 18 [(0, .ref 129), (1, .int x1), (2, .int x2), (3, .int x3), (4, .int x4), (5, .int x5)] [] κ2 Q
  | 0, _, _, _, _, _, _, _, _, _, _, _ => PC.zero
  | n + 1, j, κ2, x3, x4, x5, hj, hx5, hx3, hx4, h1, h2 => by
    have e2 : x2 = Int32.ofNat c := i_on hx2
    refine t_223_18 ⟨fun q => ?_, fun q z1 _ _ z2 _ _ => ?_⟩
    · rw [i_lt, hx5, n0] at q
      have j0 : j = 0 := by omega
      subst j0
      have mb := msk_b (k := k) hc c (Nat.le_refl _)
      rw [Nat.sub_self] at mb
      rw [List.drop_zero] at hx4 mb
      have pb : 2 ^ c - 1 < 2147483648 := by
        have : 2 ^ c ≤ 2 ^ 5 := Nat.pow_le_pow_right (by omega) hc
        omega
      rw [hx4, e2, bit_c hc]
      refine ⟨fun z => hq κ2 0 h1 (fun i hi => h2 i (by omega) hi) ⟨fun _ e => z (by rw [e]), fun _ => rfl⟩, fun z => hq κ2 1 h1 (fun i hi => h2 i (by omega) hi) ⟨fun e => absurd e (by decide), fun e => absurd (on_inj (by omega) pb z) e⟩⟩
    · rw [i_lt, hx5, n0] at q
      obtain ⟨j, rfl⟩ : ∃ q, j = q + 1 := ⟨j - 1, by omega⟩
      have c0 : 0 < c := by omega
      have dg : (x3 - x3 / x2 * x2).toInt = (((dgL c k).getD j 0 : Nat) : Int) := by
        rw [i_md hx3 hx2 (Int.natCast_nonneg _) (by omega), dg_get (by omega), show c - 1 - j = c - (j + 1) by omega]
        rfl
      have dl := dg_lt (c := c) (k := k) (i := j) (by omega)
      have i5 : x5.toInt = (j : Nat) := by rw [hx5]; omega
      rw [rf_129_24, i_ixn i5, up_same, i_on dg]
      have mb := msk_b (k := k) hc (c - (j + 1)) (by omega)
      rw [show c - (c - (j + 1)) = j + 1 by omega] at mb
      refine isoL hc hx2 hk hq n j _ _ _ _ (by omega) ?_ ?_ ?_ (fun a ha => by rw [up_oth ha]; exact h1 a ha) (fun i g1 g2 => ?_)
      · have m1 : (-1 : Int32).toInt = -1 := rfl
        rw [i_add (by rw [i5, m1]; omega), i5, m1]; omega
      · rw [i_dv hx3 hx2 (Int.natCast_nonneg _) (by omega)]
        show (((k / c ^ (c - (j + 1)) / c : Nat)) : Int) = _
        rw [Nat.div_div_eq_div_mul, ← Nat.pow_succ, show (c - (j + 1)).succ = c - j by omega]
      · rw [hx4, msk_s (show j < c by omega)]
        exact (bit_ok mb (by omega)).2.1
      · by_cases e : i = j
        · subst e; rw [up_same]
        · rw [up_ne (by omega)]; exact h2 i (by omega) g2
theorem isoM_spec (hc : c ≤ 5) (h52 : (κ 130 52).toInt = c) (hx1 : x1.toInt = k) (hk : k < 3126) (hq : ∀ κ' (r : Int32), (∀ a, ¬ a = 136 → κ' a = κ a) → (∀ i, i < c → κ' 136 i = Int32.ofNat ((dgL c k).getD i 0)) → (r = 0 ↔ ¬ mskR (dgL c k) = 2 ^ c - 1) → Q (some (.int r)) κ') : PC xl n 223 0 [(0, .ref 129), (1, .int x1)] [] κ Q := by
  refine (t_223_0 ?_).weak
  rw [rf_129_0, c52]
  refine fun _ _ => isoL hc h52 hk hq n c κ x1 0 _ (Nat.le_refl _) ?_ ?_ ?_ (fun _ _ => rfl) (fun i g1 g2 => absurd g2 (by omega))
  · rw [i_sub (by rw [h52, n1]; omega), h52, n1]
  · rw [hx1, Nat.sub_self, Nat.pow_zero, Nat.div_one]
  · rw [List.drop_eq_nil_of_le (by rw [dg_len]; exact Nat.le_refl _)]; rfl
/-- ACTS in an order -/
theorem orAL {nb : Nat} {x4 x5 x6 : Int32} {l : List Nat} (h : HM nv nd κ0) (hp : HP κ0) (hv : HV nv nd κ0) (hB : BM2 (-4) 0 κ0) (hcn : cnF (rO 0 (κ0 130)) = c) (hc : c ≤ 5) (hx2 : x2.toInt = c) (hl : ∀ i, i < c → l.getD i 0 < c) (ho : ∀ i, i < c → κ0 136 i = Int32.ofNat (l.getD i 0)) (hq : ∀ (κ' : IS) (w : Int32), AF κ0 κ' → κ' 131 = sq nd (-4) 0 (fun i => plF (rO 0 (κ0 130)) (l.getD i 0)) 0 (rO 0 (κ0 130)) c → w.toInt = c → PC xl nb 222 77 [(0, .ref 129), (1, .int x1), (2, .int x2), (3, .int x3), (4, .int x4), (5, .int x5), (6, .int x6), (7, .int w)] [] κ' Q) : ∀ (n i : Nat) (κ : IS) (x7 : Int32), n ≤ nb → x7.toInt = i → i ≤ c → AF κ0 κ → κ 131 = sq nd (-4) 0 (fun i => plF (rO 0 (κ0 130)) (l.getD i 0)) 0 (rO 0 (κ0 130)) i → PC xl n 222 77 [(0, .ref 129), (1, .int x1), (2, .int x2), (3, .int x3), (4, .int x4), (5, .int x5), (6, .int x6), (7, .int x7)] [] κ Q
  | 0, _, _, _, _, _, _, _, _ => PC.zero
  | n + 1, i, κ, x7, hnb, hx, hi, ha, hk => by
    have h4 := h.1.1
    have h5 := h.2.1.1
    have b8 := hp.1
    by_cases e : i = c
    · subst e
      exact (hq κ x7 ha hk hx).le hnb
    have va : ∀ i, i < c → VA nv nd (plF (rO 0 (κ0 130)) (l.getD i 0)) := fun i hi => by
      have := HM.va hv (l.getD i 0) (by rw [hcn]; exact hl i hi)
      rw [Nat.zero_add] at this
      exact this
    have hw := WF.sqK (p := fun i => plF (rO 0 (κ0 130)) (l.getD i 0)) (s := 0) (bo := -4) (lw := 0) h.2.2 h4 h5 no4 i (fun j hj => by show VA nv nd (plF (rO 0 (κ0 130)) (l.getD (0 + j) 0)); rw [Nat.zero_add]; exact va j (by omega))
    have r130 : κ 130 = κ0 130 := ha.1 130 (by omega) (by omega)
    have r136 : κ 136 = κ0 136 := ha.1 136 (by omega) (by omega)
    have hBk : BM2 (-4) 0 κ := by unfold BM2; rw [ha.2 20 (by omega) (by omega), ha.2 21 (by omega) (by omega)]; exact hB
    have ll := hl i (by omega)
    refine t_222_77 ⟨fun q => ?_, fun q _ _ _ _ => ?_⟩
    · rw [i_lt, hx, hx2] at q; omega
    · rw [rf_129_24, rf_129_0, i_ixn hx, r136, ho i (by omega), st53 (κ := κ) (m := l.getD i 0) (i_of (by omega)) (by omega), r130]
      refine actM_spec (bo := -4) (lw := 0) (by rw [hk]; exact hw) (by rw [ha.2 4 (by omega) (by omega)]; exact h.2.1.2) h4 h5 (va i (by omega)) hBk (fun κ1 k1 k2 k3 k4 => ?_)
      refine orAL h hp hv hB hcn hc hx2 hl ho hq n (i + 1) κ1 (x7 + 1) (by omega) (i_s hx (by omega)) (by omega) (ha.trans k2) ?_
      rw [k1, hk]
      show _ = stp nd (-4) 0 (sq nd (-4) 0 (fun i => plF (rO 0 (κ0 130)) (l.getD i 0)) 0 (rO 0 (κ0 130)) i) (plF (rO 0 (κ0 130)) (l.getD (0 + i) 0))
      rw [Nat.zero_add]
theorem orML (h : HM nv nd κ0) (hp : HP κ0) (hv : HV nv nd κ0) (hS : HS nd (rO 0 (κ0 130))) (hcn : cnF (rO 0 (κ0 130)) = c) (hc : c ≤ 5) (hx2 : x2.toInt = c) (hx3 : x3.toInt = ((c ^ c : Nat) : Int)) (hq : ∀ κ', MG κ0 κ' → κ' 130 = κ0 130 → (¬ x1 = 0 → Q (some (.int (doL (jd nd (rO 0 (κ0 130)) c) (moL c (c ^ c)) (0, 0)).2)) κ') ∧ (x1 = 0 → Q (some (.int (doL (jd nd (rO 0 (κ0 130)) c) (moL c (c ^ c)) (0, 0)).1)) κ')) : ∀ (n k : Nat) (κ : IS) (x4 x5 x6 : Int32) (w7 : Value), k ≤ c ^ c → x6.toInt = k → (x4, x5) = doL (jd nd (rO 0 (κ0 130)) c) (moL c k) (0, 0) → MG κ0 κ → κ 130 = κ0 130 → PC xl n 222 55 [(0, .ref 129), (1, .int x1), (2, .int x2), (3, .int x3), (4, .int x4), (5, .int x5), (6, .int x6), (7, w7)] [] κ Q
  | 0, _, _, _, _, _, _, _, _, _, _, _ => PC.zero
  | n + 1, k, κ, x4, x5, x6, w7, hk, hx6, hac, hg, h0 => by
    have h4 := h.1.1
    have h5 := h.2.1.1
    have b8 := hp.1
    have pb := pw_b (c := c) (i := c) hc (by omega)
    have h1 := h.mg hg h0
    refine t_222_55 ⟨fun q => ?_, fun q => ?_⟩
    · rw [i_lt, hx6, hx3] at q
      have : k = c ^ c := by omega
      subst this
      have f1 := congrArg Prod.fst hac
      have f2 := congrArg Prod.snd hac
      refine ⟨fun z => ?_, fun z => ?_⟩
      · have := (hq κ hg h0).1 z
        rw [← f2] at this; exact this
      · have := (hq κ hg h0).2 z
        rw [← f1] at this; exact this
    rw [i_lt, hx6, hx3] at q
    have hmo : moL c (k + 1) = moL c k ++ (if mskR (dgL c k) = 2 ^ c - 1 then [dgL c k] else []) := rfl
    have hcn0 : cnF (rO 0 (κ0 130)) = (rO 0 (κ0 130) 52).toInt.toNat := rfl
    have e52 : (κ 130 52).toInt = c := by rw [h0, ← r_st (h := κ0 130) (show 52 < 80 by omega)]; omega
    have l152 : ∀ (κ2 : IS) (y4 y5 : Int32) (w : Value), (y4, y5) = doL (jd nd (rO 0 (κ0 130)) c) (moL c (k + 1)) (0, 0) → MG κ0 κ2 → κ2 130 = κ0 130 → PC xl n 222 152 [(0, .ref 129), (1, .int x1), (2, .int x2), (3, .int x3), (4, .int y4), (5, .int y5), (6, .int x6), (7, w)] [] κ2 Q := fun κ2 y4 y5 w q1 q2 q3 => (t_222_152 (orML h hp hv hS hcn hc hx2 hx3 hq n (k + 1) κ2 y4 y5 (x6 + 1) w (by omega) (i_s hx6 (by omega)) q1 q2 q3)).weak
    refine isoM_spec hc e52 hx6 (by omega) (fun κ1 r j1 j2 hr => ?_)
    have g1 : MG κ0 κ1 := hg.trans ⟨fun a _ _ _ q _ => j1 a q, fun j _ => by rw [j1 129 (by omega)], fun j _ => by rw [j1 130 (by omega)]⟩
    have r1 : κ1 130 = κ0 130 := by rw [j1 130 (by omega)]; exact h0
    intro r2 e; cases e
    refine ⟨fun z => l152 κ1 x4 x5 w7 ?_ g1 r1, fun z => st_MO (h.mg g1 r1) (fun κ2 g2 g3 g4 g5 g6 g7 g8 g9 => ?_)⟩
    · rw [hmo, if_neg (hr.mp z), List.append_nil]; exact hac
    have pm : mskR (dgL c k) = 2 ^ c - 1 := by false_or_by_contra; rename_i hh; exact z (hr.mpr hh)
    rw [r1] at g3 g4
    have m2 := g1.trans g2
    have hM2 := h.mg m2 g3
    have key := orAL (xl := xl) (nb := n) (x1 := x1) (x2 := x2) (x3 := x3) (x4 := x4) (x5 := x5) (x6 := x6) (l := dgL c k) (c := c) (Q := Q) hM2 (by unfold HP; rw [g3]; exact hp) (by unfold HV; rw [g3]; exact hv) g8
    rw [g3] at key
    have h136 : ∀ i, i < c → κ2 136 i = Int32.ofNat ((dgL c k).getD i 0) := fun i hi => by rw [g9]; exact j2 i hi
    refine key hcn hc hx2 (fun i hi => dg_lt hi) h136 (fun κ3 w a3 q3 hw => ?_) n 0 κ2 0 (Nat.le_refl _) rfl (Nat.zero_le _) AF.rfl (by rw [g4]; rfl)
    have m3 : MG κ0 κ3 := m2.trans a3.mg
    have r3 : κ3 130 = κ0 130 := by rw [a3.1 130 (by omega) (by omega)]; exact g3
    have r136 : κ3 136 = κ2 136 := a3.1 136 (by omega) (by omega)
    have va : ∀ i, i < c → VA nv nd ((fun i => plF (rO 0 (κ0 130)) ((dgL c k).getD i 0)) (0 + i)) := fun i hi => by
      have := HM.va hv ((dgL c k).getD (0 + i) 0) (by rw [hcn, Nat.zero_add]; exact dg_lt hi)
      rw [Nat.zero_add] at this
      exact this
    have hwf := WF.sqK (p := fun i => plF (rO 0 (κ0 130)) ((dgL c k).getD i 0)) (s := 0) (bo := -4) (lw := 0) h.2.2 h4 h5 no4 c va
    have hdo : doL (jd nd (rO 0 (κ0 130)) c) (moL c (k + 1)) (0, 0) = jd nd (rO 0 (κ0 130)) c (dgL c k) (x4, x5) := by
      rw [hmo, if_pos pm, do_app, ← hac]; rfl
    refine (t_222_77 ⟨fun _ => agM_spec (nd := nd) (f := rO 0 (κ0 130)) (by rw [r3]) hp.2 hS h5 (by rw [q3]; exact hwf) ?_, fun c2 => ?_⟩).weak
    · intro r e; cases e
      rw [q3]
      have l149 : ∀ (y4 u0 : Int32) (w : Int32), (y4, x5 ||| u0) = doL (jd nd (rO 0 (κ0 130)) c) (moL c (k + 1)) (0, 0) → PC xl n 222 149 [(0, .ref 129), (1, .int x1), (2, .int x2), (3, .int x3), (4, .int y4), (5, .int x5), (6, .int x6), (7, .int w)] [.int u0, .int x5] κ3 Q := fun y4 u0 w q1 => (t_222_149 (l152 κ3 y4 (x5 ||| u0) (.int w) q1 m3 r3)).weak
      have a01 := ag_01 (f := rO 0 (κ0 130)) (g := sq nd (-4) 0 (fun i => plF (rO 0 (κ0 130)) ((dgL c k).getD i 0)) 0 (rO 0 (κ0 130)) c) (rO 0 (κ0 130) 61).toInt.toNat
      refine (t_175_0 ⟨fun z0 => ?_, fun z0 => ?_⟩).weak
      · intro r e; cases e
        refine ⟨fun _ => (t_222_148 (l149 _ 0 _ ?_)).weak, fun q => absurd z0 q⟩
        rw [hdo, jd, if_pos z0, z_or, Int32.add_zero]
      · intro r e; cases e
        refine ⟨fun q => absurd q z0, fun _ => ⟨fun q2 => (t_222_148 (l149 _ 0 _ ?_)).weak, fun q2 _ _ => l149 _ _ _ ?_⟩⟩
        · rw [i_lt, n0, hx2] at q2
          rw [hdo, jd, if_neg z0, if_neg (by omega)]
        · rw [i_lt, n0, hx2] at q2
          obtain ⟨m, rfl⟩ : ∃ m, c = m + 1 := ⟨c - 1, by omega⟩
          rw [hdo, jd, if_neg z0, if_pos (by omega), rf_129_24, i_ixn (i_p hx2 (by omega)), r136, h136 m (by omega)]
          rfl
    · rw [i_lt, hw, hx2] at c2; omega
theorem orPL {nb : Nat} (hc : c ≤ 5) (hx2 : x2.toInt = c) (hq : ∀ x3 : Int32, x3.toInt = ((c ^ c : Nat) : Int) → PC xl nb 222 55 [(0, .ref 129), (1, .int x1), (2, .int x2), (3, .int x3), (4, .int 0), (5, .int 0), (6, .int 0), (7, .null)] [] κ Q) : ∀ (n i : Nat) (x3 x4 : Int32), n ≤ nb + 1 → x4.toInt = i → i ≤ c → x3.toInt = ((c ^ i : Nat) : Int) → PC xl n 222 30 [(0, .ref 129), (1, .int x1), (2, .int x2), (3, .int x3), (4, .int x4)] [] κ Q
  | 0, _, _, _, _, _, _, _ => PC.zero
  | n + 1, i, x3, x4, hnb, hx, hi, hx3 => by
    refine t_222_30 ⟨fun q => ?_, fun q => ?_⟩
    · rw [i_lt, hx, hx2] at q
      have : i = c := by omega
      subst this
      exact (hq x3 hx3).le (by omega)
    · rw [i_lt, hx, hx2] at q
      have pb := pw_b (c := c) (i := i + 1) hc (by omega)
      have e : ((c ^ i : Nat) : Int) * (c : Int) = ((c ^ (i + 1) : Nat) : Int) := by rw [Nat.pow_succ]; exact (Int.natCast_mul _ _).symm
      refine orPL hc hx2 hq n (i + 1) _ (x4 + 1) (by omega) (i_s hx (by omega)) (by omega) ?_
      rw [i_mul (by rw [hx3, hx2, e]; omega), hx3, hx2, e]
theorem ordersM (h : HM nv nd κ) (hp : HP κ) (hv : HV nv nd κ) (hS : HS nd (rO 0 (κ 130))) : PC xl n 222 0 [(0, .ref 129), (1, .int x1)] [] κ (MR (rO 0 (κ 130)) (orR nd (rO 0 (κ 130)) x1) κ) := by
  have b8 := hp.1
  have hcn : cnF (rO 0 (κ 130)) = (rO 0 (κ 130) 52).toInt.toNat := rfl
  have c5' : (5 : Int32).toInt = 5 := rfl
  unfold orR
  refine (t_222_0 ((t_208_0 (inL (l := 0) (g := 1) rfl rfl (fun r hr => ?_))).weak)).weak
  intro r2 e; cases e
  intro r3 e; cases e
  rw [rf_129_0, c52, ← r_st (h := κ 130) (show 52 < 80 by omega)]
  refine ⟨fun z _ _ => ⟨fun z2 => ?_, fun z2 => ?_⟩, fun z => ?_⟩
  · have ok : 0 ≤ x1.toInt ∧ x1.toInt ≤ 1 := by false_or_by_contra; rename_i hh; exact z (hr.mpr hh)
    rw [i_lt, c5'] at z2
    have hc5 : cnF (rO 0 (κ 130)) ≤ 5 := by omega
    rw [if_pos ok, if_neg (by omega), df_mo2 hc5]
    refine orPL (nb := n) (c := cnF (rO 0 (κ 130))) hc5 (by omega) (fun x3 hx3 => orML h hp hv hS rfl hc5 (by omega) hx3 (fun κ' q1 q2 => ⟨fun q => ?_, fun q => ?_⟩) n 0 κ 0 0 0 .null (Nat.zero_le _) rfl rfl MG.rfl rfl) n 0 1 0 (by omega) rfl (Nat.zero_le _) rfl
    · rw [i_eq, n0] at q
      rw [if_neg q]; exact MR.same q1 q2
    · rw [i_eq, n0] at q
      rw [if_pos q]; exact MR.same q1 q2
  · have ok : 0 ≤ x1.toInt ∧ x1.toInt ≤ 1 := by false_or_by_contra; rename_i hh; exact z (hr.mpr hh)
    rw [i_lt, c5'] at z2
    rw [if_pos ok, if_pos (by omega)]; exact MR.same MG.rfl rfl
  · rw [if_neg (hr.mp z)]; exact MR.same MG.rfl rfl
end OrdM
