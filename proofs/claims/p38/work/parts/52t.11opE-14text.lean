section
/-! CALLS, V: sheet, lay -/
section OpE
variable {xl : List Int32} {n n2 : Nat} {ι ι1 κ κ1 : IS} {nv nd : Nat} {f g : Nat → Int32} {x1 x2 x3 x : Int32} {Q : Option Value → IS → Prop} {r : Int32}
theorem n40 : (40 : Int32).toInt = 40 := rfl
theorem isSh_spec (h : ∀ r : Int32, (r = 0 ↔ ¬ (0 ≤ x.toInt ∧ x.toInt < 4)) → Q (some (.int r)) ι) : PC xl n 133 0 [(0, .int x)] [] ι Q := by
  refine (t_133_0 ⟨fun c => h 0 ⟨fun _ hh => ?_, fun _ => rfl⟩, fun c => ⟨fun c2 => h 0 ⟨fun _ hh => ?_, fun _ => rfl⟩, fun c2 => h 1 ⟨fun q => absurd q (by decide), fun q => absurd ⟨?_, ?_⟩ q⟩⟩⟩).weak
  · rw [i_lt, n0] at c; omega
  · rw [i_lt, n4] at c2; omega
  · rw [i_lt, n0] at c; omega
  · rw [i_lt, n4] at c2; omega
theorem isLn_spec (h : ∀ r : Int32, (r = 0 ↔ ¬ (0 ≤ x.toInt ∧ x.toInt < 3)) → Q (some (.int r)) ι) : PC xl n 134 0 [(0, .int x)] [] ι Q := by
  refine (t_134_0 ⟨fun c => h 0 ⟨fun _ hh => ?_, fun _ => rfl⟩, fun c => ⟨fun c2 => h 0 ⟨fun _ hh => ?_, fun _ => rfl⟩, fun c2 => h 1 ⟨fun q => absurd q (by decide), fun q => absurd ⟨?_, ?_⟩ q⟩⟩⟩).weak
  · rw [i_lt, n0] at c; omega
  · rw [i_lt, n3] at c2; omega
  · rw [i_lt, n0] at c; omega
  · rw [i_lt, n3] at c2; omega
theorem isSM_spec (h : ∀ r : Int32, (r = 0 ↔ ¬ ((0 ≤ x1.toInt ∧ x1.toInt < 4) ∧ 0 ≤ x2.toInt ∧ x2.toInt < 3)) → Q (some (.int r)) κ) : PC xl n 234 0 [(0, .int x1), (1, .int x2)] [] κ Q := by
  refine (t_234_0 (inL (l := 0) (g := 3) rfl rfl (fun r hr => ?_))).weak
  intro r2 e; cases e
  refine ⟨fun c => h 0 ⟨fun _ hh => (hr.mp c) (by omega), fun _ => rfl⟩, fun c => inL (l := 0) (g := 2) rfl rfl (fun r hr2 => ?_)⟩
  intro r2 e; cases e
  have c1 : 0 ≤ x1.toInt ∧ x1.toInt ≤ 3 := by false_or_by_contra; rename_i hh; exact c (hr.mpr hh)
  refine ⟨fun c2 => h 0 ⟨fun _ hh => (hr2.mp c2) (by omega), fun _ => rfl⟩, fun c2 => h 1 ⟨fun q => absurd q (by decide), fun q => absurd ⟨by omega, ?_⟩ q⟩⟩
  have : 0 ≤ x2.toInt ∧ x2.toInt ≤ 2 := by false_or_by_contra; rename_i hh; exact c2 (hr2.mpr hh)
  omega
theorem renL {a : Nat} (hr : rf a 0 = a + 1) (hq : ∀ ι', (∀ b j, ¬ b = a + 1 → ι' b j = ι b j) → (∀ i, i < 40 → ι' (a + 1) i = 0) → Q none ι') : ∀ (n i : Nat) (ι2 : IS) (x3 : Int32), x3.toInt = i → i ≤ 40 → (∀ b j, ¬ b = a + 1 → ι2 b j = ι b j) → (∀ q, q < i → ι2 (a + 1) q = 0) → PC xl n 135 12 [(0, .ref a), (1, .int x1), (2, .int x2), (3, .int x3)] [] ι2 Q
  | 0, _, _, _, _, _, _, _ => PC.zero
  | n + 1, i, ι2, x3, hx, hi, h1, h2 => by
    refine t_135_12 ⟨fun c => ?_, fun c _ _ => ?_⟩
    · rw [i_lt, hx, n40] at c
      exact hq ι2 h1 (fun q hq2 => h2 q (by omega))
    · rw [i_lt, hx, n40] at c
      rw [hr, i_ixn hx]
      refine renL hr hq n (i + 1) _ (x3 + 1) (i_s hx (by omega)) (by omega) (fun b j hb => by rw [up_ne (by omega)]; exact h1 b j hb) (fun q hq2 => ?_)
      by_cases e : q = i
      · subst e; rw [up_same]
      · rw [up_ne (by omega)]; exact h2 q (by omega)
theorem shML {k : Nat} {w : Value} (hk : x1.toInt = k) (hk4 : k < 4) (hq : ∀ κ', (∀ a, ¬ a = 139 → κ' a = κ a) → (∀ j, κ' 139 j = if 40 * k ≤ j ∧ j < 40 * k + 40 then 0 else κ 139 j) → Q (some (.int 1)) κ') : ∀ (n i : Nat) (κ2 : IS) (x4 : Int32), x4.toInt = i → i ≤ 40 → (∀ a, ¬ a = 139 → κ2 a = κ a) → (∀ j, κ2 139 j = if 40 * k ≤ j ∧ j < 40 * k + i then 0 else κ 139 j) → PC xl n 233 40 [(0, .ref 129), (1, .int x1), (2, .int x2), (3, .int x3), (4, .int x4)] [] κ2 Q
  | 0, _, _, _, _, _, _, _ => PC.zero
  | n + 1, i, κ2, x4, hx, hi, h1, h2 => by
    refine t_233_40 ⟨fun c => ?_, fun c _ _ => ?_⟩
    · rw [i_lt, hx, n40] at c
      have : i = 40 := by omega
      subst this
      exact hq κ2 h1 h2
    · rw [i_lt, hx, n40] at c
      have e0 : (40 * x1).toInt = 40 * k := by rw [i_mul (by rw [n40, hk]; omega), n40, hk]
      have e1 : (40 * x1 + x4).toInt = (40 * k + i : Nat) := by rw [i_add (by rw [e0, hx]; omega), e0, hx]; omega
      rw [rf_129_30, i_ixn e1]
      refine shML (w := w) hk hk4 hq n (i + 1) _ (x4 + 1) (i_s hx (by omega)) (by omega) (fun a ha => by rw [up_oth ha]; exact h1 a ha) (fun j => ?_)
      by_cases e : j = 40 * k + i
      · subst e; rw [up_same, if_pos (by omega)]
      · rw [up_ne (by omega), h2 j]
        by_cases g : 40 * k ≤ j ∧ j < 40 * k + i
        · rw [if_pos g, if_pos (by omega)]
        · rw [if_neg g, if_neg (by omega)]
/-- SHEETS changed, in both -/
theorem RN.sheets (h : RN nv nd ι κ) (h1 : ∀ a j, ¬ (121 ≤ a ∧ a ≤ 128) → ι1 a j = ι a j) (h2 : ∀ a, ¬ a = 137 → ¬ a = 138 → ¬ a = 139 → κ1 a = κ a) (hS : ∀ k, k < 4 → ι1 (121 + 2 * k) 2 = κ1 137 k ∧ ι1 (121 + 2 * k) 1 = κ1 138 k ∧ (0 ≤ (κ1 138 k).toInt ∧ (κ1 138 k).toInt ≤ 40) ∧ ∀ i, i < 40 → ι1 (122 + 2 * k) i = κ1 139 (40 * k + i)) : RN nv nd ι1 κ1 := by
  obtain ⟨⟨a1, a2⟩, ⟨b1, b2⟩, ⟨c1, c3⟩, dd, ee, gg⟩ := h
  have r129 : κ1 129 = κ 129 := h2 129 (by omega) (by omega) (by omega)
  have r130 : κ1 130 = κ 130 := h2 130 (by omega) (by omega) (by omega)
  refine ⟨⟨a1, by rw [r129]; exact a2⟩, ⟨b1, by rw [r129]; exact b2⟩, ⟨by rw [r130]; exact c1.keep (fun a j g1 g2 => h1 a j (by omega)), by rw [h1 25 4 (by omega)]; exact c3⟩, ?_, ⟨hS, by rw [h1 0 10 (by omega), r129]; exact ee.2⟩, ?_⟩
  · exact dd.keep (fun a j g1 g2 => h1 a j (by omega)) (h2 132 (by omega) (by omega) (by omega)) (fun j _ => by rw [r130])
  · exact gg.keep (fun a j g1 g2 => h1 a j (by omega)) (by rw [r129]) (h2 135 (by omega) (by omega) (by omega))
noncomputable def shR (x1 x2 x3 : Int32) : Int32 := if (0 ≤ x1.toInt ∧ x1.toInt < 4) ∧ (0 ≤ x2.toInt ∧ x2.toInt < 3) ∧ x3.toInt ≤ 40 then (if x3.toInt < 0 then -14 else 1) else -1
theorem sheet_call (h : RN nv nd ι κ) : CALL xl n n2 132 233 [(0, .ref 0), (1, .int x1), (2, .int x2), (3, .int x3)] [(0, .ref 129), (1, .int x1), (2, .int x2), (3, .int x3)] (fun v1 v2 => v1 = v2) ι κ := by
  have key : PC xl n 132 0 [(0, .ref 0), (1, .int x1), (2, .int x2), (3, .int x3)] [] ι (fun v ι1 => v = some (.int (shR x1 x2 x3)) ∧ ((∃ k : Nat, x1.toInt = k ∧ k < 4 ∧ (0 ≤ x2.toInt ∧ x2.toInt < 3) ∧ (0 ≤ x3.toInt ∧ x3.toInt ≤ 40) ∧ (∀ a j, ¬ (a = 121 + 2 * k ∨ a = 122 + 2 * k) → ι1 a j = ι a j) ∧ ι1 (121 + 2 * k) 2 = x2 ∧ ι1 (121 + 2 * k) 1 = x3 ∧ ∀ i, i < 40 → ι1 (122 + 2 * k) i = 0) ∨ (¬ ((0 ≤ x1.toInt ∧ x1.toInt < 4) ∧ (0 ≤ x2.toInt ∧ x2.toInt < 3) ∧ 0 ≤ x3.toInt ∧ x3.toInt ≤ 40) ∧ ι1 = ι))) := by
    unfold shR
    refine (t_132_0 (isSh_spec (fun r hr => ?_))).weak
    intro r2 e; cases e
    refine ⟨fun c => ?_, fun c => isLn_spec (fun r hr2 => ?_)⟩
    · have := hr.mp c
      exact ⟨by rw [if_neg (fun q => this q.1)], Or.inr ⟨fun q => this q.1, rfl⟩⟩
    have c1 : 0 ≤ x1.toInt ∧ x1.toInt < 4 := by false_or_by_contra; rename_i hh; exact c (hr.mpr hh)
    intro r2 e; cases e
    refine ⟨fun c => ?_, fun c => ?_⟩
    · have := hr2.mp c
      exact ⟨by rw [if_neg (fun q => this q.2.1)], Or.inr ⟨fun q => this q.2.1, rfl⟩⟩
    have c2 : 0 ≤ x2.toInt ∧ x2.toInt < 3 := by false_or_by_contra; rename_i hh; exact c (hr2.mpr hh)
    refine ⟨fun c3 => ⟨fun c4 _ _ => ?_, fun c4 => ?_⟩, fun c3 => ?_⟩
    · rw [i_lt, n40] at c3
      rw [i_lt, n0] at c4
      obtain ⟨k, hk⟩ : ∃ k : Nat, x1.toInt = k := ⟨x1.toInt.toNat, by omega⟩
      obtain ⟨e1, e2⟩ := re_sh (k := k) (by omega)
      rw [i_ixn hk, e1, if_pos ⟨c1, c2, by omega⟩, if_neg c4]
      refine (t_135_0 (renL (by rw [e2]; omega) (fun ι' g1 g2 => ⟨rfl, Or.inl ⟨k, hk, by omega, c2, by omega, fun a j g => ?_, ?_, ?_, fun i hi => ?_⟩⟩) n 0 _ 0 rfl (Nat.zero_le _) (fun _ _ _ => rfl) (fun q hq => absurd hq (Nat.not_lt_zero _)))).weak
      · rw [g1 a j (by omega), up_ne (by omega), up_ne (by omega)]
      · rw [g1 _ _ (by omega), up_ne (by omega), up_same]
      · rw [g1 _ _ (by omega), up_same]
      · have := g2 i hi
        rw [show 121 + 2 * k + 1 = 122 + 2 * k by omega] at this
        exact this
    · rw [i_lt, n40] at c3
      rw [i_lt, n0] at c4
      exact ⟨by rw [if_pos ⟨c1, c2, by omega⟩, if_pos c4], Or.inr ⟨fun q => by omega, rfl⟩⟩
    · rw [i_lt, n40] at c3
      exact ⟨by rw [if_neg (fun q => by omega)], Or.inr ⟨fun q => by omega, rfl⟩⟩
  refine PC.imp key (fun v1 ι1 g1 => ?_)
  obtain ⟨g0, g1⟩ := g1
  rw [g0]
  unfold shR
  refine (t_233_0 (isSM_spec (fun r hr => ?_))).weak
  intro r2 e; cases e
  have same : ¬ ((0 ≤ x1.toInt ∧ x1.toInt < 4) ∧ (0 ≤ x2.toInt ∧ x2.toInt < 3) ∧ 0 ≤ x3.toInt ∧ x3.toInt ≤ 40) → RRel ι1 κ := by
    intro q
    rcases g1 with ⟨k, q1, q2, q3, q4, -⟩ | ⟨-, q1⟩
    · exact absurd ⟨by omega, q3, q4⟩ q
    · rw [q1]; exact ⟨nv, nd, h⟩
  refine ⟨fun c => ?_, fun c => ?_⟩
  · have := hr.mp c
    exact ⟨by rw [if_neg (fun q => this ⟨q.1, q.2.1⟩)], same (fun q => this ⟨q.1, q.2.1⟩)⟩
  have c1 : (0 ≤ x1.toInt ∧ x1.toInt < 4) ∧ 0 ≤ x2.toInt ∧ x2.toInt < 3 := by false_or_by_contra; rename_i hh; exact c (hr.mpr hh)
  refine ⟨fun c3 => ⟨fun c4 _ _ _ _ => ?_, fun c4 => ?_⟩, fun c3 => ?_⟩
  · rw [i_lt, n40] at c3
    rw [i_lt, n0] at c4
    rcases g1 with ⟨k, hk, hk4, q3, q4, q5, q6, q7, q8⟩ | ⟨q0, -⟩
    · rw [if_pos ⟨c1.1, c1.2, by omega⟩, if_neg c4, rf_129_28, rf_129_29, i_ixn hk]
      refine shML (w := .null) hk hk4 (fun κ' m1 m2 => ⟨rfl, nv, nd, h.sheets (fun a j g => q5 a j (by omega)) (fun a g1 g2 g3 => by rw [m1 a g3, up_oth g2, up_oth g1]) (fun q hq => ?_)⟩) n2 0 _ 0 rfl (Nat.zero_le _) (fun _ _ => rfl) (fun j => by rw [if_neg (by omega)])
      have hS := h.2.2.2.2.1.1 q hq
      rw [m1 137 (by omega), m1 138 (by omega), up_oth (show ¬ 137 = 138 by omega)]
      by_cases e : q = k
      · subst e
        rw [up_same, up_same, q6, q7]
        refine ⟨rfl, rfl, q4, fun i hi => ?_⟩
        rw [q8 i hi, m2, if_pos (by omega)]
      · rw [up_ne (by omega), up_ne (by omega), up_ne (by omega), q5 _ _ (by omega), q5 _ _ (by omega)]
        refine ⟨hS.1, hS.2.1, hS.2.2.1, fun i hi => ?_⟩
        rw [q5 _ _ (by omega), m2, if_neg (by omega), up_ne (by omega), up_ne (by omega)]; exact hS.2.2.2 i hi
    · exact absurd ⟨c1.1, c1.2, by omega, by omega⟩ q0
  · rw [i_lt, n40] at c3
    rw [i_lt, n0] at c4
    exact ⟨by rw [if_pos ⟨c1.1, c1.2, by omega⟩, if_pos c4], same (fun q => by omega)⟩
  · rw [i_lt, n40] at c3
    exact ⟨by rw [if_neg (fun q => by omega)], same (fun q => by omega)⟩
/-- a number cut to a lane -/
noncomputable def naV (l x : Int32) : Int32 := if l = 0 then x.toInt8.toInt32 else if l = 1 then x.toInt16.toInt32 else x
/-- what the machine finds at CELL p -/
noncomputable def flF (l lane sz : Int32) (p : Int) : Int32 := if l = -4 then 1 else if l = lane then (if p < 0 ∨ sz.toInt ≤ p then 2 else 0) else 3
theorem flX_spec {a : Nat} (h : Q (some (.int (flF (ι a 2) x1 (ι a 1) x2.toInt))) ι) : PC xl n 137 0 [(0, .ref a), (1, .int x1), (2, .int x2)] [] ι Q := by
  unfold flF at h
  refine (t_137_0 ⟨fun c => ⟨fun c2 => ⟨fun c3 => ?_, fun c3 => ⟨fun c4 => ?_, fun c4 => ?_⟩⟩, fun c2 => ?_⟩, fun c => ?_⟩).weak
  · rw [i_lt, n0] at c3
    rw [if_neg c, if_pos c2, if_pos (Or.inl c3)] at h; exact h
  · rw [i_lt, n0] at c3
    rw [i_lt] at c4
    rw [if_neg c, if_pos c2, if_neg (by omega)] at h; exact h
  · rw [i_lt] at c4
    rw [if_neg c, if_pos c2, if_pos (Or.inr (by omega))] at h; exact h
  · rw [if_neg c, if_neg c2] at h; exact h
  · rw [if_pos c] at h; exact h
theorem putX_spec {a i : Nat} (hr : rf a 0 = a + 1) (hi : x1.toInt = i) (hl : (i : Int) < (ι a 1).toInt) (h : Q none (up ι (a + 1) i (naV (ι a 2) x2))) : PC xl n 138 0 [(0, .ref a), (1, .int x1), (2, .int x2)] [] ι Q := by
  unfold naV at h
  refine (t_138_0 ⟨fun c => ?_, fun c => ⟨fun c2 => ?_, fun c2 => ?_⟩⟩).weak
  · rw [i_lt, hi, n0] at c; omega
  · rw [i_lt, hi] at c2; omega
  · rw [hr, i_ixn hi]
    refine ⟨fun c3 => ⟨fun c4 _ _ => ?_, fun c4 _ _ => ?_⟩, fun c3 _ _ => ?_⟩
    · rw [if_neg c3, if_neg c4] at h; exact h
    · rw [if_neg c3, if_pos c4] at h; exact h
    · rw [if_pos c3] at h; exact h
theorem lay_call (h : RN nv nd ι κ) : CALL xl n n2 136 235 [(0, .ref 0), (1, .int x1), (2, .int x2), (3, .int x3)] [(0, .ref 129), (1, .int x1), (2, .int x2), (3, .int x3)] (fun v1 v2 => v1 = v2) ι κ := by
  have key : PC xl n 136 0 [(0, .ref 0), (1, .int x1), (2, .int x2), (3, .int x3)] [] ι (fun v ι1 => (¬ (0 ≤ x1.toInt ∧ x1.toInt < 4) ∧ v = some (.int (-1)) ∧ ι1 = ι) ∨ (∃ k : Nat, x1.toInt = k ∧ k < 4 ∧ ((κ 137 k = -4 ∧ v = some (.int (-11)) ∧ ι1 = ι) ∨ (¬ κ 137 k = -4 ∧ ((¬ (0 ≤ x2.toInt ∧ x2.toInt < (κ 138 k).toInt) ∧ v = some (.int (-12)) ∧ ι1 = ι) ∨ (0 ≤ x2.toInt ∧ x2.toInt < (κ 138 k).toInt ∧ v = some (.int 1) ∧ ι1 = up ι (122 + 2 * k) x2.toInt.toNat (naV (κ 137 k) x3))))))) := by
    refine (t_136_0 (isSh_spec (fun r hr => ?_))).weak
    intro r2 e; cases e
    refine ⟨fun c _ _ => ?_, fun c => Or.inl ⟨hr.mp c, rfl, rfl⟩⟩
    have c1 : 0 ≤ x1.toInt ∧ x1.toInt < 4 := by false_or_by_contra; rename_i hh; exact c (hr.mpr hh)
    obtain ⟨k, hk⟩ : ∃ k : Nat, x1.toInt = k := ⟨x1.toInt.toNat, by omega⟩
    have hk4 : k < 4 := by omega
    obtain ⟨e1, e2⟩ := re_sh hk4
    have hS := h.2.2.2.2.1.1 k hk4
    rw [i_ixn hk, e1]
    refine flX_spec ?_
    intro r2 e; cases e
    unfold flF
    rw [hS.1, hS.2.1]
    by_cases g : κ 137 k = -4
    · rw [if_pos g]
      exact ⟨fun z => absurd z (by decide), fun _ => Or.inr ⟨k, hk, hk4, Or.inl ⟨g, rfl, rfl⟩⟩⟩
    · rw [if_neg g, if_pos rfl]
      by_cases g2 : x2.toInt < 0 ∨ (κ 138 k).toInt ≤ x2.toInt
      · rw [if_pos g2]
        exact ⟨fun z => absurd z (by decide), fun _ => Or.inr ⟨k, hk, hk4, Or.inr ⟨g, Or.inl ⟨by omega, rfl, rfl⟩⟩⟩⟩
      · rw [if_neg g2]
        refine ⟨fun _ => putX_spec (i := x2.toInt.toNat) (by rw [e2]; omega) (by omega) (by rw [hS.2.1]; omega) ?_, fun z => absurd rfl z⟩
        rw [hS.1, show 121 + 2 * k + 1 = 122 + 2 * k by omega]
        exact Or.inr ⟨k, hk, hk4, Or.inr ⟨g, Or.inr ⟨by omega, by omega, rfl, rfl⟩⟩⟩
  refine PC.imp key (fun v1 ι1 g1 => ?_)
  refine (t_235_0 (isSM_spec (fun r hr => ?_))).weak
  intro r2 e; cases e
  have z0 : (0 : Int32).toInt = 0 := rfl
  rcases g1 with ⟨q0, q1, q2⟩ | ⟨k, hk, hk4, g1⟩
  · refine ⟨fun c => ?_, fun _ => ⟨q1, by rw [q2]; exact ⟨nv, nd, h⟩⟩⟩
    exact absurd (hr.mpr (fun q => q0 q.1)) c
  · refine ⟨fun _ _ _ => ?_, fun c => absurd ⟨by omega, by omega, by omega⟩ (hr.mp c)⟩
    rw [rf_129_28, rf_129_29, rf_129_30, i_ixn hk]
    have hS := h.2.2.2.2.1.1 k hk4
    have es : (κ 138 k - 1).toInt = (κ 138 k).toInt - 1 := by rw [i_sub (by rw [n1]; omega), n1]
    rcases g1 with ⟨g, q1, q2⟩ | ⟨g, g1⟩
    · exact ⟨fun z => absurd g z, fun _ => ⟨q1, by rw [q2]; exact ⟨nv, nd, h⟩⟩⟩
    · refine ⟨fun _ _ _ => in32 rfl (fun r hr2 => ?_), fun z => absurd z g⟩
      rw [es] at hr2
      intro r2 e; cases e
      rcases g1 with ⟨g2, q1, q2⟩ | ⟨p1, p2, q1, q2⟩
      · exact ⟨fun z => absurd (hr2.mpr (by omega)) z, fun _ => ⟨q1, by rw [q2]; exact ⟨nv, nd, h⟩⟩⟩
      · refine ⟨fun _ _ _ => ?_, fun z => absurd ⟨p1, by omega⟩ (hr2.mp z)⟩
        have e0 : (40 * x1).toInt = 40 * k := by rw [i_mul (by rw [n40, hk]; omega), n40, hk]
        have e1 : (40 * x1 + x2).toInt = (40 * k + x2.toInt.toNat : Nat) := by rw [i_add (by rw [e0]; omega), e0]; omega
        rw [i_ixn e1]
        have fin : ∀ y : Int32, y = naV (κ 137 k) x3 → v1 = some (.int 1) ∧ RRel ι1 (up κ 139 (40 * k + x2.toInt.toNat) y) := by
          intro y hy
          refine ⟨q1, nv, nd, ?_⟩
          rw [q2, hy]
          refine h.sheets (fun a j g => up_ne (by omega)) (fun a g1 g2 g3 => up_oth g3) (fun q hq => ?_)
          have hS := h.2.2.2.2.1.1 q hq
          rw [up_ne (by omega), up_ne (by omega), up_ne (by omega), up_ne (by omega)]
          refine ⟨hS.1, hS.2.1, hS.2.2.1, fun i hi => ?_⟩
          by_cases e : q = k ∧ i = x2.toInt.toNat
          · obtain ⟨e3, e4⟩ := e
            subst e3 e4
            rw [up_same, up_same]
          · rw [up_ne (by omega), up_ne (by omega)]; exact hS.2.2.2 i hi
        refine ⟨fun z _ _ => ⟨fun z2 _ _ => fin _ ?_, fun z2 _ _ => fin _ ?_⟩, fun z _ _ => fin _ ?_⟩
        · unfold naV; rw [if_neg z, if_neg z2]
        · unfold naV; rw [if_neg z, if_pos z2]
        · unfold naV; rw [if_pos z]
end OpE
end
section
/-! CALLS, VI: read -/
abbrev refP (r : Int32) : Prop := r = -1 ∨ r = -2 ∨ r = -3
/-- pairs read from i on, m of them: the answer, whether it was done, the town then, the FAULT -/
noncomputable def rdS (nv nd : Nat) (fl cv cd : Nat → Int32) : Nat → Nat → (Nat → Int32) → Int32 × Bool × (Nat → Int32) × Int32
  | 0, i, f => (Int32.ofNat i, true, f, 0)
  | m + 1, i, f => if fl i = 0 then (if refP (visR nv nd f (cv i) (cd i)) then ((-20) - Int32.ofNat i, false, f, 0) else rdS nv nd fl cv cd m (i + 1) (visG nv nd f (cv i) (cd i))) else (Int32.ofNat i, true, f, fl i)
/-- the FAULT of the pair at p -/
noncomputable def flP (l lane sz : Int32) (p : Int) : Int32 := if flF l lane sz p = 0 then flF l lane sz (p + 1) else flF l lane sz p
section OpR
variable {xl : List Int32} {n n2 : Nat} {ι ι0 ι1 κ κ0 κ1 : IS} {nv nd : Nat} {f g : Nat → Int32} {x1 x2 x3 x4 x : Int32} {Q : Option Value → IS → Prop} {r : Int32}
theorem isRef_spec (h : ∀ r : Int32, (r = 0 ↔ ¬ refP x) → Q (some (.int r)) ι) : PC xl n 90 0 [(0, .int x)] [] ι Q := by
  refine (t_90_0 ?_).weak
  refine ⟨fun c => h 1 ⟨fun q => absurd q (by decide), fun q => absurd (Or.inl c) q⟩, fun c => ⟨fun c2 => h 1 ⟨fun q => absurd q (by decide), fun q => absurd (Or.inr (Or.inl c2)) q⟩, fun c2 => ⟨fun c3 => h 0 ⟨fun _ q => ?_, fun _ => rfl⟩, fun c3 => h 1 ⟨fun q => absurd q (by decide), fun q => absurd (Or.inr (Or.inr c3)) q⟩⟩⟩⟩
  rcases q with q | q | q
  · exact c q
  · exact c2 q
  · exact c3 q
theorem WF.visK (h : WF f) (h4 : nv ≤ 4) (h5 : nd ≤ 4) : WF (visG nv nd f x1 x2) := by
  unfold visG
  split
  · rename_i c
    exact h.vi (by have := c.1; unfold okVD at this; omega) (by have := c.1; unfold okVD at this; omega) c.2 (fun g => absurd g (by decide))
  · exact h
theorem flF_ok {l lane sz : Int32} {p : Int} (h : flF l lane sz p = 0) : 0 ≤ p ∧ p < sz.toInt := by
  unfold flF at h
  split at h
  · exact absurd h (by decide)
  · split at h
    · split at h
      · exact absurd h (by decide)
      · omega
    · exact absurd h (by decide)
theorem flP_ok {l lane sz : Int32} {p : Int} (h : flP l lane sz p = 0) : 0 ≤ p ∧ p + 1 < sz.toInt := by
  unfold flP at h
  split at h
  · rename_i c
    have h1 := flF_ok c
    have h2 := flF_ok h
    omega
  · rename_i c; exact absurd h c
theorem visR_b (h : WF f) (h5 : nd ≤ 4) (h4 : nv ≤ 4) : refP (visR nv nd f x1 x2) ↔ ((visR nv nd f x1 x2).toInt < 0 ∧ ¬ visR nv nd f x1 x2 = -4) := by
  have m1 : (-1 : Int32).toInt = -1 := rfl
  have m2 : (-2 : Int32).toInt = -2 := rfl
  have m3 : (-3 : Int32).toInt = -3 := rfl
  have ref : ∀ y : Int32, refP y → (y.toInt < 0 ∧ ¬ y = -4) := by
    intro y hy
    rcases hy with rfl | rfl | rfl
    · exact ⟨by decide, by decide⟩
    · exact ⟨by decide, by decide⟩
    · exact ⟨by decide, by decide⟩
  refine ⟨ref _, fun hh => ?_⟩
  unfold visR at hh ⊢
  split at hh
  · rename_i ok
    rw [if_pos ok]
    split at hh
    · rename_i c
      unfold okVD at ok
      have hw := (h.vi (bo := -4) (lw := 0) (v := x1.toInt.toNat) (d := x2.toInt.toNat) (by omega) (by omega) c (fun g => absurd g (by decide))).1 x2.toInt.toNat (by omega)
      exfalso
      by_cases e : viF (-4) 0 f x1.toInt.toNat x2.toInt.toNat (16 + 9 * x2.toInt.toNat) = 0
      · exact hh.2 (shF_0 e)
      · have := (hw.sh e).1; omega
    · rename_i c
      rw [if_neg c]
      unfold koF at c ⊢
      split
      · exact Or.inr (Or.inl rfl)
      · rename_i c2
        rw [if_neg c2] at c
        split
        · exact Or.inr (Or.inr rfl)
        · rename_i c3
          rw [if_neg c3] at c; exact absurd rfl c
  · rename_i ok
    rw [if_neg ok]; exact Or.inl rfl
theorem rcT_spec (hT : TW 86 nv nd f ι) (hw : WF f) (hb : ι 86 4 = -4) (h : ∀ ι', Sm 86 100 ι ι' → ι' 86 4 = -4 → TW 86 nv nd (visG nv nd f x1 x2) ι' → Q (some (.int (visR nv nd f x1 x2))) ι') : PC xl n 70 0 [(0, .ref 86), (1, .int x1), (2, .int x2)] [] ι Q := by
  have h4 := hT.1.1
  have h5 := hT.2.1.1
  have hB : BO 86 (-4) 0 f ι := ⟨by rw [hb]; rfl, fun g => absurd g (by decide)⟩
  unfold visG visR at h
  refine rcX_spec (by decide) hT hw hB (fun c => ?_) (fun v d hv hvl hd hdl hk => ?_) (fun v d hv hvl hd hdl hk ι1 s1 j1 t1 => ?_) (fun g => absurd g (by decide))
  · have := h ι Sm.rfl hb
    rw [if_neg (fun q => c q.1), if_neg c] at this; exact this hT
  · have := h ι Sm.rfl hb
    rw [show x1.toInt.toNat = v by omega, show x2.toInt.toNat = d by omega, if_neg (fun q => hk q.2), if_pos (by unfold okVD; omega), if_neg hk] at this; exact this hT
  · have := h ι1 s1 (by rw [j1]; exact hb)
    rw [show x1.toInt.toNat = v by omega, show x2.toInt.toNat = d by omega, if_pos ⟨by unfold okVD; omega, hk⟩, if_pos (by unfold okVD; omega), if_pos hk] at this; exact this t1
/-- what reading by the class leaves -/
noncomputable def RXP (nv nd : Nat) (R : Int32 × Bool × (Nat → Int32) × Int32) (ι : IS) (v : Option Value) (ι1 : IS) : Prop := v = some (.int R.1) ∧ ((R.2.1 = false ∧ Sm 86 100 ι ι1) ∨ (R.2.1 = true ∧ (∀ a j, ¬ (25 ≤ a ∧ a ≤ 39) → ¬ (86 ≤ a ∧ a ≤ 100) → ¬ (a = 0 ∧ j = 10) → ι1 a j = ι a j) ∧ ι1 0 10 = R.2.2.2 ∧ ι1 25 4 = -4 ∧ TW 25 nv nd R.2.2.1 ι1))
theorem celX_spec {a i : Nat} (hr : rf a 0 = a + 1) (hi : x.toInt = i) (hl : (i : Int) < (ι a 1).toInt) (h : Q (some (.int (ι (a + 1) i))) ι) : PC xl n 141 0 [(0, .ref a), (1, .int x)] [] ι Q := by
  refine (t_141_0 ⟨fun c => ?_, fun c => ⟨fun c2 => ?_, fun c2 _ _ => ?_⟩⟩).weak
  · rw [i_lt, hi, n0] at c; omega
  · rw [i_lt, hi] at c2; omega
  · rw [hr, i_ixn hi]; exact h
theorem rdR138 {i : Nat} {x6 : Int32} {w9 : Value} {w5 : Nat} {x8 : Int32} {R : Int32 × Bool × (Nat → Int32) × Int32} (hs : Sm 86 100 ι0 ι) (hT : TW 86 nv nd f ι) (hw : WF f) (hR : R = (Int32.ofNat i, true, f, x6)) : PC xl n 139 138 [(0, .ref 0), (1, .int x1), (2, .int x2), (3, .int x3), (4, .int x4), (5, .ref w5), (6, .int x6), (7, .int (Int32.ofNat i)), (8, .int x8), (9, w9)] [] ι (RXP nv nd R ι0) := by
  refine (t_139_138 ?_).weak
  rw [rf_0_2', show rf 0 5 = 86 from rfl]
  refine twnB_spec (by decide) (by decide) (by omega) hw.hb hT (fun ι1 s1 t1 b1 => ?_)
  rw [hR]
  refine ⟨rfl, Or.inr ⟨rfl, fun a j g1 g2 g3 => ?_, up_same _ _ _ _, by rw [up_ne (by omega)]; exact b1, t1.keep (fun a j g1 g2 => up_ne (by omega))⟩⟩
  rw [up_ne (by omega), s1 a j (by omega), hs a j (by omega)]
theorem rdXLp {k N : Nat} {R : Int32 × Bool × (Nat → Int32) × Int32} {lk sz : Int32} {cl : Nat → Int32} (hk4 : k < 4) (hN : x4.toInt = N) (hN2 : N ≤ 20) (hl : ι0 (121 + 2 * k) 2 = lk) (hz : ι0 (121 + 2 * k) 1 = sz) (hz4 : sz.toInt ≤ 40) (hcl : ∀ i, i < 40 → ι0 (122 + 2 * k) i = cl i) : ∀ (n m i : Nat) (f : Nat → Int32) (ι : IS) (x8 : Int32) (w9 : Value), i + m = N → x8.toInt = i → Sm 86 100 ι0 ι → TW 86 nv nd f ι → ι 86 4 = -4 → WF f → (i = 0 ∨ (0 ≤ x3.toInt ∧ x3.toInt < 40)) → rdS nv nd (fun i => flP lk x2 sz (x3.toInt + 2 * i)) (fun i => cl (x3.toInt + 2 * i).toNat) (fun i => cl (x3.toInt + 2 * i + 1).toNat) m i f = R → PC xl n 139 59 [(0, .ref 0), (1, .int x1), (2, .int x2), (3, .int x3), (4, .int x4), (5, .ref (121 + 2 * k)), (6, .int 0), (7, .int (Int32.ofNat i)), (8, .int x8), (9, w9)] [] ι (RXP nv nd R ι0)
  | 0, _, _, _, _, _, _, _, _, _, _, _, _, _, _ => PC.zero
  | n + 1, m, i, f, ι, x8, w9, hm, hx, hs, hT, hb, hw, h40, hR => by
    have h4 := hT.1.1
    have h5 := hT.2.1.1
    obtain ⟨e1, e2⟩ := re_sh hk4
    have hr : rf (121 + 2 * k) 0 = 121 + 2 * k + 1 := by rw [e2]; omega
    have hl1 : ι (121 + 2 * k) 2 = lk := by rw [hs _ _ (by omega)]; exact hl
    have hz1 : ι (121 + 2 * k) 1 = sz := by rw [hs _ _ (by omega)]; exact hz
    refine t_139_59 ⟨fun c => ?_, fun c => ⟨fun c2 => absurd rfl c2, fun _ => ?_⟩⟩
    · rw [i_lt, hx, hN] at c
      have : m = 0 := by omega
      subst this
      exact rdR138 hs hT hw hR.symm
    · rw [i_lt, hx, hN] at c
      obtain ⟨m, rfl⟩ : ∃ q, m = q + 1 := ⟨m - 1, by omega⟩
      have hx3 := i_rng x3
      have e2i : (2 * x8).toInt = 2 * i := by rw [i_mul (by rw [n2i, hx]; omega), n2i, hx]
      have ep : (x3 + 2 * x8).toInt = x3.toInt + 2 * i := by
        rcases h40 with h0 | h0
        · subst h0
          rw [i_add (by rw [e2i]; omega), e2i]
        · rw [i_add (by rw [e2i]; omega), e2i]
      -- the FAULT of the pair
      have hfl : ∀ {Q2 : Option Value → IS → Prop}, Q2 (some (.int (flP lk x2 sz (x3.toInt + 2 * i)))) ι → PC xl n 140 0 [(0, .ref (121 + 2 * k)), (1, .int x2), (2, .int (x3 + 2 * x8))] [] ι Q2 := by
        intro Q2 hq
        refine (t_140_0 (flX_spec ?_)).weak
        rw [hl1, hz1, ep]
        intro r e; cases e
        unfold flP at hq
        refine ⟨fun c2 => flX_spec ?_, fun c2 => ?_⟩
        · have := flF_ok c2
          rw [if_pos c2] at hq
          intro r e; cases e
          rw [hl1, hz1, i_add (by rw [ep, n1]; omega), ep, n1]; exact hq
        · rw [if_neg c2] at hq; exact hq
      refine hfl ?_
      intro r e; cases e
      simp only [rdS] at hR
      refine ⟨fun c2 => ?_, fun c2 => ?_⟩
      · rw [if_neg c2] at hR
        refine (t_139_132 (t_139_59 (n := n) ⟨fun _ => ?_, fun _ => ⟨fun _ => ?_, fun z => absurd z c2⟩⟩).weak).weak
        · exact rdR138 hs hT hw hR.symm
        · exact rdR138 hs hT hw hR.symm
      · rw [if_pos c2] at hR
        have pk := flP_ok c2
        have c0 : ι (122 + 2 * k) (x3.toInt + 2 * i).toNat = cl (x3.toInt + 2 * i).toNat := by rw [hs _ _ (by omega)]; exact hcl _ (by omega)
        have c1 : ι (122 + 2 * k) (x3.toInt + 2 * i + 1).toNat = cl (x3.toInt + 2 * i + 1).toNat := by rw [hs _ _ (by omega)]; exact hcl _ (by omega)
        refine celX_spec (i := (x3.toInt + 2 * i).toNat) hr (by rw [ep]; omega) (by rw [hz1]; omega) ?_
        intro r e; cases e
        refine celX_spec (i := (x3.toInt + 2 * i + 1).toNat) hr (by rw [i_add (by rw [ep, n1]; omega), ep, n1]; omega) (by rw [hz1]; omega) ?_
        intro r e; cases e
        rw [show 121 + 2 * k + 1 = 122 + 2 * k by omega, c0, c1, show rf 0 5 = 86 from rfl]
        refine rcT_spec hT hw hb (fun ι1 s1 b1 t1 => ?_)
        intro r e; cases e
        refine isRef_spec (fun r hr2 => ?_)
        intro r2 e; cases e
        refine ⟨fun c3 => ?_, fun c3 => ?_⟩
        · rw [if_neg (hr2.mp c3)] at hR
          refine (t_139_132 ?_).weak
          have go := rdXLp hk4 hN hN2 hl hz hz4 hcl n m (i + 1) (visG nv nd f (cl (x3.toInt + 2 * i).toNat) (cl (x3.toInt + 2 * i + 1).toNat)) ι1 (x8 + 1) (.int (x3 + 2 * x8)) (by omega) (i_s hx (by omega)) (hs.trans s1) t1 b1 (hw.visK h4 h5) (Or.inr (by omega)) hR
          rw [← o_s (by omega)] at go
          rw [c2]
          exact go
        · have rp : refP (visR nv nd f (cl (x3.toInt + 2 * i).toNat) (cl (x3.toInt + 2 * i + 1).toNat)) := by false_or_by_contra; rename_i hh; exact c3 (hr2.mpr hh)
          rw [if_pos rp] at hR
          rw [← hR, i_on hx]
          exact ⟨rfl, Or.inl ⟨rfl, hs.trans s1⟩⟩
end OpR
end
section
/-! CALLS, VII: read by the model, and by both -/
/-- what reading by the model leaves -/
noncomputable def RMP (R : Int32 × Bool × (Nat → Int32) × Int32) (κ : IS) (v : Option Value) (κ1 : IS) : Prop := v = some (.int R.1) ∧ ((R.2.1 = false ∧ MG κ κ1 ∧ rO 0 (κ1 130) = rO 0 (κ 130)) ∨ (R.2.1 = true ∧ ∃ κ', MG κ κ' ∧ κ1 = up κ' 129 31 R.2.2.2 ∧ rO 0 (κ' 130) = R.2.2.1))
section OpR2
variable {xl : List Int32} {n n2 : Nat} {ι ι0 ι1 κ κ0 κ1 : IS} {nv nd : Nat} {f g : Nat → Int32} {x1 x2 x3 x4 x : Int32} {Q : Option Value → IS → Prop} {r : Int32}
theorem l_bm {z : Int} (h : -9223372036854775808 ≤ z ∧ z ≤ 9223372036854775807) : z.bmod 18446744073709551616 = z := by
  rw [Int.bmod_def]; omega
theorem l_add {x y : Int64} (h : -9223372036854775808 ≤ x.toInt + y.toInt ∧ x.toInt + y.toInt ≤ 9223372036854775807) : (x + y).toInt = x.toInt + y.toInt := by
  rw [Int64.toInt_add]; exact l_bm h
theorem rf_129_32 : rf 129 32 = 140 := by decide +kernel
theorem c77 {k i c : Nat} {x6 x7 x8 : Int32} {w9 : Value} (hk : x1.toInt = k) (hi : x7.toInt = i) (hi2 : i ≤ 20) (hc : x8.toInt = c) (hc2 : c < 2) (hq : ∀ y9 : Int64, PC xl n 236 156 [(0, .ref 129), (1, .int x1), (2, .int x2), (3, .int x3), (4, .int x4), (5, .int 0), (6, .int x6), (7, .int x7), (8, .int x8), (9, .long y9)] [.int (flF (κ 137 k) x2 (κ 138 k) (x3.toInt + 2 * i + c))] κ Q) : PC xl n 236 77 [(0, .ref 129), (1, .int x1), (2, .int x2), (3, .int x3), (4, .int x4), (5, .int 0), (6, .int x6), (7, .int x7), (8, .int x8), (9, w9)] [] κ Q := by
  have hx3 := i_rng x3
  have e2i : (2 * x7).toInt = 2 * i := by rw [i_mul (by rw [n2i, hi]; omega), n2i, hi]
  have ep : (x3.toInt64 + (2 * x7).toInt64 + x8.toInt64).toInt = x3.toInt + 2 * i + c := by
    have e1 : (x3.toInt64 + (2 * x7).toInt64).toInt = x3.toInt + 2 * i := by rw [l_add (by rw [Int32.toInt_toInt64, Int32.toInt_toInt64, e2i]; omega), Int32.toInt_toInt64, Int32.toInt_toInt64, e2i]
    rw [l_add (by rw [e1, Int32.toInt_toInt64, hc]; omega), e1, Int32.toInt_toInt64, hc]
  have z64 : (0 : Int64).toInt = 0 := rfl
  unfold flF at hq
  refine (t_236_77 ?_).weak
  rw [rf_129_28, rf_129_29, i_ixn hk]
  refine ⟨fun c => ?_, fun _ => ⟨fun c => absurd rfl c, fun _ _ _ => ⟨fun c1 _ _ => ⟨fun c2 => ⟨fun c3 => ?_, fun c3 _ _ => ⟨fun c4 => ?_, fun c4 => ?_⟩⟩, fun c2 => ?_⟩, fun c1 => ?_⟩⟩⟩
  · rw [i_lt, hc, n2i] at c; omega
  · rw [lg_cmp_lt, Int64.lt_iff_toInt_lt, ep, z64] at c3
    refine (t_236_151 ?_).weak
    have := hq (x3.toInt64 + (2 * x7).toInt64 + x8.toInt64)
    rw [if_neg c1, if_pos c2, if_pos (Or.inl c3)] at this; exact this
  · rw [lg_cmp_lt, Int64.lt_iff_toInt_lt, ep, z64] at c3
    rw [lg_cmp_lt, Int64.lt_iff_toInt_lt, ep, Int32.toInt_toInt64] at c4
    have := hq (x3.toInt64 + (2 * x7).toInt64 + x8.toInt64)
    rw [if_neg c1, if_pos c2, if_neg (by omega)] at this; exact this
  · rw [lg_cmp_lt, Int64.lt_iff_toInt_lt, ep, Int32.toInt_toInt64] at c4
    refine (t_236_151 ?_).weak
    have := hq (x3.toInt64 + (2 * x7).toInt64 + x8.toInt64)
    rw [if_neg c1, if_pos c2, if_pos (Or.inr (by omega))] at this; exact this
  · have := hq (x3.toInt64 + (2 * x7).toInt64 + x8.toInt64)
    rw [if_neg c1, if_neg c2] at this; exact this
  · have := hq (x3.toInt64 + (2 * x7).toInt64 + x8.toInt64)
    rw [if_pos c1] at this; exact this
noncomputable def sMv (a : Nat) : Bool := decide (129 ≤ a ∧ a ≤ 139)
noncomputable def pMv (k : Nat) : Bool := decide (k = 148 ∨ (168 ≤ k ∧ k ≤ 170) ∨ (173 ≤ k ∧ k ≤ 174) ∨ (177 ≤ k ∧ k ≤ 179) ∨ k = 181 ∨ (184 ≤ k ∧ k ≤ 189))
set_option maxRecDepth 100000 in
theorem cloMv : sClo sMv [(9, 32)] = true := by decide +kernel
set_option maxRecDepth 100000 in
theorem chkMv : sChk pMv [(9, 32)] [] = true := by decide +kernel
theorem lvS2 {S : Nat → Bool} {a : Nat} (h : S a = true) : sLv S [(0, .ref a), (1, .int x1), (2, .int x2)] := by
  intro q hq
  simp only [List.mem_cons, List.not_mem_nil, or_false] at hq
  rcases hq with rfl | rfl | rfl
  · intro b e; cases e; exact Or.inl h
  · exact sV_int
  · exact sV_int
theorem vis140 : PC xl n 185 0 [(0, .ref 129), (1, .int x1), (2, .int x2)] [] κ (fun _ κ1 => ∀ j, κ1 140 j = κ 140 j) := (PC.side cloMv chkMv rfl (lvS2 rfl)).imp (fun _ κ1 h j => h 140 j (Or.inl rfl))
/-- what was told comes back -/
theorem rbL {x5 x6 x7 x8 x9 : Int32} (hq : ∀ κ', (∀ a, ¬ a = 130 → κ' a = κ a) → (∀ j, κ' 130 j = if j < 80 then κ 140 j else κ 130 j) → Q (some (.int ((-20) - x7))) κ') : ∀ (n i : Nat) (κ2 : IS) (x10 : Int32), x10.toInt = i → i ≤ 80 → (∀ a, ¬ a = 130 → κ2 a = κ a) → (∀ j, κ2 130 j = if j < i then κ 140 j else κ 130 j) → PC xl n 236 219 [(0, .ref 129), (1, .int x1), (2, .int x2), (3, .int x3), (4, .int x4), (5, .int x5), (6, .int x6), (7, .int x7), (8, .int x8), (9, .int x9), (10, .int x10)] [] κ2 Q
  | 0, _, _, _, _, _, _, _ => PC.zero
  | n + 1, i, κ2, x10, hx, hi, h1, h2 => by
    refine t_236_219 ⟨fun c => ?_, fun c _ _ _ _ => ?_⟩
    · rw [i_lt, hx, n80] at c
      have : i = 80 := by omega
      subst this
      exact hq κ2 h1 h2
    · rw [i_lt, hx, n80] at c
      rw [rf_129_0, rf_129_32, i_ixn hx, h1 140 (by omega)]
      refine rbL hq n (i + 1) _ (x10 + 1) (i_s hx (by omega)) (by omega) (fun a ha => by rw [up_oth ha]; exact h1 a ha) (fun j => ?_)
      by_cases e : j = i
      · subst e; rw [up_same, if_pos (by omega)]
      · rw [up_ne (by omega), h2 j]
        by_cases g : j < i
        · rw [if_pos g, if_pos (by omega)]
        · rw [if_neg g, if_neg (by omega)]
theorem rdMLp {k N : Nat} {R : Int32 × Bool × (Nat → Int32) × Int32} (hk : x1.toInt = k) (hk4 : k < 4) (hN : x4.toInt = N) (hN2 : N ≤ 20) (hM : HM nv nd κ0) (hz4 : (κ0 138 k).toInt ≤ 40) : ∀ (n m i : Nat) (f : Nat → Int32) (κ : IS) (x7 : Int32) (w8 w9 : Value), i + m = N → x7.toInt = i → MG κ0 κ → rO 0 (κ 130) = f → (∀ j, j < 80 → κ 140 j = κ0 130 j) → WF f → rdS nv nd (fun i => flP (κ0 137 k) x2 (κ0 138 k) (x3.toInt + 2 * i)) (fun i => κ0 139 (40 * k + (x3.toInt + 2 * i).toNat)) (fun i => κ0 139 (40 * k + (x3.toInt + 2 * i + 1).toNat)) m i f = R → PC xl n 236 62 [(0, .ref 129), (1, .int x1), (2, .int x2), (3, .int x3), (4, .int x4), (5, .int 0), (6, .int (Int32.ofNat i)), (7, .int x7), (8, w8), (9, w9)] [] κ (RMP R κ0)
  | 0, _, _, _, _, _, _, _, _, _, _, _, _, _, _ => PC.zero
  | n + 1, m, i, f, κ, x7, w8, w9, hm, hx, hg, hf, hh, hw, hR => by
    have h4 := hM.1.1
    have h5 := hM.2.1.1
    have r137 : κ 137 = κ0 137 := hg.1 137 (by omega) (by omega) (by omega) (by omega) (by omega)
    have r138 : κ 138 = κ0 138 := hg.1 138 (by omega) (by omega) (by omega) (by omega) (by omega)
    have r139 : κ 139 = κ0 139 := hg.1 139 (by omega) (by omega) (by omega) (by omega) (by omega)
    have hM1 : HM nv nd κ := ⟨⟨h4, by rw [hg.2.1 3 (by omega)]; exact hM.1.2⟩, ⟨h5, by rw [hg.2.1 4 (by omega)]; exact hM.2.1.2⟩, by rw [hf]; exact hw⟩
    refine t_236_62 ⟨fun c => ?_, fun c => ⟨fun c2 => absurd rfl c2, fun _ => ?_⟩⟩
    · rw [i_lt, hx, hN] at c
      have : m = 0 := by omega
      subst this
      rw [← hR]
      exact ⟨rfl, Or.inr ⟨rfl, κ, hg, rfl, hf⟩⟩
    · rw [i_lt, hx, hN] at c
      obtain ⟨m, rfl⟩ : ∃ q, m = q + 1 := ⟨m - 1, by omega⟩
      have hx3 := i_rng x3
      simp only [rdS] at hR
      -- behind the two tries
      have bad : ∀ (y x8 : Int32) (w : Value), ¬ y = 0 → flP (κ0 137 k) x2 (κ0 138 k) (x3.toInt + 2 * i) = y → PC xl n 236 164 [(0, .ref 129), (1, .int x1), (2, .int x2), (3, .int x3), (4, .int x4), (5, .int y), (6, .int (Int32.ofNat i)), (7, .int x7), (8, .int x8), (9, w)] [] κ (RMP R κ0) := by
        intro y x8 w hy hfl
        rw [hfl, if_neg hy] at hR
        refine (t_236_164 ⟨fun _ => (t_236_255 (t_236_62 (n := n) ⟨fun _ => ?_, fun _ => ⟨fun _ => ?_, fun z => absurd z hy⟩⟩).weak).weak, fun z => absurd z hy⟩).weak
        · rw [← hR]; exact ⟨rfl, Or.inr ⟨rfl, κ, hg, rfl, hf⟩⟩
        · rw [← hR]; exact ⟨rfl, Or.inr ⟨rfl, κ, hg, rfl, hf⟩⟩
      have good : ∀ (x8 : Int32) (w : Value), flP (κ0 137 k) x2 (κ0 138 k) (x3.toInt + 2 * i) = 0 → PC xl n 236 164 [(0, .ref 129), (1, .int x1), (2, .int x2), (3, .int x3), (4, .int x4), (5, .int 0), (6, .int (Int32.ofNat i)), (7, .int x7), (8, .int x8), (9, w)] [] κ (RMP R κ0) := by
        intro x8 w hfl
        have pk := flP_ok hfl
        rw [hfl, if_pos rfl] at hR
        have e0 : (40 * x1).toInt = 40 * k := by rw [i_mul (by rw [n40, hk]; omega), n40, hk]
        have e1 : (40 * x1 + x3).toInt = 40 * k + x3.toInt := by rw [i_add (by rw [e0]; omega), e0]
        have e2i : (2 * x7).toInt = 2 * i := by rw [i_mul (by rw [n2i, hx]; omega), n2i, hx]
        have e2 : (40 * x1 + x3 + 2 * x7).toInt = (40 * k + (x3.toInt + 2 * i).toNat : Nat) := by rw [i_add (by rw [e1, e2i]; omega), e1, e2i]; omega
        have e3 : (40 * x1 + x3 + 2 * x7 + 1).toInt = (40 * k + (x3.toInt + 2 * i + 1).toNat : Nat) := by rw [i_add (by rw [e2, n1]; omega), e2, n1]; omega
        refine (t_236_164 ⟨fun z => absurd rfl z, fun _ _ _ _ _ => ?_⟩).weak
        rw [rf_129_30, i_ixn e2, i_ixn e3, r139]
        refine PC.imp (PC.and (visitM hM1) vis140) (fun v1 κ1 g1 => ?_)
        obtain ⟨⟨g1, g2, g3⟩, g140⟩ := g1
        rw [hf] at g1 g3
        intro r e
        rw [g1] at e
        cases e
        have vb := visR_b (x1 := κ0 139 (40 * k + (x3.toInt + 2 * i).toNat)) (x2 := κ0 139 (40 * k + (x3.toInt + 2 * i + 1).toNat)) hw h5 h4
        have h140 : ∀ j, j < 80 → κ1 140 j = κ0 130 j := fun j hj => by rw [g140]; exact hh j hj
        have nxt : ∀ x8 x9 : Int32, ¬ refP (visR nv nd f (κ0 139 (40 * k + (x3.toInt + 2 * i).toNat)) (κ0 139 (40 * k + (x3.toInt + 2 * i + 1).toNat))) → PC xl n 236 252 [(0, .ref 129), (1, .int x1), (2, .int x2), (3, .int x3), (4, .int x4), (5, .int 0), (6, .int (Int32.ofNat i)), (7, .int x7), (8, .int x8), (9, .int x9)] [] κ1 (RMP R κ0) := by
          intro x8 x9 nr
          rw [if_neg nr] at hR
          refine (t_236_252 (n := n) (t_236_255 (n := n) ?_).weak).weak
          have go := rdMLp hk hk4 hN hN2 hM hz4 n m (i + 1) _ κ1 (x7 + 1) (.int x8) (.int x9) (by omega) (i_s hx (by omega)) (hg.trans g2) g3 h140 (hw.visK h4 h5) hR
          rw [← o_s (by omega)] at go
          exact go
        refine ⟨fun c => nxt _ _ (fun q => ?_), fun c => ⟨fun c2 => nxt _ _ (fun q => (vb.mp q).2 c2), fun c2 => ?_⟩⟩
        · rw [i_lt, n0] at c; exact c (vb.mp q).1
        · rw [i_lt, n0] at c
          rw [if_pos (vb.mpr ⟨c, c2⟩)] at hR
          refine rbL (fun κ' m1 m2 => ?_) n 0 κ1 0 rfl (Nat.zero_le _) (fun _ _ => rfl) (fun j => by rw [if_neg (Nat.not_lt_zero _)])
          rw [← hR, i_on hx]
          refine ⟨rfl, Or.inl ⟨rfl, (hg.trans g2).trans (MG.se m1 (fun j hj => by rw [m2, if_neg (by omega)])), ?_⟩⟩
          funext j
          unfold rO
          split
          · rw [m2, if_pos (by omega), h140 _ (by omega)]
          · rfl
      refine c77 (c := 0) hk hx (by omega) rfl (by omega) (fun y9 => (t_236_156 ?_).weak)
      rw [r137, r138, show x3.toInt + 2 * (i : Int) + ((0 : Nat) : Int) = x3.toInt + 2 * i by omega]
      by_cases f0 : flF (κ0 137 k) x2 (κ0 138 k) (x3.toInt + 2 * i) = 0
      · rw [f0]
        refine c77 (c := 1) hk hx (by omega) rfl (by omega) (fun y9 => (t_236_156 ?_).weak)
        rw [r137, r138]
        have ef : flP (κ0 137 k) x2 (κ0 138 k) (x3.toInt + 2 * i) = flF (κ0 137 k) x2 (κ0 138 k) (x3.toInt + 2 * i + 1) := by unfold flP; rw [if_pos f0]
        refine (t_236_77 ⟨fun _ => ?_, fun c => absurd c (by decide)⟩).weak
        by_cases f1 : flF (κ0 137 k) x2 (κ0 138 k) (x3.toInt + 2 * i + 1) = 0
        · rw [show x3.toInt + 2 * (i : Int) + ((1 : Nat) : Int) = x3.toInt + 2 * i + 1 from rfl, f1]
          exact good _ _ (by rw [ef]; exact f1)
        · exact bad _ _ _ f1 ef
      · refine (t_236_77 ⟨fun c => absurd (show (0 : Int32) + 1 < 2 by decide) c, fun _ => ⟨fun _ => bad _ _ _ f0 ?_, fun z => absurd z f0⟩⟩).weak
        unfold flP; rw [if_neg f0]
theorem hadL {k N : Nat} (hq : ∀ κ', (∀ a, ¬ a = 140 → κ' a = κ a) → (∀ j, j < 80 → κ' 140 j = κ 130 j) → PC xl n 236 62 [(0, .ref 129), (1, .int x1), (2, .int x2), (3, .int x3), (4, .int x4), (5, .int 0), (6, .int 0), (7, .int 0), (8, .null), (9, .null)] [] κ' Q) : ∀ (m i : Nat) (κ2 : IS) (x5 : Int32), m ≤ n → x5.toInt = i → i ≤ 80 → (∀ a, ¬ a = 140 → κ2 a = κ a) → (∀ j, j < i → κ2 140 j = κ 130 j) → PC xl m 236 26 [(0, .ref 129), (1, .int x1), (2, .int x2), (3, .int x3), (4, .int x4), (5, .int x5)] [] κ2 Q
  | 0, _, _, _, _, _, _, _, _ => PC.zero
  | m + 1, i, κ2, x5, hm, hx, hi, h1, h2 => by
    refine t_236_26 ⟨fun c => ?_, fun c _ _ _ _ => ?_⟩
    · rw [i_lt, hx, n80] at c
      exact (hq κ2 h1 (fun j hj => h2 j (by omega))).le (by omega)
    · rw [i_lt, hx, n80] at c
      rw [rf_129_0, rf_129_32, i_ixn hx, h1 130 (by omega)]
      refine hadL (k := k) (N := N) hq m (i + 1) _ (x5 + 1) (by omega) (i_s hx (by omega)) (by omega) (fun a ha => by rw [up_oth ha]; exact h1 a ha) (fun j hj => ?_)
      by_cases e : j = i
      · subst e; rw [up_same]
      · rw [up_ne (by omega)]; exact h2 j (by omega)
theorem RN.torn (h : RN nv nd ι κ) (h1 : ∀ a j, ¬ (25 ≤ a ∧ a ≤ 39) → ¬ (86 ≤ a ∧ a ≤ 100) → ¬ (a = 0 ∧ j = 10) → ι1 a j = ι a j) (hm : MG κ κ1) (hb : ι1 25 4 = -4) (hT : TW 25 nv nd (rO 0 (κ1 130)) ι1) (hg : ∀ k, 52 ≤ k → rO 0 (κ1 130) k = rO 0 (κ 130) k) (t : Int32) (ht : ι1 0 10 = t) : RN nv nd ι1 (up κ1 129 31 t) := by
  obtain ⟨⟨a1, a2⟩, ⟨b1, b2⟩, ⟨c1, c3⟩, dd, ee, gg⟩ := h
  have o : ∀ a, ¬ a = 129 → (up κ1 129 31 t) a = κ1 a := fun a ha => up_oth ha
  have q : ∀ j, ¬ j = 31 → (up κ1 129 31 t) 129 j = κ1 129 j := fun j hj => up_ne (by omega)
  refine ⟨⟨a1, by rw [q 3 (by omega), hm.2.1 3 (by omega)]; exact a2⟩, ⟨b1, by rw [q 4 (by omega), hm.2.1 4 (by omega)]; exact b2⟩, ⟨?_, hb⟩, ?_, ?_, ?_⟩
  · rw [o 130 (by omega)]
    refine ⟨hT, ?_, ?_⟩
    · have hP := c1.2.1
      refine ⟨by rw [h1 24 2 (by omega) (by omega) (by omega), hg 52 (by omega)]; exact hP.1, by rw [hg 52 (by omega)]; exact hP.2.1, fun i hi => ?_⟩
      rw [hg 52 (by omega)] at hi
      rw [h1 _ _ (by omega) (by omega) (by omega), hg _ (by omega)]
      exact hP.2.2 i hi
    · have hS := c1.2.2
      refine ⟨by rw [h1 24 6 (by omega) (by omega) (by omega), hg 61 (by omega)]; exact hS.1, by rw [hg 61 (by omega)]; exact hS.2.1, fun i hi => ?_⟩
      rw [hg 61 (by omega)] at hi
      rw [h1 _ _ (by omega) (by omega) (by omega), h1 _ _ (by omega) (by omega) (by omega), h1 _ _ (by omega) (by omega) (by omega), hg _ (by omega), hg _ (by omega), hg _ (by omega)]
      exact hS.2.2 i hi
  · exact dd.keep (fun a j g1 g2 => h1 a j (by omega) (by omega) (by omega)) (by rw [o 132 (by omega)]; exact hm.1 132 (by omega) (by omega) (by omega) (by omega) (by omega)) (fun j hj => by rw [o 130 (by omega)]; exact hm.2.2 j hj)
  · refine ⟨fun k hk => ?_, by rw [ht, up_same]⟩
    have g := ee.1 k hk
    rw [h1 _ _ (by omega) (by omega) (by omega), h1 _ _ (by omega) (by omega) (by omega), o 137 (by omega), o 138 (by omega), o 139 (by omega), hm.1 137 (by omega) (by omega) (by omega) (by omega) (by omega), hm.1 138 (by omega) (by omega) (by omega) (by omega) (by omega), hm.1 139 (by omega) (by omega) (by omega) (by omega) (by omega)]
    exact ⟨g.1, g.2.1, g.2.2.1, fun i hi => by rw [h1 _ _ (by omega) (by omega) (by omega)]; exact g.2.2.2 i hi⟩
  · exact gg.keep (fun a j g1 g2 => h1 a j (by omega) (by omega) (by omega)) (by rw [q 13 (by omega)]; exact hm.2.1 13 (by omega)) (by rw [o 135 (by omega)]; exact hm.1 135 (by omega) (by omega) (by omega) (by omega) (by omega))
theorem rdS_hi {fl cv cd : Nat → Int32} {q : Nat} (hq : 52 ≤ q) (h4 : nv ≤ 4) (h5 : nd ≤ 4) : ∀ (m i : Nat) (f : Nat → Int32), WF f → (rdS nv nd fl cv cd m i f).2.2.1 q = f q
  | 0, _, _, _ => rfl
  | m + 1, i, f, hw => by
    simp only [rdS]
    split
    · split
      · rfl
      · rw [rdS_hi hq h4 h5 m (i + 1) _ (hw.visK h4 h5)]
        unfold visG
        split
        · rename_i c
          have ok := c.1
          unfold okVD at ok
          exact vi_hi hw (by omega) (by omega) c.2 hq
        · rfl
    · rfl
theorem read_call (h : RN nv nd ι κ) (w : WW κ) : CALL xl n n2 139 236 [(0, .ref 0), (1, .int x1), (2, .int x2), (3, .int x3), (4, .int x4)] [(0, .ref 129), (1, .int x1), (2, .int x2), (3, .int x3), (4, .int x4)] (fun v1 v2 => v1 = v2) ι κ := by
  have hx := h.hx w
  have hm := h.hm w
  have n20 : (20 : Int32).toInt = 20 := rfl
  -- the class
  have key : PC xl n 139 0 [(0, .ref 0), (1, .int x1), (2, .int x2), (3, .int x3), (4, .int x4)] [] ι (fun v ι1 => (¬ ((0 ≤ x1.toInt ∧ x1.toInt < 4) ∧ (0 ≤ x2.toInt ∧ x2.toInt < 3) ∧ 0 ≤ x4.toInt ∧ x4.toInt ≤ 20) ∧ v = some (.int (-1)) ∧ ι1 = ι) ∨ (∃ k N : Nat, x1.toInt = k ∧ k < 4 ∧ (0 ≤ x2.toInt ∧ x2.toInt < 3) ∧ x4.toInt = N ∧ N ≤ 20 ∧ RXP nv nd (rdS nv nd (fun i => flP (κ 137 k) x2 (κ 138 k) (x3.toInt + 2 * i)) (fun i => κ 139 (40 * k + (x3.toInt + 2 * i).toNat)) (fun i => κ 139 (40 * k + (x3.toInt + 2 * i + 1).toNat)) N 0 (rO 0 (κ 130))) ι v ι1)) := by
    refine (t_139_0 (isSh_spec (fun r hr => ?_))).weak
    intro r2 e; cases e
    refine ⟨fun c => Or.inl ⟨fun q => (hr.mp c) q.1, rfl, rfl⟩, fun c => isLn_spec (fun r hr2 => ?_)⟩
    have c1 : 0 ≤ x1.toInt ∧ x1.toInt < 4 := by false_or_by_contra; rename_i hh; exact c (hr.mpr hh)
    intro r2 e; cases e
    refine ⟨fun c => Or.inl ⟨fun q => (hr2.mp c) q.2.1, rfl, rfl⟩, fun c => ?_⟩
    have c2 : 0 ≤ x2.toInt ∧ x2.toInt < 3 := by false_or_by_contra; rename_i hh; exact c (hr2.mpr hh)
    refine ⟨fun c3 => Or.inl ⟨fun q => ?_, rfl, rfl⟩, fun c3 => ⟨fun c4 _ _ => ?_, fun c4 => Or.inl ⟨fun q => ?_, rfl, rfl⟩⟩⟩
    · rw [i_lt, n0] at c3; omega
    · rw [i_lt, n0] at c3
      rw [i_lt, n20] at c4
      obtain ⟨k, hk⟩ : ∃ k : Nat, x1.toInt = k := ⟨x1.toInt.toNat, by omega⟩
      obtain ⟨N, hN⟩ : ∃ N : Nat, x4.toInt = N := ⟨x4.toInt.toNat, by omega⟩
      have hk4 : k < 4 := by omega
      have hS := h.2.2.2.2.1.1 k hk4
      rw [show rf 0 5 = 86 from rfl, rf_0_2', i_ixn hk, (re_sh hk4).1]
      refine twnB_spec (by decide) (by decide) (by omega) w.1.hb hx.tw (fun ι1 s1 t1 b1 => ?_)
      refine PC.imp (rdXLp (lk := κ 137 k) (sz := κ 138 k) (cl := fun i => κ 139 (40 * k + i)) hk4 hN (by omega) ?_ ?_ hS.2.2.1.2 (fun i hi => ?_) n N 0 (rO 0 (κ 130)) ι1 0 .null (by omega) rfl Sm.rfl t1 b1 w.1 (Or.inl rfl) rfl) (fun v ι2 g => Or.inr ⟨k, N, hk, hk4, c2, hN, by omega, ?_⟩)
      · rw [s1 _ _ (by omega)]; exact hS.1
      · rw [s1 _ _ (by omega)]; exact hS.2.1
      · rw [s1 _ _ (by omega)]; exact hS.2.2.2 i hi
      · obtain ⟨g0, g⟩ := g
        refine ⟨g0, ?_⟩
        rcases g with ⟨p1, p2⟩ | ⟨p1, p2, p3, p4, p5⟩
        · exact Or.inl ⟨p1, s1.trans p2⟩
        · exact Or.inr ⟨p1, fun a j q1 q2 q3 => by rw [p2 a j q1 q2 q3]; exact s1 a j (by omega), p3, p4, p5⟩
    · rw [i_lt, n20] at c4; omega
  refine PC.imp key (fun v1 ι1 g1 => ?_)
  refine (t_236_0 (isSM_spec (fun r hr => ?_))).weak
  intro r2 e; cases e
  have same : ¬ ((0 ≤ x1.toInt ∧ x1.toInt < 4) ∧ (0 ≤ x2.toInt ∧ x2.toInt < 3) ∧ 0 ≤ x4.toInt ∧ x4.toInt ≤ 20) → v1 = some (.int (-1)) ∧ RRel ι1 κ := by
    intro q
    rcases g1 with ⟨-, q1, q2⟩ | ⟨k, N, q1, q2, q3, q4, q5, -⟩
    · rw [q2]; exact ⟨q1, nv, nd, h⟩
    · exact absurd ⟨by omega, q3, by omega⟩ q
  refine ⟨fun c => same (fun q => (hr.mp c) ⟨q.1, q.2.1⟩), fun c => inL (l := 0) (g := 20) rfl rfl (fun r hr2 => ?_)⟩
  have c1 : (0 ≤ x1.toInt ∧ x1.toInt < 4) ∧ 0 ≤ x2.toInt ∧ x2.toInt < 3 := by false_or_by_contra; rename_i hh; exact c (hr.mpr hh)
  intro r2 e; cases e
  refine ⟨fun c2 => ?_, fun c2 => same (fun q => (hr2.mp c2) q.2.2)⟩
  have c3 : 0 ≤ x4.toInt ∧ x4.toInt ≤ 20 := by false_or_by_contra; rename_i hh; exact c2 (hr2.mpr hh)
  rcases g1 with ⟨q0, -⟩ | ⟨k, N, hk, hk4, -, hN, hN2, g1⟩
  · exact absurd ⟨c1.1, c1.2, c3⟩ q0
  have hS := h.2.2.2.2.1.1 k hk4
  refine hadL (n := n2) (k := k) (N := N) (fun κ2 m1 m2 => ?_) n2 0 κ 0 (Nat.le_refl _) rfl (Nat.zero_le _) (fun _ _ => rfl) (fun j hj => absurd hj (Nat.not_lt_zero _))
  have g2 : MG κ κ2 := ⟨fun a _ _ _ _ q => m1 a q, fun j _ => by rw [m1 129 (by omega)], fun j _ => by rw [m1 130 (by omega)]⟩
  refine PC.imp (rdMLp hk hk4 hN hN2 hm hS.2.2.1.2 n2 N 0 (rO 0 (κ 130)) κ2 0 .null .null (by omega) rfl g2 (by rw [m1 130 (by omega)]) m2 w.1 rfl) (fun v2 κ3 g3 => ?_)
  obtain ⟨p0, p⟩ := g1
  obtain ⟨q0, q⟩ := g3
  refine ⟨by rw [p0, q0], ?_⟩
  rcases p with ⟨p1, p2⟩ | ⟨p1, p2, p3, p4, p5⟩
  · rcases q with ⟨q1, q2, q3⟩ | ⟨q1, -⟩
    · exact ⟨nv, nd, h.town (CG.of p2 (by omega)) q2 (by rw [p2 25 4 (by omega)]; exact h.2.2.1.2) (by rw [q3]; exact h.2.2.1.1.keep (fun a j g1 g2 => p2 a j (by omega)))⟩
    · rw [p1] at q1; cases q1
  · rcases q with ⟨q1, -⟩ | ⟨q1, κ', q2, q3, q4⟩
    · rw [p1] at q1; cases q1
    · rw [q3]
      exact ⟨nv, nd, h.torn p2 q2 p4 (by rw [q4]; exact p5) (fun j hj => by rw [q4]; exact rdS_hi hj hm.1.1 hm.2.1.1 N 0 _ w.1) _ p3⟩
end OpR2
end
section
/-! CALLS, VIII: text -/
noncomputable def sMx (a : Nat) : Bool := decide ((129 ≤ a ∧ a ≤ 136) ∨ a = 140)
noncomputable def pMx (k : Nat) : Bool := decide (k = 145 ∨ k = 146 ∨ k = 148 ∨ (150 ≤ k ∧ k ≤ 165))
set_option maxRecDepth 100000 in
theorem cloMx : sClo sMx [(9, 28), (9, 29), (9, 30)] = true := by decide +kernel
set_option maxRecDepth 100000 in
theorem chkMx : sChk pMx [(9, 28), (9, 29), (9, 30)] [(9, 31)] = true := by decide +kernel
section Txt
variable {xl : List Int32} {n n2 : Nat} {ι ι1 κ κ1 : IS} {nv nd : Nat} {f g : Nat → Int32} {x1 : Int32} {Q : Option Value → IS → Prop} {b : Nat → Int} {L cnt : Nat}
/-- the model's text leaves SHEETS, what was torn -/
theorem sideMT : PC xl n 150 0 [(0, .ref 129)] [] κ (fun _ κ1 => ∀ a j, (a = 137 ∨ a = 138 ∨ a = 139 ∨ (a = 129 ∧ j = 31)) → κ1 a j = κ a j) :=
  (PC.side cloMx chkMx rfl (lv1 rfl)).imp (fun _ κ1 h a j ha => h a j (by
    rcases ha with rfl | rfl | rfl | ⟨rfl, rfl⟩
    · exact Or.inl rfl
    · exact Or.inl rfl
    · exact Or.inl rfl
    · exact Or.inr (by decide +kernel)))
/-- the row that a draft becomes -/
noncomputable def drF (nd : Nat) (κ : IS) : Nat → Int32 := fun j => if j < 80 then (if j % 9 = 0 ∧ 18 ≤ j ∧ j < 18 + 9 * nd then κ 134 (j / 9 - 2) else κ 133 j) else 0
theorem kdX2 (h4 : nd ≤ 4) : ∀ (n d : Nat) (κ : IS) (x : Int32), x.toInt = d → d ≤ nd → (κ 129 4).toInt = nd → (∀ κ', (∀ a, ¬ a = 130 → ¬ a = 132 → κ' a = κ a) → κ' 132 0 = 0 → κ' 132 1 = 0 → (∀ j, κ' 130 j = if j % 9 = 0 ∧ 18 + 9 * d ≤ j ∧ j < 18 + 9 * nd then κ 134 (j / 9 - 2) else κ 130 j) → Q none κ') → PC xl n 146 44 [(0, .ref 129), (1, .int x)] [] κ Q
  | 0, _, _, _, _, _, _, _ => PC.zero
  | n + 1, d, κ, x, hx, hd, hn, hq => by
    refine t_146_44 ⟨fun c _ _ _ _ => ?_, fun c _ _ _ _ => ?_⟩
    · rw [i_lt, hx, hn] at c
      rw [rf_129_2, show vp_nar .boolean 0 = 0 from rfl, show (0 : Int32).toNatClampNeg = 0 from rfl, show (1 : Int32).toNatClampNeg = 1 from rfl]
      refine hq _ (fun a h1 h2 => by rw [up_oth h2, up_oth h2]) (by rw [up_ne (by omega), up_same]) (by rw [up_same]) (fun j => ?_)
      rw [if_neg (by omega), up_ne (by omega), up_ne (by omega)]
    · rw [i_lt, hx, hn] at c
      rw [rf_129_0, rf_129_11, i_ixn hx, ixD hx (by omega) (j := 2) rfl (by omega)]
      refine kdX2 h4 n (d + 1) _ (x + 1) (i_s hx (by omega)) (by omega) (by rw [up_ne (by omega)]; exact hn) (fun κ' h1 h2 h3 h5 => hq κ' (fun a g1 g2 => by rw [h1 a g1 g2, up_oth g1]) h2 h3 (fun j => ?_))
      rw [h5 j]
      by_cases e : j = 16 + 9 * d + 2
      · subst e
        rw [if_neg (by omega), up_same, if_pos (by omega), show (16 + 9 * d + 2) / 9 - 2 = d by omega]
      · by_cases g : j % 9 = 0 ∧ 18 + 9 * (d + 1) ≤ j ∧ j < 18 + 9 * nd
        · rw [if_pos g, if_pos (by omega), up_ne (by omega)]
        · rw [if_neg g, if_neg (by omega), up_ne (by omega)]
theorem kdX1 (h4 : nd ≤ 4) : ∀ (n k : Nat) (κ : IS) (x : Int32), x.toInt = k → k ≤ 80 → (κ 129 7).toInt = nd → (∀ κ', (∀ a, ¬ a = 129 → ¬ a = 130 → ¬ a = 132 → κ' a = κ a) → (∀ j, ¬ j = 3 → ¬ j = 4 → κ' 129 j = κ 129 j) → κ' 129 3 = κ 129 6 → κ' 129 4 = κ 129 7 → κ' 132 0 = 0 → κ' 132 1 = 0 → (∀ j, j < 80 → κ' 130 j = if j % 9 = 0 ∧ 18 ≤ j ∧ j < 18 + 9 * nd then κ 134 (j / 9 - 2) else if k ≤ j then κ 133 j else κ 130 j) → Q none κ') → PC xl n 146 2 [(0, .ref 129), (1, .int x)] [] κ Q
  | 0, _, _, _, _, _, _, _ => PC.zero
  | n + 1, k, κ, x, hx, hk, hn, hq => by
    refine t_146_2 ⟨fun c => ?_, fun c _ _ _ _ => ?_⟩
    · rw [i_lt, hx, n80] at c
      refine kdX2 h4 n 0 _ 0 rfl (Nat.zero_le _) (by rw [up_same, up_ne (by omega)]; exact hn) (fun κ' h1 h2 h3 h5 => hq κ' (fun a g1 g2 g3 => by rw [h1 a g2 g3, up_oth g1, up_oth g1]) (fun j g1 g2 => by rw [h1 129 (by omega) (by omega), up_ne (by omega), up_ne (by omega)]) (by rw [h1 129 (by omega) (by omega), up_ne (by omega), up_same]) (by rw [h1 129 (by omega) (by omega), up_same, up_ne (by omega)]) h2 h3 (fun j hj => ?_))
      rw [h5 j]
      by_cases g : j % 9 = 0 ∧ 18 + 9 * 0 ≤ j ∧ j < 18 + 9 * nd
      · rw [if_pos g, if_pos (by omega), up_ne (by omega), up_ne (by omega)]
      · rw [if_neg g, if_neg (by omega), if_neg (by omega), up_ne (by omega), up_ne (by omega)]
    · rw [i_lt, hx, n80] at c
      rw [rf_129_0, rf_129_5, i_ixn hx]
      refine kdX1 h4 n (k + 1) _ (x + 1) (i_s hx (by omega)) (by omega) (by rw [up_ne (by omega)]; exact hn) (fun κ' h1 h2 h3 h5 h6 h7 h8 => hq κ' (fun a g1 g2 g3 => by rw [h1 a g1 g2 g3, up_oth g2]) (fun j g1 g2 => by rw [h2 j g1 g2, up_ne (by omega)]) (by rw [h3, up_ne (by omega)]) (by rw [h5, up_ne (by omega)]) h6 h7 (fun j hj => ?_))
      rw [h8 j hj]
      by_cases g : j % 9 = 0 ∧ 18 ≤ j ∧ j < 18 + 9 * nd
      · rw [if_pos g, if_pos g, up_ne (by omega)]
      · rw [if_neg g, if_neg g]
        by_cases e : j = k
        · subst e
          rw [if_neg (by omega), if_pos (by omega), up_same]
        · by_cases g2 : k + 1 ≤ j
          · rw [if_pos g2, if_pos (by omega), up_ne (by omega)]
          · rw [if_neg g2, if_neg (by omega), up_ne (by omega)]
theorem kdX_spec (h4 : nd ≤ 4) (hn : (κ 129 7).toInt = nd) (hq : ∀ κ', (∀ a, ¬ a = 129 → ¬ a = 130 → ¬ a = 132 → κ' a = κ a) → (∀ j, ¬ j = 3 → ¬ j = 4 → κ' 129 j = κ 129 j) → κ' 129 3 = κ 129 6 → κ' 129 4 = κ 129 7 → κ' 132 0 = 0 → κ' 132 1 = 0 → rO 0 (κ' 130) = drF nd κ → Q none κ') : PC xl n 146 0 [(0, .ref 129)] [] κ Q := by
  refine (t_146_0 (kdX1 h4 n 0 κ 0 rfl (Nat.zero_le _) hn (fun κ' h1 h2 h3 h5 h6 h7 h8 => hq κ' h1 h2 h3 h5 h6 h7 ?_))).weak
  funext j
  unfold rO drF
  by_cases g : j < 80
  · rw [if_pos g, if_pos g, Nat.zero_add, h8 j g]
    by_cases g2 : j % 9 = 0 ∧ 18 ≤ j ∧ j < 18 + 9 * nd
    · rw [if_pos g2, if_pos g2]
    · rw [if_neg g2, if_neg g2, if_pos (Nat.zero_le _)]
  · rw [if_neg g, if_neg g]
theorem dr_o {j : Nat} (hj : j < 80) (h : ¬ (j % 9 = 0 ∧ 18 ≤ j ∧ j < 18 + 9 * nd)) : drF nd κ j = κ 133 j := by
  unfold drF; rw [if_pos hj, if_neg h]
theorem dr_d {d : Nat} (hd : d < nd) (h4 : nd ≤ 4) : drF nd κ (18 + 9 * d) = κ 134 d := by
  unfold drF; rw [if_pos (by omega), if_pos (by omega), show (18 + 9 * d) / 9 - 2 = d by omega]
/-- a draft that is told alike is the town that the model keeps -/
theorem DR.to (h : DR nv nd cnt ι κ) (hw : WH nv nd cnt ι) : TO 2 nv nd (drF nd κ) ι ∧ HB (drF nd κ) := by
  obtain ⟨⟨a1, a2, a3⟩, ⟨b1, b2, b3⟩, -, hV, hD, hP, hH, s1, s2⟩ := h
  have c8 := hP.1
  have e52 : drF nd κ 52 = κ 133 52 := dr_o (by omega) (by omega)
  have e61 : drF nd κ 61 = κ 133 61 := dr_o (by omega) (by omega)
  have p52 : (κ 133 52).toInt = cnt := hP.2.2.1
  refine ⟨⟨⟨⟨a1, a2⟩, ⟨b1, b2⟩, fun v hv => ?_, fun d hd => ?_⟩, ⟨?_, ?_, fun i hi => ?_⟩, ⟨?_, ?_, fun i hi => ?_⟩⟩, fun d hd => ?_⟩
  · obtain ⟨g1, g2, g3, g4⟩ := hV.1 v hv
    have g5 := hV.2 v (by omega)
    unfold VX
    rw [dr_o (by omega) (by omega), dr_o (by omega) (by omega), dr_o (by omega) (by omega), dr_o (by omega) (by omega), g5]
    rw [show 2 + 1 + 2 + v = 5 + v by omega]
    exact ⟨g1, g2, g3, g4⟩
  · obtain ⟨g1, g2, g3, g4, ⟨g5, g6, g7⟩, g8⟩ := hD d (by omega)
    unfold DX
    rw [show 2 + 1 + 7 + 2 * d = 10 + 2 * d by omega, dr_o (by omega) (by omega), dr_o (by omega) (by omega), dr_d hd b1]
    refine ⟨g1, by rw [g5, g6], g4, fun i hi => ?_⟩
    rw [← g1] at hi
    rw [show 10 + 2 * d + 1 = 11 + 2 * d by omega, g8 i hi, dr_o (by omega) (by omega)]
  · rw [e52, i_eq, hP.2.1, p52]
  · rw [e52, p52]; omega
  · rw [e52, p52] at hi
    obtain ⟨g1, g2⟩ := hP.2.2.2 i (by omega)
    have g3 := hw.1 i (by omega)
    rw [dr_o (by omega) (by omega), ← g1]
    refine ⟨rfl, ?_, g3⟩
    unfold actP at g2; omega
  · rw [e61, s1, s2]
  · rw [e61, s2]; decide
  · rw [e61, s2] at hi
    exact absurd hi (by rw [n0]; omega)
  · obtain ⟨g1, g2, -⟩ := hD d hd
    rw [dr_o (by omega) (by omega), ← g1]; exact g2
/-- a text, by class and model -/
theorem text_rel (h : RN nv nd ι κ) : PC xl n 13 0 [(0, .ref 0)] [] ι (fun v1 ι1 => PC xl n2 150 0 [(0, .ref 129)] [] κ (fun v2 κ1 => v1 = v2 ∧ ι1 22 1 = 0 ∧ κ1 129 13 = 0 ∧ ∃ nv nd : Nat, (nv ≤ 4 ∧ (κ1 129 3).toInt = nv) ∧ (nd ≤ 4 ∧ (κ1 129 4).toInt = nd) ∧ (TO 24 nv nd (rO 0 (κ1 130)) ι1 ∧ ι1 25 4 = -4) ∧ RI nv nd ι1 κ1 ∧ RS ι1 κ1)) := by
  obtain ⟨⟨a1, a2⟩, ⟨b1, b2⟩, ⟨c1, c3⟩, dd, ee, b, L, hX, hM⟩ := h
  refine (t_13_0 ?_).weak
  rw [rf_0_0, rf_0_1, rf_0_2, rf_1_0]
  refine PC.imp (PC.and (text2 (n2 := n2) (K := fun v1 ι1 v2 κ1 => (∃ r, v1 = some (.int r) ∧ v2 = some (.int r)) ∧ κ1 129 13 = 0 ∧ ((ι1 1 2 = 0 ∧ (κ1 132 0 = 0 ∧ κ1 132 1 = 0) ∧ ∃ nv nd : Nat, (nv ≤ 4 ∧ (κ1 129 3).toInt = nv) ∧ (nd ≤ 4 ∧ (κ1 129 4).toInt = nd) ∧ TO 2 nv nd (rO 0 (κ1 130)) ι1 ∧ HB (rO 0 (κ1 130))) ∨ (¬ ι1 1 2 = 0 ∧ 0 < κ1 129 18))) (b := b) (L := L) ?_ ?_ hX hM) sideX) (fun v1 ι1 hh0 => ?_)
  · intro x ι κ nv nd cnt _ _ e12 _ hD hW
    have hD2 : DR nv nd cnt ι (up κ 129 13 0) := hD.congr (fun _ _ _ => rfl) (fun a j g => up_ne (by unfold dM at g; omega))
    refine kdX_spec hD.2.1.1 hD2.2.1.2.2 (fun κ' h1 h2 h3 h4 z0 z1 h5 => ⟨⟨x, rfl, rfl⟩, ?_, Or.inl ⟨e12, ⟨z0, z1⟩, nv, nd, ⟨hD.1.1, by rw [h3]; exact hD2.1.2.2⟩, ⟨hD.2.1.1, by rw [h4]; exact hD2.2.1.2.2⟩, ?_⟩⟩)
    · rw [h2 13 (by omega) (by omega), up_same]
    · rw [h5]; exact hD2.to hW
  · intro ι κ fr
    refine ⟨⟨_, rfl, by rw [fr.2.2]⟩, up_same _ _ _ _, Or.inr ⟨fr.1, ?_⟩⟩
    rw [up_ne (by omega), i_lt]
    exact fr.2.1
  · obtain ⟨hh, hsd⟩ := hh0
    intro r1 e1
    have z : (up (up ι1 22 1 0) 0 9 ((up ι1 22 1 0) 1 2)) 22 1 = 0 := by rw [up_ne (by omega), up_same]
    have z9 : (up (up ι1 22 1 0) 0 9 ((up ι1 22 1 0) 1 2)) 0 9 = ι1 1 2 := by rw [up_same, up_ne (by omega)]
    have zk : ∀ a j, ¬ (1 ≤ a ∧ a ≤ 23) → ¬ (a = 0 ∧ j = 9) → (up (up ι1 22 1 0) 0 9 ((up ι1 22 1 0) 1 2)) a j = ι a j := fun a j g1 g2 => by rw [up_ne (by omega), up_ne (by omega), hsd a j g1]
    have zd : ∀ a j, ¬ (a = 22 ∧ j = 1) → ¬ (a = 0 ∧ j = 9) → (up (up ι1 22 1 0) 0 9 ((up ι1 22 1 0) 1 2)) a j = ι1 a j := fun a j g1 g2 => by rw [up_ne (by omega), up_ne (by omega)]
    have hu := PC.and (PC.and hh (uTxt (xl := xl) (n := n2) (κ := κ))) sideMT
    revert z z9 zk zd
    generalize (up (up ι1 22 1 0) 0 9 ((up ι1 22 1 0) 1 2)) = ι2
    intro z z9 zk zd
    have rs : ∀ ι3 κ1 : IS, (∀ a j, 121 ≤ a → a ≤ 128 → ι3 a j = ι a j) → ι3 0 10 = ι 0 10 → (∀ a j, (a = 137 ∨ a = 138 ∨ a = 139 ∨ (a = 129 ∧ j = 31)) → κ1 a j = κ a j) → RS ι3 κ1 := fun ι3 κ1 g1 g2 g3 => ee.keep g1 g2 ⟨funext (fun j => g3 137 j (by omega)), funext (fun j => g3 138 j (by omega)), funext (fun j => g3 139 j (by omega))⟩ (g3 129 31 (by omega))
    refine ⟨fun c => ?_, fun c => ?_⟩
    · rw [z9] at c
      refine hu.imp (fun v2 κ1 g => ?_)
      obtain ⟨⟨⟨⟨r, q1, q2⟩, q3, q4⟩, q5⟩, q6⟩ := g
      refine ⟨by rw [q2, ← q1, e1], z, q3, ?_⟩
      have k5 : mK κ κ1 := by
        rcases q4 with q4 | q4
        · exact absurd q4.1 c
        · exact q5.resolve_left (fun q => q q4.2)
      have r130 : κ1 130 = κ 130 := funext (fun j => k5 130 j (by omega))
      refine ⟨nv, nd, ⟨a1, by rw [k5 129 3 (by omega)]; exact a2⟩, ⟨b1, by rw [k5 129 4 (by omega)]; exact b2⟩, ⟨by rw [r130]; exact c1.keep (fun a j g1 g2 => zk a j (by omega) (by omega)), by rw [zk 25 4 (by omega) (by omega)]; exact c3⟩, ?_, ?_⟩
      · exact dd.keep (fun a j g1 g2 => zk a j (by omega) (by omega)) (funext (fun j => k5 132 j (by omega))) (fun j _ => by rw [r130])
      · exact rs ι2 κ1 (fun a j g1 g2 => zk a j (by omega) (by omega)) (zk 0 10 (by omega) (by omega)) q6
    · rw [z9] at c
      let PP : Option Value → IS → Option Value → IS → Prop := fun v1 ι3 v2 κ1 => v1 = v2 ∧ ι3 22 1 = 0 ∧ κ1 129 13 = 0 ∧ ∃ nv nd : Nat, (nv ≤ 4 ∧ (κ1 129 3).toInt = nv) ∧ (nd ≤ 4 ∧ (κ1 129 4).toInt = nd) ∧ (TO 24 nv nd (rO 0 (κ1 130)) ι3 ∧ ι3 25 4 = -4) ∧ RI nv nd ι3 κ1 ∧ RS ι3 κ1
      refine PC.imp (Q := fun _ κ2 => PC xl n2 150 0 [(0, .ref 129)] [] κ (fun v2 κ1 => PC xl n 13 50 [(0, .ref 0), (1, .int r1), (2, .int 0)] [] κ2 (fun v1 ι3 => PP v1 ι3 v2 κ1))) ?_ (fun _ κ2 hq => PC.swap (P := fun v2 κ1 v1 ι3 => PP v1 ι3 v2 κ1) hq)
      refine PC.swap (P := fun v2 κ1 _ κ2 => PC xl n 13 50 [(0, .ref 0), (1, .int r1), (2, .int 0)] [] κ2 (fun v1 ι3 => PP v1 ι3 v2 κ1)) ?_
      refine hu.imp (fun v2 κ1 g => ?_)
      obtain ⟨⟨⟨⟨r, q1, q2⟩, q3, q4⟩, q5⟩, q6⟩ := g
      rcases q4 with ⟨-, ⟨k0, k1⟩, nv', nd', u1, u2, u3, u4⟩ | ⟨q4, -⟩
      · refine tolB_spec (t := 24) (s := 2) (by decide) (by decide) (by omega) u4 (u3.keep (fun a j g1 g2 => zd a j (by omega) (by omega))) (fun ι3 s1 t1 b1 => keptL n 0 ι3 0 rfl (by omega) (fun ι4 o1 _ o3 => ?_))
        refine ⟨by rw [q2, ← q1, e1], by rw [o1 22 1 (by omega), s1 22 1 (by omega)]; exact z, q3, nv', nd', u1, u2, ⟨t1.keep (fun a j g1 g2 => o1 a j (by omega)), by rw [o1 25 4 (by omega)]; exact b1⟩, fun k hk => ?_, ?_⟩
        · have k9 : κ1 132 k = 0 := by
            match k, hk with
            | 0, _ => exact k0
            | 1, _ => exact k1
          exact ⟨by rw [o3 k (by omega) hk, k9], fun q => absurd k9 q⟩
        · exact rs ι4 κ1 (fun a j g1 g2 => by rw [o1 a j (by omega), s1 a j (by omega)]; exact zk a j (by omega) (by omega)) (by rw [o1 0 10 (by omega), s1 0 10 (by omega)]; exact zk 0 10 (by omega) (by omega)) q6
      · exact absurd c q4
end Txt
end
