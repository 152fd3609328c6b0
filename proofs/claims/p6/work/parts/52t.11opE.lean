/-! CALLS, V: sheet, lay -/
section OpE
variable {xl : List Int32} {n n2 : Nat} {ι ι1 κ κ1 : IS} {nv nd : Nat} {f g : Nat → Int32} {x1 x2 x3 x : Int32} {Q : Option Value → IS → Prop} {r : Int32}
theorem n40 : (40 : Int32).toInt = 40 := rfl
theorem isSh_spec (h : ∀ r : Int32, (r = 0 ↔ ¬ (0 ≤ x.toInt ∧ x.toInt < 4)) → Q (some (.int r)) ι) : PC xl n 133 0 [(0, .int x)] [] ι Q := by
  refine (t_133_0 ⟨fun c => h 0 ⟨fun _ hh => ?_, fun _ => rfl⟩, fun c => ⟨fun c2 => h 0 ⟨fun _ hh => ?_, fun _ => rfl⟩, fun c2 => h 1 ⟨fun q => absurd q (by decide), fun q => absurd ⟨?_, ?_⟩ q⟩⟩⟩).weak
  · rw [i_lt, n0] at c; omega
  · rw [i_lt, n4] at c2; omega
  · rw [i_lt, n0] at c; omega
  · rw [i_lt, n4] at c2; omega
theorem isLn_spec (h : ∀ r : Int32, (r = 0 ↔ ¬ (0 ≤ x.toInt ∧ x.toInt < 3)) → Q (some (.int r)) ι) : PC xl n 134 0 [(0, .int x)] [] ι Q := by
  refine (t_134_0 ⟨fun c => h 0 ⟨fun _ hh => ?_, fun _ => rfl⟩, fun c => ⟨fun c2 => h 0 ⟨fun _ hh => ?_, fun _ => rfl⟩, fun c2 => h 1 ⟨fun q => absurd q (by decide), fun q => absurd ⟨?_, ?_⟩ q⟩⟩⟩).weak
  · rw [i_lt, n0] at c; omega
  · rw [i_lt, n3] at c2; omega
  · rw [i_lt, n0] at c; omega
  · rw [i_lt, n3] at c2; omega
theorem isSM_spec (h : ∀ r : Int32, (r = 0 ↔ ¬ ((0 ≤ x1.toInt ∧ x1.toInt < 4) ∧ 0 ≤ x2.toInt ∧ x2.toInt < 3)) → Q (some (.int r)) κ) : PC xl n 234 0 [(0, .int x1), (1, .int x2)] [] κ Q := by
  refine (t_234_0 (inL (l := 0) (g := 3) rfl rfl (fun r hr => ?_))).weak
  intro r2 e; cases e
  refine ⟨fun c => h 0 ⟨fun _ hh => (hr.mp c) (by omega), fun _ => rfl⟩, fun c => inL (l := 0) (g := 2) rfl rfl (fun r hr2 => ?_)⟩
  intro r2 e; cases e
  have c1 : 0 ≤ x1.toInt ∧ x1.toInt ≤ 3 := by false_or_by_contra; rename_i hh; exact c (hr.mpr hh)
  refine ⟨fun c2 => h 0 ⟨fun _ hh => (hr2.mp c2) (by omega), fun _ => rfl⟩, fun c2 => h 1 ⟨fun q => absurd q (by decide), fun q => absurd ⟨by omega, ?_⟩ q⟩⟩
  have : 0 ≤ x2.toInt ∧ x2.toInt ≤ 2 := by false_or_by_contra; rename_i hh; exact c2 (hr2.mpr hh)
  omega
theorem renL {a : Nat} (hr : rf a 0 = a + 1) (hq : ∀ ι', (∀ b j, ¬ b = a + 1 → ι' b j = ι b j) → (∀ i, i < 40 → ι' (a + 1) i = 0) → Q none ι') : ∀ (n i : Nat) (ι2 : IS) (x3 : Int32), x3.toInt = i → i ≤ 40 → (∀ b j, ¬ b = a + 1 → ι2 b j = ι b j) → (∀ q, q < i → ι2 (a + 1) q = 0) → PC xl n 135 12 [(0, .ref a), (1, .int x1), (2, .int x2), (3, .int x3)] [] ι2 Q
  | 0, _, _, _, _, _, _, _ => PC.zero
  | n + 1, i, ι2, x3, hx, hi, h1, h2 => by
    refine t_135_12 ⟨fun c => ?_, fun c _ _ => ?_⟩
    · rw [i_lt, hx, n40] at c
      exact hq ι2 h1 (fun q hq2 => h2 q (by omega))
    · rw [i_lt, hx, n40] at c
      rw [hr, i_ixn hx]
      refine renL hr hq n (i + 1) _ (x3 + 1) (i_s hx (by omega)) (by omega) (fun b j hb => by rw [up_ne (by omega)]; exact h1 b j hb) (fun q hq2 => ?_)
      by_cases e : q = i
      · subst e; rw [up_same]
      · rw [up_ne (by omega)]; exact h2 q (by omega)
theorem shML {k : Nat} {w : Value} (hk : x1.toInt = k) (hk4 : k < 4) (hq : ∀ κ', (∀ a, ¬ a = 139 → κ' a = κ a) → (∀ j, κ' 139 j = if 40 * k ≤ j ∧ j < 40 * k + 40 then 0 else κ 139 j) → Q (some (.int 1)) κ') : ∀ (n i : Nat) (κ2 : IS) (x4 : Int32), x4.toInt = i → i ≤ 40 → (∀ a, ¬ a = 139 → κ2 a = κ a) → (∀ j, κ2 139 j = if 40 * k ≤ j ∧ j < 40 * k + i then 0 else κ 139 j) → PC xl n 233 40 [(0, .ref 129), (1, .int x1), (2, .int x2), (3, .int x3), (4, .int x4)] [] κ2 Q
  | 0, _, _, _, _, _, _, _ => PC.zero
  | n + 1, i, κ2, x4, hx, hi, h1, h2 => by
    refine t_233_40 ⟨fun c => ?_, fun c _ _ => ?_⟩
    · rw [i_lt, hx, n40] at c
      have : i = 40 := by omega
      subst this
      exact hq κ2 h1 h2
    · rw [i_lt, hx, n40] at c
      have e0 : (40 * x1).toInt = 40 * k := by rw [i_mul (by rw [n40, hk]; omega), n40, hk]
      have e1 : (40 * x1 + x4).toInt = (40 * k + i : Nat) := by rw [i_add (by rw [e0, hx]; omega), e0, hx]; omega
      rw [rf_129_30, i_ixn e1]
      refine shML (w := w) hk hk4 hq n (i + 1) _ (x4 + 1) (i_s hx (by omega)) (by omega) (fun a ha => by rw [up_oth ha]; exact h1 a ha) (fun j => ?_)
      by_cases e : j = 40 * k + i
      · subst e; rw [up_same, if_pos (by omega)]
      · rw [up_ne (by omega), h2 j]
        by_cases g : 40 * k ≤ j ∧ j < 40 * k + i
        · rw [if_pos g, if_pos (by omega)]
        · rw [if_neg g, if_neg (by omega)]
/-- SHEETS changed, in both -/
theorem RN.sheets (h : RN nv nd ι κ) (h1 : ∀ a j, ¬ (121 ≤ a ∧ a ≤ 128) → ι1 a j = ι a j) (h2 : ∀ a, ¬ a = 137 → ¬ a = 138 → ¬ a = 139 → κ1 a = κ a) (hS : ∀ k, k < 4 → ι1 (121 + 2 * k) 2 = κ1 137 k ∧ ι1 (121 + 2 * k) 1 = κ1 138 k ∧ (0 ≤ (κ1 138 k).toInt ∧ (κ1 138 k).toInt ≤ 40) ∧ ∀ i, i < 40 → ι1 (122 + 2 * k) i = κ1 139 (40 * k + i)) : RN nv nd ι1 κ1 := by
  obtain ⟨⟨a1, a2⟩, ⟨b1, b2⟩, ⟨c1, c3⟩, dd, ee, gg⟩ := h
  have r129 : κ1 129 = κ 129 := h2 129 (by omega) (by omega) (by omega)
  have r130 : κ1 130 = κ 130 := h2 130 (by omega) (by omega) (by omega)
  refine ⟨⟨a1, by rw [r129]; exact a2⟩, ⟨b1, by rw [r129]; exact b2⟩, ⟨by rw [r130]; exact c1.keep (fun a j g1 g2 => h1 a j (by omega)), by rw [h1 25 4 (by omega)]; exact c3⟩, ?_, ⟨hS, by rw [h1 0 10 (by omega), r129]; exact ee.2⟩, ?_⟩
  · exact dd.keep (fun a j g1 g2 => h1 a j (by omega)) (h2 132 (by omega) (by omega) (by omega)) (fun j _ => by rw [r130])
  · exact gg.keep (fun a j g1 g2 => h1 a j (by omega)) (by rw [r129]) (h2 135 (by omega) (by omega) (by omega))
def shR (x1 x2 x3 : Int32) : Int32 := if (0 ≤ x1.toInt ∧ x1.toInt < 4) ∧ (0 ≤ x2.toInt ∧ x2.toInt < 3) ∧ x3.toInt ≤ 40 then (if x3.toInt < 0 then -14 else 1) else -1
theorem sheet_call (h : RN nv nd ι κ) : CALL xl n n2 132 233 [(0, .ref 0), (1, .int x1), (2, .int x2), (3, .int x3)] [(0, .ref 129), (1, .int x1), (2, .int x2), (3, .int x3)] (fun v1 v2 => v1 = v2) ι κ := by
  have key : PC xl n 132 0 [(0, .ref 0), (1, .int x1), (2, .int x2), (3, .int x3)] [] ι (fun v ι1 => v = some (.int (shR x1 x2 x3)) ∧ ((∃ k : Nat, x1.toInt = k ∧ k < 4 ∧ (0 ≤ x2.toInt ∧ x2.toInt < 3) ∧ (0 ≤ x3.toInt ∧ x3.toInt ≤ 40) ∧ (∀ a j, ¬ (a = 121 + 2 * k ∨ a = 122 + 2 * k) → ι1 a j = ι a j) ∧ ι1 (121 + 2 * k) 2 = x2 ∧ ι1 (121 + 2 * k) 1 = x3 ∧ ∀ i, i < 40 → ι1 (122 + 2 * k) i = 0) ∨ (¬ ((0 ≤ x1.toInt ∧ x1.toInt < 4) ∧ (0 ≤ x2.toInt ∧ x2.toInt < 3) ∧ 0 ≤ x3.toInt ∧ x3.toInt ≤ 40) ∧ ι1 = ι))) := by
    unfold shR
    refine (t_132_0 (isSh_spec (fun r hr => ?_))).weak
    intro r2 e; cases e
    refine ⟨fun c => ?_, fun c => isLn_spec (fun r hr2 => ?_)⟩
    · have := hr.mp c
      exact ⟨by rw [if_neg (fun q => this q.1)], Or.inr ⟨fun q => this q.1, rfl⟩⟩
    have c1 : 0 ≤ x1.toInt ∧ x1.toInt < 4 := by false_or_by_contra; rename_i hh; exact c (hr.mpr hh)
    intro r2 e; cases e
    refine ⟨fun c => ?_, fun c => ?_⟩
    · have := hr2.mp c
      exact ⟨by rw [if_neg (fun q => this q.2.1)], Or.inr ⟨fun q => this q.2.1, rfl⟩⟩
    have c2 : 0 ≤ x2.toInt ∧ x2.toInt < 3 := by false_or_by_contra; rename_i hh; exact c (hr2.mpr hh)
    refine ⟨fun c3 => ⟨fun c4 _ _ => ?_, fun c4 => ?_⟩, fun c3 => ?_⟩
    · rw [i_lt, n40] at c3
      rw [i_lt, n0] at c4
      obtain ⟨k, hk⟩ : ∃ k : Nat, x1.toInt = k := ⟨x1.toInt.toNat, by omega⟩
      obtain ⟨e1, e2⟩ := re_sh (k := k) (by omega)
      rw [i_ixn hk, e1, if_pos ⟨c1, c2, by omega⟩, if_neg c4]
      refine (t_135_0 (renL (by rw [e2]; omega) (fun ι' g1 g2 => ⟨rfl, Or.inl ⟨k, hk, by omega, c2, by omega, fun a j g => ?_, ?_, ?_, fun i hi => ?_⟩⟩) n 0 _ 0 rfl (Nat.zero_le _) (fun _ _ _ => rfl) (fun q hq => absurd hq (Nat.not_lt_zero _)))).weak
      · rw [g1 a j (by omega), up_ne (by omega), up_ne (by omega)]
      · rw [g1 _ _ (by omega), up_ne (by omega), up_same]
      · rw [g1 _ _ (by omega), up_same]
      · have := g2 i hi
        rw [show 121 + 2 * k + 1 = 122 + 2 * k by omega] at this
        exact this
    · rw [i_lt, n40] at c3
      rw [i_lt, n0] at c4
      exact ⟨by rw [if_pos ⟨c1, c2, by omega⟩, if_pos c4], Or.inr ⟨fun q => by omega, rfl⟩⟩
    · rw [i_lt, n40] at c3
      exact ⟨by rw [if_neg (fun q => by omega)], Or.inr ⟨fun q => by omega, rfl⟩⟩
  refine PC.imp key (fun v1 ι1 g1 => ?_)
  obtain ⟨g0, g1⟩ := g1
  rw [g0]
  unfold shR
  refine (t_233_0 (isSM_spec (fun r hr => ?_))).weak
  intro r2 e; cases e
  have same : ¬ ((0 ≤ x1.toInt ∧ x1.toInt < 4) ∧ (0 ≤ x2.toInt ∧ x2.toInt < 3) ∧ 0 ≤ x3.toInt ∧ x3.toInt ≤ 40) → RRel ι1 κ := by
    intro q
    rcases g1 with ⟨k, q1, q2, q3, q4, -⟩ | ⟨-, q1⟩
    · exact absurd ⟨by omega, q3, q4⟩ q
    · rw [q1]; exact ⟨nv, nd, h⟩
  refine ⟨fun c => ?_, fun c => ?_⟩
  · have := hr.mp c
    exact ⟨by rw [if_neg (fun q => this ⟨q.1, q.2.1⟩)], same (fun q => this ⟨q.1, q.2.1⟩)⟩
  have c1 : (0 ≤ x1.toInt ∧ x1.toInt < 4) ∧ 0 ≤ x2.toInt ∧ x2.toInt < 3 := by false_or_by_contra; rename_i hh; exact c (hr.mpr hh)
  refine ⟨fun c3 => ⟨fun c4 _ _ _ _ => ?_, fun c4 => ?_⟩, fun c3 => ?_⟩
  · rw [i_lt, n40] at c3
    rw [i_lt, n0] at c4
    rcases g1 with ⟨k, hk, hk4, q3, q4, q5, q6, q7, q8⟩ | ⟨q0, -⟩
    · rw [if_pos ⟨c1.1, c1.2, by omega⟩, if_neg c4, rf_129_28, rf_129_29, i_ixn hk]
      refine shML (w := .null) hk hk4 (fun κ' m1 m2 => ⟨rfl, nv, nd, h.sheets (fun a j g => q5 a j (by omega)) (fun a g1 g2 g3 => by rw [m1 a g3, up_oth g2, up_oth g1]) (fun q hq => ?_)⟩) n2 0 _ 0 rfl (Nat.zero_le _) (fun _ _ => rfl) (fun j => by rw [if_neg (by omega)])
      have hS := h.2.2.2.2.1.1 q hq
      rw [m1 137 (by omega), m1 138 (by omega), up_oth (show ¬ 137 = 138 by omega)]
      by_cases e : q = k
      · subst e
        rw [up_same, up_same, q6, q7]
        refine ⟨rfl, rfl, q4, fun i hi => ?_⟩
        rw [q8 i hi, m2, if_pos (by omega)]
      · rw [up_ne (by omega), up_ne (by omega), up_ne (by omega), q5 _ _ (by omega), q5 _ _ (by omega)]
        refine ⟨hS.1, hS.2.1, hS.2.2.1, fun i hi => ?_⟩
        rw [q5 _ _ (by omega), m2, if_neg (by omega), up_ne (by omega), up_ne (by omega)]; exact hS.2.2.2 i hi
    · exact absurd ⟨c1.1, c1.2, by omega, by omega⟩ q0
  · rw [i_lt, n40] at c3
    rw [i_lt, n0] at c4
    exact ⟨by rw [if_pos ⟨c1.1, c1.2, by omega⟩, if_pos c4], same (fun q => by omega)⟩
  · rw [i_lt, n40] at c3
    exact ⟨by rw [if_neg (fun q => by omega)], same (fun q => by omega)⟩
/-- a number cut to a lane -/
def naV (l x : Int32) : Int32 := if l = 0 then x.toInt8.toInt32 else if l = 1 then x.toInt16.toInt32 else x
/-- what the machine finds at CELL p -/
def flF (l lane sz : Int32) (p : Int) : Int32 := if l = -4 then 1 else if l = lane then (if p < 0 ∨ sz.toInt ≤ p then 2 else 0) else 3
theorem flX_spec {a : Nat} (h : Q (some (.int (flF (ι a 2) x1 (ι a 1) x2.toInt))) ι) : PC xl n 137 0 [(0, .ref a), (1, .int x1), (2, .int x2)] [] ι Q := by
  unfold flF at h
  refine (t_137_0 ⟨fun c => ⟨fun c2 => ⟨fun c3 => ?_, fun c3 => ⟨fun c4 => ?_, fun c4 => ?_⟩⟩, fun c2 => ?_⟩, fun c => ?_⟩).weak
  · rw [i_lt, n0] at c3
    rw [if_neg c, if_pos c2, if_pos (Or.inl c3)] at h; exact h
  · rw [i_lt, n0] at c3
    rw [i_lt] at c4
    rw [if_neg c, if_pos c2, if_neg (by omega)] at h; exact h
  · rw [i_lt] at c4
    rw [if_neg c, if_pos c2, if_pos (Or.inr (by omega))] at h; exact h
  · rw [if_neg c, if_neg c2] at h; exact h
  · rw [if_pos c] at h; exact h
theorem putX_spec {a i : Nat} (hr : rf a 0 = a + 1) (hi : x1.toInt = i) (hl : (i : Int) < (ι a 1).toInt) (h : Q none (up ι (a + 1) i (naV (ι a 2) x2))) : PC xl n 138 0 [(0, .ref a), (1, .int x1), (2, .int x2)] [] ι Q := by
  unfold naV at h
  refine (t_138_0 ⟨fun c => ?_, fun c => ⟨fun c2 => ?_, fun c2 => ?_⟩⟩).weak
  · rw [i_lt, hi, n0] at c; omega
  · rw [i_lt, hi] at c2; omega
  · rw [hr, i_ixn hi]
    refine ⟨fun c3 => ⟨fun c4 _ _ => ?_, fun c4 _ _ => ?_⟩, fun c3 _ _ => ?_⟩
    · rw [if_neg c3, if_neg c4] at h; exact h
    · rw [if_neg c3, if_pos c4] at h; exact h
    · rw [if_pos c3] at h; exact h
theorem lay_call (h : RN nv nd ι κ) : CALL xl n n2 136 235 [(0, .ref 0), (1, .int x1), (2, .int x2), (3, .int x3)] [(0, .ref 129), (1, .int x1), (2, .int x2), (3, .int x3)] (fun v1 v2 => v1 = v2) ι κ := by
  have key : PC xl n 136 0 [(0, .ref 0), (1, .int x1), (2, .int x2), (3, .int x3)] [] ι (fun v ι1 => (¬ (0 ≤ x1.toInt ∧ x1.toInt < 4) ∧ v = some (.int (-1)) ∧ ι1 = ι) ∨ (∃ k : Nat, x1.toInt = k ∧ k < 4 ∧ ((κ 137 k = -4 ∧ v = some (.int (-11)) ∧ ι1 = ι) ∨ (¬ κ 137 k = -4 ∧ ((¬ (0 ≤ x2.toInt ∧ x2.toInt < (κ 138 k).toInt) ∧ v = some (.int (-12)) ∧ ι1 = ι) ∨ (0 ≤ x2.toInt ∧ x2.toInt < (κ 138 k).toInt ∧ v = some (.int 1) ∧ ι1 = up ι (122 + 2 * k) x2.toInt.toNat (naV (κ 137 k) x3))))))) := by
    refine (t_136_0 (isSh_spec (fun r hr => ?_))).weak
    intro r2 e; cases e
    refine ⟨fun c _ _ => ?_, fun c => Or.inl ⟨hr.mp c, rfl, rfl⟩⟩
    have c1 : 0 ≤ x1.toInt ∧ x1.toInt < 4 := by false_or_by_contra; rename_i hh; exact c (hr.mpr hh)
    obtain ⟨k, hk⟩ : ∃ k : Nat, x1.toInt = k := ⟨x1.toInt.toNat, by omega⟩
    have hk4 : k < 4 := by omega
    obtain ⟨e1, e2⟩ := re_sh hk4
    have hS := h.2.2.2.2.1.1 k hk4
    rw [i_ixn hk, e1]
    refine flX_spec ?_
    intro r2 e; cases e
    unfold flF
    rw [hS.1, hS.2.1]
    by_cases g : κ 137 k = -4
    · rw [if_pos g]
      exact ⟨fun z => absurd z (by decide), fun _ => Or.inr ⟨k, hk, hk4, Or.inl ⟨g, rfl, rfl⟩⟩⟩
    · rw [if_neg g, if_pos rfl]
      by_cases g2 : x2.toInt < 0 ∨ (κ 138 k).toInt ≤ x2.toInt
      · rw [if_pos g2]
        exact ⟨fun z => absurd z (by decide), fun _ => Or.inr ⟨k, hk, hk4, Or.inr ⟨g, Or.inl ⟨by omega, rfl, rfl⟩⟩⟩⟩
      · rw [if_neg g2]
        refine ⟨fun _ => putX_spec (i := x2.toInt.toNat) (by rw [e2]; omega) (by omega) (by rw [hS.2.1]; omega) ?_, fun z => absurd rfl z⟩
        rw [hS.1, show 121 + 2 * k + 1 = 122 + 2 * k by omega]
        exact Or.inr ⟨k, hk, hk4, Or.inr ⟨g, Or.inr ⟨by omega, by omega, rfl, rfl⟩⟩⟩
  refine PC.imp key (fun v1 ι1 g1 => ?_)
  refine (t_235_0 (isSM_spec (fun r hr => ?_))).weak
  intro r2 e; cases e
  have z0 : (0 : Int32).toInt = 0 := rfl
  rcases g1 with ⟨q0, q1, q2⟩ | ⟨k, hk, hk4, g1⟩
  · refine ⟨fun c => ?_, fun _ => ⟨q1, by rw [q2]; exact ⟨nv, nd, h⟩⟩⟩
    exact absurd (hr.mpr (fun q => q0 q.1)) c
  · refine ⟨fun _ _ _ => ?_, fun c => absurd ⟨by omega, by omega, by omega⟩ (hr.mp c)⟩
    rw [rf_129_28, rf_129_29, rf_129_30, i_ixn hk]
    have hS := h.2.2.2.2.1.1 k hk4
    have es : (κ 138 k - 1).toInt = (κ 138 k).toInt - 1 := by rw [i_sub (by rw [n1]; omega), n1]
    rcases g1 with ⟨g, q1, q2⟩ | ⟨g, g1⟩
    · exact ⟨fun z => absurd g z, fun _ => ⟨q1, by rw [q2]; exact ⟨nv, nd, h⟩⟩⟩
    · refine ⟨fun _ _ _ => in32 rfl (fun r hr2 => ?_), fun z => absurd z g⟩
      rw [es] at hr2
      intro r2 e; cases e
      rcases g1 with ⟨g2, q1, q2⟩ | ⟨p1, p2, q1, q2⟩
      · exact ⟨fun z => absurd (hr2.mpr (by omega)) z, fun _ => ⟨q1, by rw [q2]; exact ⟨nv, nd, h⟩⟩⟩
      · refine ⟨fun _ _ _ => ?_, fun z => absurd ⟨p1, by omega⟩ (hr2.mp z)⟩
        have e0 : (40 * x1).toInt = 40 * k := by rw [i_mul (by rw [n40, hk]; omega), n40, hk]
        have e1 : (40 * x1 + x2).toInt = (40 * k + x2.toInt.toNat : Nat) := by rw [i_add (by rw [e0]; omega), e0]; omega
        rw [i_ixn e1]
        have fin : ∀ y : Int32, y = naV (κ 137 k) x3 → v1 = some (.int 1) ∧ RRel ι1 (up κ 139 (40 * k + x2.toInt.toNat) y) := by
          intro y hy
          refine ⟨q1, nv, nd, ?_⟩
          rw [q2, hy]
          refine h.sheets (fun a j g => up_ne (by omega)) (fun a g1 g2 g3 => up_oth g3) (fun q hq => ?_)
          have hS := h.2.2.2.2.1.1 q hq
          rw [up_ne (by omega), up_ne (by omega), up_ne (by omega), up_ne (by omega)]
          refine ⟨hS.1, hS.2.1, hS.2.2.1, fun i hi => ?_⟩
          by_cases e : q = k ∧ i = x2.toInt.toNat
          · obtain ⟨e3, e4⟩ := e
            subst e3 e4
            rw [up_same, up_same]
          · rw [up_ne (by omega), up_ne (by omega)]; exact hS.2.2.2 i hi
        refine ⟨fun z _ _ => ⟨fun z2 _ _ => fin _ ?_, fun z2 _ _ => fin _ ?_⟩, fun z _ _ => fin _ ?_⟩
        · unfold naV; rw [if_neg z, if_neg z2]
        · unfold naV; rw [if_neg z, if_pos z2]
        · unfold naV; rw [if_pos z]
end OpE
