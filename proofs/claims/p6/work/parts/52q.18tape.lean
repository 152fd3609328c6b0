/-! THE TAPE: feed, end, text; what else they leave -/
abbrev isTown (u : Nat) : Prop := u = 3 ∨ u = 25 ∨ u = 46 ∨ u = 66 ∨ u = 86 ∨ u = 102
abbrev isTold (t : Nat) : Prop := t = 2 ∨ t = 24 ∨ t = 45 ∨ t = 65
theorem town_at {u : Nat} (h : isTown u) : rf u 0 = u + 1 ∧ rf u 1 = u + 6 ∧ (lr (u + 1) = 4 ∧ lr (u + 6) = 4) ∧ ∀ v, v < 4 → re (u + 1) v = u + 2 + v ∧ re (u + 6) v = u + 7 + 2 * v ∧ rf (u + 7 + 2 * v) 0 = u + 8 + 2 * v := by
  rcases h with rfl | rfl | rfl | rfl | rfl | rfl <;> decide
theorem told_at {t : Nat} (h : isTold t) : isTown (t + 1) ∧ rf t 0 = t + 1 ∧ rf t 1 = t + 16 ∧ rf t 3 = t + 17 ∧ rf t 4 = t + 18 ∧ rf t 5 = t + 19 := by
  rcases h with rfl | rfl | rfl | rfl <;> decide
theorem rf_0_0 : rf 0 0 = 1 := rfl
theorem rf_0_1 : rf 0 1 = 22 := rfl
theorem rf_0_2 : rf 0 2 = 24 := rfl
theorem rf_0_4 : rf 0 4 = 85 := rfl
/-- the same but for places between two -/
def Sm (l h : Nat) (ι ι' : IS) : Prop := ∀ a j, ¬ (l ≤ a ∧ a ≤ h) → ι' a j = ι a j
section TapeA
variable {xl : List Int32} {b : Nat → Int} {lo L n n2 nv nd cnt l h : Nat} {ι ι' ι2 κ κ' : IS} {Q R : Option Value → IS → Prop} {x1 : Int32}
theorem Sm.rfl : Sm l h ι ι := fun _ _ _ => Eq.refl _
theorem Sm.trans {ι3 : IS} (h1 : Sm l h ι ι2) (h2 : Sm l h ι2 ι3) : Sm l h ι ι3 := fun a j hn => (h2 a j hn).trans (h1 a j hn)
theorem Sm.up {a j : Nat} {x : Int32} (h1 : Sm l h ι ι2) (ha : l ≤ a ∧ a ≤ h) : Sm l h ι (up ι2 a j x) := fun c k hn => by rw [up_ne (by omega)]; exact h1 c k hn
theorem visB_sm {a0 a1 : Nat} (ha : l ≤ a0 ∧ a0 ≤ h) (hq : ∀ ι', Sm l h ι ι' → Q none ι') : PC xl n 53 0 [(0, .ref a0), (1, .ref a1)] [] ι Q :=
  (t_53_0 (hq _ ((((Sm.rfl.up ha).up ha).up ha).up ha))).weak
theorem doorB_sm {a0 a1 : Nat} (ha : l ≤ a0 ∧ a0 ≤ h) (hb : l ≤ rf a0 0 ∧ rf a0 0 ≤ h) : ∀ (n : Nat) (ι : IS) (x : Int32), (∀ ι', Sm l h ι ι' → Q none ι') → PC xl n 54 2 [(0, .ref a0), (1, .ref a1), (2, .int x)] [] ι Q
  | 0, _, _, _ => PC.zero
  | n + 1, ι, x, hq => by
    refine t_54_2 ⟨fun _ => hq _ (((Sm.rfl.up ha).up ha).up ha), fun _ _ _ _ _ => ?_⟩
    exact doorB_sm ha hb n _ _ (fun ι' h1 => hq ι' ((Sm.rfl.up hb).trans h1))
theorem townB2_sm {u a1 : Nat} (hu : isTown u) : ∀ (n : Nat) (ι : IS) (x : Int32), (∀ ι', Sm u (u + 14) ι ι' → Q none ι') → PC xl n 52 49 [(0, .ref u), (1, .ref a1), (2, .int x)] [] ι Q
  | 0, _, _, _ => PC.zero
  | n + 1, ι, x, hq => by
    obtain ⟨e1, e2, ⟨e3, e4⟩, e5⟩ := town_at hu
    refine t_52_49 ⟨fun _ => hq _ (Sm.rfl.up (by omega)), fun _ c1 c2 _ _ => ?_⟩
    rw [e2, e4] at c2
    have hv : x.toNatClampNeg < 4 := by rw [i_ix]; omega
    rw [e2, (e5 _ hv).2.1]
    refine (t_54_0 (doorB_sm (l := u) (h := u + 14) (by omega) (by rw [(e5 _ hv).2.2]; omega) n ι 0 (fun ι1 h1 => ?_))).weak
    exact townB2_sm hu n _ _ (fun ι' h2 => hq ι' (h1.trans h2))
theorem townB1_sm {u a1 : Nat} (hu : isTown u) : ∀ (n : Nat) (ι : IS) (x : Int32), (∀ ι', Sm u (u + 14) ι ι' → Q none ι') → PC xl n 52 10 [(0, .ref u), (1, .ref a1), (2, .int x)] [] ι Q
  | 0, _, _, _ => PC.zero
  | n + 1, ι, x, hq => by
    obtain ⟨e1, e2, ⟨e3, e4⟩, e5⟩ := town_at hu
    refine t_52_10 ⟨fun _ => townB2_sm hu n _ _ (fun ι' h1 => hq ι' ((Sm.rfl.up (by omega)).trans h1)), fun _ c1 c2 _ _ => ?_⟩
    rw [e1, e3] at c2
    have hv : x.toNatClampNeg < 4 := by rw [i_ix]; omega
    rw [e1, (e5 _ hv).1]
    refine visB_sm (l := u) (h := u + 14) (by omega) (fun ι1 h1 => ?_)
    exact townB1_sm hu n _ _ (fun ι' h2 => hq ι' (h1.trans h2))
theorem townB_sm {u a1 : Nat} (hu : isTown u) (hq : ∀ ι', Sm u (u + 14) ι ι' → Q none ι') : PC xl n 52 0 [(0, .ref u), (1, .ref a1)] [] ι Q :=
  (t_52_0 (townB1_sm hu n _ _ (fun ι' h1 => hq ι' ((Sm.rfl.up (by omega)).trans h1)))).weak
theorem Sm.wide {l2 h2 : Nat} (h1 : Sm l h ι ι2) (hl : l2 ≤ l) (hh : h ≤ h2) : Sm l2 h2 ι ι2 := fun a j hn => h1 a j (by omega)
theorem toldB2_sm {t a1 : Nat} (ht : isTold t) : ∀ (n : Nat) (ι : IS) (x : Int32), (∀ ι', Sm t (t + 19) ι ι' → Q none ι') → PC xl n 51 57 [(0, .ref t), (1, .ref a1), (2, .int x)] [] ι Q ∧ PC xl n 51 89 [(0, .ref t), (1, .ref a1), (2, .int x)] [] ι Q
  | 0, _, _, _ => ⟨PC.zero, PC.zero⟩
  | n + 1, ι, x, hq => by
    obtain ⟨e0, e1, e2, e3, e4, e5⟩ := told_at ht
    refine ⟨t_51_57 ⟨fun _ => hq _ Sm.rfl, fun _ _ _ _ _ _ _ _ _ => ?_⟩, t_51_89 (fun _ _ _ _ => ?_)⟩
    · exact (toldB2_sm ht n _ _ (fun ι' h1 => hq ι' (((Sm.rfl.up (by rw [e3]; omega)).up (by rw [e4]; omega)).trans h1))).2
    · exact (toldB2_sm ht n _ _ (fun ι' h1 => hq ι' ((Sm.rfl.up (by rw [e5]; omega)).trans h1))).1
theorem toldB1_sm {t a1 : Nat} (ht : isTold t) : ∀ (n : Nat) (ι : IS) (x : Int32), (∀ ι', Sm t (t + 19) ι ι' → Q none ι') → PC xl n 51 21 [(0, .ref t), (1, .ref a1), (2, .int x)] [] ι Q
  | 0, _, _, _ => PC.zero
  | n + 1, ι, x, hq => by
    obtain ⟨e0, e1, e2, e3, e4, e5⟩ := told_at ht
    refine t_51_21 ⟨fun _ => (toldB2_sm ht n _ _ (fun ι' h1 => hq ι' ((Sm.rfl.up (by omega)).trans h1))).1, fun _ _ _ _ _ => ?_⟩
    exact toldB1_sm ht n _ _ (fun ι' h1 => hq ι' ((Sm.rfl.up (by rw [e2]; omega)).trans h1))
theorem toldB_sm {t a1 : Nat} (ht : isTold t) (hq : ∀ ι', Sm t (t + 19) ι ι' → Q none ι') : PC xl n 51 0 [(0, .ref t), (1, .ref a1)] [] ι Q := by
  obtain ⟨e0, e1, e2, e3, e4, e5⟩ := told_at ht
  refine (t_51_0 ?_).weak
  rw [e1]
  refine townB_sm e0 (fun ι1 h1 => ?_)
  exact toldB1_sm ht n _ _ (fun ι' h2 => hq ι' (((h1.wide (by omega) (by omega)).up (by omega)).trans h2))
theorem keptL : ∀ (n k : Nat) (ι : IS) (x : Int32), x.toInt = k → k ≤ 2 → (∀ ι', (∀ a j, ¬ a = 85 → ι' a j = ι a j) → (∀ q, q < k → ι' 85 q = ι 85 q) → (∀ q, k ≤ q → q < 2 → ι' 85 q = 0) → Q (some (.int x1)) ι') → PC xl n 13 50 [(0, .ref 0), (1, .int x1), (2, .int x)] [] ι Q
  | 0, _, _, _, _, _, _ => PC.zero
  | n + 1, k, ι, x, hx, hk, hq => by
    have t2 : (2 : Int32).toInt = 2 := rfl
    have u1 : (1 : Int32).toInt = 1 := rfl
    refine t_13_50 ⟨fun c => ?_, fun c _ _ => ?_⟩
    · rw [i_lt, hx, t2] at c
      exact hq ι (fun _ _ _ => rfl) (fun _ _ => rfl) (fun q h1 h2 => by omega)
    · rw [i_lt, hx, t2] at c
      rw [rf_0_4, i_ixn hx, show vp_nar .boolean 0 = 0 from rfl]
      refine keptL n (k + 1) _ (x + 1) (by rw [i_add (by rw [hx, u1]; omega), hx, u1]; rfl) (by omega) (fun ι' h1 h2 h3 => hq ι' (fun a j hn => ?_) (fun q hq => ?_) (fun q g1 g2 => ?_))
      · rw [h1 a j hn, up_ne (by omega)]
      · rw [h2 q (by omega), up_ne (by omega)]
      · by_cases e : q = k
        · rw [e, h2 k (by omega), up_same]
        · exact h3 q (by omega) g2
theorem rf_129_0 : rf 129 0 = 130 := by decide +kernel
theorem rf_129_2 : rf 129 2 = 132 := by decide +kernel
/-- what keeping the draft leaves -/
theorem kdL2 : ∀ (n : Nat) (κ : IS) (x : Int32), (∀ κ', (∀ a j, ¬ a = 130 → ¬ a = 132 → κ' a j = κ a j) → Q none κ') → PC xl n 146 44 [(0, .ref 129), (1, .int x)] [] κ Q
  | 0, _, _, _ => PC.zero
  | n + 1, κ, x, hq => by
    refine t_146_44 ⟨fun _ _ _ _ _ => hq _ (fun a j h1 h2 => ?_), fun _ _ _ _ _ => kdL2 n _ _ (fun κ' h1 => hq κ' (fun a j g1 g2 => ?_))⟩
    · rw [rf_129_2, up_ne (by omega), up_ne (by omega)]
    · rw [h1 a j g1 g2, rf_129_0, up_ne (by omega)]
theorem kdL1 : ∀ (n : Nat) (κ : IS) (x : Int32), (∀ κ', (∀ a j, ¬ a = 130 → ¬ a = 132 → ¬ (a = 129 ∧ (j = 3 ∨ j = 4)) → κ' a j = κ a j) → Q none κ') → PC xl n 146 2 [(0, .ref 129), (1, .int x)] [] κ Q
  | 0, _, _, _ => PC.zero
  | n + 1, κ, x, hq => by
    refine t_146_2 ⟨fun _ => kdL2 n _ _ (fun κ' h1 => hq κ' (fun a j g1 g2 g3 => ?_)), fun _ _ _ _ _ => kdL1 n _ _ (fun κ' h1 => hq κ' (fun a j g1 g2 g3 => ?_))⟩
    · rw [h1 a j g1 g2, up_ne (by omega), up_ne (by omega)]
    · rw [h1 a j g1 g2 g3, rf_129_0, up_ne (by omega)]
theorem kd_sm (hq : ∀ κ', (∀ a j, ¬ a = 130 → ¬ a = 132 → ¬ (a = 129 ∧ (j = 3 ∨ j = 4)) → κ' a j = κ a j) → Q none κ') : PC xl n 146 0 [(0, .ref 129)] [] κ Q := (t_146_0 (kdL1 n κ 0 hq)).weak
/-- a text, by class and model: the answers are the same, the tapes are empty then -/
theorem txt2 (hX : BX b L ι) (hM : BM b L κ) : PC xl n 13 0 [(0, .ref 0)] [] ι (fun v1 ι1 => PC xl n2 150 0 [(0, .ref 129)] [] κ (fun v2 κ1 => v1 = v2 ∧ ι1 22 1 = 0 ∧ κ1 129 13 = 0)) := by
  refine (t_13_0 ?_).weak
  rw [rf_0_0, rf_0_1, rf_0_2, rf_1_0]
  refine PC.imp (text2 (n2 := n2) (K := fun v1 _ v2 κ1 => (∃ r, v1 = some (.int r) ∧ v2 = some (.int r)) ∧ κ1 129 13 = 0) (b := b) (L := L) ?_ ?_ hX hM) (fun v1 ι1 hh => ?_)
  · intro x ι κ nv nd cnt _ _ _ _ _ _
    refine kd_sm (fun κ' h1 => ⟨⟨x, rfl, rfl⟩, ?_⟩)
    rw [h1 129 13 (by omega) (by omega) (by omega), up_same]
  · intro ι κ fr
    exact ⟨⟨_, rfl, by rw [fr.2.2]⟩, up_same _ _ _ _⟩
  · intro r1 e1
    have z : (up (up ι1 22 1 0) 0 9 ((up ι1 22 1 0) 1 2)) 22 1 = 0 := by rw [up_ne (by omega), up_same]
    have fin : ∀ ι2 : IS, ι2 22 1 = 0 → PC xl n2 150 0 [(0, .ref 129)] [] κ (fun v2 κ1 => some (Value.int r1) = v2 ∧ ι2 22 1 = 0 ∧ κ1 129 13 = 0) := fun ι2 h2 => hh.imp (fun v2 κ1 ⟨⟨r, q1, q2⟩, q3⟩ => ⟨by rw [q2, ← q1, e1], h2, q3⟩)
    revert z
    generalize (up (up ι1 22 1 0) 0 9 ((up ι1 22 1 0) 1 2)) = ι2
    intro z
    refine ⟨fun _ => fin ι2 z, fun _ => toldB_sm (t := 24) (Or.inr (Or.inl rfl)) (fun ι3 h3 => ?_)⟩
    refine keptL n 0 ι3 0 rfl (by omega) (fun ι4 o1 _ _ => fin ι4 ?_)
    rw [o1 22 1 (by omega), h3 22 1 (by omega)]; exact z
theorem feedX (hl : (ι 22 1).toInt = L) (h1 : 0 ≤ x1.toInt → x1.toInt ≤ 127 → L < 160 → ∀ ι' : IS, (∀ a j, ¬ (a = 22 ∧ j = 1) → ¬ (a = 23 ∧ j = L) → ι' a j = ι a j) → (ι' 22 1).toInt = (L + 1 : Nat) → ι' 23 L = x1 → ∀ v, Q v ι') (h2 : ¬ (0 ≤ x1.toInt ∧ x1.toInt ≤ 127 ∧ L < 160) → ∀ v, Q v ι) : PC xl n 10 0 [(0, .ref 0), (1, .int x1)] [] ι Q := by
  have t0 : (0 : Int32).toInt = 0 := rfl
  have t127 : (127 : Int32).toInt = 127 := rfl
  have t160 : (160 : Int32).toInt = 160 := rfl
  have u1 : (1 : Int32).toInt = 1 := rfl
  refine (t_10_0 ?_).weak
  rw [rf_0_1, i_lt, t0, i_lt (x := 127), t127]
  refine ⟨fun c => h2 (by omega) _, fun c => ⟨fun c2 => ?_, fun c2 => h2 (by omega) _⟩⟩
  refine (t_11_0 ?_).weak
  rw [i_lt, hl, t160, rf_22_0, i_ixn hl, up_ne (by omega)]
  refine ⟨fun c3 _ _ => ?_, fun c3 => ?_⟩
  · intro r hr
    cases hr
    refine ⟨fun c => absurd c (by decide), fun _ => h1 (by omega) (by omega) (by omega) _ (fun a j q1 q2 => ?_) ?_ ?_ _⟩
    · rw [up_ne q1, up_ne q2]
    · rw [up_same, i_add (by rw [hl, u1]; omega), hl, u1]; rfl
    · rw [up_ne (by omega), up_same]
  · intro r hr
    cases hr
    exact ⟨fun _ => h2 (by omega) _, fun c => absurd rfl c⟩
theorem feedM (hl : (κ 129 13).toInt = L) (hL : L ≤ 160) (h1 : 0 ≤ x1.toInt → x1.toInt ≤ 127 → L < 160 → ∀ κ' : IS, (∀ a j, ¬ (a = 129 ∧ j = 13) → ¬ (a = 135 ∧ j = L) → κ' a j = κ a j) → (κ' 129 13).toInt = (L + 1 : Nat) → κ' 135 L = x1 → ∀ v, Q v κ') (h2 : ¬ (0 ≤ x1.toInt ∧ x1.toInt ≤ 127 ∧ L < 160) → ∀ v, Q v κ) : PC xl n 147 0 [(0, .ref 129), (1, .int x1)] [] κ Q := by
  have t0 : (0 : Int64).toInt = 0 := rfl
  have t127 : (127 : Int64).toInt = 127 := rfl
  have t160 : (160 : Int32).toInt = 160 := rfl
  have u1 : (1 : Int32).toInt = 1 := rfl
  refine (t_147_0 (in_spec ?_)).weak
  rw [Int32.toInt_toInt64, t0, t127]
  intro r hr
  have hr := r01 hr
  have e160 : κ 129 13 = 160 ↔ (L : Int) = 160 := by rw [i_eq, hl]; exact Iff.rfl
  rw [e160, rf_129_12, i_ixn hl]
  refine ⟨fun c => ⟨fun c2 _ _ => ?_, fun c2 => h2 (by omega) _⟩, fun c => h2 (fun hh => hr.mp c ⟨hh.1, hh.2.1⟩) _⟩
  have g : 0 ≤ x1.toInt ∧ x1.toInt ≤ 127 := by
    false_or_by_contra
    rename_i hh
    exact c (hr.mpr hh)
  have e1 : (up κ 135 L x1) 129 13 = κ 129 13 := up_ne (by omega)
  rw [e1]
  refine h1 g.1 g.2 (by omega) _ (fun a j q1 q2 => ?_) ?_ ?_ _
  · rw [up_ne q1, up_ne q2]
  · rw [up_same, i_add (by rw [hl, u1]; omega), hl, u1]; rfl
  · rw [up_ne (by omega), up_same]
theorem endXs (hl : (ι 22 1).toInt = L) (h1 : 0 ≤ x1.toInt → x1.toInt ≤ L → ∀ v, Q v (up ι 22 1 x1)) (h2 : ¬ (0 ≤ x1.toInt ∧ x1.toInt ≤ L) → ∀ v, Q v ι) : PC xl n 12 0 [(0, .ref 0), (1, .int x1)] [] ι Q := by
  have t0 : (0 : Int32).toInt = 0 := rfl
  refine (t_12_0 ?_).weak
  rw [rf_0_1, i_lt, t0, i_lt, hl]
  exact ⟨fun c => h2 (by omega) _, fun c => ⟨fun c2 => h1 (by omega) (by omega) _, fun c2 => h2 (by omega) _⟩⟩
theorem endMs (hl : (κ 129 13).toInt = L) (h1 : 0 ≤ x1.toInt → x1.toInt ≤ L → ∀ v, Q v (up κ 129 13 x1)) (h2 : ¬ (0 ≤ x1.toInt ∧ x1.toInt ≤ L) → ∀ v, Q v κ) : PC xl n 149 0 [(0, .ref 129), (1, .int x1)] [] κ Q := by
  have t0 : (0 : Int64).toInt = 0 := rfl
  refine (t_149_0 (in_spec ?_)).weak
  rw [Int32.toInt_toInt64, Int32.toInt_toInt64, t0, hl]
  intro r hr
  have hr := r01 hr
  refine ⟨fun c => ?_, fun c => h2 (hr.mp c) _⟩
  have g : 0 ≤ x1.toInt ∧ x1.toInt ≤ L := by
    false_or_by_contra
    rename_i hh
    exact c (hr.mpr hh)
  exact h1 g.1 g.2 _
end TapeA
