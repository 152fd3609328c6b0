/-! TEXTS: the drafts anew; whether all is there -/
section TextA
variable {xl : List Int32} {b : Nat → Int} {lo L n n2 nv nd cnt : Nat} {ι ι' κ κ' : IS} {t : TK} {Q R : Option Value → IS → Prop} {x1 : Int32} {w : Value} {s e : Nat}
theorem clrL : ∀ (n d : Nat) (ι : IS) (x : Int32), x.toInt = d → d ≤ 4 → (∀ ι' : IS, (∀ a j, ¬ (10 + 2 * d ≤ a ∧ a ≤ 16 ∧ a % 2 = 0 ∧ 1 ≤ j ∧ j ≤ 3) → ι' a j = ι a j) → (∀ q, d ≤ q → q < 4 → ι' (10 + 2 * q) 1 = 0 ∧ ι' (10 + 2 * q) 2 = 0 ∧ ι' (10 + 2 * q) 3 = 0) → Q none ι') → PC xl n 16 12 [(0, .ref 3), (1, .int x)] [] ι Q
  | 0, _, _, _, _, _, _ => PC.zero
  | n + 1, d, ι, x, hx, hd, h => by
    have t4 : (4 : Int32).toInt = 4 := rfl
    have u1 : (1 : Int32).toInt = 1 := rfl
    refine t_16_12 ⟨fun c => ?_, fun c _ _ => ?_⟩
    · rw [i_lt, hx, t4] at c
      exact h ι (fun _ _ _ => rfl) (fun q h1 h2 => by omega)
    · rw [i_lt, hx, t4] at c
      rw [rf_3_1, i_ixn hx, re_9 d (by omega)]
      refine (t_17_0 ?_).weak
      refine clrL n (d + 1) _ (x + 1) (by rw [i_add (by rw [hx, u1]; omega), hx, u1]; rfl) (by omega) (fun ι' h1 h2 => ?_)
      refine h ι' (fun a j hn => ?_) (fun q g1 g2 => ?_)
      · rw [h1 a j (by omega), up_ne (by omega), up_ne (by omega), up_ne (by omega)]
      · by_cases eq : q = d
        · subst eq
          rw [h1 _ _ (by omega), h1 _ _ (by omega), h1 _ _ (by omega)]
          refine ⟨?_, ?_, ?_⟩
          · rw [up_ne (by omega), up_ne (by omega), up_same]
          · rw [up_ne (by omega), up_same]
          · rw [up_same]
        · exact h2 q (by omega) g2
/-- the class's draft anew -/
theorem clr_spec (h : ∀ ι' : IS, (∀ a j, ¬ (10 ≤ a ∧ a ≤ 16 ∧ a % 2 = 0 ∧ 1 ≤ j ∧ j ≤ 3) → ¬ (a = 3 ∧ (j = 2 ∨ j = 3)) → ¬ (a = 2 ∧ (j = 2 ∨ j = 6)) → ι' a j = ι a j) → (ι' 3 2 = 0 ∧ ι' 3 3 = 0 ∧ ι' 2 2 = 0 ∧ ι' 2 6 = 0) → (∀ q, q < 4 → ι' (10 + 2 * q) 1 = 0 ∧ ι' (10 + 2 * q) 2 = 0 ∧ ι' (10 + 2 * q) 3 = 0) → Q none ι') : PC xl n 15 0 [(0, .ref 2)] [] ι Q := by
  refine (t_15_0 ?_).weak
  rw [rf_2_0]
  refine (t_16_0 ?_).weak
  refine clrL n 0 _ 0 rfl (by omega) (fun ι' h1 h2 => ?_)
  refine h _ (fun a j q1 q2 q3 => ?_) ⟨?_, ?_, ?_, ?_⟩ (fun q hq => ?_)
  · rw [up_ne (by omega), up_ne (by omega), h1 a j (by omega), up_ne (by omega), up_ne (by omega)]
  · rw [up_ne (by omega), up_ne (by omega), h1 _ _ (by omega), up_ne (by omega), up_same]
  · rw [up_ne (by omega), up_ne (by omega), h1 _ _ (by omega), up_same]
  · rw [up_ne (by omega), up_same]
  · rw [up_same]
  · rw [up_ne (by omega), up_ne (by omega), up_ne (by omega), up_ne (by omega), up_ne (by omega), up_ne (by omega)]
    exact h2 q (by omega) hq
theorem fdL1 : ∀ (n k : Nat) (κ : IS) (x : Int32), x.toInt = k → k ≤ 80 → (∀ κ' : IS, (∀ a j, ¬ (a = 133 ∧ k ≤ j ∧ j < 80) → κ' a j = κ a j) → (∀ j, k ≤ j → j < 80 → κ' 133 j = 0) → PC xl n 145 23 [(0, .ref 129), (1, .int 0)] [] κ' Q) → PC xl n 145 2 [(0, .ref 129), (1, .int x)] [] κ Q
  | 0, _, _, _, _, _, _ => PC.zero
  | n + 1, k, κ, x, hx, hk, h => by
    have t80 : (80 : Int32).toInt = 80 := rfl
    have u1 : (1 : Int32).toInt = 1 := rfl
    refine t_145_2 ⟨fun c => ?_, fun c _ _ => ?_⟩
    · rw [i_lt, hx, t80] at c
      exact (h κ (fun _ _ _ => rfl) (fun q h1 h2 => by omega)).weak
    · rw [i_lt, hx, t80] at c
      rw [rf_129_5, i_ixn hx]
      refine fdL1 n (k + 1) _ (x + 1) (by rw [i_add (by rw [hx, u1]; omega), hx, u1]; rfl) (by omega) (fun κ' h1 h2 => (h κ' (fun a j hn => ?_) (fun j g1 g2 => ?_)).weak)
      · rw [h1 a j (by omega), up_ne (by omega)]
      · by_cases eq : j = k
        · subst eq; rw [h1 _ _ (by omega), up_same]
        · exact h2 j (by omega) g2
theorem fdL2 : ∀ (n k : Nat) (κ : IS) (x : Int32), x.toInt = k → k ≤ 4 → (∀ κ' : IS, (∀ a j, ¬ (a = 134 ∧ k ≤ j ∧ j < 4) → κ' a j = κ a j) → (∀ j, k ≤ j → j < 4 → κ' 134 j = 0) → Q none (up (up (up (up (up κ' 129 6 0) 129 7 0) 129 8 0) 129 9 (-4)) 129 10 (-4))) → PC xl n 145 23 [(0, .ref 129), (1, .int x)] [] κ Q
  | 0, _, _, _, _, _, _ => PC.zero
  | n + 1, k, κ, x, hx, hk, h => by
    have t4 : (4 : Int32).toInt = 4 := rfl
    have u1 : (1 : Int32).toInt = 1 := rfl
    refine t_145_23 ⟨fun c => ?_, fun c _ _ => ?_⟩
    · rw [i_lt, hx, t4] at c
      exact h κ (fun _ _ _ => rfl) (fun q h1 h2 => by omega)
    · rw [i_lt, hx, t4] at c
      rw [rf_129_11, i_ixn hx]
      refine fdL2 n (k + 1) _ (x + 1) (by rw [i_add (by rw [hx, u1]; omega), hx, u1]; rfl) (by omega) (fun κ' h1 h2 => h κ' (fun a j hn => ?_) (fun j g1 g2 => ?_))
      · rw [h1 a j (by omega), up_ne (by omega)]
      · by_cases eq : j = k
        · subst eq; rw [h1 _ _ (by omega), up_same]
        · exact h2 j (by omega) g2
/-- the model's draft anew -/
theorem fd_spec (h : ∀ κ' : IS, (∀ a j, ¬ (a = 133 ∧ j < 80) → ¬ (a = 134 ∧ j < 4) → ¬ (a = 129 ∧ 6 ≤ j ∧ j ≤ 10) → κ' a j = κ a j) → (∀ j, j < 80 → κ' 133 j = 0) → (∀ j, j < 4 → κ' 134 j = 0) → (κ' 129 6 = 0 ∧ κ' 129 7 = 0 ∧ κ' 129 8 = 0 ∧ κ' 129 9 = -4 ∧ κ' 129 10 = -4) → Q none κ') : PC xl n 145 0 [(0, .ref 129)] [] κ Q := by
  refine (t_145_0 ?_).weak
  refine fdL1 n 0 κ 0 rfl (by omega) (fun κ1 h1 h2 => ?_)
  refine fdL2 n 0 κ1 0 rfl (by omega) (fun κ2 g1 g2 => ?_)
  refine h _ (fun a j q1 q2 q3 => ?_) (fun j hj => ?_) (fun j hj => ?_) ⟨?_, ?_, ?_, ?_, ?_⟩
  · rw [up_ne (by omega), up_ne (by omega), up_ne (by omega), up_ne (by omega), up_ne (by omega), g1 a j (by omega), h1 a j (by omega)]
  · rw [up_ne (by omega), up_ne (by omega), up_ne (by omega), up_ne (by omega), up_ne (by omega), g1 _ _ (by omega)]
    exact h2 j (by omega) hj
  · rw [up_ne (by omega), up_ne (by omega), up_ne (by omega), up_ne (by omega), up_ne (by omega)]
    exact g2 j (by omega) hj
  · rw [up_ne (by omega), up_ne (by omega), up_ne (by omega), up_ne (by omega), up_same]
  · rw [up_ne (by omega), up_ne (by omega), up_ne (by omega), up_same]
  · rw [up_ne (by omega), up_ne (by omega), up_same]
  · rw [up_ne (by omega), up_same]
  · rw [up_same]
/-- fresh drafts fit -/
theorem DR.fresh (h1 : ι 3 2 = 0 ∧ ι 3 3 = 0 ∧ ι 2 2 = 0 ∧ ι 2 6 = 0) (h2 : ∀ q, q < 4 → ι (10 + 2 * q) 1 = 0 ∧ ι (10 + 2 * q) 2 = 0 ∧ ι (10 + 2 * q) 3 = 0) (h3 : ι 1 4 = 0) (g1 : ∀ j, j < 80 → κ 133 j = 0) (g2 : ∀ j, j < 4 → κ 134 j = 0) (g3 : κ 129 6 = 0 ∧ κ 129 7 = 0 ∧ κ 129 8 = 0 ∧ κ 129 9 = -4 ∧ κ 129 10 = -4) : DR 0 0 0 ι κ := by
  have t0 : (0 : Int32).toInt = 0 := rfl
  refine ⟨⟨by omega, by rw [h1.1]; rfl, by rw [g3.1]; rfl⟩, ⟨by omega, by rw [h1.2.1]; rfl, by rw [g3.2.1]; rfl⟩, ⟨by rw [h3, g3.2.2.1], Or.inl g3.2.2.1⟩, ⟨fun v hv => by omega, fun v hv => g1 _ (by omega)⟩, fun q hq => ?_, ⟨by omega, by rw [h1.2.2.1]; rfl, by rw [g1 52 (by omega)]; rfl, fun i hi => by omega⟩, ⟨fun i hi => by omega, fun d hd hn => absurd (g2 d hd) hn, Or.inl (by rw [g3.2.2.2.1]; rfl), Or.inl (by rw [g3.2.2.2.2]; rfl)⟩, h1.2.2.2, g1 61 (by omega)⟩
  obtain ⟨q1, q2, q3⟩ := h2 q hq
  rw [q1, q2, q3, g1 _ (by omega), g1 _ (by omega), g1 _ (by omega), g2 q hq, t0]
  exact ⟨rfl, by omega, fun _ => rfl, rfl, ⟨rfl, rfl, rfl⟩, fun i hi => by omega⟩
abbrev knP (nv nd : Nat) (z : Int) : Prop := (90 ≤ z ∧ z ≤ 92) ∨ (z / 10 < nv ∧ z % 10 < nd)
theorem has_spec {z : Int} {a j : Nat} (hz : x1.toInt = z) (ha : (ι a 2).toInt = j) (h : ∀ r : Int32, (r = 0 ↔ ¬ (0 ≤ z ∧ z < j)) → Q (some (.int r)) ι) : PC xl n 49 0 [(0, .ref a), (1, .int x1)] [] ι Q := by
  have t0 : (0 : Int32).toInt = 0 := rfl
  refine (t_49_0 ?_).weak
  rw [i_lt, hz, t0, i_lt, hz, ha]
  exact ⟨fun c => h 0 ⟨fun _ => by omega, fun _ => rfl⟩, fun c => ⟨fun c2 => h 0 ⟨fun _ => by omega, fun _ => rfl⟩, fun c2 => h 1 ⟨fun c => absurd c (by decide), fun hh => absurd ⟨by omega, by omega⟩ hh⟩⟩⟩
theorem hasD_spec {z : Int} {a j : Nat} (hz : x1.toInt = z) (ha : (ι a 3).toInt = j) (h : ∀ r : Int32, (r = 0 ↔ ¬ (0 ≤ z ∧ z < j)) → Q (some (.int r)) ι) : PC xl n 50 0 [(0, .ref a), (1, .int x1)] [] ι Q := by
  have t0 : (0 : Int32).toInt = 0 := rfl
  refine (t_50_0 ?_).weak
  rw [i_lt, hz, t0, i_lt, hz, ha]
  exact ⟨fun c => h 0 ⟨fun _ => by omega, fun _ => rfl⟩, fun c => ⟨fun c2 => h 0 ⟨fun _ => by omega, fun _ => rfl⟩, fun c2 => h 1 ⟨fun c => absurd c (by decide), fun hh => absurd ⟨by omega, by omega⟩ hh⟩⟩⟩
theorem knows_spec {z : Int} {a : Nat} (hz : x1.toInt = z) (h0 : 0 ≤ z) (hv : (ι a 2).toInt = nv) (hd : (ι a 3).toInt = nd) (h : ∀ r : Int32, (r = 0 ↔ ¬ knP nv nd z) → Q (some (.int r)) ι) : PC xl n 48 0 [(0, .ref a), (1, .int x1)] [] ι Q := by
  refine (t_48_0 (sky_spec hz (fun r hr => ?_))).weak
  intro r2 e2
  cases e2
  refine ⟨fun c => h 1 ⟨fun c => absurd c (by decide), fun hh => ?_⟩, fun c => has_spec (i_d10 hz h0) hv (fun r3 hr3 => ?_)⟩
  · exact absurd (hr.mpr (fun g => hh (Or.inl g))) c
  · have n1 := hr.mp c
    intro r4 e4
    cases e4
    refine ⟨fun c2 => h 0 ⟨fun _ hh => ?_, fun _ => rfl⟩, fun c2 => hasD_spec (i_m10 hz h0) hd (fun r5 hr5 => ?_)⟩
    · rcases hh with hh | hh
      · exact n1 hh
      · exact hr3.mp c2 ⟨by omega, hh.1⟩
    · intro r6 e6
      cases e6
      refine ⟨fun c3 => h 0 ⟨fun _ hh => ?_, fun _ => rfl⟩, fun c3 => h 1 ⟨fun c => absurd c (by decide), fun hh => ?_⟩⟩
      · rcases hh with hh | hh
        · exact n1 hh
        · exact hr5.mp c3 ⟨by omega, hh.2⟩
      · refine absurd (hr5.mpr (fun g2 => ?_)) c3
        refine absurd (hr3.mpr (fun g1 => ?_)) c2
        exact hh (Or.inr ⟨g1.2, g2.2⟩)
/-- all that is named is there -/
def WH (nv nd cnt : Nat) (ι : IS) : Prop := (∀ i, i < cnt → knP nv nd (ι 18 i).toInt) ∧ ∀ d, nd ≤ d → d < 4 → ι (10 + 2 * d) 2 = 0
theorem wh2 (hc : ∀ i, i < cnt → knP nv nd (ι 18 i).toInt) (h : ∀ r : Int32, (r = 0 ↔ ¬ WH nv nd cnt ι) → Q (some (.int r)) ι) : ∀ (n d : Nat) (x : Int32), x.toInt = d → nd ≤ d → d ≤ 4 → (∀ q, nd ≤ q → q < d → ι (10 + 2 * q) 2 = 0) → PC xl n 47 42 [(0, .ref 2), (1, .int x)] [] ι Q
  | 0, _, _, _, _, _, _ => PC.zero
  | n + 1, d, x, hx, hd, hd4, hq => by
    have t4 : (4 : Int32).toInt = 4 := rfl
    have u1 : (1 : Int32).toInt = 1 := rfl
    refine t_47_42 ⟨fun c => ?_, fun c _ _ => ?_⟩
    · rw [i_lt, hx, t4] at c
      exact h 1 ⟨fun c => absurd c (by decide), fun hh => absurd ⟨hc, fun q q1 q2 => hq q q1 (by omega)⟩ hh⟩
    · rw [i_lt, hx, t4] at c
      rw [rf_2_0, rf_3_1, i_ixn hx, re_9 d (by omega)]
      refine ⟨fun c2 => wh2 hc h n (d + 1) (x + 1) (by rw [i_add (by rw [hx, u1]; omega), hx, u1]; rfl) (by omega) (by omega) (fun q q1 q2 => ?_), fun c2 => h 0 ⟨fun _ hh => c2 (hh.2 d hd (by omega)), fun _ => rfl⟩⟩
      by_cases eq : q = d
      · rw [eq]; exact c2
      · exact hq q q1 (by omega)
theorem wh1 (hv : (ι 3 2).toInt = nv) (hd : (ι 3 3).toInt = nd) (hd4 : nd ≤ 4) (hc : (ι 2 2).toInt = cnt) (hc8 : cnt ≤ 8) (h0 : ∀ i, i < cnt → 0 ≤ (ι 18 i).toInt) (h : ∀ r : Int32, (r = 0 ↔ ¬ WH nv nd cnt ι) → Q (some (.int r)) ι) : ∀ (n i : Nat) (x : Int32), x.toInt = i → i ≤ cnt → (∀ q, q < i → knP nv nd (ι 18 q).toInt) → PC xl n 47 2 [(0, .ref 2), (1, .int x)] [] ι Q
  | 0, _, _, _, _, _ => PC.zero
  | n + 1, i, x, hx, hi, hq => by
    have u1 : (1 : Int32).toInt = 1 := rfl
    refine t_47_2 ⟨fun c => ?_, fun c _ _ => ?_⟩
    · rw [i_lt, hx, hc] at c
      rw [rf_2_0]
      exact wh2 (fun q q1 => hq q (by omega)) h n nd _ hd (Nat.le_refl _) hd4 (fun q q1 q2 => by omega)
    · rw [i_lt, hx, hc] at c
      rw [rf_2_0, rf_2_1, i_ixn hx]
      refine knows_spec rfl (h0 i (by omega)) hv hd (fun r hr => ?_)
      intro r2 e2
      cases e2
      refine ⟨fun c2 => wh1 hv hd hd4 hc hc8 h0 h n (i + 1) (x + 1) (by rw [i_add (by rw [hx, u1]; omega), hx, u1]; rfl) (by omega) (fun q q1 => ?_), fun c2 => h 0 ⟨fun _ hh => hr.mp c2 (hh.1 i (by omega)), fun _ => rfl⟩⟩
      by_cases eq : q = i
      · rw [eq]
        false_or_by_contra
        rename_i hh
        exact c2 (hr.mpr hh)
      · exact hq q (by omega)
theorem whole_spec (hD : DR nv nd cnt ι κ) (h : ∀ r : Int32, (r = 0 ↔ ¬ WH nv nd cnt ι) → Q (some (.int r)) ι) : PC xl n 47 0 [(0, .ref 2)] [] ι Q := by
  obtain ⟨c8, ci, ck, ca⟩ := hD.2.2.2.2.2.1
  refine (t_47_0 (wh1 hD.1.2.1 hD.2.1.2.1 hD.2.1.1 ci c8 (fun i hi => ?_) h n 0 0 rfl (Nat.zero_le _) (fun q hq => by omega))).weak
  have := (ca i hi).2
  unfold actP at this
  omega
/-- what the model looks at in the end is the same -/
theorem wh_iff (hD : DR nv nd cnt ι κ) : WH nv nd cnt ι ↔ ((κ 129 9).toInt < nv ∧ (κ 129 10).toInt < nd) := by
  obtain ⟨⟨v4, -, -⟩, ⟨d4, -, -⟩, -, -, dd, ⟨c8, ci, ck, ca⟩, ⟨g1, g2, g3, g4⟩, -⟩ := hD
  constructor
  · rintro ⟨w1, w2⟩
    constructor
    · rcases g3 with g3 | ⟨i, k1, k2, k3⟩
      · clear g4; rw [g3]; omega
      · have := w1 i k1
        clear g4
        unfold knP at this
        omega
    · rcases g4 with g4 | ⟨i, k1, k2, k3⟩ | ⟨d, k1, k2, k3⟩
      · clear g3; rw [g4]; omega
      · have := w1 i k1
        clear g3
        unfold knP at this
        omega
      · clear g3
        rw [← k3]
        false_or_by_contra
        rename_i hh
        have e4 := (dd d k1).2.2.2.1
        rw [w2 d (by omega) k1] at e4
        exact k2 e4.symm
  · rintro ⟨w1, w2⟩
    refine ⟨fun i hi => ?_, fun d q1 q2 => ?_⟩
    · have ha := (ca i hi).2
      by_cases hl : (ι 18 i).toInt < 90
      · have := g1 i hi hl
        clear g3 g4
        exact Or.inr ⟨by omega, by omega⟩
      · clear g3 g4
        unfold actP at ha
        exact Or.inl (by omega)
    · false_or_by_contra
      rename_i hh
      have e4 := (dd d q2).2.2.2.1
      have := g2 d q2 (by rw [← e4]; exact hh)
      clear g3 g4
      omega
end TextA
