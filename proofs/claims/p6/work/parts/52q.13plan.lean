/-! LINES: the plan's -/
section PlanL
variable {xl : List Int32} {b : Nat → Int} {lo L n n2 nv nd cnt : Nat} {ι ι' κ κ' : IS} {t : TK} {Q : Option Value → IS → Prop} {x1 : Int32} {w : Value}
theorem i_d10 {x : Int32} {z : Int} (h : x.toInt = z) (h0 : 0 ≤ z) : (x / 10).toInt = z / 10 := by
  have t10 : (10 : Int32).toInt = 10 := rfl
  have hr := i_rng x
  rw [Int32.toInt_div, t10, h]
  rw [Int.tdiv_eq_ediv_of_nonneg h0]
  exact i_bm (by omega)
theorem i_m10 {x : Int32} {z : Int} (h : x.toInt = z) (h0 : 0 ≤ z) : (x - x / 10 * 10).toInt = z % 10 := by
  have t10 : (10 : Int32).toInt = 10 := rfl
  have hr := i_rng x
  have h1 := i_d10 h h0
  have h2 : (x / 10 * 10).toInt = z / 10 * 10 := by rw [i_mul (by rw [h1, t10]; omega), h1, t10]
  rw [i_sub (by rw [h, h2]; omega), h, h2]
  omega
theorem sky_spec {z : Int} (hz : x1.toInt = z) (h : ∀ r : Int32, (r = 0 ↔ ¬ (90 ≤ z ∧ z ≤ 92)) → Q (some (.int r)) ι) : PC xl n 42 0 [(0, .int x1)] [] ι Q := by
  have t90 : (90 : Int32).toInt = 90 := rfl
  have t92 : (92 : Int32).toInt = 92 := rfl
  refine (t_42_0 ?_).weak
  rw [i_lt, i_lt, hz, t90, t92]
  exact ⟨fun c => h 0 ⟨fun _ => by omega, fun _ => rfl⟩, fun c => ⟨fun c2 => h 0 ⟨fun _ => by omega, fun _ => rfl⟩, fun c2 => h 1 ⟨fun c => absurd c (by decide), fun hh => absurd ⟨by omega, by omega⟩ hh⟩⟩⟩
theorem isAct_spec {z : Int} (hz : x1.toInt = z) (h : ∀ r : Int32, (r = 0 ↔ ¬ actP z) → Q (some (.int r)) ι) : PC xl n 41 0 [(0, .int x1)] [] ι Q := by
  have t0 : (0 : Int32).toInt = 0 := rfl
  have t4 : (4 : Int32).toInt = 4 := rfl
  have sk : ¬ (0 ≤ z ∧ z / 10 ≤ 3 ∧ z % 10 ≤ 3) → PC xl n 41 24 [(0, .int x1)] [] ι Q := by
    intro hn
    refine (t_41_24 ⟨fun c => absurd rfl c, fun _ => sky_spec hz ?_⟩).weak
    intro r hr r2 e
    cases e
    refine ⟨fun c => h 0 ⟨fun _ hh => ?_, fun _ => rfl⟩, fun c => h 1 ⟨fun c => absurd c (by decide), fun hh => ?_⟩⟩
    · rcases hh with hh | hh
      · exact hn hh
      · exact hr.mp c hh
    · exact absurd (hr.mpr (fun g => hh (Or.inr g))) c
  refine (t_41_0 ?_).weak
  by_cases h0 : 0 ≤ z
  · rw [i_lt, hz, t0, i_lt, i_d10 hz h0, t4, i_lt, i_m10 hz h0, t4]
    refine ⟨fun c => by omega, fun _ => ⟨fun c => sk (by omega), fun c => ⟨fun c2 => sk (by omega), fun c2 => ⟨fun _ => h 1 ⟨fun c => absurd c (by decide), fun hh => absurd (Or.inl ⟨h0, by omega, by omega⟩) hh⟩, fun c => absurd c (by decide)⟩⟩⟩⟩
  · rw [i_lt, hz, t0]
    exact ⟨fun _ => sk (by omega), fun c => by omega⟩
theorem like_spec {z : Int} (hz : x1.toInt = z) (h0 : 0 ≤ z) (h : ∀ r : Int32, (r = 0 ↔ ¬ actP z) → Q (some (.int r)) κ) : PC xl n 164 0 [(0, .int x1)] [] κ Q := by
  have t90 : (90 : Int64).toInt = 90 := rfl
  have t92 : (92 : Int64).toInt = 92 := rfl
  have t0 : (0 : Int64).toInt = 0 := rfl
  have t3 : (3 : Int64).toInt = 3 := rfl
  have t4 : (4 : Int32).toInt = 4 := rfl
  refine (t_164_0 (in_spec ?_)).weak
  rw [Int32.toInt_toInt64, hz, t90, t92]
  intro r hr
  have hr := r01 hr
  refine ⟨fun c => h 1 ⟨fun c => absurd c (by decide), fun hh => ?_⟩, fun c => in_spec ?_⟩
  · exact absurd (hr.mpr (fun g => hh (Or.inr g))) c
  · have n1 := hr.mp c
    rw [Int32.toInt_toInt64, i_d10 hz h0, t0, t3]
    intro r2 hr2
    have hr2 := r01 hr2
    rw [i_lt, i_m10 hz h0, t4]
    refine ⟨fun c => h 0 ⟨fun _ hh => ?_, fun _ => rfl⟩, fun c => ⟨fun c2 => h 0 ⟨fun _ hh => ?_, fun _ => rfl⟩, fun c2 => h 1 ⟨fun c => absurd c (by decide), fun hh => ?_⟩⟩⟩
    · rcases hh with hh | hh
      · exact hr2.mp c ⟨by omega, hh.2.1⟩
      · exact n1 hh
    · rcases hh with hh | hh
      · omega
      · exact n1 hh
    · refine absurd (hr2.mpr (fun g => hh (Or.inl ⟨h0, g.2, by omega⟩))) c
/-- the highest visitor and door that an act of the plan names -/
theorem high_spec {z : Int} (hz : (κ 129 17).toInt = z) (h0 : 0 ≤ z) (h : ∀ κ' : IS, (∀ a j, ¬ (a = 129 ∧ (j = 9 ∨ j = 10)) → κ' a j = κ a j) → (z < 90 → (κ' 129 9).toInt = max (κ 129 9).toInt (z / 10) ∧ (κ' 129 10).toInt = max (κ 129 10).toInt (z % 10)) → (¬ z < 90 → (κ' 129 9).toInt = (κ 129 9).toInt ∧ (κ' 129 10).toInt = (κ 129 10).toInt) → PC xl n 163 175 [(0, .ref 129)] [] κ' Q) : PC xl n 163 93 [(0, .ref 129)] [] κ Q := by
  have t90 : (90 : Int32).toInt = 90 := rfl
  have q1 := i_d10 hz h0
  have q2 := i_m10 hz h0
  have l168 : ∀ κ1 : IS, (∀ a j, ¬ (a = 129 ∧ j = 9) → κ1 a j = κ a j) → (z < 90 → (κ1 129 9).toInt = max (κ 129 9).toInt (z / 10)) → (¬ z < 90 → (κ1 129 9).toInt = (κ 129 9).toInt) → (z < 90 → z % 10 ≤ (κ 129 10).toInt) → PC xl n 163 168 [(0, .ref 129)] [.ref 129] κ1 Q := by
    intro κ1 o1 a1 a2 a3
    have e10 : κ1 129 10 = κ 129 10 := o1 _ _ (by omega)
    refine (t_163_168 (h _ (fun a j hn => ?_) (fun c => ⟨?_, ?_⟩) (fun c => ⟨?_, ?_⟩))).weak
    · rw [up_ne (by omega), o1 a j (by omega)]
    · rw [up_ne (by omega)]; exact a1 c
    · rw [up_same, e10]; have := a3 c; omega
    · rw [up_ne (by omega)]; exact a2 c
    · rw [up_same, e10]
  have l127 : (z < 90 → ¬ (κ 129 9).toInt < z / 10) → PC xl n 163 127 [(0, .ref 129)] [.ref 129] κ Q := by
    intro a1
    have u17 : (up κ 129 9 (κ 129 9)) 129 17 = κ 129 17 := up_ne (by omega)
    have u10 : (up κ 129 9 (κ 129 9)) 129 10 = κ 129 10 := up_ne (by omega)
    refine (t_163_127 ?_).weak
    rw [u17, u10, i_lt, hz, t90, i_lt, q2]
    refine ⟨fun c => l168 _ (fun a j hn => up_ne hn) (fun c2 => absurd c2 c) (fun _ => by rw [up_same]) (fun c2 => absurd c2 c), fun c => ⟨fun c2 => l168 _ (fun a j hn => up_ne hn) (fun _ => ?_) (fun c3 => absurd c c3) (fun _ => by omega), fun c2 => h _ (fun a j hn => ?_) (fun _ => ⟨?_, ?_⟩) (fun c3 => absurd c c3)⟩⟩
    · rw [up_same]; have := a1 c; omega
    · rw [up_ne (by omega), up_ne (by omega)]
    · rw [up_ne (by omega), up_same]; have := a1 c; omega
    · rw [up_same, q2]; omega
  refine (t_163_93 ?_).weak
  have u17 : (up κ 129 9 (κ 129 17 / 10)) 129 17 = κ 129 17 := up_ne (by omega)
  have u10 : (up κ 129 9 (κ 129 17 / 10)) 129 10 = κ 129 10 := up_ne (by omega)
  rw [u17, u10, i_lt, hz, t90, i_lt, q1, i_lt, q2]
  refine ⟨fun c => l127 (fun c2 => absurd c2 c), fun c => ⟨fun c2 => l127 (fun _ => c2), fun c2 => ⟨fun c3 => absurd c c3, fun _ => ⟨fun c4 => l168 _ (fun a j hn => up_ne hn) (fun _ => ?_) (fun c3 => absurd c c3) (fun _ => by omega), fun c4 => h _ (fun a j hn => ?_) (fun _ => ⟨?_, ?_⟩) (fun c3 => absurd c c3)⟩⟩⟩⟩
  · rw [up_same, q1]; omega
  · rw [up_ne (by omega), up_ne (by omega)]
  · rw [up_ne (by omega), up_same, q1]; omega
  · rw [up_same, q2]; omega
theorem DR.act {z : Int} (h : DR nv nd cnt ι κ) (hc : cnt < 8) (hz : actP z) (h1 : ∀ a j, dX a j → ¬ (a = 18 ∧ j = cnt) → ¬ (a = 2 ∧ j = 2) → ι' a j = ι a j) (h2 : ∀ a j, dM a j → ¬ (a = 133 ∧ j = 53 + cnt) → ¬ (a = 133 ∧ j = 52) → ¬ (a = 129 ∧ (j = 9 ∨ j = 10)) → κ' a j = κ a j) (hv : ι' 18 cnt = κ' 133 (53 + cnt)) (hv2 : (ι' 18 cnt).toInt = z) (hi : (ι' 2 2).toInt = cnt + 1) (hk : (κ' 133 52).toInt = cnt + 1) (hm1 : z < 90 → (κ' 129 9).toInt = max (κ 129 9).toInt (z / 10) ∧ (κ' 129 10).toInt = max (κ 129 10).toInt (z % 10)) (hm2 : ¬ z < 90 → (κ' 129 9).toInt = (κ 129 9).toInt ∧ (κ' 129 10).toInt = (κ 129 10).toInt) : DR nv nd (cnt + 1) ι' κ' := by
  have x1 : ∀ a j, a ≤ 21 → ¬ a = 1 → ¬ (a = 18 ∧ j = cnt) → ¬ (a = 2 ∧ j = 2) → ι' a j = ι a j := fun a j h3 h4 h5 h6 => h1 a j ⟨h3, fun e => h4 e.1⟩ h5 h6
  have m3 : ∀ j, ¬ j = 53 + cnt → ¬ j = 52 → κ' 133 j = κ 133 j := fun j g1 g2 => h2 133 j (Or.inl rfl) (fun e => g1 e.2) (fun e => g2 e.2) (by omega)
  have m4 : ∀ j, κ' 134 j = κ 134 j := fun j => h2 134 j (Or.inr (Or.inl rfl)) (by omega) (by omega) (by omega)
  have m9 : ∀ j, 6 ≤ j → j ≤ 8 → κ' 129 j = κ 129 j := fun j g1 g2 => h2 129 j (Or.inr (Or.inr ⟨rfl, g1, by omega⟩)) (by omega) (by omega) (by omega)
  obtain ⟨⟨a1, a2, a3⟩, ⟨b1, b2, b3⟩, c, dv, e, f, g, i1, i2⟩ := h
  refine ⟨⟨a1, by rw [x1 3 2 (by omega) (by omega) (by omega) (by omega)]; exact a2, by rw [m9 6 (by omega) (by omega)]; exact a3⟩, ⟨b1, by rw [x1 3 3 (by omega) (by omega) (by omega) (by omega)]; exact b2, by rw [m9 7 (by omega) (by omega)]; exact b3⟩, ?_, ?_, ?_, ?_, ?_, by rw [x1 2 6 (by omega) (by omega) (by omega) (by omega)]; exact i1, by rw [m3 _ (by omega) (by omega)]; exact i2⟩
  · rw [h1 1 4 ⟨by omega, by omega⟩ (by omega) (by omega), m9 8 (by omega) (by omega)]; exact c
  · refine ⟨fun v hv => ?_, fun v hv => by rw [m3 _ (by omega) (by omega)]; exact dv.2 v hv⟩
    rw [x1 _ _ (by omega) (by omega) (by omega) (by omega), x1 _ _ (by omega) (by omega) (by omega) (by omega), x1 _ _ (by omega) (by omega) (by omega) (by omega), x1 _ _ (by omega) (by omega) (by omega) (by omega), m3 _ (by omega) (by omega), m3 _ (by omega) (by omega), m3 _ (by omega) (by omega)]
    exact dv.1 v hv
  · intro q hq
    obtain ⟨e1, e2, e3, e4, e5, e6⟩ := e q hq
    rw [x1 _ 1 (by omega) (by omega) (by omega) (by omega), x1 _ 2 (by omega) (by omega) (by omega) (by omega), x1 _ 3 (by omega) (by omega) (by omega) (by omega), m3 _ (by omega) (by omega), m3 _ (by omega) (by omega), m3 _ (by omega) (by omega), m4]
    refine ⟨e1, e2, e3, e4, e5, fun i hi => ?_⟩
    rw [x1 _ _ (by omega) (by omega) (by omega) (by omega), m3 _ (by omega) (by omega)]
    exact e6 i hi
  · refine ⟨by omega, by rw [hi]; rfl, by rw [hk]; rfl, fun i hi2 => ?_⟩
    by_cases ei : i = cnt
    · rw [ei, ← hv, hv2]; exact ⟨rfl, hz⟩
    · rw [x1 _ _ (by omega) (by omega) (by omega) (by omega), m3 _ (by omega) (by omega)]
      exact f.2.2.2 i (by omega)
  · have x18 : ∀ i, i < cnt → ι' 18 i = ι 18 i := fun i hi => x1 18 i (by omega) (by omega) (by omega) (by omega)
    have mx : (κ 129 9).toInt ≤ (κ' 129 9).toInt ∧ (κ 129 10).toInt ≤ (κ' 129 10).toInt := by
      clear g
      by_cases c : z < 90
      · rw [(hm1 c).1, (hm1 c).2]; omega
      · rw [(hm2 c).1, (hm2 c).2]; omega
    have mz1 : z < 90 → z / 10 ≤ (κ' 129 9).toInt ∧ z % 10 ≤ (κ' 129 10).toInt := by
      clear g
      intro c; rw [(hm1 c).1, (hm1 c).2]; omega
    have cs1 : (κ' 129 9).toInt = (κ 129 9).toInt ∨ (z < 90 ∧ z / 10 = (κ' 129 9).toInt) := by
      clear g
      by_cases c : z < 90
      · rw [(hm1 c).1]; omega
      · rw [(hm2 c).1]; omega
    have cs2 : (κ' 129 10).toInt = (κ 129 10).toInt ∨ (z < 90 ∧ z % 10 = (κ' 129 10).toInt) := by
      clear g
      by_cases c : z < 90
      · rw [(hm1 c).2]; omega
      · rw [(hm2 c).2]; omega
    obtain ⟨g1, g2, g3, g4⟩ := g
    refine ⟨fun i hi hl => ?_, fun q hq hn => ?_, ?_, ?_⟩
    · by_cases ei : i = cnt
      · rw [ei, hv2] at hl ⊢
        exact mz1 hl
      · have hi' : i < cnt := by clear g3 g4; omega
        rw [x18 i hi'] at hl ⊢
        have := g1 i hi' hl
        exact ⟨Int.le_trans this.1 mx.1, Int.le_trans this.2 mx.2⟩
    · rw [m4] at hn
      exact Int.le_trans (g2 q hq hn) mx.2
    · rcases cs1 with q | ⟨q, q2⟩
      · rw [q]
        rcases g3 with g3 | ⟨i, k1, k2, k3⟩
        · exact Or.inl g3
        · exact Or.inr ⟨i, Nat.lt_succ_of_lt k1, by rw [x18 i k1]; exact k2, by rw [x18 i k1]; exact k3⟩
      · exact Or.inr ⟨cnt, Nat.lt_succ_self _, by rw [hv2]; exact q, by rw [hv2]; exact q2⟩
    · rcases cs2 with q | ⟨q, q2⟩
      · rw [q]
        rcases g4 with g4 | ⟨i, k1, k2, k3⟩ | ⟨d, k1, k2, k3⟩
        · exact Or.inl g4
        · exact Or.inr (Or.inl ⟨i, Nat.lt_succ_of_lt k1, by rw [x18 i k1]; exact k2, by rw [x18 i k1]; exact k3⟩)
        · exact Or.inr (Or.inr ⟨d, k1, by rw [m4]; exact k2, k3⟩)
      · exact Or.inr (Or.inl ⟨cnt, Nat.lt_succ_self _, by rw [hv2]; exact q, by rw [hv2]; exact q2⟩)
end PlanL
