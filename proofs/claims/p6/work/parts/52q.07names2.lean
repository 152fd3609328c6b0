/-! NAMES: the class's words, the model's line -/
section Names2
variable {xl : List Int32} {b : Nat → Int} {L n : Nat} {ι κ : IS} {Q : Option Value → IS → Prop} {s e : Nat}
theorem conv_door : ∀ i, (((([100, 111, 111, 114] : List Int32).getD i 0) &&& 255).toUInt32 % 65536).toInt32 = ([100, 111, 111, 114] : List Int32).getD i 0
  | 0 => rfl
  | 1 => rfl
  | 2 => rfl
  | 3 => rfl
  | i + 4 => by
    have e : ([100, 111, 111, 114] : List Int32).getD (i + 4) 0 = 0 := rfl
    rw [e]; rfl
theorem nm_door : nmP b s e [100, 111, 111, 114] ↔ isDoorN b s e := by
  constructor
  · rintro ⟨h1, h2⟩
    exact ⟨h1, h2 0 (by simp), h2 1 (by simp), h2 2 (by simp), h2 3 (by simp)⟩
  · rintro ⟨h1, g0, g1, g2, g3⟩
    refine ⟨h1, fun i hi => ?_⟩
    match i, hi with
    | 0, _ => exact g0
    | 1, _ => exact g1
    | 2, _ => exact g2
    | 3, _ => exact g3
    | i + 4, hi => exact absurd hi (by simp)
theorem name_door (hk : ι 22 2 = 1) (hs : (ι 22 3).toInt = s) (he : (ι 22 4).toInt = e) (hse : s ≤ e) (he2 : e ≤ 160) (hb : ∀ q, (ι 23 q).toInt = b q) (h : ∀ r : Int32, (r = 0 ↔ ¬ isDoorN b s e) → Q (some (.int r)) ι) : PC xl n 25 0 [(0, .ref 22), (1, .ref (KB + 1))] [] ι Q :=
  nameIs_spec (o := 1) (bs := [100, 111, 111, 114]) (b := b) rfl rfl conv_door (by simp) hk hs he hse he2 hb (fun r hr => h r (by rw [← nm_door]; exact hr))
theorem conv_not : ∀ i, (((([110, 111, 116] : List Int32).getD i 0) &&& 255).toUInt32 % 65536).toInt32 = ([110, 111, 116] : List Int32).getD i 0
  | 0 => rfl
  | 1 => rfl
  | 2 => rfl
  | i + 3 => by
    have e : ([110, 111, 116] : List Int32).getD (i + 3) 0 = 0 := rfl
    rw [e]; rfl
theorem nm_not : nmP b s e [110, 111, 116] ↔ isNot b s e := by
  constructor
  · rintro ⟨h1, h2⟩
    exact ⟨h1, h2 0 (by simp), h2 1 (by simp), h2 2 (by simp)⟩
  · rintro ⟨h1, g0, g1, g2⟩
    refine ⟨h1, fun i hi => ?_⟩
    match i, hi with
    | 0, _ => exact g0
    | 1, _ => exact g1
    | 2, _ => exact g2
    | i + 3, hi => exact absurd hi (by simp)
theorem name_not (hk : ι 22 2 = 1) (hs : (ι 22 3).toInt = s) (he : (ι 22 4).toInt = e) (hse : s ≤ e) (he2 : e ≤ 160) (hb : ∀ q, (ι 23 q).toInt = b q) (h : ∀ r : Int32, (r = 0 ↔ ¬ isNot b s e) → Q (some (.int r)) ι) : PC xl n 25 0 [(0, .ref 22), (1, .ref (KB + 3))] [] ι Q :=
  nameIs_spec (o := 3) (bs := [110, 111, 116]) (b := b) rfl rfl conv_not (by simp) hk hs he hse he2 hb (fun r hr => h r (by rw [← nm_not]; exact hr))
theorem conv_plan : ∀ i, (((([112, 108, 97, 110] : List Int32).getD i 0) &&& 255).toUInt32 % 65536).toInt32 = ([112, 108, 97, 110] : List Int32).getD i 0
  | 0 => rfl
  | 1 => rfl
  | 2 => rfl
  | 3 => rfl
  | i + 4 => by
    have e : ([112, 108, 97, 110] : List Int32).getD (i + 4) 0 = 0 := rfl
    rw [e]; rfl
theorem nm_plan : nmP b s e [112, 108, 97, 110] ↔ isPlan b s e := by
  constructor
  · rintro ⟨h1, h2⟩
    exact ⟨h1, h2 0 (by simp), h2 1 (by simp), h2 2 (by simp), h2 3 (by simp)⟩
  · rintro ⟨h1, g0, g1, g2, g3⟩
    refine ⟨h1, fun i hi => ?_⟩
    match i, hi with
    | 0, _ => exact g0
    | 1, _ => exact g1
    | 2, _ => exact g2
    | 3, _ => exact g3
    | i + 4, hi => exact absurd hi (by simp)
theorem name_plan (hk : ι 22 2 = 1) (hs : (ι 22 3).toInt = s) (he : (ι 22 4).toInt = e) (hse : s ≤ e) (he2 : e ≤ 160) (hb : ∀ q, (ι 23 q).toInt = b q) (h : ∀ r : Int32, (r = 0 ↔ ¬ isPlan b s e) → Q (some (.int r)) ι) : PC xl n 25 0 [(0, .ref 22), (1, .ref (KB + 5))] [] ι Q :=
  nameIs_spec (o := 5) (bs := [112, 108, 97, 110]) (b := b) rfl rfl conv_plan (by simp) hk hs he hse he2 hb (fun r hr => h r (by rw [← nm_plan]; exact hr))
theorem conv_plain : ∀ i, (((([112, 108, 97, 105, 110] : List Int32).getD i 0) &&& 255).toUInt32 % 65536).toInt32 = ([112, 108, 97, 105, 110] : List Int32).getD i 0
  | 0 => rfl
  | 1 => rfl
  | 2 => rfl
  | 3 => rfl
  | 4 => rfl
  | i + 5 => by
    have e : ([112, 108, 97, 105, 110] : List Int32).getD (i + 5) 0 = 0 := rfl
    rw [e]; rfl
theorem nm_plain : nmP b s e [112, 108, 97, 105, 110] ↔ isPlain b s e := by
  constructor
  · rintro ⟨h1, h2⟩
    exact ⟨h1, h2 0 (by simp), h2 1 (by simp), h2 2 (by simp), h2 3 (by simp), h2 4 (by simp)⟩
  · rintro ⟨h1, g0, g1, g2, g3, g4⟩
    refine ⟨h1, fun i hi => ?_⟩
    match i, hi with
    | 0, _ => exact g0
    | 1, _ => exact g1
    | 2, _ => exact g2
    | 3, _ => exact g3
    | 4, _ => exact g4
    | i + 5, hi => exact absurd hi (by simp)
theorem name_plain (hk : ι 22 2 = 1) (hs : (ι 22 3).toInt = s) (he : (ι 22 4).toInt = e) (hse : s ≤ e) (he2 : e ≤ 160) (hb : ∀ q, (ι 23 q).toInt = b q) (h : ∀ r : Int32, (r = 0 ↔ ¬ isPlain b s e) → Q (some (.int r)) ι) : PC xl n 25 0 [(0, .ref 22), (1, .ref (KB + 7))] [] ι Q :=
  nameIs_spec (o := 7) (bs := [112, 108, 97, 105, 110]) (b := b) rfl rfl conv_plain (by simp) hk hs he hse he2 hb (fun r hr => h r (by rw [← nm_plain]; exact hr))
theorem conv_priest : ∀ i, (((([112, 114, 105, 101, 115, 116] : List Int32).getD i 0) &&& 255).toUInt32 % 65536).toInt32 = ([112, 114, 105, 101, 115, 116] : List Int32).getD i 0
  | 0 => rfl
  | 1 => rfl
  | 2 => rfl
  | 3 => rfl
  | 4 => rfl
  | 5 => rfl
  | i + 6 => by
    have e : ([112, 114, 105, 101, 115, 116] : List Int32).getD (i + 6) 0 = 0 := rfl
    rw [e]; rfl
theorem nm_priest : nmP b s e [112, 114, 105, 101, 115, 116] ↔ isPriest b s e := by
  constructor
  · rintro ⟨h1, h2⟩
    exact ⟨h1, h2 0 (by simp), h2 1 (by simp), h2 2 (by simp), h2 3 (by simp), h2 4 (by simp), h2 5 (by simp)⟩
  · rintro ⟨h1, g0, g1, g2, g3, g4, g5⟩
    refine ⟨h1, fun i hi => ?_⟩
    match i, hi with
    | 0, _ => exact g0
    | 1, _ => exact g1
    | 2, _ => exact g2
    | 3, _ => exact g3
    | 4, _ => exact g4
    | 5, _ => exact g5
    | i + 6, hi => exact absurd hi (by simp)
theorem name_priest (hk : ι 22 2 = 1) (hs : (ι 22 3).toInt = s) (he : (ι 22 4).toInt = e) (hse : s ≤ e) (he2 : e ≤ 160) (hb : ∀ q, (ι 23 q).toInt = b q) (h : ∀ r : Int32, (r = 0 ↔ ¬ isPriest b s e) → Q (some (.int r)) ι) : PC xl n 25 0 [(0, .ref 22), (1, .ref (KB + 9))] [] ι Q :=
  nameIs_spec (o := 9) (bs := [112, 114, 105, 101, 115, 116]) (b := b) rfl rfl conv_priest (by simp) hk hs he hse he2 hb (fun r hr => h r (by rw [← nm_priest]; exact hr))
theorem conv_miser : ∀ i, (((([109, 105, 115, 101, 114] : List Int32).getD i 0) &&& 255).toUInt32 % 65536).toInt32 = ([109, 105, 115, 101, 114] : List Int32).getD i 0
  | 0 => rfl
  | 1 => rfl
  | 2 => rfl
  | 3 => rfl
  | 4 => rfl
  | i + 5 => by
    have e : ([109, 105, 115, 101, 114] : List Int32).getD (i + 5) 0 = 0 := rfl
    rw [e]; rfl
theorem nm_miser : nmP b s e [109, 105, 115, 101, 114] ↔ isMiser b s e := by
  constructor
  · rintro ⟨h1, h2⟩
    exact ⟨h1, h2 0 (by simp), h2 1 (by simp), h2 2 (by simp), h2 3 (by simp), h2 4 (by simp)⟩
  · rintro ⟨h1, g0, g1, g2, g3, g4⟩
    refine ⟨h1, fun i hi => ?_⟩
    match i, hi with
    | 0, _ => exact g0
    | 1, _ => exact g1
    | 2, _ => exact g2
    | 3, _ => exact g3
    | 4, _ => exact g4
    | i + 5, hi => exact absurd hi (by simp)
theorem name_miser (hk : ι 22 2 = 1) (hs : (ι 22 3).toInt = s) (he : (ι 22 4).toInt = e) (hse : s ≤ e) (he2 : e ≤ 160) (hb : ∀ q, (ι 23 q).toInt = b q) (h : ∀ r : Int32, (r = 0 ↔ ¬ isMiser b s e) → Q (some (.int r)) ι) : PC xl n 25 0 [(0, .ref 22), (1, .ref (KB + 11))] [] ι Q :=
  nameIs_spec (o := 11) (bs := [109, 105, 115, 101, 114]) (b := b) rfl rfl conv_miser (by simp) hk hs he hse he2 hb (fun r hr => h r (by rw [← nm_miser]; exact hr))
theorem conv_spy : ∀ i, (((([115, 112, 121] : List Int32).getD i 0) &&& 255).toUInt32 % 65536).toInt32 = ([115, 112, 121] : List Int32).getD i 0
  | 0 => rfl
  | 1 => rfl
  | 2 => rfl
  | i + 3 => by
    have e : ([115, 112, 121] : List Int32).getD (i + 3) 0 = 0 := rfl
    rw [e]; rfl
theorem nm_spy : nmP b s e [115, 112, 121] ↔ isSpy b s e := by
  constructor
  · rintro ⟨h1, h2⟩
    exact ⟨h1, h2 0 (by simp), h2 1 (by simp), h2 2 (by simp)⟩
  · rintro ⟨h1, g0, g1, g2⟩
    refine ⟨h1, fun i hi => ?_⟩
    match i, hi with
    | 0, _ => exact g0
    | 1, _ => exact g1
    | 2, _ => exact g2
    | i + 3, hi => exact absurd hi (by simp)
theorem name_spy (hk : ι 22 2 = 1) (hs : (ι 22 3).toInt = s) (he : (ι 22 4).toInt = e) (hse : s ≤ e) (he2 : e ≤ 160) (hb : ∀ q, (ι 23 q).toInt = b q) (h : ∀ r : Int32, (r = 0 ↔ ¬ isSpy b s e) → Q (some (.int r)) ι) : PC xl n 25 0 [(0, .ref 22), (1, .ref (KB + 13))] [] ι Q :=
  nameIs_spec (o := 13) (bs := [115, 112, 121]) (b := b) rfl rfl conv_spy (by simp) hk hs he hse he2 hb (fun r hr => h r (by rw [← nm_spy]; exact hr))
theorem is_c {k : Nat} {x1 x2 x3 x4 : Int32} {c2 c3 c4 : Int} (hx : x1.toInt = k) (hk : 3 ≤ k) (g2 : x2.toInt = c2) (g3 : x3.toInt = c3) (g4 : x4.toInt = c4) (hB : BM b L κ) (hs : (κ 129 15).toInt = s) (he : (κ 129 14).toInt = e) (hse : s ≤ e) (heL : e ≤ L) (h : ∀ r : Int32, (r = 0 ↔ ¬ (e = s + k ∧ b s = c2 ∧ b (s + 1) = c3 ∧ b (s + 2) = c4)) → Q (some (.int r)) κ) : PC xl n 156 0 [(0, .ref 129), (1, .int x1), (2, .int x2), (3, .int x3), (4, .int x4)] [] κ Q := by
  refine is_spec hx hk hs he hse heL hB.1 hB.2.1 hB.2.2.1 ?_
  rw [g2, g3, g4]
  exact h
theorem line_spec (hB : BM b L κ) (hs : (κ 129 15).toInt = s) (he : (κ 129 14).toInt = e) (hse : s ≤ e) (heL : e ≤ L) (h : ∀ r : Int32, r.toInt = lineF b s e → Q (some (.int r)) κ) : PC xl n 155 0 [(0, .ref 129)] [] κ Q := by
  unfold lineF at h
  have e1 : ∀ {x1 : Int32} {c : Int}, x1.toInt = c → ∀ {R : Option Value → IS → Prop}, s + 3 < L → (∀ r : Int32, (r = 0 ↔ ¬ b (s + 3) = c) → R (some (.int r)) κ) → PC xl n 157 0 [(0, .ref 129), (1, .int x1), (2, .int 0), (3, .int 0)] [] κ R := by
    intro x1 c hc R h3 hh
    refine ends_spec hs h3 (fun q => absurd rfl q) (fun q => absurd rfl q) hB.1 hB.2.1 hB.2.2.1 (fun r hr => hh r ?_)
    rw [hr, hc]; simp
  have e2 : ∀ {x1 x2 : Int32} {c d : Int}, x1.toInt = c → x2.toInt = d → ¬ x2 = 0 → ∀ {R : Option Value → IS → Prop}, s + 4 < L → (∀ r : Int32, (r = 0 ↔ ¬ (b (s + 3) = c ∧ b (s + 4) = d)) → R (some (.int r)) κ) → PC xl n 157 0 [(0, .ref 129), (1, .int x1), (2, .int x2), (3, .int 0)] [] κ R := by
    intro x1 x2 c d hc hd h0 R h3 hh
    refine ends_spec hs (by omega) (fun _ => h3) (fun q => absurd rfl q) hB.1 hB.2.1 hB.2.2.1 (fun r hr => hh r ?_)
    rw [hr, hc, hd]; simp [h0]
  have e3 : ∀ {x1 x2 x3 : Int32} {c d f : Int}, x1.toInt = c → x2.toInt = d → x3.toInt = f → ¬ x2 = 0 → ¬ x3 = 0 → ∀ {R : Option Value → IS → Prop}, s + 5 < L → (∀ r : Int32, (r = 0 ↔ ¬ (b (s + 3) = c ∧ b (s + 4) = d ∧ b (s + 5) = f)) → R (some (.int r)) κ) → PC xl n 157 0 [(0, .ref 129), (1, .int x1), (2, .int x2), (3, .int x3)] [] κ R := by
    intro x1 x2 x3 c d f hc hd hf h0 h00 R h3 hh
    refine ends_spec hs (by omega) (fun _ => by omega) (fun _ => h3) hB.1 hB.2.1 hB.2.2.1 (fun r hr => hh r ?_)
    rw [hr, hc, hd, hf]; simp [h0, h00]
  have l129 : ¬ isPlain b s e → ¬ isPriest b s e → ¬ isMiser b s e → ¬ isSpy b s e → ¬ isDoorN b s e → PC xl n 155 129 [(0, .ref 129)] [] κ Q := by
    intro n1 n2 n3 n4 n5
    rw [if_neg n1, if_neg n2, if_neg n3, if_neg n4, if_neg n5] at h
    refine (t_155_129 (is_c (k := 3) (c2 := 110) (c3 := 111) (c4 := 116) rfl (by omega) rfl rfl rfl hB hs he hse heL ?_)).weak
    intro r hr r2 e2'
    cases e2'
    refine ⟨fun c => ?_, fun c => ?_⟩
    · have g := hr.mp c
      rw [if_neg g] at h
      refine is_c (k := 4) (c2 := 112) (c3 := 108) (c4 := 97) rfl (by omega) rfl rfl rfl hB hs he hse heL ?_
      intro r hr r2 e2'
      cases e2'
      refine ⟨fun c => ?_, fun c => ?_⟩
      · have g2 := hr.mp c
        rw [if_neg (fun hh => g2 ⟨hh.1, hh.2.1, hh.2.2.1, hh.2.2.2.1⟩)] at h
        exact h _ rfl
      · have g2 : e = s + 4 ∧ b s = 112 ∧ b (s + 1) = 108 ∧ b (s + 2) = 97 := by
          false_or_by_contra; rename_i hh; exact c (hr.mpr hh)
        refine e1 (c := 110) rfl (by omega) ?_
        intro r hr r2 e2'
        cases e2'
        refine ⟨fun c => ?_, fun c => ?_⟩
        · rw [if_neg (fun hh => hr.mp c hh.2.2.2.2)] at h
          exact h _ rfl
        · have g3 : b (s + 3) = 110 := by
            false_or_by_contra; rename_i hh; exact c (hr.mpr hh)
          rw [if_pos ⟨g2.1, g2.2.1, g2.2.2.1, g2.2.2.2, g3⟩] at h
          exact h _ rfl
    · have g : e = s + 3 ∧ b s = 110 ∧ b (s + 1) = 111 ∧ b (s + 2) = 116 := by
        false_or_by_contra; rename_i hh; exact c (hr.mpr hh)
      rw [if_pos g] at h
      exact h _ rfl
  have l86 : ¬ isPlain b s e → ¬ isPriest b s e → ¬ isMiser b s e → PC xl n 155 86 [(0, .ref 129)] [] κ Q := by
    intro n1 n2 n3
    refine (t_155_86 (is_c (k := 3) (c2 := 115) (c3 := 112) (c4 := 121) rfl (by omega) rfl rfl rfl hB hs he hse heL ?_)).weak
    intro r hr r2 e2'
    cases e2'
    refine ⟨fun c => ?_, fun c => ?_⟩
    · have g := hr.mp c
      refine is_c (k := 4) (c2 := 100) (c3 := 111) (c4 := 111) rfl (by omega) rfl rfl rfl hB hs he hse heL ?_
      intro r hr r2 e2'
      cases e2'
      refine ⟨fun c => ?_, fun c => ?_⟩
      · have g2 := hr.mp c
        exact l129 n1 n2 n3 g (fun hh => g2 ⟨hh.1, hh.2.1, hh.2.2.1, hh.2.2.2.1⟩)
      · have g2 : e = s + 4 ∧ b s = 100 ∧ b (s + 1) = 111 ∧ b (s + 2) = 111 := by
          false_or_by_contra; rename_i hh; exact c (hr.mpr hh)
        refine e1 (c := 114) rfl (by omega) ?_
        intro r hr r2 e2'
        cases e2'
        refine ⟨fun c => ?_, fun c => ?_⟩
        · exact l129 n1 n2 n3 g (fun hh => hr.mp c hh.2.2.2.2)
        · have g3 : b (s + 3) = 114 := by
            false_or_by_contra; rename_i hh; exact c (hr.mpr hh)
          rw [if_neg n1, if_neg n2, if_neg n3, if_neg g, if_pos ⟨g2.1, g2.2.1, g2.2.2.1, g2.2.2.2, g3⟩] at h
          exact h _ rfl
    · have g : e = s + 3 ∧ b s = 115 ∧ b (s + 1) = 112 ∧ b (s + 2) = 121 := by
        false_or_by_contra; rename_i hh; exact c (hr.mpr hh)
      rw [if_neg n1, if_neg n2, if_neg n3, if_pos g] at h
      exact h _ rfl
  have l58 : ¬ isPlain b s e → ¬ isPriest b s e → PC xl n 155 58 [(0, .ref 129)] [] κ Q := by
    intro n1 n2
    refine (t_155_58 (is_c (k := 5) (c2 := 109) (c3 := 105) (c4 := 115) rfl (by omega) rfl rfl rfl hB hs he hse heL ?_)).weak
    intro r hr r2 e2'
    cases e2'
    refine ⟨fun c => ?_, fun c => ?_⟩
    · have g := hr.mp c
      exact l86 n1 n2 (fun hh => g ⟨hh.1, hh.2.1, hh.2.2.1, hh.2.2.2.1⟩)
    · have g2 : e = s + 5 ∧ b s = 109 ∧ b (s + 1) = 105 ∧ b (s + 2) = 115 := by
        false_or_by_contra; rename_i hh; exact c (hr.mpr hh)
      refine e2 (c := 101) (d := 114) rfl rfl (by decide) (by omega) ?_
      intro r hr r2 e2'
      cases e2'
      refine ⟨fun c => l86 n1 n2 (fun hh => hr.mp c ⟨hh.2.2.2.2.1, hh.2.2.2.2.2⟩), fun c => ?_⟩
      have g3 : b (s + 3) = 101 ∧ b (s + 4) = 114 := by
        false_or_by_contra; rename_i hh; exact c (hr.mpr hh)
      rw [if_neg n1, if_neg n2, if_pos ⟨g2.1, g2.2.1, g2.2.2.1, g2.2.2.2, g3.1, g3.2⟩] at h
      exact h _ rfl
  have l28 : ¬ isPlain b s e → PC xl n 155 28 [(0, .ref 129)] [] κ Q := by
    intro n1
    refine (t_155_28 (is_c (k := 6) (c2 := 112) (c3 := 114) (c4 := 105) rfl (by omega) rfl rfl rfl hB hs he hse heL ?_)).weak
    intro r hr r2 e2'
    cases e2'
    refine ⟨fun c => ?_, fun c => ?_⟩
    · have g := hr.mp c
      exact l58 n1 (fun hh => g ⟨hh.1, hh.2.1, hh.2.2.1, hh.2.2.2.1⟩)
    · have g2 : e = s + 6 ∧ b s = 112 ∧ b (s + 1) = 114 ∧ b (s + 2) = 105 := by
        false_or_by_contra; rename_i hh; exact c (hr.mpr hh)
      refine e3 (c := 101) (d := 115) (f := 116) rfl rfl rfl (by decide) (by decide) (by omega) ?_
      intro r hr r2 e2'
      cases e2'
      refine ⟨fun c => l58 n1 (fun hh => hr.mp c ⟨hh.2.2.2.2.1, hh.2.2.2.2.2.1, hh.2.2.2.2.2.2⟩), fun c => ?_⟩
      have g3 : b (s + 3) = 101 ∧ b (s + 4) = 115 ∧ b (s + 5) = 116 := by
        false_or_by_contra; rename_i hh; exact c (hr.mpr hh)
      rw [if_neg n1, if_pos ⟨g2.1, g2.2.1, g2.2.2.1, g2.2.2.2, g3.1, g3.2.1, g3.2.2⟩] at h
      exact h _ rfl
  refine (t_155_0 (is_c (k := 5) (c2 := 112) (c3 := 108) (c4 := 97) rfl (by omega) rfl rfl rfl hB hs he hse heL ?_)).weak
  intro r hr r2 e2'
  cases e2'
  refine ⟨fun c => ?_, fun c => ?_⟩
  · have g := hr.mp c
    exact l28 (fun hh => g ⟨hh.1, hh.2.1, hh.2.2.1, hh.2.2.2.1⟩)
  · have g2 : e = s + 5 ∧ b s = 112 ∧ b (s + 1) = 108 ∧ b (s + 2) = 97 := by
      false_or_by_contra; rename_i hh; exact c (hr.mpr hh)
    refine e2 (c := 105) (d := 110) rfl rfl (by decide) (by omega) ?_
    intro r hr r2 e2'
    cases e2'
    refine ⟨fun c => l28 (fun hh => hr.mp c ⟨hh.2.2.2.2.1, hh.2.2.2.2.2⟩), fun c => ?_⟩
    have g3 : b (s + 3) = 105 ∧ b (s + 4) = 110 := by
      false_or_by_contra; rename_i hh; exact c (hr.mpr hh)
    rw [if_pos ⟨g2.1, g2.2.1, g2.2.2.1, g2.2.2.2, g3.1, g3.2⟩] at h
    exact h _ rfl
end Names2
