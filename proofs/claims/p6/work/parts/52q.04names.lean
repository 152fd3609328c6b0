/-! NAMES: of which line a name is -/
abbrev isPlain (b : Nat → Int) (s e : Nat) : Prop := e = s + 5 ∧ b s = 112 ∧ b (s + 1) = 108 ∧ b (s + 2) = 97 ∧ b (s + 3) = 105 ∧ b (s + 4) = 110
abbrev isPriest (b : Nat → Int) (s e : Nat) : Prop := e = s + 6 ∧ b s = 112 ∧ b (s + 1) = 114 ∧ b (s + 2) = 105 ∧ b (s + 3) = 101 ∧ b (s + 4) = 115 ∧ b (s + 5) = 116
abbrev isMiser (b : Nat → Int) (s e : Nat) : Prop := e = s + 5 ∧ b s = 109 ∧ b (s + 1) = 105 ∧ b (s + 2) = 115 ∧ b (s + 3) = 101 ∧ b (s + 4) = 114
abbrev isSpy (b : Nat → Int) (s e : Nat) : Prop := e = s + 3 ∧ b s = 115 ∧ b (s + 1) = 112 ∧ b (s + 2) = 121
abbrev isDoorN (b : Nat → Int) (s e : Nat) : Prop := e = s + 4 ∧ b s = 100 ∧ b (s + 1) = 111 ∧ b (s + 2) = 111 ∧ b (s + 3) = 114
abbrev isNot (b : Nat → Int) (s e : Nat) : Prop := e = s + 3 ∧ b s = 110 ∧ b (s + 1) = 111 ∧ b (s + 2) = 116
abbrev isPlan (b : Nat → Int) (s e : Nat) : Prop := e = s + 4 ∧ b s = 112 ∧ b (s + 1) = 108 ∧ b (s + 2) = 97 ∧ b (s + 3) = 110
def lineF (b : Nat → Int) (s e : Nat) : Int := if isPlain b s e then 0 else if isPriest b s e then 1 else if isMiser b s e then 2 else if isSpy b s e then 3 else if isDoorN b s e then 4 else if isNot b s e then 5 else if isPlan b s e then 6 else -4
def nmP (b : Nat → Int) (s e : Nat) (bs : List Int32) : Prop := e = s + bs.length ∧ ∀ i, i < bs.length → b (s + i) = (bs.getD i 0).toInt
section Names
variable {xl : List Int32} {b : Nat → Int} {L : Nat}
theorem r01 {P : Prop} [Decidable P] {r : Int32} (h : some (Value.int (if P then 1 else 0)) = some (.int r)) : r = 0 ↔ ¬ P := by
  injection h with h
  injection h with h
  by_cases hp : P
  · rw [if_pos hp] at h; subst h; simp [hp]
  · rw [if_neg hp] at h; subst h; simp [hp]
theorem len_spec {n o : Nat} {bs : List Int32} {ι : IS} {Q : Option Value → IS → Prop} (ho1 : tRo xl o = some (.inl (99, [.ref (KB + (o + 1)), .int 0]))) (ho2 : tRo xl (o + 1) = some (.inr (.inl (2, bs)))) (h : Q (some (.int (Int32.ofNat bs.length))) ι) : PC xl n 26 0 [(0, .ref (KB + o))] [] ι Q := by
  refine (t_26_0 ho1 ho2 ?_).weak
  refine (t_27_0 ho1 ho2 ⟨fun c => absurd c (by decide), fun _ => ?_⟩).weak
  intro r hr
  cases hr
  have e : Int32.ofNat bs.length >>> ((0 : Int32) &&& 31) = Int32.ofNat bs.length := by
    rw [show ((0 : Int32) &&& 31) = 0 from rfl]; simp
  rw [e]
  exact h
theorem chr_spec {n o : Nat} {bs : List Int32} {ι : IS} {Q : Option Value → IS → Prop} {x : Int32} (ho1 : tRo xl o = some (.inl (99, [.ref (KB + (o + 1)), .int 0]))) (ho2 : tRo xl (o + 1) = some (.inr (.inl (2, bs)))) (hbs : ∀ i, (((bs.getD i 0) &&& 255).toUInt32 % 65536).toInt32 = bs.getD i 0) (h : Q (some (.int (bs.getD x.toNatClampNeg 0))) ι) : PC xl n 28 0 [(0, .ref (KB + o)), (1, .int x)] [] ι Q := by
  refine (t_28_0 ho1 ho2 ?_).weak
  refine (t_29_0 ho1 ho2 ⟨fun c => absurd c (by decide), fun _ => ⟨fun c => absurd rfl c, fun _ => ?_⟩⟩).weak
  intro r hr
  cases hr
  refine ⟨fun c => trivial, fun _ => ?_⟩
  refine (t_30_0 ho1 ho2 ?_).weak
  refine (t_31_0 ?_).weak
  refine (t_32_0 ⟨fun _ => trivial, fun _ => ⟨fun _ => ?_, fun _ => trivial⟩⟩).weak
  intro r2 _ c1 c2 r3 hr3
  cases hr3
  rw [hbs]
  exact h
theorem nameL2_spec {o : Nat} {bs : List Int32} {Q : Option Value → IS → Prop} {ι : IS} {s e : Nat} (ho1 : tRo xl o = some (.inl (99, [.ref (KB + (o + 1)), .int 0]))) (ho2 : tRo xl (o + 1) = some (.inr (.inl (2, bs)))) (hbs : ∀ i, (((bs.getD i 0) &&& 255).toUInt32 % 65536).toInt32 = bs.getD i 0) (hl : bs.length ≤ 100) (hs : (ι 22 3).toInt = s) (hs2 : s ≤ 160) (he : e = s + bs.length) (hb : ∀ q, (ι 23 q).toInt = b q) (h : ∀ r : Int32, (r = 0 ↔ ¬ nmP b s e bs) → Q (some (.int r)) ι) : ∀ (n i : Nat) (x : Int32), x.toInt = i → (∀ k, k < i → b (s + k) = (bs.getD k 0).toInt) → PC xl n 25 28 [(0, .ref 22), (1, .ref (KB + o)), (2, .int x)] [] ι Q
  | 0, _, _, _, _ => PC.zero
  | n + 1, i, x, hx, hi => by
    refine t_25_28 ho1 ho2 (len_spec ho1 ho2 ?_)
    intro r hr
    cases hr
    have hln : (Int32.ofNat bs.length).toInt = bs.length := i_of (by omega)
    refine ⟨fun c => ?_, fun c c1 c2 => ?_⟩
    · rw [i_lt, hln, hx] at c
      refine h 1 ⟨fun c => absurd c (by decide), fun hh => absurd ⟨he, fun k hk => hi k (by omega)⟩ hh⟩
    · rw [i_lt, hln, hx] at c
      refine chr_spec ho1 ho2 hbs ?_
      have ha : ((ι 22 3) + x).toInt = (s + i : Nat) := by rw [i_add (by rw [hs, hx]; omega), hs, hx]; rfl
      intro r hr
      cases hr
      rw [rf_22_0, i_ixn ha, i_ixn hx, i_eq, hb]
      refine ⟨fun c => ?_, fun c => ?_⟩
      · have t1 : (1 : Int32).toInt = 1 := rfl
        refine nameL2_spec ho1 ho2 hbs hl hs hs2 he hb h n (i + 1) _ (by rw [i_add (by rw [hx, t1]; omega), hx, t1]; rfl) (fun k hk => ?_)
        by_cases ek : k = i
        · rw [ek]; exact c
        · exact hi k (by omega)
      · exact h 0 ⟨fun _ hh => c (hh.2 i (by omega)), fun _ => rfl⟩
theorem nameIs_spec {n o : Nat} {bs : List Int32} {Q : Option Value → IS → Prop} {ι : IS} {s e : Nat} (ho1 : tRo xl o = some (.inl (99, [.ref (KB + (o + 1)), .int 0]))) (ho2 : tRo xl (o + 1) = some (.inr (.inl (2, bs)))) (hbs : ∀ i, (((bs.getD i 0) &&& 255).toUInt32 % 65536).toInt32 = bs.getD i 0) (hl : bs.length ≤ 100) (hk : ι 22 2 = 1) (hs : (ι 22 3).toInt = s) (he : (ι 22 4).toInt = e) (hse : s ≤ e) (he2 : e ≤ 160) (hb : ∀ q, (ι 23 q).toInt = b q) (h : ∀ r : Int32, (r = 0 ↔ ¬ nmP b s e bs) → Q (some (.int r)) ι) : PC xl n 25 0 [(0, .ref 22), (1, .ref (KB + o))] [] ι Q := by
  refine (t_25_0 ho1 ho2 ⟨fun c => absurd hk c, fun _ => ?_⟩).weak
  refine len_spec ho1 ho2 ?_
  intro r hr
  cases hr
  have hln : (Int32.ofNat bs.length).toInt = bs.length := i_of (by omega)
  have hsub : ((ι 22 4) - (ι 22 3)).toInt = e - s := by rw [i_sub (by rw [hs, he]; omega), hs, he]
  rw [i_eq, hsub, hln]
  refine ⟨fun c => ?_, fun c => ?_⟩
  · exact nameL2_spec ho1 ho2 hbs hl hs (by omega) (by omega) hb h n 0 0 rfl (fun k hk => absurd hk (by omega))
  · exact h 0 ⟨fun _ hh => c (by have := hh.1; omega), fun _ => rfl⟩
theorem is_spec {n k s e : Nat} {Q : Option Value → IS → Prop} {κ : IS} {x1 x2 x3 x4 : Int32} (hx : x1.toInt = k) (hk : 3 ≤ k) (hs : (κ 129 15).toInt = s) (he : (κ 129 14).toInt = e) (hse : s ≤ e) (heL : e ≤ L) (hL2 : L ≤ 160) (hL : (κ 129 13).toInt = L) (hb : ∀ q, (κ 135 q).toInt = b q) (h : ∀ r : Int32, (r = 0 ↔ ¬ (e = s + k ∧ b s = x2.toInt ∧ b (s + 1) = x3.toInt ∧ b (s + 2) = x4.toInt)) → Q (some (.int r)) κ) : PC xl n 156 0 [(0, .ref 129), (1, .int x1), (2, .int x2), (3, .int x3), (4, .int x4)] [] κ Q := by
  have hsub : ((κ 129 14) - (κ 129 15)).toInt = e - s := by rw [i_sub (by rw [hs, he]; omega), hs, he]
  have t1 : (1 : Int32).toInt = 1 := rfl
  have t2 : (2 : Int32).toInt = 2 := rfl
  have s1 : (κ 129 15 + 1).toInt = (s + 1 : Nat) := by rw [i_add (by rw [hs, t1]; omega), hs, t1]; rfl
  have s2 : (κ 129 15 + 2).toInt = (s + 2 : Nat) := by rw [i_add (by rw [hs, t2]; omega), hs, t2]; rfl
  refine (t_156_0 ?_).weak
  rw [i_eq, hsub, hx]
  refine ⟨fun c => h 0 ⟨fun _ hh => c (by omega), fun _ => rfl⟩, fun c => ?_⟩
  have e1 : e = s + k := by omega
  refine byteAt_spec hs hL hb ?_
  intro y hy r hr
  cases hr
  rw [if_pos (by omega)] at hy
  rw [i_eq, hy]
  refine ⟨fun c2 => h 0 ⟨fun _ hh => c2 hh.2.1, fun _ => rfl⟩, fun c2 => ?_⟩
  refine byteAt_spec s1 hL hb ?_
  intro y hy r hr
  cases hr
  rw [if_pos (by omega)] at hy
  rw [i_eq, hy]
  refine ⟨fun c3 => h 0 ⟨fun _ hh => c3 hh.2.2.1, fun _ => rfl⟩, fun c3 => ?_⟩
  refine byteAt_spec s2 hL hb ?_
  intro y hy r hr
  cases hr
  rw [if_pos (by omega)] at hy
  rw [i_eq, hy]
  exact ⟨fun c4 => h 0 ⟨fun _ hh => c4 hh.2.2.2, fun _ => rfl⟩, fun c4 => h 1 ⟨fun c => absurd c (by decide), fun hh => absurd ⟨e1, c2, c3, c4⟩ hh⟩⟩
theorem ends_spec {n s : Nat} {Q : Option Value → IS → Prop} {κ : IS} {x1 x2 x3 : Int32} (hs : (κ 129 15).toInt = s) (h3 : s + 3 < L) (h4 : ¬ x2 = 0 → s + 4 < L) (h5 : ¬ x3 = 0 → s + 5 < L) (hL2 : L ≤ 160) (hL : (κ 129 13).toInt = L) (hb : ∀ q, (κ 135 q).toInt = b q) (h : ∀ r : Int32, (r = 0 ↔ ¬ (b (s + 3) = x1.toInt ∧ (x2 = 0 ∨ b (s + 4) = x2.toInt) ∧ (x3 = 0 ∨ b (s + 5) = x3.toInt))) → Q (some (.int r)) κ) : PC xl n 157 0 [(0, .ref 129), (1, .int x1), (2, .int x2), (3, .int x3)] [] κ Q := by
  have t3 : (3 : Int32).toInt = 3 := rfl
  have t4 : (4 : Int32).toInt = 4 := rfl
  have t5 : (5 : Int32).toInt = 5 := rfl
  have s3 : (κ 129 15 + 3).toInt = (s + 3 : Nat) := by rw [i_add (by rw [hs, t3]; omega), hs, t3]; rfl
  have s4 : (κ 129 15 + 4).toInt = (s + 4 : Nat) := by rw [i_add (by rw [hs, t4]; omega), hs, t4]; rfl
  have s5 : (κ 129 15 + 5).toInt = (s + 5 : Nat) := by rw [i_add (by rw [hs, t5]; omega), hs, t5]; rfl
  have no : ¬ (b (s + 3) = x1.toInt ∧ (x2 = 0 ∨ b (s + 4) = x2.toInt) ∧ (x3 = 0 ∨ b (s + 5) = x3.toInt)) → Q (some (.int 0)) κ := fun hh => h 0 ⟨fun _ => hh, fun _ => rfl⟩
  have ye : (b (s + 3) = x1.toInt ∧ (x2 = 0 ∨ b (s + 4) = x2.toInt) ∧ (x3 = 0 ∨ b (s + 5) = x3.toInt)) → Q (some (.int 1)) κ := fun hh => h 1 ⟨fun c => absurd c (by decide), fun g => absurd hh g⟩
  refine (t_157_0 ?_).weak
  refine byteAt_spec s3 hL hb ?_
  intro y hy r hr
  cases hr
  rw [if_pos (by omega)] at hy
  rw [i_eq, hy]
  refine ⟨fun c => no fun hh => c hh.1, fun c => ⟨fun c2 => ⟨fun c3 => ye ⟨c, Or.inl c2, Or.inl c3⟩, fun c3 => ?_⟩, fun c2 => ?_⟩⟩
  · refine byteAt_spec s5 hL hb ?_
    intro y hy r hr
    cases hr
    rw [if_pos (h5 c3)] at hy
    rw [i_eq, hy]
    exact ⟨fun c4 => no fun hh => hh.2.2.elim c3 c4, fun c4 => ye ⟨c, Or.inl c2, Or.inr c4⟩⟩
  · refine byteAt_spec s4 hL hb ?_
    intro y hy r hr
    cases hr
    rw [if_pos (h4 c2)] at hy
    rw [i_eq, hy]
    refine ⟨fun c4 => no fun hh => hh.2.1.elim c2 c4, fun c4 => ⟨fun c3 => ye ⟨c, Or.inr c4, Or.inl c3⟩, fun c3 => ?_⟩⟩
    refine byteAt_spec s5 hL hb ?_
    intro y hy r hr
    cases hr
    rw [if_pos (h5 c3)] at hy
    rw [i_eq, hy]
    exact ⟨fun c5 => no fun hh => hh.2.2.elim c3 c5, fun c5 => ye ⟨c, Or.inr c4, Or.inr c5⟩⟩
end Names
