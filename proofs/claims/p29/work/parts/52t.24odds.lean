/-! ODDS, I: VISITS that come to be; Euclid -/
abbrev skA (p : Nat → Int32) (i : Nat) : Prop := 90 ≤ (p i).toInt
/-- how many VISITS there are -/
def vsN (p : Nat → Int32) : Nat → Nat
  | 0 => 0
  | c + 1 => if skA p c then vsN p c else vsN p c + 1
/-- the bits of the others -/
def skN (p : Nat → Int32) : Nat → Nat
  | 0 => 0
  | c + 1 => if skA p c then 2 ^ c + skN p c else skN p c
def pB (p : Nat → Int32) (s : Nat) : Nat → Bool
  | 0 => true
  | c + 1 => if skA p c then pB p s c && s.testBit c else pB p s c
/-- who comes to be: of ACTS, of VISITS -/
def KL (p : Nat → Int32) : Nat → List (Nat × Nat)
  | 0 => [(0, 0)]
  | c + 1 => if skA p c then (KL p c).map (fun q => (2 ^ c + q.1, q.2)) else KL p c ++ (KL p c).map (fun q => (2 ^ c + q.1, 2 ^ vsN p c + q.2))
section Odds
variable {p : Nat → Int32} {c s i : Nat}
theorem vs_le : ∀ c, vsN p c ≤ c
  | 0 => Nat.le_refl _
  | c + 1 => by
    have := vs_le c
    rw [vsN]; split <;> omega
theorem sk_lt : ∀ c, skN p c < 2 ^ c
  | 0 => Nat.one_pos
  | c + 1 => by
    have := sk_lt c
    rw [skN, Nat.pow_succ]; split <;> omega
theorem rg_two (c : Nat) : List.range (2 ^ (c + 1)) = List.range (2 ^ c) ++ (List.range (2 ^ c)).map (fun x => 2 ^ c + x) := by
  rw [Nat.pow_succ, Nat.mul_two, List.range_add]
theorem KL_snd : ∀ c, (KL p c).map (fun q => q.2) = List.range (2 ^ vsN p c)
  | 0 => rfl
  | c + 1 => by
    have ih := KL_snd c
    rw [KL, vsN]
    split
    · rw [List.map_map]; exact ih
    · rw [List.map_append, List.map_map, rg_two, ← ih, List.map_map]; rfl
theorem pB_low {t : Nat} : ∀ c, (∀ i, i < c → s.testBit i = t.testBit i) → pB p s c = pB p t c
  | 0, _ => rfl
  | c + 1, h => by
    rw [pB, pB, pB_low c (fun i hi => h i (by omega)), h c (by omega)]
theorem KL_fst : ∀ c, (KL p c).map (fun q => q.1) = (List.range (2 ^ c)).filter (fun s => pB p s c)
  | 0 => rfl
  | c + 1 => by
    have ih := KL_fst c
    have e1 : ∀ s, s < 2 ^ c → s.testBit c = false := fun s hs => Nat.testBit_lt_two_pow hs
    have e2 : ∀ s, s < 2 ^ c → (2 ^ c + s).testBit c = true := fun s hs => by rw [Nat.testBit_two_pow_add_eq, e1 s hs]; rfl
    have e3 : ∀ s, pB p (2 ^ c + s) c = pB p s c := fun s => pB_low c (fun i hi => Nat.testBit_two_pow_add_gt hi s)
    rw [KL, rg_two, List.filter_append, List.filter_map]
    by_cases hs : skA p c
    · rw [if_pos hs, List.map_map]
      have n1 : (List.range (2 ^ c)).filter (fun s => pB p s (c + 1)) = [] := by
        rw [List.filter_eq_nil_iff]
        intro s hs2
        rw [pB, if_pos hs, e1 s (List.mem_range.mp hs2)]; simp
      have n2 : (List.range (2 ^ c)).filter ((fun s => pB p s (c + 1)) ∘ fun x => 2 ^ c + x) = (List.range (2 ^ c)).filter (fun s => pB p s c) := by
        apply List.filter_congr
        intro s hs2
        show pB p (2 ^ c + s) (c + 1) = _
        rw [pB, if_pos hs, e2 s (List.mem_range.mp hs2), e3, Bool.and_true]
      rw [n1, n2, ← ih, List.nil_append, List.map_map]; rfl
    · rw [if_neg hs, List.map_append, List.map_map]
      have n1 : (List.range (2 ^ c)).filter (fun s => pB p s (c + 1)) = (List.range (2 ^ c)).filter (fun s => pB p s c) := by
        apply List.filter_congr
        intro s _
        rw [pB, if_neg hs]
      have n2 : (List.range (2 ^ c)).filter ((fun s => pB p s (c + 1)) ∘ fun x => 2 ^ c + x) = (List.range (2 ^ c)).filter (fun s => pB p s c) := by
        apply List.filter_congr
        intro s _
        show pB p (2 ^ c + s) (c + 1) = _
        rw [pB, if_neg hs, e3]
      rw [n1, n2, ← ih, List.map_map]; rfl
/-- what the two have to do with one another -/
theorem KL_ok : ∀ (c : Nat) (q : Nat × Nat), q ∈ KL p c → q.1 < 2 ^ c ∧ q.2 < 2 ^ vsN p c ∧ ∀ i, i < c → (skA p i → q.1.testBit i = true) ∧ (¬ skA p i → q.1.testBit i = q.2.testBit (vsN p i))
  | 0, q, h => by
    rw [KL, List.mem_singleton] at h
    subst h
    exact ⟨Nat.one_pos, Nat.one_pos, fun i hi => absurd hi (by omega)⟩
  | c + 1, q, h => by
    have vm : ∀ i, i < c → ¬ skA p i → vsN p i < vsN p c := fun i hi hs => by
      have : ∀ k, i < k → vsN p i < vsN p k := by
        intro k
        induction k with
        | zero => intro hk; omega
        | succ k ih =>
          intro hk
          rw [vsN]
          by_cases e : i = k
          · subst e; rw [if_neg hs]; omega
          · have := ih (by omega)
            split <;> omega
      exact this c hi
    have t1 : ∀ a, a < 2 ^ c → (2 ^ c + a).testBit c = true := fun a ha => by rw [Nat.testBit_two_pow_add_eq, Nat.testBit_lt_two_pow ha]; rfl
    rw [KL] at h
    by_cases hs : skA p c
    · rw [if_pos hs, List.mem_map] at h
      obtain ⟨q0, h0, rfl⟩ := h
      obtain ⟨a1, a2, a3⟩ := KL_ok c q0 h0
      refine ⟨by rw [Nat.pow_succ]; show 2 ^ c + q0.1 < _; omega, by rw [vsN, if_pos hs]; exact a2, fun i hi => ?_⟩
      by_cases e : i = c
      · subst e; exact ⟨fun _ => t1 _ a1, fun q => absurd hs q⟩
      · have := a3 i (by omega)
        show (_ → (2 ^ c + q0.1).testBit i = true) ∧ (_ → (2 ^ c + q0.1).testBit i = q0.2.testBit (vsN p i))
        rw [Nat.testBit_two_pow_add_gt (by omega)]; exact this
    · rw [if_neg hs, List.mem_append, List.mem_map] at h
      have v1 : vsN p (c + 1) = vsN p c + 1 := by rw [vsN, if_neg hs]
      rcases h with h | ⟨q0, h0, rfl⟩
      · obtain ⟨a1, a2, a3⟩ := KL_ok c q h
        refine ⟨by rw [Nat.pow_succ]; omega, by rw [v1, Nat.pow_succ]; omega, fun i hi => ?_⟩
        by_cases e : i = c
        · subst e
          exact ⟨fun q => absurd q hs, fun _ => by rw [Nat.testBit_lt_two_pow a1, Nat.testBit_lt_two_pow a2]⟩
        · exact a3 i (by omega)
      · obtain ⟨a1, a2, a3⟩ := KL_ok c q0 h0
        refine ⟨by rw [Nat.pow_succ]; show 2 ^ c + q0.1 < _; omega, by rw [v1, Nat.pow_succ]; show 2 ^ vsN p c + q0.2 < _; omega, fun i hi => ?_⟩
        show (_ → (2 ^ c + q0.1).testBit i = true) ∧ (_ → (2 ^ c + q0.1).testBit i = (2 ^ vsN p c + q0.2).testBit (vsN p i))
        by_cases e : i = c
        · subst e
          exact ⟨fun q => absurd q hs, fun _ => by rw [t1 _ a1, Nat.testBit_two_pow_add_eq, Nat.testBit_lt_two_pow a2]; rfl⟩
        · have := a3 i (by omega)
          rw [Nat.testBit_two_pow_add_gt (by omega)]
          refine ⟨this.1, fun hn => ?_⟩
          rw [Nat.testBit_two_pow_add_gt (vm i (by omega) hn)]; exact this.2 hn
/-- sums over them -/
def sm64 (F : Nat → Int64) (l : List Nat) : Int64 := l.foldl (fun a x => a + F x) 0
theorem sm_app {F : Nat → Int64} {l : List Nat} {x : Nat} : sm64 F (l ++ [x]) = sm64 F l + F x := by
  unfold sm64; rw [List.foldl_append]; rfl
theorem sm_two {G H : Nat → Int64} (h : ∀ q, q ∈ KL p c → G q.2 = H q.1) : sm64 G (List.range (2 ^ vsN p c)) = sm64 H ((List.range (2 ^ c)).filter (fun s => pB p s c)) := by
  unfold sm64
  rw [← KL_fst, ← KL_snd, List.foldl_map, List.foldl_map]
  have : ∀ (l : List (Nat × Nat)) (a : Int64), (∀ q, q ∈ l → G q.2 = H q.1) → l.foldl (fun a q => a + G q.2) a = l.foldl (fun a q => a + H q.1) a := by
    intro l
    induction l with
    | nil => intro a _; rfl
    | cons q l ih =>
      intro a hl
      rw [List.foldl_cons, List.foldl_cons, hl q List.mem_cons_self]
      exact ih _ (fun q hq => hl q (List.mem_cons_of_mem _ hq))
  exact this _ _ h
theorem sm64_b {F : Nat → Int64} {l : List Nat} {b : Int} (hb : ∀ x, x ∈ l → 0 ≤ (F x).toInt ∧ (F x).toInt ≤ b) (hl : (l.length : Int) * b < 9223372036854775808) : 0 ≤ (sm64 F l).toInt ∧ (sm64 F l).toInt ≤ l.length * b := by
  have : ∀ (l : List Nat) (a : Int64) (m : Int), (∀ x, x ∈ l → 0 ≤ (F x).toInt ∧ (F x).toInt ≤ b) → 0 ≤ a.toInt → a.toInt ≤ m → m + l.length * b < 9223372036854775808 → 0 ≤ (l.foldl (fun a x => a + F x) a).toInt ∧ (l.foldl (fun a x => a + F x) a).toInt ≤ m + l.length * b := by
    intro l
    induction l with
    | nil => intro a m _ h1 h2 _; exact ⟨h1, by simpa using h2⟩
    | cons x l ih =>
      intro a m hx h1 h2 h3
      have hb := hx x List.mem_cons_self
      have b0 : 0 ≤ b := by omega
      have e : ((x :: l).length : Int) * b = b + (l.length : Int) * b := by
        rw [List.length_cons, Int.natCast_add, Int.add_mul, Int.add_comm]; simp
      have l0 : 0 ≤ (l.length : Int) * b := Int.mul_nonneg (by omega) b0
      rw [e] at h3
      have ea : (a + F x).toInt = a.toInt + (F x).toInt := by
        rw [Int64.toInt_add]
        exact Int.bmod_eq_of_le (by omega) (by omega)
      have := ih (a + F x) (m + b) (fun y hy => hx y (List.mem_cons_of_mem _ hy)) (by omega) (by omega) (by omega)
      rw [List.foldl_cons, e]
      omega
  have := this l 0 0 hb (by decide) (by decide) (by omega)
  unfold sm64
  omega
end Odds
