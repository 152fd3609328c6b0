/-! TOKENS: what the one behind a place is; the class's way to it -/
def sk (b : Nat → Int) (lo hi : Int) : Nat → Nat → Nat
  | 0, p => p
  | f + 1, p => if lo ≤ b p ∧ b p ≤ hi then sk b lo hi f (p + 1) else p
/-- behind all bytes between two, from a place on -/
def skL (b : Nat → Int) (lo hi : Int) (L p : Nat) : Nat := sk b lo hi (L - p) p
/-- a token: its kind (0 end, 1 name, 2 number, 3 stop, 4 none), where it begins, what is behind it, its value -/
def tokF (b : Nat → Int) (L p : Nat) : Nat × Nat × Nat × Int :=
  if L ≤ skL b 32 32 L p then (0, skL b 32 32 L p, skL b 32 32 L p, 0)
  else if skL b 32 32 L p < skL b 97 122 L (skL b 32 32 L p) then (1, skL b 32 32 L p, skL b 97 122 L (skL b 32 32 L p), 0)
  else if skL b 32 32 L p < skL b 48 57 L (skL b 32 32 L p) then
    (if skL b 32 32 L p + 2 < skL b 48 57 L (skL b 32 32 L p) then (4, skL b 32 32 L p, skL b 48 57 L (skL b 32 32 L p), 0)
      else (2, skL b 32 32 L p, skL b 48 57 L (skL b 32 32 L p), if skL b 48 57 L (skL b 32 32 L p) = skL b 32 32 L p + 1 then b (skL b 32 32 L p) - 48 else (b (skL b 32 32 L p) - 48) * 10 + b (skL b 32 32 L p + 1) - 48))
  else (if b (skL b 32 32 L p) = 59 then 3 else 4, skL b 32 32 L p, skL b 32 32 L p + 1, 0)
theorem rf_22_0 : rf 22 0 = 23 := rfl
theorem ln_23 : ln 23 = 160 := by decide +kernel
section Tok
variable {xl : List Int32} {b : Nat → Int} {L p : Nat} {lo hi : Int}
theorem skL_in (h : p < L) (h2 : lo ≤ b p ∧ b p ≤ hi) : skL b lo hi L p = skL b lo hi L (p + 1) := by
  unfold skL
  rw [show L - p = (L - (p + 1)) + 1 by omega, sk, if_pos h2]
theorem skL_o1 (h : L ≤ p) : skL b lo hi L p = p := by
  unfold skL
  rw [show L - p = 0 by omega]; rfl
theorem skL_o2 (h : p < L) (h2 : ¬ (lo ≤ b p ∧ b p ≤ hi)) : skL b lo hi L p = p := by
  unfold skL
  rw [show L - p = (L - (p + 1)) + 1 by omega, sk, if_neg h2]
theorem sk_b : ∀ (f p : Nat), p ≤ sk b lo hi f p ∧ sk b lo hi f p ≤ p + f ∧ (∀ q, p ≤ q → q < sk b lo hi f p → lo ≤ b q ∧ b q ≤ hi)
  | 0, p => ⟨Nat.le_refl _, Nat.le_refl _, fun q h1 h2 => absurd h2 (by rw [sk]; omega)⟩
  | f + 1, p => by
    rw [sk]
    split
    · rename_i h
      obtain ⟨h1, h2, h3⟩ := sk_b f (p + 1)
      refine ⟨by omega, by omega, fun q g1 g2 => ?_⟩
      by_cases e : q = p
      · subst e; exact h
      · exact h3 q (by omega) g2
    · exact ⟨Nat.le_refl _, by omega, fun q h1 h2 => absurd h2 (by omega)⟩
theorem skL_ge : p ≤ skL b lo hi L p := (sk_b _ _).1
theorem skL_le (h : p ≤ L) : skL b lo hi L p ≤ L := by have := (sk_b (b := b) (lo := lo) (hi := hi) (L - p) p).2.1; unfold skL; omega
theorem skL_all {q : Nat} (h1 : p ≤ q) (h2 : q < skL b lo hi L p) : lo ≤ b q ∧ b q ≤ hi := (sk_b (L - p) p).2.2 q h1 h2
theorem skip_spec {Q : Option Value → IS → Prop} {x1 x2 : Int32} (hL2 : L ≤ 160) : ∀ (n p : Nat) (ι : IS), (ι 22 4).toInt = p → (ι 22 1).toInt = L → (∀ q, (ι 23 q).toInt = b q) → (∀ ι' : IS, (∀ a j, ¬ (a = 22 ∧ j = 4) → ι' a j = ι a j) → (ι' 22 4).toInt = skL b x1.toInt x2.toInt L p → Q (some (.int (if (ι 22 3).toInt < (skL b x1.toInt x2.toInt L p : Int) then 1 else 0))) ι') → PC xl n 20 0 [(0, .ref 22), (1, .int x1), (2, .int x2)] [] ι Q
  | 0, _, _, _, _, _, _ => PC.zero
  | n + 1, p, ι, hp, hL, hb, h => by
    have fin : skL b x1.toInt x2.toInt L p = p → ((¬ (ι 22 3) < (ι 22 4) → Q (some (.int 0)) ι) ∧ ((ι 22 3) < (ι 22 4) → Q (some (.int 1)) ι)) := by
      intro e
      have h1 := h ι (fun _ _ _ => rfl) (by rw [e]; exact hp)
      rw [e] at h1
      rw [i_lt, hp]
      constructor
      · intro c; rw [if_neg c] at h1; exact h1
      · intro c; rw [if_pos c] at h1; exact h1
    refine t_20_0 ⟨fun c => fin (skL_o1 ?_), fun c c1 c2 => ⟨fun c3 => fin (skL_o2 ?_ ?_), fun c3 _ _ => ⟨fun c4 => fin (skL_o2 ?_ ?_), fun c4 => ?_⟩⟩⟩
    · rw [i_lt, hp, hL] at c; omega
    · rw [i_lt, hp, hL] at c; omega
    · rw [rf_22_0, i_ixn hp, i_lt, hb] at c3; omega
    · rw [i_lt, hp, hL] at c; omega
    · rw [rf_22_0, i_ixn hp, i_lt, hb] at c4; omega
    · rw [i_lt, hp, hL] at c
      rw [rf_22_0, i_ixn hp, i_lt, hb] at c3 c4
      have hs : skL b x1.toInt x2.toInt L p = skL b x1.toInt x2.toInt L (p + 1) := skL_in (by omega) (by omega)
      refine skip_spec hL2 n (p + 1) _ ?_ ?_ ?_ ?_
      · rw [up_same, i_add (by rw [hp]; simp; omega), hp]; rfl
      · rw [up_ne (by simp)]; exact hL
      · intro q; rw [up_ne (by simp)]; exact hb q
      · intro ι' h1 h2
        rw [up_ne (by simp), ← hs]
        refine h ι' (fun a j hn => ?_) (by rw [hs]; exact h2)
        rw [h1 a j hn, up_ne hn]
theorem take_spec {n s e : Nat} {ι : IS} {Q : Option Value → IS → Prop} (hs : (ι 22 3).toInt = s) (he : (ι 22 4).toInt = e) (hse : s < e) (he2 : e ≤ 160) (hb : ∀ q, (ι 23 q).toInt = b q) (hd : ∀ q, s ≤ q → q < e → 48 ≤ b q ∧ b q ≤ 57) (h : ∀ ι' : IS, (∀ a j, ¬ (a = 22 ∧ (j = 2 ∨ j = 5)) → ι' a j = ι a j) → (ι' 22 2).toInt = (if s + 2 < e then 4 else 2) → (e ≤ s + 2 → (ι' 22 5).toInt = (if e = s + 1 then b s - 48 else (b s - 48) * 10 + b (s + 1) - 48)) → Q none ι') : PC xl n 21 0 [(0, .ref 22)] [] ι Q := by
  have hsub : ((ι 22 4) - (ι 22 3)).toInt = e - s := by rw [i_sub (by rw [hs, he]; omega), hs, he]
  have hd0 := hd s (by omega) hse
  refine (t_21_0 ⟨fun c => ?_, fun c => ?_⟩).weak
  · rw [i_lt, hsub] at c
    have c : ¬ (2 : Int) < e - s := c
    refine (t_21_32 ⟨fun c => ?_, fun c => ⟨fun c2 => ?_, fun c2 c3 c4 => ?_⟩⟩).weak
    · exfalso
      simp only [up, i_lt] at c
      simp [hs, he] at c
      omega
    · simp [up] at c2
    · have e0 : (up (up ι 22 2 2) 22 5 0) 22 3 = ι 22 3 := by simp [up]
      have e1 : (up (up ι 22 2 2) 22 5 0) 22 5 = 0 := by simp [up]
      rw [e0, e1, rf_22_0, i_ixn hs]
      have e2 : (up (up ι 22 2 2) 22 5 0) 23 s = ι 23 s := by simp [up]
      rw [e2]
      have v1 : (((0 : Int32) * 10) + ι 23 s - 48).toInt = b s - 48 := by
        have z : (0 : Int32) * 10 = 0 := rfl
        have t0 : (0 : Int32).toInt = 0 := rfl
        have t48 : (48 : Int32).toInt = 48 := rfl
        have a1 : ((0 : Int32) + ι 23 s).toInt = b s := by rw [i_add (by rw [t0, hb]; omega), t0, hb]; omega
        rw [z, i_sub (by rw [a1, t48]; omega), a1, t48]
      have s1 : (ι 22 3 + 1).toInt = s + 1 := by
        have t1 : (1 : Int32).toInt = 1 := rfl
        rw [i_add (by rw [hs, t1]; omega), hs, t1]
      refine (t_21_32 ⟨fun d => ?_, fun d => ⟨fun d2 => ?_, fun d2 d3 d4 => ?_⟩⟩).weak
      · refine h _ (fun a j hn => ?_) ?_ ?_
        · rw [up_ne (by simp at hn ⊢; omega), up_ne (by simp at hn ⊢; omega), up_ne (by simp at hn ⊢; omega)]
        · rw [if_neg (by omega)]; simp [up]
        · intro _
          have f4 : (up (up (up ι 22 2 2) 22 5 0) 22 5 ((0 : Int32) * 10 + ι 23 s - 48)) 22 4 = ι 22 4 := by simp [up]
          rw [i_lt, s1, f4, he] at d
          rw [if_pos (by omega), up_same, v1]
      · simp [up] at d2
      · have f4 : (up (up (up ι 22 2 2) 22 5 0) 22 5 ((0 : Int32) * 10 + ι 23 s - 48)) 22 4 = ι 22 4 := by simp [up]
        rw [i_lt, s1, f4, he] at d
        have hd1 := hd (s + 1) (by omega) (by omega)
        have s1n : (ι 22 3 + 1).toInt = ((s + 1 : Nat) : Int) := by rw [s1]; omega
        rw [rf_22_0, i_ixn s1n, up_same]
        have f5 : (up (up (up ι 22 2 2) 22 5 0) 22 5 ((0 : Int32) * 10 + ι 23 s - 48)) 23 (s + 1) = ι 23 (s + 1) := by simp [up]
        rw [f5]
        have v2 : ((((0 : Int32) * 10 + ι 23 s - 48) * 10) + ι 23 (s + 1) - 48).toInt = (b s - 48) * 10 + b (s + 1) - 48 := by
          have t10 : (10 : Int32).toInt = 10 := rfl
          have t48 : (48 : Int32).toInt = 48 := rfl
          have a1 : (((0 : Int32) * 10 + ι 23 s - 48) * 10).toInt = (b s - 48) * 10 := by rw [i_mul (by rw [v1, t10]; omega), v1, t10]
          have a2 : ((((0 : Int32) * 10 + ι 23 s - 48) * 10) + ι 23 (s + 1)).toInt = (b s - 48) * 10 + b (s + 1) := by rw [i_add (by rw [a1, hb]; omega), a1, hb]
          rw [i_sub (by rw [a2, t48]; omega), a2, t48]
        refine (t_21_32 ⟨fun g => ?_, fun g => ?_⟩).weak
        · refine h _ (fun a j hn => ?_) ?_ ?_
          · rw [up_ne (by simp at hn ⊢; omega), up_ne (by simp at hn ⊢; omega), up_ne (by simp at hn ⊢; omega), up_ne (by simp at hn ⊢; omega)]
          · rw [if_neg (by omega)]; simp [up]
          · intro _
            rw [if_neg (by omega), up_same, v2]
        · exfalso
          have s2 : (ι 22 3 + 1 + 1).toInt = s + 2 := by
            have t1 : (1 : Int32).toInt = 1 := rfl
            rw [i_add (by rw [s1, t1]; omega), s1, t1]; omega
          rw [i_lt, s2, up_ne (by simp), f4, he] at g
          omega
  · rw [i_lt, hsub] at c
    have c : (2 : Int) < e - s := c
    refine (t_21_32 ⟨fun c => ?_, fun c => ⟨fun c2 => ?_, fun c2 => ?_⟩⟩).weak
    · exfalso
      simp only [up, i_lt] at c
      simp [hs, he] at c
      omega
    · refine h _ (fun a j hn => ?_) ?_ (fun hh => absurd hh (by omega))
      · rw [up_ne (by simp at hn ⊢; omega), up_ne (by simp at hn ⊢; omega)]
      · rw [if_pos (by omega)]; simp [up]
    · simp [up] at c2
end Tok
