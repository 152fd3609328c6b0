section
/-! TOKENS: what the one behind a place is; the class's way to it -/
noncomputable def sk (b : Nat → Int) (lo hi : Int) : Nat → Nat → Nat
  | 0, p => p
  | f + 1, p => if lo ≤ b p ∧ b p ≤ hi then sk b lo hi f (p + 1) else p
/-- behind all bytes between two, from a place on -/
noncomputable def skL (b : Nat → Int) (lo hi : Int) (L p : Nat) : Nat := sk b lo hi (L - p) p
/-- a token: its kind (0 end, 1 name, 2 number, 3 stop, 4 none), where it begins, what is behind it, its value -/
noncomputable def tokF (b : Nat → Int) (L p : Nat) : Nat × Nat × Nat × Int :=
  if L ≤ skL b 32 32 L p then (0, skL b 32 32 L p, skL b 32 32 L p, 0)
  else if skL b 32 32 L p < skL b 97 122 L (skL b 32 32 L p) then (1, skL b 32 32 L p, skL b 97 122 L (skL b 32 32 L p), 0)
  else if skL b 32 32 L p < skL b 48 57 L (skL b 32 32 L p) then
    (if skL b 32 32 L p + 2 < skL b 48 57 L (skL b 32 32 L p) then (4, skL b 32 32 L p, skL b 48 57 L (skL b 32 32 L p), 0)
      else (2, skL b 32 32 L p, skL b 48 57 L (skL b 32 32 L p), if skL b 48 57 L (skL b 32 32 L p) = skL b 32 32 L p + 1 then b (skL b 32 32 L p) - 48 else (b (skL b 32 32 L p) - 48) * 10 + b (skL b 32 32 L p + 1) - 48))
  else (if b (skL b 32 32 L p) = 59 then 3 else 4, skL b 32 32 L p, skL b 32 32 L p + 1, 0)
theorem rf_22_0 : rf 22 0 = 23 := rfl
theorem ln_23 : ln 23 = 160 := by decide +kernel
section Tok
variable {xl : List Int32} {b : Nat → Int} {L p : Nat} {lo hi : Int}
theorem skL_in (h : p < L) (h2 : lo ≤ b p ∧ b p ≤ hi) : skL b lo hi L p = skL b lo hi L (p + 1) := by
  unfold skL
  rw [show L - p = (L - (p + 1)) + 1 by omega, sk, if_pos h2]
theorem skL_o1 (h : L ≤ p) : skL b lo hi L p = p := by
  unfold skL
  rw [show L - p = 0 by omega]; rfl
theorem skL_o2 (h : p < L) (h2 : ¬ (lo ≤ b p ∧ b p ≤ hi)) : skL b lo hi L p = p := by
  unfold skL
  rw [show L - p = (L - (p + 1)) + 1 by omega, sk, if_neg h2]
theorem sk_b : ∀ (f p : Nat), p ≤ sk b lo hi f p ∧ sk b lo hi f p ≤ p + f ∧ (∀ q, p ≤ q → q < sk b lo hi f p → lo ≤ b q ∧ b q ≤ hi)
  | 0, p => ⟨Nat.le_refl _, Nat.le_refl _, fun q h1 h2 => absurd h2 (by rw [sk]; omega)⟩
  | f + 1, p => by
    rw [sk]
    split
    · rename_i h
      obtain ⟨h1, h2, h3⟩ := sk_b f (p + 1)
      refine ⟨by omega, by omega, fun q g1 g2 => ?_⟩
      by_cases e : q = p
      · subst e; exact h
      · exact h3 q (by omega) g2
    · exact ⟨Nat.le_refl _, by omega, fun q h1 h2 => absurd h2 (by omega)⟩
theorem skL_ge : p ≤ skL b lo hi L p := (sk_b _ _).1
theorem skL_le (h : p ≤ L) : skL b lo hi L p ≤ L := by have := (sk_b (b := b) (lo := lo) (hi := hi) (L - p) p).2.1; unfold skL; omega
theorem skL_all {q : Nat} (h1 : p ≤ q) (h2 : q < skL b lo hi L p) : lo ≤ b q ∧ b q ≤ hi := (sk_b (L - p) p).2.2 q h1 h2
theorem skip_spec {Q : Option Value → IS → Prop} {x1 x2 : Int32} (hL2 : L ≤ 160) : ∀ (n p : Nat) (ι : IS), (ι 22 4).toInt = p → (ι 22 1).toInt = L → (∀ q, (ι 23 q).toInt = b q) → (∀ ι' : IS, (∀ a j, ¬ (a = 22 ∧ j = 4) → ι' a j = ι a j) → (ι' 22 4).toInt = skL b x1.toInt x2.toInt L p → Q (some (.int (if (ι 22 3).toInt < (skL b x1.toInt x2.toInt L p : Int) then 1 else 0))) ι') → PC xl n 20 0 [(0, .ref 22), (1, .int x1), (2, .int x2)] [] ι Q
  | 0, _, _, _, _, _, _ => PC.zero
  | n + 1, p, ι, hp, hL, hb, h => by
    have fin : skL b x1.toInt x2.toInt L p = p → ((¬ (ι 22 3) < (ι 22 4) → Q (some (.int 0)) ι) ∧ ((ι 22 3) < (ι 22 4) → Q (some (.int 1)) ι)) := by
      intro e
      have h1 := h ι (fun _ _ _ => rfl) (by rw [e]; exact hp)
      rw [e] at h1
      rw [i_lt, hp]
      constructor
      · intro c; rw [if_neg c] at h1; exact h1
      · intro c; rw [if_pos c] at h1; exact h1
    refine t_20_0 ⟨fun c => fin (skL_o1 ?_), fun c c1 c2 => ⟨fun c3 => fin (skL_o2 ?_ ?_), fun c3 _ _ => ⟨fun c4 => fin (skL_o2 ?_ ?_), fun c4 => ?_⟩⟩⟩
    · rw [i_lt, hp, hL] at c; omega
    · rw [i_lt, hp, hL] at c; omega
    · rw [rf_22_0, i_ixn hp, i_lt, hb] at c3; omega
    · rw [i_lt, hp, hL] at c; omega
    · rw [rf_22_0, i_ixn hp, i_lt, hb] at c4; omega
    · rw [i_lt, hp, hL] at c
      rw [rf_22_0, i_ixn hp, i_lt, hb] at c3 c4
      have hs : skL b x1.toInt x2.toInt L p = skL b x1.toInt x2.toInt L (p + 1) := skL_in (by omega) (by omega)
      refine skip_spec hL2 n (p + 1) _ ?_ ?_ ?_ ?_
      · rw [up_same, i_add (by rw [hp]; simp; omega), hp]; rfl
      · rw [up_ne (by simp)]; exact hL
      · intro q; rw [up_ne (by simp)]; exact hb q
      · intro ι' h1 h2
        rw [up_ne (by simp), ← hs]
        refine h ι' (fun a j hn => ?_) (by rw [hs]; exact h2)
        rw [h1 a j hn, up_ne hn]
theorem take_spec {n s e : Nat} {ι : IS} {Q : Option Value → IS → Prop} (hs : (ι 22 3).toInt = s) (he : (ι 22 4).toInt = e) (hse : s < e) (he2 : e ≤ 160) (hb : ∀ q, (ι 23 q).toInt = b q) (hd : ∀ q, s ≤ q → q < e → 48 ≤ b q ∧ b q ≤ 57) (h : ∀ ι' : IS, (∀ a j, ¬ (a = 22 ∧ (j = 2 ∨ j = 5)) → ι' a j = ι a j) → (ι' 22 2).toInt = (if s + 2 < e then 4 else 2) → (e ≤ s + 2 → (ι' 22 5).toInt = (if e = s + 1 then b s - 48 else (b s - 48) * 10 + b (s + 1) - 48)) → Q none ι') : PC xl n 21 0 [(0, .ref 22)] [] ι Q := by
  have hsub : ((ι 22 4) - (ι 22 3)).toInt = e - s := by rw [i_sub (by rw [hs, he]; omega), hs, he]
  have hd0 := hd s (by omega) hse
  refine (t_21_0 ⟨fun c => ?_, fun c => ?_⟩).weak
  · rw [i_lt, hsub] at c
    have c : ¬ (2 : Int) < e - s := c
    refine (t_21_32 ⟨fun c => ?_, fun c => ⟨fun c2 => ?_, fun c2 c3 c4 => ?_⟩⟩).weak
    · exfalso
      simp only [up, i_lt] at c
      simp [hs, he] at c
      omega
    · simp [up] at c2
    · have e0 : (up (up ι 22 2 2) 22 5 0) 22 3 = ι 22 3 := by simp [up]
      have e1 : (up (up ι 22 2 2) 22 5 0) 22 5 = 0 := by simp [up]
      rw [e0, e1, rf_22_0, i_ixn hs]
      have e2 : (up (up ι 22 2 2) 22 5 0) 23 s = ι 23 s := by simp [up]
      rw [e2]
      have v1 : (((0 : Int32) * 10) + ι 23 s - 48).toInt = b s - 48 := by
        have z : (0 : Int32) * 10 = 0 := rfl
        have t0 : (0 : Int32).toInt = 0 := rfl
        have t48 : (48 : Int32).toInt = 48 := rfl
        have a1 : ((0 : Int32) + ι 23 s).toInt = b s := by rw [i_add (by rw [t0, hb]; omega), t0, hb]; omega
        rw [z, i_sub (by rw [a1, t48]; omega), a1, t48]
      have s1 : (ι 22 3 + 1).toInt = s + 1 := by
        have t1 : (1 : Int32).toInt = 1 := rfl
        rw [i_add (by rw [hs, t1]; omega), hs, t1]
      refine (t_21_32 ⟨fun d => ?_, fun d => ⟨fun d2 => ?_, fun d2 d3 d4 => ?_⟩⟩).weak
      · refine h _ (fun a j hn => ?_) ?_ ?_
        · rw [up_ne (by simp at hn ⊢; omega), up_ne (by simp at hn ⊢; omega), up_ne (by simp at hn ⊢; omega)]
        · rw [if_neg (by omega)]; simp [up]
        · intro _
          have f4 : (up (up (up ι 22 2 2) 22 5 0) 22 5 ((0 : Int32) * 10 + ι 23 s - 48)) 22 4 = ι 22 4 := by simp [up]
          rw [i_lt, s1, f4, he] at d
          rw [if_pos (by omega), up_same, v1]
      · simp [up] at d2
      · have f4 : (up (up (up ι 22 2 2) 22 5 0) 22 5 ((0 : Int32) * 10 + ι 23 s - 48)) 22 4 = ι 22 4 := by simp [up]
        rw [i_lt, s1, f4, he] at d
        have hd1 := hd (s + 1) (by omega) (by omega)
        have s1n : (ι 22 3 + 1).toInt = ((s + 1 : Nat) : Int) := by rw [s1]; omega
        rw [rf_22_0, i_ixn s1n, up_same]
        have f5 : (up (up (up ι 22 2 2) 22 5 0) 22 5 ((0 : Int32) * 10 + ι 23 s - 48)) 23 (s + 1) = ι 23 (s + 1) := by simp [up]
        rw [f5]
        have v2 : ((((0 : Int32) * 10 + ι 23 s - 48) * 10) + ι 23 (s + 1) - 48).toInt = (b s - 48) * 10 + b (s + 1) - 48 := by
          have t10 : (10 : Int32).toInt = 10 := rfl
          have t48 : (48 : Int32).toInt = 48 := rfl
          have a1 : (((0 : Int32) * 10 + ι 23 s - 48) * 10).toInt = (b s - 48) * 10 := by rw [i_mul (by rw [v1, t10]; omega), v1, t10]
          have a2 : ((((0 : Int32) * 10 + ι 23 s - 48) * 10) + ι 23 (s + 1)).toInt = (b s - 48) * 10 + b (s + 1) := by rw [i_add (by rw [a1, hb]; omega), a1, hb]
          rw [i_sub (by rw [a2, t48]; omega), a2, t48]
        refine (t_21_32 ⟨fun g => ?_, fun g => ?_⟩).weak
        · refine h _ (fun a j hn => ?_) ?_ ?_
          · rw [up_ne (by simp at hn ⊢; omega), up_ne (by simp at hn ⊢; omega), up_ne (by simp at hn ⊢; omega), up_ne (by simp at hn ⊢; omega)]
          · rw [if_neg (by omega)]; simp [up]
          · intro _
            rw [if_neg (by omega), up_same, v2]
        · exfalso
          have s2 : (ι 22 3 + 1 + 1).toInt = s + 2 := by
            have t1 : (1 : Int32).toInt = 1 := rfl
            rw [i_add (by rw [s1, t1]; omega), s1, t1]; omega
          rw [i_lt, s2, up_ne (by simp), f4, he] at g
          omega
  · rw [i_lt, hsub] at c
    have c : (2 : Int) < e - s := c
    refine (t_21_32 ⟨fun c => ?_, fun c => ⟨fun c2 => ?_, fun c2 => ?_⟩⟩).weak
    · exfalso
      simp only [up, i_lt] at c
      simp [hs, he] at c
      omega
    · refine h _ (fun a j hn => ?_) ?_ (fun hh => absurd hh (by omega))
      · rw [up_ne (by simp at hn ⊢; omega), up_ne (by simp at hn ⊢; omega)]
      · rw [if_pos (by omega)]; simp [up]
    · simp [up] at c2
end Tok
end
section
/-! TOKENS: Tape.advance -/
/-- the class's tape looks at a token -/
noncomputable def tkX (ι ι' : IS) (t : Nat × Nat × Nat × Int) : Prop := (∀ a j, ¬ (a = 22 ∧ 2 ≤ j ∧ j ≤ 5) → ι' a j = ι a j) ∧ (ι' 22 2).toInt = t.1 ∧ (ι' 22 3).toInt = t.2.1 ∧ (ι' 22 4).toInt = t.2.2.1 ∧ (t.1 = 2 → (ι' 22 5).toInt = t.2.2.2)
section Adv
variable {xl : List Int32} {b : Nat → Int} {L : Nat}
theorem blank_spec {Q : Option Value → IS → Prop} (hL2 : L ≤ 160) : ∀ (n p : Nat) (ι : IS), (ι 22 4).toInt = p → (ι 22 1).toInt = L → (∀ q, (ι 23 q).toInt = b q) → (∀ ι' : IS, (∀ a j, ¬ (a = 22 ∧ j = 4) → ι' a j = ι a j) → (ι' 22 4).toInt = skL b 32 32 L p → PC xl n 19 38 [(0, .ref 22)] [] ι' Q) → PC xl n 19 0 [(0, .ref 22)] [] ι Q
  | 0, _, _, _, _, _, _ => PC.zero
  | n + 1, p, ι, hp, hL, hb, h => by
    have fin : skL b 32 32 L p = p → PC xl n 19 38 [(0, .ref 22)] [] ι Q := fun e => (h ι (fun _ _ _ => rfl) (by rw [e]; exact hp)).weak
    refine t_19_0 ⟨fun c => fin (skL_o1 ?_), fun c c1 c2 => ⟨fun c3 => fin (skL_o2 ?_ ?_), fun c3 => ?_⟩⟩
    · rw [i_lt, hp, hL] at c; omega
    · rw [i_lt, hp, hL] at c; omega
    · rw [rf_22_0, i_ixn hp, i_eq, hb] at c3
      have c3 : ¬ b p = 32 := c3
      omega
    · rw [i_lt, hp, hL] at c
      rw [rf_22_0, i_ixn hp, i_eq, hb] at c3
      have c3 : b p = 32 := c3
      have hs : skL b 32 32 L p = skL b 32 32 L (p + 1) := skL_in (by omega) (by omega)
      refine blank_spec hL2 n (p + 1) _ ?_ ?_ ?_ ?_
      · rw [up_same, i_add (by rw [hp]; simp; omega), hp]; rfl
      · rw [up_ne (by simp)]; exact hL
      · intro q; rw [up_ne (by simp)]; exact hb q
      · intro ι' h1 h2
        refine (h ι' (fun a j hn => ?_) (by rw [hs]; exact h2)).weak
        rw [h1 a j hn, up_ne hn]
theorem adv_spec {n p : Nat} {ι : IS} {Q : Option Value → IS → Prop} (hL2 : L ≤ 160) (hp : (ι 22 4).toInt = p) (hpL : p ≤ L) (hL : (ι 22 1).toInt = L) (hb : ∀ q, (ι 23 q).toInt = b q) (h : ∀ ι' : IS, tkX ι ι' (tokF b L p) → Q none ι') : PC xl n 19 0 [(0, .ref 22)] [] ι Q := by
  refine blank_spec hL2 n p ι hp hL hb ?_
  intro ι1 g1 g2
  have sle : skL b 32 32 L p ≤ L := skL_le hpL
  unfold tokF at h
  generalize skL b 32 32 L p = s at g2 h sle
  refine (t_19_38 ?_).weak
  have f3 : (up ι1 22 3 (ι1 22 4)) 22 3 = ι1 22 4 := up_same _ _ _ _
  have f4 : (up ι1 22 3 (ι1 22 4)) 22 4 = ι1 22 4 := up_ne (by simp)
  have f1 : (up ι1 22 3 (ι1 22 4)) 22 1 = ι 22 1 := by rw [up_ne (by simp), g1 22 1 (by simp)]
  have fb : ∀ q, ((up ι1 22 3 (ι1 22 4)) 23 q).toInt = b q := fun q => by rw [up_ne (by simp), g1 23 q (by simp)]; exact hb q
  have fo : ∀ a j, ¬ (a = 22 ∧ 2 ≤ j ∧ j ≤ 5) → (up ι1 22 3 (ι1 22 4)) a j = ι a j := fun a j hn => by rw [up_ne (by omega), g1 a j (by omega)]
  revert f3 f4 f1 fb fo
  generalize up ι1 22 3 (ι1 22 4) = ι2
  intro f3 f4 f1 fb fo
  have t97 : (97 : Int32).toInt = 97 := rfl
  have t122 : (122 : Int32).toInt = 122 := rfl
  have t48 : (48 : Int32).toInt = 48 := rfl
  have t57 : (57 : Int32).toInt = 57 := rfl
  have t1 : (1 : Int32).toInt = 1 := rfl
  refine ⟨fun c => ?_, fun c => ?_⟩
  · rw [i_lt, f4, f1, g2, hL] at c
    have c : s < L := by omega
    rw [if_neg (by omega)] at h
    refine skip_spec hL2 n s ι2 (by rw [f4]; exact g2) (by rw [f1]; exact hL) fb ?_
    rw [t97, t122]
    intro ι3 k1 k2 r hr
    rw [f3, g2] at hr
    have hr : (if (s : Int) < (skL b 97 122 L s : Int) then (1 : Int32) else 0) = r := by injection hr with hr; injection hr
    have k3 : (ι3 22 3).toInt = s := by rw [k1 22 3 (by simp), f3]; exact g2
    have ko : ∀ a j, ¬ (a = 22 ∧ 2 ≤ j ∧ j ≤ 5) → ι3 a j = ι a j := fun a j hn => by rw [k1 a j (by omega), fo a j hn]
    have kb : ∀ q, (ι3 23 q).toInt = b q := fun q => by rw [k1 23 q (by simp)]; exact fb q
    refine ⟨fun r0 => ?_, fun r0 => ?_⟩
    · have nn : ¬ s < skL b 97 122 L s := by
        intro hh
        rw [if_pos (by omega)] at hr
        rw [← hr] at r0
        exact absurd r0 (by decide)
      rw [if_neg nn] at h
      have e1 : skL b 97 122 L s = s := by have := skL_ge (b := b) (lo := 97) (hi := 122) (L := L) (p := s); omega
      refine skip_spec hL2 n s ι3 (by rw [k2, e1]) (by rw [k1 22 1 (by simp), f1]; exact hL) kb ?_
      rw [t48, t57]
      intro ι4 m1 m2 r2 hr2
      rw [k3] at hr2
      have hr2 : (if (s : Int) < (skL b 48 57 L s : Int) then (1 : Int32) else 0) = r2 := by injection hr2 with hr2; injection hr2
      have m3 : (ι4 22 3).toInt = s := by rw [m1 22 3 (by simp)]; exact k3
      have mo : ∀ a j, ¬ (a = 22 ∧ 2 ≤ j ∧ j ≤ 5) → ι4 a j = ι a j := fun a j hn => by rw [m1 a j (by omega), ko a j hn]
      have mb : ∀ q, (ι4 23 q).toInt = b q := fun q => by rw [m1 23 q (by simp)]; exact kb q
      refine ⟨fun q0 => ?_, fun q0 => ?_⟩
      · have nd : ¬ s < skL b 48 57 L s := by
          intro hh
          rw [if_pos (by omega)] at hr2
          rw [← hr2] at q0
          exact absurd q0 (by decide)
        rw [if_neg nd] at h
        have e2 : skL b 48 57 L s = s := by have := skL_ge (b := b) (lo := 48) (hi := 57) (L := L) (p := s); omega
        have m4 : (ι4 22 4).toInt = s := by rw [m2, e2]
        intro d1 d2
        rw [rf_22_0, i_ixn m4, i_eq, mb]
        have fin : ∀ k : Int32, (k.toInt = (if b s = 59 then (3 : Nat) else 4 : Nat)) → Q none (up (up ι4 22 2 k) 22 4 ((up ι4 22 2 k) 22 4 + 1)) := by
          intro k hk
          refine h _ ⟨fun a j hn => ?_, ?_, ?_, ?_, ?_⟩
          · rw [up_ne (by omega), up_ne (by omega), mo a j hn]
          · rw [up_ne (by simp), up_same, hk]
          · rw [up_ne (by simp), up_ne (by simp), m3]
          · rw [up_same, up_ne (by simp), i_add (by rw [m4, t1]; omega), m4, t1]; rfl
          · intro hh
            split at hh <;> simp at hh
        refine ⟨fun q1 => ?_, fun q1 => ?_⟩
        · exact fin 4 (by have q1 : ¬ b s = 59 := q1; rw [if_neg q1]; rfl)
        · exact fin 3 (by have q1 : b s = 59 := q1; rw [if_pos q1]; rfl)
      · have nd : s < skL b 48 57 L s := by
          false_or_by_contra
          rename_i hh
          rw [if_neg (by omega)] at hr2
          exact q0 hr2.symm
        rw [if_pos nd] at h
        have el := skL_le (b := b) (lo := 48) (hi := 57) (L := L) (p := s) (by omega)
        refine take_spec (b := b) (s := s) (e := skL b 48 57 L s) m3 m2 nd (by omega) mb (fun q h1 h2 => skL_all h1 h2) ?_
        intro ι5 u1 u2 u3
        by_cases h2 : s + 2 < skL b 48 57 L s
        · rw [if_pos h2] at h u2
          refine h _ ⟨fun a j hn => ?_, ?_, ?_, ?_, ?_⟩
          · rw [u1 a j (by omega), mo a j hn]
          · exact u2
          · rw [u1 22 3 (by simp), m3]
          · rw [u1 22 4 (by simp), m2]
          · intro hh; simp at hh
        · rw [if_neg h2] at h u2
          refine h _ ⟨fun a j hn => ?_, ?_, ?_, ?_, ?_⟩
          · rw [u1 a j (by omega), mo a j hn]
          · exact u2
          · rw [u1 22 3 (by simp), m3]
          · rw [u1 22 4 (by simp), m2]
          · intro _; exact u3 (by omega)
    · have nn : s < skL b 97 122 L s := by
        false_or_by_contra
        rename_i hh
        rw [if_neg (by omega)] at hr
        exact r0 hr.symm
      rw [if_pos nn] at h
      refine h _ ⟨fun a j hn => ?_, ?_, ?_, ?_, ?_⟩
      · rw [up_ne (by omega), ko a j hn]
      · rw [up_same]; rfl
      · rw [up_ne (by simp), k3]
      · rw [up_ne (by simp), k2]
      · intro hh; simp at hh
  · rw [i_lt, f4, f1, g2, hL] at c
    rw [if_pos (by omega)] at h
    refine h _ ⟨fun a j hn => ?_, ?_, ?_, ?_, ?_⟩
    · rw [up_ne (by omega), fo a j hn]
    · rw [up_same]; rfl
    · rw [up_ne (by simp), f3, g2]
    · rw [up_ne (by simp), f4, g2]
    · intro hh; simp at hh
end Adv
end
section
/-! TOKENS: the model's next -/
/-- the model looks at a token -/
noncomputable def tkM (κ κ' : IS) (t : Nat × Nat × Nat × Int) : Prop := (∀ a j, ¬ (a = 129 ∧ 14 ≤ j ∧ j ≤ 19) → κ' a j = κ a j) ∧ (κ' 129 15).toInt = t.2.1 ∧ (κ' 129 14).toInt = t.2.2.1 ∧ (t.1 ≠ 4 → (κ' 129 16).toInt = t.1 ∧ κ' 129 18 = 0) ∧ (t.1 = 4 → κ' 129 18 = 1 ∧ (κ' 129 19).toInt = t.2.1) ∧ (t.1 = 2 → (κ' 129 17).toInt = t.2.2.2)
noncomputable def vD (b : Nat → Int) (s q : Nat) : Int := if q = s then 0 else if q = s + 1 then b s - 48 else (b s - 48) * 10 + b (s + 1) - 48
theorem rf_129_12 : rf 129 12 = 135 := rfl
section Next
variable {xl : List Int32} {b : Nat → Int} {L : Nat}
theorem byteAt_spec {n p : Nat} {κ : IS} {Q : Option Value → IS → Prop} {x : Int32} (hx : x.toInt = p) (hL : (κ 129 13).toInt = L) (hb : ∀ q, (κ 135 q).toInt = b q) (h : ∀ y : Int32, y.toInt = (if p < L then b p else -1) → Q (some (.int y)) κ) : PC xl n 152 0 [(0, .ref 129), (1, .int x)] [] κ Q := by
  refine (t_152_0 ⟨fun c => ?_, fun c c1 c2 => ?_⟩).weak
  · rw [i_lt, hx, hL] at c
    exact h _ (by rw [if_neg (by omega)]; rfl)
  · rw [i_lt, hx, hL] at c
    rw [rf_129_12, i_ixn hx]
    exact h _ (by rw [if_pos (by omega)]; exact hb p)
theorem in_spec {n : Nat} {ι : IS} {Q : Option Value → IS → Prop} {y0 y2 y4 : Int64} (h : Q (some (.int (if y2.toInt ≤ y0.toInt ∧ y0.toInt ≤ y4.toInt then 1 else 0))) ι) : PC xl n 148 0 [(0, .long y0), (2, .long y2), (4, .long y4)] [] ι Q := by
  refine (t_148_0 ⟨fun c => ?_, fun c => ⟨fun c2 => ?_, fun c2 => ?_⟩⟩).weak
  · rw [lg_cmp_lt, Int64.lt_iff_toInt_lt] at c
    rw [if_neg (by omega)] at h; exact h
  · rw [lg_cmp_gt, Int64.lt_iff_toInt_lt] at c2
    rw [if_neg (by omega)] at h; exact h
  · rw [lg_cmp_lt, Int64.lt_iff_toInt_lt] at c
    rw [lg_cmp_gt, Int64.lt_iff_toInt_lt] at c2
    rw [if_pos (by omega)] at h; exact h
theorem needs_spec {n : Nat} {κ : IS} {Q : Option Value → IS → Prop} {x1 x2 : Int32} (h1 : (¬ x1 = 0 ∨ ¬ κ 129 18 = 0) → Q none κ) (h2 : x1 = 0 → κ 129 18 = 0 → Q none (up (up κ 129 18 x2) 129 19 (κ 129 15))) : PC xl n 153 0 [(0, .ref 129), (1, .int x1), (2, .int x2)] [] κ Q := by
  refine (t_153_0 ⟨fun c => h1 (Or.inl c), fun c => ⟨fun c2 => h1 (Or.inr c2), fun c2 => ?_⟩⟩).weak
  have e : (up κ 129 18 x2) 129 15 = κ 129 15 := up_ne (by simp)
  rw [e]
  exact h2 c c2
theorem mblank_spec {Q : Option Value → IS → Prop} (hL2 : L ≤ 160) : ∀ (n p : Nat) (κ : IS), (κ 129 14).toInt = p → (κ 129 13).toInt = L → (∀ q, (κ 135 q).toInt = b q) → (∀ κ' : IS, (∀ a j, ¬ (a = 129 ∧ j = 14) → κ' a j = κ a j) → (κ' 129 14).toInt = skL b 32 32 L p → PC xl n 151 34 [(0, .ref 129)] [] κ' Q) → PC xl n 151 8 [(0, .ref 129)] [] κ Q
  | 0, _, _, _, _, _, _ => PC.zero
  | n + 1, p, κ, hp, hL, hb, h => by
    refine t_151_8 (byteAt_spec hp hL hb ?_)
    intro y hy r hr
    cases hr
    have t32 : (32 : Int32).toInt = 32 := rfl
    refine ⟨fun c => ?_, fun c => ?_⟩
    · refine (h κ (fun _ _ _ => rfl) ?_).weak
      rw [i_eq, hy, t32] at c
      by_cases hpl : p < L
      · rw [if_pos hpl] at c
        rw [skL_o2 hpl (by omega)]; exact hp
      · rw [skL_o1 (by omega)]; exact hp
    · rw [i_eq, hy, t32] at c
      have hpl : p < L := by
        false_or_by_contra
        rw [if_neg (by assumption)] at c
        omega
      rw [if_pos hpl] at c
      have hs : skL b 32 32 L p = skL b 32 32 L (p + 1) := skL_in hpl (by omega)
      refine mblank_spec hL2 n (p + 1) _ ?_ ?_ ?_ ?_
      · rw [up_same, i_add (by rw [hp]; simp; omega), hp]; rfl
      · rw [up_ne (by simp)]; exact hL
      · intro q; rw [up_ne (by simp)]; exact hb q
      · intro κ' h1 h2
        refine (h κ' (fun a j hn => ?_) (by rw [hs]; exact h2)).weak
        rw [h1 a j hn, up_ne hn]
theorem nameL_spec {Q : Option Value → IS → Prop} {w1 : Value} (hL2 : L ≤ 160) : ∀ (n p : Nat) (κ : IS), (κ 129 14).toInt = p → (κ 129 13).toInt = L → (∀ q, (κ 135 q).toInt = b q) → (∀ κ' : IS, (∀ a j, ¬ (a = 129 ∧ j = 14) → κ' a j = κ a j) → (κ' 129 14).toInt = skL b 97 122 L p → Q none κ') → PC xl n 151 82 [(0, .ref 129), (1, w1)] [] κ Q
  | 0, _, _, _, _, _, _ => PC.zero
  | n + 1, p, κ, hp, hL, hb, h => by
    refine t_151_82 (byteAt_spec hp hL hb ?_)
    intro y hy r hr
    cases hr
    refine in_spec ?_
    intro r2 hr2
    injection hr2 with hr2
    injection hr2 with hr2
    have t97 : (97 : Int64).toInt = 97 := rfl
    have t122 : (122 : Int64).toInt = 122 := rfl
    rw [t97, t122, Int32.toInt_toInt64, hy] at hr2
    refine ⟨fun c => ?_, fun c => ?_⟩
    · refine h κ (fun _ _ _ => rfl) ?_
      have hn : ¬ (97 ≤ (if p < L then b p else -1) ∧ (if p < L then b p else -1) ≤ 122) := by
        intro hh
        rw [if_pos hh] at hr2
        rw [← hr2] at c
        exact absurd c (by decide)
      by_cases hpl : p < L
      · rw [if_pos hpl] at hn
        rw [skL_o2 hpl hn]; exact hp
      · rw [skL_o1 (by omega)]; exact hp
    · have hn : (97 ≤ (if p < L then b p else -1) ∧ (if p < L then b p else -1) ≤ 122) := by
        false_or_by_contra
        rename_i hh
        rw [if_neg hh] at hr2
        exact c hr2.symm
      have hpl : p < L := by
        false_or_by_contra
        rename_i hh
        rw [if_neg hh] at hn
        omega
      rw [if_pos hpl] at hn
      have hs : skL b 97 122 L p = skL b 97 122 L (p + 1) := skL_in hpl hn
      refine nameL_spec hL2 n (p + 1) _ ?_ ?_ ?_ ?_
      · rw [up_same, i_add (by rw [hp]; simp; omega), hp]; rfl
      · rw [up_ne (by simp)]; exact hL
      · intro q; rw [up_ne (by simp)]; exact hb q
      · intro κ' h1 h2
        refine h κ' (fun a j hn => ?_) (by rw [hs]; exact h2)
        rw [h1 a j hn, up_ne hn]
theorem digL_spec {Q : Option Value → IS → Prop} {w1 : Value} {s : Nat} (hL2 : L ≤ 160) : ∀ (n q : Nat) (κ : IS), (κ 129 14).toInt = q → (κ 129 15).toInt = s → s ≤ q → (κ 129 13).toInt = L → (∀ k, s ≤ k → k < q → 48 ≤ b k ∧ b k ≤ 57) → (κ 129 17).toInt = vD b s q → κ 129 18 = 0 → (∀ k, (κ 135 k).toInt = b k) → (∀ κ' : IS, (∀ a j, ¬ (a = 129 ∧ (j = 14 ∨ j = 17 ∨ j = 18 ∨ j = 19)) → κ' a j = κ a j) → (κ' 129 14).toInt = skL b 48 57 L q → (s + 2 < skL b 48 57 L q → κ' 129 18 = 1 ∧ (κ' 129 19).toInt = s) → (¬ s + 2 < skL b 48 57 L q → κ' 129 18 = 0) → (κ' 129 17).toInt = vD b s (skL b 48 57 L q) → Q none κ') → PC xl n 151 140 [(0, .ref 129), (1, w1)] [] κ Q
  | 0, _, _, _, _, _, _, _, _, _, _, _ => PC.zero
  | n + 1, q, κ, hq, hs, hsq, hL, hd, hv, hf, hb, h => by
    refine t_151_140 (byteAt_spec hq hL hb ?_)
    intro y hy r hr
    cases hr
    refine in_spec ?_
    intro r2 hr2
    injection hr2 with hr2
    injection hr2 with hr2
    have t48 : (48 : Int64).toInt = 48 := rfl
    have t57 : (57 : Int64).toInt = 57 := rfl
    have u48 : (48 : Int32).toInt = 48 := rfl
    have u10 : (10 : Int32).toInt = 10 := rfl
    have u2 : (2 : Int32).toInt = 2 := rfl
    have u1 : (1 : Int32).toInt = 1 := rfl
    rw [t48, t57, Int32.toInt_toInt64, hy] at hr2
    have hrq := i_rng (κ 129 14)
    have hsub : ((κ 129 14) - (κ 129 15)).toInt = q - s := by rw [i_sub (by rw [hs, hq]; omega), hs, hq]
    refine ⟨fun c => ?_, fun c => ?_⟩
    · have hn : ¬ (48 ≤ (if q < L then b q else -1) ∧ (if q < L then b q else -1) ≤ 57) := by
        intro hh
        rw [if_pos hh] at hr2
        rw [← hr2] at c
        exact absurd c (by decide)
      have he : skL b 48 57 L q = q := by
        by_cases hpl : q < L
        · rw [if_pos hpl] at hn
          exact skL_o2 hpl hn
        · exact skL_o1 (by omega)
      rw [he] at h
      rw [i_lt, hsub, u2]
      refine ⟨fun c2 => ?_, fun c2 => ?_⟩
      · refine needs_spec (fun hh => ?_) (fun _ _ => ?_)
        · rcases hh with hh | hh
          · exact absurd rfl hh
          · exact absurd hf hh
        · refine h _ (fun a j hn => ?_) ?_ (fun _ => ⟨?_, ?_⟩) (fun hh => absurd hh (by omega)) ?_
          · rw [up_ne (by omega), up_ne (by omega)]
          · rw [up_ne (by simp), up_ne (by simp)]; exact hq
          · rw [up_ne (by simp), up_same]
          · rw [up_same]; exact hs
          · rw [up_ne (by simp), up_ne (by simp)]; exact hv
      · refine needs_spec (fun hh => ?_) (fun hh _ => absurd hh (by decide))
        exact h _ (fun _ _ _ => rfl) hq (fun hh => absurd hh (by omega)) (fun _ => hf) hv
    · have hn : (48 ≤ (if q < L then b q else -1) ∧ (if q < L then b q else -1) ≤ 57) := by
        false_or_by_contra
        rename_i hh
        rw [if_neg hh] at hr2
        exact c hr2.symm
      have hpl : q < L := by
        false_or_by_contra
        rename_i hh
        rw [if_neg hh] at hn
        omega
      rw [if_pos hpl] at hn hy
      have he : skL b 48 57 L q = skL b 48 57 L (q + 1) := skL_in hpl hn
      have hd2 : ∀ k, s ≤ k → k < q + 1 → 48 ≤ b k ∧ b k ≤ 57 := fun k h1 h2 => by
        by_cases e : k = q
        · rw [e]; exact hn
        · exact hd k h1 (by omega)
      have go : ∀ κ1 : IS, (∀ a j, ¬ (a = 129 ∧ (j = 14 ∨ j = 17)) → κ1 a j = κ a j) → (κ1 129 14).toInt = (q + 1 : Nat) → (κ1 129 17).toInt = vD b s (q + 1) → PC xl n 151 140 [(0, .ref 129), (1, w1)] [] κ1 Q := by
        intro κ1 g1 g2 g3
        refine digL_spec hL2 n (q + 1) κ1 g2 (by rw [g1 129 15 (by simp)]; exact hs) (by omega) (by rw [g1 129 13 (by simp)]; exact hL) hd2 g3 (by rw [g1 129 18 (by simp)]; exact hf) (fun k => by rw [g1 135 k (by simp)]; exact hb k) ?_
        rw [← he]
        intro κ' k1 k2 k3 k4 k5
        refine h κ' (fun a j hn => ?_) k2 k3 k4 k5
        rw [k1 a j hn, g1 a j (by omega)]
      have a1 : ((κ 129 14) + 1).toInt = (q + 1 : Nat) := by rw [i_add (by rw [hq, u1]; omega), hq, u1]; rfl
      rw [i_lt, hsub, u2]
      refine ⟨fun c2 => ?_, fun c2 => ?_⟩
      · refine go _ (fun a j hn => ?_) ?_ ?_
        · rw [up_ne (by omega), up_ne (by omega)]
        · rw [up_same, up_ne (by simp)]; exact a1
        · rw [up_ne (by simp), up_same, hv]
          unfold vD
          rw [if_neg (by omega), if_neg (by omega), if_neg (by omega), if_neg (by omega)]
      · refine byteAt_spec hq hL hb ?_
        intro y2 hy2 r5 hr5
        cases hr5
        rw [if_pos hpl] at hy2
        have hds : q = s + 1 → 48 ≤ b s ∧ b s ≤ 57 := fun e => hd s (by omega) (by omega)
        have hvr : 0 ≤ vD b s q ∧ vD b s q ≤ 9 := by
          unfold vD
          split
          · omega
          · rw [if_pos (by omega)]; have := hds (by omega); omega
        refine go _ (fun a j hn => ?_) ?_ ?_
        · rw [up_ne (by omega), up_ne (by omega)]
        · rw [up_same, up_ne (by simp)]; exact a1
        · rw [up_ne (by simp), up_same]
          have m1 : ((10 : Int32) * κ 129 17).toInt = 10 * vD b s q := by rw [i_mul (by rw [u10, hv]; omega), u10, hv]
          have m2 : ((10 : Int32) * κ 129 17 + y2).toInt = 10 * vD b s q + b q := by rw [i_add (by rw [m1, hy2]; omega), m1, hy2]
          rw [i_sub (by rw [m2, u48]; omega), m2, u48]
          unfold vD
          by_cases e : q = s
          · subst e
            rw [if_pos rfl, if_neg (by omega), if_pos rfl]; omega
          · have e2 : q = s + 1 := by omega
            subst e2
            rw [if_neg (by omega), if_pos rfl, if_neg (by omega), if_neg (by omega)]; omega
end Next
end
section
/-! TOKENS: the model's next, whole -/
section Next2
variable {xl : List Int32} {b : Nat → Int} {L : Nat}
theorem skL_pos {s : Nat} {lo hi : Int} (h : s < L) : s < skL b lo hi L s ↔ (lo ≤ b s ∧ b s ≤ hi) := by
  constructor
  · intro hh; exact skL_all (Nat.le_refl _) hh
  · intro hh
    rw [skL_in h hh]
    have := skL_ge (b := b) (lo := lo) (hi := hi) (L := L) (p := s + 1)
    omega
theorem next_f {n : Nat} {κ : IS} {Q : Option Value → IS → Prop} (hf : 0 < (κ 129 18).toInt) (h : Q none κ) : PC xl n 151 0 [(0, .ref 129)] [] κ Q := by
  refine (t_151_0 ⟨fun c => ?_, fun c => h⟩).weak
  rw [i_lt] at c
  exact absurd hf c
theorem next_spec {n p : Nat} {κ : IS} {Q : Option Value → IS → Prop} (hL2 : L ≤ 160) (hp : (κ 129 14).toInt = p) (hpL : p ≤ L) (hL : (κ 129 13).toInt = L) (hb : ∀ q, (κ 135 q).toInt = b q) (hb0 : ∀ q, 0 ≤ b q) (hf : κ 129 18 = 0) (h : ∀ κ' : IS, tkM κ κ' (tokF b L p) → Q none κ') : PC xl n 151 0 [(0, .ref 129)] [] κ Q := by
  refine (t_151_0 ⟨fun c => ?_, fun c => ?_⟩).weak
  rotate_left
  · rw [hf] at c; exact absurd c (by decide)
  refine mblank_spec hL2 n p κ hp hL hb ?_
  intro κ1 g1 g2
  have sle : skL b 32 32 L p ≤ L := skL_le hpL
  unfold tokF at h
  generalize skL b 32 32 L p = s at g2 h sle
  refine (t_151_34 ?_).weak
  have f5 : ((up κ1 129 15 (κ1 129 14)) 129 15).toInt = s := by rw [up_same]; exact g2
  have f4 : ((up κ1 129 15 (κ1 129 14)) 129 14).toInt = s := by rw [up_ne (by simp)]; exact g2
  have f13 : ((up κ1 129 15 (κ1 129 14)) 129 13).toInt = L := by rw [up_ne (by simp), g1 129 13 (by simp)]; exact hL
  have f18 : (up κ1 129 15 (κ1 129 14)) 129 18 = 0 := by rw [up_ne (by simp), g1 129 18 (by simp)]; exact hf
  have fb : ∀ q, ((up κ1 129 15 (κ1 129 14)) 135 q).toInt = b q := fun q => by rw [up_ne (by simp), g1 135 q (by simp)]; exact hb q
  have fo : ∀ a j, ¬ (a = 129 ∧ 14 ≤ j ∧ j ≤ 19) → (up κ1 129 15 (κ1 129 14)) a j = κ a j := fun a j hn => by rw [up_ne (by omega), g1 a j (by omega)]
  revert f5 f4 f13 f18 fb fo
  generalize up κ1 129 15 (κ1 129 14) = κ2
  intro f5 f4 f13 f18 fb fo
  have t97 : (97 : Int64).toInt = 97 := rfl
  have t122 : (122 : Int64).toInt = 122 := rfl
  have t48 : (48 : Int64).toInt = 48 := rfl
  have t57 : (57 : Int64).toInt = 57 := rfl
  have t1 : (1 : Int32).toInt = 1 := rfl
  have t0 : (0 : Int32).toInt = 0 := rfl
  refine byteAt_spec f4 f13 fb ?_
  intro y hy r hr
  cases hr
  refine ⟨fun c => ?_, fun c => ?_⟩
  · rw [i_lt, hy, t0] at c
    have hs : s < L := by
      false_or_by_contra
      rename_i hh
      rw [if_neg hh] at c
      omega
    rw [if_pos hs] at hy
    rw [if_neg (by omega)] at h
    refine in_spec ?_
    rw [t97, t122, Int32.toInt_toInt64, hy]
    intro r3 hr3
    injection hr3 with hr3
    injection hr3 with hr3
    refine ⟨fun c3 => ?_, fun c3 => ?_⟩
    · have nn : ¬ (97 ≤ b s ∧ b s ≤ 122) := by
        intro hh
        rw [if_pos hh] at hr3
        rw [← hr3] at c3
        exact absurd c3 (by decide)
      rw [if_neg (by rw [skL_pos hs]; exact nn)] at h
      refine in_spec ?_
      rw [t48, t57, Int32.toInt_toInt64, hy]
      intro r4 hr4
      injection hr4 with hr4
      injection hr4 with hr4
      refine ⟨fun c4 => ?_, fun c4 => ?_⟩
      · have nd : ¬ (48 ≤ b s ∧ b s ≤ 57) := by
          intro hh
          rw [if_pos hh] at hr4
          rw [← hr4] at c4
          exact absurd c4 (by decide)
        rw [if_neg (by rw [skL_pos hs]; exact nd)] at h
        have m18 : (up κ2 129 16 3) 129 18 = 0 := by rw [up_ne (by simp)]; exact f18
        have m15 : (up κ2 129 16 3) 129 15 = κ2 129 15 := up_ne (by simp)
        refine ⟨fun c5 => ?_, fun c5 => ?_⟩
        · rw [i_eq, hy] at c5
          have c5 : ¬ b s = 59 := c5
          rw [if_neg c5] at h
          refine needs_spec (fun hh => ?_) (fun _ _ => ?_)
          · rcases hh with hh | hh
            · exact absurd rfl hh
            · exact absurd m18 hh
          · refine h _ ⟨fun a j hn => ?_, ?_, ?_, fun hh => absurd rfl hh, fun _ => ⟨?_, ?_⟩, fun hh => absurd hh (by simp)⟩
            · rw [up_ne (by omega), up_ne (by omega), up_ne (by omega), up_ne (by omega), fo a j hn]
            · rw [up_ne (by simp), up_ne (by simp), up_ne (by simp), m15, f5]
            · rw [up_same, up_ne (by simp), up_ne (by simp), up_ne (by simp), i_add (by rw [f4, t1]; omega), f4, t1]; rfl
            · rw [up_ne (by simp), up_ne (by simp), up_same]
            · rw [up_ne (by simp), up_same, m15, f5]
        · rw [i_eq, hy] at c5
          have c5 : b s = 59 := c5
          rw [if_pos c5] at h
          refine needs_spec (fun _ => ?_) (fun hh => absurd hh (by simp))
          refine h _ ⟨fun a j hn => ?_, ?_, ?_, fun _ => ⟨?_, ?_⟩, fun hh => absurd hh (by simp), fun hh => absurd hh (by simp)⟩
          · rw [up_ne (by omega), up_ne (by omega), fo a j hn]
          · rw [up_ne (by simp), m15, f5]
          · rw [up_same, up_ne (by simp), i_add (by rw [f4, t1]; omega), f4, t1]; rfl
          · rw [up_ne (by simp), up_same]; rfl
          · rw [up_ne (by simp)]; exact m18
      · have nd : (48 ≤ b s ∧ b s ≤ 57) := by
          false_or_by_contra
          rename_i hh
          rw [if_neg hh] at hr4
          exact c4 hr4.symm
        have nd2 : s < skL b 48 57 L s := by rw [skL_pos hs]; exact nd
        rw [if_pos nd2] at h
        refine digL_spec (b := b) (s := s) hL2 n s _ ?_ ?_ (Nat.le_refl _) ?_ (fun k h1 h2 => absurd h2 (by omega)) ?_ ?_ ?_ ?_
        · rw [up_ne (by simp), up_ne (by simp)]; exact f4
        · rw [up_ne (by simp), up_ne (by simp)]; exact f5
        · rw [up_ne (by simp), up_ne (by simp)]; exact f13
        · rw [up_same]; unfold vD; rw [if_pos rfl]; rfl
        · rw [up_ne (by simp), up_ne (by simp)]; exact f18
        · intro k; rw [up_ne (by simp), up_ne (by simp)]; exact fb k
        · intro κ' k1 k2 k3 k4 k5
          have o : ∀ a j, ¬ (a = 129 ∧ 14 ≤ j ∧ j ≤ 19) → κ' a j = κ a j := fun a j hn => by rw [k1 a j (by omega), up_ne (by omega), up_ne (by omega), fo a j hn]
          have o15 : (κ' 129 15).toInt = s := by rw [k1 129 15 (by simp), up_ne (by simp), up_ne (by simp)]; exact f5
          by_cases h2 : s + 2 < skL b 48 57 L s
          · rw [if_pos h2] at h
            exact h κ' ⟨o, o15, k2, fun hh => absurd rfl hh, fun _ => k3 h2, fun hh => absurd hh (by simp)⟩
          · rw [if_neg h2] at h
            refine h κ' ⟨o, o15, k2, fun _ => ⟨?_, k4 h2⟩, fun hh => absurd hh (by simp), fun _ => ?_⟩
            · rw [k1 129 16 (by simp), up_ne (by simp), up_same]; rfl
            · rw [k5]; unfold vD; rw [if_neg (by omega)]
    · have nn : (97 ≤ b s ∧ b s ≤ 122) := by
        false_or_by_contra
        rename_i hh
        rw [if_neg hh] at hr3
        exact c3 hr3.symm
      rw [if_pos (by rw [skL_pos hs]; exact nn)] at h
      refine nameL_spec (b := b) hL2 n s _ ?_ ?_ ?_ ?_
      · rw [up_ne (by simp)]; exact f4
      · rw [up_ne (by simp)]; exact f13
      · intro k; rw [up_ne (by simp)]; exact fb k
      · intro κ' k1 k2
        refine h κ' ⟨fun a j hn => ?_, ?_, k2, fun _ => ⟨?_, ?_⟩, fun hh => absurd hh (by simp), fun hh => absurd hh (by simp)⟩
        · rw [k1 a j (by omega), up_ne (by omega), fo a j hn]
        · rw [k1 129 15 (by simp), up_ne (by simp)]; exact f5
        · rw [k1 129 16 (by simp), up_same]; rfl
        · rw [k1 129 18 (by simp), up_ne (by simp)]; exact f18
  · rw [i_lt, hy, t0] at c
    have hs : L ≤ s := by
      false_or_by_contra
      rename_i hh
      rw [if_pos (by omega)] at c
      have := hb0 s
      omega
    rw [if_pos hs] at h
    refine h _ ⟨fun a j hn => ?_, ?_, ?_, fun _ => ⟨?_, ?_⟩, fun hh => absurd hh (by simp), fun hh => absurd hh (by simp)⟩
    · rw [up_ne (by omega), fo a j hn]
    · rw [up_ne (by simp)]; exact f5
    · rw [up_ne (by simp)]; exact f4
    · rw [up_same]; rfl
    · rw [up_ne (by simp)]; exact f18
end Next2
end
section
/-! NAMES: of which line a name is -/
abbrev isPlain (b : Nat → Int) (s e : Nat) : Prop := e = s + 5 ∧ b s = 112 ∧ b (s + 1) = 108 ∧ b (s + 2) = 97 ∧ b (s + 3) = 105 ∧ b (s + 4) = 110
abbrev isPriest (b : Nat → Int) (s e : Nat) : Prop := e = s + 6 ∧ b s = 112 ∧ b (s + 1) = 114 ∧ b (s + 2) = 105 ∧ b (s + 3) = 101 ∧ b (s + 4) = 115 ∧ b (s + 5) = 116
abbrev isMiser (b : Nat → Int) (s e : Nat) : Prop := e = s + 5 ∧ b s = 109 ∧ b (s + 1) = 105 ∧ b (s + 2) = 115 ∧ b (s + 3) = 101 ∧ b (s + 4) = 114
abbrev isSpy (b : Nat → Int) (s e : Nat) : Prop := e = s + 3 ∧ b s = 115 ∧ b (s + 1) = 112 ∧ b (s + 2) = 121
abbrev isDoorN (b : Nat → Int) (s e : Nat) : Prop := e = s + 4 ∧ b s = 100 ∧ b (s + 1) = 111 ∧ b (s + 2) = 111 ∧ b (s + 3) = 114
abbrev isNot (b : Nat → Int) (s e : Nat) : Prop := e = s + 3 ∧ b s = 110 ∧ b (s + 1) = 111 ∧ b (s + 2) = 116
abbrev isPlan (b : Nat → Int) (s e : Nat) : Prop := e = s + 4 ∧ b s = 112 ∧ b (s + 1) = 108 ∧ b (s + 2) = 97 ∧ b (s + 3) = 110
noncomputable def lineF (b : Nat → Int) (s e : Nat) : Int := if isPlain b s e then 0 else if isPriest b s e then 1 else if isMiser b s e then 2 else if isSpy b s e then 3 else if isDoorN b s e then 4 else if isNot b s e then 5 else if isPlan b s e then 6 else -4
noncomputable def nmP (b : Nat → Int) (s e : Nat) (bs : List Int32) : Prop := e = s + bs.length ∧ ∀ i, i < bs.length → b (s + i) = (bs.getD i 0).toInt
section Names
variable {xl : List Int32} {b : Nat → Int} {L : Nat}
theorem r01 {P : Prop} [Decidable P] {r : Int32} (h : some (Value.int (if P then 1 else 0)) = some (.int r)) : r = 0 ↔ ¬ P := by
  injection h with h
  injection h with h
  by_cases hp : P
  · rw [if_pos hp] at h; subst h; simp [hp]
  · rw [if_neg hp] at h; subst h; simp [hp]
theorem len_spec {n o : Nat} {bs : List Int32} {ι : IS} {Q : Option Value → IS → Prop} (ho1 : tRo xl o = some (.inl (99, [.ref (KB + (o + 1)), .int 0]))) (ho2 : tRo xl (o + 1) = some (.inr (.inl (2, bs)))) (h : Q (some (.int (Int32.ofNat bs.length))) ι) : PC xl n 26 0 [(0, .ref (KB + o))] [] ι Q := by
  refine (t_26_0 ho1 ho2 ?_).weak
  refine (t_27_0 ho1 ho2 ⟨fun c => absurd c (by decide), fun _ => ?_⟩).weak
  intro r hr
  cases hr
  have e : Int32.ofNat bs.length >>> ((0 : Int32) &&& 31) = Int32.ofNat bs.length := by
    rw [show ((0 : Int32) &&& 31) = 0 from rfl]; simp
  rw [e]
  exact h
theorem chr_spec {n o : Nat} {bs : List Int32} {ι : IS} {Q : Option Value → IS → Prop} {x : Int32} (ho1 : tRo xl o = some (.inl (99, [.ref (KB + (o + 1)), .int 0]))) (ho2 : tRo xl (o + 1) = some (.inr (.inl (2, bs)))) (hbs : ∀ i, (((bs.getD i 0) &&& 255).toUInt32 % 65536).toInt32 = bs.getD i 0) (h : Q (some (.int (bs.getD x.toNatClampNeg 0))) ι) : PC xl n 28 0 [(0, .ref (KB + o)), (1, .int x)] [] ι Q := by
  refine (t_28_0 ho1 ho2 ?_).weak
  refine (t_29_0 ho1 ho2 ⟨fun c => absurd c (by decide), fun _ => ⟨fun c => absurd rfl c, fun _ => ?_⟩⟩).weak
  intro r hr
  cases hr
  refine ⟨fun c => trivial, fun _ => ?_⟩
  refine (t_30_0 ho1 ho2 ?_).weak
  refine (t_31_0 ?_).weak
  refine (t_32_0 ⟨fun _ => trivial, fun _ => ⟨fun _ => ?_, fun _ => trivial⟩⟩).weak
  intro r2 _ c1 c2 r3 hr3
  cases hr3
  rw [hbs]
  exact h
theorem nameL2_spec {o : Nat} {bs : List Int32} {Q : Option Value → IS → Prop} {ι : IS} {s e : Nat} (ho1 : tRo xl o = some (.inl (99, [.ref (KB + (o + 1)), .int 0]))) (ho2 : tRo xl (o + 1) = some (.inr (.inl (2, bs)))) (hbs : ∀ i, (((bs.getD i 0) &&& 255).toUInt32 % 65536).toInt32 = bs.getD i 0) (hl : bs.length ≤ 100) (hs : (ι 22 3).toInt = s) (hs2 : s ≤ 160) (he : e = s + bs.length) (hb : ∀ q, (ι 23 q).toInt = b q) (h : ∀ r : Int32, (r = 0 ↔ ¬ nmP b s e bs) → Q (some (.int r)) ι) : ∀ (n i : Nat) (x : Int32), x.toInt = i → (∀ k, k < i → b (s + k) = (bs.getD k 0).toInt) → PC xl n 25 28 [(0, .ref 22), (1, .ref (KB + o)), (2, .int x)] [] ι Q
  | 0, _, _, _, _ => PC.zero
  | n + 1, i, x, hx, hi => by
    refine t_25_28 ho1 ho2 (len_spec ho1 ho2 ?_)
    intro r hr
    cases hr
    have hln : (Int32.ofNat bs.length).toInt = bs.length := i_of (by omega)
    refine ⟨fun c => ?_, fun c c1 c2 => ?_⟩
    · rw [i_lt, hln, hx] at c
      refine h 1 ⟨fun c => absurd c (by decide), fun hh => absurd ⟨he, fun k hk => hi k (by omega)⟩ hh⟩
    · rw [i_lt, hln, hx] at c
      refine chr_spec ho1 ho2 hbs ?_
      have ha : ((ι 22 3) + x).toInt = (s + i : Nat) := by rw [i_add (by rw [hs, hx]; omega), hs, hx]; rfl
      intro r hr
      cases hr
      rw [rf_22_0, i_ixn ha, i_ixn hx, i_eq, hb]
      refine ⟨fun c => ?_, fun c => ?_⟩
      · have t1 : (1 : Int32).toInt = 1 := rfl
        refine nameL2_spec ho1 ho2 hbs hl hs hs2 he hb h n (i + 1) _ (by rw [i_add (by rw [hx, t1]; omega), hx, t1]; rfl) (fun k hk => ?_)
        by_cases ek : k = i
        · rw [ek]; exact c
        · exact hi k (by omega)
      · exact h 0 ⟨fun _ hh => c (hh.2 i (by omega)), fun _ => rfl⟩
theorem nameIs_spec {n o : Nat} {bs : List Int32} {Q : Option Value → IS → Prop} {ι : IS} {s e : Nat} (ho1 : tRo xl o = some (.inl (99, [.ref (KB + (o + 1)), .int 0]))) (ho2 : tRo xl (o + 1) = some (.inr (.inl (2, bs)))) (hbs : ∀ i, (((bs.getD i 0) &&& 255).toUInt32 % 65536).toInt32 = bs.getD i 0) (hl : bs.length ≤ 100) (hk : ι 22 2 = 1) (hs : (ι 22 3).toInt = s) (he : (ι 22 4).toInt = e) (hse : s ≤ e) (he2 : e ≤ 160) (hb : ∀ q, (ι 23 q).toInt = b q) (h : ∀ r : Int32, (r = 0 ↔ ¬ nmP b s e bs) → Q (some (.int r)) ι) : PC xl n 25 0 [(0, .ref 22), (1, .ref (KB + o))] [] ι Q := by
  refine (t_25_0 ho1 ho2 ⟨fun c => absurd hk c, fun _ => ?_⟩).weak
  refine len_spec ho1 ho2 ?_
  intro r hr
  cases hr
  have hln : (Int32.ofNat bs.length).toInt = bs.length := i_of (by omega)
  have hsub : ((ι 22 4) - (ι 22 3)).toInt = e - s := by rw [i_sub (by rw [hs, he]; omega), hs, he]
  rw [i_eq, hsub, hln]
  refine ⟨fun c => ?_, fun c => ?_⟩
  · exact nameL2_spec ho1 ho2 hbs hl hs (by omega) (by omega) hb h n 0 0 rfl (fun k hk => absurd hk (by omega))
  · exact h 0 ⟨fun _ hh => c (by have := hh.1; omega), fun _ => rfl⟩
theorem is_spec {n k s e : Nat} {Q : Option Value → IS → Prop} {κ : IS} {x1 x2 x3 x4 : Int32} (hx : x1.toInt = k) (hk : 3 ≤ k) (hs : (κ 129 15).toInt = s) (he : (κ 129 14).toInt = e) (hse : s ≤ e) (heL : e ≤ L) (hL2 : L ≤ 160) (hL : (κ 129 13).toInt = L) (hb : ∀ q, (κ 135 q).toInt = b q) (h : ∀ r : Int32, (r = 0 ↔ ¬ (e = s + k ∧ b s = x2.toInt ∧ b (s + 1) = x3.toInt ∧ b (s + 2) = x4.toInt)) → Q (some (.int r)) κ) : PC xl n 156 0 [(0, .ref 129), (1, .int x1), (2, .int x2), (3, .int x3), (4, .int x4)] [] κ Q := by
  have hsub : ((κ 129 14) - (κ 129 15)).toInt = e - s := by rw [i_sub (by rw [hs, he]; omega), hs, he]
  have t1 : (1 : Int32).toInt = 1 := rfl
  have t2 : (2 : Int32).toInt = 2 := rfl
  have s1 : (κ 129 15 + 1).toInt = (s + 1 : Nat) := by rw [i_add (by rw [hs, t1]; omega), hs, t1]; rfl
  have s2 : (κ 129 15 + 2).toInt = (s + 2 : Nat) := by rw [i_add (by rw [hs, t2]; omega), hs, t2]; rfl
  refine (t_156_0 ?_).weak
  rw [i_eq, hsub, hx]
  refine ⟨fun c => h 0 ⟨fun _ hh => c (by omega), fun _ => rfl⟩, fun c => ?_⟩
  have e1 : e = s + k := by omega
  refine byteAt_spec hs hL hb ?_
  intro y hy r hr
  cases hr
  rw [if_pos (by omega)] at hy
  rw [i_eq, hy]
  refine ⟨fun c2 => h 0 ⟨fun _ hh => c2 hh.2.1, fun _ => rfl⟩, fun c2 => ?_⟩
  refine byteAt_spec s1 hL hb ?_
  intro y hy r hr
  cases hr
  rw [if_pos (by omega)] at hy
  rw [i_eq, hy]
  refine ⟨fun c3 => h 0 ⟨fun _ hh => c3 hh.2.2.1, fun _ => rfl⟩, fun c3 => ?_⟩
  refine byteAt_spec s2 hL hb ?_
  intro y hy r hr
  cases hr
  rw [if_pos (by omega)] at hy
  rw [i_eq, hy]
  exact ⟨fun c4 => h 0 ⟨fun _ hh => c4 hh.2.2.2, fun _ => rfl⟩, fun c4 => h 1 ⟨fun c => absurd c (by decide), fun hh => absurd ⟨e1, c2, c3, c4⟩ hh⟩⟩
theorem ends_spec {n s : Nat} {Q : Option Value → IS → Prop} {κ : IS} {x1 x2 x3 : Int32} (hs : (κ 129 15).toInt = s) (h3 : s + 3 < L) (h4 : ¬ x2 = 0 → s + 4 < L) (h5 : ¬ x3 = 0 → s + 5 < L) (hL2 : L ≤ 160) (hL : (κ 129 13).toInt = L) (hb : ∀ q, (κ 135 q).toInt = b q) (h : ∀ r : Int32, (r = 0 ↔ ¬ (b (s + 3) = x1.toInt ∧ (x2 = 0 ∨ b (s + 4) = x2.toInt) ∧ (x3 = 0 ∨ b (s + 5) = x3.toInt))) → Q (some (.int r)) κ) : PC xl n 157 0 [(0, .ref 129), (1, .int x1), (2, .int x2), (3, .int x3)] [] κ Q := by
  have t3 : (3 : Int32).toInt = 3 := rfl
  have t4 : (4 : Int32).toInt = 4 := rfl
  have t5 : (5 : Int32).toInt = 5 := rfl
  have s3 : (κ 129 15 + 3).toInt = (s + 3 : Nat) := by rw [i_add (by rw [hs, t3]; omega), hs, t3]; rfl
  have s4 : (κ 129 15 + 4).toInt = (s + 4 : Nat) := by rw [i_add (by rw [hs, t4]; omega), hs, t4]; rfl
  have s5 : (κ 129 15 + 5).toInt = (s + 5 : Nat) := by rw [i_add (by rw [hs, t5]; omega), hs, t5]; rfl
  have no : ¬ (b (s + 3) = x1.toInt ∧ (x2 = 0 ∨ b (s + 4) = x2.toInt) ∧ (x3 = 0 ∨ b (s + 5) = x3.toInt)) → Q (some (.int 0)) κ := fun hh => h 0 ⟨fun _ => hh, fun _ => rfl⟩
  have ye : (b (s + 3) = x1.toInt ∧ (x2 = 0 ∨ b (s + 4) = x2.toInt) ∧ (x3 = 0 ∨ b (s + 5) = x3.toInt)) → Q (some (.int 1)) κ := fun hh => h 1 ⟨fun c => absurd c (by decide), fun g => absurd hh g⟩
  refine (t_157_0 ?_).weak
  refine byteAt_spec s3 hL hb ?_
  intro y hy r hr
  cases hr
  rw [if_pos (by omega)] at hy
  rw [i_eq, hy]
  refine ⟨fun c => no fun hh => c hh.1, fun c => ⟨fun c2 => ⟨fun c3 => ye ⟨c, Or.inl c2, Or.inl c3⟩, fun c3 => ?_⟩, fun c2 => ?_⟩⟩
  · refine byteAt_spec s5 hL hb ?_
    intro y hy r hr
    cases hr
    rw [if_pos (h5 c3)] at hy
    rw [i_eq, hy]
    exact ⟨fun c4 => no fun hh => hh.2.2.elim c3 c4, fun c4 => ye ⟨c, Or.inl c2, Or.inr c4⟩⟩
  · refine byteAt_spec s4 hL hb ?_
    intro y hy r hr
    cases hr
    rw [if_pos (h4 c2)] at hy
    rw [i_eq, hy]
    refine ⟨fun c4 => no fun hh => hh.2.1.elim c2 c4, fun c4 => ⟨fun c3 => ye ⟨c, Or.inr c4, Or.inl c3⟩, fun c3 => ?_⟩⟩
    refine byteAt_spec s5 hL hb ?_
    intro y hy r hr
    cases hr
    rw [if_pos (h5 c3)] at hy
    rw [i_eq, hy]
    exact ⟨fun c5 => no fun hh => hh.2.2.elim c3 c5, fun c5 => ye ⟨c, Or.inr c4, Or.inr c5⟩⟩
end Names
end
section
/-! LINES: states of class and model while a text is read -/
abbrev TK : Type := Nat × Nat × Nat × Int
noncomputable def BX (b : Nat → Int) (L : Nat) (ι : IS) : Prop := L ≤ 160 ∧ (ι 22 1).toInt = L ∧ ∀ q, (ι 23 q).toInt = b q
noncomputable def BM (b : Nat → Int) (L : Nat) (κ : IS) : Prop := L ≤ 160 ∧ (κ 129 13).toInt = L ∧ (∀ q, (κ 135 q).toInt = b q) ∧ ∀ q, 0 ≤ b q
noncomputable def TX (ι : IS) (t : TK) : Prop := (ι 22 2).toInt = t.1 ∧ (ι 22 3).toInt = t.2.1 ∧ (ι 22 4).toInt = t.2.2.1 ∧ (t.1 = 2 → (ι 22 5).toInt = t.2.2.2)
noncomputable def TM (κ : IS) (t : TK) : Prop := (κ 129 15).toInt = t.2.1 ∧ (κ 129 14).toInt = t.2.2.1 ∧ (t.1 ≠ 4 → (κ 129 16).toInt = t.1 ∧ κ 129 18 = 0) ∧ (t.1 = 4 → κ 129 18 = 1 ∧ (κ 129 19).toInt = t.2.1) ∧ (t.1 = 2 → (κ 129 17).toInt = t.2.2.2)
/-- a token that stands behind some place -/
noncomputable def TBd (lo : Nat) (b : Nat → Int) (L : Nat) (t : TK) : Prop := t.1 ≤ 4 ∧ t.2.1 ≤ t.2.2.1 ∧ t.2.2.1 ≤ L ∧ (t.1 = 2 → 0 ≤ t.2.2.2 ∧ t.2.2.2 ≤ 99) ∧ (t.1 = 0 → t.2.1 = L) ∧ (¬ t.1 = 0 → t.2.1 < t.2.2.1) ∧ lo ≤ t.2.2.1
noncomputable def failI (ι : IS) (c : Int32) : IS := up (up ι 1 2 c) 1 3 (ι 22 3)
noncomputable def failM (κ : IS) (c : Int32) : IS := up (up κ 129 18 c) 129 19 (κ 129 15)
/-- both have met a fault, at the same place -/
noncomputable def FR (ι κ : IS) : Prop := ¬ ι 1 2 = 0 ∧ 0 < (κ 129 18).toInt ∧ ι 1 3 = κ 129 19
theorem rf_1_0 : rf 1 0 = 2 := rfl
theorem rf_1_1 : rf 1 1 = 22 := rfl
theorem rf_2_0 : rf 2 0 = 3 := rfl
theorem rf_2_1 : rf 2 1 = 18 := rfl
theorem rf_3_0 : rf 3 0 = 4 := rfl
theorem rf_3_1 : rf 3 1 = 9 := rfl
theorem rf_129_5 : rf 129 5 = 133 := by decide +kernel
theorem rf_129_11 : rf 129 11 = 134 := by decide +kernel
section Line
variable {xl : List Int32} {b : Nat → Int} {lo L n : Nat} {ι ι' κ κ' : IS} {t : TK} {Q : Option Value → IS → Prop} {x1 x2 : Int32}
theorem tok_b {p : Nat} (hp : p ≤ L) (hlo : lo ≤ p) : TBd lo b L (tokF b L p) ∧ p ≤ (tokF b L p).2.1 := by
  have s1 := skL_le (b := b) (lo := 32) (hi := 32) hp
  have s0 := skL_ge (b := b) (lo := 32) (hi := 32) (L := L) (p := p)
  unfold tokF
  generalize skL b 32 32 L p = s at s1 s0
  split
  · exact ⟨⟨by simp, by simp, by simp; omega, by simp, by simp; omega, by simp, by simp; omega⟩, s0⟩
  · rename_i h1
    have sL : s < L := by omega
    split
    · rename_i h2
      have := skL_le (b := b) (lo := 97) (hi := 122) s1
      exact ⟨⟨by simp, by simp; omega, by simp; omega, by simp, by simp, by simp; omega, by simp; omega⟩, s0⟩
    · split
      · rename_i h3
        have e1 := skL_le (b := b) (lo := 48) (hi := 57) s1
        have d0 := skL_all (b := b) (lo := 48) (hi := 57) (L := L) (p := s) (q := s) (Nat.le_refl _) h3
        split
        · exact ⟨⟨by simp, by simp; omega, by simp; omega, by simp, by simp, by simp; omega, by simp; omega⟩, s0⟩
        · rename_i h4
          refine ⟨⟨by simp, by simp; omega, by simp; omega, fun _ => ?_, by simp, by simp; omega, by simp; omega⟩, s0⟩
          simp only
          split
          · omega
          · have d1 := skL_all (b := b) (lo := 48) (hi := 57) (L := L) (p := s) (q := s + 1) (by omega) (by omega)
            omega
      · refine ⟨⟨?_, by simp, by simp; omega, ?_, ?_, by simp, by simp; omega⟩, s0⟩
        · simp only; split <;> omega
        · simp only; split <;> intro h <;> cases h
        · simp only; split <;> intro h <;> cases h
theorem tok_n {t : TK} (h : TBd lo b L t) : TBd lo b L (tokF b L t.2.2.1) := (tok_b h.2.2.1 h.2.2.2.2.2.2).1
theorem BX.tk (h : BX b L ι) {t : TK} (hk : tkX ι ι' t) : BX b L ι' := ⟨h.1, by rw [hk.1 22 1 (by simp)]; exact h.2.1, fun q => by rw [hk.1 23 q (by simp)]; exact h.2.2 q⟩
theorem TX.tk {t : TK} (hk : tkX ι ι' t) : TX ι' t := hk.2
theorem BM.tk (h : BM b L κ) {t : TK} (hk : tkM κ κ' t) : BM b L κ' := ⟨h.1, by rw [hk.1 129 13 (by simp)]; exact h.2.1, fun q => by rw [hk.1 135 q (by simp)]; exact h.2.2.1 q, h.2.2.2⟩
theorem TM.tk {t : TK} (hk : tkM κ κ' t) : TM κ' t := hk.2
theorem advT (hB : BX b L ι) (hT : TX ι t) (ht : TBd lo b L t) (h : ∀ ι' : IS, tkX ι ι' (tokF b L t.2.2.1) → Q none ι') : PC xl n 19 0 [(0, .ref 22)] [] ι Q := adv_spec hB.1 hT.2.2.1 ht.2.2.1 hB.2.1 hB.2.2 h
theorem nextT (hB : BM b L κ) (hT : TM κ t) (ht : TBd lo b L t) (h4 : t.1 ≠ 4) (h : ∀ κ' : IS, tkM κ κ' (tokF b L t.2.2.1) → Q none κ') : PC xl n 151 0 [(0, .ref 129)] [] κ Q := next_spec hB.1 hT.2.1 ht.2.2.1 hB.2.1 hB.2.2.1 hB.2.2.2 (hT.2.2.1 h4).2 h
theorem fail_spec (h : Q none (failI ι x1)) : PC xl n 24 0 [(0, .ref 1), (1, .int x1)] [] ι Q := by
  refine (t_24_0 ?_).weak
  rw [rf_1_1, show (up ι 1 2 x1) 22 3 = ι 22 3 from up_ne (by simp)]
  exact h
theorem stands_spec (h1 : ι 22 2 = x1 → Q (some (.int 1)) ι) (h2 : ¬ ι 22 2 = x1 → ∀ c, ¬ c = 0 → Q (some (.int 0)) (failI ι c)) : PC xl n 23 0 [(0, .ref 1), (1, .int x1)] [] ι Q := by
  refine (t_23_0 ?_).weak
  rw [rf_1_1]
  exact ⟨fun c => ⟨fun _ => fail_spec (h2 c 2 (by decide)), fun _ => fail_spec (h2 c 1 (by decide))⟩, h1⟩
theorem number_spec (h1 : ι 22 2 = 2 → ¬ x1 < ι 22 5 → Q (some (.int 1)) ι) (h2 : ¬ (ι 22 2 = 2 ∧ ¬ x1 < ι 22 5) → ∀ c, ¬ c = 0 → Q (some (.int 0)) (failI ι c)) : PC xl n 34 0 [(0, .ref 1), (1, .int x1)] [] ι Q := by
  refine (t_34_0 (stands_spec (fun c => ?_) (fun c k hk => ?_))).weak
  · intro r hr
    cases hr
    rw [rf_1_1]
    exact ⟨fun _ => ⟨fun g => h1 c g, fun g => fail_spec (h2 (fun hh => hh.2 g) 3 (by decide))⟩, fun g => absurd g (by decide)⟩
  · intro r hr
    cases hr
    exact ⟨fun g => absurd rfl g, fun _ => h2 (fun hh => c hh.1) k hk⟩
theorem endL_spec (hB : BX b L ι) (hT : TX ι t) (ht : TBd lo b L t) (h1 : t.1 = 3 → ∀ ι' : IS, tkX ι ι' (tokF b L t.2.2.1) → Q none ι') (h2 : t.1 ≠ 3 → ∀ c, ¬ c = 0 → Q none (failI ι c)) : PC xl n 36 0 [(0, .ref 1)] [] ι Q := by
  have t3 : (3 : Int32).toInt = 3 := rfl
  refine (t_36_0 (stands_spec (fun c => ?_) (fun c k hk => ?_))).weak
  · intro r hr
    cases hr
    rw [i_eq, hT.1, t3] at c
    refine ⟨fun g => absurd g (by decide), fun _ => ?_⟩
    rw [rf_1_1]
    exact advT hB hT ht (h1 (by omega))
  · intro r hr
    cases hr
    rw [i_eq, hT.1, t3] at c
    exact ⟨fun _ => h2 (by omega) k hk, fun g => absurd rfl g⟩
theorem looked_f (hf : ¬ κ 129 18 = 0) (h : Q (some (.int 0)) κ) : PC xl n 161 0 [(0, .ref 129), (1, .int x1), (2, .int x2)] [] κ Q := by
  refine (t_161_0 ⟨fun _ => ?_, fun c => absurd c hf⟩).weak
  refine (t_161_25 ⟨fun _ => ?_, fun c => absurd c hf⟩).weak
  exact (t_161_49 ⟨fun _ => h, fun c => absurd c hf⟩).weak
theorem looked_ok (hf : κ 129 18 = 0) (hn : κ 129 16 = 2) (h1 : x1.toInt ≤ (κ 129 17).toInt) (h2 : (κ 129 17).toInt ≤ x2.toInt) (h : Q (some (.int (κ 129 17))) κ) : PC xl n 161 0 [(0, .ref 129), (1, .int x1), (2, .int x2)] [] κ Q := by
  refine (t_161_0 ⟨fun c => absurd hf c, fun _ => ⟨fun c => absurd hn c, fun _ => ?_⟩⟩).weak
  refine needs_spec (fun _ => ?_) (fun c => absurd c (by decide))
  refine (t_161_25 ⟨fun c => absurd hf c, fun _ => ?_⟩).weak
  refine in_spec ?_
  rw [Int32.toInt_toInt64, Int32.toInt_toInt64, Int32.toInt_toInt64, if_pos ⟨h1, h2⟩]
  intro r hr
  cases hr
  refine needs_spec (fun _ => ?_) (fun c => absurd c (by decide))
  exact (t_161_49 ⟨fun c => absurd hf c, fun _ => h⟩).weak
theorem looked_bad (hf : κ 129 18 = 0) (hn : ¬ (κ 129 16 = 2 ∧ x1.toInt ≤ (κ 129 17).toInt ∧ (κ 129 17).toInt ≤ x2.toInt)) (h : ∀ c : Int32, 0 < c.toInt → Q (some (.int 0)) (failM κ c)) : PC xl n 161 0 [(0, .ref 129), (1, .int x1), (2, .int x2)] [] κ Q := by
  have f18 : ∀ c : Int32, (failM κ c) 129 18 = c := fun c => by unfold failM; rw [up_ne (by simp), up_same]
  refine (t_161_0 ⟨fun c => absurd hf c, fun _ => ⟨fun c => ?_, fun c => ?_⟩⟩).weak
  · refine needs_spec (fun hh => ?_) (fun _ _ => ?_)
    · rcases hh with hh | hh
      · exact absurd rfl hh
      · exact absurd hf hh
    · have g : ¬ (failM κ 2) 129 18 = 0 := by rw [f18]; decide
      refine (t_161_25 ⟨fun _ => ?_, fun c => absurd c g⟩).weak
      exact (t_161_49 ⟨fun _ => h 2 (by decide), fun c => absurd c g⟩).weak
  · refine needs_spec (fun _ => ?_) (fun c => absurd c (by decide))
    refine (t_161_25 ⟨fun c => absurd hf c, fun _ => ?_⟩).weak
    refine in_spec ?_
    rw [Int32.toInt_toInt64, Int32.toInt_toInt64, Int32.toInt_toInt64, if_neg (fun hh => hn ⟨c, hh⟩)]
    intro r hr
    cases hr
    refine needs_spec (fun hh => ?_) (fun _ _ => ?_)
    · rcases hh with hh | hh
      · exact absurd rfl hh
      · exact absurd hf hh
    · have g : ¬ (failM κ 3) 129 18 = 0 := by rw [f18]; decide
      exact (t_161_49 ⟨fun _ => h 3 (by decide), fun c => absurd c g⟩).weak
theorem nz {x : Int32} (h : 0 < x.toInt) : ¬ x = 0 := fun e => by rw [e] at h; exact absurd h (by decide)
theorem rdn_f (hf : 0 < (κ 129 18).toInt) (h : Q (some (.int 0)) κ) : PC xl n 160 0 [(0, .ref 129), (1, .int x1), (2, .int x2)] [] κ Q := by
  refine (t_160_0 (looked_f (nz hf) ?_)).weak
  intro r hr
  cases hr
  exact next_f hf h
theorem rdn_ok (hB : BM b L κ) (hT : TM κ t) (ht : TBd lo b L t) (h2 : t.1 = 2) (h3 : x1.toInt ≤ t.2.2.2) (h4 : t.2.2.2 ≤ x2.toInt) (h : ∀ κ' : IS, tkM κ κ' (tokF b L t.2.2.1) → Q (some (.int (κ 129 17))) κ') : PC xl n 160 0 [(0, .ref 129), (1, .int x1), (2, .int x2)] [] κ Q := by
  have e := hT.2.2.1 (by omega)
  have hv := hT.2.2.2.2 h2
  refine (t_160_0 (looked_ok e.2 ?_ (by rw [hv]; exact h3) (by rw [hv]; exact h4) ?_)).weak
  · rw [i_eq, e.1, h2]; rfl
  · intro r hr
    cases hr
    exact nextT hB hT ht (by omega) h
theorem rdn_bad (hT : TM κ t) (h4 : t.1 ≠ 4) (hn : ¬ (t.1 = 2 ∧ x1.toInt ≤ t.2.2.2 ∧ t.2.2.2 ≤ x2.toInt)) (h : ∀ c : Int32, 0 < c.toInt → Q (some (.int 0)) (failM κ c)) : PC xl n 160 0 [(0, .ref 129), (1, .int x1), (2, .int x2)] [] κ Q := by
  have e := hT.2.2.1 h4
  refine (t_160_0 (looked_bad e.2 (fun hh => ?_) (fun c hc => ?_))).weak
  · have e2 : t.1 = 2 := by
      have h1 := hh.1
      have t2 : (2 : Int32).toInt = 2 := rfl
      rw [i_eq, e.1, t2] at h1; omega
    have hv := hT.2.2.2.2 e2
    rw [hv] at hh
    exact hn ⟨e2, hh.2⟩
  · intro r hr
    cases hr
    refine next_f ?_ (h c hc)
    unfold failM; rw [up_ne (by simp), up_same]; exact hc
theorem FR.of (c : Int32) (hc : ¬ c = 0) {k : Int32} (hk : 0 < k.toInt) (he : ι 22 3 = κ 129 15) : FR (failI ι c) (failM κ k) := by
  refine ⟨?_, ?_, ?_⟩
  · unfold failI; rw [up_ne (by simp), up_same]; exact hc
  · unfold failM; rw [up_ne (by simp), up_same]; exact hk
  · unfold failI failM; rw [up_same, up_same]; exact he
theorem FR.of4 (c : Int32) (hc : ¬ c = 0) (hX : TX ι t) (hT : TM κ t) (h4 : t.1 = 4) : FR (failI ι c) κ := by
  obtain ⟨e1, e2⟩ := hT.2.2.2.1 h4
  refine ⟨?_, ?_, ?_⟩
  · unfold failI; rw [up_ne (by simp), up_same]; exact hc
  · rw [e1]; decide
  · unfold failI; rw [up_same, i_eq, hX.2.1, e2]
theorem TT_st (hX : TX ι t) (hT : TM κ t) : ι 22 3 = κ 129 15 := by rw [i_eq, hX.2.1, hT.1]
end Line
end
section
/-! LINES: the drafts of class and model -/
/-- an act, as a number -/
abbrev actP (z : Int) : Prop := (0 ≤ z ∧ z / 10 ≤ 3 ∧ z % 10 ≤ 3) ∨ (90 ≤ z ∧ z ≤ 92)
noncomputable def DV (nv : Nat) (ι κ : IS) : Prop := (∀ v, v < nv → ι (5 + v) 0 = κ 133 (4 * v) ∧ ι (5 + v) 1 = κ 133 (4 * v + 1) ∧ ι (5 + v) 2 = κ 133 (4 * v + 2) ∧ ι (5 + v) 3 = 0) ∧ ∀ v, v < 4 → κ 133 (4 * v + 3) = 0
noncomputable def DD (nd : Nat) (ι κ : IS) : Prop := ∀ d, d < 4 → ι (10 + 2 * d) 1 = κ 133 (16 + 9 * d) ∧ (0 ≤ (ι (10 + 2 * d) 1).toInt ∧ (ι (10 + 2 * d) 1).toInt ≤ 6) ∧ (nd ≤ d → ι (10 + 2 * d) 1 = 0) ∧ ι (10 + 2 * d) 2 = κ 134 d ∧ (ι (10 + 2 * d) 3 = 0 ∧ κ 133 (17 + 9 * d) = 0 ∧ κ 133 (18 + 9 * d) = 0) ∧ ∀ i : Nat, (i : Int) < (ι (10 + 2 * d) 1).toInt → ι (11 + 2 * d) i = κ 133 (19 + 9 * d + i)
noncomputable def DP (cnt : Nat) (ι κ : IS) : Prop := cnt ≤ 8 ∧ (ι 2 2).toInt = cnt ∧ (κ 133 52).toInt = cnt ∧ ∀ i, i < cnt → ι 18 i = κ 133 (53 + i) ∧ actP (ι 18 i).toInt
noncomputable def DH (cnt : Nat) (ι κ : IS) : Prop := (∀ i, i < cnt → (ι 18 i).toInt < 90 → (ι 18 i).toInt / 10 ≤ (κ 129 9).toInt ∧ (ι 18 i).toInt % 10 ≤ (κ 129 10).toInt) ∧ (∀ d : Nat, d < 4 → ¬ κ 134 d = 0 → (d : Int) ≤ (κ 129 10).toInt) ∧ ((κ 129 9).toInt = -4 ∨ ∃ i, i < cnt ∧ (ι 18 i).toInt < 90 ∧ (ι 18 i).toInt / 10 = (κ 129 9).toInt) ∧ ((κ 129 10).toInt = -4 ∨ (∃ i, i < cnt ∧ (ι 18 i).toInt < 90 ∧ (ι 18 i).toInt % 10 = (κ 129 10).toInt) ∨ ∃ d : Nat, d < 4 ∧ ¬ κ 134 d = 0 ∧ (d : Int) = (κ 129 10).toInt)
noncomputable def DR (nv nd cnt : Nat) (ι κ : IS) : Prop := (nv ≤ 4 ∧ (ι 3 2).toInt = nv ∧ (κ 129 6).toInt = nv) ∧ (nd ≤ 4 ∧ (ι 3 3).toInt = nd ∧ (κ 129 7).toInt = nd) ∧ (ι 1 4 = κ 129 8 ∧ (κ 129 8 = 0 ∨ κ 129 8 = 1)) ∧ DV nv ι κ ∧ DD nd ι κ ∧ DP cnt ι κ ∧ DH cnt ι κ ∧ (ι 2 6 = 0 ∧ κ 133 61 = 0)
/-- places that the drafts are told by -/
noncomputable def dX (a j : Nat) : Prop := a ≤ 21 ∧ ¬ (a = 1 ∧ (j = 2 ∨ j = 3))
noncomputable def dM (a j : Nat) : Prop := a = 133 ∨ a = 134 ∨ (a = 129 ∧ 6 ≤ j ∧ j ≤ 10)
/-- both read on: the token that they look at, the drafts -/
noncomputable def OK (lo : Nat) (b : Nat → Int) (L : Nat) (t : TK) (nv nd cnt : Nat) (ι κ : IS) : Prop := BX b L ι ∧ BM b L κ ∧ TX ι t ∧ TM κ t ∧ TBd lo b L t ∧ DR nv nd cnt ι κ ∧ ι 1 2 = 0
section Dr
variable {xl : List Int32} {b : Nat → Int} {lo L n nv nd cnt : Nat} {ι ι' κ κ' : IS} {t : TK}
theorem DR.congr (h : DR nv nd cnt ι κ) (h1 : ∀ a j, dX a j → ι' a j = ι a j) (h2 : ∀ a j, dM a j → κ' a j = κ a j) : DR nv nd cnt ι' κ' := by
  have x : ∀ a j, a ≤ 21 → ¬ a = 1 → ι' a j = ι a j := fun a j h3 h4 => h1 a j ⟨h3, fun e => h4 e.1⟩
  have m3 : ∀ j, κ' 133 j = κ 133 j := fun j => h2 133 j (Or.inl rfl)
  have m4 : ∀ j, κ' 134 j = κ 134 j := fun j => h2 134 j (Or.inr (Or.inl rfl))
  have m9 : ∀ j, 6 ≤ j → j ≤ 10 → κ' 129 j = κ 129 j := fun j g1 g2 => h2 129 j (Or.inr (Or.inr ⟨rfl, g1, g2⟩))
  obtain ⟨⟨a1, a2, a3⟩, ⟨b1, b2, b3⟩, c, d, e, f, g, i1, i2⟩ := h
  refine ⟨⟨a1, by rw [x 3 2 (by omega) (by omega)]; exact a2, by rw [m9 6 (by omega) (by omega)]; exact a3⟩, ⟨b1, by rw [x 3 3 (by omega) (by omega)]; exact b2, by rw [m9 7 (by omega) (by omega)]; exact b3⟩, ?_, ?_, ?_, ?_, ?_, by rw [x 2 6 (by omega) (by omega)]; exact i1, by rw [m3]; exact i2⟩
  · rw [h1 1 4 ⟨by omega, by omega⟩, m9 8 (by omega) (by omega)]; exact c
  · refine ⟨fun v hv => ?_, fun v hv => by rw [m3]; exact d.2 v hv⟩
    rw [x _ _ (by omega) (by omega), x _ _ (by omega) (by omega), x _ _ (by omega) (by omega), x _ _ (by omega) (by omega), m3, m3, m3]
    exact d.1 v hv
  · intro q hq
    obtain ⟨e1, e2, e3, e4, e5, e6⟩ := e q hq
    rw [x _ _ (by omega) (by omega), x _ _ (by omega) (by omega), x _ _ (by omega) (by omega), m3, m3, m3, m4]
    refine ⟨e1, e2, e3, e4, e5, fun i hi => ?_⟩
    rw [x _ _ (by omega) (by omega), m3]
    exact e6 i hi
  · refine ⟨f.1, by rw [x _ _ (by omega) (by omega)]; exact f.2.1, by rw [m3]; exact f.2.2.1, fun i hi => ?_⟩
    rw [x _ _ (by omega) (by omega), m3]
    exact f.2.2.2 i hi
  · have x18 : ∀ i, ι' 18 i = ι 18 i := fun i => x 18 i (by omega) (by omega)
    unfold DH at g ⊢
    simp only [x18, m4, m9 9 (by omega) (by omega), m9 10 (by omega) (by omega)]
    exact g
theorem tkX_d {t : TK} (hk : tkX ι ι' t) : ∀ a j, dX a j → ι' a j = ι a j := fun a j h => hk.1 a j (by unfold dX at h; omega)
theorem tkM_d {t : TK} (hk : tkM κ κ' t) : ∀ a j, dM a j → κ' a j = κ a j := fun a j h => hk.1 a j (by unfold dM at h; omega)
theorem tkX_f {t : TK} (hk : tkX ι ι' t) : ι' 1 2 = ι 1 2 := hk.1 1 2 (by simp)
/-- both go to the next token -/
theorem OK.next {t t2 : TK} {ι1 κ1 : IS} (h1 : BX b L ι) (h2 : BM b L κ) (hd : DR nv nd cnt ι κ) (h0 : ι 1 2 = 0) (hb : TBd lo b L t2) (hx : tkX ι ι1 t2) (hm : tkM κ κ1 t2) : OK lo b L t2 nv nd cnt ι1 κ1 := ⟨h1.tk hx, h2.tk hm, TX.tk hx, TM.tk hm, hb, hd.congr (tkX_d hx) (tkM_d hm), by rw [tkX_f hx]; exact h0⟩
end Dr
end
section
/-! NAMES: the class's words, the model's line -/
section Names2
variable {xl : List Int32} {b : Nat → Int} {L n : Nat} {ι κ : IS} {Q : Option Value → IS → Prop} {s e : Nat}
theorem conv_door : ∀ i, (((([100, 111, 111, 114] : List Int32).getD i 0) &&& 255).toUInt32 % 65536).toInt32 = ([100, 111, 111, 114] : List Int32).getD i 0
  | 0 => rfl
  | 1 => rfl
  | 2 => rfl
  | 3 => rfl
  | i + 4 => by
    have e : ([100, 111, 111, 114] : List Int32).getD (i + 4) 0 = 0 := rfl
    rw [e]; rfl
theorem nm_door : nmP b s e [100, 111, 111, 114] ↔ isDoorN b s e := by
  constructor
  · rintro ⟨h1, h2⟩
    exact ⟨h1, h2 0 (by simp), h2 1 (by simp), h2 2 (by simp), h2 3 (by simp)⟩
  · rintro ⟨h1, g0, g1, g2, g3⟩
    refine ⟨h1, fun i hi => ?_⟩
    match i, hi with
    | 0, _ => exact g0
    | 1, _ => exact g1
    | 2, _ => exact g2
    | 3, _ => exact g3
    | i + 4, hi => exact absurd hi (by simp)
theorem name_door (hk : ι 22 2 = 1) (hs : (ι 22 3).toInt = s) (he : (ι 22 4).toInt = e) (hse : s ≤ e) (he2 : e ≤ 160) (hb : ∀ q, (ι 23 q).toInt = b q) (h : ∀ r : Int32, (r = 0 ↔ ¬ isDoorN b s e) → Q (some (.int r)) ι) : PC xl n 25 0 [(0, .ref 22), (1, .ref (KB + 1))] [] ι Q :=
  nameIs_spec (o := 1) (bs := [100, 111, 111, 114]) (b := b) rfl rfl conv_door (by simp) hk hs he hse he2 hb (fun r hr => h r (by rw [← nm_door]; exact hr))
theorem conv_not : ∀ i, (((([110, 111, 116] : List Int32).getD i 0) &&& 255).toUInt32 % 65536).toInt32 = ([110, 111, 116] : List Int32).getD i 0
  | 0 => rfl
  | 1 => rfl
  | 2 => rfl
  | i + 3 => by
    have e : ([110, 111, 116] : List Int32).getD (i + 3) 0 = 0 := rfl
    rw [e]; rfl
theorem nm_not : nmP b s e [110, 111, 116] ↔ isNot b s e := by
  constructor
  · rintro ⟨h1, h2⟩
    exact ⟨h1, h2 0 (by simp), h2 1 (by simp), h2 2 (by simp)⟩
  · rintro ⟨h1, g0, g1, g2⟩
    refine ⟨h1, fun i hi => ?_⟩
    match i, hi with
    | 0, _ => exact g0
    | 1, _ => exact g1
    | 2, _ => exact g2
    | i + 3, hi => exact absurd hi (by simp)
theorem name_not (hk : ι 22 2 = 1) (hs : (ι 22 3).toInt = s) (he : (ι 22 4).toInt = e) (hse : s ≤ e) (he2 : e ≤ 160) (hb : ∀ q, (ι 23 q).toInt = b q) (h : ∀ r : Int32, (r = 0 ↔ ¬ isNot b s e) → Q (some (.int r)) ι) : PC xl n 25 0 [(0, .ref 22), (1, .ref (KB + 3))] [] ι Q :=
  nameIs_spec (o := 3) (bs := [110, 111, 116]) (b := b) rfl rfl conv_not (by simp) hk hs he hse he2 hb (fun r hr => h r (by rw [← nm_not]; exact hr))
theorem conv_plan : ∀ i, (((([112, 108, 97, 110] : List Int32).getD i 0) &&& 255).toUInt32 % 65536).toInt32 = ([112, 108, 97, 110] : List Int32).getD i 0
  | 0 => rfl
  | 1 => rfl
  | 2 => rfl
  | 3 => rfl
  | i + 4 => by
    have e : ([112, 108, 97, 110] : List Int32).getD (i + 4) 0 = 0 := rfl
    rw [e]; rfl
theorem nm_plan : nmP b s e [112, 108, 97, 110] ↔ isPlan b s e := by
  constructor
  · rintro ⟨h1, h2⟩
    exact ⟨h1, h2 0 (by simp), h2 1 (by simp), h2 2 (by simp), h2 3 (by simp)⟩
  · rintro ⟨h1, g0, g1, g2, g3⟩
    refine ⟨h1, fun i hi => ?_⟩
    match i, hi with
    | 0, _ => exact g0
    | 1, _ => exact g1
    | 2, _ => exact g2
    | 3, _ => exact g3
    | i + 4, hi => exact absurd hi (by simp)
theorem name_plan (hk : ι 22 2 = 1) (hs : (ι 22 3).toInt = s) (he : (ι 22 4).toInt = e) (hse : s ≤ e) (he2 : e ≤ 160) (hb : ∀ q, (ι 23 q).toInt = b q) (h : ∀ r : Int32, (r = 0 ↔ ¬ isPlan b s e) → Q (some (.int r)) ι) : PC xl n 25 0 [(0, .ref 22), (1, .ref (KB + 5))] [] ι Q :=
  nameIs_spec (o := 5) (bs := [112, 108, 97, 110]) (b := b) rfl rfl conv_plan (by simp) hk hs he hse he2 hb (fun r hr => h r (by rw [← nm_plan]; exact hr))
theorem conv_plain : ∀ i, (((([112, 108, 97, 105, 110] : List Int32).getD i 0) &&& 255).toUInt32 % 65536).toInt32 = ([112, 108, 97, 105, 110] : List Int32).getD i 0
  | 0 => rfl
  | 1 => rfl
  | 2 => rfl
  | 3 => rfl
  | 4 => rfl
  | i + 5 => by
    have e : ([112, 108, 97, 105, 110] : List Int32).getD (i + 5) 0 = 0 := rfl
    rw [e]; rfl
theorem nm_plain : nmP b s e [112, 108, 97, 105, 110] ↔ isPlain b s e := by
  constructor
  · rintro ⟨h1, h2⟩
    exact ⟨h1, h2 0 (by simp), h2 1 (by simp), h2 2 (by simp), h2 3 (by simp), h2 4 (by simp)⟩
  · rintro ⟨h1, g0, g1, g2, g3, g4⟩
    refine ⟨h1, fun i hi => ?_⟩
    match i, hi with
    | 0, _ => exact g0
    | 1, _ => exact g1
    | 2, _ => exact g2
    | 3, _ => exact g3
    | 4, _ => exact g4
    | i + 5, hi => exact absurd hi (by simp)
theorem name_plain (hk : ι 22 2 = 1) (hs : (ι 22 3).toInt = s) (he : (ι 22 4).toInt = e) (hse : s ≤ e) (he2 : e ≤ 160) (hb : ∀ q, (ι 23 q).toInt = b q) (h : ∀ r : Int32, (r = 0 ↔ ¬ isPlain b s e) → Q (some (.int r)) ι) : PC xl n 25 0 [(0, .ref 22), (1, .ref (KB + 7))] [] ι Q :=
  nameIs_spec (o := 7) (bs := [112, 108, 97, 105, 110]) (b := b) rfl rfl conv_plain (by simp) hk hs he hse he2 hb (fun r hr => h r (by rw [← nm_plain]; exact hr))
theorem conv_priest : ∀ i, (((([112, 114, 105, 101, 115, 116] : List Int32).getD i 0) &&& 255).toUInt32 % 65536).toInt32 = ([112, 114, 105, 101, 115, 116] : List Int32).getD i 0
  | 0 => rfl
  | 1 => rfl
  | 2 => rfl
  | 3 => rfl
  | 4 => rfl
  | 5 => rfl
  | i + 6 => by
    have e : ([112, 114, 105, 101, 115, 116] : List Int32).getD (i + 6) 0 = 0 := rfl
    rw [e]; rfl
theorem nm_priest : nmP b s e [112, 114, 105, 101, 115, 116] ↔ isPriest b s e := by
  constructor
  · rintro ⟨h1, h2⟩
    exact ⟨h1, h2 0 (by simp), h2 1 (by simp), h2 2 (by simp), h2 3 (by simp), h2 4 (by simp), h2 5 (by simp)⟩
  · rintro ⟨h1, g0, g1, g2, g3, g4, g5⟩
    refine ⟨h1, fun i hi => ?_⟩
    match i, hi with
    | 0, _ => exact g0
    | 1, _ => exact g1
    | 2, _ => exact g2
    | 3, _ => exact g3
    | 4, _ => exact g4
    | 5, _ => exact g5
    | i + 6, hi => exact absurd hi (by simp)
theorem name_priest (hk : ι 22 2 = 1) (hs : (ι 22 3).toInt = s) (he : (ι 22 4).toInt = e) (hse : s ≤ e) (he2 : e ≤ 160) (hb : ∀ q, (ι 23 q).toInt = b q) (h : ∀ r : Int32, (r = 0 ↔ ¬ isPriest b s e) → Q (some (.int r)) ι) : PC xl n 25 0 [(0, .ref 22), (1, .ref (KB + 9))] [] ι Q :=
  nameIs_spec (o := 9) (bs := [112, 114, 105, 101, 115, 116]) (b := b) rfl rfl conv_priest (by simp) hk hs he hse he2 hb (fun r hr => h r (by rw [← nm_priest]; exact hr))
theorem conv_miser : ∀ i, (((([109, 105, 115, 101, 114] : List Int32).getD i 0) &&& 255).toUInt32 % 65536).toInt32 = ([109, 105, 115, 101, 114] : List Int32).getD i 0
  | 0 => rfl
  | 1 => rfl
  | 2 => rfl
  | 3 => rfl
  | 4 => rfl
  | i + 5 => by
    have e : ([109, 105, 115, 101, 114] : List Int32).getD (i + 5) 0 = 0 := rfl
    rw [e]; rfl
theorem nm_miser : nmP b s e [109, 105, 115, 101, 114] ↔ isMiser b s e := by
  constructor
  · rintro ⟨h1, h2⟩
    exact ⟨h1, h2 0 (by simp), h2 1 (by simp), h2 2 (by simp), h2 3 (by simp), h2 4 (by simp)⟩
  · rintro ⟨h1, g0, g1, g2, g3, g4⟩
    refine ⟨h1, fun i hi => ?_⟩
    match i, hi with
    | 0, _ => exact g0
    | 1, _ => exact g1
    | 2, _ => exact g2
    | 3, _ => exact g3
    | 4, _ => exact g4
    | i + 5, hi => exact absurd hi (by simp)
theorem name_miser (hk : ι 22 2 = 1) (hs : (ι 22 3).toInt = s) (he : (ι 22 4).toInt = e) (hse : s ≤ e) (he2 : e ≤ 160) (hb : ∀ q, (ι 23 q).toInt = b q) (h : ∀ r : Int32, (r = 0 ↔ ¬ isMiser b s e) → Q (some (.int r)) ι) : PC xl n 25 0 [(0, .ref 22), (1, .ref (KB + 11))] [] ι Q :=
  nameIs_spec (o := 11) (bs := [109, 105, 115, 101, 114]) (b := b) rfl rfl conv_miser (by simp) hk hs he hse he2 hb (fun r hr => h r (by rw [← nm_miser]; exact hr))
theorem conv_spy : ∀ i, (((([115, 112, 121] : List Int32).getD i 0) &&& 255).toUInt32 % 65536).toInt32 = ([115, 112, 121] : List Int32).getD i 0
  | 0 => rfl
  | 1 => rfl
  | 2 => rfl
  | i + 3 => by
    have e : ([115, 112, 121] : List Int32).getD (i + 3) 0 = 0 := rfl
    rw [e]; rfl
theorem nm_spy : nmP b s e [115, 112, 121] ↔ isSpy b s e := by
  constructor
  · rintro ⟨h1, h2⟩
    exact ⟨h1, h2 0 (by simp), h2 1 (by simp), h2 2 (by simp)⟩
  · rintro ⟨h1, g0, g1, g2⟩
    refine ⟨h1, fun i hi => ?_⟩
    match i, hi with
    | 0, _ => exact g0
    | 1, _ => exact g1
    | 2, _ => exact g2
    | i + 3, hi => exact absurd hi (by simp)
theorem name_spy (hk : ι 22 2 = 1) (hs : (ι 22 3).toInt = s) (he : (ι 22 4).toInt = e) (hse : s ≤ e) (he2 : e ≤ 160) (hb : ∀ q, (ι 23 q).toInt = b q) (h : ∀ r : Int32, (r = 0 ↔ ¬ isSpy b s e) → Q (some (.int r)) ι) : PC xl n 25 0 [(0, .ref 22), (1, .ref (KB + 13))] [] ι Q :=
  nameIs_spec (o := 13) (bs := [115, 112, 121]) (b := b) rfl rfl conv_spy (by simp) hk hs he hse he2 hb (fun r hr => h r (by rw [← nm_spy]; exact hr))
theorem is_c {k : Nat} {x1 x2 x3 x4 : Int32} {c2 c3 c4 : Int} (hx : x1.toInt = k) (hk : 3 ≤ k) (g2 : x2.toInt = c2) (g3 : x3.toInt = c3) (g4 : x4.toInt = c4) (hB : BM b L κ) (hs : (κ 129 15).toInt = s) (he : (κ 129 14).toInt = e) (hse : s ≤ e) (heL : e ≤ L) (h : ∀ r : Int32, (r = 0 ↔ ¬ (e = s + k ∧ b s = c2 ∧ b (s + 1) = c3 ∧ b (s + 2) = c4)) → Q (some (.int r)) κ) : PC xl n 156 0 [(0, .ref 129), (1, .int x1), (2, .int x2), (3, .int x3), (4, .int x4)] [] κ Q := by
  refine is_spec hx hk hs he hse heL hB.1 hB.2.1 hB.2.2.1 ?_
  rw [g2, g3, g4]
  exact h
theorem line_spec (hB : BM b L κ) (hs : (κ 129 15).toInt = s) (he : (κ 129 14).toInt = e) (hse : s ≤ e) (heL : e ≤ L) (h : ∀ r : Int32, r.toInt = lineF b s e → Q (some (.int r)) κ) : PC xl n 155 0 [(0, .ref 129)] [] κ Q := by
  unfold lineF at h
  have e1 : ∀ {x1 : Int32} {c : Int}, x1.toInt = c → ∀ {R : Option Value → IS → Prop}, s + 3 < L → (∀ r : Int32, (r = 0 ↔ ¬ b (s + 3) = c) → R (some (.int r)) κ) → PC xl n 157 0 [(0, .ref 129), (1, .int x1), (2, .int 0), (3, .int 0)] [] κ R := by
    intro x1 c hc R h3 hh
    refine ends_spec hs h3 (fun q => absurd rfl q) (fun q => absurd rfl q) hB.1 hB.2.1 hB.2.2.1 (fun r hr => hh r ?_)
    rw [hr, hc]; simp
  have e2 : ∀ {x1 x2 : Int32} {c d : Int}, x1.toInt = c → x2.toInt = d → ¬ x2 = 0 → ∀ {R : Option Value → IS → Prop}, s + 4 < L → (∀ r : Int32, (r = 0 ↔ ¬ (b (s + 3) = c ∧ b (s + 4) = d)) → R (some (.int r)) κ) → PC xl n 157 0 [(0, .ref 129), (1, .int x1), (2, .int x2), (3, .int 0)] [] κ R := by
    intro x1 x2 c d hc hd h0 R h3 hh
    refine ends_spec hs (by omega) (fun _ => h3) (fun q => absurd rfl q) hB.1 hB.2.1 hB.2.2.1 (fun r hr => hh r ?_)
    rw [hr, hc, hd]; simp [h0]
  have e3 : ∀ {x1 x2 x3 : Int32} {c d f : Int}, x1.toInt = c → x2.toInt = d → x3.toInt = f → ¬ x2 = 0 → ¬ x3 = 0 → ∀ {R : Option Value → IS → Prop}, s + 5 < L → (∀ r : Int32, (r = 0 ↔ ¬ (b (s + 3) = c ∧ b (s + 4) = d ∧ b (s + 5) = f)) → R (some (.int r)) κ) → PC xl n 157 0 [(0, .ref 129), (1, .int x1), (2, .int x2), (3, .int x3)] [] κ R := by
    intro x1 x2 x3 c d f hc hd hf h0 h00 R h3 hh
    refine ends_spec hs (by omega) (fun _ => by omega) (fun _ => h3) hB.1 hB.2.1 hB.2.2.1 (fun r hr => hh r ?_)
    rw [hr, hc, hd, hf]; simp [h0, h00]
  have l129 : ¬ isPlain b s e → ¬ isPriest b s e → ¬ isMiser b s e → ¬ isSpy b s e → ¬ isDoorN b s e → PC xl n 155 129 [(0, .ref 129)] [] κ Q := by
    intro n1 n2 n3 n4 n5
    rw [if_neg n1, if_neg n2, if_neg n3, if_neg n4, if_neg n5] at h
    refine (t_155_129 (is_c (k := 3) (c2 := 110) (c3 := 111) (c4 := 116) rfl (by omega) rfl rfl rfl hB hs he hse heL ?_)).weak
    intro r hr r2 e2'
    cases e2'
    refine ⟨fun c => ?_, fun c => ?_⟩
    · have g := hr.mp c
      rw [if_neg g] at h
      refine is_c (k := 4) (c2 := 112) (c3 := 108) (c4 := 97) rfl (by omega) rfl rfl rfl hB hs he hse heL ?_
      intro r hr r2 e2'
      cases e2'
      refine ⟨fun c => ?_, fun c => ?_⟩
      · have g2 := hr.mp c
        rw [if_neg (fun hh => g2 ⟨hh.1, hh.2.1, hh.2.2.1, hh.2.2.2.1⟩)] at h
        exact h _ rfl
      · have g2 : e = s + 4 ∧ b s = 112 ∧ b (s + 1) = 108 ∧ b (s + 2) = 97 := by
          false_or_by_contra; rename_i hh; exact c (hr.mpr hh)
        refine e1 (c := 110) rfl (by omega) ?_
        intro r hr r2 e2'
        cases e2'
        refine ⟨fun c => ?_, fun c => ?_⟩
        · rw [if_neg (fun hh => hr.mp c hh.2.2.2.2)] at h
          exact h _ rfl
        · have g3 : b (s + 3) = 110 := by
            false_or_by_contra; rename_i hh; exact c (hr.mpr hh)
          rw [if_pos ⟨g2.1, g2.2.1, g2.2.2.1, g2.2.2.2, g3⟩] at h
          exact h _ rfl
    · have g : e = s + 3 ∧ b s = 110 ∧ b (s + 1) = 111 ∧ b (s + 2) = 116 := by
        false_or_by_contra; rename_i hh; exact c (hr.mpr hh)
      rw [if_pos g] at h
      exact h _ rfl
  have l86 : ¬ isPlain b s e → ¬ isPriest b s e → ¬ isMiser b s e → PC xl n 155 86 [(0, .ref 129)] [] κ Q := by
    intro n1 n2 n3
    refine (t_155_86 (is_c (k := 3) (c2 := 115) (c3 := 112) (c4 := 121) rfl (by omega) rfl rfl rfl hB hs he hse heL ?_)).weak
    intro r hr r2 e2'
    cases e2'
    refine ⟨fun c => ?_, fun c => ?_⟩
    · have g := hr.mp c
      refine is_c (k := 4) (c2 := 100) (c3 := 111) (c4 := 111) rfl (by omega) rfl rfl rfl hB hs he hse heL ?_
      intro r hr r2 e2'
      cases e2'
      refine ⟨fun c => ?_, fun c => ?_⟩
      · have g2 := hr.mp c
        exact l129 n1 n2 n3 g (fun hh => g2 ⟨hh.1, hh.2.1, hh.2.2.1, hh.2.2.2.1⟩)
      · have g2 : e = s + 4 ∧ b s = 100 ∧ b (s + 1) = 111 ∧ b (s + 2) = 111 := by
          false_or_by_contra; rename_i hh; exact c (hr.mpr hh)
        refine e1 (c := 114) rfl (by omega) ?_
        intro r hr r2 e2'
        cases e2'
        refine ⟨fun c => ?_, fun c => ?_⟩
        · exact l129 n1 n2 n3 g (fun hh => hr.mp c hh.2.2.2.2)
        · have g3 : b (s + 3) = 114 := by
            false_or_by_contra; rename_i hh; exact c (hr.mpr hh)
          rw [if_neg n1, if_neg n2, if_neg n3, if_neg g, if_pos ⟨g2.1, g2.2.1, g2.2.2.1, g2.2.2.2, g3⟩] at h
          exact h _ rfl
    · have g : e = s + 3 ∧ b s = 115 ∧ b (s + 1) = 112 ∧ b (s + 2) = 121 := by
        false_or_by_contra; rename_i hh; exact c (hr.mpr hh)
      rw [if_neg n1, if_neg n2, if_neg n3, if_pos g] at h
      exact h _ rfl
  have l58 : ¬ isPlain b s e → ¬ isPriest b s e → PC xl n 155 58 [(0, .ref 129)] [] κ Q := by
    intro n1 n2
    refine (t_155_58 (is_c (k := 5) (c2 := 109) (c3 := 105) (c4 := 115) rfl (by omega) rfl rfl rfl hB hs he hse heL ?_)).weak
    intro r hr r2 e2'
    cases e2'
    refine ⟨fun c => ?_, fun c => ?_⟩
    · have g := hr.mp c
      exact l86 n1 n2 (fun hh => g ⟨hh.1, hh.2.1, hh.2.2.1, hh.2.2.2.1⟩)
    · have g2 : e = s + 5 ∧ b s = 109 ∧ b (s + 1) = 105 ∧ b (s + 2) = 115 := by
        false_or_by_contra; rename_i hh; exact c (hr.mpr hh)
      refine e2 (c := 101) (d := 114) rfl rfl (by decide) (by omega) ?_
      intro r hr r2 e2'
      cases e2'
      refine ⟨fun c => l86 n1 n2 (fun hh => hr.mp c ⟨hh.2.2.2.2.1, hh.2.2.2.2.2⟩), fun c => ?_⟩
      have g3 : b (s + 3) = 101 ∧ b (s + 4) = 114 := by
        false_or_by_contra; rename_i hh; exact c (hr.mpr hh)
      rw [if_neg n1, if_neg n2, if_pos ⟨g2.1, g2.2.1, g2.2.2.1, g2.2.2.2, g3.1, g3.2⟩] at h
      exact h _ rfl
  have l28 : ¬ isPlain b s e → PC xl n 155 28 [(0, .ref 129)] [] κ Q := by
    intro n1
    refine (t_155_28 (is_c (k := 6) (c2 := 112) (c3 := 114) (c4 := 105) rfl (by omega) rfl rfl rfl hB hs he hse heL ?_)).weak
    intro r hr r2 e2'
    cases e2'
    refine ⟨fun c => ?_, fun c => ?_⟩
    · have g := hr.mp c
      exact l58 n1 (fun hh => g ⟨hh.1, hh.2.1, hh.2.2.1, hh.2.2.2.1⟩)
    · have g2 : e = s + 6 ∧ b s = 112 ∧ b (s + 1) = 114 ∧ b (s + 2) = 105 := by
        false_or_by_contra; rename_i hh; exact c (hr.mpr hh)
      refine e3 (c := 101) (d := 115) (f := 116) rfl rfl rfl (by decide) (by decide) (by omega) ?_
      intro r hr r2 e2'
      cases e2'
      refine ⟨fun c => l58 n1 (fun hh => hr.mp c ⟨hh.2.2.2.2.1, hh.2.2.2.2.2.1, hh.2.2.2.2.2.2⟩), fun c => ?_⟩
      have g3 : b (s + 3) = 101 ∧ b (s + 4) = 115 ∧ b (s + 5) = 116 := by
        false_or_by_contra; rename_i hh; exact c (hr.mpr hh)
      rw [if_neg n1, if_pos ⟨g2.1, g2.2.1, g2.2.2.1, g2.2.2.2, g3.1, g3.2.1, g3.2.2⟩] at h
      exact h _ rfl
  refine (t_155_0 (is_c (k := 5) (c2 := 112) (c3 := 108) (c4 := 97) rfl (by omega) rfl rfl rfl hB hs he hse heL ?_)).weak
  intro r hr r2 e2'
  cases e2'
  refine ⟨fun c => ?_, fun c => ?_⟩
  · have g := hr.mp c
    exact l28 (fun hh => g ⟨hh.1, hh.2.1, hh.2.2.1, hh.2.2.2.1⟩)
  · have g2 : e = s + 5 ∧ b s = 112 ∧ b (s + 1) = 108 ∧ b (s + 2) = 97 := by
      false_or_by_contra; rename_i hh; exact c (hr.mpr hh)
    refine e2 (c := 105) (d := 110) rfl rfl (by decide) (by omega) ?_
    intro r hr r2 e2'
    cases e2'
    refine ⟨fun c => l28 (fun hh => hr.mp c ⟨hh.2.2.2.2.1, hh.2.2.2.2.2⟩), fun c => ?_⟩
    have g3 : b (s + 3) = 105 ∧ b (s + 4) = 110 := by
      false_or_by_contra; rename_i hh; exact c (hr.mpr hh)
    rw [if_pos ⟨g2.1, g2.2.1, g2.2.2.1, g2.2.2.2, g3.1, g3.2⟩] at h
    exact h _ rfl
end Names2
end
section
/-! LINES: the end of a line; a visitor's -/
noncomputable def LO (lo : Nat) (b : Nat → Int) (L : Nat) (ι κ : IS) : Prop := (∃ t nv nd cnt, OK lo b L t nv nd cnt ι κ ∧ lo ≤ t.2.1) ∨ FR ι κ
/-- the class has looked for the end of the line, the model has not yet -/
noncomputable def EL (lo : Nat) (b : Nat → Int) (L : Nat) (ι κ : IS) : Prop := (∃ t nv nd cnt, BX b L ι ∧ BM b L κ ∧ TM κ t ∧ TBd lo b L t ∧ t.1 ≠ 4 ∧ DR nv nd cnt ι κ ∧ ((t.1 = 3 ∧ TX ι (tokF b L t.2.2.1) ∧ ι 1 2 = 0) ∨ (t.1 ≠ 3 ∧ ¬ ι 1 2 = 0 ∧ (ι 1 3).toInt = t.2.1))) ∨ FR ι κ
/-- a number of at most so much -/
abbrev nOK (t : TK) (m : Int) : Prop := t.1 = 2 ∧ t.2.2.2 ≤ m
noncomputable def FX (ι : IS) (p : Nat) : Prop := ¬ ι 1 2 = 0 ∧ (ι 1 3).toInt = p
noncomputable def FM (κ : IS) (p : Nat) : Prop := 0 < (κ 129 18).toInt ∧ (κ 129 19).toInt = p
section Vis
variable {xl : List Int32} {b : Nat → Int} {lo L n n2 nv nd cnt : Nat} {ι ι' κ κ' : IS} {t : TK} {Q : Option Value → IS → Prop} {x1 : Int32} {w : Value}
theorem FR.mk {p : Nat} (h1 : FX ι p) (h2 : FM κ p) : FR ι κ := ⟨h1.1, h2.1, by rw [i_eq, h1.2, h2.2]⟩
theorem FX.fail (hX : TX ι t) {c : Int32} (hc : ¬ c = 0) : FX (failI ι c) t.2.1 := by
  refine ⟨?_, ?_⟩
  · unfold failI; rw [up_ne (by simp), up_same]; exact hc
  · unfold failI; rw [up_same]; exact hX.2.1
theorem FM.fail (hT : TM κ t) {c : Int32} (hc : 0 < c.toInt) : FM (failM κ c) t.2.1 := by
  refine ⟨?_, ?_⟩
  · unfold failM; rw [up_ne (by simp), up_same]; exact hc
  · unfold failM; rw [up_same]; exact hT.1
theorem FM.four (hT : TM κ t) (h4 : t.1 = 4) : FM κ t.2.1 := by
  obtain ⟨e1, e2⟩ := hT.2.2.2.1 h4
  exact ⟨by rw [e1]; decide, e2⟩
theorem FM.congr {p : Nat} (h : FM κ p) (h1 : κ' 129 18 = κ 129 18) (h2 : κ' 129 19 = κ 129 19) : FM κ' p := by
  unfold FM; rw [h1, h2]; exact h
theorem tail_spec (h : EL lo b L ι κ) (hK : ∀ κ1 : IS, LO lo b L ι κ1 → Q none κ1) : PC xl n 154 140 [(0, .ref 129), (1, w)] [] κ Q := by
  have t3 : (3 : Int32).toInt = 3 := rfl
  rcases h with ⟨t, nv, nd, cnt, hX, hM, hT, hb, h4, hd, hh⟩ | hF
  · have e := hT.2.2.1 h4
    refine (t_154_140 ⟨fun c => absurd e.2 c, fun _ => ⟨fun c => ?_, fun c => ?_⟩⟩).weak
    · rw [i_eq, e.1, t3] at c
      rcases hh with ⟨g1, -, -⟩ | ⟨g1, g2, g3⟩
      · omega
      · refine needs_spec (fun hh => ?_) (fun _ _ => ?_)
        · rcases hh with hh | hh
          · exact absurd rfl hh
          · exact absurd e.2 hh
        · have f : FM (failM κ 2) t.2.1 := FM.fail hT (by decide)
          exact next_f f.1 (hK _ (Or.inr (FR.mk ⟨g2, g3⟩ f)))
    · rw [i_eq, e.1, t3] at c
      rcases hh with ⟨g1, g2, g3⟩ | ⟨g1, g2, g3⟩
      · refine needs_spec (fun _ => ?_) (fun c => absurd c (by decide))
        refine nextT hM hT hb h4 (fun κ1 hk => hK κ1 (Or.inl ⟨tokF b L t.2.2.1, nv, nd, cnt, ⟨hX, hM.tk hk, g2, TM.tk hk, tok_n hb, hd.congr (fun _ _ _ => rfl) (tkM_d hk), g3⟩, Nat.le_trans hb.2.2.2.2.2.2 (tok_b (lo := 0) hb.2.2.1 (Nat.zero_le _)).2⟩))
      · omega
  · refine (t_154_140 ⟨fun _ => ?_, fun c => absurd c (nz hF.2.1)⟩).weak
    exact next_f hF.2.1 (hK κ (Or.inr hF))
/-- the class behind the end of a line: it stood there (then the token behind it), or it is a fault -/
noncomputable def EX (b : Nat → Int) (L : Nat) (ι : IS) (t : TK) : Prop := (t.1 = 3 ∧ TX ι (tokF b L t.2.2.1) ∧ ι 1 2 = 0) ∨ (t.1 ≠ 3 ∧ FX ι t.2.1)
theorem re_9 : ∀ d, d < 4 → re 9 d = 10 + 2 * d := by decide
theorem re_4 : ∀ v, v < 4 → re 4 v = 5 + v := by decide
theorem rf_door : ∀ d, d < 4 → rf (10 + 2 * d) 0 = 11 + 2 * d := by decide
/-- the end of a line, by the class -/
theorem endX {t : TK} (hB : BX b L ι) (hT : TX ι t) (ht : TBd lo b L t) (h0 : ι 1 2 = 0) (h : ∀ ι' : IS, (∀ a j, dX a j → ι' a j = ι a j) → BX b L ι' → EX b L ι' t → Q none ι') : PC xl n 36 0 [(0, .ref 1)] [] ι Q := by
  refine endL_spec hB hT ht (fun h3 ι' hk => ?_) (fun h3 c hc => ?_)
  · exact h ι' (tkX_d hk) (hB.tk hk) (Or.inl ⟨h3, TX.tk hk, by rw [tkX_f hk]; exact h0⟩)
  · refine h _ (fun a j hd => ?_) ?_ (Or.inr ⟨h3, FX.fail hT hc⟩)
    · unfold failI; unfold dX at hd; rw [up_ne (by omega), up_ne (by omega)]
    · refine ⟨hB.1, ?_, fun q => ?_⟩
      · unfold failI; rw [up_ne (by simp), up_ne (by simp)]; exact hB.2.1
      · unfold failI; rw [up_ne (by simp), up_ne (by simp)]; exact hB.2.2 q
/-- the class reads a number -/
theorem numX {t : TK} (hT : TX ι t) (ht : TBd lo b L t) {m : Int} (hm : x1.toInt = m) (h1 : nOK t m → Q (some (.int 1)) ι) (h2 : ¬ nOK t m → ∀ ι' : IS, FX ι' t.2.1 → Q (some (.int 0)) ι') : PC xl n 34 0 [(0, .ref 1), (1, .int x1)] [] ι Q := by
  have t2e : (2 : Int32).toInt = 2 := rfl
  refine number_spec (fun c1 c2 => h1 ?_) (fun c k hk => h2 (fun hh => c ?_) _ (FX.fail hT hk))
  · rw [i_eq, hT.1, t2e] at c1
    have e : t.1 = 2 := by omega
    rw [i_lt, hT.2.2.2 e, hm] at c2
    exact ⟨e, by omega⟩
  · refine ⟨?_, ?_⟩
    · rw [i_eq, hT.1, hh.1]; rfl
    · rw [i_lt, hT.2.2.2 hh.1, hm]; have := hh.2; omega
/-- the class's way through a visitor's line, from its name on -/
theorem vX {s1 s2 s3 : TK} (e1 : tokF b L t.2.2.1 = s1) (e2 : tokF b L s1.2.2.1 = s2) (e3 : tokF b L s2.2.2.1 = s3) (hB : BX b L ι) (hT : TX ι t) (ht : TBd lo b L t) (hk : ¬ x1 = -4) (hnv : nv < 4) (hv : (ι 3 2).toInt = nv) (h0 : ι 1 2 = 0)
    (hF1 : ¬ nOK s1 5 → ∀ ι' : IS, FX ι' s1.2.1 → Q none ι')
    (hF2 : nOK s1 5 → ¬ nOK s2 99 → ∀ ι' : IS, FX ι' s2.2.1 → Q none ι')
    (hO : nOK s1 5 → nOK s2 99 → ∀ ι' : IS, (∀ a j, dX a j → ¬ (a = 5 + nv) → ¬ (a = 3 ∧ j = 2) → ι' a j = ι a j) → (ι' (5 + nv) 0 = x1 ∧ (ι' (5 + nv) 1).toInt = s1.2.2.2 ∧ (ι' (5 + nv) 2).toInt = s2.2.2.2 ∧ ι' (5 + nv) 3 = 0) → (ι' 3 2).toInt = nv + 1 → BX b L ι' → EX b L ι' s3 → Q none ι') :
    PC xl n 45 0 [(0, .ref 1), (1, .int x1)] [] ι Q := by
  have t4 : (4 : Int32).toInt = 4 := rfl
  have u1 : (1 : Int32).toInt = 1 := rfl
  have b1 : TBd lo b L s1 := e1 ▸ tok_n ht
  have b2 : TBd lo b L s2 := e2 ▸ tok_n b1
  have b3 : TBd lo b L s3 := e3 ▸ tok_n b2
  refine (t_45_0 ?_).weak
  rw [rf_1_0, rf_1_1, rf_2_0]
  refine ⟨fun _ => ⟨fun _ => ?_, fun c => ?_⟩, fun c => absurd c hk⟩
  rotate_left
  · rw [i_lt, hv, t4] at c; omega
  refine advT hB hT ht (fun ι1 k1 => ?_)
  rw [e1] at k1
  refine numX (TX.tk k1) b1 rfl (fun g1 => ?_) (fun g1 ι' hf => ?_)
  rotate_left
  · intro r hr
    cases hr
    exact ⟨fun c => absurd rfl c, fun _ => hF1 g1 ι' hf⟩
  intro r hr
  cases hr
  refine ⟨fun _ => ?_, fun c => absurd c (by decide)⟩
  refine advT (hB.tk k1) (TX.tk k1) b1 (fun ι2 k2 => ?_)
  rw [e2] at k2
  refine numX (TX.tk k2) b2 rfl (fun g2 => ?_) (fun g2 ι' hf => ?_)
  rotate_left
  · intro r hr
    cases hr
    exact ⟨fun c => absurd rfl c, fun _ => hF2 g1 g2 ι' hf⟩
  intro r hr
  cases hr
  refine ⟨fun _ => ?_, fun c => absurd c (by decide)⟩
  have d2 : ∀ a j, dX a j → ι2 a j = ι a j := fun a j hd => (tkX_d k2 a j hd).trans (tkX_d k1 a j hd)
  have v2 : (ι2 3 2).toInt = nv := by rw [d2 3 2 (by unfold dX; omega)]; exact hv
  refine (t_46_0 ⟨fun c => ?_, fun _ c1 c2 => ?_⟩).weak
  · rw [i_lt, v2, t4] at c; omega
  rw [rf_3_0, i_ixn v2, re_4 nv hnv]
  have p1 : (ι1 22 5).toInt = s1.2.2.2 := (TX.tk k1).2.2.2 g1.1
  have p2 : (ι2 22 5).toInt = s2.2.2.2 := (TX.tk k2).2.2.2 g2.1
  refine (t_46_43 ?_).weak
  have a1 : ((up (up (up (up ι2 (5 + nv) 0 x1) (5 + nv) 1 (ι1 22 5)) (5 + nv) 2 (ι2 22 5)) (5 + nv) 3 0) 3 2) = ι2 3 2 := by
    rw [up_ne (by omega), up_ne (by omega), up_ne (by omega), up_ne (by omega)]
  rw [a1]
  have f1 : ∀ a j, ¬ a = 5 + nv → ¬ (a = 3 ∧ j = 2) → (up (up (up (up (up ι2 (5 + nv) 0 x1) (5 + nv) 1 (ι1 22 5)) (5 + nv) 2 (ι2 22 5)) (5 + nv) 3 0) 3 2 (ι2 3 2 + 1)) a j = ι2 a j := fun a j h1 h2 => by
    rw [up_ne h2, up_ne (by omega), up_ne (by omega), up_ne (by omega), up_ne (by omega)]
  have f2 : ((up (up (up (up (up ι2 (5 + nv) 0 x1) (5 + nv) 1 (ι1 22 5)) (5 + nv) 2 (ι2 22 5)) (5 + nv) 3 0) 3 2 (ι2 3 2 + 1)) 3 2).toInt = nv + 1 := by
    rw [up_same, i_add (by rw [v2, u1]; omega), v2, u1]
  have f3 : (up (up (up (up (up ι2 (5 + nv) 0 x1) (5 + nv) 1 (ι1 22 5)) (5 + nv) 2 (ι2 22 5)) (5 + nv) 3 0) 3 2 (ι2 3 2 + 1)) (5 + nv) 0 = x1 := by
    rw [up_ne (by omega), up_ne (by simp), up_ne (by simp), up_ne (by simp), up_same]
  have f4 : (up (up (up (up (up ι2 (5 + nv) 0 x1) (5 + nv) 1 (ι1 22 5)) (5 + nv) 2 (ι2 22 5)) (5 + nv) 3 0) 3 2 (ι2 3 2 + 1)) (5 + nv) 1 = ι1 22 5 := by
    rw [up_ne (by omega), up_ne (by simp), up_ne (by simp), up_same]
  have f5 : (up (up (up (up (up ι2 (5 + nv) 0 x1) (5 + nv) 1 (ι1 22 5)) (5 + nv) 2 (ι2 22 5)) (5 + nv) 3 0) 3 2 (ι2 3 2 + 1)) (5 + nv) 2 = ι2 22 5 := by
    rw [up_ne (by omega), up_ne (by simp), up_same]
  have f6 : (up (up (up (up (up ι2 (5 + nv) 0 x1) (5 + nv) 1 (ι1 22 5)) (5 + nv) 2 (ι2 22 5)) (5 + nv) 3 0) 3 2 (ι2 3 2 + 1)) (5 + nv) 3 = 0 := by
    rw [up_ne (by omega), up_same]
  revert f1 f2 f3 f4 f5 f6
  generalize (up (up (up (up (up ι2 (5 + nv) 0 x1) (5 + nv) 1 (ι1 22 5)) (5 + nv) 2 (ι2 22 5)) (5 + nv) 3 0) 3 2 (ι2 3 2 + 1)) = ι3
  intro f1 f2 f3 f4 f5 f6
  have B3 : BX b L ι3 := ⟨hB.1, by rw [f1 22 1 (by omega) (by omega)]; exact ((hB.tk k1).tk k2).2.1, fun q => by rw [f1 23 q (by omega) (by omega)]; exact ((hB.tk k1).tk k2).2.2 q⟩
  have T3 : TX ι3 s2 := by
    obtain ⟨q1, q2, q3, q4⟩ := TX.tk k2
    refine ⟨?_, ?_, ?_, fun hh => ?_⟩
    · rw [f1 22 2 (by omega) (by omega)]; exact q1
    · rw [f1 22 3 (by omega) (by omega)]; exact q2
    · rw [f1 22 4 (by omega) (by omega)]; exact q3
    · rw [f1 22 5 (by omega) (by omega)]; exact q4 hh
  refine advT B3 T3 b2 (fun ι4 k4 => ?_)
  rw [e3] at k4
  have z4 : ι4 1 2 = 0 := by rw [tkX_f k4, f1 1 2 (by omega) (by omega), tkX_f k2, tkX_f k1]; exact h0
  refine endX (B3.tk k4) (TX.tk k4) b3 z4 (fun ι5 o5 B5 E5 => ?_)
  have o : ∀ a j, dX a j → ι5 a j = ι3 a j := fun a j hd => (o5 a j hd).trans (tkX_d k4 a j hd)
  refine hO g1 g2 ι5 (fun a j hd h1 h2 => ?_) ⟨?_, ?_, ?_, ?_⟩ ?_ B5 E5
  · rw [o a j hd, f1 a j h1 h2, d2 a j hd]
  · rw [o _ _ (by unfold dX; omega), f3]
  · rw [o _ _ (by unfold dX; omega), f4, p1]
  · rw [o _ _ (by unfold dX; omega), f5, p2]
  · rw [o _ _ (by unfold dX; omega), f6]
  · rw [o _ _ (by unfold dX; omega), f2]
end Vis
end
