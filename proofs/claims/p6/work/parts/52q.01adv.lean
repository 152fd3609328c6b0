/-! TOKENS: Tape.advance -/
/-- the class's tape looks at a token -/
def tkX (ι ι' : IS) (t : Nat × Nat × Nat × Int) : Prop := (∀ a j, ¬ (a = 22 ∧ 2 ≤ j ∧ j ≤ 5) → ι' a j = ι a j) ∧ (ι' 22 2).toInt = t.1 ∧ (ι' 22 3).toInt = t.2.1 ∧ (ι' 22 4).toInt = t.2.2.1 ∧ (t.1 = 2 → (ι' 22 5).toInt = t.2.2.2)
section Adv
variable {xl : List Int32} {b : Nat → Int} {L : Nat}
theorem blank_spec {Q : Option Value → IS → Prop} (hL2 : L ≤ 160) : ∀ (n p : Nat) (ι : IS), (ι 22 4).toInt = p → (ι 22 1).toInt = L → (∀ q, (ι 23 q).toInt = b q) → (∀ ι' : IS, (∀ a j, ¬ (a = 22 ∧ j = 4) → ι' a j = ι a j) → (ι' 22 4).toInt = skL b 32 32 L p → PC xl n 19 38 [(0, .ref 22)] [] ι' Q) → PC xl n 19 0 [(0, .ref 22)] [] ι Q
  | 0, _, _, _, _, _, _ => PC.zero
  | n + 1, p, ι, hp, hL, hb, h => by
    have fin : skL b 32 32 L p = p → PC xl n 19 38 [(0, .ref 22)] [] ι Q := fun e => (h ι (fun _ _ _ => rfl) (by rw [e]; exact hp)).weak
    refine t_19_0 ⟨fun c => fin (skL_o1 ?_), fun c c1 c2 => ⟨fun c3 => fin (skL_o2 ?_ ?_), fun c3 => ?_⟩⟩
    · rw [i_lt, hp, hL] at c; omega
    · rw [i_lt, hp, hL] at c; omega
    · rw [rf_22_0, i_ixn hp, i_eq, hb] at c3
      have c3 : ¬ b p = 32 := c3
      omega
    · rw [i_lt, hp, hL] at c
      rw [rf_22_0, i_ixn hp, i_eq, hb] at c3
      have c3 : b p = 32 := c3
      have hs : skL b 32 32 L p = skL b 32 32 L (p + 1) := skL_in (by omega) (by omega)
      refine blank_spec hL2 n (p + 1) _ ?_ ?_ ?_ ?_
      · rw [up_same, i_add (by rw [hp]; simp; omega), hp]; rfl
      · rw [up_ne (by simp)]; exact hL
      · intro q; rw [up_ne (by simp)]; exact hb q
      · intro ι' h1 h2
        refine (h ι' (fun a j hn => ?_) (by rw [hs]; exact h2)).weak
        rw [h1 a j hn, up_ne hn]
theorem adv_spec {n p : Nat} {ι : IS} {Q : Option Value → IS → Prop} (hL2 : L ≤ 160) (hp : (ι 22 4).toInt = p) (hpL : p ≤ L) (hL : (ι 22 1).toInt = L) (hb : ∀ q, (ι 23 q).toInt = b q) (h : ∀ ι' : IS, tkX ι ι' (tokF b L p) → Q none ι') : PC xl n 19 0 [(0, .ref 22)] [] ι Q := by
  refine blank_spec hL2 n p ι hp hL hb ?_
  intro ι1 g1 g2
  have sle : skL b 32 32 L p ≤ L := skL_le hpL
  unfold tokF at h
  generalize skL b 32 32 L p = s at g2 h sle
  refine (t_19_38 ?_).weak
  have f3 : (up ι1 22 3 (ι1 22 4)) 22 3 = ι1 22 4 := up_same _ _ _ _
  have f4 : (up ι1 22 3 (ι1 22 4)) 22 4 = ι1 22 4 := up_ne (by simp)
  have f1 : (up ι1 22 3 (ι1 22 4)) 22 1 = ι 22 1 := by rw [up_ne (by simp), g1 22 1 (by simp)]
  have fb : ∀ q, ((up ι1 22 3 (ι1 22 4)) 23 q).toInt = b q := fun q => by rw [up_ne (by simp), g1 23 q (by simp)]; exact hb q
  have fo : ∀ a j, ¬ (a = 22 ∧ 2 ≤ j ∧ j ≤ 5) → (up ι1 22 3 (ι1 22 4)) a j = ι a j := fun a j hn => by rw [up_ne (by omega), g1 a j (by omega)]
  revert f3 f4 f1 fb fo
  generalize up ι1 22 3 (ι1 22 4) = ι2
  intro f3 f4 f1 fb fo
  have t97 : (97 : Int32).toInt = 97 := rfl
  have t122 : (122 : Int32).toInt = 122 := rfl
  have t48 : (48 : Int32).toInt = 48 := rfl
  have t57 : (57 : Int32).toInt = 57 := rfl
  have t1 : (1 : Int32).toInt = 1 := rfl
  refine ⟨fun c => ?_, fun c => ?_⟩
  · rw [i_lt, f4, f1, g2, hL] at c
    have c : s < L := by omega
    rw [if_neg (by omega)] at h
    refine skip_spec hL2 n s ι2 (by rw [f4]; exact g2) (by rw [f1]; exact hL) fb ?_
    rw [t97, t122]
    intro ι3 k1 k2 r hr
    rw [f3, g2] at hr
    have hr : (if (s : Int) < (skL b 97 122 L s : Int) then (1 : Int32) else 0) = r := by injection hr with hr; injection hr
    have k3 : (ι3 22 3).toInt = s := by rw [k1 22 3 (by simp), f3]; exact g2
    have ko : ∀ a j, ¬ (a = 22 ∧ 2 ≤ j ∧ j ≤ 5) → ι3 a j = ι a j := fun a j hn => by rw [k1 a j (by omega), fo a j hn]
    have kb : ∀ q, (ι3 23 q).toInt = b q := fun q => by rw [k1 23 q (by simp)]; exact fb q
    refine ⟨fun r0 => ?_, fun r0 => ?_⟩
    · have nn : ¬ s < skL b 97 122 L s := by
        intro hh
        rw [if_pos (by omega)] at hr
        rw [← hr] at r0
        exact absurd r0 (by decide)
      rw [if_neg nn] at h
      have e1 : skL b 97 122 L s = s := by have := skL_ge (b := b) (lo := 97) (hi := 122) (L := L) (p := s); omega
      refine skip_spec hL2 n s ι3 (by rw [k2, e1]) (by rw [k1 22 1 (by simp), f1]; exact hL) kb ?_
      rw [t48, t57]
      intro ι4 m1 m2 r2 hr2
      rw [k3] at hr2
      have hr2 : (if (s : Int) < (skL b 48 57 L s : Int) then (1 : Int32) else 0) = r2 := by injection hr2 with hr2; injection hr2
      have m3 : (ι4 22 3).toInt = s := by rw [m1 22 3 (by simp)]; exact k3
      have mo : ∀ a j, ¬ (a = 22 ∧ 2 ≤ j ∧ j ≤ 5) → ι4 a j = ι a j := fun a j hn => by rw [m1 a j (by omega), ko a j hn]
      have mb : ∀ q, (ι4 23 q).toInt = b q := fun q => by rw [m1 23 q (by simp)]; exact kb q
      refine ⟨fun q0 => ?_, fun q0 => ?_⟩
      · have nd : ¬ s < skL b 48 57 L s := by
          intro hh
          rw [if_pos (by omega)] at hr2
          rw [← hr2] at q0
          exact absurd q0 (by decide)
        rw [if_neg nd] at h
        have e2 : skL b 48 57 L s = s := by have := skL_ge (b := b) (lo := 48) (hi := 57) (L := L) (p := s); omega
        have m4 : (ι4 22 4).toInt = s := by rw [m2, e2]
        intro d1 d2
        rw [rf_22_0, i_ixn m4, i_eq, mb]
        have fin : ∀ k : Int32, (k.toInt = (if b s = 59 then (3 : Nat) else 4 : Nat)) → Q none (up (up ι4 22 2 k) 22 4 ((up ι4 22 2 k) 22 4 + 1)) := by
          intro k hk
          refine h _ ⟨fun a j hn => ?_, ?_, ?_, ?_, ?_⟩
          · rw [up_ne (by omega), up_ne (by omega), mo a j hn]
          · rw [up_ne (by simp), up_same, hk]
          · rw [up_ne (by simp), up_ne (by simp), m3]
          · rw [up_same, up_ne (by simp), i_add (by rw [m4, t1]; omega), m4, t1]; rfl
          · intro hh
            split at hh <;> simp at hh
        refine ⟨fun q1 => ?_, fun q1 => ?_⟩
        · exact fin 4 (by have q1 : ¬ b s = 59 := q1; rw [if_neg q1]; rfl)
        · exact fin 3 (by have q1 : b s = 59 := q1; rw [if_pos q1]; rfl)
      · have nd : s < skL b 48 57 L s := by
          false_or_by_contra
          rename_i hh
          rw [if_neg (by omega)] at hr2
          exact q0 hr2.symm
        rw [if_pos nd] at h
        have el := skL_le (b := b) (lo := 48) (hi := 57) (L := L) (p := s) (by omega)
        refine take_spec (b := b) (s := s) (e := skL b 48 57 L s) m3 m2 nd (by omega) mb (fun q h1 h2 => skL_all h1 h2) ?_
        intro ι5 u1 u2 u3
        by_cases h2 : s + 2 < skL b 48 57 L s
        · rw [if_pos h2] at h u2
          refine h _ ⟨fun a j hn => ?_, ?_, ?_, ?_, ?_⟩
          · rw [u1 a j (by omega), mo a j hn]
          · exact u2
          · rw [u1 22 3 (by simp), m3]
          · rw [u1 22 4 (by simp), m2]
          · intro hh; simp at hh
        · rw [if_neg h2] at h u2
          refine h _ ⟨fun a j hn => ?_, ?_, ?_, ?_, ?_⟩
          · rw [u1 a j (by omega), mo a j hn]
          · exact u2
          · rw [u1 22 3 (by simp), m3]
          · rw [u1 22 4 (by simp), m2]
          · intro _; exact u3 (by omega)
    · have nn : s < skL b 97 122 L s := by
        false_or_by_contra
        rename_i hh
        rw [if_neg (by omega)] at hr
        exact r0 hr.symm
      rw [if_pos nn] at h
      refine h _ ⟨fun a j hn => ?_, ?_, ?_, ?_, ?_⟩
      · rw [up_ne (by omega), ko a j hn]
      · rw [up_same]; rfl
      · rw [up_ne (by simp), k3]
      · rw [up_ne (by simp), k2]
      · intro hh; simp at hh
  · rw [i_lt, f4, f1, g2, hL] at c
    rw [if_pos (by omega)] at h
    refine h _ ⟨fun a j hn => ?_, ?_, ?_, ?_, ?_⟩
    · rw [up_ne (by omega), fo a j hn]
    · rw [up_same]; rfl
    · rw [up_ne (by simp), f3, g2]
    · rw [up_ne (by simp), f4, g2]
    · intro hh; simp at hh
end Adv
