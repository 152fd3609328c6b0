/-! TOKENS: the model's next, whole -/
section Next2
variable {xl : List Int32} {b : Nat → Int} {L : Nat}
theorem skL_pos {s : Nat} {lo hi : Int} (h : s < L) : s < skL b lo hi L s ↔ (lo ≤ b s ∧ b s ≤ hi) := by
  constructor
  · intro hh; exact skL_all (Nat.le_refl _) hh
  · intro hh
    rw [skL_in h hh]
    have := skL_ge (b := b) (lo := lo) (hi := hi) (L := L) (p := s + 1)
    omega
theorem next_f {n : Nat} {κ : IS} {Q : Option Value → IS → Prop} (hf : 0 < (κ 129 18).toInt) (h : Q none κ) : PC xl n 151 0 [(0, .ref 129)] [] κ Q := by
  refine (t_151_0 ⟨fun c => ?_, fun c => h⟩).weak
  rw [i_lt] at c
  exact absurd hf c
theorem next_spec {n p : Nat} {κ : IS} {Q : Option Value → IS → Prop} (hL2 : L ≤ 160) (hp : (κ 129 14).toInt = p) (hpL : p ≤ L) (hL : (κ 129 13).toInt = L) (hb : ∀ q, (κ 135 q).toInt = b q) (hb0 : ∀ q, 0 ≤ b q) (hf : κ 129 18 = 0) (h : ∀ κ' : IS, tkM κ κ' (tokF b L p) → Q none κ') : PC xl n 151 0 [(0, .ref 129)] [] κ Q := by
  refine (t_151_0 ⟨fun c => ?_, fun c => ?_⟩).weak
  rotate_left
  · rw [hf] at c; exact absurd c (by decide)
  refine mblank_spec hL2 n p κ hp hL hb ?_
  intro κ1 g1 g2
  have sle : skL b 32 32 L p ≤ L := skL_le hpL
  unfold tokF at h
  generalize skL b 32 32 L p = s at g2 h sle
  refine (t_151_34 ?_).weak
  have f5 : ((up κ1 129 15 (κ1 129 14)) 129 15).toInt = s := by rw [up_same]; exact g2
  have f4 : ((up κ1 129 15 (κ1 129 14)) 129 14).toInt = s := by rw [up_ne (by simp)]; exact g2
  have f13 : ((up κ1 129 15 (κ1 129 14)) 129 13).toInt = L := by rw [up_ne (by simp), g1 129 13 (by simp)]; exact hL
  have f18 : (up κ1 129 15 (κ1 129 14)) 129 18 = 0 := by rw [up_ne (by simp), g1 129 18 (by simp)]; exact hf
  have fb : ∀ q, ((up κ1 129 15 (κ1 129 14)) 135 q).toInt = b q := fun q => by rw [up_ne (by simp), g1 135 q (by simp)]; exact hb q
  have fo : ∀ a j, ¬ (a = 129 ∧ 14 ≤ j ∧ j ≤ 19) → (up κ1 129 15 (κ1 129 14)) a j = κ a j := fun a j hn => by rw [up_ne (by omega), g1 a j (by omega)]
  revert f5 f4 f13 f18 fb fo
  generalize up κ1 129 15 (κ1 129 14) = κ2
  intro f5 f4 f13 f18 fb fo
  have t97 : (97 : Int64).toInt = 97 := rfl
  have t122 : (122 : Int64).toInt = 122 := rfl
  have t48 : (48 : Int64).toInt = 48 := rfl
  have t57 : (57 : Int64).toInt = 57 := rfl
  have t1 : (1 : Int32).toInt = 1 := rfl
  have t0 : (0 : Int32).toInt = 0 := rfl
  refine byteAt_spec f4 f13 fb ?_
  intro y hy r hr
  cases hr
  refine ⟨fun c => ?_, fun c => ?_⟩
  · rw [i_lt, hy, t0] at c
    have hs : s < L := by
      false_or_by_contra
      rename_i hh
      rw [if_neg hh] at c
      omega
    rw [if_pos hs] at hy
    rw [if_neg (by omega)] at h
    refine in_spec ?_
    rw [t97, t122, Int32.toInt_toInt64, hy]
    intro r3 hr3
    injection hr3 with hr3
    injection hr3 with hr3
    refine ⟨fun c3 => ?_, fun c3 => ?_⟩
    · have nn : ¬ (97 ≤ b s ∧ b s ≤ 122) := by
        intro hh
        rw [if_pos hh] at hr3
        rw [← hr3] at c3
        exact absurd c3 (by decide)
      rw [if_neg (by rw [skL_pos hs]; exact nn)] at h
      refine in_spec ?_
      rw [t48, t57, Int32.toInt_toInt64, hy]
      intro r4 hr4
      injection hr4 with hr4
      injection hr4 with hr4
      refine ⟨fun c4 => ?_, fun c4 => ?_⟩
      · have nd : ¬ (48 ≤ b s ∧ b s ≤ 57) := by
          intro hh
          rw [if_pos hh] at hr4
          rw [← hr4] at c4
          exact absurd c4 (by decide)
        rw [if_neg (by rw [skL_pos hs]; exact nd)] at h
        have m18 : (up κ2 129 16 3) 129 18 = 0 := by rw [up_ne (by simp)]; exact f18
        have m15 : (up κ2 129 16 3) 129 15 = κ2 129 15 := up_ne (by simp)
        refine ⟨fun c5 => ?_, fun c5 => ?_⟩
        · rw [i_eq, hy] at c5
          have c5 : ¬ b s = 59 := c5
          rw [if_neg c5] at h
          refine needs_spec (fun hh => ?_) (fun _ _ => ?_)
          · rcases hh with hh | hh
            · exact absurd rfl hh
            · exact absurd m18 hh
          · refine h _ ⟨fun a j hn => ?_, ?_, ?_, fun hh => absurd rfl hh, fun _ => ⟨?_, ?_⟩, fun hh => absurd hh (by simp)⟩
            · rw [up_ne (by omega), up_ne (by omega), up_ne (by omega), up_ne (by omega), fo a j hn]
            · rw [up_ne (by simp), up_ne (by simp), up_ne (by simp), m15, f5]
            · rw [up_same, up_ne (by simp), up_ne (by simp), up_ne (by simp), i_add (by rw [f4, t1]; omega), f4, t1]; rfl
            · rw [up_ne (by simp), up_ne (by simp), up_same]
            · rw [up_ne (by simp), up_same, m15, f5]
        · rw [i_eq, hy] at c5
          have c5 : b s = 59 := c5
          rw [if_pos c5] at h
          refine needs_spec (fun _ => ?_) (fun hh => absurd hh (by simp))
          refine h _ ⟨fun a j hn => ?_, ?_, ?_, fun _ => ⟨?_, ?_⟩, fun hh => absurd hh (by simp), fun hh => absurd hh (by simp)⟩
          · rw [up_ne (by omega), up_ne (by omega), fo a j hn]
          · rw [up_ne (by simp), m15, f5]
          · rw [up_same, up_ne (by simp), i_add (by rw [f4, t1]; omega), f4, t1]; rfl
          · rw [up_ne (by simp), up_same]; rfl
          · rw [up_ne (by simp)]; exact m18
      · have nd : (48 ≤ b s ∧ b s ≤ 57) := by
          false_or_by_contra
          rename_i hh
          rw [if_neg hh] at hr4
          exact c4 hr4.symm
        have nd2 : s < skL b 48 57 L s := by rw [skL_pos hs]; exact nd
        rw [if_pos nd2] at h
        refine digL_spec (b := b) (s := s) hL2 n s _ ?_ ?_ (Nat.le_refl _) ?_ (fun k h1 h2 => absurd h2 (by omega)) ?_ ?_ ?_ ?_
        · rw [up_ne (by simp), up_ne (by simp)]; exact f4
        · rw [up_ne (by simp), up_ne (by simp)]; exact f5
        · rw [up_ne (by simp), up_ne (by simp)]; exact f13
        · rw [up_same]; unfold vD; rw [if_pos rfl]; rfl
        · rw [up_ne (by simp), up_ne (by simp)]; exact f18
        · intro k; rw [up_ne (by simp), up_ne (by simp)]; exact fb k
        · intro κ' k1 k2 k3 k4 k5
          have o : ∀ a j, ¬ (a = 129 ∧ 14 ≤ j ∧ j ≤ 19) → κ' a j = κ a j := fun a j hn => by rw [k1 a j (by omega), up_ne (by omega), up_ne (by omega), fo a j hn]
          have o15 : (κ' 129 15).toInt = s := by rw [k1 129 15 (by simp), up_ne (by simp), up_ne (by simp)]; exact f5
          by_cases h2 : s + 2 < skL b 48 57 L s
          · rw [if_pos h2] at h
            exact h κ' ⟨o, o15, k2, fun hh => absurd rfl hh, fun _ => k3 h2, fun hh => absurd hh (by simp)⟩
          · rw [if_neg h2] at h
            refine h κ' ⟨o, o15, k2, fun _ => ⟨?_, k4 h2⟩, fun hh => absurd hh (by simp), fun _ => ?_⟩
            · rw [k1 129 16 (by simp), up_ne (by simp), up_same]; rfl
            · rw [k5]; unfold vD; rw [if_neg (by omega)]
    · have nn : (97 ≤ b s ∧ b s ≤ 122) := by
        false_or_by_contra
        rename_i hh
        rw [if_neg hh] at hr3
        exact c3 hr3.symm
      rw [if_pos (by rw [skL_pos hs]; exact nn)] at h
      refine nameL_spec (b := b) hL2 n s _ ?_ ?_ ?_ ?_
      · rw [up_ne (by simp)]; exact f4
      · rw [up_ne (by simp)]; exact f13
      · intro k; rw [up_ne (by simp)]; exact fb k
      · intro κ' k1 k2
        refine h κ' ⟨fun a j hn => ?_, ?_, k2, fun _ => ⟨?_, ?_⟩, fun hh => absurd hh (by simp), fun hh => absurd hh (by simp)⟩
        · rw [k1 a j (by omega), up_ne (by omega), fo a j hn]
        · rw [k1 129 15 (by simp), up_ne (by simp)]; exact f5
        · rw [k1 129 16 (by simp), up_same]; rfl
        · rw [k1 129 18 (by simp), up_ne (by simp)]; exact f18
  · rw [i_lt, hy, t0] at c
    have hs : L ≤ s := by
      false_or_by_contra
      rename_i hh
      rw [if_pos (by omega)] at c
      have := hb0 s
      omega
    rw [if_pos hs] at h
    refine h _ ⟨fun a j hn => ?_, ?_, ?_, fun _ => ⟨?_, ?_⟩, fun hh => absurd hh (by simp), fun hh => absurd hh (by simp)⟩
    · rw [up_ne (by omega), fo a j hn]
    · rw [up_ne (by simp)]; exact f5
    · rw [up_ne (by simp)]; exact f4
    · rw [up_same]; rfl
    · rw [up_ne (by simp)]; exact f18
end Next2
