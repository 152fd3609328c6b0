/-! TOKENS: the model's next -/
/-- the model looks at a token -/
def tkM (κ κ' : IS) (t : Nat × Nat × Nat × Int) : Prop := (∀ a j, ¬ (a = 129 ∧ 14 ≤ j ∧ j ≤ 19) → κ' a j = κ a j) ∧ (κ' 129 15).toInt = t.2.1 ∧ (κ' 129 14).toInt = t.2.2.1 ∧ (t.1 ≠ 4 → (κ' 129 16).toInt = t.1 ∧ κ' 129 18 = 0) ∧ (t.1 = 4 → κ' 129 18 = 1 ∧ (κ' 129 19).toInt = t.2.1) ∧ (t.1 = 2 → (κ' 129 17).toInt = t.2.2.2)
def vD (b : Nat → Int) (s q : Nat) : Int := if q = s then 0 else if q = s + 1 then b s - 48 else (b s - 48) * 10 + b (s + 1) - 48
theorem rf_129_12 : rf 129 12 = 135 := rfl
section Next
variable {xl : List Int32} {b : Nat → Int} {L : Nat}
theorem byteAt_spec {n p : Nat} {κ : IS} {Q : Option Value → IS → Prop} {x : Int32} (hx : x.toInt = p) (hL : (κ 129 13).toInt = L) (hb : ∀ q, (κ 135 q).toInt = b q) (h : ∀ y : Int32, y.toInt = (if p < L then b p else -1) → Q (some (.int y)) κ) : PC xl n 152 0 [(0, .ref 129), (1, .int x)] [] κ Q := by
  refine (t_152_0 ⟨fun c => ?_, fun c c1 c2 => ?_⟩).weak
  · rw [i_lt, hx, hL] at c
    exact h _ (by rw [if_neg (by omega)]; rfl)
  · rw [i_lt, hx, hL] at c
    rw [rf_129_12, i_ixn hx]
    exact h _ (by rw [if_pos (by omega)]; exact hb p)
theorem in_spec {n : Nat} {ι : IS} {Q : Option Value → IS → Prop} {y0 y2 y4 : Int64} (h : Q (some (.int (if y2.toInt ≤ y0.toInt ∧ y0.toInt ≤ y4.toInt then 1 else 0))) ι) : PC xl n 148 0 [(0, .long y0), (2, .long y2), (4, .long y4)] [] ι Q := by
  refine (t_148_0 ⟨fun c => ?_, fun c => ⟨fun c2 => ?_, fun c2 => ?_⟩⟩).weak
  · rw [lg_cmp_lt, Int64.lt_iff_toInt_lt] at c
    rw [if_neg (by omega)] at h; exact h
  · rw [lg_cmp_gt, Int64.lt_iff_toInt_lt] at c2
    rw [if_neg (by omega)] at h; exact h
  · rw [lg_cmp_lt, Int64.lt_iff_toInt_lt] at c
    rw [lg_cmp_gt, Int64.lt_iff_toInt_lt] at c2
    rw [if_pos (by omega)] at h; exact h
theorem needs_spec {n : Nat} {κ : IS} {Q : Option Value → IS → Prop} {x1 x2 : Int32} (h1 : (¬ x1 = 0 ∨ ¬ κ 129 18 = 0) → Q none κ) (h2 : x1 = 0 → κ 129 18 = 0 → Q none (up (up κ 129 18 x2) 129 19 (κ 129 15))) : PC xl n 153 0 [(0, .ref 129), (1, .int x1), (2, .int x2)] [] κ Q := by
  refine (t_153_0 ⟨fun c => h1 (Or.inl c), fun c => ⟨fun c2 => h1 (Or.inr c2), fun c2 => ?_⟩⟩).weak
  have e : (up κ 129 18 x2) 129 15 = κ 129 15 := up_ne (by simp)
  rw [e]
  exact h2 c c2
theorem mblank_spec {Q : Option Value → IS → Prop} (hL2 : L ≤ 160) : ∀ (n p : Nat) (κ : IS), (κ 129 14).toInt = p → (κ 129 13).toInt = L → (∀ q, (κ 135 q).toInt = b q) → (∀ κ' : IS, (∀ a j, ¬ (a = 129 ∧ j = 14) → κ' a j = κ a j) → (κ' 129 14).toInt = skL b 32 32 L p → PC xl n 151 34 [(0, .ref 129)] [] κ' Q) → PC xl n 151 8 [(0, .ref 129)] [] κ Q
  | 0, _, _, _, _, _, _ => PC.zero
  | n + 1, p, κ, hp, hL, hb, h => by
    refine t_151_8 (byteAt_spec hp hL hb ?_)
    intro y hy r hr
    cases hr
    have t32 : (32 : Int32).toInt = 32 := rfl
    refine ⟨fun c => ?_, fun c => ?_⟩
    · refine (h κ (fun _ _ _ => rfl) ?_).weak
      rw [i_eq, hy, t32] at c
      by_cases hpl : p < L
      · rw [if_pos hpl] at c
        rw [skL_o2 hpl (by omega)]; exact hp
      · rw [skL_o1 (by omega)]; exact hp
    · rw [i_eq, hy, t32] at c
      have hpl : p < L := by
        false_or_by_contra
        rw [if_neg (by assumption)] at c
        omega
      rw [if_pos hpl] at c
      have hs : skL b 32 32 L p = skL b 32 32 L (p + 1) := skL_in hpl (by omega)
      refine mblank_spec hL2 n (p + 1) _ ?_ ?_ ?_ ?_
      · rw [up_same, i_add (by rw [hp]; simp; omega), hp]; rfl
      · rw [up_ne (by simp)]; exact hL
      · intro q; rw [up_ne (by simp)]; exact hb q
      · intro κ' h1 h2
        refine (h κ' (fun a j hn => ?_) (by rw [hs]; exact h2)).weak
        rw [h1 a j hn, up_ne hn]
theorem nameL_spec {Q : Option Value → IS → Prop} {w1 : Value} (hL2 : L ≤ 160) : ∀ (n p : Nat) (κ : IS), (κ 129 14).toInt = p → (κ 129 13).toInt = L → (∀ q, (κ 135 q).toInt = b q) → (∀ κ' : IS, (∀ a j, ¬ (a = 129 ∧ j = 14) → κ' a j = κ a j) → (κ' 129 14).toInt = skL b 97 122 L p → Q none κ') → PC xl n 151 82 [(0, .ref 129), (1, w1)] [] κ Q
  | 0, _, _, _, _, _, _ => PC.zero
  | n + 1, p, κ, hp, hL, hb, h => by
    refine t_151_82 (byteAt_spec hp hL hb ?_)
    intro y hy r hr
    cases hr
    refine in_spec ?_
    intro r2 hr2
    injection hr2 with hr2
    injection hr2 with hr2
    have t97 : (97 : Int64).toInt = 97 := rfl
    have t122 : (122 : Int64).toInt = 122 := rfl
    rw [t97, t122, Int32.toInt_toInt64, hy] at hr2
    refine ⟨fun c => ?_, fun c => ?_⟩
    · refine h κ (fun _ _ _ => rfl) ?_
      have hn : ¬ (97 ≤ (if p < L then b p else -1) ∧ (if p < L then b p else -1) ≤ 122) := by
        intro hh
        rw [if_pos hh] at hr2
        rw [← hr2] at c
        exact absurd c (by decide)
      by_cases hpl : p < L
      · rw [if_pos hpl] at hn
        rw [skL_o2 hpl hn]; exact hp
      · rw [skL_o1 (by omega)]; exact hp
    · have hn : (97 ≤ (if p < L then b p else -1) ∧ (if p < L then b p else -1) ≤ 122) := by
        false_or_by_contra
        rename_i hh
        rw [if_neg hh] at hr2
        exact c hr2.symm
      have hpl : p < L := by
        false_or_by_contra
        rename_i hh
        rw [if_neg hh] at hn
        omega
      rw [if_pos hpl] at hn
      have hs : skL b 97 122 L p = skL b 97 122 L (p + 1) := skL_in hpl hn
      refine nameL_spec hL2 n (p + 1) _ ?_ ?_ ?_ ?_
      · rw [up_same, i_add (by rw [hp]; simp; omega), hp]; rfl
      · rw [up_ne (by simp)]; exact hL
      · intro q; rw [up_ne (by simp)]; exact hb q
      · intro κ' h1 h2
        refine h κ' (fun a j hn => ?_) (by rw [hs]; exact h2)
        rw [h1 a j hn, up_ne hn]
theorem digL_spec {Q : Option Value → IS → Prop} {w1 : Value} {s : Nat} (hL2 : L ≤ 160) : ∀ (n q : Nat) (κ : IS), (κ 129 14).toInt = q → (κ 129 15).toInt = s → s ≤ q → (κ 129 13).toInt = L → (∀ k, s ≤ k → k < q → 48 ≤ b k ∧ b k ≤ 57) → (κ 129 17).toInt = vD b s q → κ 129 18 = 0 → (∀ k, (κ 135 k).toInt = b k) → (∀ κ' : IS, (∀ a j, ¬ (a = 129 ∧ (j = 14 ∨ j = 17 ∨ j = 18 ∨ j = 19)) → κ' a j = κ a j) → (κ' 129 14).toInt = skL b 48 57 L q → (s + 2 < skL b 48 57 L q → κ' 129 18 = 1 ∧ (κ' 129 19).toInt = s) → (¬ s + 2 < skL b 48 57 L q → κ' 129 18 = 0) → (κ' 129 17).toInt = vD b s (skL b 48 57 L q) → Q none κ') → PC xl n 151 140 [(0, .ref 129), (1, w1)] [] κ Q
  | 0, _, _, _, _, _, _, _, _, _, _, _ => PC.zero
  | n + 1, q, κ, hq, hs, hsq, hL, hd, hv, hf, hb, h => by
    refine t_151_140 (byteAt_spec hq hL hb ?_)
    intro y hy r hr
    cases hr
    refine in_spec ?_
    intro r2 hr2
    injection hr2 with hr2
    injection hr2 with hr2
    have t48 : (48 : Int64).toInt = 48 := rfl
    have t57 : (57 : Int64).toInt = 57 := rfl
    have u48 : (48 : Int32).toInt = 48 := rfl
    have u10 : (10 : Int32).toInt = 10 := rfl
    have u2 : (2 : Int32).toInt = 2 := rfl
    have u1 : (1 : Int32).toInt = 1 := rfl
    rw [t48, t57, Int32.toInt_toInt64, hy] at hr2
    have hrq := i_rng (κ 129 14)
    have hsub : ((κ 129 14) - (κ 129 15)).toInt = q - s := by rw [i_sub (by rw [hs, hq]; omega), hs, hq]
    refine ⟨fun c => ?_, fun c => ?_⟩
    · have hn : ¬ (48 ≤ (if q < L then b q else -1) ∧ (if q < L then b q else -1) ≤ 57) := by
        intro hh
        rw [if_pos hh] at hr2
        rw [← hr2] at c
        exact absurd c (by decide)
      have he : skL b 48 57 L q = q := by
        by_cases hpl : q < L
        · rw [if_pos hpl] at hn
          exact skL_o2 hpl hn
        · exact skL_o1 (by omega)
      rw [he] at h
      rw [i_lt, hsub, u2]
      refine ⟨fun c2 => ?_, fun c2 => ?_⟩
      · refine needs_spec (fun hh => ?_) (fun _ _ => ?_)
        · rcases hh with hh | hh
          · exact absurd rfl hh
          · exact absurd hf hh
        · refine h _ (fun a j hn => ?_) ?_ (fun _ => ⟨?_, ?_⟩) (fun hh => absurd hh (by omega)) ?_
          · rw [up_ne (by omega), up_ne (by omega)]
          · rw [up_ne (by simp), up_ne (by simp)]; exact hq
          · rw [up_ne (by simp), up_same]
          · rw [up_same]; exact hs
          · rw [up_ne (by simp), up_ne (by simp)]; exact hv
      · refine needs_spec (fun hh => ?_) (fun hh _ => absurd hh (by decide))
        exact h _ (fun _ _ _ => rfl) hq (fun hh => absurd hh (by omega)) (fun _ => hf) hv
    · have hn : (48 ≤ (if q < L then b q else -1) ∧ (if q < L then b q else -1) ≤ 57) := by
        false_or_by_contra
        rename_i hh
        rw [if_neg hh] at hr2
        exact c hr2.symm
      have hpl : q < L := by
        false_or_by_contra
        rename_i hh
        rw [if_neg hh] at hn
        omega
      rw [if_pos hpl] at hn hy
      have he : skL b 48 57 L q = skL b 48 57 L (q + 1) := skL_in hpl hn
      have hd2 : ∀ k, s ≤ k → k < q + 1 → 48 ≤ b k ∧ b k ≤ 57 := fun k h1 h2 => by
        by_cases e : k = q
        · rw [e]; exact hn
        · exact hd k h1 (by omega)
      have go : ∀ κ1 : IS, (∀ a j, ¬ (a = 129 ∧ (j = 14 ∨ j = 17)) → κ1 a j = κ a j) → (κ1 129 14).toInt = (q + 1 : Nat) → (κ1 129 17).toInt = vD b s (q + 1) → PC xl n 151 140 [(0, .ref 129), (1, w1)] [] κ1 Q := by
        intro κ1 g1 g2 g3
        refine digL_spec hL2 n (q + 1) κ1 g2 (by rw [g1 129 15 (by simp)]; exact hs) (by omega) (by rw [g1 129 13 (by simp)]; exact hL) hd2 g3 (by rw [g1 129 18 (by simp)]; exact hf) (fun k => by rw [g1 135 k (by simp)]; exact hb k) ?_
        rw [← he]
        intro κ' k1 k2 k3 k4 k5
        refine h κ' (fun a j hn => ?_) k2 k3 k4 k5
        rw [k1 a j hn, g1 a j (by omega)]
      have a1 : ((κ 129 14) + 1).toInt = (q + 1 : Nat) := by rw [i_add (by rw [hq, u1]; omega), hq, u1]; rfl
      rw [i_lt, hsub, u2]
      refine ⟨fun c2 => ?_, fun c2 => ?_⟩
      · refine go _ (fun a j hn => ?_) ?_ ?_
        · rw [up_ne (by omega), up_ne (by omega)]
        · rw [up_same, up_ne (by simp)]; exact a1
        · rw [up_ne (by simp), up_same, hv]
          unfold vD
          rw [if_neg (by omega), if_neg (by omega), if_neg (by omega), if_neg (by omega)]
      · refine byteAt_spec hq hL hb ?_
        intro y2 hy2 r5 hr5
        cases hr5
        rw [if_pos hpl] at hy2
        have hds : q = s + 1 → 48 ≤ b s ∧ b s ≤ 57 := fun e => hd s (by omega) (by omega)
        have hvr : 0 ≤ vD b s q ∧ vD b s q ≤ 9 := by
          unfold vD
          split
          · omega
          · rw [if_pos (by omega)]; have := hds (by omega); omega
        refine go _ (fun a j hn => ?_) ?_ ?_
        · rw [up_ne (by omega), up_ne (by omega)]
        · rw [up_same, up_ne (by simp)]; exact a1
        · rw [up_ne (by simp), up_same]
          have m1 : ((10 : Int32) * κ 129 17).toInt = 10 * vD b s q := by rw [i_mul (by rw [u10, hv]; omega), u10, hv]
          have m2 : ((10 : Int32) * κ 129 17 + y2).toInt = 10 * vD b s q + b q := by rw [i_add (by rw [m1, hy2]; omega), m1, hy2]
          rw [i_sub (by rw [m2, u48]; omega), m2, u48]
          unfold vD
          by_cases e : q = s
          · subst e
            rw [if_pos rfl, if_neg (by omega), if_pos rfl]; omega
          · have e2 : q = s + 1 := by omega
            subst e2
            rw [if_neg (by omega), if_pos rfl, if_neg (by omega), if_neg (by omega)]; omega
end Next
