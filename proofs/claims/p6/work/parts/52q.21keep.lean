/-! KEEP, by class and by model: what it answers, which images are kept then -/
theorem re_img0 : re (rf 0 3) 0 = 45 := by decide +kernel
theorem re_img1 : re (rf 0 3) 1 = 65 := by decide +kernel
def kC (x1 : Int32) (ι ι1 : IS) (v : Option Value) (a : Nat) : Prop := (∃ k : Nat, x1.toInt = k ∧ k < 2 ∧ v = some (.int (if ι a k = 0 then 0 else 1)) ∧ ∀ q, ι1 a q = if q = k then 1 else ι a q) ∨ (¬ (0 ≤ x1.toInt ∧ x1.toInt < 2) ∧ v = some (.int (-1)) ∧ ∀ q, ι1 a q = ι a q)
section Keep
variable {xl : List Int32} {n : Nat} {ι κ : IS} {x1 : Int32}
theorem keepX : PC xl n 130 0 [(0, .ref 0), (1, .int x1)] [] ι (fun v ι1 => kC x1 ι ι1 v 85) := by
  have t0 : (0 : Int32).toInt = 0 := rfl
  have t2 : (2 : Int32).toInt = 2 := rfl
  refine (t_130_0 ⟨fun c => ?_, fun c => ⟨fun c2 _ _ => ?_, fun c2 => ?_⟩⟩).weak
  · rw [i_lt, t0] at c
    exact Or.inr ⟨by omega, rfl, fun _ => rfl⟩
  · rw [i_lt, t0] at c
    rw [i_lt, t2] at c2
    obtain ⟨k, hk⟩ : ∃ k : Nat, x1.toInt = k := ⟨x1.toInt.toNat, by omega⟩
    have hk2 : k < 2 := by omega
    have hT : isTold (re (rf 0 3) k) ∧ ∀ a, a = 85 → ¬ (re (rf 0 3) k ≤ a ∧ a ≤ re (rf 0 3) k + 19) := by
      match k, hk2 with
      | 0, _ => rw [re_img0]; exact ⟨Or.inr (Or.inr (Or.inl rfl)), fun a h => by omega⟩
      | 1, _ => rw [re_img1]; exact ⟨Or.inr (Or.inr (Or.inr rfl)), fun a h => by omega⟩
    have fin : ∀ (ι1 : IS) (y : Int32), (y = if ι 85 k = 0 then 0 else 1) → Sm (re (rf 0 3) k) (re (rf 0 3) k + 19) ι ι1 → kC x1 ι (up ι1 85 k 1) (some (.int y)) 85 := by
      intro ι1 y hy hs
      refine Or.inl ⟨k, hk, hk2, by rw [hy], fun q => ?_⟩
      by_cases e : q = k
      · rw [if_pos e, e, up_same]
      · rw [if_neg e, up_ne (by omega), hs 85 q (hT.2 85 rfl)]
    rw [rf_0_4, i_ixn hk, show vp_nar .boolean 1 = 1 from rfl]
    refine ⟨fun e _ _ => toldB_sm hT.1 (fun ι1 hs _ _ => ?_), fun e _ _ => toldB_sm hT.1 (fun ι1 hs _ _ => ?_)⟩
    · exact fin ι1 0 (by rw [if_pos e]) hs
    · exact fin ι1 1 (by rw [if_neg e]) hs
  · rw [i_lt, t2] at c2
    exact Or.inr ⟨by omega, rfl, fun _ => rfl⟩
theorem copyM : ∀ (n : Nat) (κ : IS) (y z w : Int32) {Q : Option Value → IS → Prop}, (∀ κ', (∀ a j, ¬ a = 130 → κ' a j = κ a j) → Q none κ') → PC xl n 231 2 [(0, .ref 129), (1, .int y), (2, .int z), (3, .int w)] [] κ Q
  | 0, _, _, _, _, _, _ => PC.zero
  | n + 1, κ, y, z, w, Q, hq => by
    refine t_231_2 ⟨fun _ => hq κ (fun _ _ _ => rfl), fun _ _ _ _ _ => copyM n _ y z _ (fun κ' h => hq κ' (fun a j g => ?_))⟩
    rw [h a j g, rf_129_0, up_ne (by omega)]
theorem keepM : PC xl n 230 0 [(0, .ref 129), (1, .int x1)] [] κ (fun v κ1 => kC x1 κ κ1 v 132) := by
  have t0 : (0 : Int64).toInt = 0 := rfl
  have t1 : (1 : Int64).toInt = 1 := rfl
  refine (t_230_0 (in_spec ?_)).weak
  rw [Int32.toInt_toInt64, t0, t1]
  intro r hr
  have hr := r01 hr
  refine ⟨fun c _ _ => ?_, fun c => ?_⟩
  · have g : 0 ≤ x1.toInt ∧ x1.toInt ≤ 1 := by
      false_or_by_contra
      rename_i hh
      exact c (hr.mpr hh)
    obtain ⟨k, hk⟩ : ∃ k : Nat, x1.toInt = k := ⟨x1.toInt.toNat, by omega⟩
    have hk2 : k < 2 := by omega
    rw [rf_129_2, i_ixn hk, show vp_nar .boolean 1 = 1 from rfl]
    have fin : ∀ y : Int32, (y = if κ 132 k = 0 then 0 else 1) → ∀ r2, some (Value.int y) = some (.int r2) → PC xl n 231 0 [(0, .ref 129), (1, .int (80 * (x1 + 1))), (2, .int 0)] [] (up κ 132 k 1) (fun _ κ3 => kC x1 κ κ3 (some (.int r2)) 132) := by
      intro y hy r2 e
      cases e
      refine (t_231_0 (copyM n _ _ _ _ (fun κ' h => Or.inl ⟨k, hk, hk2, by rw [hy], fun q => ?_⟩))).weak
      rw [h 132 q (by omega)]
      by_cases e : q = k
      · rw [if_pos e, e, up_same]
      · rw [if_neg e, up_ne (by omega)]
    refine (t_175_0 ⟨fun e => ?_, fun e => ?_⟩).weak
    · intro r2 e2 _ _
      exact fin 0 (by rw [if_pos e]) r2 e2
    · intro r2 e2 _ _
      exact fin 1 (by rw [if_neg e]) r2 e2
  · have g : ¬ (0 ≤ x1.toInt ∧ x1.toInt ≤ 1) := hr.mp c
    exact Or.inr ⟨by omega, rfl, fun _ => rfl⟩
end Keep
