/-! FLAGS: which images are kept, over a text -/
def sX14 (a : Nat) : Bool := decide (1 ≤ a ∧ a ≤ 23)
def pX14 (k : Nat) : Bool := decide (14 ≤ k ∧ k ≤ 50)
def sM15 (a : Nat) : Bool := decide (129 ≤ a ∧ a ≤ 140 ∧ ¬ a = 130 ∧ ¬ a = 132)
def pM15 (k : Nat) : Bool := decide (k = 145 ∨ k = 148 ∨ (151 ≤ k ∧ k ≤ 165))
set_option maxRecDepth 100000 in
theorem cloX14 : sClo sX14 [] = true := by decide +kernel
set_option maxRecDepth 100000 in
theorem chkX14 : sChk pX14 [] [] = true := by decide +kernel
set_option maxRecDepth 100000 in
theorem cloM15 : sClo sM15 [(9, 0), (9, 2)] = true := by decide +kernel
set_option maxRecDepth 100000 in
theorem chkM15 : sChk pM15 [(9, 0), (9, 2)] [(9, 3), (9, 4)] = true := by decide +kernel
section Flag
variable {xl : List Int32} {n n2 mi : Nat} {lv : LVs} {ι κ κ0 : IS} {Q Q2 : Option Value → IS → Prop} {b : Nat → Int} {L : Nat}
theorem PC.and (h1 : PC xl n mi 0 lv [] ι Q) (h2 : PC xl n mi 0 lv [] ι Q2) : PC xl n mi 0 lv [] ι (fun v κ => Q v κ ∧ Q2 v κ) := fun F hs hi => (h1 F hs hi).and (h2 F hs hi)
theorem PC.side {S P : Nat → Bool} {B X : List (Nat × Nat)} (hc : sClo S B = true) (hk : sChk P B X = true) (hp : P mi = true) (hl : sLv S lv) : PC xl n mi 0 lv [] ι (fun _ κ => ∀ a j, (S a = false ∨ xf X a j = true) → κ a j = ι a j) := fun F hs hi => (PF.side hc hk hp hs hl sL_nil).imp (fun _ F1 h a j ha => by rw [← hi]; exact h a j ha)
theorem lv1 {S : Nat → Bool} {a : Nat} (h : S a = true) : sLv S [(0, .ref a)] := by
  intro q hq
  cases List.mem_singleton.mp hq
  intro b e
  cases e
  exact Or.inl h
/-- the class's reading leaves all but its own cells -/
theorem sideX : PC xl n 14 0 [(0, .ref 1)] [] ι (fun _ ι1 => ∀ a j, ¬ (1 ≤ a ∧ a ≤ 23) → ι1 a j = ι a j) := (PC.side cloX14 chkX14 rfl (lv1 rfl)).imp (fun _ ι1 h a j ha => h a j (Or.inl (by simpa [sX14] using ha)))
/-- the model's reading leaves what is told, and which images are kept -/
def mK (κ κ1 : IS) : Prop := ∀ a j, (a < 129 ∨ a = 130 ∨ a = 132 ∨ (a = 129 ∧ (j = 3 ∨ j = 4))) → κ1 a j = κ a j
theorem mK.trans {κ1 κ2 : IS} (h1 : mK κ κ1) (h2 : mK κ1 κ2) : mK κ κ2 := fun a j h => (h2 a j h).trans (h1 a j h)
theorem mK.rfl : mK κ κ := fun _ _ _ => Eq.refl _
theorem mK.up {κ1 : IS} {j : Nat} {x : Int32} (h1 : mK κ κ1) (hj : ¬ j = 3 ∧ ¬ j = 4) : mK κ (up κ1 129 j x) := fun a k h => by rw [up_ne (by omega)]; exact h1 a k h
theorem sideM (hp : pM15 mi = true) (hl : sLv sM15 lv) : PC xl n mi 0 lv [] κ (fun _ κ1 => mK κ κ1) := (PC.side cloM15 chkM15 hp hl).imp (fun _ κ1 h a j ha => h a j (by
  rcases ha with ha | ha | ha | ⟨ha, hj⟩
  · exact Or.inl (by simp [sM15]; omega)
  · exact Or.inl (by simp [sM15, ha])
  · exact Or.inl (by simp [sM15, ha])
  · refine Or.inr ?_
    subst ha
    rcases hj with rfl | rfl
    · decide +kernel
    · decide +kernel))
theorem u84 {x : Int32} (h : mK κ0 κ) : PC xl n 150 84 [(0, .ref 129), (1, .int x)] [] κ (fun _ κ1 => ¬ 0 < κ1 129 18 ∨ mK κ0 κ1) := by
  refine (t_150_84 ⟨fun c => kd_sm (fun κ' g => Or.inl ?_), fun _ => Or.inr (h.up (by omega))⟩).weak
  rw [g 129 18 (by omega) (by omega) (by omega)]
  exact c
theorem u44 {x : Int32} (h : mK κ0 κ) : PC xl n 150 44 [(0, .ref 129), (1, .int x)] [] κ (fun _ κ1 => ¬ 0 < κ1 129 18 ∨ mK κ0 κ1) := by
  have l3 : ∀ {p q : Int32}, sLv sM15 [(0, .ref 129), (1, .int p), (2, .int q)] := by
    intro p q w hw
    simp only [List.mem_cons, List.not_mem_nil, or_false] at hw
    rcases hw with rfl | rfl | rfl
    · intro b e; cases e; exact Or.inl (Eq.refl _)
    · exact sV_int
    · exact sV_int
  exact (t_150_44 ⟨fun _ => u84 h, fun _ => ⟨fun _ => (sideM rfl l3).imp (fun _ κ1 g => u84 (h.trans g)), fun _ => ⟨fun _ => (sideM rfl l3).imp (fun _ κ1 g => u84 (h.trans g)), fun _ => (sideM rfl l3).imp (fun _ κ1 g => u84 (h.trans g))⟩⟩⟩).weak
theorem u20 : ∀ (n : Nat) (κ : IS) (x : Int32), mK κ0 κ → PC xl n 150 20 [(0, .ref 129), (1, .int x)] [] κ (fun _ κ1 => ¬ 0 < κ1 129 18 ∨ mK κ0 κ1)
  | 0, _, _, _ => PC.zero
  | n + 1, κ, x, h => t_150_20 ⟨fun _ => u44 h, fun _ => ⟨fun _ => u44 h, fun _ => (sideM rfl (lv1 rfl)).imp (fun _ κ1 g => u20 n κ1 _ (h.trans g))⟩⟩
/-- the model's text: no fault at its end, or what is told stays -/
theorem uTxt : PC xl n 150 0 [(0, .ref 129)] [] κ (fun _ κ1 => ¬ 0 < κ1 129 18 ∨ mK κ κ1) :=
  (t_150_0 ((sideM rfl (lv1 rfl)).imp (fun _ κ1 g1 => (sideM rfl (lv1 rfl)).imp (fun _ κ2 g2 => u20 n κ2 0 ((((mK.rfl.up (by omega)).up (by omega)).trans g1).trans g2))))).weak
theorem kdZ2 : ∀ (n : Nat) (κ : IS) (x : Int32), (∀ κ', (∀ a j, ¬ a = 130 → ¬ a = 132 → κ' a j = κ a j) → κ' 132 0 = 0 → κ' 132 1 = 0 → Q none κ') → PC xl n 146 44 [(0, .ref 129), (1, .int x)] [] κ Q
  | 0, _, _, _ => PC.zero
  | n + 1, κ, x, hq => by
    refine t_146_44 ⟨fun _ _ _ _ _ => ?_, fun _ _ _ _ _ => kdZ2 n _ _ (fun κ' h1 h2 h3 => hq κ' (fun a j g1 g2 => ?_) h2 h3)⟩
    · rw [rf_129_2, show vp_nar .boolean 0 = 0 from rfl, show (0 : Int32).toNatClampNeg = 0 from rfl, show (1 : Int32).toNatClampNeg = 1 from rfl]
      refine hq _ (fun a j h1 h2 => ?_) ?_ ?_
      · rw [up_ne (by omega), up_ne (by omega)]
      · rw [up_ne (by omega), up_same]
      · rw [up_same]
    · rw [h1 a j g1 g2, rf_129_0, up_ne (by omega)]
theorem kdZ1 : ∀ (n : Nat) (κ : IS) (x : Int32), (∀ κ', (∀ a j, ¬ a = 130 → ¬ a = 132 → ¬ (a = 129 ∧ (j = 3 ∨ j = 4)) → κ' a j = κ a j) → κ' 132 0 = 0 → κ' 132 1 = 0 → Q none κ') → PC xl n 146 2 [(0, .ref 129), (1, .int x)] [] κ Q
  | 0, _, _, _ => PC.zero
  | n + 1, κ, x, hq => by
    refine t_146_2 ⟨fun _ => kdZ2 n _ _ (fun κ' h1 h2 h3 => hq κ' (fun a j g1 g2 g3 => ?_) h2 h3), fun _ _ _ _ _ => kdZ1 n _ _ (fun κ' h1 h2 h3 => hq κ' (fun a j g1 g2 g3 => ?_) h2 h3)⟩
    · rw [h1 a j g1 g2, up_ne (by omega), up_ne (by omega)]
    · rw [h1 a j g1 g2 g3, rf_129_0, up_ne (by omega)]
theorem kd_z (hq : ∀ κ', (∀ a j, ¬ a = 130 → ¬ a = 132 → ¬ (a = 129 ∧ (j = 3 ∨ j = 4)) → κ' a j = κ a j) → κ' 132 0 = 0 → κ' 132 1 = 0 → Q none κ') : PC xl n 146 0 [(0, .ref 129)] [] κ Q := (t_146_0 (kdZ1 n κ 0 hq)).weak
/-- a text, by class and model: answers the same, tapes empty, and the images that are kept: none in both, or as before in both -/
def fl2 (ι ι1 κ κ1 : IS) : Prop := (∀ q, q < 2 → ι1 85 q = 0 ∧ κ1 132 q = 0) ∨ ((∀ q, ι1 85 q = ι 85 q) ∧ ∀ q, κ1 132 q = κ 132 q)
theorem txt3 (hX : BX b L ι) (hM : BM b L κ) : PC xl n 13 0 [(0, .ref 0)] [] ι (fun v1 ι1 => PC xl n2 150 0 [(0, .ref 129)] [] κ (fun v2 κ1 => v1 = v2 ∧ ι1 22 1 = 0 ∧ κ1 129 13 = 0 ∧ fl2 ι ι1 κ κ1)) := by
  refine (t_13_0 ?_).weak
  rw [rf_0_0, rf_0_1, rf_0_2, rf_1_0]
  refine PC.imp (PC.and (text2 (n2 := n2) (K := fun v1 ι1 v2 κ1 => (∃ r, v1 = some (.int r) ∧ v2 = some (.int r)) ∧ κ1 129 13 = 0 ∧ ((ι1 1 2 = 0 ∧ κ1 132 0 = 0 ∧ κ1 132 1 = 0) ∨ (¬ ι1 1 2 = 0 ∧ 0 < κ1 129 18))) (b := b) (L := L) ?_ ?_ hX hM) sideX) (fun v1 ι1 hh0 => ?_)
  · intro x ι κ nv nd cnt _ _ e12 _ _ _
    refine kd_z (fun κ' h1 z0 z1 => ⟨⟨x, rfl, rfl⟩, ?_, Or.inl ⟨e12, z0, z1⟩⟩)
    rw [h1 129 13 (by omega) (by omega) (by omega), up_same]
  · intro ι κ fr
    refine ⟨⟨_, rfl, by rw [fr.2.2]⟩, up_same _ _ _ _, Or.inr ⟨fr.1, ?_⟩⟩
    rw [up_ne (by omega), i_lt]
    exact fr.2.1
  · obtain ⟨hh, hsd⟩ := hh0
    intro r1 e1
    have z : (up (up ι1 22 1 0) 0 9 ((up ι1 22 1 0) 1 2)) 22 1 = 0 := by rw [up_ne (by omega), up_same]
    have z9 : (up (up ι1 22 1 0) 0 9 ((up ι1 22 1 0) 1 2)) 0 9 = ι1 1 2 := by rw [up_same, up_ne (by omega)]
    have z85 : ∀ q, (up (up ι1 22 1 0) 0 9 ((up ι1 22 1 0) 1 2)) 85 q = ι 85 q := fun q => by rw [up_ne (by omega), up_ne (by omega), hsd 85 q (by omega)]
    have hu := PC.and hh (uTxt (xl := xl) (n := n2) (κ := κ))
    revert z z9 z85
    generalize (up (up ι1 22 1 0) 0 9 ((up ι1 22 1 0) 1 2)) = ι2
    intro z z9 z85
    refine ⟨fun c => ?_, fun c => toldB_sm (t := 24) (Or.inr (Or.inl rfl)) (fun ι3 h3 => ?_)⟩
    · rw [z9] at c
      refine hu.imp (fun v2 κ1 g => ?_)
      obtain ⟨⟨⟨r, q1, q2⟩, q3, q4⟩, q5⟩ := g
      refine ⟨by rw [q2, ← q1, e1], z, q3, Or.inr ⟨z85, fun q => ?_⟩⟩
      rcases q4 with q4 | q4
      · exact absurd q4.1 c
      · rcases q5 with q5 | q5
        · exact absurd q4.2 q5
        · exact q5 132 q (Or.inr (Or.inr (Or.inl rfl)))
    · rw [z9] at c
      refine keptL n 0 ι3 0 rfl (by omega) (fun ι4 o1 _ o3 => ?_)
      refine hu.imp (fun v2 κ1 g => ?_)
      obtain ⟨⟨⟨r, q1, q2⟩, q3, q4⟩, q5⟩ := g
      refine ⟨by rw [q2, ← q1, e1], by rw [o1 22 1 (by omega), h3 22 1 (by omega)]; exact z, q3, Or.inl (fun q hq => ⟨o3 q (by omega) hq, ?_⟩)⟩
      rcases q4 with q4 | q4
      · match q, hq with
        | 0, _ => exact q4.2.1
        | 1, _ => exact q4.2.2
      · exact absurd c q4.1
end Flag
