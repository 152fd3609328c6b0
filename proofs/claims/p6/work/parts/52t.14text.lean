/-! CALLS, VIII: text -/
def sMx (a : Nat) : Bool := decide ((129 ≤ a ∧ a ≤ 136) ∨ a = 140)
def pMx (k : Nat) : Bool := decide (k = 145 ∨ k = 146 ∨ k = 148 ∨ (150 ≤ k ∧ k ≤ 165))
set_option maxRecDepth 100000 in
theorem cloMx : sClo sMx [(9, 28), (9, 29), (9, 30)] = true := by decide +kernel
set_option maxRecDepth 100000 in
theorem chkMx : sChk pMx [(9, 28), (9, 29), (9, 30)] [(9, 31)] = true := by decide +kernel
section Txt
variable {xl : List Int32} {n n2 : Nat} {ι ι1 κ κ1 : IS} {nv nd : Nat} {f g : Nat → Int32} {x1 : Int32} {Q : Option Value → IS → Prop} {b : Nat → Int} {L cnt : Nat}
/-- the model's text leaves SHEETS, what was torn -/
theorem sideMT : PC xl n 150 0 [(0, .ref 129)] [] κ (fun _ κ1 => ∀ a j, (a = 137 ∨ a = 138 ∨ a = 139 ∨ (a = 129 ∧ j = 31)) → κ1 a j = κ a j) :=
  (PC.side cloMx chkMx rfl (lv1 rfl)).imp (fun _ κ1 h a j ha => h a j (by
    rcases ha with rfl | rfl | rfl | ⟨rfl, rfl⟩
    · exact Or.inl rfl
    · exact Or.inl rfl
    · exact Or.inl rfl
    · exact Or.inr (by decide +kernel)))
/-- the row that a draft becomes -/
def drF (nd : Nat) (κ : IS) : Nat → Int32 := fun j => if j < 80 then (if j % 9 = 0 ∧ 18 ≤ j ∧ j < 18 + 9 * nd then κ 134 (j / 9 - 2) else κ 133 j) else 0
theorem kdX2 (h4 : nd ≤ 4) : ∀ (n d : Nat) (κ : IS) (x : Int32), x.toInt = d → d ≤ nd → (κ 129 4).toInt = nd → (∀ κ', (∀ a, ¬ a = 130 → ¬ a = 132 → κ' a = κ a) → κ' 132 0 = 0 → κ' 132 1 = 0 → (∀ j, κ' 130 j = if j % 9 = 0 ∧ 18 + 9 * d ≤ j ∧ j < 18 + 9 * nd then κ 134 (j / 9 - 2) else κ 130 j) → Q none κ') → PC xl n 146 44 [(0, .ref 129), (1, .int x)] [] κ Q
  | 0, _, _, _, _, _, _, _ => PC.zero
  | n + 1, d, κ, x, hx, hd, hn, hq => by
    refine t_146_44 ⟨fun c _ _ _ _ => ?_, fun c _ _ _ _ => ?_⟩
    · rw [i_lt, hx, hn] at c
      rw [rf_129_2, show vp_nar .boolean 0 = 0 from rfl, show (0 : Int32).toNatClampNeg = 0 from rfl, show (1 : Int32).toNatClampNeg = 1 from rfl]
      refine hq _ (fun a h1 h2 => by rw [up_oth h2, up_oth h2]) (by rw [up_ne (by omega), up_same]) (by rw [up_same]) (fun j => ?_)
      rw [if_neg (by omega), up_ne (by omega), up_ne (by omega)]
    · rw [i_lt, hx, hn] at c
      rw [rf_129_0, rf_129_11, i_ixn hx, ixD hx (by omega) (j := 2) rfl (by omega)]
      refine kdX2 h4 n (d + 1) _ (x + 1) (i_s hx (by omega)) (by omega) (by rw [up_ne (by omega)]; exact hn) (fun κ' h1 h2 h3 h5 => hq κ' (fun a g1 g2 => by rw [h1 a g1 g2, up_oth g1]) h2 h3 (fun j => ?_))
      rw [h5 j]
      by_cases e : j = 16 + 9 * d + 2
      · subst e
        rw [if_neg (by omega), up_same, if_pos (by omega), show (16 + 9 * d + 2) / 9 - 2 = d by omega]
      · by_cases g : j % 9 = 0 ∧ 18 + 9 * (d + 1) ≤ j ∧ j < 18 + 9 * nd
        · rw [if_pos g, if_pos (by omega), up_ne (by omega)]
        · rw [if_neg g, if_neg (by omega), up_ne (by omega)]
theorem kdX1 (h4 : nd ≤ 4) : ∀ (n k : Nat) (κ : IS) (x : Int32), x.toInt = k → k ≤ 80 → (κ 129 7).toInt = nd → (∀ κ', (∀ a, ¬ a = 129 → ¬ a = 130 → ¬ a = 132 → κ' a = κ a) → (∀ j, ¬ j = 3 → ¬ j = 4 → κ' 129 j = κ 129 j) → κ' 129 3 = κ 129 6 → κ' 129 4 = κ 129 7 → κ' 132 0 = 0 → κ' 132 1 = 0 → (∀ j, j < 80 → κ' 130 j = if j % 9 = 0 ∧ 18 ≤ j ∧ j < 18 + 9 * nd then κ 134 (j / 9 - 2) else if k ≤ j then κ 133 j else κ 130 j) → Q none κ') → PC xl n 146 2 [(0, .ref 129), (1, .int x)] [] κ Q
  | 0, _, _, _, _, _, _, _ => PC.zero
  | n + 1, k, κ, x, hx, hk, hn, hq => by
    refine t_146_2 ⟨fun c => ?_, fun c _ _ _ _ => ?_⟩
    · rw [i_lt, hx, n80] at c
      refine kdX2 h4 n 0 _ 0 rfl (Nat.zero_le _) (by rw [up_same, up_ne (by omega)]; exact hn) (fun κ' h1 h2 h3 h5 => hq κ' (fun a g1 g2 g3 => by rw [h1 a g2 g3, up_oth g1, up_oth g1]) (fun j g1 g2 => by rw [h1 129 (by omega) (by omega), up_ne (by omega), up_ne (by omega)]) (by rw [h1 129 (by omega) (by omega), up_ne (by omega), up_same]) (by rw [h1 129 (by omega) (by omega), up_same, up_ne (by omega)]) h2 h3 (fun j hj => ?_))
      rw [h5 j]
      by_cases g : j % 9 = 0 ∧ 18 + 9 * 0 ≤ j ∧ j < 18 + 9 * nd
      · rw [if_pos g, if_pos (by omega), up_ne (by omega), up_ne (by omega)]
      · rw [if_neg g, if_neg (by omega), if_neg (by omega), up_ne (by omega), up_ne (by omega)]
    · rw [i_lt, hx, n80] at c
      rw [rf_129_0, rf_129_5, i_ixn hx]
      refine kdX1 h4 n (k + 1) _ (x + 1) (i_s hx (by omega)) (by omega) (by rw [up_ne (by omega)]; exact hn) (fun κ' h1 h2 h3 h5 h6 h7 h8 => hq κ' (fun a g1 g2 g3 => by rw [h1 a g1 g2 g3, up_oth g2]) (fun j g1 g2 => by rw [h2 j g1 g2, up_ne (by omega)]) (by rw [h3, up_ne (by omega)]) (by rw [h5, up_ne (by omega)]) h6 h7 (fun j hj => ?_))
      rw [h8 j hj]
      by_cases g : j % 9 = 0 ∧ 18 ≤ j ∧ j < 18 + 9 * nd
      · rw [if_pos g, if_pos g, up_ne (by omega)]
      · rw [if_neg g, if_neg g]
        by_cases e : j = k
        · subst e
          rw [if_neg (by omega), if_pos (by omega), up_same]
        · by_cases g2 : k + 1 ≤ j
          · rw [if_pos g2, if_pos (by omega), up_ne (by omega)]
          · rw [if_neg g2, if_neg (by omega), up_ne (by omega)]
theorem kdX_spec (h4 : nd ≤ 4) (hn : (κ 129 7).toInt = nd) (hq : ∀ κ', (∀ a, ¬ a = 129 → ¬ a = 130 → ¬ a = 132 → κ' a = κ a) → (∀ j, ¬ j = 3 → ¬ j = 4 → κ' 129 j = κ 129 j) → κ' 129 3 = κ 129 6 → κ' 129 4 = κ 129 7 → κ' 132 0 = 0 → κ' 132 1 = 0 → rO 0 (κ' 130) = drF nd κ → Q none κ') : PC xl n 146 0 [(0, .ref 129)] [] κ Q := by
  refine (t_146_0 (kdX1 h4 n 0 κ 0 rfl (Nat.zero_le _) hn (fun κ' h1 h2 h3 h5 h6 h7 h8 => hq κ' h1 h2 h3 h5 h6 h7 ?_))).weak
  funext j
  unfold rO drF
  by_cases g : j < 80
  · rw [if_pos g, if_pos g, Nat.zero_add, h8 j g]
    by_cases g2 : j % 9 = 0 ∧ 18 ≤ j ∧ j < 18 + 9 * nd
    · rw [if_pos g2, if_pos g2]
    · rw [if_neg g2, if_neg g2, if_pos (Nat.zero_le _)]
  · rw [if_neg g, if_neg g]
theorem dr_o {j : Nat} (hj : j < 80) (h : ¬ (j % 9 = 0 ∧ 18 ≤ j ∧ j < 18 + 9 * nd)) : drF nd κ j = κ 133 j := by
  unfold drF; rw [if_pos hj, if_neg h]
theorem dr_d {d : Nat} (hd : d < nd) (h4 : nd ≤ 4) : drF nd κ (18 + 9 * d) = κ 134 d := by
  unfold drF; rw [if_pos (by omega), if_pos (by omega), show (18 + 9 * d) / 9 - 2 = d by omega]
/-- a draft that is told alike is the town that the model keeps -/
theorem DR.to (h : DR nv nd cnt ι κ) (hw : WH nv nd cnt ι) : TO 2 nv nd (drF nd κ) ι ∧ HB (drF nd κ) := by
  obtain ⟨⟨a1, a2, a3⟩, ⟨b1, b2, b3⟩, -, hV, hD, hP, hH, s1, s2⟩ := h
  have c8 := hP.1
  have e52 : drF nd κ 52 = κ 133 52 := dr_o (by omega) (by omega)
  have e61 : drF nd κ 61 = κ 133 61 := dr_o (by omega) (by omega)
  have p52 : (κ 133 52).toInt = cnt := hP.2.2.1
  refine ⟨⟨⟨⟨a1, a2⟩, ⟨b1, b2⟩, fun v hv => ?_, fun d hd => ?_⟩, ⟨?_, ?_, fun i hi => ?_⟩, ⟨?_, ?_, fun i hi => ?_⟩⟩, fun d hd => ?_⟩
  · obtain ⟨g1, g2, g3, g4⟩ := hV.1 v hv
    have g5 := hV.2 v (by omega)
    unfold VX
    rw [dr_o (by omega) (by omega), dr_o (by omega) (by omega), dr_o (by omega) (by omega), dr_o (by omega) (by omega), g5]
    rw [show 2 + 1 + 2 + v = 5 + v by omega]
    exact ⟨g1, g2, g3, g4⟩
  · obtain ⟨g1, g2, g3, g4, ⟨g5, g6, g7⟩, g8⟩ := hD d (by omega)
    unfold DX
    rw [show 2 + 1 + 7 + 2 * d = 10 + 2 * d by omega, dr_o (by omega) (by omega), dr_o (by omega) (by omega), dr_d hd b1]
    refine ⟨g1, by rw [g5, g6], g4, fun i hi => ?_⟩
    rw [← g1] at hi
    rw [show 10 + 2 * d + 1 = 11 + 2 * d by omega, g8 i hi, dr_o (by omega) (by omega)]
  · rw [e52, i_eq, hP.2.1, p52]
  · rw [e52, p52]; omega
  · rw [e52, p52] at hi
    obtain ⟨g1, g2⟩ := hP.2.2.2 i (by omega)
    have g3 := hw.1 i (by omega)
    rw [dr_o (by omega) (by omega), ← g1]
    refine ⟨rfl, ?_, g3⟩
    unfold actP at g2; omega
  · rw [e61, s1, s2]
  · rw [e61, s2]; decide
  · rw [e61, s2] at hi
    exact absurd hi (by rw [n0]; omega)
  · obtain ⟨g1, g2, -⟩ := hD d hd
    rw [dr_o (by omega) (by omega), ← g1]; exact g2
/-- a text, by class and model -/
theorem text_rel (h : RN nv nd ι κ) : PC xl n 13 0 [(0, .ref 0)] [] ι (fun v1 ι1 => PC xl n2 150 0 [(0, .ref 129)] [] κ (fun v2 κ1 => v1 = v2 ∧ ι1 22 1 = 0 ∧ κ1 129 13 = 0 ∧ ∃ nv nd : Nat, (nv ≤ 4 ∧ (κ1 129 3).toInt = nv) ∧ (nd ≤ 4 ∧ (κ1 129 4).toInt = nd) ∧ (TO 24 nv nd (rO 0 (κ1 130)) ι1 ∧ ι1 25 4 = -4) ∧ RI nv nd ι1 κ1 ∧ RS ι1 κ1)) := by
  obtain ⟨⟨a1, a2⟩, ⟨b1, b2⟩, ⟨c1, c3⟩, dd, ee, b, L, hX, hM⟩ := h
  refine (t_13_0 ?_).weak
  rw [rf_0_0, rf_0_1, rf_0_2, rf_1_0]
  refine PC.imp (PC.and (text2 (n2 := n2) (K := fun v1 ι1 v2 κ1 => (∃ r, v1 = some (.int r) ∧ v2 = some (.int r)) ∧ κ1 129 13 = 0 ∧ ((ι1 1 2 = 0 ∧ (κ1 132 0 = 0 ∧ κ1 132 1 = 0) ∧ ∃ nv nd : Nat, (nv ≤ 4 ∧ (κ1 129 3).toInt = nv) ∧ (nd ≤ 4 ∧ (κ1 129 4).toInt = nd) ∧ TO 2 nv nd (rO 0 (κ1 130)) ι1 ∧ HB (rO 0 (κ1 130))) ∨ (¬ ι1 1 2 = 0 ∧ 0 < κ1 129 18))) (b := b) (L := L) ?_ ?_ hX hM) sideX) (fun v1 ι1 hh0 => ?_)
  · intro x ι κ nv nd cnt _ _ e12 _ hD hW
    have hD2 : DR nv nd cnt ι (up κ 129 13 0) := hD.congr (fun _ _ _ => rfl) (fun a j g => up_ne (by unfold dM at g; omega))
    refine kdX_spec hD.2.1.1 hD2.2.1.2.2 (fun κ' h1 h2 h3 h4 z0 z1 h5 => ⟨⟨x, rfl, rfl⟩, ?_, Or.inl ⟨e12, ⟨z0, z1⟩, nv, nd, ⟨hD.1.1, by rw [h3]; exact hD2.1.2.2⟩, ⟨hD.2.1.1, by rw [h4]; exact hD2.2.1.2.2⟩, ?_⟩⟩)
    · rw [h2 13 (by omega) (by omega), up_same]
    · rw [h5]; exact hD2.to hW
  · intro ι κ fr
    refine ⟨⟨_, rfl, by rw [fr.2.2]⟩, up_same _ _ _ _, Or.inr ⟨fr.1, ?_⟩⟩
    rw [up_ne (by omega), i_lt]
    exact fr.2.1
  · obtain ⟨hh, hsd⟩ := hh0
    intro r1 e1
    have z : (up (up ι1 22 1 0) 0 9 ((up ι1 22 1 0) 1 2)) 22 1 = 0 := by rw [up_ne (by omega), up_same]
    have z9 : (up (up ι1 22 1 0) 0 9 ((up ι1 22 1 0) 1 2)) 0 9 = ι1 1 2 := by rw [up_same, up_ne (by omega)]
    have zk : ∀ a j, ¬ (1 ≤ a ∧ a ≤ 23) → ¬ (a = 0 ∧ j = 9) → (up (up ι1 22 1 0) 0 9 ((up ι1 22 1 0) 1 2)) a j = ι a j := fun a j g1 g2 => by rw [up_ne (by omega), up_ne (by omega), hsd a j g1]
    have zd : ∀ a j, ¬ (a = 22 ∧ j = 1) → ¬ (a = 0 ∧ j = 9) → (up (up ι1 22 1 0) 0 9 ((up ι1 22 1 0) 1 2)) a j = ι1 a j := fun a j g1 g2 => by rw [up_ne (by omega), up_ne (by omega)]
    have hu := PC.and (PC.and hh (uTxt (xl := xl) (n := n2) (κ := κ))) sideMT
    revert z z9 zk zd
    generalize (up (up ι1 22 1 0) 0 9 ((up ι1 22 1 0) 1 2)) = ι2
    intro z z9 zk zd
    have rs : ∀ ι3 κ1 : IS, (∀ a j, 121 ≤ a → a ≤ 128 → ι3 a j = ι a j) → ι3 0 10 = ι 0 10 → (∀ a j, (a = 137 ∨ a = 138 ∨ a = 139 ∨ (a = 129 ∧ j = 31)) → κ1 a j = κ a j) → RS ι3 κ1 := fun ι3 κ1 g1 g2 g3 => ee.keep g1 g2 ⟨funext (fun j => g3 137 j (by omega)), funext (fun j => g3 138 j (by omega)), funext (fun j => g3 139 j (by omega))⟩ (g3 129 31 (by omega))
    refine ⟨fun c => ?_, fun c => ?_⟩
    · rw [z9] at c
      refine hu.imp (fun v2 κ1 g => ?_)
      obtain ⟨⟨⟨⟨r, q1, q2⟩, q3, q4⟩, q5⟩, q6⟩ := g
      refine ⟨by rw [q2, ← q1, e1], z, q3, ?_⟩
      have k5 : mK κ κ1 := by
        rcases q4 with q4 | q4
        · exact absurd q4.1 c
        · exact q5.resolve_left (fun q => q q4.2)
      have r130 : κ1 130 = κ 130 := funext (fun j => k5 130 j (by omega))
      refine ⟨nv, nd, ⟨a1, by rw [k5 129 3 (by omega)]; exact a2⟩, ⟨b1, by rw [k5 129 4 (by omega)]; exact b2⟩, ⟨by rw [r130]; exact c1.keep (fun a j g1 g2 => zk a j (by omega) (by omega)), by rw [zk 25 4 (by omega) (by omega)]; exact c3⟩, ?_, ?_⟩
      · exact dd.keep (fun a j g1 g2 => zk a j (by omega) (by omega)) (funext (fun j => k5 132 j (by omega))) (fun j _ => by rw [r130])
      · exact rs ι2 κ1 (fun a j g1 g2 => zk a j (by omega) (by omega)) (zk 0 10 (by omega) (by omega)) q6
    · rw [z9] at c
      let PP : Option Value → IS → Option Value → IS → Prop := fun v1 ι3 v2 κ1 => v1 = v2 ∧ ι3 22 1 = 0 ∧ κ1 129 13 = 0 ∧ ∃ nv nd : Nat, (nv ≤ 4 ∧ (κ1 129 3).toInt = nv) ∧ (nd ≤ 4 ∧ (κ1 129 4).toInt = nd) ∧ (TO 24 nv nd (rO 0 (κ1 130)) ι3 ∧ ι3 25 4 = -4) ∧ RI nv nd ι3 κ1 ∧ RS ι3 κ1
      refine PC.imp (Q := fun _ κ2 => PC xl n2 150 0 [(0, .ref 129)] [] κ (fun v2 κ1 => PC xl n 13 50 [(0, .ref 0), (1, .int r1), (2, .int 0)] [] κ2 (fun v1 ι3 => PP v1 ι3 v2 κ1))) ?_ (fun _ κ2 hq => PC.swap (P := fun v2 κ1 v1 ι3 => PP v1 ι3 v2 κ1) hq)
      refine PC.swap (P := fun v2 κ1 _ κ2 => PC xl n 13 50 [(0, .ref 0), (1, .int r1), (2, .int 0)] [] κ2 (fun v1 ι3 => PP v1 ι3 v2 κ1)) ?_
      refine hu.imp (fun v2 κ1 g => ?_)
      obtain ⟨⟨⟨⟨r, q1, q2⟩, q3, q4⟩, q5⟩, q6⟩ := g
      rcases q4 with ⟨-, ⟨k0, k1⟩, nv', nd', u1, u2, u3, u4⟩ | ⟨q4, -⟩
      · refine tolB_spec (t := 24) (s := 2) (by decide) (by decide) (by omega) u4 (u3.keep (fun a j g1 g2 => zd a j (by omega) (by omega))) (fun ι3 s1 t1 b1 => keptL n 0 ι3 0 rfl (by omega) (fun ι4 o1 _ o3 => ?_))
        refine ⟨by rw [q2, ← q1, e1], by rw [o1 22 1 (by omega), s1 22 1 (by omega)]; exact z, q3, nv', nd', u1, u2, ⟨t1.keep (fun a j g1 g2 => o1 a j (by omega)), by rw [o1 25 4 (by omega)]; exact b1⟩, fun k hk => ?_, ?_⟩
        · have k9 : κ1 132 k = 0 := by
            match k, hk with
            | 0, _ => exact k0
            | 1, _ => exact k1
          exact ⟨by rw [o3 k (by omega) hk, k9], fun q => absurd k9 q⟩
        · exact rs ι4 κ1 (fun a j g1 g2 => by rw [o1 a j (by omega), s1 a j (by omega)]; exact zk a j (by omega) (by omega)) (by rw [o1 0 10 (by omega), s1 0 10 (by omega)]; exact zk 0 10 (by omega) (by omega)) q6
      · exact absurd c q4
end Txt
