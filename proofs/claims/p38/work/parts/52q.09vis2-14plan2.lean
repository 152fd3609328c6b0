section
/-! LINES: a visitor's, by class and model -/
section Vis2
variable {xl : List Int32} {b : Nat → Int} {lo L n n2 nv nd cnt : Nat} {ι ι' κ κ' : IS} {t : TK} {Q : Option Value → IS → Prop} {x1 : Int32} {w : Value}
theorem TM.congr {t : TK} (h : TM κ t) (h1 : ∀ j, 14 ≤ j → j ≤ 19 → κ' 129 j = κ 129 j) : TM κ' t := by
  unfold TM
  rw [h1 14 (by omega) (by omega), h1 15 (by omega) (by omega), h1 16 (by omega) (by omega), h1 17 (by omega) (by omega), h1 18 (by omega) (by omega), h1 19 (by omega) (by omega)]
  exact h
theorem BM.congr (h : BM b L κ) (h1 : κ' 129 13 = κ 129 13) (h2 : ∀ q, κ' 135 q = κ 135 q) : BM b L κ' := ⟨h.1, by rw [h1]; exact h.2.1, fun q => by rw [h2]; exact h.2.2.1 q, h.2.2.2⟩
/-- the model's way through a visitor's line, from the token behind its name on -/
theorem vM {s1 s2 s3 : TK} (hB : BM b L κ) (hT : TM κ s1) (b1 : TBd lo b L s1) (h4 : s1.1 ≠ 4) (e2 : tokF b L s1.2.2.1 = s2) (e3 : tokF b L s2.2.2.1 = s3) (hnv : nv < 4) (hv : (κ 129 6).toInt = nv)
    (hF1 : ¬ nOK s1 5 → ∀ κ' : IS, FM κ' s1.2.1 → Q none κ')
    (hF2 : nOK s1 5 → ¬ nOK s2 99 → ∀ κ' : IS, FM κ' s2.2.1 → Q none κ')
    (hO : nOK s1 5 → nOK s2 99 → ∀ κ' : IS, (∀ a j, dM a j → ¬ (a = 133 ∧ 4 * nv ≤ j ∧ j ≤ 4 * nv + 2) → ¬ (a = 129 ∧ j = 6) → κ' a j = κ a j) → κ' 133 (4 * nv) = x1 → (κ' 133 (4 * nv + 1)).toInt = s1.2.2.2 → (κ' 133 (4 * nv + 2)).toInt = s2.2.2.2 → (κ' 129 6).toInt = nv + 1 → BM b L κ' → TM κ' s3 → Q none κ') :
    PC xl n 165 0 [(0, .ref 129), (1, .int x1)] [] κ Q := by
  have t4 : (4 : Int32).toInt = 4 := rfl
  have t0 : (0 : Int32).toInt = 0 := rfl
  have t2 : (2 : Int32).toInt = 2 := rfl
  have t5 : (5 : Int32).toInt = 5 := rfl
  have t99 : (99 : Int32).toInt = 99 := rfl
  have u1 : (1 : Int32).toInt = 1 := rfl
  have b2 : TBd lo b L s2 := e2 ▸ tok_n b1
  have b3 : TBd lo b L s3 := e3 ▸ tok_n b2
  have m4 : (4 * κ 129 6).toInt = (4 * nv : Nat) := by rw [i_mul (by rw [hv, t4]; omega), hv, t4]; omega
  have i0 : (4 * κ 129 6 + 0).toInt = (4 * nv : Nat) := by rw [i_add (by rw [m4, t0]; omega), m4, t0]; omega
  have i1 : (4 * κ 129 6 + 1).toInt = (4 * nv + 1 : Nat) := by rw [i_add (by rw [m4, u1]; omega), m4, u1]; omega
  have i2 : (4 * κ 129 6 + 2).toInt = (4 * nv + 2 : Nat) := by rw [i_add (by rw [m4, t2]; omega), m4, t2]; omega
  refine (t_165_0 ?_).weak
  rw [rf_129_5, i_ixn i0, i_ixn i1, i_ixn i2]
  intro _ _
  have T1 : TM (up κ 133 (4 * nv) x1) s1 := hT.congr fun j _ _ => up_ne (by omega)
  have B1 : BM b L (up κ 133 (4 * nv) x1) := hB.congr (up_ne (by omega)) (fun q => up_ne (by omega))
  have V1 := T1.2.2.2.2
  by_cases g1 : nOK s1 5
  rotate_left
  · refine rdn_bad T1 h4 (fun hh => g1 ⟨hh.1, by rw [t5] at hh; omega⟩) (fun c hc => ?_)
    intro r hr
    cases hr
    intro _ _
    have F1 : FM (failM (up κ 133 (4 * nv) x1) c) s1.2.1 := FM.fail T1 hc
    have F2 : FM (up (failM (up κ 133 (4 * nv) x1) c) 133 (4 * nv + 1) 0) s1.2.1 := F1.congr (up_ne (by omega)) (up_ne (by omega))
    refine rdn_f F2.1 ?_
    intro r hr
    cases hr
    intro _ _
    refine hF1 g1 _ (F2.congr ?_ ?_)
    · rw [up_ne (by omega), up_ne (by omega)]
    · rw [up_ne (by omega), up_ne (by omega)]
  have hv1 := b1.2.2.2.1 g1.1
  refine rdn_ok B1 T1 b1 g1.1 (by rw [t0]; omega) (by rw [t5]; exact g1.2) (fun κ1 k1 => ?_)
  rw [e2] at k1
  intro r hr
  cases hr
  intro _ _
  have q1 : (up κ 133 (4 * nv) x1) 129 17 = κ 129 17 := up_ne (by omega)
  rw [q1]
  have T2 : TM (up κ1 133 (4 * nv + 1) (κ 129 17)) s2 := (TM.tk k1).congr fun j _ _ => up_ne (by omega)
  have B2 : BM b L (up κ1 133 (4 * nv + 1) (κ 129 17)) := (B1.tk k1).congr (up_ne (by omega)) (fun q => up_ne (by omega))
  by_cases g2 : nOK s2 99
  rotate_left
  · by_cases h42 : s2.1 = 4
    · have F2 := FM.four T2 h42
      refine rdn_f F2.1 ?_
      intro r hr
      cases hr
      intro _ _
      refine hF2 g1 g2 _ (F2.congr ?_ ?_)
      · rw [up_ne (by omega), up_ne (by omega)]
      · rw [up_ne (by omega), up_ne (by omega)]
    · refine rdn_bad T2 h42 (fun hh => g2 ⟨hh.1, by rw [t99] at hh; omega⟩) (fun c hc => ?_)
      intro r hr
      cases hr
      intro _ _
      have F2 : FM (failM (up κ1 133 (4 * nv + 1) (κ 129 17)) c) s2.2.1 := FM.fail T2 hc
      refine hF2 g1 g2 _ (F2.congr ?_ ?_)
      · rw [up_ne (by omega), up_ne (by omega)]
      · rw [up_ne (by omega), up_ne (by omega)]
  have hv2 := b2.2.2.2.1 g2.1
  refine rdn_ok B2 T2 b2 g2.1 (by rw [t0]; omega) (by rw [t99]; exact g2.2) (fun κ2 k2 => ?_)
  rw [e3] at k2
  intro r hr
  cases hr
  intro _ _
  have q2 : (up κ1 133 (4 * nv + 1) (κ 129 17)) 129 17 = κ1 129 17 := up_ne (by omega)
  rw [q2]
  have q6 : (up κ2 133 (4 * nv + 2) (κ1 129 17)) 129 6 = κ 129 6 := by
    rw [up_ne (by omega), k2.1 129 6 (by omega), up_ne (by omega), k1.1 129 6 (by omega), up_ne (by omega)]
  rw [q6]
  refine hO g1 g2 _ (fun a j hd h1 h2 => ?_) ?_ ?_ ?_ ?_ ?_ ?_
  · rw [up_ne h2, up_ne (by omega), tkM_d k2 a j hd, up_ne (by omega), tkM_d k1 a j hd, up_ne (by omega)]
  · rw [up_ne (by omega), up_ne (by omega), k2.1 _ _ (by omega), up_ne (by omega), k1.1 _ _ (by omega), up_same]
  · rw [up_ne (by omega), up_ne (by omega), k2.1 _ _ (by omega), up_same]
    exact hT.2.2.2.2 g1.1
  · rw [up_ne (by omega), up_same]
    exact (TM.tk k1).2.2.2.2 g2.1
  · rw [up_same, i_add (by rw [hv, u1]; omega), hv, u1]
  · exact (B2.tk k2).congr (by rw [up_ne (by omega), up_ne (by omega)]) (fun q => by rw [up_ne (by omega), up_ne (by omega)])
  · exact (TM.tk k2).congr fun j _ _ => by rw [up_ne (by omega), up_ne (by omega)]
theorem DR.vis (h : DR nv nd cnt ι κ) (hnv : nv < 4) (h1 : ∀ a j, dX a j → ¬ (a = 5 + nv) → ¬ (a = 3 ∧ j = 2) → ι' a j = ι a j) (h2 : ∀ a j, dM a j → ¬ (a = 133 ∧ 4 * nv ≤ j ∧ j ≤ 4 * nv + 2) → ¬ (a = 129 ∧ j = 6) → κ' a j = κ a j) (hi : (ι' 3 2).toInt = nv + 1) (hk : (κ' 129 6).toInt = nv + 1) (hv : ι' (5 + nv) 0 = κ' 133 (4 * nv) ∧ ι' (5 + nv) 1 = κ' 133 (4 * nv + 1) ∧ ι' (5 + nv) 2 = κ' 133 (4 * nv + 2) ∧ ι' (5 + nv) 3 = 0) : DR (nv + 1) nd cnt ι' κ' := by
  have x : ∀ a j, a ≤ 21 → ¬ a = 1 → ¬ (a = 5 + nv) → ¬ (a = 3 ∧ j = 2) → ι' a j = ι a j := fun a j h3 h4 h5 h6 => h1 a j ⟨h3, fun e => h4 e.1⟩ h5 h6
  have m3 : ∀ j, ¬ (4 * nv ≤ j ∧ j ≤ 4 * nv + 2) → κ' 133 j = κ 133 j := fun j g => h2 133 j (Or.inl rfl) (fun e => g e.2) (by omega)
  have m4 : ∀ j, κ' 134 j = κ 134 j := fun j => h2 134 j (Or.inr (Or.inl rfl)) (by omega) (by omega)
  have m9 : ∀ j, 7 ≤ j → j ≤ 10 → κ' 129 j = κ 129 j := fun j g1 g2 => h2 129 j (Or.inr (Or.inr ⟨rfl, by omega, g2⟩)) (by omega) (by omega)
  obtain ⟨⟨a1, a2, a3⟩, ⟨b1, b2, b3⟩, c, d, e, f, g, i1, i2⟩ := h
  refine ⟨⟨by omega, by rw [hi]; rfl, by rw [hk]; rfl⟩, ⟨b1, by rw [x 3 3 (by omega) (by omega) (by omega) (by omega)]; exact b2, by rw [m9 7 (by omega) (by omega)]; exact b3⟩, ?_, ?_, ?_, ?_, ?_, by rw [x 2 6 (by omega) (by omega) (by omega) (by omega)]; exact i1, by rw [m3 _ (by omega)]; exact i2⟩
  · rw [h1 1 4 ⟨by omega, by omega⟩ (by omega) (by omega), m9 8 (by omega) (by omega)]; exact c
  · refine ⟨fun v hv2 => ?_, fun v hv2 => by rw [m3 _ (by omega)]; exact d.2 v hv2⟩
    by_cases ev : v = nv
    · rw [ev]; exact hv
    · rw [x _ _ (by omega) (by omega) (by omega) (by omega), x _ _ (by omega) (by omega) (by omega) (by omega), x _ _ (by omega) (by omega) (by omega) (by omega), x _ _ (by omega) (by omega) (by omega) (by omega), m3 _ (by omega), m3 _ (by omega), m3 _ (by omega)]
      exact d.1 v (by omega)
  · intro q hq
    obtain ⟨e1, e2, e3, e4, e5, e6⟩ := e q hq
    rw [x _ _ (by omega) (by omega) (by omega) (by omega), x _ _ (by omega) (by omega) (by omega) (by omega), x _ _ (by omega) (by omega) (by omega) (by omega), m3 _ (by omega), m3 _ (by omega), m3 _ (by omega), m4]
    refine ⟨e1, e2, e3, e4, e5, fun i hi => ?_⟩
    rw [x _ _ (by omega) (by omega) (by omega) (by omega), m3 _ (by omega)]
    exact e6 i hi
  · refine ⟨f.1, by rw [x _ _ (by omega) (by omega) (by omega) (by omega)]; exact f.2.1, by rw [m3 _ (by omega)]; exact f.2.2.1, fun i hi => ?_⟩
    rw [x _ _ (by omega) (by omega) (by omega) (by omega), m3 _ (by omega)]
    exact f.2.2.2 i hi
  · have x18 : ∀ i, ι' 18 i = ι 18 i := fun i => x 18 i (by omega) (by omega) (by omega) (by omega)
    unfold DH at g ⊢
    simp only [x18, m4, m9 9 (by omega) (by omega), m9 10 (by omega) (by omega)]
    exact g
theorem V2 {K : IS → IS → Prop} (h : OK lo b L t nv nd cnt ι κ) (h1 : t.1 = 1) (hk : 0 ≤ x1.toInt ∧ x1.toInt ≤ 3) (hnv : nv < 4) (hK : ∀ ι1 κ1 : IS, LO lo b L ι1 κ1 → K ι1 κ1) : PC xl n 45 0 [(0, .ref 1), (1, .int x1)] [] ι (fun _ ι1 => PC xl n2 154 123 [(0, .ref 129), (1, .int x1)] [] κ (fun _ κ1 => K ι1 κ1)) := by
  obtain ⟨hX, hM, tX, tM, tb, hd, h0⟩ := h
  have hx : ¬ x1 = -4 := fun e => by rw [e] at hk; exact absurd hk.1 (by decide)
  have b1 : TBd lo b L (tokF b L t.2.2.1) := tok_n tb
  have right : ∀ ι1 : IS, (∀ κ1 : IS, tkM κ κ1 (tokF b L t.2.2.1) → (tokF b L t.2.2.1).1 = 4 → K ι1 κ1) → (∀ κ1 : IS, tkM κ κ1 (tokF b L t.2.2.1) → (tokF b L t.2.2.1).1 ≠ 4 → PC xl n2 165 0 [(0, .ref 129), (1, .int x1)] [] κ1 (fun _ κ2 => PC xl n2 154 140 [(0, .ref 129), (1, .int x1)] [] κ2 (fun _ κ3 => K ι1 κ3))) → PC xl n2 154 123 [(0, .ref 129), (1, .int x1)] [] κ (fun _ κ1 => K ι1 κ1) := by
    intro ι1 r4 r5
    refine (t_154_123 ?_).weak
    refine nextT hM tM tb (by omega) (fun κ1 k1 => ?_)
    by_cases h4 : (tokF b L t.2.2.1).1 = 4
    · have F := FM.four (TM.tk k1) h4
      exact ⟨fun c => absurd F.1 (by rw [i_lt] at c; exact c), fun _ => r4 κ1 k1 h4⟩
    · refine ⟨fun _ => ?_, fun c => ?_⟩
      · refine (t_158_0 ⟨fun c => ?_, fun c => ?_, fun c => ?_, fun _ => r5 κ1 k1 h4⟩).weak
        · omega
        · omega
        · omega
      · rw [((TM.tk k1).2.2.1 h4).2] at c
        exact absurd c (by decide)
  refine vX rfl rfl rfl hX tX tb hx hnv hd.1.2.1 h0 (fun g1 ι1 f1 => ?_) (fun g1 g2 ι1 f1 => ?_) (fun g1 g2 ι1 o1 v1 c1 B1 E1 => ?_)
  · refine right ι1 (fun κ1 k1 h4 => hK _ _ (Or.inr (FR.mk f1 (FM.four (TM.tk k1) h4)))) (fun κ1 k1 h4 => ?_)
    refine vM (nv := nv) (hM.tk k1) (TM.tk k1) b1 h4 rfl rfl hnv (by rw [k1.1 129 6 (by omega)]; exact hd.1.2.2) (fun _ κ2 f2 => ?_) (fun c => absurd c g1) (fun c => absurd c g1)
    exact tail_spec (lo := lo) (b := b) (L := L) (Or.inr (FR.mk f1 f2)) (fun κ3 h3 => hK _ _ h3)
  · refine right ι1 (fun κ1 k1 h4 => absurd g1.1 (by omega)) (fun κ1 k1 h4 => ?_)
    refine vM (nv := nv) (hM.tk k1) (TM.tk k1) b1 h4 rfl rfl hnv (by rw [k1.1 129 6 (by omega)]; exact hd.1.2.2) (fun c => absurd g1 c) (fun _ _ κ2 f2 => ?_) (fun _ c => absurd c g2)
    exact tail_spec (lo := lo) (b := b) (L := L) (Or.inr (FR.mk f1 f2)) (fun κ3 h3 => hK _ _ h3)
  · refine right ι1 (fun κ1 k1 h4 => absurd g1.1 (by omega)) (fun κ1 k1 h4 => ?_)
    refine vM (nv := nv) (hM.tk k1) (TM.tk k1) b1 h4 rfl rfl hnv (by rw [k1.1 129 6 (by omega)]; exact hd.1.2.2) (fun c => absurd g1 c) (fun _ c => absurd g2 c) (fun _ _ κ2 o2 w0 w1 w2 c2 B2 T2 => ?_)
    have b2 : TBd lo b L (tokF b L (tokF b L t.2.2.1).2.2.1) := tok_n b1
    have b3 : TBd lo b L (tokF b L (tokF b L (tokF b L t.2.2.1).2.2.1).2.2.1) := tok_n b2
    have D : DR (nv + 1) nd cnt ι1 κ2 := by
      refine (hd.congr (fun _ _ _ => rfl) (tkM_d k1)).vis hnv o1 o2 c1 c2 ⟨by rw [v1.1, w0], by rw [i_eq, v1.2.1, w1], by rw [i_eq, v1.2.2.1, w2], v1.2.2.2⟩
    have fin : EL lo b L ι1 κ2 := by
      by_cases h43 : (tokF b L (tokF b L (tokF b L t.2.2.1).2.2.1).2.2.1).1 = 4
      · rcases E1 with ⟨q, -⟩ | ⟨-, q⟩
        · omega
        · exact Or.inr (FR.mk q (FM.four T2 h43))
      · exact Or.inl ⟨_, nv + 1, nd, cnt, B1, B2, T2, b3, h43, D, E1⟩
    exact tail_spec fin (fun κ3 h3 => hK _ _ h3)
end Vis2
end
section
/-! LINES: a door's -/
section DoorL
variable {xl : List Int32} {b : Nat → Int} {lo L n n2 nv nd cnt : Nat} {ι ι' κ κ' : IS} {t : TK} {Q : Option Value → IS → Prop} {x1 : Int32} {w : Value}
theorem DR.layer {d hN : Nat} (h : DR nv nd cnt ι κ) (hd : d < 4) (hdn : d < nd) (hN6 : hN < 6) (h1 : ∀ a j, dX a j → ¬ (a = 11 + 2 * d ∧ j = hN) → ¬ (a = 10 + 2 * d ∧ j = 1) → ι' a j = ι a j) (h2 : ∀ a j, dM a j → ¬ (a = 133 ∧ j = 19 + 9 * d + hN) → ¬ (a = 133 ∧ j = 16 + 9 * d) → κ' a j = κ a j) (hh : (ι (10 + 2 * d) 1).toInt = hN) (hv : ι' (11 + 2 * d) hN = κ' 133 (19 + 9 * d + hN)) (hn : ι' (10 + 2 * d) 1 = κ' 133 (16 + 9 * d)) (hn2 : (ι' (10 + 2 * d) 1).toInt = hN + 1) : DR nv nd cnt ι' κ' := by
  have x : ∀ a j, a ≤ 21 → ¬ a = 1 → ¬ (a = 11 + 2 * d ∧ j = hN) → ¬ (a = 10 + 2 * d ∧ j = 1) → ι' a j = ι a j := fun a j h3 h4 h5 h6 => h1 a j ⟨h3, fun e => h4 e.1⟩ h5 h6
  have m3 : ∀ j, ¬ j = 19 + 9 * d + hN → ¬ j = 16 + 9 * d → κ' 133 j = κ 133 j := fun j g1 g2 => h2 133 j (Or.inl rfl) (fun e => g1 e.2) (fun e => g2 e.2)
  have m4 : ∀ j, κ' 134 j = κ 134 j := fun j => h2 134 j (Or.inr (Or.inl rfl)) (by omega) (by omega)
  have m9 : ∀ j, 6 ≤ j → j ≤ 10 → κ' 129 j = κ 129 j := fun j g1 g2 => h2 129 j (Or.inr (Or.inr ⟨rfl, g1, g2⟩)) (by omega) (by omega)
  obtain ⟨⟨a1, a2, a3⟩, ⟨b1, b2, b3⟩, c, dv, e, f, g, i1, i2⟩ := h
  refine ⟨⟨a1, by rw [x 3 2 (by omega) (by omega) (by omega) (by omega)]; exact a2, by rw [m9 6 (by omega) (by omega)]; exact a3⟩, ⟨b1, by rw [x 3 3 (by omega) (by omega) (by omega) (by omega)]; exact b2, by rw [m9 7 (by omega) (by omega)]; exact b3⟩, ?_, ?_, ?_, ?_, ?_, by rw [x 2 6 (by omega) (by omega) (by omega) (by omega)]; exact i1, by rw [m3 _ (by omega) (by omega)]; exact i2⟩
  · rw [h1 1 4 ⟨by omega, by omega⟩ (by omega) (by omega), m9 8 (by omega) (by omega)]; exact c
  · refine ⟨fun v hv2 => ?_, fun v hv2 => by rw [m3 _ (by omega) (by omega)]; exact dv.2 v hv2⟩
    rw [x _ _ (by omega) (by omega) (by omega) (by omega), x _ _ (by omega) (by omega) (by omega) (by omega), x _ _ (by omega) (by omega) (by omega) (by omega), x _ _ (by omega) (by omega) (by omega) (by omega), m3 _ (by omega) (by omega), m3 _ (by omega) (by omega), m3 _ (by omega) (by omega)]
    exact dv.1 v hv2
  · intro q hq
    obtain ⟨e1, e2, e3, e4, e5, e6⟩ := e q hq
    by_cases eq : q = d
    · subst eq
      rw [x _ 2 (by omega) (by omega) (by omega) (by omega), x _ 3 (by omega) (by omega) (by omega) (by omega), m3 (17 + 9 * q) (by omega) (by omega), m3 (18 + 9 * q) (by omega) (by omega), m4]
      refine ⟨hn, by omega, fun hh2 => by omega, e4, e5, fun i hi => ?_⟩
      rw [hn2] at hi
      by_cases ei : i = hN
      · rw [ei]; exact hv
      · rw [x _ _ (by omega) (by omega) (by omega) (by omega), m3 _ (by omega) (by omega)]
        exact e6 i (by rw [hh]; omega)
    · rw [x _ _ (by omega) (by omega) (by omega) (by omega), x _ _ (by omega) (by omega) (by omega) (by omega), x _ _ (by omega) (by omega) (by omega) (by omega), m3 _ (by omega) (by omega), m3 _ (by omega) (by omega), m3 _ (by omega) (by omega), m4]
      refine ⟨e1, e2, e3, e4, e5, fun i hi => ?_⟩
      rw [x _ _ (by omega) (by omega) (by omega) (by omega), m3 _ (by omega) (by omega)]
      exact e6 i hi
  · refine ⟨f.1, by rw [x _ _ (by omega) (by omega) (by omega) (by omega)]; exact f.2.1, by rw [m3 _ (by omega) (by omega)]; exact f.2.2.1, fun i hi => ?_⟩
    rw [x _ _ (by omega) (by omega) (by omega) (by omega), m3 _ (by omega) (by omega)]
    exact f.2.2.2 i hi
  · have x18 : ∀ i, ι' 18 i = ι 18 i := fun i => x 18 i (by omega) (by omega) (by omega) (by omega)
    unfold DH at g ⊢
    simp only [x18, m4, m9 9 (by omega) (by omega), m9 10 (by omega) (by omega)]
    exact g
/-- the model leaves the row of layers behind a fault -/
theorem dFail {p : Nat} {y : Int32} (hF : FM κ p) (h : ∀ κ1 : IS, FM κ1 p → Q none κ1) : PC xl n2 159 11 [(0, .ref 129), (1, .int y), (2, w)] [] κ Q := by
  refine (t_159_11 ⟨fun _ => ?_, fun c => absurd c (nz hF.1)⟩).weak
  exact h _ (hF.congr (up_ne (by simp)) (up_ne (by simp)))
/-- what holds while the layers of a door are read: the model has not counted it yet -/
noncomputable def DJ (lo : Nat) (b : Nat → Int) (L : Nat) (t : TK) (nv nd cnt hN : Nat) (ι κ : IS) : Prop := BX b L ι ∧ BM b L κ ∧ TX ι t ∧ TM κ t ∧ TBd lo b L t ∧ DR nv (nd + 1) cnt ι (up κ 129 7 (κ 129 7 + 1)) ∧ ι 1 2 = 0 ∧ (ι (10 + 2 * nd) 1).toInt = hN
theorem up_eq_of {κ κ' : IS} (h : ∀ a j, dM a j → κ' a j = κ a j) : ∀ a j, dM a j → (up κ' 129 7 (κ' 129 7 + 1)) a j = (up κ 129 7 (κ 129 7 + 1)) a j := by
  intro a j hd
  by_cases e : a = 129 ∧ j = 7
  · obtain ⟨rfl, rfl⟩ := e
    rw [up_same, up_same, h 129 7 hd]
  · rw [up_ne e, up_ne e, h a j hd]
theorem dL2 {M : IS → IS → Prop} {y : Int32} (hnd : nd < 4) (hy : y.toInt = (16 + 9 * nd : Nat)) (hM : ∀ ι' κ' : IS, EL lo b L ι' κ' → M ι' κ') : ∀ (n hN : Nat) (ι κ : IS) (t : TK) (x : Int32) (w : Value), DJ lo b L t nv nd cnt hN ι κ → x.toInt = hN → PC xl n 33 67 [(0, .ref 1), (1, .ref (10 + 2 * nd)), (2, .int x)] [] ι (fun _ ι1 => PC xl n2 159 11 [(0, .ref 129), (1, .int y), (2, w)] [] κ (fun _ κ1 => M ι1 κ1))
  | 0, _, _, _, _, _, _, _, _ => PC.zero
  | n + 1, hN, ι, κ, t, x, w, hJ, hx => by
    obtain ⟨hX, hB, tX, tM, tb, hD, h0, hh⟩ := hJ
    have t2e : (2 : Int32).toInt = 2 := rfl
    have t6 : (6 : Int32).toInt = 6 := rfl
    have t5 : (5 : Int32).toInt = 5 := rfl
    have t3 : (3 : Int32).toInt = 3 := rfl
    have t0 : (0 : Int32).toInt = 0 := rfl
    have u1 : (1 : Int32).toInt = 1 := rfl
    obtain ⟨d1, d2, d3, d4, d5, d6⟩ := hD.2.2.2.2.1 nd hnd
    have hh6 : hN ≤ 6 := by omega
    have y0 : (y + 0).toInt = (16 + 9 * nd : Nat) := by rw [i_add (by rw [hy, t0]; omega), hy, t0]; omega
    have y3 : (y + 3).toInt = (19 + 9 * nd : Nat) := by rw [i_add (by rw [hy, t3]; omega), hy, t3]; omega
    have kh : (κ 133 (16 + 9 * nd)).toInt = hN := by
      rw [← hh, d1, up_ne (by omega)]
    refine t_33_67 ?_
    rw [rf_1_1]
    refine ⟨fun c => ?_, fun c => ⟨fun c2 => ?_, fun c2 => ?_⟩⟩
    · rw [i_lt, hx, t6] at c; omega
    · rw [i_eq, tX.1, t2e] at c2
      refine endX hX tX tb h0 (fun ι2 o2 B2 E2 => ?_)
      by_cases h4 : t.1 = 4
      · refine dFail (FM.four tM h4) (fun κ1 f1 => hM _ _ (Or.inr ?_))
        rcases E2 with ⟨q, -⟩ | ⟨-, q⟩
        · omega
        · exact FR.mk q f1
      · have e := tM.2.2.1 h4
        refine (t_159_11 ⟨fun c => absurd e.2 c, fun _ => ⟨fun _ => ?_, fun c => ?_⟩⟩).weak
        · refine hM _ _ (Or.inl ⟨t, nv, nd + 1, cnt, B2, hB.congr (up_ne (by simp)) (fun q => up_ne (by simp)), tM.congr (fun j _ _ => up_ne (by omega)), tb, h4, hD.congr o2 (fun _ _ _ => rfl), E2⟩)
        · rw [i_eq, e.1, t2e] at c; omega
    · rw [i_eq, tX.1, t2e] at c2
      have ht2 : t.1 = 2 := by omega
      have e := tM.2.2.1 (by omega)
      have es : κ 129 16 = 2 := by rw [i_eq, e.1, ht2]; rfl
      have v5 := tX.2.2.2 ht2
      -- what the model does behind a fault of the class
      have bad : ∀ ι1 : IS, FX ι1 t.2.1 → (¬ nOK t 5 ∨ hN = 6) → PC xl n2 159 11 [(0, .ref 129), (1, .int y), (2, w)] [] κ (fun _ κ1 => M ι1 κ1) := by
        intro ι1 f1 hb
        have fin : ∀ κ1 : IS, ∀ w2 : Value, FM κ1 t.2.1 → PC xl n2 159 93 [(0, .ref 129), (1, .int y), (2, w2)] [] κ1 (fun _ κ1 => M ι1 κ1) := fun κ1 w2 g1 => (t_159_93 (dFail g1 (fun κ2 g2 => hM _ _ (Or.inr (FR.mk f1 g2))))).weak
        refine (t_159_11 ⟨fun c => absurd e.2 c, fun _ => ⟨fun c => absurd es c, fun _ _ _ => ?_⟩⟩).weak
        rw [rf_129_5, i_ixn y0, i_lt, kh, t6]
        refine ⟨fun c => ?_, fun c => ?_⟩
        · refine (t_159_45 (needs_spec (fun hh => ?_) (fun _ _ => ?_))).weak
          · rcases hh with hh | hh
            · exact absurd rfl hh
            · exact absurd e.2 hh
          · have g : FM (failM κ 5) t.2.1 := FM.fail tM (by decide)
            refine rdn_f g.1 ?_
            intro r hr
            cases hr
            exact ⟨fun _ => fin _ _ g, fun c => absurd c (nz g.1)⟩
        · refine (t_159_45 (needs_spec (fun _ => ?_) (fun c => absurd c (by decide)))).weak
          have nb : ¬ nOK t 5 := hb.resolve_right (by omega)
          refine rdn_bad tM (by omega) (fun hh => nb ⟨hh.1, by rw [t5] at hh; omega⟩) (fun c2 hc2 => ?_)
          have g : FM (failM κ c2) t.2.1 := FM.fail tM hc2
          intro r hr
          cases hr
          exact ⟨fun _ => fin _ _ g, fun c => absurd c (nz g.1)⟩
      refine numX tX tb rfl (fun g1 => ?_) (fun g1 ι1 f1 => ?_)
      rotate_left
      · intro r hr
        cases hr
        exact ⟨fun c => absurd rfl c, fun _ => bad ι1 f1 (Or.inl g1)⟩
      intro r hr
      cases hr
      refine ⟨fun _ => ?_, fun c => absurd c (by decide)⟩
      refine (t_35_0 ⟨fun c6 _ _ => ?_, fun c6 => ?_⟩).weak
      rotate_left
      · intro r hr
        cases hr
        rw [i_lt, hh, t6] at c6
        exact ⟨fun c => absurd rfl c, fun _ => fail_spec (bad _ (FX.fail tX (by decide)) (Or.inr (by omega)))⟩
      rw [i_lt, hh, t6] at c6
      intro r hr
      cases hr
      refine ⟨fun _ => ?_, fun c => absurd c (by decide)⟩
      rw [rf_door nd hnd, i_ixn hh, up_ne (by omega)]
      have nh : (ι (10 + 2 * nd) 1 + 1).toInt = hN + 1 := by rw [i_add (by rw [hh, u1]; omega), hh, u1]
      have f1 : ∀ a j, ¬ (a = 11 + 2 * nd ∧ j = hN) → ¬ (a = 10 + 2 * nd ∧ j = 1) → (up (up ι (11 + 2 * nd) hN (ι 22 5)) (10 + 2 * nd) 1 (ι (10 + 2 * nd) 1 + 1)) a j = ι a j := fun a j g1 g2 => by rw [up_ne g2, up_ne g1]
      have f2 : (up (up ι (11 + 2 * nd) hN (ι 22 5)) (10 + 2 * nd) 1 (ι (10 + 2 * nd) 1 + 1)) (11 + 2 * nd) hN = ι 22 5 := by rw [up_ne (by omega), up_same]
      have f3 : ((up (up ι (11 + 2 * nd) hN (ι 22 5)) (10 + 2 * nd) 1 (ι (10 + 2 * nd) 1 + 1)) (10 + 2 * nd) 1) = ι (10 + 2 * nd) 1 + 1 := up_same _ _ _ _
      revert f1 f2 f3
      generalize (up (up ι (11 + 2 * nd) hN (ι 22 5)) (10 + 2 * nd) 1 (ι (10 + 2 * nd) 1 + 1)) = ι2
      intro f1 f2 f3
      have X2 : BX b L ι2 := ⟨hX.1, by rw [f1 22 1 (by omega) (by omega)]; exact hX.2.1, fun q => by rw [f1 23 q (by omega) (by omega)]; exact hX.2.2 q⟩
      have T2 : TX ι2 t := by
        obtain ⟨q1, q2, q3, q4⟩ := tX
        refine ⟨?_, ?_, ?_, fun hh => ?_⟩
        · rw [f1 22 2 (by omega) (by omega)]; exact q1
        · rw [f1 22 3 (by omega) (by omega)]; exact q2
        · rw [f1 22 4 (by omega) (by omega)]; exact q3
        · rw [f1 22 5 (by omega) (by omega)]; exact q4 hh
      refine advT X2 T2 tb (fun ι3 k3 => ?_)
      -- now the model
      refine PC.swap (P := fun _ κ' _ ι' => M ι' κ') ?_
      refine (t_159_11 ⟨fun c => absurd e.2 c, fun _ => ⟨fun c => absurd es c, fun _ _ _ => ?_⟩⟩).weak
      rw [rf_129_5, i_ixn y0, i_lt, kh, t6]
      refine ⟨fun c => by omega, fun c => ?_⟩
      refine (t_159_45 (needs_spec (fun _ => ?_) (fun c => absurd c (by decide)))).weak
      have hv1 := tb.2.2.2.1 ht2
      refine rdn_ok hB tM tb ht2 (by rw [t0]; omega) (by rw [t5]; exact g1.2) (fun κ2 k2 => ?_)
      intro r hr
      cases hr
      have kh2 : (κ2 133 (16 + 9 * nd)).toInt = hN := by rw [k2.1 _ _ (by omega)]; exact kh
      have yi : ((y + 3) + κ2 133 (16 + 9 * nd)).toInt = (19 + 9 * nd + hN : Nat) := by rw [i_add (by rw [y3, kh2]; omega), y3, kh2]; omega
      rw [rf_129_5, i_ixn y0, i_ixn yi]
      have b2 : TBd lo b L (tokF b L t.2.2.1) := tok_n tb
      refine ⟨fun c => ?_, fun _ _ _ _ _ _ _ _ _ => ?_⟩
      · by_cases h4 : (tokF b L t.2.2.1).1 = 4
        · -- the token behind is none
          have g := FM.four (TM.tk k2) h4
          refine (t_159_93 (dFail g (fun κ4 g4 => ?_))).weak
          -- the class goes on: it meets the same
          cases n with
          | zero => exact PC.zero
          | succ n =>
            refine t_33_67 ?_
            rw [rf_1_1]
            have k3t := (TX.tk k3).1
            refine ⟨fun c => ?_, fun _ => ⟨fun _ => ?_, fun c2 => ?_⟩⟩
            · rw [i_lt, i_add (by rw [hx, u1]; omega), hx, u1, t6] at c; omega
            · refine endX (X2.tk k3) (TX.tk k3) b2 (by rw [tkX_f k3, f1 1 2 (by omega) (by omega)]; exact h0) (fun ι4 o4 B4 E4 => hM _ _ (Or.inr ?_))
              rcases E4 with ⟨q, -⟩ | ⟨-, q⟩
              · omega
              · exact FR.mk q g4
            · rw [i_eq, k3t, t2e] at c2; omega
        · exact absurd ((TM.tk k2).2.2.1 h4).2 c
      · rename_i c18 _ _ _ _ _ _ _ _
        refine (t_159_93 ?_).weak
        refine PC.swap (P := fun _ ι' _ κ' => M ι' κ') ?_
        have q1 : (up κ2 133 (19 + 9 * nd + hN) (κ 129 17)) 133 (16 + 9 * nd) = κ2 133 (16 + 9 * nd) := up_ne (by omega)
        rw [q1]
        have p1 : ∀ a j, ¬ (a = 133 ∧ j = 19 + 9 * nd + hN) → ¬ (a = 133 ∧ j = 16 + 9 * nd) → (up (up κ2 133 (19 + 9 * nd + hN) (κ 129 17)) 133 (16 + 9 * nd) (κ2 133 (16 + 9 * nd) + 1)) a j = κ2 a j := fun a j g1 g2 => by rw [up_ne g2, up_ne g1]
        have p2 : (up (up κ2 133 (19 + 9 * nd + hN) (κ 129 17)) 133 (16 + 9 * nd) (κ2 133 (16 + 9 * nd) + 1)) 133 (19 + 9 * nd + hN) = κ 129 17 := by rw [up_ne (by omega), up_same]
        have p3 : (up (up κ2 133 (19 + 9 * nd + hN) (κ 129 17)) 133 (16 + 9 * nd) (κ2 133 (16 + 9 * nd) + 1)) 133 (16 + 9 * nd) = κ2 133 (16 + 9 * nd) + 1 := up_same _ _ _ _
        revert p1 p2 p3
        generalize (up (up κ2 133 (19 + 9 * nd + hN) (κ 129 17)) 133 (16 + 9 * nd) (κ2 133 (16 + 9 * nd) + 1)) = κ3
        intro p1 p2 p3
        have z : ∀ a j, dX a j → ι3 a j = ι2 a j := tkX_d k3
        refine dL2 hnd hy hM n (hN + 1) ι3 κ3 (tokF b L t.2.2.1) (x + 1) _ ⟨X2.tk k3, ?_, TX.tk k3, ?_, b2, ?_, ?_, ?_⟩ (by rw [i_add (by rw [hx, u1]; omega), hx, u1]; rfl)
        · exact (hB.tk k2).congr (p1 _ _ (by omega) (by omega)) (fun q => p1 _ _ (by omega) (by omega))
        · exact (TM.tk k2).congr (fun j _ _ => p1 _ _ (by omega) (by omega))
        · refine (hD.congr (fun _ _ _ => rfl) (up_eq_of (tkM_d k2))).layer (ι' := ι3) (d := nd) (hN := hN) hnd (by omega) (by omega) (fun a j hd g1 g2 => ?_) (fun a j hd g1 g2 => ?_) hh ?_ ?_ ?_
          · rw [z a j hd, f1 a j g1 g2]
          · by_cases e7 : a = 129 ∧ j = 7
            · obtain ⟨rfl, rfl⟩ := e7
              rw [up_same, up_same, p1 129 7 (by omega) (by omega)]
            · rw [up_ne e7, up_ne e7, p1 a j g1 g2]
          · rw [z _ _ (by unfold dX; omega), f2, up_ne (by omega), p2, i_eq, v5, tM.2.2.2.2 ht2]
          · rw [z _ _ (by unfold dX; omega), f3, up_ne (by omega), p3, i_eq, nh, i_add (by rw [kh2, u1]; omega), kh2, u1]
          · rw [z _ _ (by unfold dX; omega), f3, nh]
        · rw [tkX_f k3, f1 1 2 (by omega) (by omega)]; exact h0
        · rw [z _ _ (by unfold dX; omega), f3, nh]; rfl
end DoorL
end
section
/-! LINES: a door's, by class and model -/
section DoorL2
variable {xl : List Int32} {b : Nat → Int} {lo L n n2 nv nd cnt : Nat} {ι ι' κ κ' : IS} {t : TK} {Q : Option Value → IS → Prop} {x1 : Int32} {w : Value}
theorem DR.door (h : DR nv nd cnt ι κ) (hnd : nd < 4) (h1 : ∀ a j, dX a j → ¬ (a = 3 ∧ j = 3) → ι' a j = ι a j) (h2 : ∀ a j, dM a j → ¬ (a = 129 ∧ j = 7) → κ' a j = κ a j) (hi : (ι' 3 3).toInt = nd + 1) (hk : (κ' 129 7).toInt = nd + 1) : DR nv (nd + 1) cnt ι' κ' := by
  have x : ∀ a j, a ≤ 21 → ¬ a = 1 → ¬ (a = 3 ∧ j = 3) → ι' a j = ι a j := fun a j h3 h4 h5 => h1 a j ⟨h3, fun e => h4 e.1⟩ h5
  have m3 : ∀ j, κ' 133 j = κ 133 j := fun j => h2 133 j (Or.inl rfl) (by omega)
  have m4 : ∀ j, κ' 134 j = κ 134 j := fun j => h2 134 j (Or.inr (Or.inl rfl)) (by omega)
  have m9 : ∀ j, 6 ≤ j → j ≤ 10 → ¬ j = 7 → κ' 129 j = κ 129 j := fun j g1 g2 g3 => h2 129 j (Or.inr (Or.inr ⟨rfl, g1, g2⟩)) (by omega)
  obtain ⟨⟨a1, a2, a3⟩, ⟨b1, b2, b3⟩, c, d, e, f, g, i1, i2⟩ := h
  refine ⟨⟨a1, by rw [x 3 2 (by omega) (by omega) (by omega)]; exact a2, by rw [m9 6 (by omega) (by omega) (by omega)]; exact a3⟩, ⟨by omega, by rw [hi]; rfl, by rw [hk]; rfl⟩, ?_, ?_, ?_, ?_, ?_, by rw [x 2 6 (by omega) (by omega) (by omega)]; exact i1, by rw [m3]; exact i2⟩
  · rw [h1 1 4 ⟨by omega, by omega⟩ (by omega), m9 8 (by omega) (by omega) (by omega)]; exact c
  · refine ⟨fun v hv => ?_, fun v hv => by rw [m3]; exact d.2 v hv⟩
    rw [x _ _ (by omega) (by omega) (by omega), x _ _ (by omega) (by omega) (by omega), x _ _ (by omega) (by omega) (by omega), x _ _ (by omega) (by omega) (by omega), m3, m3, m3]
    exact d.1 v hv
  · intro q hq
    obtain ⟨e1, e2, e3, e4, e5, e6⟩ := e q hq
    rw [x _ _ (by omega) (by omega) (by omega), x _ _ (by omega) (by omega) (by omega), x _ _ (by omega) (by omega) (by omega), m3, m3, m3, m4]
    refine ⟨e1, e2, fun hh => e3 (by omega), e4, e5, fun i hi => ?_⟩
    rw [x _ _ (by omega) (by omega) (by omega), m3]
    exact e6 i hi
  · refine ⟨f.1, by rw [x _ _ (by omega) (by omega) (by omega)]; exact f.2.1, by rw [m3]; exact f.2.2.1, fun i hi => ?_⟩
    rw [x _ _ (by omega) (by omega) (by omega), m3]
    exact f.2.2.2 i hi
  · have x18 : ∀ i, ι' 18 i = ι 18 i := fun i => x 18 i (by omega) (by omega) (by omega)
    unfold DH at g ⊢
    simp only [x18, m4, m9 9 (by omega) (by omega) (by omega), m9 10 (by omega) (by omega) (by omega)]
    exact g
theorem TX.congr {t : TK} (h : TX ι t) (h1 : ∀ j, ι' 22 j = ι 22 j) : TX ι' t := by
  unfold TX
  rw [h1, h1, h1, h1]
  exact h
theorem BX.congr (h : BX b L ι) (h1 : ∀ j, ι' 22 j = ι 22 j) (h2 : ∀ j, ι' 23 j = ι 23 j) : BX b L ι' := ⟨h.1, by rw [h1]; exact h.2.1, fun q => by rw [h2]; exact h.2.2 q⟩
/-- the model goes from a line's name to the token behind it -/
theorem pre123 {R : Option Value → IS → Prop} (hM : BM b L κ) (tM : TM κ t) (tb : TBd lo b L t) (h1 : t.1 = 1) (r4 : ∀ κ1 : IS, tkM κ κ1 (tokF b L t.2.2.1) → (tokF b L t.2.2.1).1 = 4 → R none κ1) (r5 : ∀ κ1 : IS, tkM κ κ1 (tokF b L t.2.2.1) → (tokF b L t.2.2.1).1 ≠ 4 → PC xl n2 158 0 [(0, .ref 129), (1, .int x1)] [] κ1 (fun _ κ2 => PC xl n2 154 140 [(0, .ref 129), (1, .int x1)] [] κ2 R)) : PC xl n2 154 123 [(0, .ref 129), (1, .int x1)] [] κ R := by
  refine (t_154_123 ?_).weak
  refine nextT hM tM tb (by omega) (fun κ1 k1 => ?_)
  by_cases h4 : (tokF b L t.2.2.1).1 = 4
  · have F := FM.four (TM.tk k1) h4
    exact ⟨fun c => absurd F.1 (by rw [i_lt] at c; exact c), fun _ => r4 κ1 k1 h4⟩
  · refine ⟨fun _ => r5 κ1 k1 h4, fun c => ?_⟩
    rw [((TM.tk k1).2.2.1 h4).2] at c
    exact absurd c (by decide)
theorem D2 {K : IS → IS → Prop} (h : OK lo b L t nv nd cnt ι κ) (h1 : t.1 = 1) (hx : x1.toInt = 4) (hnd : nd < 4) (hK : ∀ ι1 κ1 : IS, LO lo b L ι1 κ1 → K ι1 κ1) : PC xl n 33 0 [(0, .ref 1)] [] ι (fun _ ι1 => PC xl n2 154 123 [(0, .ref 129), (1, .int x1)] [] κ (fun _ κ1 => K ι1 κ1)) := by
  obtain ⟨hX, hM, tX, tM, tb, hd, h0⟩ := h
  have t4 : (4 : Int32).toInt = 4 := rfl
  have t2e : (2 : Int32).toInt = 2 := rfl
  have t6 : (6 : Int32).toInt = 6 := rfl
  have t0 : (0 : Int32).toInt = 0 := rfl
  have t9 : (9 : Int32).toInt = 9 := rfl
  have t16 : (16 : Int32).toInt = 16 := rfl
  have u1 : (1 : Int32).toInt = 1 := rfl
  have hn : (ι 3 3).toInt = nd := hd.2.1.2.1
  have b1 : TBd lo b L (tokF b L t.2.2.1) := tok_n tb
  refine (t_33_0 ?_).weak
  rw [rf_1_0, rf_1_1, rf_2_0, rf_3_1, i_ixn hn, re_9 nd hnd]
  refine ⟨fun _ _ _ => ?_, fun c => ?_⟩
  rotate_left
  · rw [i_lt, hn, t4] at c; omega
  have f1 : ∀ a j, ¬ (a = 3 ∧ j = 3) → (up ι 3 3 (ι 3 3 + 1)) a j = ι a j := fun a j g => up_ne g
  have f2 : ((up ι 3 3 (ι 3 3 + 1)) 3 3).toInt = nd + 1 := by rw [up_same, i_add (by rw [hn, u1]; omega), hn, u1]
  revert f1 f2
  generalize up ι 3 3 (ι 3 3 + 1) = ι1
  intro f1 f2
  have X1 : BX b L ι1 := hX.congr (fun j => f1 _ _ (by omega)) (fun j => f1 _ _ (by omega))
  have T1 : TX ι1 t := tX.congr (fun j => f1 _ _ (by omega))
  refine advT X1 T1 tb (fun ι2 k2 => ?_)
  have z2 : ι2 1 2 = 0 := by rw [tkX_f k2, f1 1 2 (by omega)]; exact h0
  refine PC.swap (P := fun _ κ' _ ι' => K ι' κ') ?_
  refine pre123 hM tM tb h1 (fun κ1 k1 h4 => ?_) (fun κ1 k1 h4 => ?_)
  · -- none behind the name
    have g := FM.four (TM.tk k1) h4
    refine (t_33_67 ?_).weak
    rw [rf_1_1]
    refine ⟨fun c => ?_, fun _ => ⟨fun _ => ?_, fun c2 => ?_⟩⟩
    · rw [i_lt, t6, t0] at c; omega
    · refine endX (X1.tk k2) (TX.tk k2) b1 z2 (fun ι4 o4 B4 E4 => hK _ _ (Or.inr ?_))
      rcases E4 with ⟨q, -⟩ | ⟨-, q⟩
      · omega
      · exact FR.mk q g
    · rw [i_eq, (TX.tk k2).1, t2e] at c2; omega
  · refine (t_158_0 ⟨fun _ => ?_, fun c => ?_, fun c => ?_, fun c => ?_⟩).weak
    rotate_left
    · omega
    · omega
    · omega
    have kn : (κ1 129 7).toInt = nd := by rw [k1.1 129 7 (by omega)]; exact hd.2.1.2.2
    have m9 : (9 * κ1 129 7).toInt = (9 * nd : Nat) := by rw [i_mul (by rw [kn, t9]; omega), kn, t9]; omega
    have hy : (16 + 9 * κ1 129 7).toInt = (16 + 9 * nd : Nat) := by rw [i_add (by rw [m9, t16]; omega), m9, t16]; omega
    refine (t_159_0 ?_).weak
    refine PC.imp (Q := fun _ κ2 => PC xl n 33 67 [(0, .ref 1), (1, .ref (10 + 2 * nd)), (2, .int 0)] [] ι2 (fun _ ι' => PC xl n2 154 140 [(0, .ref 129), (1, .int x1)] [] κ2 (fun _ κ3 => K ι' κ3))) ?_ (fun v κ2 hh => PC.swap (P := fun _ ι' _ κ3 => K ι' κ3) hh)
    refine PC.swap (P := fun _ ι' _ κ2 => PC xl n2 154 140 [(0, .ref 129), (1, .int x1)] [] κ2 (fun _ κ3 => K ι' κ3)) ?_
    have u7 : ((up κ1 129 7 (κ1 129 7 + 1)) 129 7).toInt = nd + 1 := by rw [up_same, i_add (by rw [kn, u1]; omega), kn, u1]
    have D : DR nv (nd + 1) cnt ι2 (up κ1 129 7 (κ1 129 7 + 1)) := by
      refine hd.door hnd (fun a j q1 q2 => ?_) (fun a j q1 q2 => ?_) ?_ u7
      · rw [tkX_d k2 a j q1, f1 a j q2]
      · rw [up_ne q2, tkM_d k1 a j q1]
      · rw [tkX_d k2 3 3 (by unfold dX; omega)]; exact f2
    have hz : (ι2 (10 + 2 * nd) 1).toInt = (0 : Nat) := by
      have := (hd.2.2.2.2.1 nd hnd).2.2.1 (Nat.le_refl _)
      rw [tkX_d k2 _ _ (by unfold dX; omega), f1 _ _ (by omega), this]; rfl
    exact dL2 (nv := nv) (cnt := cnt) hnd hy (fun ι' κ' hE => tail_spec hE (fun κ3 h3 => hK _ _ h3)) n 0 ι2 κ1 (tokF b L t.2.2.1) 0 .null ⟨X1.tk k2, hM.tk k1, TX.tk k2, TM.tk k1, b1, D, z2, hz⟩ rfl
end DoorL2
end
section
/-! LINES: what a door ought not -/
noncomputable def cI (z : Int) : Int32 := Int32.ofNat z.toNat
section NotL
variable {xl : List Int32} {b : Nat → Int} {lo L n n2 nv nd cnt : Nat} {ι ι' κ κ' : IS} {t : TK} {Q : Option Value → IS → Prop} {x1 : Int32} {w : Value}
theorem cI_int {z : Int} (h0 : 0 ≤ z) (h1 : z ≤ 1000000) : (cI z).toInt = z := by unfold cI; rw [i_of (by omega)]; omega
theorem cI_eq {x : Int32} {z : Int} (h : x.toInt = z) (h0 : 0 ≤ z) (h1 : z ≤ 1000000) : x = cI z := by rw [i_eq, h, cI_int h0 h1]
theorem bit_one : ∀ i, i < 32 → (1 : Int32).toBitVec.getLsbD i = decide (i = 0) := by decide +kernel
theorem and_one (x : Int32) : x &&& 1 = 0 ∨ x &&& 1 = 1 := by
  cases h : x.toBitVec.getLsbD 0 with
  | false =>
    refine Or.inl (Int32.toBitVec_inj.mp (BitVec.eq_of_getLsbD_eq fun i hi => ?_))
    rw [Int32.toBitVec_and, BitVec.getLsbD_and, bit_one i hi]
    by_cases e : i = 0
    · subst e; rw [h]; rfl
    · simp [e]
  | true =>
    refine Or.inr (Int32.toBitVec_inj.mp (BitVec.eq_of_getLsbD_eq fun i hi => ?_))
    rw [Int32.toBitVec_and, BitVec.getLsbD_and, bit_one i hi]
    by_cases e : i = 0
    · subst e; rw [h]; rfl
    · simp [e]
theorem or_zero {x y : Int32} (h : x ||| y = 0) : y = 0 := by
  refine Int32.toBitVec_inj.mp (BitVec.eq_of_getLsbD_eq fun i hi => ?_)
  have h1 : (x ||| y).toBitVec.getLsbD i = (0 : Int32).toBitVec.getLsbD i := by rw [h]
  have h2 : (0 : Int32).toBitVec.getLsbD i = false := BitVec.getLsbD_zero
  rw [h2, Int32.toBitVec_or, BitVec.getLsbD_or, Bool.or_eq_false_iff] at h1
  rw [h1.2, h2]
theorem or_nz {x : Int32} {z : Int} (h0 : 0 ≤ z) (h1 : z ≤ 5) : ¬ x ||| ((1 : Int32) <<< (cI z &&& 31)) = 0 := by
  intro h
  have h2 := or_zero h
  have h3 : z = 0 ∨ z = 1 ∨ z = 2 ∨ z = 3 ∨ z = 4 ∨ z = 5 := by omega
  rcases h3 with rfl | rfl | rfl | rfl | rfl | rfl <;> exact absurd h2 (by decide)
/-- the class's way through such a line, from its name on -/
theorem nX {s1 s2 s3 : TK} (e1 : tokF b L t.2.2.1 = s1) (e2 : tokF b L s1.2.2.1 = s2) (e3 : tokF b L s2.2.2.1 = s3) (hB : BX b L ι) (hT : TX ι t) (ht : TBd lo b L t) (h0 : ι 1 2 = 0)
    (hF1 : ¬ nOK s1 3 → ∀ ι' : IS, FX ι' s1.2.1 → Q none ι')
    (hF2 : nOK s1 3 → ¬ nOK s2 5 → ∀ ι' : IS, FX ι' s2.2.1 → Q none ι')
    (hF3 : nOK s1 3 → nOK s2 5 → ¬ ((ι (10 + 2 * s1.2.2.2.toNat) 2 >>> (cI s2.2.2.2 &&& 31)) &&& 1) = 0 → ∀ ι' : IS, FX ι' s2.2.1 → Q none ι')
    (hO : nOK s1 3 → nOK s2 5 → ((ι (10 + 2 * s1.2.2.2.toNat) 2 >>> (cI s2.2.2.2 &&& 31)) &&& 1) = 0 → ∀ ι' : IS, (∀ a j, dX a j → ¬ (a = 10 + 2 * s1.2.2.2.toNat ∧ j = 2) → ι' a j = ι a j) → ι' (10 + 2 * s1.2.2.2.toNat) 2 = ι (10 + 2 * s1.2.2.2.toNat) 2 ||| (1 <<< (cI s2.2.2.2 &&& 31)) → BX b L ι' → EX b L ι' s3 → Q none ι') :
    PC xl n 37 0 [(0, .ref 1)] [] ι Q := by
  have b1 : TBd lo b L s1 := e1 ▸ tok_n ht
  have b2 : TBd lo b L s2 := e2 ▸ tok_n b1
  have b3 : TBd lo b L s3 := e3 ▸ tok_n b2
  refine (t_37_0 ?_).weak
  rw [rf_1_0, rf_1_1, rf_2_0, rf_3_1]
  refine advT hB hT ht (fun ι1 k1 => ?_)
  rw [e1] at k1
  refine numX (m := 3) (TX.tk k1) b1 rfl (fun g1 => ?_) (fun g1 ι' hf => ?_)
  rotate_left
  · intro r hr
    cases hr
    exact ⟨fun c => absurd rfl c, fun _ => hF1 g1 ι' hf⟩
  intro r hr
  cases hr
  refine ⟨fun _ _ _ => ?_, fun c => absurd c (by decide)⟩
  have p1 : (ι1 22 5).toInt = s1.2.2.2 := (TX.tk k1).2.2.2 g1.1
  have v1 := b1.2.2.2.1 g1.1
  have d4 : s1.2.2.2.toNat < 4 := by have := g1.2; omega
  have p1n : (ι1 22 5).toInt = (s1.2.2.2.toNat : Nat) := by rw [p1]; omega
  rw [i_ixn p1n, re_9 _ d4]
  generalize hd : s1.2.2.2.toNat = d at *
  refine advT (hB.tk k1) (TX.tk k1) b1 (fun ι2 k2 => ?_)
  rw [e2] at k2
  refine numX (m := 5) (TX.tk k2) b2 rfl (fun g2 => ?_) (fun g2 ι' hf => ?_)
  rotate_left
  · intro r hr
    cases hr
    exact ⟨fun c => absurd rfl c, fun _ => hF2 g1 g2 ι' hf⟩
  intro r hr
  cases hr
  refine ⟨fun _ => ?_, fun c => absurd c (by decide)⟩
  have v2 := b2.2.2.2.1 g2.1
  have p2 : ι2 22 5 = cI s2.2.2.2 := cI_eq ((TX.tk k2).2.2.2 g2.1) v2.1 (by omega)
  have d2 : ∀ a j, dX a j → ι2 a j = ι a j := fun a j hd => (tkX_d k2 a j hd).trans (tkX_d k1 a j hd)
  have q2 : ι2 (10 + 2 * d) 2 = ι (10 + 2 * d) 2 := d2 _ _ (by unfold dX; omega)
  refine (t_38_0 ?_).weak
  rw [p2, q2]
  refine ⟨fun c => ?_, fun c => ?_⟩
  rotate_left
  · intro r hr
    cases hr
    refine ⟨fun c => absurd c (by decide), fun _ => ?_⟩
    exact fail_spec (hF3 g1 g2 (by rw [c]; decide) _ (FX.fail (TX.tk k2) (by decide)))
  have hbit := (and_one (ι (10 + 2 * d) 2 >>> (cI s2.2.2.2 &&& 31))).resolve_right c
  intro r hr
  cases hr
  refine ⟨fun _ => ?_, fun c => absurd rfl c⟩
  refine (t_39_0 ⟨fun c => absurd c (by decide), fun _ => ?_⟩).weak
  rw [q2]
  have f1 : ∀ a j, ¬ (a = 10 + 2 * d ∧ j = 2) → (up ι2 (10 + 2 * d) 2 (ι (10 + 2 * d) 2 ||| (1 <<< (cI s2.2.2.2 &&& 31)))) a j = ι2 a j := fun a j h1 => up_ne h1
  have f2 : (up ι2 (10 + 2 * d) 2 (ι (10 + 2 * d) 2 ||| (1 <<< (cI s2.2.2.2 &&& 31)))) (10 + 2 * d) 2 = ι (10 + 2 * d) 2 ||| (1 <<< (cI s2.2.2.2 &&& 31)) := up_same _ _ _ _
  revert f1 f2
  generalize (up ι2 (10 + 2 * d) 2 (ι (10 + 2 * d) 2 ||| (1 <<< (cI s2.2.2.2 &&& 31)))) = ι3
  intro f1 f2
  have B3 : BX b L ι3 := ((hB.tk k1).tk k2).congr (fun j => f1 _ _ (by omega)) (fun j => f1 _ _ (by omega))
  have T3 : TX ι3 s2 := (TX.tk k2).congr (fun j => f1 _ _ (by omega))
  refine advT B3 T3 b2 (fun ι4 k4 => ?_)
  rw [e3] at k4
  have z4 : ι4 1 2 = 0 := by rw [tkX_f k4, f1 1 2 (by omega), tkX_f k2, tkX_f k1]; exact h0
  refine endX (B3.tk k4) (TX.tk k4) b3 z4 (fun ι5 o5 B5 E5 => ?_)
  have o : ∀ a j, dX a j → ι5 a j = ι3 a j := fun a j hd => (o5 a j hd).trans (tkX_d k4 a j hd)
  refine hO g1 g2 hbit ι5 (fun a j hd h1 => ?_) ?_ B5 E5
  · rw [o a j hd, f1 a j h1, d2 a j hd]
  · rw [o _ _ (by unfold dX; omega), f2]
/-- the model's, from the token behind the name on -/
theorem nM {s1 s2 s3 : TK} (hB : BM b L κ) (hT : TM κ s1) (b1 : TBd lo b L s1) (h4 : s1.1 ≠ 4) (e2 : tokF b L s1.2.2.1 = s2) (e3 : tokF b L s2.2.2.1 = s3)
    (hF1 : ¬ nOK s1 3 → ∀ κ' : IS, FM κ' s1.2.1 → Q none κ')
    (hF2 : nOK s1 3 → ¬ nOK s2 5 → ∀ κ' : IS, FM κ' s2.2.1 → Q none κ')
    (hF3 : nOK s1 3 → nOK s2 5 → ¬ ((κ 134 s1.2.2.2.toNat >>> (cI s2.2.2.2 &&& 31)) &&& 1) = 0 → ∀ κ' : IS, FM κ' s2.2.1 → Q none κ')
    (hO : nOK s1 3 → nOK s2 5 → ((κ 134 s1.2.2.2.toNat >>> (cI s2.2.2.2 &&& 31)) &&& 1) = 0 → ∀ κ' : IS, (∀ a j, dM a j → ¬ (a = 134 ∧ j = s1.2.2.2.toNat) → ¬ (a = 129 ∧ j = 10) → κ' a j = κ a j) → κ' 134 s1.2.2.2.toNat = κ 134 s1.2.2.2.toNat ||| (1 <<< (cI s2.2.2.2 &&& 31)) → (κ' 129 10).toInt = max (κ 129 10).toInt (s1.2.2.2.toNat : Nat) → BM b L κ' → TM κ' s3 → Q none κ') :
    PC xl n 162 0 [(0, .ref 129)] [] κ Q := by
  have t0 : (0 : Int32).toInt = 0 := rfl
  have t3 : (3 : Int32).toInt = 3 := rfl
  have t5 : (5 : Int32).toInt = 5 := rfl
  have b2 : TBd lo b L s2 := e2 ▸ tok_n b1
  have b3 : TBd lo b L s3 := e3 ▸ tok_n b2
  -- behind a fault
  have fl : ∀ (κ1 : IS) (r1 : Int32) (p : Nat), FM κ1 p → (∀ κ' : IS, FM κ' p → Q none κ') → PC xl n 162 27 [(0, .ref 129), (1, .int r1)] [.ref 129] κ1 Q := by
    intro κ1 r1 p hF hQ
    have F2 : FM (up κ1 129 10 (κ1 129 10)) p := hF.congr (up_ne (by simp)) (up_ne (by simp))
    refine (t_162_27 (looked_f (nz F2.1) ?_)).weak
    intro r hr
    cases hr
    exact ⟨fun _ => next_f F2.1 (hQ _ F2), fun c => absurd c (nz F2.1)⟩
  by_cases g1 : nOK s1 3
  rotate_left
  · refine (t_162_0 (rdn_bad hT h4 (fun hh => g1 ⟨hh.1, by rw [t3] at hh; omega⟩) (fun c hc => ?_))).weak
    have F1 : FM (failM κ c) s1.2.1 := FM.fail hT hc
    intro r hr
    cases hr
    exact ⟨fun _ => fl _ _ _ F1 (hF1 g1), fun c => absurd c (nz F1.1)⟩
  have v1 := b1.2.2.2.1 g1.1
  have d4 : s1.2.2.2.toNat < 4 := by have := g1.2; omega
  have k17 : (κ 129 17).toInt = (s1.2.2.2.toNat : Nat) := by rw [hT.2.2.2.2 g1.1]; omega
  generalize hd : s1.2.2.2.toNat = d at *
  refine (t_162_0 (rdn_ok hB hT b1 g1.1 (by rw [t0]; omega) (by rw [t3]; exact g1.2) (fun κ1 k1 => ?_))).weak
  rw [e2] at k1
  intro r hr
  cases hr
  by_cases h42 : s2.1 = 4
  · have F2 := FM.four (TM.tk k1) h42
    exact ⟨fun _ => fl _ _ _ F2 (hF2 g1 (fun hh => by have := hh.1; omega)), fun c => absurd c (nz F2.1)⟩
  have f18 := ((TM.tk k1).2.2.1 h42).2
  have k10 : κ1 129 10 = κ 129 10 := k1.1 129 10 (by omega)
  -- behind the highest door
  have rest : ∀ κ2 : IS, (∀ a j, ¬ (a = 129 ∧ j = 10) → κ2 a j = κ1 a j) → (κ2 129 10).toInt = max (κ 129 10).toInt (d : Nat) → PC xl n 161 0 [(0, .ref 129), (1, .int 0), (2, .int 5)] [] κ2 (fun v2 κ3 => ∀ r2, v2 = some (.int r2) → ((¬ (κ3 129 18) = 0 → PC xl n 151 0 [(0, .ref 129)] [] κ3 (fun _ κ4 => Q none κ4)) ∧ ((κ3 129 18) = 0 → (0 ≤ (κ 129 17).toInt → (κ 129 17).toInt < ln (rf 129 11) → ((¬ (((κ3 (rf 129 11) (κ 129 17).toNatClampNeg) >>> (r2 &&& 31)) &&& 1) = 0 → PC xl n 162 67 [(0, .ref 129), (1, .int (κ 129 17)), (2, .int r2)] [.int 0, .ref 129] κ3 Q) ∧ ((((κ3 (rf 129 11) (κ 129 17).toNatClampNeg) >>> (r2 &&& 31)) &&& 1) = 0 → PC xl n 162 67 [(0, .ref 129), (1, .int (κ 129 17)), (2, .int r2)] [.int 1, .ref 129] κ3 Q)))))) := by
    intro κ2 o2 m2
    have T2 : TM κ2 s2 := (TM.tk k1).congr (fun j _ _ => o2 _ _ (by omega))
    have B2 : BM b L κ2 := (hB.tk k1).congr (o2 _ _ (by omega)) (fun q => o2 _ _ (by omega))
    have e := T2.2.2.1 h42
    by_cases g2 : nOK s2 5
    rotate_left
    · refine looked_bad e.2 (fun hh => g2 ?_) (fun c hc => ?_)
      · have t2e : (2 : Int32).toInt = 2 := rfl
        have q1 := hh.1
        rw [i_eq, e.1, t2e] at q1
        have q2 : s2.1 = 2 := by omega
        have q3 := T2.2.2.2.2 q2
        rw [q3, t5] at hh
        exact ⟨q2, hh.2.2⟩
      · have F2 : FM (failM κ2 c) s2.2.1 := FM.fail T2 hc
        intro r hr
        cases hr
        exact ⟨fun _ => next_f F2.1 (hF2 g1 g2 _ F2), fun c => absurd c (nz F2.1)⟩
    have v2 := b2.2.2.2.1 g2.1
    have w2 : (κ2 129 17).toInt = s2.2.2.2 := T2.2.2.2.2 g2.1
    refine looked_ok e.2 (by rw [i_eq, e.1, g2.1]; rfl) (by rw [w2, t0]; exact v2.1) (by rw [w2, t5]; exact g2.2) ?_
    have c2 : κ2 129 17 = cI s2.2.2.2 := cI_eq w2 v2.1 (by omega)
    intro r hr
    cases hr
    have x4 : κ2 134 d = κ 134 d := by rw [o2 _ _ (by omega), k1.1 _ _ (by omega)]
    rw [rf_129_11, i_ixn k17, c2, x4]
    refine ⟨fun c => absurd e.2 c, fun _ _ _ => ⟨fun c => ?_, fun c => ?_⟩⟩
    · refine (t_162_67 (needs_spec (fun hh => ?_) (fun _ _ => ?_))).weak
      · rcases hh with hh | hh
        · exact absurd rfl hh
        · exact absurd e.2 hh
      · intro _ _ _ _
        have F2 : FM (failM κ2 4) s2.2.1 := FM.fail T2 (by decide)
        have F3 : ∀ x, FM (up (failM κ2 4) (rf 129 11) (κ 129 17).toNatClampNeg x) s2.2.1 := fun x => F2.congr (up_ne (by rw [rf_129_11]; omega)) (up_ne (by rw [rf_129_11]; omega))
        exact next_f (F3 _).1 (hF3 g1 g2 c _ (F3 _))
    · refine (t_162_67 (needs_spec (fun _ => ?_) (fun c => absurd c (by decide)))).weak
      intro _ _ _ _
      rw [rf_129_11, i_ixn k17, x4]
      have T3 : TM (up κ2 134 d (κ 134 d ||| (1 <<< (cI s2.2.2.2 &&& 31)))) s2 := T2.congr (fun j _ _ => up_ne (by omega))
      have B3 : BM b L (up κ2 134 d (κ 134 d ||| (1 <<< (cI s2.2.2.2 &&& 31)))) := B2.congr (up_ne (by omega)) (fun q => up_ne (by omega))
      refine nextT B3 T3 b2 h42 (fun κ4 k4 => ?_)
      rw [e3] at k4
      refine hO g1 g2 c κ4 (fun a j hd h1 h2 => ?_) ?_ ?_ (B3.tk k4) (TM.tk k4)
      · rw [tkM_d k4 a j hd, up_ne h1, o2 a j h2, tkM_d k1 a j hd]
      · rw [k4.1 _ _ (by omega), up_same]
      · rw [k4.1 _ _ (by omega), up_ne (by omega)]; exact m2
  refine ⟨fun c => absurd f18 c, fun _ => ⟨fun c => ?_, fun c => ?_⟩⟩
  · rw [i_lt, k10, k17] at c
    refine (t_162_27 (rest _ (fun a j h1 => up_ne h1) ?_)).weak
    rw [up_same, k10]; omega
  · rw [i_lt, k10, k17] at c
    refine rest _ (fun a j h1 => up_ne h1) ?_
    rw [up_same, k17]; omega
theorem DR.nots {d : Nat} (h : DR nv nd cnt ι κ) (hd : d < 4) {x : Int32} (hx : ¬ x = 0) (h1 : ∀ a j, dX a j → ¬ (a = 10 + 2 * d ∧ j = 2) → ι' a j = ι a j) (h2 : ∀ a j, dM a j → ¬ (a = 134 ∧ j = d) → ¬ (a = 129 ∧ j = 10) → κ' a j = κ a j) (hi : ι' (10 + 2 * d) 2 = x) (hk : κ' 134 d = x) (hm : (κ' 129 10).toInt = max (κ 129 10).toInt (d : Nat)) : DR nv nd cnt ι' κ' := by
  have x1 : ∀ a j, a ≤ 21 → ¬ a = 1 → ¬ (a = 10 + 2 * d ∧ j = 2) → ι' a j = ι a j := fun a j h3 h4 h5 => h1 a j ⟨h3, fun e => h4 e.1⟩ h5
  have m3 : ∀ j, κ' 133 j = κ 133 j := fun j => h2 133 j (Or.inl rfl) (by omega) (by omega)
  have m4 : ∀ j, ¬ j = d → κ' 134 j = κ 134 j := fun j g => h2 134 j (Or.inr (Or.inl rfl)) (fun e => g e.2) (by omega)
  have m9 : ∀ j, 6 ≤ j → j ≤ 9 → κ' 129 j = κ 129 j := fun j g1 g2 => h2 129 j (Or.inr (Or.inr ⟨rfl, g1, by omega⟩)) (by omega) (by omega)
  obtain ⟨⟨a1, a2, a3⟩, ⟨b1, b2, b3⟩, c, dv, e, f, g, i1, i2⟩ := h
  refine ⟨⟨a1, by rw [x1 3 2 (by omega) (by omega) (by omega)]; exact a2, by rw [m9 6 (by omega) (by omega)]; exact a3⟩, ⟨b1, by rw [x1 3 3 (by omega) (by omega) (by omega)]; exact b2, by rw [m9 7 (by omega) (by omega)]; exact b3⟩, ?_, ?_, ?_, ?_, ?_, by rw [x1 2 6 (by omega) (by omega) (by omega)]; exact i1, by rw [m3]; exact i2⟩
  · rw [h1 1 4 ⟨by omega, by omega⟩ (by omega), m9 8 (by omega) (by omega)]; exact c
  · refine ⟨fun v hv => ?_, fun v hv => by rw [m3]; exact dv.2 v hv⟩
    rw [x1 _ _ (by omega) (by omega) (by omega), x1 _ _ (by omega) (by omega) (by omega), x1 _ _ (by omega) (by omega) (by omega), x1 _ _ (by omega) (by omega) (by omega), m3, m3, m3]
    exact dv.1 v hv
  · intro q hq
    obtain ⟨e1, e2, e3, e4, e5, e6⟩ := e q hq
    rw [x1 _ 1 (by omega) (by omega) (by omega), x1 _ 3 (by omega) (by omega) (by omega), m3, m3, m3]
    refine ⟨e1, e2, e3, ?_, e5, fun i hi => ?_⟩
    · by_cases eq : q = d
      · rw [eq, hi, hk]
      · rw [x1 _ _ (by omega) (by omega) (by omega), m4 q eq]; exact e4
    · rw [x1 _ _ (by omega) (by omega) (by omega), m3]
      exact e6 i hi
  · refine ⟨f.1, by rw [x1 _ _ (by omega) (by omega) (by omega)]; exact f.2.1, by rw [m3]; exact f.2.2.1, fun i hi => ?_⟩
    rw [x1 _ _ (by omega) (by omega) (by omega), m3]
    exact f.2.2.2 i hi
  · have x18 : ∀ i, ι' 18 i = ι 18 i := fun i => x1 18 i (by omega) (by omega) (by omega)
    have mx1 : (κ 129 10).toInt ≤ (κ' 129 10).toInt := by clear g; rw [hm]; omega
    have mx2 : (d : Int) ≤ (κ' 129 10).toInt := by clear g; rw [hm]; omega
    have mx3 : (κ 129 10).toInt < (d : Nat) → (d : Int) = (κ' 129 10).toInt := by clear g; rw [hm]; omega
    have mx4 : ¬ (κ 129 10).toInt < (d : Nat) → (κ' 129 10).toInt = (κ 129 10).toInt ∧ ¬ (κ 129 10).toInt = -4 := by clear g; rw [hm]; omega
    obtain ⟨g1, g2, g3, g4⟩ := g
    refine ⟨fun i hi hl => ?_, fun q hq hn => ?_, ?_, ?_⟩
    · rw [x18] at hl ⊢
      have := g1 i hi hl
      rw [m9 9 (by clear g3 g4; omega) (by clear g3 g4; omega)]
      exact ⟨this.1, Int.le_trans this.2 mx1⟩
    · by_cases eq : q = d
      · rw [eq]; exact mx2
      · rw [m4 q eq] at hn
        exact Int.le_trans (g2 q hq hn) mx1
    · rw [m9 9 (by clear g3 g4; omega) (by clear g3 g4; omega)]
      simp only [x18]
      exact g3
    · by_cases hc : (κ 129 10).toInt < (d : Nat)
      · exact Or.inr (Or.inr ⟨d, hd, by rw [hk]; exact hx, mx3 hc⟩)
      · rw [(mx4 hc).1]
        simp only [x18]
        rcases g4 with q | q | ⟨q, q1, q2, q3⟩
        · exact absurd q (mx4 hc).2
        · exact Or.inr (Or.inl q)
        · refine Or.inr (Or.inr ⟨q, q1, ?_, q3⟩)
          by_cases eq : q = d
          · rw [eq, hk]; exact hx
          · rw [m4 q eq]; exact q2
theorem N2 {K : IS → IS → Prop} (h : OK lo b L t nv nd cnt ι κ) (h1 : t.1 = 1) (hx : x1.toInt = 5) (hK : ∀ ι1 κ1 : IS, LO lo b L ι1 κ1 → K ι1 κ1) : PC xl n 37 0 [(0, .ref 1)] [] ι (fun _ ι1 => PC xl n2 154 123 [(0, .ref 129), (1, .int x1)] [] κ (fun _ κ1 => K ι1 κ1)) := by
  obtain ⟨hX, hM, tX, tM, tb, hd, h0⟩ := h
  have b1 : TBd lo b L (tokF b L t.2.2.1) := tok_n tb
  have go : ∀ (κ1 : IS) {R : Option Value → IS → Prop}, PC xl n2 162 0 [(0, .ref 129)] [] κ1 (fun _ κ2 => R none κ2) → PC xl n2 158 0 [(0, .ref 129), (1, .int x1)] [] κ1 R := by
    intro κ1 R hR
    exact (t_158_0 ⟨fun c => by omega, fun _ => hR, fun c => by omega, fun c => by omega⟩).weak
  refine nX rfl rfl rfl hX tX tb h0 (fun g1 ι1 f1 => ?_) (fun g1 g2 ι1 f1 => ?_) (fun g1 g2 g3 ι1 f1 => ?_) (fun g1 g2 g3 ι1 o1 v1 B1 E1 => ?_)
  · refine pre123 hM tM tb h1 (fun κ1 k1 h4 => hK _ _ (Or.inr (FR.mk f1 (FM.four (TM.tk k1) h4)))) (fun κ1 k1 h4 => go κ1 ?_)
    refine nM (hM.tk k1) (TM.tk k1) b1 h4 rfl rfl (fun _ κ2 f2 => ?_) (fun c => absurd c g1) (fun c => absurd c g1) (fun c => absurd c g1)
    exact tail_spec (lo := lo) (b := b) (L := L) (Or.inr (FR.mk f1 f2)) (fun κ3 h3 => hK _ _ h3)
  all_goals
    have v1b := b1.2.2.2.1 g1.1
    have d4 : (tokF b L t.2.2.1).2.2.2.toNat < 4 := by have := g1.2; omega
    have bits : ∀ κ1 : IS, tkM κ κ1 (tokF b L t.2.2.1) → ι (10 + 2 * (tokF b L t.2.2.1).2.2.2.toNat) 2 = κ1 134 (tokF b L t.2.2.1).2.2.2.toNat := fun κ1 k1 => by
      rw [k1.1 134 _ (by omega)]
      exact (hd.2.2.2.2.1 _ d4).2.2.2.1
  · refine pre123 hM tM tb h1 (fun κ1 k1 h4 => absurd g1.1 (by omega)) (fun κ1 k1 h4 => go κ1 ?_)
    refine nM (hM.tk k1) (TM.tk k1) b1 h4 rfl rfl (fun c => absurd g1 c) (fun _ _ κ2 f2 => ?_) (fun _ c => absurd c g2) (fun _ c => absurd c g2)
    exact tail_spec (lo := lo) (b := b) (L := L) (Or.inr (FR.mk f1 f2)) (fun κ3 h3 => hK _ _ h3)
  · refine pre123 hM tM tb h1 (fun κ1 k1 h4 => absurd g1.1 (by omega)) (fun κ1 k1 h4 => go κ1 ?_)
    refine nM (hM.tk k1) (TM.tk k1) b1 h4 rfl rfl (fun c => absurd g1 c) (fun _ c => absurd g2 c) (fun _ _ _ κ2 f2 => ?_) (fun _ _ c => absurd c (by rw [← bits κ1 k1]; exact g3))
    exact tail_spec (lo := lo) (b := b) (L := L) (Or.inr (FR.mk f1 f2)) (fun κ3 h3 => hK _ _ h3)
  · refine pre123 hM tM tb h1 (fun κ1 k1 h4 => absurd g1.1 (by omega)) (fun κ1 k1 h4 => go κ1 ?_)
    refine nM (hM.tk k1) (TM.tk k1) b1 h4 rfl rfl (fun c => absurd g1 c) (fun _ c => absurd g2 c) (fun _ _ c => absurd (by rw [← bits κ1 k1]; exact g3) c) (fun _ _ _ κ2 o2 w0 m2 B2 T2 => ?_)
    have b2 : TBd lo b L (tokF b L (tokF b L t.2.2.1).2.2.1) := tok_n b1
    have b3 : TBd lo b L (tokF b L (tokF b L (tokF b L t.2.2.1).2.2.1).2.2.1) := tok_n b2
    have v2b := b2.2.2.2.1 g2.1
    have D : DR nv nd cnt ι1 κ2 := (hd.congr (fun _ _ _ => rfl) (tkM_d k1)).nots d4 (or_nz v2b.1 g2.2) o1 o2 v1 (by rw [w0, ← bits κ1 k1]) m2
    have fin : EL lo b L ι1 κ2 := by
      by_cases h43 : (tokF b L (tokF b L (tokF b L t.2.2.1).2.2.1).2.2.1).1 = 4
      · rcases E1 with ⟨q, -⟩ | ⟨-, q⟩
        · omega
        · exact Or.inr (FR.mk q (FM.four T2 h43))
      · exact Or.inl ⟨_, nv, nd, cnt, B1, B2, T2, b3, h43, D, E1⟩
    exact tail_spec fin (fun κ3 h3 => hK _ _ h3)
end NotL
end
section
/-! LINES: the plan's -/
section PlanL
variable {xl : List Int32} {b : Nat → Int} {lo L n n2 nv nd cnt : Nat} {ι ι' κ κ' : IS} {t : TK} {Q : Option Value → IS → Prop} {x1 : Int32} {w : Value}
theorem i_d10 {x : Int32} {z : Int} (h : x.toInt = z) (h0 : 0 ≤ z) : (x / 10).toInt = z / 10 := by
  have t10 : (10 : Int32).toInt = 10 := rfl
  have hr := i_rng x
  rw [Int32.toInt_div, t10, h]
  rw [Int.tdiv_eq_ediv_of_nonneg h0]
  exact i_bm (by omega)
theorem i_m10 {x : Int32} {z : Int} (h : x.toInt = z) (h0 : 0 ≤ z) : (x - x / 10 * 10).toInt = z % 10 := by
  have t10 : (10 : Int32).toInt = 10 := rfl
  have hr := i_rng x
  have h1 := i_d10 h h0
  have h2 : (x / 10 * 10).toInt = z / 10 * 10 := by rw [i_mul (by rw [h1, t10]; omega), h1, t10]
  rw [i_sub (by rw [h, h2]; omega), h, h2]
  omega
theorem sky_spec {z : Int} (hz : x1.toInt = z) (h : ∀ r : Int32, (r = 0 ↔ ¬ (90 ≤ z ∧ z ≤ 92)) → Q (some (.int r)) ι) : PC xl n 42 0 [(0, .int x1)] [] ι Q := by
  have t90 : (90 : Int32).toInt = 90 := rfl
  have t92 : (92 : Int32).toInt = 92 := rfl
  refine (t_42_0 ?_).weak
  rw [i_lt, i_lt, hz, t90, t92]
  exact ⟨fun c => h 0 ⟨fun _ => by omega, fun _ => rfl⟩, fun c => ⟨fun c2 => h 0 ⟨fun _ => by omega, fun _ => rfl⟩, fun c2 => h 1 ⟨fun c => absurd c (by decide), fun hh => absurd ⟨by omega, by omega⟩ hh⟩⟩⟩
theorem isAct_spec {z : Int} (hz : x1.toInt = z) (h : ∀ r : Int32, (r = 0 ↔ ¬ actP z) → Q (some (.int r)) ι) : PC xl n 41 0 [(0, .int x1)] [] ι Q := by
  have t0 : (0 : Int32).toInt = 0 := rfl
  have t4 : (4 : Int32).toInt = 4 := rfl
  have sk : ¬ (0 ≤ z ∧ z / 10 ≤ 3 ∧ z % 10 ≤ 3) → PC xl n 41 24 [(0, .int x1)] [] ι Q := by
    intro hn
    refine (t_41_24 ⟨fun c => absurd rfl c, fun _ => sky_spec hz ?_⟩).weak
    intro r hr r2 e
    cases e
    refine ⟨fun c => h 0 ⟨fun _ hh => ?_, fun _ => rfl⟩, fun c => h 1 ⟨fun c => absurd c (by decide), fun hh => ?_⟩⟩
    · rcases hh with hh | hh
      · exact hn hh
      · exact hr.mp c hh
    · exact absurd (hr.mpr (fun g => hh (Or.inr g))) c
  refine (t_41_0 ?_).weak
  by_cases h0 : 0 ≤ z
  · rw [i_lt, hz, t0, i_lt, i_d10 hz h0, t4, i_lt, i_m10 hz h0, t4]
    refine ⟨fun c => by omega, fun _ => ⟨fun c => sk (by omega), fun c => ⟨fun c2 => sk (by omega), fun c2 => ⟨fun _ => h 1 ⟨fun c => absurd c (by decide), fun hh => absurd (Or.inl ⟨h0, by omega, by omega⟩) hh⟩, fun c => absurd c (by decide)⟩⟩⟩⟩
  · rw [i_lt, hz, t0]
    exact ⟨fun _ => sk (by omega), fun c => by omega⟩
theorem like_spec {z : Int} (hz : x1.toInt = z) (h0 : 0 ≤ z) (h : ∀ r : Int32, (r = 0 ↔ ¬ actP z) → Q (some (.int r)) κ) : PC xl n 164 0 [(0, .int x1)] [] κ Q := by
  have t90 : (90 : Int64).toInt = 90 := rfl
  have t92 : (92 : Int64).toInt = 92 := rfl
  have t0 : (0 : Int64).toInt = 0 := rfl
  have t3 : (3 : Int64).toInt = 3 := rfl
  have t4 : (4 : Int32).toInt = 4 := rfl
  refine (t_164_0 (in_spec ?_)).weak
  rw [Int32.toInt_toInt64, hz, t90, t92]
  intro r hr
  have hr := r01 hr
  refine ⟨fun c => h 1 ⟨fun c => absurd c (by decide), fun hh => ?_⟩, fun c => in_spec ?_⟩
  · exact absurd (hr.mpr (fun g => hh (Or.inr g))) c
  · have n1 := hr.mp c
    rw [Int32.toInt_toInt64, i_d10 hz h0, t0, t3]
    intro r2 hr2
    have hr2 := r01 hr2
    rw [i_lt, i_m10 hz h0, t4]
    refine ⟨fun c => h 0 ⟨fun _ hh => ?_, fun _ => rfl⟩, fun c => ⟨fun c2 => h 0 ⟨fun _ hh => ?_, fun _ => rfl⟩, fun c2 => h 1 ⟨fun c => absurd c (by decide), fun hh => ?_⟩⟩⟩
    · rcases hh with hh | hh
      · exact hr2.mp c ⟨by omega, hh.2.1⟩
      · exact n1 hh
    · rcases hh with hh | hh
      · omega
      · exact n1 hh
    · refine absurd (hr2.mpr (fun g => hh (Or.inl ⟨h0, g.2, by omega⟩))) c
/-- the highest visitor and door that an act of the plan names -/
theorem high_spec {z : Int} (hz : (κ 129 17).toInt = z) (h0 : 0 ≤ z) (h : ∀ κ' : IS, (∀ a j, ¬ (a = 129 ∧ (j = 9 ∨ j = 10)) → κ' a j = κ a j) → (z < 90 → (κ' 129 9).toInt = max (κ 129 9).toInt (z / 10) ∧ (κ' 129 10).toInt = max (κ 129 10).toInt (z % 10)) → (¬ z < 90 → (κ' 129 9).toInt = (κ 129 9).toInt ∧ (κ' 129 10).toInt = (κ 129 10).toInt) → PC xl n 163 175 [(0, .ref 129)] [] κ' Q) : PC xl n 163 93 [(0, .ref 129)] [] κ Q := by
  have t90 : (90 : Int32).toInt = 90 := rfl
  have q1 := i_d10 hz h0
  have q2 := i_m10 hz h0
  have l168 : ∀ κ1 : IS, (∀ a j, ¬ (a = 129 ∧ j = 9) → κ1 a j = κ a j) → (z < 90 → (κ1 129 9).toInt = max (κ 129 9).toInt (z / 10)) → (¬ z < 90 → (κ1 129 9).toInt = (κ 129 9).toInt) → (z < 90 → z % 10 ≤ (κ 129 10).toInt) → PC xl n 163 168 [(0, .ref 129)] [.ref 129] κ1 Q := by
    intro κ1 o1 a1 a2 a3
    have e10 : κ1 129 10 = κ 129 10 := o1 _ _ (by omega)
    refine (t_163_168 (h _ (fun a j hn => ?_) (fun c => ⟨?_, ?_⟩) (fun c => ⟨?_, ?_⟩))).weak
    · rw [up_ne (by omega), o1 a j (by omega)]
    · rw [up_ne (by omega)]; exact a1 c
    · rw [up_same, e10]; have := a3 c; omega
    · rw [up_ne (by omega)]; exact a2 c
    · rw [up_same, e10]
  have l127 : (z < 90 → ¬ (κ 129 9).toInt < z / 10) → PC xl n 163 127 [(0, .ref 129)] [.ref 129] κ Q := by
    intro a1
    have u17 : (up κ 129 9 (κ 129 9)) 129 17 = κ 129 17 := up_ne (by omega)
    have u10 : (up κ 129 9 (κ 129 9)) 129 10 = κ 129 10 := up_ne (by omega)
    refine (t_163_127 ?_).weak
    rw [u17, u10, i_lt, hz, t90, i_lt, q2]
    refine ⟨fun c => l168 _ (fun a j hn => up_ne hn) (fun c2 => absurd c2 c) (fun _ => by rw [up_same]) (fun c2 => absurd c2 c), fun c => ⟨fun c2 => l168 _ (fun a j hn => up_ne hn) (fun _ => ?_) (fun c3 => absurd c c3) (fun _ => by omega), fun c2 => h _ (fun a j hn => ?_) (fun _ => ⟨?_, ?_⟩) (fun c3 => absurd c c3)⟩⟩
    · rw [up_same]; have := a1 c; omega
    · rw [up_ne (by omega), up_ne (by omega)]
    · rw [up_ne (by omega), up_same]; have := a1 c; omega
    · rw [up_same, q2]; omega
  refine (t_163_93 ?_).weak
  have u17 : (up κ 129 9 (κ 129 17 / 10)) 129 17 = κ 129 17 := up_ne (by omega)
  have u10 : (up κ 129 9 (κ 129 17 / 10)) 129 10 = κ 129 10 := up_ne (by omega)
  rw [u17, u10, i_lt, hz, t90, i_lt, q1, i_lt, q2]
  refine ⟨fun c => l127 (fun c2 => absurd c2 c), fun c => ⟨fun c2 => l127 (fun _ => c2), fun c2 => ⟨fun c3 => absurd c c3, fun _ => ⟨fun c4 => l168 _ (fun a j hn => up_ne hn) (fun _ => ?_) (fun c3 => absurd c c3) (fun _ => by omega), fun c4 => h _ (fun a j hn => ?_) (fun _ => ⟨?_, ?_⟩) (fun c3 => absurd c c3)⟩⟩⟩⟩
  · rw [up_same, q1]; omega
  · rw [up_ne (by omega), up_ne (by omega)]
  · rw [up_ne (by omega), up_same, q1]; omega
  · rw [up_same, q2]; omega
theorem DR.act {z : Int} (h : DR nv nd cnt ι κ) (hc : cnt < 8) (hz : actP z) (h1 : ∀ a j, dX a j → ¬ (a = 18 ∧ j = cnt) → ¬ (a = 2 ∧ j = 2) → ι' a j = ι a j) (h2 : ∀ a j, dM a j → ¬ (a = 133 ∧ j = 53 + cnt) → ¬ (a = 133 ∧ j = 52) → ¬ (a = 129 ∧ (j = 9 ∨ j = 10)) → κ' a j = κ a j) (hv : ι' 18 cnt = κ' 133 (53 + cnt)) (hv2 : (ι' 18 cnt).toInt = z) (hi : (ι' 2 2).toInt = cnt + 1) (hk : (κ' 133 52).toInt = cnt + 1) (hm1 : z < 90 → (κ' 129 9).toInt = max (κ 129 9).toInt (z / 10) ∧ (κ' 129 10).toInt = max (κ 129 10).toInt (z % 10)) (hm2 : ¬ z < 90 → (κ' 129 9).toInt = (κ 129 9).toInt ∧ (κ' 129 10).toInt = (κ 129 10).toInt) : DR nv nd (cnt + 1) ι' κ' := by
  have x1 : ∀ a j, a ≤ 21 → ¬ a = 1 → ¬ (a = 18 ∧ j = cnt) → ¬ (a = 2 ∧ j = 2) → ι' a j = ι a j := fun a j h3 h4 h5 h6 => h1 a j ⟨h3, fun e => h4 e.1⟩ h5 h6
  have m3 : ∀ j, ¬ j = 53 + cnt → ¬ j = 52 → κ' 133 j = κ 133 j := fun j g1 g2 => h2 133 j (Or.inl rfl) (fun e => g1 e.2) (fun e => g2 e.2) (by omega)
  have m4 : ∀ j, κ' 134 j = κ 134 j := fun j => h2 134 j (Or.inr (Or.inl rfl)) (by omega) (by omega) (by omega)
  have m9 : ∀ j, 6 ≤ j → j ≤ 8 → κ' 129 j = κ 129 j := fun j g1 g2 => h2 129 j (Or.inr (Or.inr ⟨rfl, g1, by omega⟩)) (by omega) (by omega) (by omega)
  obtain ⟨⟨a1, a2, a3⟩, ⟨b1, b2, b3⟩, c, dv, e, f, g, i1, i2⟩ := h
  refine ⟨⟨a1, by rw [x1 3 2 (by omega) (by omega) (by omega) (by omega)]; exact a2, by rw [m9 6 (by omega) (by omega)]; exact a3⟩, ⟨b1, by rw [x1 3 3 (by omega) (by omega) (by omega) (by omega)]; exact b2, by rw [m9 7 (by omega) (by omega)]; exact b3⟩, ?_, ?_, ?_, ?_, ?_, by rw [x1 2 6 (by omega) (by omega) (by omega) (by omega)]; exact i1, by rw [m3 _ (by omega) (by omega)]; exact i2⟩
  · rw [h1 1 4 ⟨by omega, by omega⟩ (by omega) (by omega), m9 8 (by omega) (by omega)]; exact c
  · refine ⟨fun v hv => ?_, fun v hv => by rw [m3 _ (by omega) (by omega)]; exact dv.2 v hv⟩
    rw [x1 _ _ (by omega) (by omega) (by omega) (by omega), x1 _ _ (by omega) (by omega) (by omega) (by omega), x1 _ _ (by omega) (by omega) (by omega) (by omega), x1 _ _ (by omega) (by omega) (by omega) (by omega), m3 _ (by omega) (by omega), m3 _ (by omega) (by omega), m3 _ (by omega) (by omega)]
    exact dv.1 v hv
  · intro q hq
    obtain ⟨e1, e2, e3, e4, e5, e6⟩ := e q hq
    rw [x1 _ 1 (by omega) (by omega) (by omega) (by omega), x1 _ 2 (by omega) (by omega) (by omega) (by omega), x1 _ 3 (by omega) (by omega) (by omega) (by omega), m3 _ (by omega) (by omega), m3 _ (by omega) (by omega), m3 _ (by omega) (by omega), m4]
    refine ⟨e1, e2, e3, e4, e5, fun i hi => ?_⟩
    rw [x1 _ _ (by omega) (by omega) (by omega) (by omega), m3 _ (by omega) (by omega)]
    exact e6 i hi
  · refine ⟨by omega, by rw [hi]; rfl, by rw [hk]; rfl, fun i hi2 => ?_⟩
    by_cases ei : i = cnt
    · rw [ei, ← hv, hv2]; exact ⟨rfl, hz⟩
    · rw [x1 _ _ (by omega) (by omega) (by omega) (by omega), m3 _ (by omega) (by omega)]
      exact f.2.2.2 i (by omega)
  · have x18 : ∀ i, i < cnt → ι' 18 i = ι 18 i := fun i hi => x1 18 i (by omega) (by omega) (by omega) (by omega)
    have mx : (κ 129 9).toInt ≤ (κ' 129 9).toInt ∧ (κ 129 10).toInt ≤ (κ' 129 10).toInt := by
      clear g
      by_cases c : z < 90
      · rw [(hm1 c).1, (hm1 c).2]; omega
      · rw [(hm2 c).1, (hm2 c).2]; omega
    have mz1 : z < 90 → z / 10 ≤ (κ' 129 9).toInt ∧ z % 10 ≤ (κ' 129 10).toInt := by
      clear g
      intro c; rw [(hm1 c).1, (hm1 c).2]; omega
    have cs1 : (κ' 129 9).toInt = (κ 129 9).toInt ∨ (z < 90 ∧ z / 10 = (κ' 129 9).toInt) := by
      clear g
      by_cases c : z < 90
      · rw [(hm1 c).1]; omega
      · rw [(hm2 c).1]; omega
    have cs2 : (κ' 129 10).toInt = (κ 129 10).toInt ∨ (z < 90 ∧ z % 10 = (κ' 129 10).toInt) := by
      clear g
      by_cases c : z < 90
      · rw [(hm1 c).2]; omega
      · rw [(hm2 c).2]; omega
    obtain ⟨g1, g2, g3, g4⟩ := g
    refine ⟨fun i hi hl => ?_, fun q hq hn => ?_, ?_, ?_⟩
    · by_cases ei : i = cnt
      · rw [ei, hv2] at hl ⊢
        exact mz1 hl
      · have hi' : i < cnt := by clear g3 g4; omega
        rw [x18 i hi'] at hl ⊢
        have := g1 i hi' hl
        exact ⟨Int.le_trans this.1 mx.1, Int.le_trans this.2 mx.2⟩
    · rw [m4] at hn
      exact Int.le_trans (g2 q hq hn) mx.2
    · rcases cs1 with q | ⟨q, q2⟩
      · rw [q]
        rcases g3 with g3 | ⟨i, k1, k2, k3⟩
        · exact Or.inl g3
        · exact Or.inr ⟨i, Nat.lt_succ_of_lt k1, by rw [x18 i k1]; exact k2, by rw [x18 i k1]; exact k3⟩
      · exact Or.inr ⟨cnt, Nat.lt_succ_self _, by rw [hv2]; exact q, by rw [hv2]; exact q2⟩
    · rcases cs2 with q | ⟨q, q2⟩
      · rw [q]
        rcases g4 with g4 | ⟨i, k1, k2, k3⟩ | ⟨d, k1, k2, k3⟩
        · exact Or.inl g4
        · exact Or.inr (Or.inl ⟨i, Nat.lt_succ_of_lt k1, by rw [x18 i k1]; exact k2, by rw [x18 i k1]; exact k3⟩)
        · exact Or.inr (Or.inr ⟨d, k1, by rw [m4]; exact k2, k3⟩)
      · exact Or.inr (Or.inl ⟨cnt, Nat.lt_succ_self _, by rw [hv2]; exact q, by rw [hv2]; exact q2⟩)
end PlanL
end
section
/-! LINES: the plan's, by class and model -/
section PlanL2
variable {xl : List Int32} {b : Nat → Int} {lo L n n2 nv nd : Nat} {ι ι' κ κ' : IS} {t : TK} {Q : Option Value → IS → Prop} {x1 : Int32} {w : Value}
theorem pFail {p : Nat} (hF : FM κ p) (h : ∀ κ1 : IS, FM κ1 p → Q none κ1) : PC xl n2 163 0 [(0, .ref 129)] [] κ Q := (t_163_0 ⟨fun _ => h κ hF, fun c => absurd c (nz hF.1)⟩).weak
theorem i52 : (52 : Int32).toNatClampNeg = 52 := rfl
theorem pL2 {M : IS → IS → Prop} (hM : ∀ ι' κ' : IS, EL lo b L ι' κ' → M ι' κ') : ∀ (n cnt i : Nat) (ι κ : IS) (t : TK) (x : Int32), OK lo b L t nv nd cnt ι κ → x.toInt = i → i ≤ cnt → PC xl n 40 27 [(0, .ref 1), (1, .int x)] [] ι (fun _ ι1 => PC xl n2 163 0 [(0, .ref 129)] [] κ (fun _ κ1 => M ι1 κ1))
  | 0, _, _, _, _, _, _, _, _, _ => PC.zero
  | n + 1, cnt, i, ι, κ, t, x, hJ, hx, hic => by
    obtain ⟨hX, hB, tX, tM, tb, hD, h0⟩ := hJ
    have t2e : (2 : Int32).toInt = 2 := rfl
    have t8 : (8 : Int32).toInt = 8 := rfl
    have t53 : (53 : Int32).toInt = 53 := rfl
    have u1 : (1 : Int32).toInt = 1 := rfl
    obtain ⟨c8, ci, ck, ca⟩ := hD.2.2.2.2.2.1
    refine t_40_27 ?_
    rw [rf_1_0, rf_1_1]
    refine ⟨fun c => ?_, fun c => ⟨fun c2 => ?_, fun c2 => ?_⟩⟩
    · rw [i_lt, hx, t8] at c; omega
    · rw [i_eq, tX.1, t2e] at c2
      refine endX hX tX tb h0 (fun ι2 o2 B2 E2 => ?_)
      by_cases h4 : t.1 = 4
      · refine pFail (FM.four tM h4) (fun κ1 f1 => hM _ _ (Or.inr ?_))
        rcases E2 with ⟨q, -⟩ | ⟨-, q⟩
        · omega
        · exact FR.mk q f1
      · have e := tM.2.2.1 h4
        refine (t_163_0 ⟨fun c => absurd e.2 c, fun _ => ⟨fun _ => ?_, fun c => ?_⟩⟩).weak
        · exact hM _ _ (Or.inl ⟨t, nv, nd, cnt, B2, hB, tM, tb, h4, hD.congr o2 (fun _ _ _ => rfl), E2⟩)
        · rw [i_eq, e.1, t2e] at c; omega
    · rw [i_eq, tX.1, t2e] at c2
      have ht2 : t.1 = 2 := by omega
      have e := tM.2.2.1 (by omega)
      have es : κ 129 16 = 2 := by rw [i_eq, e.1, ht2]; rfl
      have v5 := tX.2.2.2 ht2
      have k17 := tM.2.2.2.2 ht2
      have vb := tb.2.2.2.1 ht2
      -- the model behind a fault of the class
      have bad : ∀ ι1 : IS, FX ι1 t.2.1 → (¬ actP t.2.2.2 ∨ cnt = 8) → PC xl n2 163 0 [(0, .ref 129)] [] κ (fun _ κ1 => M ι1 κ1) := by
        intro ι1 f1 hb
        have fin : ∀ κ1 : IS, FM κ1 t.2.1 → PC xl n2 163 56 [(0, .ref 129)] [] κ1 (fun _ κ1 => M ι1 κ1) := fun κ1 g1 => (t_163_56 ⟨fun _ => (t_163_175 (next_f g1.1 (pFail g1 (fun κ2 g2 => hM _ _ (Or.inr (FR.mk f1 g2)))))).weak, fun c => absurd c (nz g1.1)⟩).weak
        refine (t_163_0 ⟨fun c => absurd e.2 c, fun _ => ⟨fun c => absurd es c, fun _ _ _ => ?_⟩⟩).weak
        rw [rf_129_5, i52, i_lt, ck, t8]
        refine ⟨fun c => ?_, fun c => ?_⟩
        · refine (t_163_33 (needs_spec (fun hh => ?_) (fun _ _ => ?_))).weak
          · rcases hh with hh | hh
            · exact absurd rfl hh
            · exact absurd e.2 hh
          · have g : FM (failM κ 5) t.2.1 := FM.fail tM (by decide)
            exact ⟨fun _ => fin _ g, fun c => absurd c (nz g.1)⟩
        · refine (t_163_33 (needs_spec (fun _ => ?_) (fun c => absurd c (by decide)))).weak
          have na : ¬ actP t.2.2.2 := hb.resolve_right (by omega)
          refine ⟨fun c => absurd e.2 c, fun _ => like_spec k17 vb.1 (fun r hr => ?_)⟩
          intro r2 e2
          cases e2
          have r0 : r = 0 := hr.mpr na
          rw [r0]
          refine needs_spec (fun hh => ?_) (fun _ _ => ?_)
          · rcases hh with hh | hh
            · exact absurd rfl hh
            · exact absurd e.2 hh
          · exact fin _ (FM.fail tM (by decide))
      refine isAct_spec v5 (fun r hr => ?_)
      intro r2 e2
      cases e2
      refine ⟨fun c3 => ?_, fun c3 => fail_spec (bad _ (FX.fail tX (by decide)) (Or.inl (hr.mp c3)))⟩
      have ha : actP t.2.2.2 := by
        false_or_by_contra
        rename_i hh
        exact c3 (hr.mpr hh)
      refine (t_43_0 ⟨fun c6 _ _ => ?_, fun c6 => ?_⟩).weak
      rotate_left
      · intro r hr
        cases hr
        rw [i_lt, ci, t8] at c6
        exact ⟨fun c => absurd rfl c, fun _ => fail_spec (bad _ (FX.fail tX (by decide)) (Or.inr (by omega)))⟩
      rw [i_lt, ci, t8] at c6
      intro r hr
      cases hr
      refine ⟨fun _ => ?_, fun c => absurd c (by decide)⟩
      rw [rf_2_1, i_ixn ci, up_ne (by omega)]
      have nc : (ι 2 2 + 1).toInt = cnt + 1 := by rw [i_add (by rw [ci, u1]; omega), ci, u1]
      have f1 : ∀ a j, ¬ (a = 18 ∧ j = cnt) → ¬ (a = 2 ∧ j = 2) → (up (up ι 18 cnt (ι 22 5)) 2 2 (ι 2 2 + 1)) a j = ι a j := fun a j g1 g2 => by rw [up_ne g2, up_ne g1]
      have f2 : (up (up ι 18 cnt (ι 22 5)) 2 2 (ι 2 2 + 1)) 18 cnt = ι 22 5 := by rw [up_ne (by omega), up_same]
      have f3 : (up (up ι 18 cnt (ι 22 5)) 2 2 (ι 2 2 + 1)) 2 2 = ι 2 2 + 1 := up_same _ _ _ _
      revert f1 f2 f3
      generalize (up (up ι 18 cnt (ι 22 5)) 2 2 (ι 2 2 + 1)) = ι2
      intro f1 f2 f3
      have X2 : BX b L ι2 := hX.congr (fun j => f1 _ _ (by omega) (by omega)) (fun j => f1 _ _ (by omega) (by omega))
      have T2 : TX ι2 t := tX.congr (fun j => f1 _ _ (by omega) (by omega))
      refine advT X2 T2 tb (fun ι3 k3 => ?_)
      refine PC.swap (P := fun _ κ' _ ι' => M ι' κ') ?_
      refine (t_163_0 ⟨fun c => absurd e.2 c, fun _ => ⟨fun c => absurd es c, fun _ _ _ => ?_⟩⟩).weak
      rw [rf_129_5, i52, i_lt, ck, t8]
      refine ⟨fun c => by omega, fun c => ?_⟩
      refine (t_163_33 (needs_spec (fun _ => ?_) (fun c => absurd c (by decide)))).weak
      refine ⟨fun c => absurd e.2 c, fun _ => like_spec k17 vb.1 (fun r hr => ?_)⟩
      intro r2 e2
      cases e2
      have r1 : ¬ r = 0 := fun hh => hr.mp hh ha
      refine needs_spec (fun _ => ?_) (fun c => absurd c r1)
      have yi : (53 + κ 133 52).toInt = (53 + cnt : Nat) := by rw [i_add (by rw [t53, ck]; omega), t53, ck]; omega
      refine (t_163_56 ⟨fun c => absurd e.2 c, fun _ _ _ _ _ _ _ _ _ => ?_⟩).weak
      rw [rf_129_5, i52, i_ixn yi]
      have q1 : (up κ 133 (53 + cnt) (κ 129 17)) 133 52 = κ 133 52 := up_ne (by omega)
      rw [q1]
      have p1 : ∀ a j, ¬ (a = 133 ∧ j = 53 + cnt) → ¬ (a = 133 ∧ j = 52) → (up (up κ 133 (53 + cnt) (κ 129 17)) 133 52 (κ 133 52 + 1)) a j = κ a j := fun a j g1 g2 => by rw [up_ne g2, up_ne g1]
      have p2 : (up (up κ 133 (53 + cnt) (κ 129 17)) 133 52 (κ 133 52 + 1)) 133 (53 + cnt) = κ 129 17 := by rw [up_ne (by omega), up_same]
      have p3 : (up (up κ 133 (53 + cnt) (κ 129 17)) 133 52 (κ 133 52 + 1)) 133 52 = κ 133 52 + 1 := up_same _ _ _ _
      revert p1 p2 p3
      generalize (up (up κ 133 (53 + cnt) (κ 129 17)) 133 52 (κ 133 52 + 1)) = κ2
      intro p1 p2 p3
      refine high_spec (z := t.2.2.2) (by rw [p1 _ _ (by omega) (by omega)]; exact k17) vb.1 (fun κ3 o3 m1 m2 => ?_)
      have B3 : BM b L κ3 := hB.congr (by rw [o3 _ _ (by omega), p1 _ _ (by omega) (by omega)]) (fun q => by rw [o3 _ _ (by omega), p1 _ _ (by omega) (by omega)])
      have T3 : TM κ3 t := tM.congr (fun j _ _ => by rw [o3 _ _ (by omega), p1 _ _ (by omega) (by omega)])
      refine (t_163_175 (nextT B3 T3 tb (by omega) (fun κ4 k4 => ?_))).weak
      refine PC.swap (P := fun _ ι' _ κ' => M ι' κ') ?_
      have z : ∀ a j, dX a j → ι3 a j = ι2 a j := tkX_d k3
      have b2 : TBd lo b L (tokF b L t.2.2.1) := tok_n tb
      refine pL2 hM n (cnt + 1) (i + 1) ι3 κ4 (tokF b L t.2.2.1) (x + 1) ⟨X2.tk k3, B3.tk k4, TX.tk k3, TM.tk k4, b2, ?_, ?_⟩ (by rw [i_add (by rw [hx, u1]; omega), hx, u1]; rfl) (by omega)
      · have e9 : κ2 129 9 = κ 129 9 := p1 _ _ (by omega) (by omega)
        have e10 : κ2 129 10 = κ 129 10 := p1 _ _ (by omega) (by omega)
        rw [e9, e10] at m1 m2
        refine hD.act (z := t.2.2.2) (by omega) ha (fun a j hd g1 g2 => ?_) (fun a j hd g1 g2 g3 => ?_) ?_ ?_ ?_ ?_ ?_ ?_
        · rw [z a j hd, f1 a j g1 g2]
        · rw [tkM_d k4 a j hd, o3 a j g3, p1 a j g1 g2]
        · rw [z _ _ (by unfold dX; omega), f2, k4.1 _ _ (by omega), o3 _ _ (by omega), p2, i_eq, v5, k17]
        · rw [z _ _ (by unfold dX; omega), f2]; exact v5
        · rw [z _ _ (by unfold dX; omega), f3]; exact nc
        · rw [k4.1 _ _ (by omega), o3 _ _ (by omega), p3, i_add (by rw [ck, u1]; omega), ck, u1]
        · rw [k4.1 129 9 (by omega), k4.1 129 10 (by omega)]; exact m1
        · rw [k4.1 129 9 (by omega), k4.1 129 10 (by omega)]; exact m2
      · rw [tkX_f k3, f1 1 2 (by omega) (by omega)]; exact h0
theorem P2 {K : IS → IS → Prop} {cnt : Nat} (hX : BX b L ι) (hM : BM b L κ) (tX : TX ι t) (tM : TM κ t) (tb : TBd lo b L t) (hd : DR nv nd cnt (up ι 1 4 1) κ) (h0 : ι 1 2 = 0) (hp : ι 1 4 = 0) (h1 : t.1 = 1) (hx : x1.toInt = 6) (hK : ∀ ι1 κ1 : IS, LO lo b L ι1 κ1 → K ι1 κ1) : PC xl n 40 0 [(0, .ref 1)] [] ι (fun _ ι1 => PC xl n2 154 123 [(0, .ref 129), (1, .int x1)] [] κ (fun _ κ1 => K ι1 κ1)) := by
  have t2e : (2 : Int32).toInt = 2 := rfl
  have t8 : (8 : Int32).toInt = 8 := rfl
  have t0 : (0 : Int32).toInt = 0 := rfl
  have b1 : TBd lo b L (tokF b L t.2.2.1) := tok_n tb
  refine (t_40_0 ?_).weak
  rw [rf_1_1]
  refine ⟨fun _ => ?_, fun c => absurd hp c⟩
  have f1 : ∀ a j, ¬ (a = 1 ∧ j = 4) → (up ι 1 4 1) a j = ι a j := fun a j g => up_ne g
  revert f1 hd
  generalize up ι 1 4 1 = ι1
  intro hd f1
  have X1 : BX b L ι1 := hX.congr (fun j => f1 _ _ (by omega)) (fun j => f1 _ _ (by omega))
  have T1 : TX ι1 t := tX.congr (fun j => f1 _ _ (by omega))
  refine advT X1 T1 tb (fun ι2 k2 => ?_)
  have z2 : ι2 1 2 = 0 := by rw [tkX_f k2, f1 1 2 (by omega)]; exact h0
  refine PC.swap (P := fun _ κ' _ ι' => K ι' κ') ?_
  refine pre123 hM tM tb h1 (fun κ1 k1 h4 => ?_) (fun κ1 k1 h4 => ?_)
  · have g := FM.four (TM.tk k1) h4
    refine (t_40_27 ?_).weak
    rw [rf_1_0, rf_1_1]
    refine ⟨fun c => ?_, fun _ => ⟨fun _ => ?_, fun c2 => ?_⟩⟩
    · rw [i_lt, t8, t0] at c; omega
    · refine endX (X1.tk k2) (TX.tk k2) b1 z2 (fun ι4 o4 B4 E4 => hK _ _ (Or.inr ?_))
      rcases E4 with ⟨q, -⟩ | ⟨-, q⟩
      · omega
      · exact FR.mk q g
    · rw [i_eq, (TX.tk k2).1, t2e] at c2; omega
  · refine (t_158_0 ⟨fun c => ?_, fun c => ?_, fun _ => ?_, fun c => ?_⟩).weak
    · omega
    · omega
    rotate_left
    · omega
    refine PC.imp (Q := fun _ κ2 => PC xl n 40 27 [(0, .ref 1), (1, .int 0)] [] ι2 (fun _ ι' => PC xl n2 154 140 [(0, .ref 129), (1, .int x1)] [] κ2 (fun _ κ3 => K ι' κ3))) ?_ (fun v κ2 hh => PC.swap (P := fun _ ι' _ κ3 => K ι' κ3) hh)
    refine PC.swap (P := fun _ ι' _ κ2 => PC xl n2 154 140 [(0, .ref 129), (1, .int x1)] [] κ2 (fun _ κ3 => K ι' κ3)) ?_
    exact pL2 (nv := nv) (nd := nd) (fun ι' κ' hE => tail_spec hE (fun κ3 h3 => hK _ _ h3)) n cnt 0 ι2 κ1 (tokF b L t.2.2.1) 0 ⟨X1.tk k2, hM.tk k1, TX.tk k2, TM.tk k1, b1, hd.congr (tkX_d k2) (tkM_d k1), z2⟩ rfl (Nat.zero_le _)
end PlanL2
end
