/-! LINES: a visitor's, by class and model -/
section Vis2
variable {xl : List Int32} {b : Nat → Int} {lo L n n2 nv nd cnt : Nat} {ι ι' κ κ' : IS} {t : TK} {Q : Option Value → IS → Prop} {x1 : Int32} {w : Value}
theorem TM.congr {t : TK} (h : TM κ t) (h1 : ∀ j, 14 ≤ j → j ≤ 19 → κ' 129 j = κ 129 j) : TM κ' t := by
  unfold TM
  rw [h1 14 (by omega) (by omega), h1 15 (by omega) (by omega), h1 16 (by omega) (by omega), h1 17 (by omega) (by omega), h1 18 (by omega) (by omega), h1 19 (by omega) (by omega)]
  exact h
theorem BM.congr (h : BM b L κ) (h1 : κ' 129 13 = κ 129 13) (h2 : ∀ q, κ' 135 q = κ 135 q) : BM b L κ' := ⟨h.1, by rw [h1]; exact h.2.1, fun q => by rw [h2]; exact h.2.2.1 q, h.2.2.2⟩
/-- the model's way through a visitor's line, from the token behind its name on -/
theorem vM {s1 s2 s3 : TK} (hB : BM b L κ) (hT : TM κ s1) (b1 : TBd lo b L s1) (h4 : s1.1 ≠ 4) (e2 : tokF b L s1.2.2.1 = s2) (e3 : tokF b L s2.2.2.1 = s3) (hnv : nv < 4) (hv : (κ 129 6).toInt = nv)
    (hF1 : ¬ nOK s1 5 → ∀ κ' : IS, FM κ' s1.2.1 → Q none κ')
    (hF2 : nOK s1 5 → ¬ nOK s2 99 → ∀ κ' : IS, FM κ' s2.2.1 → Q none κ')
    (hO : nOK s1 5 → nOK s2 99 → ∀ κ' : IS, (∀ a j, dM a j → ¬ (a = 133 ∧ 4 * nv ≤ j ∧ j ≤ 4 * nv + 2) → ¬ (a = 129 ∧ j = 6) → κ' a j = κ a j) → κ' 133 (4 * nv) = x1 → (κ' 133 (4 * nv + 1)).toInt = s1.2.2.2 → (κ' 133 (4 * nv + 2)).toInt = s2.2.2.2 → (κ' 129 6).toInt = nv + 1 → BM b L κ' → TM κ' s3 → Q none κ') :
    PC xl n 165 0 [(0, .ref 129), (1, .int x1)] [] κ Q := by
  have t4 : (4 : Int32).toInt = 4 := rfl
  have t0 : (0 : Int32).toInt = 0 := rfl
  have t2 : (2 : Int32).toInt = 2 := rfl
  have t5 : (5 : Int32).toInt = 5 := rfl
  have t99 : (99 : Int32).toInt = 99 := rfl
  have u1 : (1 : Int32).toInt = 1 := rfl
  have b2 : TBd lo b L s2 := e2 ▸ tok_n b1
  have b3 : TBd lo b L s3 := e3 ▸ tok_n b2
  have m4 : (4 * κ 129 6).toInt = (4 * nv : Nat) := by rw [i_mul (by rw [hv, t4]; omega), hv, t4]; omega
  have i0 : (4 * κ 129 6 + 0).toInt = (4 * nv : Nat) := by rw [i_add (by rw [m4, t0]; omega), m4, t0]; omega
  have i1 : (4 * κ 129 6 + 1).toInt = (4 * nv + 1 : Nat) := by rw [i_add (by rw [m4, u1]; omega), m4, u1]; omega
  have i2 : (4 * κ 129 6 + 2).toInt = (4 * nv + 2 : Nat) := by rw [i_add (by rw [m4, t2]; omega), m4, t2]; omega
  refine (t_165_0 ?_).weak
  rw [rf_129_5, i_ixn i0, i_ixn i1, i_ixn i2]
  intro _ _
  have T1 : TM (up κ 133 (4 * nv) x1) s1 := hT.congr fun j _ _ => up_ne (by omega)
  have B1 : BM b L (up κ 133 (4 * nv) x1) := hB.congr (up_ne (by omega)) (fun q => up_ne (by omega))
  have V1 := T1.2.2.2.2
  by_cases g1 : nOK s1 5
  rotate_left
  · refine rdn_bad T1 h4 (fun hh => g1 ⟨hh.1, by rw [t5] at hh; omega⟩) (fun c hc => ?_)
    intro r hr
    cases hr
    intro _ _
    have F1 : FM (failM (up κ 133 (4 * nv) x1) c) s1.2.1 := FM.fail T1 hc
    have F2 : FM (up (failM (up κ 133 (4 * nv) x1) c) 133 (4 * nv + 1) 0) s1.2.1 := F1.congr (up_ne (by omega)) (up_ne (by omega))
    refine rdn_f F2.1 ?_
    intro r hr
    cases hr
    intro _ _
    refine hF1 g1 _ (F2.congr ?_ ?_)
    · rw [up_ne (by omega), up_ne (by omega)]
    · rw [up_ne (by omega), up_ne (by omega)]
  have hv1 := b1.2.2.2.1 g1.1
  refine rdn_ok B1 T1 b1 g1.1 (by rw [t0]; omega) (by rw [t5]; exact g1.2) (fun κ1 k1 => ?_)
  rw [e2] at k1
  intro r hr
  cases hr
  intro _ _
  have q1 : (up κ 133 (4 * nv) x1) 129 17 = κ 129 17 := up_ne (by omega)
  rw [q1]
  have T2 : TM (up κ1 133 (4 * nv + 1) (κ 129 17)) s2 := (TM.tk k1).congr fun j _ _ => up_ne (by omega)
  have B2 : BM b L (up κ1 133 (4 * nv + 1) (κ 129 17)) := (B1.tk k1).congr (up_ne (by omega)) (fun q => up_ne (by omega))
  by_cases g2 : nOK s2 99
  rotate_left
  · by_cases h42 : s2.1 = 4
    · have F2 := FM.four T2 h42
      refine rdn_f F2.1 ?_
      intro r hr
      cases hr
      intro _ _
      refine hF2 g1 g2 _ (F2.congr ?_ ?_)
      · rw [up_ne (by omega), up_ne (by omega)]
      · rw [up_ne (by omega), up_ne (by omega)]
    · refine rdn_bad T2 h42 (fun hh => g2 ⟨hh.1, by rw [t99] at hh; omega⟩) (fun c hc => ?_)
      intro r hr
      cases hr
      intro _ _
      have F2 : FM (failM (up κ1 133 (4 * nv + 1) (κ 129 17)) c) s2.2.1 := FM.fail T2 hc
      refine hF2 g1 g2 _ (F2.congr ?_ ?_)
      · rw [up_ne (by omega), up_ne (by omega)]
      · rw [up_ne (by omega), up_ne (by omega)]
  have hv2 := b2.2.2.2.1 g2.1
  refine rdn_ok B2 T2 b2 g2.1 (by rw [t0]; omega) (by rw [t99]; exact g2.2) (fun κ2 k2 => ?_)
  rw [e3] at k2
  intro r hr
  cases hr
  intro _ _
  have q2 : (up κ1 133 (4 * nv + 1) (κ 129 17)) 129 17 = κ1 129 17 := up_ne (by omega)
  rw [q2]
  have q6 : (up κ2 133 (4 * nv + 2) (κ1 129 17)) 129 6 = κ 129 6 := by
    rw [up_ne (by omega), k2.1 129 6 (by omega), up_ne (by omega), k1.1 129 6 (by omega), up_ne (by omega)]
  rw [q6]
  refine hO g1 g2 _ (fun a j hd h1 h2 => ?_) ?_ ?_ ?_ ?_ ?_ ?_
  · rw [up_ne h2, up_ne (by omega), tkM_d k2 a j hd, up_ne (by omega), tkM_d k1 a j hd, up_ne (by omega)]
  · rw [up_ne (by omega), up_ne (by omega), k2.1 _ _ (by omega), up_ne (by omega), k1.1 _ _ (by omega), up_same]
  · rw [up_ne (by omega), up_ne (by omega), k2.1 _ _ (by omega), up_same]
    exact hT.2.2.2.2 g1.1
  · rw [up_ne (by omega), up_same]
    exact (TM.tk k1).2.2.2.2 g2.1
  · rw [up_same, i_add (by rw [hv, u1]; omega), hv, u1]
  · exact (B2.tk k2).congr (by rw [up_ne (by omega), up_ne (by omega)]) (fun q => by rw [up_ne (by omega), up_ne (by omega)])
  · exact (TM.tk k2).congr fun j _ _ => by rw [up_ne (by omega), up_ne (by omega)]
theorem DR.vis (h : DR nv nd cnt ι κ) (hnv : nv < 4) (h1 : ∀ a j, dX a j → ¬ (a = 5 + nv) → ¬ (a = 3 ∧ j = 2) → ι' a j = ι a j) (h2 : ∀ a j, dM a j → ¬ (a = 133 ∧ 4 * nv ≤ j ∧ j ≤ 4 * nv + 2) → ¬ (a = 129 ∧ j = 6) → κ' a j = κ a j) (hi : (ι' 3 2).toInt = nv + 1) (hk : (κ' 129 6).toInt = nv + 1) (hv : ι' (5 + nv) 0 = κ' 133 (4 * nv) ∧ ι' (5 + nv) 1 = κ' 133 (4 * nv + 1) ∧ ι' (5 + nv) 2 = κ' 133 (4 * nv + 2) ∧ ι' (5 + nv) 3 = 0) : DR (nv + 1) nd cnt ι' κ' := by
  have x : ∀ a j, a ≤ 21 → ¬ a = 1 → ¬ (a = 5 + nv) → ¬ (a = 3 ∧ j = 2) → ι' a j = ι a j := fun a j h3 h4 h5 h6 => h1 a j ⟨h3, fun e => h4 e.1⟩ h5 h6
  have m3 : ∀ j, ¬ (4 * nv ≤ j ∧ j ≤ 4 * nv + 2) → κ' 133 j = κ 133 j := fun j g => h2 133 j (Or.inl rfl) (fun e => g e.2) (by omega)
  have m4 : ∀ j, κ' 134 j = κ 134 j := fun j => h2 134 j (Or.inr (Or.inl rfl)) (by omega) (by omega)
  have m9 : ∀ j, 7 ≤ j → j ≤ 10 → κ' 129 j = κ 129 j := fun j g1 g2 => h2 129 j (Or.inr (Or.inr ⟨rfl, by omega, g2⟩)) (by omega) (by omega)
  obtain ⟨⟨a1, a2, a3⟩, ⟨b1, b2, b3⟩, c, d, e, f, g, i1, i2⟩ := h
  refine ⟨⟨by omega, by rw [hi]; rfl, by rw [hk]; rfl⟩, ⟨b1, by rw [x 3 3 (by omega) (by omega) (by omega) (by omega)]; exact b2, by rw [m9 7 (by omega) (by omega)]; exact b3⟩, ?_, ?_, ?_, ?_, ?_, by rw [x 2 6 (by omega) (by omega) (by omega) (by omega)]; exact i1, by rw [m3 _ (by omega)]; exact i2⟩
  · rw [h1 1 4 ⟨by omega, by omega⟩ (by omega) (by omega), m9 8 (by omega) (by omega)]; exact c
  · refine ⟨fun v hv2 => ?_, fun v hv2 => by rw [m3 _ (by omega)]; exact d.2 v hv2⟩
    by_cases ev : v = nv
    · rw [ev]; exact hv
    · rw [x _ _ (by omega) (by omega) (by omega) (by omega), x _ _ (by omega) (by omega) (by omega) (by omega), x _ _ (by omega) (by omega) (by omega) (by omega), x _ _ (by omega) (by omega) (by omega) (by omega), m3 _ (by omega), m3 _ (by omega), m3 _ (by omega)]
      exact d.1 v (by omega)
  · intro q hq
    obtain ⟨e1, e2, e3, e4, e5, e6⟩ := e q hq
    rw [x _ _ (by omega) (by omega) (by omega) (by omega), x _ _ (by omega) (by omega) (by omega) (by omega), x _ _ (by omega) (by omega) (by omega) (by omega), m3 _ (by omega), m3 _ (by omega), m3 _ (by omega), m4]
    refine ⟨e1, e2, e3, e4, e5, fun i hi => ?_⟩
    rw [x _ _ (by omega) (by omega) (by omega) (by omega), m3 _ (by omega)]
    exact e6 i hi
  · refine ⟨f.1, by rw [x _ _ (by omega) (by omega) (by omega) (by omega)]; exact f.2.1, by rw [m3 _ (by omega)]; exact f.2.2.1, fun i hi => ?_⟩
    rw [x _ _ (by omega) (by omega) (by omega) (by omega), m3 _ (by omega)]
    exact f.2.2.2 i hi
  · have x18 : ∀ i, ι' 18 i = ι 18 i := fun i => x 18 i (by omega) (by omega) (by omega) (by omega)
    unfold DH at g ⊢
    simp only [x18, m4, m9 9 (by omega) (by omega), m9 10 (by omega) (by omega)]
    exact g
theorem V2 {K : IS → IS → Prop} (h : OK lo b L t nv nd cnt ι κ) (h1 : t.1 = 1) (hk : 0 ≤ x1.toInt ∧ x1.toInt ≤ 3) (hnv : nv < 4) (hK : ∀ ι1 κ1 : IS, LO lo b L ι1 κ1 → K ι1 κ1) : PC xl n 45 0 [(0, .ref 1), (1, .int x1)] [] ι (fun _ ι1 => PC xl n2 154 123 [(0, .ref 129), (1, .int x1)] [] κ (fun _ κ1 => K ι1 κ1)) := by
  obtain ⟨hX, hM, tX, tM, tb, hd, h0⟩ := h
  have hx : ¬ x1 = -4 := fun e => by rw [e] at hk; exact absurd hk.1 (by decide)
  have b1 : TBd lo b L (tokF b L t.2.2.1) := tok_n tb
  have right : ∀ ι1 : IS, (∀ κ1 : IS, tkM κ κ1 (tokF b L t.2.2.1) → (tokF b L t.2.2.1).1 = 4 → K ι1 κ1) → (∀ κ1 : IS, tkM κ κ1 (tokF b L t.2.2.1) → (tokF b L t.2.2.1).1 ≠ 4 → PC xl n2 165 0 [(0, .ref 129), (1, .int x1)] [] κ1 (fun _ κ2 => PC xl n2 154 140 [(0, .ref 129), (1, .int x1)] [] κ2 (fun _ κ3 => K ι1 κ3))) → PC xl n2 154 123 [(0, .ref 129), (1, .int x1)] [] κ (fun _ κ1 => K ι1 κ1) := by
    intro ι1 r4 r5
    refine (t_154_123 ?_).weak
    refine nextT hM tM tb (by omega) (fun κ1 k1 => ?_)
    by_cases h4 : (tokF b L t.2.2.1).1 = 4
    · have F := FM.four (TM.tk k1) h4
      exact ⟨fun c => absurd F.1 (by rw [i_lt] at c; exact c), fun _ => r4 κ1 k1 h4⟩
    · refine ⟨fun _ => ?_, fun c => ?_⟩
      · refine (t_158_0 ⟨fun c => ?_, fun c => ?_, fun c => ?_, fun _ => r5 κ1 k1 h4⟩).weak
        · omega
        · omega
        · omega
      · rw [((TM.tk k1).2.2.1 h4).2] at c
        exact absurd c (by decide)
  refine vX rfl rfl rfl hX tX tb hx hnv hd.1.2.1 h0 (fun g1 ι1 f1 => ?_) (fun g1 g2 ι1 f1 => ?_) (fun g1 g2 ι1 o1 v1 c1 B1 E1 => ?_)
  · refine right ι1 (fun κ1 k1 h4 => hK _ _ (Or.inr (FR.mk f1 (FM.four (TM.tk k1) h4)))) (fun κ1 k1 h4 => ?_)
    refine vM (nv := nv) (hM.tk k1) (TM.tk k1) b1 h4 rfl rfl hnv (by rw [k1.1 129 6 (by omega)]; exact hd.1.2.2) (fun _ κ2 f2 => ?_) (fun c => absurd c g1) (fun c => absurd c g1)
    exact tail_spec (lo := lo) (b := b) (L := L) (Or.inr (FR.mk f1 f2)) (fun κ3 h3 => hK _ _ h3)
  · refine right ι1 (fun κ1 k1 h4 => absurd g1.1 (by omega)) (fun κ1 k1 h4 => ?_)
    refine vM (nv := nv) (hM.tk k1) (TM.tk k1) b1 h4 rfl rfl hnv (by rw [k1.1 129 6 (by omega)]; exact hd.1.2.2) (fun c => absurd g1 c) (fun _ _ κ2 f2 => ?_) (fun _ c => absurd c g2)
    exact tail_spec (lo := lo) (b := b) (L := L) (Or.inr (FR.mk f1 f2)) (fun κ3 h3 => hK _ _ h3)
  · refine right ι1 (fun κ1 k1 h4 => absurd g1.1 (by omega)) (fun κ1 k1 h4 => ?_)
    refine vM (nv := nv) (hM.tk k1) (TM.tk k1) b1 h4 rfl rfl hnv (by rw [k1.1 129 6 (by omega)]; exact hd.1.2.2) (fun c => absurd g1 c) (fun _ c => absurd g2 c) (fun _ _ κ2 o2 w0 w1 w2 c2 B2 T2 => ?_)
    have b2 : TBd lo b L (tokF b L (tokF b L t.2.2.1).2.2.1) := tok_n b1
    have b3 : TBd lo b L (tokF b L (tokF b L (tokF b L t.2.2.1).2.2.1).2.2.1) := tok_n b2
    have D : DR (nv + 1) nd cnt ι1 κ2 := by
      refine (hd.congr (fun _ _ _ => rfl) (tkM_d k1)).vis hnv o1 o2 c1 c2 ⟨by rw [v1.1, w0], by rw [i_eq, v1.2.1, w1], by rw [i_eq, v1.2.2.1, w2], v1.2.2.2⟩
    have fin : EL lo b L ι1 κ2 := by
      by_cases h43 : (tokF b L (tokF b L (tokF b L t.2.2.1).2.2.1).2.2.1).1 = 4
      · rcases E1 with ⟨q, -⟩ | ⟨-, q⟩
        · omega
        · exact Or.inr (FR.mk q (FM.four T2 h43))
      · exact Or.inl ⟨_, nv + 1, nd, cnt, B1, B2, T2, b3, h43, D, E1⟩
    exact tail_spec fin (fun κ3 h3 => hK _ _ h3)
end Vis2
