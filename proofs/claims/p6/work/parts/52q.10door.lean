/-! LINES: a door's -/
section DoorL
variable {xl : List Int32} {b : Nat → Int} {lo L n n2 nv nd cnt : Nat} {ι ι' κ κ' : IS} {t : TK} {Q : Option Value → IS → Prop} {x1 : Int32} {w : Value}
theorem DR.layer {d hN : Nat} (h : DR nv nd cnt ι κ) (hd : d < 4) (hdn : d < nd) (hN6 : hN < 6) (h1 : ∀ a j, dX a j → ¬ (a = 11 + 2 * d ∧ j = hN) → ¬ (a = 10 + 2 * d ∧ j = 1) → ι' a j = ι a j) (h2 : ∀ a j, dM a j → ¬ (a = 133 ∧ j = 19 + 9 * d + hN) → ¬ (a = 133 ∧ j = 16 + 9 * d) → κ' a j = κ a j) (hh : (ι (10 + 2 * d) 1).toInt = hN) (hv : ι' (11 + 2 * d) hN = κ' 133 (19 + 9 * d + hN)) (hn : ι' (10 + 2 * d) 1 = κ' 133 (16 + 9 * d)) (hn2 : (ι' (10 + 2 * d) 1).toInt = hN + 1) : DR nv nd cnt ι' κ' := by
  have x : ∀ a j, a ≤ 21 → ¬ a = 1 → ¬ (a = 11 + 2 * d ∧ j = hN) → ¬ (a = 10 + 2 * d ∧ j = 1) → ι' a j = ι a j := fun a j h3 h4 h5 h6 => h1 a j ⟨h3, fun e => h4 e.1⟩ h5 h6
  have m3 : ∀ j, ¬ j = 19 + 9 * d + hN → ¬ j = 16 + 9 * d → κ' 133 j = κ 133 j := fun j g1 g2 => h2 133 j (Or.inl rfl) (fun e => g1 e.2) (fun e => g2 e.2)
  have m4 : ∀ j, κ' 134 j = κ 134 j := fun j => h2 134 j (Or.inr (Or.inl rfl)) (by omega) (by omega)
  have m9 : ∀ j, 6 ≤ j → j ≤ 10 → κ' 129 j = κ 129 j := fun j g1 g2 => h2 129 j (Or.inr (Or.inr ⟨rfl, g1, g2⟩)) (by omega) (by omega)
  obtain ⟨⟨a1, a2, a3⟩, ⟨b1, b2, b3⟩, c, dv, e, f, g, i1, i2⟩ := h
  refine ⟨⟨a1, by rw [x 3 2 (by omega) (by omega) (by omega) (by omega)]; exact a2, by rw [m9 6 (by omega) (by omega)]; exact a3⟩, ⟨b1, by rw [x 3 3 (by omega) (by omega) (by omega) (by omega)]; exact b2, by rw [m9 7 (by omega) (by omega)]; exact b3⟩, ?_, ?_, ?_, ?_, ?_, by rw [x 2 6 (by omega) (by omega) (by omega) (by omega)]; exact i1, by rw [m3 _ (by omega) (by omega)]; exact i2⟩
  · rw [h1 1 4 ⟨by omega, by omega⟩ (by omega) (by omega), m9 8 (by omega) (by omega)]; exact c
  · refine ⟨fun v hv2 => ?_, fun v hv2 => by rw [m3 _ (by omega) (by omega)]; exact dv.2 v hv2⟩
    rw [x _ _ (by omega) (by omega) (by omega) (by omega), x _ _ (by omega) (by omega) (by omega) (by omega), x _ _ (by omega) (by omega) (by omega) (by omega), x _ _ (by omega) (by omega) (by omega) (by omega), m3 _ (by omega) (by omega), m3 _ (by omega) (by omega), m3 _ (by omega) (by omega)]
    exact dv.1 v hv2
  · intro q hq
    obtain ⟨e1, e2, e3, e4, e5, e6⟩ := e q hq
    by_cases eq : q = d
    · subst eq
      rw [x _ 2 (by omega) (by omega) (by omega) (by omega), x _ 3 (by omega) (by omega) (by omega) (by omega), m3 (17 + 9 * q) (by omega) (by omega), m3 (18 + 9 * q) (by omega) (by omega), m4]
      refine ⟨hn, by omega, fun hh2 => by omega, e4, e5, fun i hi => ?_⟩
      rw [hn2] at hi
      by_cases ei : i = hN
      · rw [ei]; exact hv
      · rw [x _ _ (by omega) (by omega) (by omega) (by omega), m3 _ (by omega) (by omega)]
        exact e6 i (by rw [hh]; omega)
    · rw [x _ _ (by omega) (by omega) (by omega) (by omega), x _ _ (by omega) (by omega) (by omega) (by omega), x _ _ (by omega) (by omega) (by omega) (by omega), m3 _ (by omega) (by omega), m3 _ (by omega) (by omega), m3 _ (by omega) (by omega), m4]
      refine ⟨e1, e2, e3, e4, e5, fun i hi => ?_⟩
      rw [x _ _ (by omega) (by omega) (by omega) (by omega), m3 _ (by omega) (by omega)]
      exact e6 i hi
  · refine ⟨f.1, by rw [x _ _ (by omega) (by omega) (by omega) (by omega)]; exact f.2.1, by rw [m3 _ (by omega) (by omega)]; exact f.2.2.1, fun i hi => ?_⟩
    rw [x _ _ (by omega) (by omega) (by omega) (by omega), m3 _ (by omega) (by omega)]
    exact f.2.2.2 i hi
  · have x18 : ∀ i, ι' 18 i = ι 18 i := fun i => x 18 i (by omega) (by omega) (by omega) (by omega)
    unfold DH at g ⊢
    simp only [x18, m4, m9 9 (by omega) (by omega), m9 10 (by omega) (by omega)]
    exact g
/-- the model leaves the row of layers behind a fault -/
theorem dFail {p : Nat} {y : Int32} (hF : FM κ p) (h : ∀ κ1 : IS, FM κ1 p → Q none κ1) : PC xl n2 159 11 [(0, .ref 129), (1, .int y), (2, w)] [] κ Q := by
  refine (t_159_11 ⟨fun _ => ?_, fun c => absurd c (nz hF.1)⟩).weak
  exact h _ (hF.congr (up_ne (by simp)) (up_ne (by simp)))
/-- what holds while the layers of a door are read: the model has not counted it yet -/
def DJ (lo : Nat) (b : Nat → Int) (L : Nat) (t : TK) (nv nd cnt hN : Nat) (ι κ : IS) : Prop := BX b L ι ∧ BM b L κ ∧ TX ι t ∧ TM κ t ∧ TBd lo b L t ∧ DR nv (nd + 1) cnt ι (up κ 129 7 (κ 129 7 + 1)) ∧ ι 1 2 = 0 ∧ (ι (10 + 2 * nd) 1).toInt = hN
theorem up_eq_of {κ κ' : IS} (h : ∀ a j, dM a j → κ' a j = κ a j) : ∀ a j, dM a j → (up κ' 129 7 (κ' 129 7 + 1)) a j = (up κ 129 7 (κ 129 7 + 1)) a j := by
  intro a j hd
  by_cases e : a = 129 ∧ j = 7
  · obtain ⟨rfl, rfl⟩ := e
    rw [up_same, up_same, h 129 7 hd]
  · rw [up_ne e, up_ne e, h a j hd]
theorem dL2 {M : IS → IS → Prop} {y : Int32} (hnd : nd < 4) (hy : y.toInt = (16 + 9 * nd : Nat)) (hM : ∀ ι' κ' : IS, EL lo b L ι' κ' → M ι' κ') : ∀ (n hN : Nat) (ι κ : IS) (t : TK) (x : Int32) (w : Value), DJ lo b L t nv nd cnt hN ι κ → x.toInt = hN → PC xl n 33 67 [(0, .ref 1), (1, .ref (10 + 2 * nd)), (2, .int x)] [] ι (fun _ ι1 => PC xl n2 159 11 [(0, .ref 129), (1, .int y), (2, w)] [] κ (fun _ κ1 => M ι1 κ1))
  | 0, _, _, _, _, _, _, _, _ => PC.zero
  | n + 1, hN, ι, κ, t, x, w, hJ, hx => by
    obtain ⟨hX, hB, tX, tM, tb, hD, h0, hh⟩ := hJ
    have t2e : (2 : Int32).toInt = 2 := rfl
    have t6 : (6 : Int32).toInt = 6 := rfl
    have t5 : (5 : Int32).toInt = 5 := rfl
    have t3 : (3 : Int32).toInt = 3 := rfl
    have t0 : (0 : Int32).toInt = 0 := rfl
    have u1 : (1 : Int32).toInt = 1 := rfl
    obtain ⟨d1, d2, d3, d4, d5, d6⟩ := hD.2.2.2.2.1 nd hnd
    have hh6 : hN ≤ 6 := by omega
    have y0 : (y + 0).toInt = (16 + 9 * nd : Nat) := by rw [i_add (by rw [hy, t0]; omega), hy, t0]; omega
    have y3 : (y + 3).toInt = (19 + 9 * nd : Nat) := by rw [i_add (by rw [hy, t3]; omega), hy, t3]; omega
    have kh : (κ 133 (16 + 9 * nd)).toInt = hN := by
      rw [← hh, d1, up_ne (by omega)]
    refine t_33_67 ?_
    rw [rf_1_1]
    refine ⟨fun c => ?_, fun c => ⟨fun c2 => ?_, fun c2 => ?_⟩⟩
    · rw [i_lt, hx, t6] at c; omega
    · rw [i_eq, tX.1, t2e] at c2
      refine endX hX tX tb h0 (fun ι2 o2 B2 E2 => ?_)
      by_cases h4 : t.1 = 4
      · refine dFail (FM.four tM h4) (fun κ1 f1 => hM _ _ (Or.inr ?_))
        rcases E2 with ⟨q, -⟩ | ⟨-, q⟩
        · omega
        · exact FR.mk q f1
      · have e := tM.2.2.1 h4
        refine (t_159_11 ⟨fun c => absurd e.2 c, fun _ => ⟨fun _ => ?_, fun c => ?_⟩⟩).weak
        · refine hM _ _ (Or.inl ⟨t, nv, nd + 1, cnt, B2, hB.congr (up_ne (by simp)) (fun q => up_ne (by simp)), tM.congr (fun j _ _ => up_ne (by omega)), tb, h4, hD.congr o2 (fun _ _ _ => rfl), E2⟩)
        · rw [i_eq, e.1, t2e] at c; omega
    · rw [i_eq, tX.1, t2e] at c2
      have ht2 : t.1 = 2 := by omega
      have e := tM.2.2.1 (by omega)
      have es : κ 129 16 = 2 := by rw [i_eq, e.1, ht2]; rfl
      have v5 := tX.2.2.2 ht2
      -- what the model does behind a fault of the class
      have bad : ∀ ι1 : IS, FX ι1 t.2.1 → (¬ nOK t 5 ∨ hN = 6) → PC xl n2 159 11 [(0, .ref 129), (1, .int y), (2, w)] [] κ (fun _ κ1 => M ι1 κ1) := by
        intro ι1 f1 hb
        have fin : ∀ κ1 : IS, ∀ w2 : Value, FM κ1 t.2.1 → PC xl n2 159 93 [(0, .ref 129), (1, .int y), (2, w2)] [] κ1 (fun _ κ1 => M ι1 κ1) := fun κ1 w2 g1 => (t_159_93 (dFail g1 (fun κ2 g2 => hM _ _ (Or.inr (FR.mk f1 g2))))).weak
        refine (t_159_11 ⟨fun c => absurd e.2 c, fun _ => ⟨fun c => absurd es c, fun _ _ _ => ?_⟩⟩).weak
        rw [rf_129_5, i_ixn y0, i_lt, kh, t6]
        refine ⟨fun c => ?_, fun c => ?_⟩
        · refine (t_159_45 (needs_spec (fun hh => ?_) (fun _ _ => ?_))).weak
          · rcases hh with hh | hh
            · exact absurd rfl hh
            · exact absurd e.2 hh
          · have g : FM (failM κ 5) t.2.1 := FM.fail tM (by decide)
            refine rdn_f g.1 ?_
            intro r hr
            cases hr
            exact ⟨fun _ => fin _ _ g, fun c => absurd c (nz g.1)⟩
        · refine (t_159_45 (needs_spec (fun _ => ?_) (fun c => absurd c (by decide)))).weak
          have nb : ¬ nOK t 5 := hb.resolve_right (by omega)
          refine rdn_bad tM (by omega) (fun hh => nb ⟨hh.1, by rw [t5] at hh; omega⟩) (fun c2 hc2 => ?_)
          have g : FM (failM κ c2) t.2.1 := FM.fail tM hc2
          intro r hr
          cases hr
          exact ⟨fun _ => fin _ _ g, fun c => absurd c (nz g.1)⟩
      refine numX tX tb rfl (fun g1 => ?_) (fun g1 ι1 f1 => ?_)
      rotate_left
      · intro r hr
        cases hr
        exact ⟨fun c => absurd rfl c, fun _ => bad ι1 f1 (Or.inl g1)⟩
      intro r hr
      cases hr
      refine ⟨fun _ => ?_, fun c => absurd c (by decide)⟩
      refine (t_35_0 ⟨fun c6 _ _ => ?_, fun c6 => ?_⟩).weak
      rotate_left
      · intro r hr
        cases hr
        rw [i_lt, hh, t6] at c6
        exact ⟨fun c => absurd rfl c, fun _ => fail_spec (bad _ (FX.fail tX (by decide)) (Or.inr (by omega)))⟩
      rw [i_lt, hh, t6] at c6
      intro r hr
      cases hr
      refine ⟨fun _ => ?_, fun c => absurd c (by decide)⟩
      rw [rf_door nd hnd, i_ixn hh, up_ne (by omega)]
      have nh : (ι (10 + 2 * nd) 1 + 1).toInt = hN + 1 := by rw [i_add (by rw [hh, u1]; omega), hh, u1]
      have f1 : ∀ a j, ¬ (a = 11 + 2 * nd ∧ j = hN) → ¬ (a = 10 + 2 * nd ∧ j = 1) → (up (up ι (11 + 2 * nd) hN (ι 22 5)) (10 + 2 * nd) 1 (ι (10 + 2 * nd) 1 + 1)) a j = ι a j := fun a j g1 g2 => by rw [up_ne g2, up_ne g1]
      have f2 : (up (up ι (11 + 2 * nd) hN (ι 22 5)) (10 + 2 * nd) 1 (ι (10 + 2 * nd) 1 + 1)) (11 + 2 * nd) hN = ι 22 5 := by rw [up_ne (by omega), up_same]
      have f3 : ((up (up ι (11 + 2 * nd) hN (ι 22 5)) (10 + 2 * nd) 1 (ι (10 + 2 * nd) 1 + 1)) (10 + 2 * nd) 1) = ι (10 + 2 * nd) 1 + 1 := up_same _ _ _ _
      revert f1 f2 f3
      generalize (up (up ι (11 + 2 * nd) hN (ι 22 5)) (10 + 2 * nd) 1 (ι (10 + 2 * nd) 1 + 1)) = ι2
      intro f1 f2 f3
      have X2 : BX b L ι2 := ⟨hX.1, by rw [f1 22 1 (by omega) (by omega)]; exact hX.2.1, fun q => by rw [f1 23 q (by omega) (by omega)]; exact hX.2.2 q⟩
      have T2 : TX ι2 t := by
        obtain ⟨q1, q2, q3, q4⟩ := tX
        refine ⟨?_, ?_, ?_, fun hh => ?_⟩
        · rw [f1 22 2 (by omega) (by omega)]; exact q1
        · rw [f1 22 3 (by omega) (by omega)]; exact q2
        · rw [f1 22 4 (by omega) (by omega)]; exact q3
        · rw [f1 22 5 (by omega) (by omega)]; exact q4 hh
      refine advT X2 T2 tb (fun ι3 k3 => ?_)
      -- now the model
      refine PC.swap (P := fun _ κ' _ ι' => M ι' κ') ?_
      refine (t_159_11 ⟨fun c => absurd e.2 c, fun _ => ⟨fun c => absurd es c, fun _ _ _ => ?_⟩⟩).weak
      rw [rf_129_5, i_ixn y0, i_lt, kh, t6]
      refine ⟨fun c => by omega, fun c => ?_⟩
      refine (t_159_45 (needs_spec (fun _ => ?_) (fun c => absurd c (by decide)))).weak
      have hv1 := tb.2.2.2.1 ht2
      refine rdn_ok hB tM tb ht2 (by rw [t0]; omega) (by rw [t5]; exact g1.2) (fun κ2 k2 => ?_)
      intro r hr
      cases hr
      have kh2 : (κ2 133 (16 + 9 * nd)).toInt = hN := by rw [k2.1 _ _ (by omega)]; exact kh
      have yi : ((y + 3) + κ2 133 (16 + 9 * nd)).toInt = (19 + 9 * nd + hN : Nat) := by rw [i_add (by rw [y3, kh2]; omega), y3, kh2]; omega
      rw [rf_129_5, i_ixn y0, i_ixn yi]
      have b2 : TBd lo b L (tokF b L t.2.2.1) := tok_n tb
      refine ⟨fun c => ?_, fun _ _ _ _ _ _ _ _ _ => ?_⟩
      · by_cases h4 : (tokF b L t.2.2.1).1 = 4
        · -- the token behind is none
          have g := FM.four (TM.tk k2) h4
          refine (t_159_93 (dFail g (fun κ4 g4 => ?_))).weak
          -- the class goes on: it meets the same
          cases n with
          | zero => exact PC.zero
          | succ n =>
            refine t_33_67 ?_
            rw [rf_1_1]
            have k3t := (TX.tk k3).1
            refine ⟨fun c => ?_, fun _ => ⟨fun _ => ?_, fun c2 => ?_⟩⟩
            · rw [i_lt, i_add (by rw [hx, u1]; omega), hx, u1, t6] at c; omega
            · refine endX (X2.tk k3) (TX.tk k3) b2 (by rw [tkX_f k3, f1 1 2 (by omega) (by omega)]; exact h0) (fun ι4 o4 B4 E4 => hM _ _ (Or.inr ?_))
              rcases E4 with ⟨q, -⟩ | ⟨-, q⟩
              · omega
              · exact FR.mk q g4
            · rw [i_eq, k3t, t2e] at c2; omega
        · exact absurd ((TM.tk k2).2.2.1 h4).2 c
      · rename_i c18 _ _ _ _ _ _ _ _
        refine (t_159_93 ?_).weak
        refine PC.swap (P := fun _ ι' _ κ' => M ι' κ') ?_
        have q1 : (up κ2 133 (19 + 9 * nd + hN) (κ 129 17)) 133 (16 + 9 * nd) = κ2 133 (16 + 9 * nd) := up_ne (by omega)
        rw [q1]
        have p1 : ∀ a j, ¬ (a = 133 ∧ j = 19 + 9 * nd + hN) → ¬ (a = 133 ∧ j = 16 + 9 * nd) → (up (up κ2 133 (19 + 9 * nd + hN) (κ 129 17)) 133 (16 + 9 * nd) (κ2 133 (16 + 9 * nd) + 1)) a j = κ2 a j := fun a j g1 g2 => by rw [up_ne g2, up_ne g1]
        have p2 : (up (up κ2 133 (19 + 9 * nd + hN) (κ 129 17)) 133 (16 + 9 * nd) (κ2 133 (16 + 9 * nd) + 1)) 133 (19 + 9 * nd + hN) = κ 129 17 := by rw [up_ne (by omega), up_same]
        have p3 : (up (up κ2 133 (19 + 9 * nd + hN) (κ 129 17)) 133 (16 + 9 * nd) (κ2 133 (16 + 9 * nd) + 1)) 133 (16 + 9 * nd) = κ2 133 (16 + 9 * nd) + 1 := up_same _ _ _ _
        revert p1 p2 p3
        generalize (up (up κ2 133 (19 + 9 * nd + hN) (κ 129 17)) 133 (16 + 9 * nd) (κ2 133 (16 + 9 * nd) + 1)) = κ3
        intro p1 p2 p3
        have z : ∀ a j, dX a j → ι3 a j = ι2 a j := tkX_d k3
        refine dL2 hnd hy hM n (hN + 1) ι3 κ3 (tokF b L t.2.2.1) (x + 1) _ ⟨X2.tk k3, ?_, TX.tk k3, ?_, b2, ?_, ?_, ?_⟩ (by rw [i_add (by rw [hx, u1]; omega), hx, u1]; rfl)
        · exact (hB.tk k2).congr (p1 _ _ (by omega) (by omega)) (fun q => p1 _ _ (by omega) (by omega))
        · exact (TM.tk k2).congr (fun j _ _ => p1 _ _ (by omega) (by omega))
        · refine (hD.congr (fun _ _ _ => rfl) (up_eq_of (tkM_d k2))).layer (ι' := ι3) (d := nd) (hN := hN) hnd (by omega) (by omega) (fun a j hd g1 g2 => ?_) (fun a j hd g1 g2 => ?_) hh ?_ ?_ ?_
          · rw [z a j hd, f1 a j g1 g2]
          · by_cases e7 : a = 129 ∧ j = 7
            · obtain ⟨rfl, rfl⟩ := e7
              rw [up_same, up_same, p1 129 7 (by omega) (by omega)]
            · rw [up_ne e7, up_ne e7, p1 a j g1 g2]
          · rw [z _ _ (by unfold dX; omega), f2, up_ne (by omega), p2, i_eq, v5, tM.2.2.2.2 ht2]
          · rw [z _ _ (by unfold dX; omega), f3, up_ne (by omega), p3, i_eq, nh, i_add (by rw [kh2, u1]; omega), kh2, u1]
          · rw [z _ _ (by unfold dX; omega), f3, nh]
        · rw [tkX_f k3, f1 1 2 (by omega) (by omega)]; exact h0
        · rw [z _ _ (by unfold dX; omega), f3, nh]; rfl
end DoorL
