/-! LINES: a door's, by class and model -/
section DoorL2
variable {xl : List Int32} {b : Nat → Int} {lo L n n2 nv nd cnt : Nat} {ι ι' κ κ' : IS} {t : TK} {Q : Option Value → IS → Prop} {x1 : Int32} {w : Value}
theorem DR.door (h : DR nv nd cnt ι κ) (hnd : nd < 4) (h1 : ∀ a j, dX a j → ¬ (a = 3 ∧ j = 3) → ι' a j = ι a j) (h2 : ∀ a j, dM a j → ¬ (a = 129 ∧ j = 7) → κ' a j = κ a j) (hi : (ι' 3 3).toInt = nd + 1) (hk : (κ' 129 7).toInt = nd + 1) : DR nv (nd + 1) cnt ι' κ' := by
  have x : ∀ a j, a ≤ 21 → ¬ a = 1 → ¬ (a = 3 ∧ j = 3) → ι' a j = ι a j := fun a j h3 h4 h5 => h1 a j ⟨h3, fun e => h4 e.1⟩ h5
  have m3 : ∀ j, κ' 133 j = κ 133 j := fun j => h2 133 j (Or.inl rfl) (by omega)
  have m4 : ∀ j, κ' 134 j = κ 134 j := fun j => h2 134 j (Or.inr (Or.inl rfl)) (by omega)
  have m9 : ∀ j, 6 ≤ j → j ≤ 10 → ¬ j = 7 → κ' 129 j = κ 129 j := fun j g1 g2 g3 => h2 129 j (Or.inr (Or.inr ⟨rfl, g1, g2⟩)) (by omega)
  obtain ⟨⟨a1, a2, a3⟩, ⟨b1, b2, b3⟩, c, d, e, f, g, i1, i2⟩ := h
  refine ⟨⟨a1, by rw [x 3 2 (by omega) (by omega) (by omega)]; exact a2, by rw [m9 6 (by omega) (by omega) (by omega)]; exact a3⟩, ⟨by omega, by rw [hi]; rfl, by rw [hk]; rfl⟩, ?_, ?_, ?_, ?_, ?_, by rw [x 2 6 (by omega) (by omega) (by omega)]; exact i1, by rw [m3]; exact i2⟩
  · rw [h1 1 4 ⟨by omega, by omega⟩ (by omega), m9 8 (by omega) (by omega) (by omega)]; exact c
  · refine ⟨fun v hv => ?_, fun v hv => by rw [m3]; exact d.2 v hv⟩
    rw [x _ _ (by omega) (by omega) (by omega), x _ _ (by omega) (by omega) (by omega), x _ _ (by omega) (by omega) (by omega), x _ _ (by omega) (by omega) (by omega), m3, m3, m3]
    exact d.1 v hv
  · intro q hq
    obtain ⟨e1, e2, e3, e4, e5, e6⟩ := e q hq
    rw [x _ _ (by omega) (by omega) (by omega), x _ _ (by omega) (by omega) (by omega), x _ _ (by omega) (by omega) (by omega), m3, m3, m3, m4]
    refine ⟨e1, e2, fun hh => e3 (by omega), e4, e5, fun i hi => ?_⟩
    rw [x _ _ (by omega) (by omega) (by omega), m3]
    exact e6 i hi
  · refine ⟨f.1, by rw [x _ _ (by omega) (by omega) (by omega)]; exact f.2.1, by rw [m3]; exact f.2.2.1, fun i hi => ?_⟩
    rw [x _ _ (by omega) (by omega) (by omega), m3]
    exact f.2.2.2 i hi
  · have x18 : ∀ i, ι' 18 i = ι 18 i := fun i => x 18 i (by omega) (by omega) (by omega)
    unfold DH at g ⊢
    simp only [x18, m4, m9 9 (by omega) (by omega) (by omega), m9 10 (by omega) (by omega) (by omega)]
    exact g
theorem TX.congr {t : TK} (h : TX ι t) (h1 : ∀ j, ι' 22 j = ι 22 j) : TX ι' t := by
  unfold TX
  rw [h1, h1, h1, h1]
  exact h
theorem BX.congr (h : BX b L ι) (h1 : ∀ j, ι' 22 j = ι 22 j) (h2 : ∀ j, ι' 23 j = ι 23 j) : BX b L ι' := ⟨h.1, by rw [h1]; exact h.2.1, fun q => by rw [h2]; exact h.2.2 q⟩
/-- the model goes from a line's name to the token behind it -/
theorem pre123 {R : Option Value → IS → Prop} (hM : BM b L κ) (tM : TM κ t) (tb : TBd lo b L t) (h1 : t.1 = 1) (r4 : ∀ κ1 : IS, tkM κ κ1 (tokF b L t.2.2.1) → (tokF b L t.2.2.1).1 = 4 → R none κ1) (r5 : ∀ κ1 : IS, tkM κ κ1 (tokF b L t.2.2.1) → (tokF b L t.2.2.1).1 ≠ 4 → PC xl n2 158 0 [(0, .ref 129), (1, .int x1)] [] κ1 (fun _ κ2 => PC xl n2 154 140 [(0, .ref 129), (1, .int x1)] [] κ2 R)) : PC xl n2 154 123 [(0, .ref 129), (1, .int x1)] [] κ R := by
  refine (t_154_123 ?_).weak
  refine nextT hM tM tb (by omega) (fun κ1 k1 => ?_)
  by_cases h4 : (tokF b L t.2.2.1).1 = 4
  · have F := FM.four (TM.tk k1) h4
    exact ⟨fun c => absurd F.1 (by rw [i_lt] at c; exact c), fun _ => r4 κ1 k1 h4⟩
  · refine ⟨fun _ => r5 κ1 k1 h4, fun c => ?_⟩
    rw [((TM.tk k1).2.2.1 h4).2] at c
    exact absurd c (by decide)
theorem D2 {K : IS → IS → Prop} (h : OK lo b L t nv nd cnt ι κ) (h1 : t.1 = 1) (hx : x1.toInt = 4) (hnd : nd < 4) (hK : ∀ ι1 κ1 : IS, LO lo b L ι1 κ1 → K ι1 κ1) : PC xl n 33 0 [(0, .ref 1)] [] ι (fun _ ι1 => PC xl n2 154 123 [(0, .ref 129), (1, .int x1)] [] κ (fun _ κ1 => K ι1 κ1)) := by
  obtain ⟨hX, hM, tX, tM, tb, hd, h0⟩ := h
  have t4 : (4 : Int32).toInt = 4 := rfl
  have t2e : (2 : Int32).toInt = 2 := rfl
  have t6 : (6 : Int32).toInt = 6 := rfl
  have t0 : (0 : Int32).toInt = 0 := rfl
  have t9 : (9 : Int32).toInt = 9 := rfl
  have t16 : (16 : Int32).toInt = 16 := rfl
  have u1 : (1 : Int32).toInt = 1 := rfl
  have hn : (ι 3 3).toInt = nd := hd.2.1.2.1
  have b1 : TBd lo b L (tokF b L t.2.2.1) := tok_n tb
  refine (t_33_0 ?_).weak
  rw [rf_1_0, rf_1_1, rf_2_0, rf_3_1, i_ixn hn, re_9 nd hnd]
  refine ⟨fun _ _ _ => ?_, fun c => ?_⟩
  rotate_left
  · rw [i_lt, hn, t4] at c; omega
  have f1 : ∀ a j, ¬ (a = 3 ∧ j = 3) → (up ι 3 3 (ι 3 3 + 1)) a j = ι a j := fun a j g => up_ne g
  have f2 : ((up ι 3 3 (ι 3 3 + 1)) 3 3).toInt = nd + 1 := by rw [up_same, i_add (by rw [hn, u1]; omega), hn, u1]
  revert f1 f2
  generalize up ι 3 3 (ι 3 3 + 1) = ι1
  intro f1 f2
  have X1 : BX b L ι1 := hX.congr (fun j => f1 _ _ (by omega)) (fun j => f1 _ _ (by omega))
  have T1 : TX ι1 t := tX.congr (fun j => f1 _ _ (by omega))
  refine advT X1 T1 tb (fun ι2 k2 => ?_)
  have z2 : ι2 1 2 = 0 := by rw [tkX_f k2, f1 1 2 (by omega)]; exact h0
  refine PC.swap (P := fun _ κ' _ ι' => K ι' κ') ?_
  refine pre123 hM tM tb h1 (fun κ1 k1 h4 => ?_) (fun κ1 k1 h4 => ?_)
  · -- none behind the name
    have g := FM.four (TM.tk k1) h4
    refine (t_33_67 ?_).weak
    rw [rf_1_1]
    refine ⟨fun c => ?_, fun _ => ⟨fun _ => ?_, fun c2 => ?_⟩⟩
    · rw [i_lt, t6, t0] at c; omega
    · refine endX (X1.tk k2) (TX.tk k2) b1 z2 (fun ι4 o4 B4 E4 => hK _ _ (Or.inr ?_))
      rcases E4 with ⟨q, -⟩ | ⟨-, q⟩
      · omega
      · exact FR.mk q g
    · rw [i_eq, (TX.tk k2).1, t2e] at c2; omega
  · refine (t_158_0 ⟨fun _ => ?_, fun c => ?_, fun c => ?_, fun c => ?_⟩).weak
    rotate_left
    · omega
    · omega
    · omega
    have kn : (κ1 129 7).toInt = nd := by rw [k1.1 129 7 (by omega)]; exact hd.2.1.2.2
    have m9 : (9 * κ1 129 7).toInt = (9 * nd : Nat) := by rw [i_mul (by rw [kn, t9]; omega), kn, t9]; omega
    have hy : (16 + 9 * κ1 129 7).toInt = (16 + 9 * nd : Nat) := by rw [i_add (by rw [m9, t16]; omega), m9, t16]; omega
    refine (t_159_0 ?_).weak
    refine PC.imp (Q := fun _ κ2 => PC xl n 33 67 [(0, .ref 1), (1, .ref (10 + 2 * nd)), (2, .int 0)] [] ι2 (fun _ ι' => PC xl n2 154 140 [(0, .ref 129), (1, .int x1)] [] κ2 (fun _ κ3 => K ι' κ3))) ?_ (fun v κ2 hh => PC.swap (P := fun _ ι' _ κ3 => K ι' κ3) hh)
    refine PC.swap (P := fun _ ι' _ κ2 => PC xl n2 154 140 [(0, .ref 129), (1, .int x1)] [] κ2 (fun _ κ3 => K ι' κ3)) ?_
    have u7 : ((up κ1 129 7 (κ1 129 7 + 1)) 129 7).toInt = nd + 1 := by rw [up_same, i_add (by rw [kn, u1]; omega), kn, u1]
    have D : DR nv (nd + 1) cnt ι2 (up κ1 129 7 (κ1 129 7 + 1)) := by
      refine hd.door hnd (fun a j q1 q2 => ?_) (fun a j q1 q2 => ?_) ?_ u7
      · rw [tkX_d k2 a j q1, f1 a j q2]
      · rw [up_ne q2, tkM_d k1 a j q1]
      · rw [tkX_d k2 3 3 (by unfold dX; omega)]; exact f2
    have hz : (ι2 (10 + 2 * nd) 1).toInt = (0 : Nat) := by
      have := (hd.2.2.2.2.1 nd hnd).2.2.1 (Nat.le_refl _)
      rw [tkX_d k2 _ _ (by unfold dX; omega), f1 _ _ (by omega), this]; rfl
    exact dL2 (nv := nv) (cnt := cnt) hnd hy (fun ι' κ' hE => tail_spec hE (fun κ3 h3 => hK _ _ h3)) n 0 ι2 κ1 (tokF b L t.2.2.1) 0 .null ⟨X1.tk k2, hM.tk k1, TX.tk k2, TM.tk k1, b1, D, z2, hz⟩ rfl
end DoorL2
