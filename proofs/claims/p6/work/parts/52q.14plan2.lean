/-! LINES: the plan's, by class and model -/
section PlanL2
variable {xl : List Int32} {b : Nat → Int} {lo L n n2 nv nd : Nat} {ι ι' κ κ' : IS} {t : TK} {Q : Option Value → IS → Prop} {x1 : Int32} {w : Value}
theorem pFail {p : Nat} (hF : FM κ p) (h : ∀ κ1 : IS, FM κ1 p → Q none κ1) : PC xl n2 163 0 [(0, .ref 129)] [] κ Q := (t_163_0 ⟨fun _ => h κ hF, fun c => absurd c (nz hF.1)⟩).weak
theorem i52 : (52 : Int32).toNatClampNeg = 52 := rfl
theorem pL2 {M : IS → IS → Prop} (hM : ∀ ι' κ' : IS, EL lo b L ι' κ' → M ι' κ') : ∀ (n cnt i : Nat) (ι κ : IS) (t : TK) (x : Int32), OK lo b L t nv nd cnt ι κ → x.toInt = i → i ≤ cnt → PC xl n 40 27 [(0, .ref 1), (1, .int x)] [] ι (fun _ ι1 => PC xl n2 163 0 [(0, .ref 129)] [] κ (fun _ κ1 => M ι1 κ1))
  | 0, _, _, _, _, _, _, _, _, _ => PC.zero
  | n + 1, cnt, i, ι, κ, t, x, hJ, hx, hic => by
    obtain ⟨hX, hB, tX, tM, tb, hD, h0⟩ := hJ
    have t2e : (2 : Int32).toInt = 2 := rfl
    have t8 : (8 : Int32).toInt = 8 := rfl
    have t53 : (53 : Int32).toInt = 53 := rfl
    have u1 : (1 : Int32).toInt = 1 := rfl
    obtain ⟨c8, ci, ck, ca⟩ := hD.2.2.2.2.2.1
    refine t_40_27 ?_
    rw [rf_1_0, rf_1_1]
    refine ⟨fun c => ?_, fun c => ⟨fun c2 => ?_, fun c2 => ?_⟩⟩
    · rw [i_lt, hx, t8] at c; omega
    · rw [i_eq, tX.1, t2e] at c2
      refine endX hX tX tb h0 (fun ι2 o2 B2 E2 => ?_)
      by_cases h4 : t.1 = 4
      · refine pFail (FM.four tM h4) (fun κ1 f1 => hM _ _ (Or.inr ?_))
        rcases E2 with ⟨q, -⟩ | ⟨-, q⟩
        · omega
        · exact FR.mk q f1
      · have e := tM.2.2.1 h4
        refine (t_163_0 ⟨fun c => absurd e.2 c, fun _ => ⟨fun _ => ?_, fun c => ?_⟩⟩).weak
        · exact hM _ _ (Or.inl ⟨t, nv, nd, cnt, B2, hB, tM, tb, h4, hD.congr o2 (fun _ _ _ => rfl), E2⟩)
        · rw [i_eq, e.1, t2e] at c; omega
    · rw [i_eq, tX.1, t2e] at c2
      have ht2 : t.1 = 2 := by omega
      have e := tM.2.2.1 (by omega)
      have es : κ 129 16 = 2 := by rw [i_eq, e.1, ht2]; rfl
      have v5 := tX.2.2.2 ht2
      have k17 := tM.2.2.2.2 ht2
      have vb := tb.2.2.2.1 ht2
      -- the model behind a fault of the class
      have bad : ∀ ι1 : IS, FX ι1 t.2.1 → (¬ actP t.2.2.2 ∨ cnt = 8) → PC xl n2 163 0 [(0, .ref 129)] [] κ (fun _ κ1 => M ι1 κ1) := by
        intro ι1 f1 hb
        have fin : ∀ κ1 : IS, FM κ1 t.2.1 → PC xl n2 163 56 [(0, .ref 129)] [] κ1 (fun _ κ1 => M ι1 κ1) := fun κ1 g1 => (t_163_56 ⟨fun _ => (t_163_175 (next_f g1.1 (pFail g1 (fun κ2 g2 => hM _ _ (Or.inr (FR.mk f1 g2)))))).weak, fun c => absurd c (nz g1.1)⟩).weak
        refine (t_163_0 ⟨fun c => absurd e.2 c, fun _ => ⟨fun c => absurd es c, fun _ _ _ => ?_⟩⟩).weak
        rw [rf_129_5, i52, i_lt, ck, t8]
        refine ⟨fun c => ?_, fun c => ?_⟩
        · refine (t_163_33 (needs_spec (fun hh => ?_) (fun _ _ => ?_))).weak
          · rcases hh with hh | hh
            · exact absurd rfl hh
            · exact absurd e.2 hh
          · have g : FM (failM κ 5) t.2.1 := FM.fail tM (by decide)
            exact ⟨fun _ => fin _ g, fun c => absurd c (nz g.1)⟩
        · refine (t_163_33 (needs_spec (fun _ => ?_) (fun c => absurd c (by decide)))).weak
          have na : ¬ actP t.2.2.2 := hb.resolve_right (by omega)
          refine ⟨fun c => absurd e.2 c, fun _ => like_spec k17 vb.1 (fun r hr => ?_)⟩
          intro r2 e2
          cases e2
          have r0 : r = 0 := hr.mpr na
          rw [r0]
          refine needs_spec (fun hh => ?_) (fun _ _ => ?_)
          · rcases hh with hh | hh
            · exact absurd rfl hh
            · exact absurd e.2 hh
          · exact fin _ (FM.fail tM (by decide))
      refine isAct_spec v5 (fun r hr => ?_)
      intro r2 e2
      cases e2
      refine ⟨fun c3 => ?_, fun c3 => fail_spec (bad _ (FX.fail tX (by decide)) (Or.inl (hr.mp c3)))⟩
      have ha : actP t.2.2.2 := by
        false_or_by_contra
        rename_i hh
        exact c3 (hr.mpr hh)
      refine (t_43_0 ⟨fun c6 _ _ => ?_, fun c6 => ?_⟩).weak
      rotate_left
      · intro r hr
        cases hr
        rw [i_lt, ci, t8] at c6
        exact ⟨fun c => absurd rfl c, fun _ => fail_spec (bad _ (FX.fail tX (by decide)) (Or.inr (by omega)))⟩
      rw [i_lt, ci, t8] at c6
      intro r hr
      cases hr
      refine ⟨fun _ => ?_, fun c => absurd c (by decide)⟩
      rw [rf_2_1, i_ixn ci, up_ne (by omega)]
      have nc : (ι 2 2 + 1).toInt = cnt + 1 := by rw [i_add (by rw [ci, u1]; omega), ci, u1]
      have f1 : ∀ a j, ¬ (a = 18 ∧ j = cnt) → ¬ (a = 2 ∧ j = 2) → (up (up ι 18 cnt (ι 22 5)) 2 2 (ι 2 2 + 1)) a j = ι a j := fun a j g1 g2 => by rw [up_ne g2, up_ne g1]
      have f2 : (up (up ι 18 cnt (ι 22 5)) 2 2 (ι 2 2 + 1)) 18 cnt = ι 22 5 := by rw [up_ne (by omega), up_same]
      have f3 : (up (up ι 18 cnt (ι 22 5)) 2 2 (ι 2 2 + 1)) 2 2 = ι 2 2 + 1 := up_same _ _ _ _
      revert f1 f2 f3
      generalize (up (up ι 18 cnt (ι 22 5)) 2 2 (ι 2 2 + 1)) = ι2
      intro f1 f2 f3
      have X2 : BX b L ι2 := hX.congr (fun j => f1 _ _ (by omega) (by omega)) (fun j => f1 _ _ (by omega) (by omega))
      have T2 : TX ι2 t := tX.congr (fun j => f1 _ _ (by omega) (by omega))
      refine advT X2 T2 tb (fun ι3 k3 => ?_)
      refine PC.swap (P := fun _ κ' _ ι' => M ι' κ') ?_
      refine (t_163_0 ⟨fun c => absurd e.2 c, fun _ => ⟨fun c => absurd es c, fun _ _ _ => ?_⟩⟩).weak
      rw [rf_129_5, i52, i_lt, ck, t8]
      refine ⟨fun c => by omega, fun c => ?_⟩
      refine (t_163_33 (needs_spec (fun _ => ?_) (fun c => absurd c (by decide)))).weak
      refine ⟨fun c => absurd e.2 c, fun _ => like_spec k17 vb.1 (fun r hr => ?_)⟩
      intro r2 e2
      cases e2
      have r1 : ¬ r = 0 := fun hh => hr.mp hh ha
      refine needs_spec (fun _ => ?_) (fun c => absurd c r1)
      have yi : (53 + κ 133 52).toInt = (53 + cnt : Nat) := by rw [i_add (by rw [t53, ck]; omega), t53, ck]; omega
      refine (t_163_56 ⟨fun c => absurd e.2 c, fun _ _ _ _ _ _ _ _ _ => ?_⟩).weak
      rw [rf_129_5, i52, i_ixn yi]
      have q1 : (up κ 133 (53 + cnt) (κ 129 17)) 133 52 = κ 133 52 := up_ne (by omega)
      rw [q1]
      have p1 : ∀ a j, ¬ (a = 133 ∧ j = 53 + cnt) → ¬ (a = 133 ∧ j = 52) → (up (up κ 133 (53 + cnt) (κ 129 17)) 133 52 (κ 133 52 + 1)) a j = κ a j := fun a j g1 g2 => by rw [up_ne g2, up_ne g1]
      have p2 : (up (up κ 133 (53 + cnt) (κ 129 17)) 133 52 (κ 133 52 + 1)) 133 (53 + cnt) = κ 129 17 := by rw [up_ne (by omega), up_same]
      have p3 : (up (up κ 133 (53 + cnt) (κ 129 17)) 133 52 (κ 133 52 + 1)) 133 52 = κ 133 52 + 1 := up_same _ _ _ _
      revert p1 p2 p3
      generalize (up (up κ 133 (53 + cnt) (κ 129 17)) 133 52 (κ 133 52 + 1)) = κ2
      intro p1 p2 p3
      refine high_spec (z := t.2.2.2) (by rw [p1 _ _ (by omega) (by omega)]; exact k17) vb.1 (fun κ3 o3 m1 m2 => ?_)
      have B3 : BM b L κ3 := hB.congr (by rw [o3 _ _ (by omega), p1 _ _ (by omega) (by omega)]) (fun q => by rw [o3 _ _ (by omega), p1 _ _ (by omega) (by omega)])
      have T3 : TM κ3 t := tM.congr (fun j _ _ => by rw [o3 _ _ (by omega), p1 _ _ (by omega) (by omega)])
      refine (t_163_175 (nextT B3 T3 tb (by omega) (fun κ4 k4 => ?_))).weak
      refine PC.swap (P := fun _ ι' _ κ' => M ι' κ') ?_
      have z : ∀ a j, dX a j → ι3 a j = ι2 a j := tkX_d k3
      have b2 : TBd lo b L (tokF b L t.2.2.1) := tok_n tb
      refine pL2 hM n (cnt + 1) (i + 1) ι3 κ4 (tokF b L t.2.2.1) (x + 1) ⟨X2.tk k3, B3.tk k4, TX.tk k3, TM.tk k4, b2, ?_, ?_⟩ (by rw [i_add (by rw [hx, u1]; omega), hx, u1]; rfl) (by omega)
      · have e9 : κ2 129 9 = κ 129 9 := p1 _ _ (by omega) (by omega)
        have e10 : κ2 129 10 = κ 129 10 := p1 _ _ (by omega) (by omega)
        rw [e9, e10] at m1 m2
        refine hD.act (z := t.2.2.2) (by omega) ha (fun a j hd g1 g2 => ?_) (fun a j hd g1 g2 g3 => ?_) ?_ ?_ ?_ ?_ ?_ ?_
        · rw [z a j hd, f1 a j g1 g2]
        · rw [tkM_d k4 a j hd, o3 a j g3, p1 a j g1 g2]
        · rw [z _ _ (by unfold dX; omega), f2, k4.1 _ _ (by omega), o3 _ _ (by omega), p2, i_eq, v5, k17]
        · rw [z _ _ (by unfold dX; omega), f2]; exact v5
        · rw [z _ _ (by unfold dX; omega), f3]; exact nc
        · rw [k4.1 _ _ (by omega), o3 _ _ (by omega), p3, i_add (by rw [ck, u1]; omega), ck, u1]
        · rw [k4.1 129 9 (by omega), k4.1 129 10 (by omega)]; exact m1
        · rw [k4.1 129 9 (by omega), k4.1 129 10 (by omega)]; exact m2
      · rw [tkX_f k3, f1 1 2 (by omega) (by omega)]; exact h0
theorem P2 {K : IS → IS → Prop} {cnt : Nat} (hX : BX b L ι) (hM : BM b L κ) (tX : TX ι t) (tM : TM κ t) (tb : TBd lo b L t) (hd : DR nv nd cnt (up ι 1 4 1) κ) (h0 : ι 1 2 = 0) (hp : ι 1 4 = 0) (h1 : t.1 = 1) (hx : x1.toInt = 6) (hK : ∀ ι1 κ1 : IS, LO lo b L ι1 κ1 → K ι1 κ1) : PC xl n 40 0 [(0, .ref 1)] [] ι (fun _ ι1 => PC xl n2 154 123 [(0, .ref 129), (1, .int x1)] [] κ (fun _ κ1 => K ι1 κ1)) := by
  have t2e : (2 : Int32).toInt = 2 := rfl
  have t8 : (8 : Int32).toInt = 8 := rfl
  have t0 : (0 : Int32).toInt = 0 := rfl
  have b1 : TBd lo b L (tokF b L t.2.2.1) := tok_n tb
  refine (t_40_0 ?_).weak
  rw [rf_1_1]
  refine ⟨fun _ => ?_, fun c => absurd hp c⟩
  have f1 : ∀ a j, ¬ (a = 1 ∧ j = 4) → (up ι 1 4 1) a j = ι a j := fun a j g => up_ne g
  revert f1 hd
  generalize up ι 1 4 1 = ι1
  intro hd f1
  have X1 : BX b L ι1 := hX.congr (fun j => f1 _ _ (by omega)) (fun j => f1 _ _ (by omega))
  have T1 : TX ι1 t := tX.congr (fun j => f1 _ _ (by omega))
  refine advT X1 T1 tb (fun ι2 k2 => ?_)
  have z2 : ι2 1 2 = 0 := by rw [tkX_f k2, f1 1 2 (by omega)]; exact h0
  refine PC.swap (P := fun _ κ' _ ι' => K ι' κ') ?_
  refine pre123 hM tM tb h1 (fun κ1 k1 h4 => ?_) (fun κ1 k1 h4 => ?_)
  · have g := FM.four (TM.tk k1) h4
    refine (t_40_27 ?_).weak
    rw [rf_1_0, rf_1_1]
    refine ⟨fun c => ?_, fun _ => ⟨fun _ => ?_, fun c2 => ?_⟩⟩
    · rw [i_lt, t8, t0] at c; omega
    · refine endX (X1.tk k2) (TX.tk k2) b1 z2 (fun ι4 o4 B4 E4 => hK _ _ (Or.inr ?_))
      rcases E4 with ⟨q, -⟩ | ⟨-, q⟩
      · omega
      · exact FR.mk q g
    · rw [i_eq, (TX.tk k2).1, t2e] at c2; omega
  · refine (t_158_0 ⟨fun c => ?_, fun c => ?_, fun _ => ?_, fun c => ?_⟩).weak
    · omega
    · omega
    rotate_left
    · omega
    refine PC.imp (Q := fun _ κ2 => PC xl n 40 27 [(0, .ref 1), (1, .int 0)] [] ι2 (fun _ ι' => PC xl n2 154 140 [(0, .ref 129), (1, .int x1)] [] κ2 (fun _ κ3 => K ι' κ3))) ?_ (fun v κ2 hh => PC.swap (P := fun _ ι' _ κ3 => K ι' κ3) hh)
    refine PC.swap (P := fun _ ι' _ κ2 => PC xl n2 154 140 [(0, .ref 129), (1, .int x1)] [] κ2 (fun _ κ3 => K ι' κ3)) ?_
    exact pL2 (nv := nv) (nd := nd) (fun ι' κ' hE => tail_spec hE (fun κ3 h3 => hK _ _ h3)) n cnt 0 ι2 κ1 (tokF b L t.2.2.1) 0 ⟨X1.tk k2, hM.tk k1, TX.tk k2, TM.tk k1, b1, hd.congr (tkX_d k2) (tkM_d k1), z2⟩ rfl (Nat.zero_le _)
end PlanL2
