/-! TEXTS: all lines, by class and model -/
section TextB
variable {xl : List Int32} {b : Nat → Int} {lo L n n2 nv nd cnt : Nat} {ι ι' κ κ' : IS} {t : TK} {Q R : Option Value → IS → Prop} {x1 : Int32} {w : Value} {s e : Nat}
/-- what is asked of the ends: a text that is taken (the model has its draft still to keep), one that is not -/
def TS (xl : List Int32) (n2 : Nat) (b : Nat → Int) (L : Nat) (K : Option Value → IS → Option Value → IS → Prop) : Prop := ∀ (x : Int32) (ι κ : IS) (nv nd cnt : Nat), BX b L ι → BM b L κ → ι 1 2 = 0 → κ 129 18 = 0 → DR nv nd cnt ι κ → WH nv nd cnt ι → PC xl n2 146 0 [(0, .ref 129)] [] (up κ 129 13 0) (fun _ κ1 => K (some (.int x)) ι (some (.int x)) κ1)
def TF (K : Option Value → IS → Option Value → IS → Prop) : Prop := ∀ ι κ : IS, FR ι κ → K (some (.int ((-10) - ι 1 3))) ι (some (.int ((-10) - κ 129 19))) (up κ 129 13 0)
theorem endF {K : Option Value → IS → Option Value → IS → Prop} {x y : Int32} (hF : TF K) (h : FR ι κ) : PC xl n 14 60 [(0, .ref 1), (1, .int x)] [] ι (fun v1 ι1 => PC xl n2 150 44 [(0, .ref 129), (1, .int y)] [] κ (fun v2 κ1 => K v1 ι1 v2 κ1)) := by
  have e18 : (up κ 129 13 0) 129 18 = κ 129 18 := up_ne (by omega)
  have e19 : (up κ 129 13 0) 129 19 = κ 129 19 := up_ne (by omega)
  refine (t_14_60 ⟨fun _ => (t_14_94 ⟨fun _ => ?_, fun c => absurd c h.1⟩).weak, fun c => absurd c h.1⟩).weak
  refine (t_150_44 ⟨fun _ => (t_150_84 ?_).weak, fun c => absurd c (nz h.2.1)⟩).weak
  rw [e18, e19]
  refine ⟨fun c => absurd h.2.1 (by rw [i_lt] at c; exact c), fun _ => hF ι κ h⟩
theorem endS {K : Option Value → IS → Option Value → IS → Prop} {x : Int32} (hS : TS xl n2 b L K) (hF : TF K) (h : OK lo b L t nv nd cnt ι κ) (h0 : t.1 = 0) : PC xl n 14 60 [(0, .ref 1), (1, .int x)] [] ι (fun v1 ι1 => PC xl n2 150 44 [(0, .ref 129), (1, .int x)] [] κ (fun v2 κ1 => K v1 ι1 v2 κ1)) := by
  obtain ⟨hX, hM, tX, tM, tb, hd, hz⟩ := h
  have e := (tM.2.2.1 (by omega)).2
  have tL := tb.2.2.2.2.1 h0
  refine (t_14_60 ⟨fun c => absurd hz c, fun _ => ?_⟩).weak
  rw [rf_1_0]
  refine whole_spec hd (fun r hr => ?_)
  intro r2 e2
  cases e2
  refine ⟨fun c => ?_, fun c => ?_⟩
  · have hw : WH nv nd cnt ι := by
      false_or_by_contra; rename_i hh; exact c (hr.mpr hh)
    have hi := (wh_iff hd).mp hw
    refine (t_14_94 ⟨fun c => absurd hz c, fun _ => ?_⟩).weak
    refine (t_150_44 ⟨fun c => absurd e c, fun _ => ?_⟩).weak
    rw [i_lt, hd.1.2.2, i_lt, hd.2.1.2.2]
    refine ⟨fun c => absurd hi.1 c, fun _ => ⟨fun c => absurd hi.2 c, fun _ => ?_⟩⟩
    refine needs_spec (fun _ => ?_) (fun c => absurd c (by decide))
    have e18 : (up κ 129 13 0) 129 18 = κ 129 18 := up_ne (by omega)
    refine (t_150_84 ?_).weak
    rw [e18, e]
    exact ⟨fun _ => hS x ι κ nv nd cnt hX hM hz e hd hw, fun c => absurd c (by decide)⟩
  · have hw := hr.mp c
    have f1 : ¬ (up (up ι 1 2 6) 1 3 ((up ι 1 2 6) 22 1)) 1 2 = 0 := by rw [up_ne (by omega), up_same]; decide
    have fr : FR (up (up ι 1 2 6) 1 3 ((up ι 1 2 6) 22 1)) (failM κ 6) := by
      refine ⟨f1, ?_, ?_⟩
      · unfold failM; rw [up_ne (by simp), up_same]; decide
      · unfold failM; rw [up_same, up_same, up_ne (by omega), i_eq, hX.2.1, tM.1, tL]
    have e18 : (up (failM κ 6) 129 13 0) 129 18 = (failM κ 6) 129 18 := up_ne (by omega)
    have e19 : (up (failM κ 6) 129 13 0) 129 19 = (failM κ 6) 129 19 := up_ne (by omega)
    have l84 : PC xl n2 150 84 [(0, .ref 129), (1, .int x)] [] (failM κ 6) (fun v2 κ1 => K (some (.int ((-10) - (up (up ι 1 2 6) 1 3 ((up ι 1 2 6) 22 1)) 1 3))) (up (up ι 1 2 6) 1 3 ((up ι 1 2 6) 22 1)) v2 κ1) := by
      refine (t_150_84 ?_).weak
      rw [e18, e19]
      refine ⟨fun c => absurd fr.2.1 (by rw [i_lt] at c; exact c), fun _ => hF _ _ fr⟩
    have l6 : PC xl n2 153 0 [(0, .ref 129), (1, .int 0), (2, .int 6)] [] κ (fun _ κ1 => PC xl n2 150 84 [(0, .ref 129), (1, .int x)] [] κ1 (fun v2 κ1 => K (some (.int ((-10) - (up (up ι 1 2 6) 1 3 ((up ι 1 2 6) 22 1)) 1 3))) (up (up ι 1 2 6) 1 3 ((up ι 1 2 6) 22 1)) v2 κ1)) := by
      refine needs_spec (fun hh => ?_) (fun _ _ => l84)
      rcases hh with hh | hh
      · exact absurd rfl hh
      · exact absurd e hh
    rw [rf_1_1]
    refine (t_14_94 ⟨fun _ => ?_, fun c => absurd c f1⟩).weak
    refine (t_150_44 ⟨fun c => absurd e c, fun _ => ?_⟩).weak
    rw [i_lt, hd.1.2.2, i_lt, hd.2.1.2.2]
    exact ⟨fun _ => l6, fun q1 => ⟨fun _ => l6, fun q2 => absurd ((wh_iff hd).mpr ⟨q1, q2⟩) hw⟩⟩
theorem all2 {K : Option Value → IS → Option Value → IS → Prop} (hS : TS xl n2 b L K) (hF : TF K) : ∀ (n m : Nat) (ι κ : IS) (x y : Int32), x.toInt = m → ((∃ t nv nd cnt, OK 0 b L t nv nd cnt ι κ ∧ m ≤ t.2.1 ∧ y = x) ∨ FR ι κ) → PC xl n 14 26 [(0, .ref 1), (1, .int x)] [] ι (fun v1 ι1 => PC xl n2 150 20 [(0, .ref 129), (1, .int y)] [] κ (fun v2 κ1 => K v1 ι1 v2 κ1))
  | 0, _, _, _, _, _, _, _ => PC.zero
  | n + 1, m, ι, κ, x, y, hx, hh => by
    have t160 : (160 : Int32).toInt = 160 := rfl
    have t0 : (0 : Int32).toInt = 0 := rfl
    have u1 : (1 : Int32).toInt = 1 := rfl
    refine t_14_26 ?_
    rw [rf_1_1]
    rcases hh with ⟨t, nv, nd, cnt, hok, hm, rfl⟩ | fr
    · have hok2 := hok
      obtain ⟨hX, hM, tX, tM, tb, hd, hz⟩ := hok
      by_cases h0 : t.1 = 0
      · have e := tM.2.2.1 (by omega)
        have l60 : PC xl n 14 60 [(0, .ref 1), (1, .int y)] [] ι (fun v1 ι1 => PC xl n2 150 20 [(0, .ref 129), (1, .int y)] [] κ (fun v2 κ1 => K v1 ι1 v2 κ1)) := by
          refine PC.imp (endS hS hF hok2 h0) (fun v1 ι1 h => (t_150_20 ⟨fun c => absurd e.2 c, fun _ => ⟨fun _ => h, fun c => ?_⟩⟩).weak)
          exact absurd (by rw [i_eq, e.1, h0]; rfl) c
        refine ⟨fun _ => l60, fun _ => ⟨fun c => absurd hz c, fun _ => ⟨fun _ => l60, fun c => ?_⟩⟩⟩
        exact absurd (by rw [i_eq, tX.1, h0]; rfl) c
      · have lt := tb.2.2.2.2.2.1 h0
        have l160 : m < 160 := by have := tb.2.2.1; have := hX.1; omega
        refine ⟨fun c => ?_, fun _ => ⟨fun c => absurd hz c, fun _ => ⟨fun c => ?_, fun _ => ?_⟩⟩⟩
        · rw [i_lt, hx, t160] at c; omega
        · rw [i_eq, tX.1, t0] at c; omega
        have hx1 : (y + 1).toInt = (m + 1 : Nat) := by rw [i_add (by rw [hx, u1]; omega), hx, u1]; rfl
        by_cases h4 : t.1 = 4
        · -- no token: the model has stopped, the class meets it in its line
          refine (t_22_0 (stands_spec (fun c => ?_) (fun c k hk => ?_))).weak
          · rw [i_eq, tX.1, u1] at c; omega
          intro r hr
          cases hr
          refine ⟨fun q => absurd rfl q, fun _ => ?_⟩
          exact all2 hS hF n (m + 1) _ κ (y + 1) y hx1 (Or.inr (FR.mk (FX.fail tX hk) (FM.four tM h4)))
        · have e := tM.2.2.1 h4
          refine PC.imp (Q := fun _ ι1 => PC xl n2 154 0 [(0, .ref 129)] [] κ (fun _ κ1 => PC xl n2 150 20 [(0, .ref 129), (1, .int (y + 1))] [] κ1 (fun v2 κ' => PC xl n 14 26 [(0, .ref 1), (1, .int (y + 1))] [] ι1 (fun v1 ι' => K v1 ι' v2 κ')))) ?_ (fun v ι1 h => ?_)
          · refine line2 (lo := t.2.2.1) (nv := nv) (nd := nd) (cnt := cnt) ⟨hX, hM, tX, tM, ⟨tb.1, tb.2.1, tb.2.2.1, tb.2.2.2.1, tb.2.2.2.2.1, tb.2.2.2.2.2.1, Nat.le_refl _⟩, hd, hz⟩ h4 (fun ι1 κ1 hl => ?_)
            refine PC.swap (P := fun v1 ι' v2 κ' => K v1 ι' v2 κ') ?_
            refine all2 hS hF n (m + 1) ι1 κ1 (y + 1) (y + 1) hx1 ?_
            rcases hl with ⟨t2, nv2, nd2, cnt2, ok2, l2⟩ | fr
            · obtain ⟨p1, p2, p3, p4, p5, p6, p7⟩ := ok2
              exact Or.inl ⟨t2, nv2, nd2, cnt2, ⟨p1, p2, p3, p4, ⟨p5.1, p5.2.1, p5.2.2.1, p5.2.2.2.1, p5.2.2.2.2.1, p5.2.2.2.2.2.1, Nat.zero_le _⟩, p6, p7⟩, by omega, rfl⟩
            · exact Or.inr fr
          · refine PC.swap (P := fun v2 κ' v1 ι' => K v1 ι' v2 κ') ?_
            refine (t_150_20 ⟨fun c => absurd e.2 c, fun _ => ⟨fun c => ?_, fun _ => h⟩⟩).weak
            rw [i_eq, e.1, t0] at c; omega
    · have l60 : PC xl n 14 60 [(0, .ref 1), (1, .int x)] [] ι (fun v1 ι1 => PC xl n2 150 20 [(0, .ref 129), (1, .int y)] [] κ (fun v2 κ1 => K v1 ι1 v2 κ1)) :=
        PC.imp (endF hF fr) (fun v1 ι1 h => (t_150_20 ⟨fun _ => h, fun c => absurd c (nz fr.2.1)⟩).weak)
      exact ⟨fun _ => l60, fun _ => ⟨fun _ => l60, fun c => absurd c fr.1⟩⟩
/-- a text, by class and model -/
theorem text2 {K : Option Value → IS → Option Value → IS → Prop} (hS : TS xl n2 b L K) (hF : TF K) (hX : BX b L ι) (hM : BM b L κ) : PC xl n 14 0 [(0, .ref 1)] [] ι (fun v1 ι1 => PC xl n2 150 0 [(0, .ref 129)] [] κ (fun v2 κ1 => K v1 ι1 v2 κ1)) := by
  refine (t_14_0 ?_).weak
  rw [rf_1_0, rf_1_1]
  refine clr_spec (fun ι1 o1 z1 z2 => ?_)
  refine (t_18_0 ?_).weak
  have o1' : ∀ a j, ¬ a ≤ 21 → ι1 a j = ι a j := fun a j ha => by rw [o1 a j (by omega) (by omega) (by omega), up_ne (by omega), up_ne (by omega)]
  have X1 : BX b L (up ι1 22 4 0) := ⟨hX.1, by rw [up_ne (by omega), o1' _ _ (by omega)]; exact hX.2.1, fun q => by rw [up_ne (by omega), o1' _ _ (by omega)]; exact hX.2.2 q⟩
  refine adv_spec (p := 0) (b := b) (L := L) hX.1 (by rw [up_same]; rfl) (Nat.zero_le _) X1.2.1 X1.2.2 (fun ι2 k2 => ?_)
  refine PC.swap (P := fun v2 κ' v1 ι' => K v1 ι' v2 κ') ?_
  refine (t_150_0 ?_).weak
  refine fd_spec (fun κ1 p1 p2 p3 p4 => ?_)
  have q1 : ∀ a j, ¬ (a = 133 ∧ j < 80) → ¬ (a = 134 ∧ j < 4) → ¬ (a = 129 ∧ 6 ≤ j ∧ j ≤ 10) → ¬ (a = 129 ∧ (j = 18 ∨ j = 14)) → κ1 a j = κ a j := fun a j g1 g2 g3 g4 => by rw [p1 a j g1 g2 g3, up_ne (by omega), up_ne (by omega)]
  have M1 : BM b L κ1 := hM.congr (q1 _ _ (by omega) (by omega) (by omega) (by omega)) (fun q => q1 _ _ (by omega) (by omega) (by omega) (by omega))
  have f18 : κ1 129 18 = 0 := by rw [p1 _ _ (by omega) (by omega) (by omega), up_ne (by omega), up_same]
  have f14 : (κ1 129 14).toInt = (0 : Nat) := by rw [p1 _ _ (by omega) (by omega) (by omega), up_same]; rfl
  refine next_spec (p := 0) M1.1 f14 (Nat.zero_le _) M1.2.1 M1.2.2.1 M1.2.2.2 f18 (fun κ2 k3 => ?_)
  refine PC.swap (P := fun v1 ι' v2 κ' => K v1 ι' v2 κ') ?_
  have tb := (tok_b (lo := 0) (b := b) (L := L) (p := 0) (Nat.zero_le _) (Nat.le_refl _)).1
  refine all2 hS hF n 0 ι2 κ2 0 0 rfl (Or.inl ⟨tokF b L 0, 0, 0, 0, ⟨X1.tk k2, M1.tk k3, TX.tk k2, TM.tk k3, tb, ?_, ?_⟩, Nat.zero_le _, rfl⟩)
  · have D0 : DR 0 0 0 ι1 κ1 := DR.fresh z1 z2 (by rw [o1 _ _ (by omega) (by omega) (by omega), up_same]) p2 p3 p4
    refine D0.congr (fun a j hd => ?_) (tkM_d k3)
    rw [tkX_d k2 a j hd, up_ne (by unfold dX at hd; omega)]
  · rw [tkX_f k2, up_ne (by omega), o1 _ _ (by omega) (by omega) (by omega), up_ne (by omega), up_same]
end TextB
