/-! LINES: the end of a line; a visitor's -/
def LO (lo : Nat) (b : Nat → Int) (L : Nat) (ι κ : IS) : Prop := (∃ t nv nd cnt, OK lo b L t nv nd cnt ι κ ∧ lo ≤ t.2.1) ∨ FR ι κ
/-- the class has looked for the end of the line, the model has not yet -/
def EL (lo : Nat) (b : Nat → Int) (L : Nat) (ι κ : IS) : Prop := (∃ t nv nd cnt, BX b L ι ∧ BM b L κ ∧ TM κ t ∧ TBd lo b L t ∧ t.1 ≠ 4 ∧ DR nv nd cnt ι κ ∧ ((t.1 = 3 ∧ TX ι (tokF b L t.2.2.1) ∧ ι 1 2 = 0) ∨ (t.1 ≠ 3 ∧ ¬ ι 1 2 = 0 ∧ (ι 1 3).toInt = t.2.1))) ∨ FR ι κ
/-- a number of at most so much -/
abbrev nOK (t : TK) (m : Int) : Prop := t.1 = 2 ∧ t.2.2.2 ≤ m
def FX (ι : IS) (p : Nat) : Prop := ¬ ι 1 2 = 0 ∧ (ι 1 3).toInt = p
def FM (κ : IS) (p : Nat) : Prop := 0 < (κ 129 18).toInt ∧ (κ 129 19).toInt = p
section Vis
variable {xl : List Int32} {b : Nat → Int} {lo L n n2 nv nd cnt : Nat} {ι ι' κ κ' : IS} {t : TK} {Q : Option Value → IS → Prop} {x1 : Int32} {w : Value}
theorem FR.mk {p : Nat} (h1 : FX ι p) (h2 : FM κ p) : FR ι κ := ⟨h1.1, h2.1, by rw [i_eq, h1.2, h2.2]⟩
theorem FX.fail (hX : TX ι t) {c : Int32} (hc : ¬ c = 0) : FX (failI ι c) t.2.1 := by
  refine ⟨?_, ?_⟩
  · unfold failI; rw [up_ne (by simp), up_same]; exact hc
  · unfold failI; rw [up_same]; exact hX.2.1
theorem FM.fail (hT : TM κ t) {c : Int32} (hc : 0 < c.toInt) : FM (failM κ c) t.2.1 := by
  refine ⟨?_, ?_⟩
  · unfold failM; rw [up_ne (by simp), up_same]; exact hc
  · unfold failM; rw [up_same]; exact hT.1
theorem FM.four (hT : TM κ t) (h4 : t.1 = 4) : FM κ t.2.1 := by
  obtain ⟨e1, e2⟩ := hT.2.2.2.1 h4
  exact ⟨by rw [e1]; decide, e2⟩
theorem FM.congr {p : Nat} (h : FM κ p) (h1 : κ' 129 18 = κ 129 18) (h2 : κ' 129 19 = κ 129 19) : FM κ' p := by
  unfold FM; rw [h1, h2]; exact h
theorem tail_spec (h : EL lo b L ι κ) (hK : ∀ κ1 : IS, LO lo b L ι κ1 → Q none κ1) : PC xl n 154 140 [(0, .ref 129), (1, w)] [] κ Q := by
  have t3 : (3 : Int32).toInt = 3 := rfl
  rcases h with ⟨t, nv, nd, cnt, hX, hM, hT, hb, h4, hd, hh⟩ | hF
  · have e := hT.2.2.1 h4
    refine (t_154_140 ⟨fun c => absurd e.2 c, fun _ => ⟨fun c => ?_, fun c => ?_⟩⟩).weak
    · rw [i_eq, e.1, t3] at c
      rcases hh with ⟨g1, -, -⟩ | ⟨g1, g2, g3⟩
      · omega
      · refine needs_spec (fun hh => ?_) (fun _ _ => ?_)
        · rcases hh with hh | hh
          · exact absurd rfl hh
          · exact absurd e.2 hh
        · have f : FM (failM κ 2) t.2.1 := FM.fail hT (by decide)
          exact next_f f.1 (hK _ (Or.inr (FR.mk ⟨g2, g3⟩ f)))
    · rw [i_eq, e.1, t3] at c
      rcases hh with ⟨g1, g2, g3⟩ | ⟨g1, g2, g3⟩
      · refine needs_spec (fun _ => ?_) (fun c => absurd c (by decide))
        refine nextT hM hT hb h4 (fun κ1 hk => hK κ1 (Or.inl ⟨tokF b L t.2.2.1, nv, nd, cnt, ⟨hX, hM.tk hk, g2, TM.tk hk, tok_n hb, hd.congr (fun _ _ _ => rfl) (tkM_d hk), g3⟩, Nat.le_trans hb.2.2.2.2.2.2 (tok_b (lo := 0) hb.2.2.1 (Nat.zero_le _)).2⟩))
      · omega
  · refine (t_154_140 ⟨fun _ => ?_, fun c => absurd c (nz hF.2.1)⟩).weak
    exact next_f hF.2.1 (hK κ (Or.inr hF))
/-- the class behind the end of a line: it stood there (then the token behind it), or it is a fault -/
def EX (b : Nat → Int) (L : Nat) (ι : IS) (t : TK) : Prop := (t.1 = 3 ∧ TX ι (tokF b L t.2.2.1) ∧ ι 1 2 = 0) ∨ (t.1 ≠ 3 ∧ FX ι t.2.1)
theorem re_9 : ∀ d, d < 4 → re 9 d = 10 + 2 * d := by decide
theorem re_4 : ∀ v, v < 4 → re 4 v = 5 + v := by decide
theorem rf_door : ∀ d, d < 4 → rf (10 + 2 * d) 0 = 11 + 2 * d := by decide
/-- the end of a line, by the class -/
theorem endX {t : TK} (hB : BX b L ι) (hT : TX ι t) (ht : TBd lo b L t) (h0 : ι 1 2 = 0) (h : ∀ ι' : IS, (∀ a j, dX a j → ι' a j = ι a j) → BX b L ι' → EX b L ι' t → Q none ι') : PC xl n 36 0 [(0, .ref 1)] [] ι Q := by
  refine endL_spec hB hT ht (fun h3 ι' hk => ?_) (fun h3 c hc => ?_)
  · exact h ι' (tkX_d hk) (hB.tk hk) (Or.inl ⟨h3, TX.tk hk, by rw [tkX_f hk]; exact h0⟩)
  · refine h _ (fun a j hd => ?_) ?_ (Or.inr ⟨h3, FX.fail hT hc⟩)
    · unfold failI; unfold dX at hd; rw [up_ne (by omega), up_ne (by omega)]
    · refine ⟨hB.1, ?_, fun q => ?_⟩
      · unfold failI; rw [up_ne (by simp), up_ne (by simp)]; exact hB.2.1
      · unfold failI; rw [up_ne (by simp), up_ne (by simp)]; exact hB.2.2 q
/-- the class reads a number -/
theorem numX {t : TK} (hT : TX ι t) (ht : TBd lo b L t) {m : Int} (hm : x1.toInt = m) (h1 : nOK t m → Q (some (.int 1)) ι) (h2 : ¬ nOK t m → ∀ ι' : IS, FX ι' t.2.1 → Q (some (.int 0)) ι') : PC xl n 34 0 [(0, .ref 1), (1, .int x1)] [] ι Q := by
  have t2e : (2 : Int32).toInt = 2 := rfl
  refine number_spec (fun c1 c2 => h1 ?_) (fun c k hk => h2 (fun hh => c ?_) _ (FX.fail hT hk))
  · rw [i_eq, hT.1, t2e] at c1
    have e : t.1 = 2 := by omega
    rw [i_lt, hT.2.2.2 e, hm] at c2
    exact ⟨e, by omega⟩
  · refine ⟨?_, ?_⟩
    · rw [i_eq, hT.1, hh.1]; rfl
    · rw [i_lt, hT.2.2.2 hh.1, hm]; have := hh.2; omega
/-- the class's way through a visitor's line, from its name on -/
theorem vX {s1 s2 s3 : TK} (e1 : tokF b L t.2.2.1 = s1) (e2 : tokF b L s1.2.2.1 = s2) (e3 : tokF b L s2.2.2.1 = s3) (hB : BX b L ι) (hT : TX ι t) (ht : TBd lo b L t) (hk : ¬ x1 = -4) (hnv : nv < 4) (hv : (ι 3 2).toInt = nv) (h0 : ι 1 2 = 0)
    (hF1 : ¬ nOK s1 5 → ∀ ι' : IS, FX ι' s1.2.1 → Q none ι')
    (hF2 : nOK s1 5 → ¬ nOK s2 99 → ∀ ι' : IS, FX ι' s2.2.1 → Q none ι')
    (hO : nOK s1 5 → nOK s2 99 → ∀ ι' : IS, (∀ a j, dX a j → ¬ (a = 5 + nv) → ¬ (a = 3 ∧ j = 2) → ι' a j = ι a j) → (ι' (5 + nv) 0 = x1 ∧ (ι' (5 + nv) 1).toInt = s1.2.2.2 ∧ (ι' (5 + nv) 2).toInt = s2.2.2.2 ∧ ι' (5 + nv) 3 = 0) → (ι' 3 2).toInt = nv + 1 → BX b L ι' → EX b L ι' s3 → Q none ι') :
    PC xl n 45 0 [(0, .ref 1), (1, .int x1)] [] ι Q := by
  have t4 : (4 : Int32).toInt = 4 := rfl
  have u1 : (1 : Int32).toInt = 1 := rfl
  have b1 : TBd lo b L s1 := e1 ▸ tok_n ht
  have b2 : TBd lo b L s2 := e2 ▸ tok_n b1
  have b3 : TBd lo b L s3 := e3 ▸ tok_n b2
  refine (t_45_0 ?_).weak
  rw [rf_1_0, rf_1_1, rf_2_0]
  refine ⟨fun _ => ⟨fun _ => ?_, fun c => ?_⟩, fun c => absurd c hk⟩
  rotate_left
  · rw [i_lt, hv, t4] at c; omega
  refine advT hB hT ht (fun ι1 k1 => ?_)
  rw [e1] at k1
  refine numX (TX.tk k1) b1 rfl (fun g1 => ?_) (fun g1 ι' hf => ?_)
  rotate_left
  · intro r hr
    cases hr
    exact ⟨fun c => absurd rfl c, fun _ => hF1 g1 ι' hf⟩
  intro r hr
  cases hr
  refine ⟨fun _ => ?_, fun c => absurd c (by decide)⟩
  refine advT (hB.tk k1) (TX.tk k1) b1 (fun ι2 k2 => ?_)
  rw [e2] at k2
  refine numX (TX.tk k2) b2 rfl (fun g2 => ?_) (fun g2 ι' hf => ?_)
  rotate_left
  · intro r hr
    cases hr
    exact ⟨fun c => absurd rfl c, fun _ => hF2 g1 g2 ι' hf⟩
  intro r hr
  cases hr
  refine ⟨fun _ => ?_, fun c => absurd c (by decide)⟩
  have d2 : ∀ a j, dX a j → ι2 a j = ι a j := fun a j hd => (tkX_d k2 a j hd).trans (tkX_d k1 a j hd)
  have v2 : (ι2 3 2).toInt = nv := by rw [d2 3 2 (by unfold dX; omega)]; exact hv
  refine (t_46_0 ⟨fun c => ?_, fun _ c1 c2 => ?_⟩).weak
  · rw [i_lt, v2, t4] at c; omega
  rw [rf_3_0, i_ixn v2, re_4 nv hnv]
  have p1 : (ι1 22 5).toInt = s1.2.2.2 := (TX.tk k1).2.2.2 g1.1
  have p2 : (ι2 22 5).toInt = s2.2.2.2 := (TX.tk k2).2.2.2 g2.1
  refine (t_46_43 ?_).weak
  have a1 : ((up (up (up (up ι2 (5 + nv) 0 x1) (5 + nv) 1 (ι1 22 5)) (5 + nv) 2 (ι2 22 5)) (5 + nv) 3 0) 3 2) = ι2 3 2 := by
    rw [up_ne (by omega), up_ne (by omega), up_ne (by omega), up_ne (by omega)]
  rw [a1]
  have f1 : ∀ a j, ¬ a = 5 + nv → ¬ (a = 3 ∧ j = 2) → (up (up (up (up (up ι2 (5 + nv) 0 x1) (5 + nv) 1 (ι1 22 5)) (5 + nv) 2 (ι2 22 5)) (5 + nv) 3 0) 3 2 (ι2 3 2 + 1)) a j = ι2 a j := fun a j h1 h2 => by
    rw [up_ne h2, up_ne (by omega), up_ne (by omega), up_ne (by omega), up_ne (by omega)]
  have f2 : ((up (up (up (up (up ι2 (5 + nv) 0 x1) (5 + nv) 1 (ι1 22 5)) (5 + nv) 2 (ι2 22 5)) (5 + nv) 3 0) 3 2 (ι2 3 2 + 1)) 3 2).toInt = nv + 1 := by
    rw [up_same, i_add (by rw [v2, u1]; omega), v2, u1]
  have f3 : (up (up (up (up (up ι2 (5 + nv) 0 x1) (5 + nv) 1 (ι1 22 5)) (5 + nv) 2 (ι2 22 5)) (5 + nv) 3 0) 3 2 (ι2 3 2 + 1)) (5 + nv) 0 = x1 := by
    rw [up_ne (by omega), up_ne (by simp), up_ne (by simp), up_ne (by simp), up_same]
  have f4 : (up (up (up (up (up ι2 (5 + nv) 0 x1) (5 + nv) 1 (ι1 22 5)) (5 + nv) 2 (ι2 22 5)) (5 + nv) 3 0) 3 2 (ι2 3 2 + 1)) (5 + nv) 1 = ι1 22 5 := by
    rw [up_ne (by omega), up_ne (by simp), up_ne (by simp), up_same]
  have f5 : (up (up (up (up (up ι2 (5 + nv) 0 x1) (5 + nv) 1 (ι1 22 5)) (5 + nv) 2 (ι2 22 5)) (5 + nv) 3 0) 3 2 (ι2 3 2 + 1)) (5 + nv) 2 = ι2 22 5 := by
    rw [up_ne (by omega), up_ne (by simp), up_same]
  have f6 : (up (up (up (up (up ι2 (5 + nv) 0 x1) (5 + nv) 1 (ι1 22 5)) (5 + nv) 2 (ι2 22 5)) (5 + nv) 3 0) 3 2 (ι2 3 2 + 1)) (5 + nv) 3 = 0 := by
    rw [up_ne (by omega), up_same]
  revert f1 f2 f3 f4 f5 f6
  generalize (up (up (up (up (up ι2 (5 + nv) 0 x1) (5 + nv) 1 (ι1 22 5)) (5 + nv) 2 (ι2 22 5)) (5 + nv) 3 0) 3 2 (ι2 3 2 + 1)) = ι3
  intro f1 f2 f3 f4 f5 f6
  have B3 : BX b L ι3 := ⟨hB.1, by rw [f1 22 1 (by omega) (by omega)]; exact ((hB.tk k1).tk k2).2.1, fun q => by rw [f1 23 q (by omega) (by omega)]; exact ((hB.tk k1).tk k2).2.2 q⟩
  have T3 : TX ι3 s2 := by
    obtain ⟨q1, q2, q3, q4⟩ := TX.tk k2
    refine ⟨?_, ?_, ?_, fun hh => ?_⟩
    · rw [f1 22 2 (by omega) (by omega)]; exact q1
    · rw [f1 22 3 (by omega) (by omega)]; exact q2
    · rw [f1 22 4 (by omega) (by omega)]; exact q3
    · rw [f1 22 5 (by omega) (by omega)]; exact q4 hh
  refine advT B3 T3 b2 (fun ι4 k4 => ?_)
  rw [e3] at k4
  have z4 : ι4 1 2 = 0 := by rw [tkX_f k4, f1 1 2 (by omega) (by omega), tkX_f k2, tkX_f k1]; exact h0
  refine endX (B3.tk k4) (TX.tk k4) b3 z4 (fun ι5 o5 B5 E5 => ?_)
  have o : ∀ a j, dX a j → ι5 a j = ι3 a j := fun a j hd => (o5 a j hd).trans (tkX_d k4 a j hd)
  refine hO g1 g2 ι5 (fun a j hd h1 h2 => ?_) ⟨?_, ?_, ?_, ?_⟩ ?_ B5 E5
  · rw [o a j hd, f1 a j h1 h2, d2 a j hd]
  · rw [o _ _ (by unfold dX; omega), f3]
  · rw [o _ _ (by unfold dX; omega), f4, p1]
  · rw [o _ _ (by unfold dX; omega), f5, p2]
  · rw [o _ _ (by unfold dX; omega), f6]
  · rw [o _ _ (by unfold dX; omega), f2]
end Vis
