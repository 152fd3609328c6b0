/-! LINES: states of class and model while a text is read -/
abbrev TK : Type := Nat × Nat × Nat × Int
def BX (b : Nat → Int) (L : Nat) (ι : IS) : Prop := L ≤ 160 ∧ (ι 22 1).toInt = L ∧ ∀ q, (ι 23 q).toInt = b q
def BM (b : Nat → Int) (L : Nat) (κ : IS) : Prop := L ≤ 160 ∧ (κ 129 13).toInt = L ∧ (∀ q, (κ 135 q).toInt = b q) ∧ ∀ q, 0 ≤ b q
def TX (ι : IS) (t : TK) : Prop := (ι 22 2).toInt = t.1 ∧ (ι 22 3).toInt = t.2.1 ∧ (ι 22 4).toInt = t.2.2.1 ∧ (t.1 = 2 → (ι 22 5).toInt = t.2.2.2)
def TM (κ : IS) (t : TK) : Prop := (κ 129 15).toInt = t.2.1 ∧ (κ 129 14).toInt = t.2.2.1 ∧ (t.1 ≠ 4 → (κ 129 16).toInt = t.1 ∧ κ 129 18 = 0) ∧ (t.1 = 4 → κ 129 18 = 1 ∧ (κ 129 19).toInt = t.2.1) ∧ (t.1 = 2 → (κ 129 17).toInt = t.2.2.2)
/-- a token that stands behind some place -/
def TBd (lo : Nat) (b : Nat → Int) (L : Nat) (t : TK) : Prop := t.1 ≤ 4 ∧ t.2.1 ≤ t.2.2.1 ∧ t.2.2.1 ≤ L ∧ (t.1 = 2 → 0 ≤ t.2.2.2 ∧ t.2.2.2 ≤ 99) ∧ (t.1 = 0 → t.2.1 = L) ∧ (¬ t.1 = 0 → t.2.1 < t.2.2.1) ∧ lo ≤ t.2.2.1
def failI (ι : IS) (c : Int32) : IS := up (up ι 1 2 c) 1 3 (ι 22 3)
def failM (κ : IS) (c : Int32) : IS := up (up κ 129 18 c) 129 19 (κ 129 15)
/-- both have met a fault, at the same place -/
def FR (ι κ : IS) : Prop := ¬ ι 1 2 = 0 ∧ 0 < (κ 129 18).toInt ∧ ι 1 3 = κ 129 19
theorem rf_1_0 : rf 1 0 = 2 := rfl
theorem rf_1_1 : rf 1 1 = 22 := rfl
theorem rf_2_0 : rf 2 0 = 3 := rfl
theorem rf_2_1 : rf 2 1 = 18 := rfl
theorem rf_3_0 : rf 3 0 = 4 := rfl
theorem rf_3_1 : rf 3 1 = 9 := rfl
theorem rf_129_5 : rf 129 5 = 133 := by decide +kernel
theorem rf_129_11 : rf 129 11 = 134 := by decide +kernel
section Line
variable {xl : List Int32} {b : Nat → Int} {lo L n : Nat} {ι ι' κ κ' : IS} {t : TK} {Q : Option Value → IS → Prop} {x1 x2 : Int32}
theorem tok_b {p : Nat} (hp : p ≤ L) (hlo : lo ≤ p) : TBd lo b L (tokF b L p) ∧ p ≤ (tokF b L p).2.1 := by
  have s1 := skL_le (b := b) (lo := 32) (hi := 32) hp
  have s0 := skL_ge (b := b) (lo := 32) (hi := 32) (L := L) (p := p)
  unfold tokF
  generalize skL b 32 32 L p = s at s1 s0
  split
  · exact ⟨⟨by simp, by simp, by simp; omega, by simp, by simp; omega, by simp, by simp; omega⟩, s0⟩
  · rename_i h1
    have sL : s < L := by omega
    split
    · rename_i h2
      have := skL_le (b := b) (lo := 97) (hi := 122) s1
      exact ⟨⟨by simp, by simp; omega, by simp; omega, by simp, by simp, by simp; omega, by simp; omega⟩, s0⟩
    · split
      · rename_i h3
        have e1 := skL_le (b := b) (lo := 48) (hi := 57) s1
        have d0 := skL_all (b := b) (lo := 48) (hi := 57) (L := L) (p := s) (q := s) (Nat.le_refl _) h3
        split
        · exact ⟨⟨by simp, by simp; omega, by simp; omega, by simp, by simp, by simp; omega, by simp; omega⟩, s0⟩
        · rename_i h4
          refine ⟨⟨by simp, by simp; omega, by simp; omega, fun _ => ?_, by simp, by simp; omega, by simp; omega⟩, s0⟩
          simp only
          split
          · omega
          · have d1 := skL_all (b := b) (lo := 48) (hi := 57) (L := L) (p := s) (q := s + 1) (by omega) (by omega)
            omega
      · refine ⟨⟨?_, by simp, by simp; omega, ?_, ?_, by simp, by simp; omega⟩, s0⟩
        · simp only; split <;> omega
        · simp only; split <;> intro h <;> cases h
        · simp only; split <;> intro h <;> cases h
theorem tok_n {t : TK} (h : TBd lo b L t) : TBd lo b L (tokF b L t.2.2.1) := (tok_b h.2.2.1 h.2.2.2.2.2.2).1
theorem BX.tk (h : BX b L ι) {t : TK} (hk : tkX ι ι' t) : BX b L ι' := ⟨h.1, by rw [hk.1 22 1 (by simp)]; exact h.2.1, fun q => by rw [hk.1 23 q (by simp)]; exact h.2.2 q⟩
theorem TX.tk {t : TK} (hk : tkX ι ι' t) : TX ι' t := hk.2
theorem BM.tk (h : BM b L κ) {t : TK} (hk : tkM κ κ' t) : BM b L κ' := ⟨h.1, by rw [hk.1 129 13 (by simp)]; exact h.2.1, fun q => by rw [hk.1 135 q (by simp)]; exact h.2.2.1 q, h.2.2.2⟩
theorem TM.tk {t : TK} (hk : tkM κ κ' t) : TM κ' t := hk.2
theorem advT (hB : BX b L ι) (hT : TX ι t) (ht : TBd lo b L t) (h : ∀ ι' : IS, tkX ι ι' (tokF b L t.2.2.1) → Q none ι') : PC xl n 19 0 [(0, .ref 22)] [] ι Q := adv_spec hB.1 hT.2.2.1 ht.2.2.1 hB.2.1 hB.2.2 h
theorem nextT (hB : BM b L κ) (hT : TM κ t) (ht : TBd lo b L t) (h4 : t.1 ≠ 4) (h : ∀ κ' : IS, tkM κ κ' (tokF b L t.2.2.1) → Q none κ') : PC xl n 151 0 [(0, .ref 129)] [] κ Q := next_spec hB.1 hT.2.1 ht.2.2.1 hB.2.1 hB.2.2.1 hB.2.2.2 (hT.2.2.1 h4).2 h
theorem fail_spec (h : Q none (failI ι x1)) : PC xl n 24 0 [(0, .ref 1), (1, .int x1)] [] ι Q := by
  refine (t_24_0 ?_).weak
  rw [rf_1_1, show (up ι 1 2 x1) 22 3 = ι 22 3 from up_ne (by simp)]
  exact h
theorem stands_spec (h1 : ι 22 2 = x1 → Q (some (.int 1)) ι) (h2 : ¬ ι 22 2 = x1 → ∀ c, ¬ c = 0 → Q (some (.int 0)) (failI ι c)) : PC xl n 23 0 [(0, .ref 1), (1, .int x1)] [] ι Q := by
  refine (t_23_0 ?_).weak
  rw [rf_1_1]
  exact ⟨fun c => ⟨fun _ => fail_spec (h2 c 2 (by decide)), fun _ => fail_spec (h2 c 1 (by decide))⟩, h1⟩
theorem number_spec (h1 : ι 22 2 = 2 → ¬ x1 < ι 22 5 → Q (some (.int 1)) ι) (h2 : ¬ (ι 22 2 = 2 ∧ ¬ x1 < ι 22 5) → ∀ c, ¬ c = 0 → Q (some (.int 0)) (failI ι c)) : PC xl n 34 0 [(0, .ref 1), (1, .int x1)] [] ι Q := by
  refine (t_34_0 (stands_spec (fun c => ?_) (fun c k hk => ?_))).weak
  · intro r hr
    cases hr
    rw [rf_1_1]
    exact ⟨fun _ => ⟨fun g => h1 c g, fun g => fail_spec (h2 (fun hh => hh.2 g) 3 (by decide))⟩, fun g => absurd g (by decide)⟩
  · intro r hr
    cases hr
    exact ⟨fun g => absurd rfl g, fun _ => h2 (fun hh => c hh.1) k hk⟩
theorem endL_spec (hB : BX b L ι) (hT : TX ι t) (ht : TBd lo b L t) (h1 : t.1 = 3 → ∀ ι' : IS, tkX ι ι' (tokF b L t.2.2.1) → Q none ι') (h2 : t.1 ≠ 3 → ∀ c, ¬ c = 0 → Q none (failI ι c)) : PC xl n 36 0 [(0, .ref 1)] [] ι Q := by
  have t3 : (3 : Int32).toInt = 3 := rfl
  refine (t_36_0 (stands_spec (fun c => ?_) (fun c k hk => ?_))).weak
  · intro r hr
    cases hr
    rw [i_eq, hT.1, t3] at c
    refine ⟨fun g => absurd g (by decide), fun _ => ?_⟩
    rw [rf_1_1]
    exact advT hB hT ht (h1 (by omega))
  · intro r hr
    cases hr
    rw [i_eq, hT.1, t3] at c
    exact ⟨fun _ => h2 (by omega) k hk, fun g => absurd rfl g⟩
theorem looked_f (hf : ¬ κ 129 18 = 0) (h : Q (some (.int 0)) κ) : PC xl n 161 0 [(0, .ref 129), (1, .int x1), (2, .int x2)] [] κ Q := by
  refine (t_161_0 ⟨fun _ => ?_, fun c => absurd c hf⟩).weak
  refine (t_161_25 ⟨fun _ => ?_, fun c => absurd c hf⟩).weak
  exact (t_161_49 ⟨fun _ => h, fun c => absurd c hf⟩).weak
theorem looked_ok (hf : κ 129 18 = 0) (hn : κ 129 16 = 2) (h1 : x1.toInt ≤ (κ 129 17).toInt) (h2 : (κ 129 17).toInt ≤ x2.toInt) (h : Q (some (.int (κ 129 17))) κ) : PC xl n 161 0 [(0, .ref 129), (1, .int x1), (2, .int x2)] [] κ Q := by
  refine (t_161_0 ⟨fun c => absurd hf c, fun _ => ⟨fun c => absurd hn c, fun _ => ?_⟩⟩).weak
  refine needs_spec (fun _ => ?_) (fun c => absurd c (by decide))
  refine (t_161_25 ⟨fun c => absurd hf c, fun _ => ?_⟩).weak
  refine in_spec ?_
  rw [Int32.toInt_toInt64, Int32.toInt_toInt64, Int32.toInt_toInt64, if_pos ⟨h1, h2⟩]
  intro r hr
  cases hr
  refine needs_spec (fun _ => ?_) (fun c => absurd c (by decide))
  exact (t_161_49 ⟨fun c => absurd hf c, fun _ => h⟩).weak
theorem looked_bad (hf : κ 129 18 = 0) (hn : ¬ (κ 129 16 = 2 ∧ x1.toInt ≤ (κ 129 17).toInt ∧ (κ 129 17).toInt ≤ x2.toInt)) (h : ∀ c : Int32, 0 < c.toInt → Q (some (.int 0)) (failM κ c)) : PC xl n 161 0 [(0, .ref 129), (1, .int x1), (2, .int x2)] [] κ Q := by
  have f18 : ∀ c : Int32, (failM κ c) 129 18 = c := fun c => by unfold failM; rw [up_ne (by simp), up_same]
  refine (t_161_0 ⟨fun c => absurd hf c, fun _ => ⟨fun c => ?_, fun c => ?_⟩⟩).weak
  · refine needs_spec (fun hh => ?_) (fun _ _ => ?_)
    · rcases hh with hh | hh
      · exact absurd rfl hh
      · exact absurd hf hh
    · have g : ¬ (failM κ 2) 129 18 = 0 := by rw [f18]; decide
      refine (t_161_25 ⟨fun _ => ?_, fun c => absurd c g⟩).weak
      exact (t_161_49 ⟨fun _ => h 2 (by decide), fun c => absurd c g⟩).weak
  · refine needs_spec (fun _ => ?_) (fun c => absurd c (by decide))
    refine (t_161_25 ⟨fun c => absurd hf c, fun _ => ?_⟩).weak
    refine in_spec ?_
    rw [Int32.toInt_toInt64, Int32.toInt_toInt64, Int32.toInt_toInt64, if_neg (fun hh => hn ⟨c, hh⟩)]
    intro r hr
    cases hr
    refine needs_spec (fun hh => ?_) (fun _ _ => ?_)
    · rcases hh with hh | hh
      · exact absurd rfl hh
      · exact absurd hf hh
    · have g : ¬ (failM κ 3) 129 18 = 0 := by rw [f18]; decide
      exact (t_161_49 ⟨fun _ => h 3 (by decide), fun c => absurd c g⟩).weak
theorem nz {x : Int32} (h : 0 < x.toInt) : ¬ x = 0 := fun e => by rw [e] at h; exact absurd h (by decide)
theorem rdn_f (hf : 0 < (κ 129 18).toInt) (h : Q (some (.int 0)) κ) : PC xl n 160 0 [(0, .ref 129), (1, .int x1), (2, .int x2)] [] κ Q := by
  refine (t_160_0 (looked_f (nz hf) ?_)).weak
  intro r hr
  cases hr
  exact next_f hf h
theorem rdn_ok (hB : BM b L κ) (hT : TM κ t) (ht : TBd lo b L t) (h2 : t.1 = 2) (h3 : x1.toInt ≤ t.2.2.2) (h4 : t.2.2.2 ≤ x2.toInt) (h : ∀ κ' : IS, tkM κ κ' (tokF b L t.2.2.1) → Q (some (.int (κ 129 17))) κ') : PC xl n 160 0 [(0, .ref 129), (1, .int x1), (2, .int x2)] [] κ Q := by
  have e := hT.2.2.1 (by omega)
  have hv := hT.2.2.2.2 h2
  refine (t_160_0 (looked_ok e.2 ?_ (by rw [hv]; exact h3) (by rw [hv]; exact h4) ?_)).weak
  · rw [i_eq, e.1, h2]; rfl
  · intro r hr
    cases hr
    exact nextT hB hT ht (by omega) h
theorem rdn_bad (hT : TM κ t) (h4 : t.1 ≠ 4) (hn : ¬ (t.1 = 2 ∧ x1.toInt ≤ t.2.2.2 ∧ t.2.2.2 ≤ x2.toInt)) (h : ∀ c : Int32, 0 < c.toInt → Q (some (.int 0)) (failM κ c)) : PC xl n 160 0 [(0, .ref 129), (1, .int x1), (2, .int x2)] [] κ Q := by
  have e := hT.2.2.1 h4
  refine (t_160_0 (looked_bad e.2 (fun hh => ?_) (fun c hc => ?_))).weak
  · have e2 : t.1 = 2 := by
      have h1 := hh.1
      have t2 : (2 : Int32).toInt = 2 := rfl
      rw [i_eq, e.1, t2] at h1; omega
    have hv := hT.2.2.2.2 e2
    rw [hv] at hh
    exact hn ⟨e2, hh.2⟩
  · intro r hr
    cases hr
    refine next_f ?_ (h c hc)
    unfold failM; rw [up_ne (by simp), up_same]; exact hc
theorem FR.of (c : Int32) (hc : ¬ c = 0) {k : Int32} (hk : 0 < k.toInt) (he : ι 22 3 = κ 129 15) : FR (failI ι c) (failM κ k) := by
  refine ⟨?_, ?_, ?_⟩
  · unfold failI; rw [up_ne (by simp), up_same]; exact hc
  · unfold failM; rw [up_ne (by simp), up_same]; exact hk
  · unfold failI failM; rw [up_same, up_same]; exact he
theorem FR.of4 (c : Int32) (hc : ¬ c = 0) (hX : TX ι t) (hT : TM κ t) (h4 : t.1 = 4) : FR (failI ι c) κ := by
  obtain ⟨e1, e2⟩ := hT.2.2.2.1 h4
  refine ⟨?_, ?_, ?_⟩
  · unfold failI; rw [up_ne (by simp), up_same]; exact hc
  · rw [e1]; decide
  · unfold failI; rw [up_same, i_eq, hX.2.1, e2]
theorem TT_st (hX : TX ι t) (hT : TM κ t) : ι 22 3 = κ 129 15 := by rw [i_eq, hX.2.1, hT.1]
end Line
