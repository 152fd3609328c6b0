/-! LINES: the drafts of class and model -/
/-- an act, as a number -/
abbrev actP (z : Int) : Prop := (0 ≤ z ∧ z / 10 ≤ 3 ∧ z % 10 ≤ 3) ∨ (90 ≤ z ∧ z ≤ 92)
def DV (nv : Nat) (ι κ : IS) : Prop := (∀ v, v < nv → ι (5 + v) 0 = κ 133 (4 * v) ∧ ι (5 + v) 1 = κ 133 (4 * v + 1) ∧ ι (5 + v) 2 = κ 133 (4 * v + 2) ∧ ι (5 + v) 3 = 0) ∧ ∀ v, v < 4 → κ 133 (4 * v + 3) = 0
def DD (nd : Nat) (ι κ : IS) : Prop := ∀ d, d < 4 → ι (10 + 2 * d) 1 = κ 133 (16 + 9 * d) ∧ (0 ≤ (ι (10 + 2 * d) 1).toInt ∧ (ι (10 + 2 * d) 1).toInt ≤ 6) ∧ (nd ≤ d → ι (10 + 2 * d) 1 = 0) ∧ ι (10 + 2 * d) 2 = κ 134 d ∧ (ι (10 + 2 * d) 3 = 0 ∧ κ 133 (17 + 9 * d) = 0 ∧ κ 133 (18 + 9 * d) = 0) ∧ ∀ i : Nat, (i : Int) < (ι (10 + 2 * d) 1).toInt → ι (11 + 2 * d) i = κ 133 (19 + 9 * d + i)
def DP (cnt : Nat) (ι κ : IS) : Prop := cnt ≤ 8 ∧ (ι 2 2).toInt = cnt ∧ (κ 133 52).toInt = cnt ∧ ∀ i, i < cnt → ι 18 i = κ 133 (53 + i) ∧ actP (ι 18 i).toInt
def DH (cnt : Nat) (ι κ : IS) : Prop := (∀ i, i < cnt → (ι 18 i).toInt < 90 → (ι 18 i).toInt / 10 ≤ (κ 129 9).toInt ∧ (ι 18 i).toInt % 10 ≤ (κ 129 10).toInt) ∧ (∀ d : Nat, d < 4 → ¬ κ 134 d = 0 → (d : Int) ≤ (κ 129 10).toInt) ∧ ((κ 129 9).toInt = -4 ∨ ∃ i, i < cnt ∧ (ι 18 i).toInt < 90 ∧ (ι 18 i).toInt / 10 = (κ 129 9).toInt) ∧ ((κ 129 10).toInt = -4 ∨ (∃ i, i < cnt ∧ (ι 18 i).toInt < 90 ∧ (ι 18 i).toInt % 10 = (κ 129 10).toInt) ∨ ∃ d : Nat, d < 4 ∧ ¬ κ 134 d = 0 ∧ (d : Int) = (κ 129 10).toInt)
def DR (nv nd cnt : Nat) (ι κ : IS) : Prop := (nv ≤ 4 ∧ (ι 3 2).toInt = nv ∧ (κ 129 6).toInt = nv) ∧ (nd ≤ 4 ∧ (ι 3 3).toInt = nd ∧ (κ 129 7).toInt = nd) ∧ (ι 1 4 = κ 129 8 ∧ (κ 129 8 = 0 ∨ κ 129 8 = 1)) ∧ DV nv ι κ ∧ DD nd ι κ ∧ DP cnt ι κ ∧ DH cnt ι κ ∧ (ι 2 6 = 0 ∧ κ 133 61 = 0)
/-- places that the drafts are told by -/
def dX (a j : Nat) : Prop := a ≤ 21 ∧ ¬ (a = 1 ∧ (j = 2 ∨ j = 3))
def dM (a j : Nat) : Prop := a = 133 ∨ a = 134 ∨ (a = 129 ∧ 6 ≤ j ∧ j ≤ 10)
/-- both read on: the token that they look at, the drafts -/
def OK (lo : Nat) (b : Nat → Int) (L : Nat) (t : TK) (nv nd cnt : Nat) (ι κ : IS) : Prop := BX b L ι ∧ BM b L κ ∧ TX ι t ∧ TM κ t ∧ TBd lo b L t ∧ DR nv nd cnt ι κ ∧ ι 1 2 = 0
section Dr
variable {xl : List Int32} {b : Nat → Int} {lo L n nv nd cnt : Nat} {ι ι' κ κ' : IS} {t : TK}
theorem DR.congr (h : DR nv nd cnt ι κ) (h1 : ∀ a j, dX a j → ι' a j = ι a j) (h2 : ∀ a j, dM a j → κ' a j = κ a j) : DR nv nd cnt ι' κ' := by
  have x : ∀ a j, a ≤ 21 → ¬ a = 1 → ι' a j = ι a j := fun a j h3 h4 => h1 a j ⟨h3, fun e => h4 e.1⟩
  have m3 : ∀ j, κ' 133 j = κ 133 j := fun j => h2 133 j (Or.inl rfl)
  have m4 : ∀ j, κ' 134 j = κ 134 j := fun j => h2 134 j (Or.inr (Or.inl rfl))
  have m9 : ∀ j, 6 ≤ j → j ≤ 10 → κ' 129 j = κ 129 j := fun j g1 g2 => h2 129 j (Or.inr (Or.inr ⟨rfl, g1, g2⟩))
  obtain ⟨⟨a1, a2, a3⟩, ⟨b1, b2, b3⟩, c, d, e, f, g, i1, i2⟩ := h
  refine ⟨⟨a1, by rw [x 3 2 (by omega) (by omega)]; exact a2, by rw [m9 6 (by omega) (by omega)]; exact a3⟩, ⟨b1, by rw [x 3 3 (by omega) (by omega)]; exact b2, by rw [m9 7 (by omega) (by omega)]; exact b3⟩, ?_, ?_, ?_, ?_, ?_, by rw [x 2 6 (by omega) (by omega)]; exact i1, by rw [m3]; exact i2⟩
  · rw [h1 1 4 ⟨by omega, by omega⟩, m9 8 (by omega) (by omega)]; exact c
  · refine ⟨fun v hv => ?_, fun v hv => by rw [m3]; exact d.2 v hv⟩
    rw [x _ _ (by omega) (by omega), x _ _ (by omega) (by omega), x _ _ (by omega) (by omega), x _ _ (by omega) (by omega), m3, m3, m3]
    exact d.1 v hv
  · intro q hq
    obtain ⟨e1, e2, e3, e4, e5, e6⟩ := e q hq
    rw [x _ _ (by omega) (by omega), x _ _ (by omega) (by omega), x _ _ (by omega) (by omega), m3, m3, m3, m4]
    refine ⟨e1, e2, e3, e4, e5, fun i hi => ?_⟩
    rw [x _ _ (by omega) (by omega), m3]
    exact e6 i hi
  · refine ⟨f.1, by rw [x _ _ (by omega) (by omega)]; exact f.2.1, by rw [m3]; exact f.2.2.1, fun i hi => ?_⟩
    rw [x _ _ (by omega) (by omega), m3]
    exact f.2.2.2 i hi
  · have x18 : ∀ i, ι' 18 i = ι 18 i := fun i => x 18 i (by omega) (by omega)
    unfold DH at g ⊢
    simp only [x18, m4, m9 9 (by omega) (by omega), m9 10 (by omega) (by omega)]
    exact g
theorem tkX_d {t : TK} (hk : tkX ι ι' t) : ∀ a j, dX a j → ι' a j = ι a j := fun a j h => hk.1 a j (by unfold dX at h; omega)
theorem tkM_d {t : TK} (hk : tkM κ κ' t) : ∀ a j, dM a j → κ' a j = κ a j := fun a j h => hk.1 a j (by unfold dM at h; omega)
theorem tkX_f {t : TK} (hk : tkX ι ι' t) : ι' 1 2 = ι 1 2 := hk.1 1 2 (by simp)
/-- both go to the next token -/
theorem OK.next {t t2 : TK} {ι1 κ1 : IS} (h1 : BX b L ι) (h2 : BM b L κ) (hd : DR nv nd cnt ι κ) (h0 : ι 1 2 = 0) (hb : TBd lo b L t2) (hx : tkX ι ι1 t2) (hm : tkM κ κ1 t2) : OK lo b L t2 nv nd cnt ι1 κ1 := ⟨h1.tk hx, h2.tk hm, TX.tk hx, TM.tk hm, hb, hd.congr (tkX_d hx) (tkM_d hm), by rw [tkX_f hx]; exact h0⟩
end Dr
