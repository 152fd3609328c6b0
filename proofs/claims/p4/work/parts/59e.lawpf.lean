/-! THE LAW'S RUN, III: its loop answers 1 -/
def J4 (ro : Nat → Option MC) (F : MH) : Prop := WT tGam tSets tRoles ro F ∧ F.map zc = sh0 ∧ R4 F
/-- fed, or not -/
def fC (x1 : Int32) (L : Nat) (ι ι' : IS) (p f q : Nat) : Prop := (0 ≤ x1.toInt ∧ x1.toInt ≤ 127 ∧ L < 160 ∧ (∀ a j, ¬ (a = p ∧ j = f) → ¬ (a = q ∧ j = L) → ι' a j = ι a j) ∧ (ι' p f).toInt = (L + 1 : Nat) ∧ ι' q L = x1) ∨ (¬ (0 ≤ x1.toInt ∧ x1.toInt ≤ 127 ∧ L < 160) ∧ ι' = ι)
/-- cut, or not -/
def eC (x1 : Int32) (L : Nat) (ι ι' : IS) (p f : Nat) : Prop := (0 ≤ x1.toInt ∧ x1.toInt ≤ L ∧ ι' = up ι p f x1) ∨ (¬ (0 ≤ x1.toInt ∧ x1.toInt ≤ L) ∧ ι' = ι)
section LawPF
variable {xl : List Int32} {n : Nat} {F : MH} {x1 x3 : Int32}
theorem R4_feed {ι0 ι1 : IS} {F2 : MH} {b : Nat → Int} {L : Nat} (hX : BX b L ι0) (hM : BM b L ι0) (h1 : fC x1 L ι0 ι1 22 1 23) (h2 : fC x1 L ι1 (iv F2) 129 13 135) : R4 F2 := by
  rcases h1 with ⟨a1, a2, a3, a4, a5, a6⟩ | ⟨a1, a2⟩
  · rcases h2 with ⟨-, -, -, c4, c5, c6⟩ | ⟨c1, -⟩
    · refine ⟨fun q => if q = L then x1.toInt else b q, L + 1, ⟨by omega, ?_, fun q => ?_⟩, ⟨by omega, c5, fun q => ?_, fun q => ?_⟩⟩
      · rw [c4 22 1 (by omega) (by omega)]; exact a5
      · rw [c4 23 q (by omega) (by omega)]
        show _ = if q = L then x1.toInt else b q
        split
        · rename_i e; rw [e, a6]
        · rw [a4 23 q (by omega) (by omega)]; exact hX.2.2 q
      · show _ = if q = L then x1.toInt else b q
        split
        · rename_i e; rw [e, c6]
        · rw [c4 135 q (by omega) (by omega), a4 135 q (by omega) (by omega)]; exact hM.2.2.1 q
      · show 0 ≤ if q = L then x1.toInt else b q
        split
        · exact a1
        · exact hM.2.2.2 q
    · exact absurd ⟨a1, a2, a3⟩ c1
  · rcases h2 with ⟨c1, c2, c3, -⟩ | ⟨-, c2⟩
    · exact absurd ⟨c1, c2, c3⟩ a1
    · have e : iv F2 = ι0 := c2.trans a2
      exact ⟨b, L, by rw [e]; exact hX, by rw [e]; exact hM⟩
theorem R4_end {ι0 ι1 : IS} {F2 : MH} {b : Nat → Int} {L : Nat} (hX : BX b L ι0) (hM : BM b L ι0) (h1 : eC x1 L ι0 ι1 22 1) (h2 : eC x1 L ι1 (iv F2) 129 13) : R4 F2 := by
  rcases h1 with ⟨a1, a2, a3⟩ | ⟨a1, a3⟩
  · rcases h2 with ⟨-, -, c3⟩ | ⟨c1, -⟩
    · have hn : ((x1.toInt.toNat : Nat) : Int) = x1.toInt := Int.toNat_of_nonneg a1
      have hl := hX.1
      refine ⟨b, x1.toInt.toNat, ⟨by omega, ?_, fun q => ?_⟩, ⟨by omega, ?_, fun q => ?_, hM.2.2.2⟩⟩
      · rw [c3, up_ne (by omega), a3, up_same, hn]
      · rw [c3, up_ne (by omega), a3, up_ne (by omega)]; exact hX.2.2 q
      · rw [c3, up_same, hn]
      · rw [c3, up_ne (by omega), a3, up_ne (by omega)]; exact hM.2.2.1 q
    · exact absurd ⟨a1, a2⟩ c1
  · rcases h2 with ⟨c1, c2, -⟩ | ⟨-, c2⟩
    · exact absurd ⟨c1, c2⟩ a1
    · have e : iv F2 = ι0 := c2.trans a3
      exact ⟨b, L, by rw [e]; exact hX, by rw [e]; exact hM⟩
/-- half way: the class is fed, the model is not yet -/
def K1 (C : IS → IS → Nat → Prop) (ro : Nat → Option MC) (F : MH) : Prop := WT tGam tSets tRoles ro F ∧ F.map zc = sh0 ∧ ∃ b L ι0, BX b L ι0 ∧ BM b L ι0 ∧ C ι0 (iv F) L
theorem feed1 (hJ : J4 (tRo xl) F) : PF (tRo xl) n 10 0 [(0, .ref 0), (1, .int x1)] [] F (fun _ F1 => K1 (fun ι0 ι1 L => fC x1 L ι0 ι1 22 1 23) (tRo xl) F1) := by
  obtain ⟨hW, hs, b, L, hX, hM⟩ := hJ
  have A : PC xl n 10 0 [(0, .ref 0), (1, .int x1)] [] (iv F) (fun _ ι' => fC x1 L (iv F) ι' 22 1 23) := feedX hX.2.1 (fun h1 h2 h3 ι' h4 h5 h6 _ => Or.inl ⟨h1, h2, h3, h4, h5, h6⟩) (fun h1 _ => Or.inr ⟨h1, rfl⟩)
  exact (((A F hs rfl).and (op_10 rfl hW)).and (PF.sh rfl hs)).imp (fun v F1 q => ⟨q.1.2.1, q.2, b, L, iv F, hX, hM, q.1.1⟩)
theorem feed2 (hK : K1 (fun ι0 ι1 L => fC x1 L ι0 ι1 22 1 23) (tRo xl) F) : PF (tRo xl) n 147 0 [(0, .ref 129), (1, .int x1)] [] F (fun _ F1 => J4 (tRo xl) F1) := by
  obtain ⟨hW, hs, b, L, ι0, hX, hM, hC⟩ := hK
  have hl : (iv F 129 13).toInt = L := by
    rcases hC with ⟨-, -, -, a4, -, -⟩ | ⟨-, a2⟩
    · rw [a4 129 13 (by omega) (by omega)]; exact hM.2.1
    · rw [a2]; exact hM.2.1
  have A : PC xl n 147 0 [(0, .ref 129), (1, .int x1)] [] (iv F) (fun _ ι' => fC x1 L (iv F) ι' 129 13 135) := feedM hl hM.1 (fun h1 h2 h3 ι' h4 h5 h6 _ => Or.inl ⟨h1, h2, h3, h4, h5, h6⟩) (fun h1 _ => Or.inr ⟨h1, rfl⟩)
  exact (((A F hs rfl).and (op_147 rfl hW)).and (PF.sh rfl hs)).imp (fun v F1 q => ⟨q.1.2.1, q.2, R4_feed hX hM hC q.1.1⟩)
theorem end1 (hJ : J4 (tRo xl) F) : PF (tRo xl) n 12 0 [(0, .ref 0), (1, .int x1)] [] F (fun _ F1 => K1 (fun ι0 ι1 L => eC x1 L ι0 ι1 22 1) (tRo xl) F1) := by
  obtain ⟨hW, hs, b, L, hX, hM⟩ := hJ
  have A : PC xl n 12 0 [(0, .ref 0), (1, .int x1)] [] (iv F) (fun _ ι' => eC x1 L (iv F) ι' 22 1) := endXs hX.2.1 (fun h1 h2 _ => Or.inl ⟨h1, h2, rfl⟩) (fun h1 _ => Or.inr ⟨h1, rfl⟩)
  exact (((A F hs rfl).and (op_12 rfl hW)).and (PF.sh rfl hs)).imp (fun v F1 q => ⟨q.1.2.1, q.2, b, L, iv F, hX, hM, q.1.1⟩)
theorem end2 (hK : K1 (fun ι0 ι1 L => eC x1 L ι0 ι1 22 1) (tRo xl) F) : PF (tRo xl) n 149 0 [(0, .ref 129), (1, .int x1)] [] F (fun _ F1 => J4 (tRo xl) F1) := by
  obtain ⟨hW, hs, b, L, ι0, hX, hM, hC⟩ := hK
  have hl : (iv F 129 13).toInt = L := by
    rcases hC with ⟨-, -, a4⟩ | ⟨-, a2⟩
    · rw [a4, up_ne (by omega)]; exact hM.2.1
    · rw [a2]; exact hM.2.1
  have A : PC xl n 149 0 [(0, .ref 129), (1, .int x1)] [] (iv F) (fun _ ι' => eC x1 L (iv F) ι' 129 13) := endMs hl (fun h1 h2 _ => Or.inl ⟨h1, h2, rfl⟩) (fun h1 _ => Or.inr ⟨h1, rfl⟩)
  exact (((A F hs rfl).and (op_149 rfl hW)).and (PF.sh rfl hs)).imp (fun v F1 q => ⟨q.1.2.1, q.2, R4_end hX hM hC q.1.1⟩)
theorem text1 (hJ : J4 (tRo xl) F) : PF (tRo xl) n 13 0 [(0, .ref 0)] [] F (fun v1 F1 => PF (tRo xl) n 150 0 [(0, .ref 129)] [] F1 (fun v2 F2 => v1 = v2 ∧ J4 (tRo xl) F2)) := by
  obtain ⟨hW, hs, b, L, hX, hM⟩ := hJ
  intro d z hx
  have o1 := op_13 (n := n) rfl hW d z hx
  have s1 : z.2.map zc = sh0 := ex_sh _ _ _ _ _ _ _ _ (show sP 13 = true from rfl) hs hx
  have k1 : ∀ q, iv z.2 135 q = iv F 135 q := fun q => fr_iv o1.2 (r := 30) rfl rfl (by decide) hs s1
  have k2 : iv z.2 129 13 = iv F 129 13 := fr_iv o1.2 (r := 24) rfl rfl (by decide) hs s1
  have k3 : ∀ q, iv z.2 23 q = iv F 23 q := fun q => fr_iv o1.2 (r := 14) rfl rfl (by decide) hs s1
  have hM1 : BM b L (iv z.2) := ⟨hM.1, by rw [k2]; exact hM.2.1, fun q => by rw [k1]; exact hM.2.2.1 q, hM.2.2.2⟩
  have T := txt2 (xl := xl) (n := n) (n2 := n) hX hM1 F hs rfl d z hx z.2 s1 rfl
  refine ((T.and (op_150 (n := n) rfl o1.1)).and (PF.sh (n := n) rfl s1)).imp (fun v2 F2 hh => ?_)
  obtain ⟨⟨⟨t1, t2, t3⟩, w2, f2⟩, s2⟩ := hh
  refine ⟨t1, w2, s2, b, 0, ⟨by omega, ?_, fun q => ?_⟩, ⟨by omega, ?_, fun q => ?_, hM.2.2.2⟩⟩
  · rw [fr_iv f2 (r := 13) (a := 22) (j := 1) rfl rfl (by decide) s1 s2, t2]; rfl
  · rw [fr_iv f2 (r := 14) (a := 23) (j := q) rfl rfl (by decide) s1 s2, k3]; exact hX.2.2 q
  · rw [t3]; rfl
  · rw [fr_iv f2 (r := 30) (a := 135) (j := q) rfl rfl (by decide) s1 s2, k1]; exact hM.2.2.1 q
theorem c_196 (hJ : J4 (tRo xl) F) (e : ∀ F2, J4 (tRo xl) F2 → PF (tRo xl) n 0 1253 [(3, .int x3), (2, .ref 129), (1, .ref 0), (0, .ref KB)] [] F2 (fun v _ => v = some (.int 1))) : PF (tRo xl) n 0 196 [(3, .int x3), (2, .ref 129), (1, .ref 0), (0, .ref KB)] [] F (fun v _ => v = some (.int 1)) := by
  refine (l_196 ?_).weak
  intros
  refine PF.imp (feed1 hJ) (fun v1 F1 j1 => ?_)
  intros
  exact PF.imp (feed2 j1) (fun v2 F2 j2 _ _ => e F2 j2)
theorem c_219 (hJ : J4 (tRo xl) F) (e : ∀ F2, J4 (tRo xl) F2 → PF (tRo xl) n 0 1253 [(3, .int x3), (2, .ref 129), (1, .ref 0), (0, .ref KB)] [] F2 (fun v _ => v = some (.int 1))) : PF (tRo xl) n 0 219 [(3, .int x3), (2, .ref 129), (1, .ref 0), (0, .ref KB)] [] F (fun v _ => v = some (.int 1)) := by
  refine (l_219 ?_).weak
  intros
  refine PF.imp (end1 hJ) (fun v1 F1 j1 => ?_)
  intros
  exact PF.imp (end2 j1) (fun v2 F2 j2 _ _ => e F2 j2)
theorem c_242 (hJ : J4 (tRo xl) F) (e : ∀ F2, J4 (tRo xl) F2 → PF (tRo xl) n 0 1253 [(3, .int x3), (2, .ref 129), (1, .ref 0), (0, .ref KB)] [] F2 (fun v _ => v = some (.int 1))) : PF (tRo xl) n 0 242 [(3, .int x3), (2, .ref 129), (1, .ref 0), (0, .ref KB)] [] F (fun v _ => v = some (.int 1)) := by
  refine (l_242 ?_).weak
  refine PF.imp (text1 hJ) (fun v1 F1 j1 => ?_)
  intro r1 e1
  refine PF.imp j1 (fun v2 F2 j2 => ?_)
  intro r2 e2
  have er : r1 = r2 := by
    have t := j2.1
    rw [e1, e2] at t
    cases t; rfl
  exact ⟨fun _ => e F2 j2.2, fun hn => absurd er hn⟩
theorem c_255 (hJ : J4 (tRo xl) F) (e : ∀ F2, J4 (tRo xl) F2 → PF (tRo xl) n 0 1253 [(3, .int x3), (2, .ref 129), (1, .ref 0), (0, .ref KB)] [] F2 (fun v _ => v = some (.int 1))) : PF (tRo xl) n 0 255 [(3, .int x3), (2, .ref 129), (1, .ref 0), (0, .ref KB)] [] F (fun v _ => v = some (.int 1)) := by
  refine (l_255 ?_).weak
  intros
  refine PF.imp (opR_55 rfl hJ.1 hJ.2.1 hJ.2.2) (fun v1 F1 j1 => ?_)
  intros
  exact PF.imp (opR_166 rfl j1.1 j1.2.1 j1.2.2) (fun v2 F2 j2 _ _ => e F2 j2)
theorem c_268 (hJ : J4 (tRo xl) F) (e : ∀ F2, J4 (tRo xl) F2 → PF (tRo xl) n 0 1253 [(3, .int x3), (2, .ref 129), (1, .ref 0), (0, .ref KB)] [] F2 (fun v _ => v = some (.int 1))) : PF (tRo xl) n 0 268 [(3, .int x3), (2, .ref 129), (1, .ref 0), (0, .ref KB)] [] F (fun v _ => v = some (.int 1)) := by
  refine (l_268 ?_).weak
  intros
  refine PF.imp (opR_56 rfl hJ.1 hJ.2.1 hJ.2.2) (fun v1 F1 j1 => ?_)
  intros
  exact PF.imp (opR_167 rfl j1.1 j1.2.1 j1.2.2) (fun v2 F2 j2 _ _ => e F2 j2)
theorem c_291 (hJ : J4 (tRo xl) F) (e : ∀ F2, J4 (tRo xl) F2 → PF (tRo xl) n 0 1253 [(3, .int x3), (2, .ref 129), (1, .ref 0), (0, .ref KB)] [] F2 (fun v _ => v = some (.int 1))) : PF (tRo xl) n 0 291 [(3, .int x3), (2, .ref 129), (1, .ref 0), (0, .ref KB)] [] F (fun v _ => v = some (.int 1)) := by
  refine (l_291 ?_).weak
  intros
  refine PF.imp (opR_62 rfl hJ.1 hJ.2.1 hJ.2.2) (fun v1 F1 j1 => ?_)
  intros
  exact PF.imp (opR_176 rfl j1.1 j1.2.1 j1.2.2) (fun v2 F2 j2 _ _ => e F2 j2)
theorem c_324 (hJ : J4 (tRo xl) F) (e : ∀ F2, J4 (tRo xl) F2 → PF (tRo xl) n 0 1253 [(3, .int x3), (2, .ref 129), (1, .ref 0), (0, .ref KB)] [] F2 (fun v _ => v = some (.int 1))) : PF (tRo xl) n 0 324 [(3, .int x3), (2, .ref 129), (1, .ref 0), (0, .ref KB)] [] F (fun v _ => v = some (.int 1)) := by
  refine (l_324 ?_).weak
  intros
  refine PF.imp (opR_64 rfl hJ.1 hJ.2.1 hJ.2.2) (fun v1 F1 j1 => ?_)
  intros
  exact PF.imp (opR_180 rfl j1.1 j1.2.1 j1.2.2) (fun v2 F2 j2 _ _ => e F2 j2)
theorem c_357 (hJ : J4 (tRo xl) F) (e : ∀ F2, J4 (tRo xl) F2 → PF (tRo xl) n 0 1253 [(3, .int x3), (2, .ref 129), (1, .ref 0), (0, .ref KB)] [] F2 (fun v _ => v = some (.int 1))) : PF (tRo xl) n 0 357 [(3, .int x3), (2, .ref 129), (1, .ref 0), (0, .ref KB)] [] F (fun v _ => v = some (.int 1)) := by
  refine (l_357 ?_).weak
  intros
  refine PF.imp (opR_66 rfl hJ.1 hJ.2.1 hJ.2.2) (fun v1 F1 j1 => ?_)
  intros
  exact PF.imp (opR_182 rfl j1.1 j1.2.1 j1.2.2) (fun v2 F2 j2 _ _ => e F2 j2)
theorem c_380 (hJ : J4 (tRo xl) F) (e : ∀ F2, J4 (tRo xl) F2 → PF (tRo xl) n 0 1253 [(3, .int x3), (2, .ref 129), (1, .ref 0), (0, .ref KB)] [] F2 (fun v _ => v = some (.int 1))) : PF (tRo xl) n 0 380 [(3, .int x3), (2, .ref 129), (1, .ref 0), (0, .ref KB)] [] F (fun v _ => v = some (.int 1)) := by
  refine (l_380 ?_).weak
  intros
  refine PF.imp (opR_67 rfl hJ.1 hJ.2.1 hJ.2.2) (fun v1 F1 j1 => ?_)
  intros
  exact PF.imp (opR_183 rfl j1.1 j1.2.1 j1.2.2) (fun v2 F2 j2 _ _ => e F2 j2)
theorem c_413 (hJ : J4 (tRo xl) F) (e : ∀ F2, J4 (tRo xl) F2 → PF (tRo xl) n 0 1253 [(3, .int x3), (2, .ref 129), (1, .ref 0), (0, .ref KB)] [] F2 (fun v _ => v = some (.int 1))) : PF (tRo xl) n 0 413 [(3, .int x3), (2, .ref 129), (1, .ref 0), (0, .ref KB)] [] F (fun v _ => v = some (.int 1)) := by
  refine (l_413 ?_).weak
  intros
  refine PF.imp (opR_69 rfl hJ.1 hJ.2.1 hJ.2.2) (fun v1 F1 j1 => ?_)
  intros
  exact PF.imp (opR_185 rfl j1.1 j1.2.1 j1.2.2) (fun v2 F2 j2 _ _ => e F2 j2)
theorem c_446 (hJ : J4 (tRo xl) F) (e : ∀ F2, J4 (tRo xl) F2 → PF (tRo xl) n 0 1253 [(3, .int x3), (2, .ref 129), (1, .ref 0), (0, .ref KB)] [] F2 (fun v _ => v = some (.int 1))) : PF (tRo xl) n 0 446 [(3, .int x3), (2, .ref 129), (1, .ref 0), (0, .ref KB)] [] F (fun v _ => v = some (.int 1)) := by
  refine (l_446 ?_).weak
  intros
  refine PF.imp (opR_75 rfl hJ.1 hJ.2.1 hJ.2.2) (fun v1 F1 j1 => ?_)
  intros
  exact PF.imp (opR_190 rfl j1.1 j1.2.1 j1.2.2) (fun v2 F2 j2 _ _ => e F2 j2)
theorem c_469 (hJ : J4 (tRo xl) F) (e : ∀ F2, J4 (tRo xl) F2 → PF (tRo xl) n 0 1253 [(3, .int x3), (2, .ref 129), (1, .ref 0), (0, .ref KB)] [] F2 (fun v _ => v = some (.int 1))) : PF (tRo xl) n 0 469 [(3, .int x3), (2, .ref 129), (1, .ref 0), (0, .ref KB)] [] F (fun v _ => v = some (.int 1)) := by
  refine (l_469 ?_).weak
  intros
  refine PF.imp (opR_81 rfl hJ.1 hJ.2.1 hJ.2.2) (fun v1 F1 j1 => ?_)
  intros
  exact PF.imp (opR_194 rfl j1.1 j1.2.1 j1.2.2) (fun v2 F2 j2 _ _ => e F2 j2)
theorem c_492 (hJ : J4 (tRo xl) F) (e : ∀ F2, J4 (tRo xl) F2 → PF (tRo xl) n 0 1253 [(3, .int x3), (2, .ref 129), (1, .ref 0), (0, .ref KB)] [] F2 (fun v _ => v = some (.int 1))) : PF (tRo xl) n 0 492 [(3, .int x3), (2, .ref 129), (1, .ref 0), (0, .ref KB)] [] F (fun v _ => v = some (.int 1)) := by
  refine (l_492 ?_).weak
  intros
  refine PF.imp (opR_82 rfl hJ.1 hJ.2.1 hJ.2.2) (fun v1 F1 j1 => ?_)
  intros
  exact PF.imp (opR_195 rfl j1.1 j1.2.1 j1.2.2) (fun v2 F2 j2 _ _ => e F2 j2)
theorem c_535 (hJ : J4 (tRo xl) F) (e : ∀ F2, J4 (tRo xl) F2 → PF (tRo xl) n 0 1253 [(3, .int x3), (2, .ref 129), (1, .ref 0), (0, .ref KB)] [] F2 (fun v _ => v = some (.int 1))) : PF (tRo xl) n 0 535 [(3, .int x3), (2, .ref 129), (1, .ref 0), (0, .ref KB)] [] F (fun v _ => v = some (.int 1)) := by
  refine (l_535 ?_).weak
  intros
  refine ⟨fun _ => ?_, fun _ => ?_⟩
  · refine PF.imp (opR_83 (Or.inl rfl) rfl hJ.1 hJ.2.1 hJ.2.2) (fun v1 F1 j1 => ?_)
    intros
    exact ⟨fun _ => PF.imp (opR_198 (Or.inl rfl) rfl j1.1 j1.2.1 j1.2.2) (fun v2 F2 j2 _ _ => e F2 j2), fun _ => PF.imp (opR_198 (Or.inr rfl) rfl j1.1 j1.2.1 j1.2.2) (fun v2 F2 j2 _ _ => e F2 j2)⟩
  · refine PF.imp (opR_83 (Or.inr rfl) rfl hJ.1 hJ.2.1 hJ.2.2) (fun v1 F1 j1 => ?_)
    intros
    exact ⟨fun _ => PF.imp (opR_198 (Or.inl rfl) rfl j1.1 j1.2.1 j1.2.2) (fun v2 F2 j2 _ _ => e F2 j2), fun _ => PF.imp (opR_198 (Or.inr rfl) rfl j1.1 j1.2.1 j1.2.2) (fun v2 F2 j2 _ _ => e F2 j2)⟩
theorem c_594 (hJ : J4 (tRo xl) F) (e : ∀ F2, J4 (tRo xl) F2 → PF (tRo xl) n 0 1253 [(3, .int x3), (2, .ref 129), (1, .ref 0), (0, .ref KB)] [] F2 (fun v _ => v = some (.int 1))) : PF (tRo xl) n 0 594 [(3, .int x3), (2, .ref 129), (1, .ref 0), (0, .ref KB)] [] F (fun v _ => v = some (.int 1)) := by
  refine (l_594 ?_).weak
  intros
  refine PF.imp (opR_84 rfl hJ.1 hJ.2.1 hJ.2.2) (fun v1 F1 j1 => ?_)
  intros
  exact PF.imp (opR_199 rfl j1.1 j1.2.1 j1.2.2) (fun v2 F2 j2 _ _ => e F2 j2)
theorem c_617 (hJ : J4 (tRo xl) F) (e : ∀ F2, J4 (tRo xl) F2 → PF (tRo xl) n 0 1253 [(3, .int x3), (2, .ref 129), (1, .ref 0), (0, .ref KB)] [] F2 (fun v _ => v = some (.int 1))) : PF (tRo xl) n 0 617 [(3, .int x3), (2, .ref 129), (1, .ref 0), (0, .ref KB)] [] F (fun v _ => v = some (.int 1)) := by
  refine (l_617 ?_).weak
  intros
  refine PF.imp (opR_85 rfl hJ.1 hJ.2.1 hJ.2.2) (fun v1 F1 j1 => ?_)
  intros
  exact PF.imp (opR_201 rfl j1.1 j1.2.1 j1.2.2) (fun v2 F2 j2 _ _ => e F2 j2)
theorem c_640 (hJ : J4 (tRo xl) F) (e : ∀ F2, J4 (tRo xl) F2 → PF (tRo xl) n 0 1253 [(3, .int x3), (2, .ref 129), (1, .ref 0), (0, .ref KB)] [] F2 (fun v _ => v = some (.int 1))) : PF (tRo xl) n 0 640 [(3, .int x3), (2, .ref 129), (1, .ref 0), (0, .ref KB)] [] F (fun v _ => v = some (.int 1)) := by
  refine (l_640 ?_).weak
  intros
  refine PF.imp (opR_86 rfl hJ.1 hJ.2.1 hJ.2.2) (fun v1 F1 j1 => ?_)
  intros
  exact PF.imp (opR_202 rfl j1.1 j1.2.1 j1.2.2) (fun v2 F2 j2 _ _ => e F2 j2)
theorem c_663 (hJ : J4 (tRo xl) F) (e : ∀ F2, J4 (tRo xl) F2 → PF (tRo xl) n 0 1253 [(3, .int x3), (2, .ref 129), (1, .ref 0), (0, .ref KB)] [] F2 (fun v _ => v = some (.int 1))) : PF (tRo xl) n 0 663 [(3, .int x3), (2, .ref 129), (1, .ref 0), (0, .ref KB)] [] F (fun v _ => v = some (.int 1)) := by
  refine (l_663 ?_).weak
  intros
  refine PF.imp (opR_93 rfl hJ.1 hJ.2.1 hJ.2.2) (fun v1 F1 j1 => ?_)
  intros
  exact PF.imp (opR_204 rfl j1.1 j1.2.1 j1.2.2) (fun v2 F2 j2 _ _ => e F2 j2)
theorem c_686 (hJ : J4 (tRo xl) F) (e : ∀ F2, J4 (tRo xl) F2 → PF (tRo xl) n 0 1253 [(3, .int x3), (2, .ref 129), (1, .ref 0), (0, .ref KB)] [] F2 (fun v _ => v = some (.int 1))) : PF (tRo xl) n 0 686 [(3, .int x3), (2, .ref 129), (1, .ref 0), (0, .ref KB)] [] F (fun v _ => v = some (.int 1)) := by
  refine (l_686 ?_).weak
  intros
  refine PF.imp (opR_94 rfl hJ.1 hJ.2.1 hJ.2.2) (fun v1 F1 j1 => ?_)
  intros
  exact PF.imp (opR_206 rfl j1.1 j1.2.1 j1.2.2) (fun v2 F2 j2 _ _ => e F2 j2)
theorem c_709 (hJ : J4 (tRo xl) F) (e : ∀ F2, J4 (tRo xl) F2 → PF (tRo xl) n 0 1253 [(3, .int x3), (2, .ref 129), (1, .ref 0), (0, .ref KB)] [] F2 (fun v _ => v = some (.int 1))) : PF (tRo xl) n 0 709 [(3, .int x3), (2, .ref 129), (1, .ref 0), (0, .ref KB)] [] F (fun v _ => v = some (.int 1)) := by
  refine (l_709 ?_).weak
  intros
  refine PF.imp (opR_95 rfl hJ.1 hJ.2.1 hJ.2.2) (fun v1 F1 j1 => ?_)
  intros
  exact PF.imp (opR_207 rfl j1.1 j1.2.1 j1.2.2) (fun v2 F2 j2 _ _ => e F2 j2)
theorem c_742 (hJ : J4 (tRo xl) F) (e : ∀ F2, J4 (tRo xl) F2 → PF (tRo xl) n 0 1253 [(3, .int x3), (2, .ref 129), (1, .ref 0), (0, .ref KB)] [] F2 (fun v _ => v = some (.int 1))) : PF (tRo xl) n 0 742 [(3, .int x3), (2, .ref 129), (1, .ref 0), (0, .ref KB)] [] F (fun v _ => v = some (.int 1)) := by
  refine (l_742 ?_).weak
  intros
  refine PF.imp (opR_107 rfl hJ.1 hJ.2.1 hJ.2.2) (fun v1 F1 j1 => ?_)
  intros
  exact PF.imp (opR_215 rfl j1.1 j1.2.1 j1.2.2) (fun v2 F2 j2 _ _ => e F2 j2)
theorem c_765 (hJ : J4 (tRo xl) F) (e : ∀ F2, J4 (tRo xl) F2 → PF (tRo xl) n 0 1253 [(3, .int x3), (2, .ref 129), (1, .ref 0), (0, .ref KB)] [] F2 (fun v _ => v = some (.int 1))) : PF (tRo xl) n 0 765 [(3, .int x3), (2, .ref 129), (1, .ref 0), (0, .ref KB)] [] F (fun v _ => v = some (.int 1)) := by
  refine (l_765 ?_).weak
  intros
  refine PF.imp (opR_109 rfl hJ.1 hJ.2.1 hJ.2.2) (fun v1 F1 j1 => ?_)
  intros
  exact PF.imp (opR_216 rfl j1.1 j1.2.1 j1.2.2) (fun v2 F2 j2 _ _ => e F2 j2)
theorem c_788 (hJ : J4 (tRo xl) F) (e : ∀ F2, J4 (tRo xl) F2 → PF (tRo xl) n 0 1253 [(3, .int x3), (2, .ref 129), (1, .ref 0), (0, .ref KB)] [] F2 (fun v _ => v = some (.int 1))) : PF (tRo xl) n 0 788 [(3, .int x3), (2, .ref 129), (1, .ref 0), (0, .ref KB)] [] F (fun v _ => v = some (.int 1)) := by
  refine (l_788 ?_).weak
  intros
  refine PF.imp (opR_111 rfl hJ.1 hJ.2.1 hJ.2.2) (fun v1 F1 j1 => ?_)
  intros
  exact PF.imp (opR_217 rfl j1.1 j1.2.1 j1.2.2) (fun v2 F2 j2 _ _ => e F2 j2)
theorem c_831 (hJ : J4 (tRo xl) F) (e : ∀ F2, J4 (tRo xl) F2 → PF (tRo xl) n 0 1253 [(3, .int x3), (2, .ref 129), (1, .ref 0), (0, .ref KB)] [] F2 (fun v _ => v = some (.int 1))) : PF (tRo xl) n 0 831 [(3, .int x3), (2, .ref 129), (1, .ref 0), (0, .ref KB)] [] F (fun v _ => v = some (.int 1)) := by
  refine (l_831 ?_).weak
  intros
  refine PF.imp (opR_113 rfl hJ.1 hJ.2.1 hJ.2.2) (fun v1 F1 j1 => ?_)
  intros
  exact PF.imp (opR_218 rfl j1.1 j1.2.1 j1.2.2) (fun v2 F2 j2 _ _ => e F2 j2)
theorem c_854 (hJ : J4 (tRo xl) F) (e : ∀ F2, J4 (tRo xl) F2 → PF (tRo xl) n 0 1253 [(3, .int x3), (2, .ref 129), (1, .ref 0), (0, .ref KB)] [] F2 (fun v _ => v = some (.int 1))) : PF (tRo xl) n 0 854 [(3, .int x3), (2, .ref 129), (1, .ref 0), (0, .ref KB)] [] F (fun v _ => v = some (.int 1)) := by
  refine (l_854 ?_).weak
  intros
  refine PF.imp (opR_114 rfl hJ.1 hJ.2.1 hJ.2.2) (fun v1 F1 j1 => ?_)
  intros
  exact PF.imp (opR_219 rfl j1.1 j1.2.1 j1.2.2) (fun v2 F2 j2 _ _ => e F2 j2)
theorem c_877 (hJ : J4 (tRo xl) F) (e : ∀ F2, J4 (tRo xl) F2 → PF (tRo xl) n 0 1253 [(3, .int x3), (2, .ref 129), (1, .ref 0), (0, .ref KB)] [] F2 (fun v _ => v = some (.int 1))) : PF (tRo xl) n 0 877 [(3, .int x3), (2, .ref 129), (1, .ref 0), (0, .ref KB)] [] F (fun v _ => v = some (.int 1)) := by
  refine (l_877 ?_).weak
  intros
  refine PF.imp (opR_117 rfl hJ.1 hJ.2.1 hJ.2.2) (fun v1 F1 j1 => ?_)
  intros
  exact PF.imp (opR_221 rfl j1.1 j1.2.1 j1.2.2) (fun v2 F2 j2 _ _ => e F2 j2)
theorem c_890 (hJ : J4 (tRo xl) F) (e : ∀ F2, J4 (tRo xl) F2 → PF (tRo xl) n 0 1253 [(3, .int x3), (2, .ref 129), (1, .ref 0), (0, .ref KB)] [] F2 (fun v _ => v = some (.int 1))) : PF (tRo xl) n 0 890 [(3, .int x3), (2, .ref 129), (1, .ref 0), (0, .ref KB)] [] F (fun v _ => v = some (.int 1)) := by
  refine (l_890 ?_).weak
  intros
  refine PF.imp (opR_118 rfl hJ.1 hJ.2.1 hJ.2.2) (fun v1 F1 j1 => ?_)
  intros
  exact PF.imp (opR_222 rfl j1.1 j1.2.1 j1.2.2) (fun v2 F2 j2 _ _ => e F2 j2)
theorem c_913 (hJ : J4 (tRo xl) F) (e : ∀ F2, J4 (tRo xl) F2 → PF (tRo xl) n 0 1253 [(3, .int x3), (2, .ref 129), (1, .ref 0), (0, .ref KB)] [] F2 (fun v _ => v = some (.int 1))) : PF (tRo xl) n 0 913 [(3, .int x3), (2, .ref 129), (1, .ref 0), (0, .ref KB)] [] F (fun v _ => v = some (.int 1)) := by
  refine (l_913 ?_).weak
  intros
  refine PF.imp (opR_121 rfl hJ.1 hJ.2.1 hJ.2.2) (fun v1 F1 j1 => ?_)
  intros
  exact PF.imp (opR_224 rfl j1.1 j1.2.1 j1.2.2) (fun v2 F2 j2 _ _ => e F2 j2)
theorem c_956 (hJ : J4 (tRo xl) F) (e : ∀ F2, J4 (tRo xl) F2 → PF (tRo xl) n 0 1253 [(3, .int x3), (2, .ref 129), (1, .ref 0), (0, .ref KB)] [] F2 (fun v _ => v = some (.int 1))) : PF (tRo xl) n 0 956 [(3, .int x3), (2, .ref 129), (1, .ref 0), (0, .ref KB)] [] F (fun v _ => v = some (.int 1)) := by
  refine (l_956 ?_).weak
  intros
  refine PF.imp (opR_127 rfl hJ.1 hJ.2.1 hJ.2.2) (fun v1 F1 j1 => ?_)
  intros
  exact PF.imp (opR_228 rfl j1.1 j1.2.1 j1.2.2) (fun v2 F2 j2 _ _ => e F2 j2)
theorem c_989 (hJ : J4 (tRo xl) F) (e : ∀ F2, J4 (tRo xl) F2 → PF (tRo xl) n 0 1253 [(3, .int x3), (2, .ref 129), (1, .ref 0), (0, .ref KB)] [] F2 (fun v _ => v = some (.int 1))) : PF (tRo xl) n 0 989 [(3, .int x3), (2, .ref 129), (1, .ref 0), (0, .ref KB)] [] F (fun v _ => v = some (.int 1)) := by
  refine (l_989 ?_).weak
  intros
  refine PF.imp (opR_128 rfl hJ.1 hJ.2.1 hJ.2.2) (fun v1 F1 j1 => ?_)
  intros
  exact PF.imp (opR_229 rfl j1.1 j1.2.1 j1.2.2) (fun v2 F2 j2 _ _ => e F2 j2)
theorem c_1032 (hJ : J4 (tRo xl) F) (e : ∀ F2, J4 (tRo xl) F2 → PF (tRo xl) n 0 1253 [(3, .int x3), (2, .ref 129), (1, .ref 0), (0, .ref KB)] [] F2 (fun v _ => v = some (.int 1))) : PF (tRo xl) n 0 1032 [(3, .int x3), (2, .ref 129), (1, .ref 0), (0, .ref KB)] [] F (fun v _ => v = some (.int 1)) := by
  refine (l_1032 ?_).weak
  intros
  refine PF.imp (opR_130 rfl hJ.1 hJ.2.1 hJ.2.2) (fun v1 F1 j1 => ?_)
  intros
  exact PF.imp (opR_230 rfl j1.1 j1.2.1 j1.2.2) (fun v2 F2 j2 _ _ => e F2 j2)
theorem c_1055 (hJ : J4 (tRo xl) F) (e : ∀ F2, J4 (tRo xl) F2 → PF (tRo xl) n 0 1253 [(3, .int x3), (2, .ref 129), (1, .ref 0), (0, .ref KB)] [] F2 (fun v _ => v = some (.int 1))) : PF (tRo xl) n 0 1055 [(3, .int x3), (2, .ref 129), (1, .ref 0), (0, .ref KB)] [] F (fun v _ => v = some (.int 1)) := by
  refine (l_1055 ?_).weak
  intros
  refine PF.imp (opR_131 rfl hJ.1 hJ.2.1 hJ.2.2) (fun v1 F1 j1 => ?_)
  intros
  exact PF.imp (opR_232 rfl j1.1 j1.2.1 j1.2.2) (fun v2 F2 j2 _ _ => e F2 j2)
theorem c_1078 (hJ : J4 (tRo xl) F) (e : ∀ F2, J4 (tRo xl) F2 → PF (tRo xl) n 0 1253 [(3, .int x3), (2, .ref 129), (1, .ref 0), (0, .ref KB)] [] F2 (fun v _ => v = some (.int 1))) : PF (tRo xl) n 0 1078 [(3, .int x3), (2, .ref 129), (1, .ref 0), (0, .ref KB)] [] F (fun v _ => v = some (.int 1)) := by
  refine (l_1078 ?_).weak
  intros
  refine PF.imp (opR_132 rfl hJ.1 hJ.2.1 hJ.2.2) (fun v1 F1 j1 => ?_)
  intros
  exact PF.imp (opR_233 rfl j1.1 j1.2.1 j1.2.2) (fun v2 F2 j2 _ _ => e F2 j2)
theorem c_1121 (hJ : J4 (tRo xl) F) (e : ∀ F2, J4 (tRo xl) F2 → PF (tRo xl) n 0 1253 [(3, .int x3), (2, .ref 129), (1, .ref 0), (0, .ref KB)] [] F2 (fun v _ => v = some (.int 1))) : PF (tRo xl) n 0 1121 [(3, .int x3), (2, .ref 129), (1, .ref 0), (0, .ref KB)] [] F (fun v _ => v = some (.int 1)) := by
  refine (l_1121 ?_).weak
  intros
  refine PF.imp (opR_136 rfl hJ.1 hJ.2.1 hJ.2.2) (fun v1 F1 j1 => ?_)
  intros
  exact PF.imp (opR_235 rfl j1.1 j1.2.1 j1.2.2) (fun v2 F2 j2 _ _ => e F2 j2)
theorem c_1164 (hJ : J4 (tRo xl) F) (e : ∀ F2, J4 (tRo xl) F2 → PF (tRo xl) n 0 1253 [(3, .int x3), (2, .ref 129), (1, .ref 0), (0, .ref KB)] [] F2 (fun v _ => v = some (.int 1))) : PF (tRo xl) n 0 1164 [(3, .int x3), (2, .ref 129), (1, .ref 0), (0, .ref KB)] [] F (fun v _ => v = some (.int 1)) := by
  refine (l_1164 ?_).weak
  intros
  refine PF.imp (opR_139 rfl hJ.1 hJ.2.1 hJ.2.2) (fun v1 F1 j1 => ?_)
  intros
  exact PF.imp (opR_236 rfl j1.1 j1.2.1 j1.2.2) (fun v2 F2 j2 _ _ => e F2 j2)
theorem c_1217 (hJ : J4 (tRo xl) F) (e : ∀ F2, J4 (tRo xl) F2 → PF (tRo xl) n 0 1253 [(3, .int x3), (2, .ref 129), (1, .ref 0), (0, .ref KB)] [] F2 (fun v _ => v = some (.int 1))) : PF (tRo xl) n 0 1217 [(3, .int x3), (2, .ref 129), (1, .ref 0), (0, .ref KB)] [] F (fun v _ => v = some (.int 1)) := by
  refine (l_1217 ?_).weak
  intros
  refine PF.imp (opR_142 rfl hJ.1 hJ.2.1 hJ.2.2) (fun v1 F1 j1 => ?_)
  intros
  exact PF.imp (opR_237 rfl j1.1 j1.2.1 j1.2.2) (fun v2 F2 j2 _ _ => e F2 j2)
theorem c_1230 (hJ : J4 (tRo xl) F) (e : ∀ F2, J4 (tRo xl) F2 → PF (tRo xl) n 0 1253 [(3, .int x3), (2, .ref 129), (1, .ref 0), (0, .ref KB)] [] F2 (fun v _ => v = some (.int 1))) : PF (tRo xl) n 0 1230 [(3, .int x3), (2, .ref 129), (1, .ref 0), (0, .ref KB)] [] F (fun v _ => v = some (.int 1)) := by
  refine (l_1230 ?_).weak
  intros
  refine PF.imp (opR_143 rfl hJ.1 hJ.2.1 hJ.2.2) (fun v1 F1 j1 => ?_)
  intros
  exact PF.imp (opR_238 rfl j1.1 j1.2.1 j1.2.2) (fun v2 F2 j2 _ _ => e F2 j2)
theorem law_PF : ∀ (n : Nat) (F : MH) (x3 : Int32), J4 (tRo xl) F → PF (tRo xl) n 0 18 [(3, .int x3), (2, .ref 129), (1, .ref 0), (0, .ref KB)] [] F (fun v _ => v = some (.int 1)) := by
  intro n
  induction n with
  | zero => intro F x3 _; exact PF.zero
  | succ n ih =>
    intro F x3 hJ
    have e : ∀ F2, J4 (tRo xl) F2 → PF (tRo xl) n 0 1253 [(3, .int x3), (2, .ref 129), (1, .ref 0), (0, .ref KB)] [] F2 (fun v _ => v = some (.int 1)) := fun F2 h2 => (l_1253 (ih F2 _ h2)).weak
    exact l_18 ⟨fun _ => rfl, fun _ _ _ => ⟨fun _ => c_196 hJ (fun F2 h2 => e F2 h2), fun _ => c_219 hJ (fun F2 h2 => e F2 h2), fun _ => c_242 hJ (fun F2 h2 => e F2 h2), fun _ => c_255 hJ (fun F2 h2 => e F2 h2), fun _ => c_268 hJ (fun F2 h2 => e F2 h2), fun _ => c_291 hJ (fun F2 h2 => e F2 h2), fun _ => c_324 hJ (fun F2 h2 => e F2 h2), fun _ => c_357 hJ (fun F2 h2 => e F2 h2), fun _ => c_380 hJ (fun F2 h2 => e F2 h2), fun _ => c_413 hJ (fun F2 h2 => e F2 h2), fun _ => c_446 hJ (fun F2 h2 => e F2 h2), fun _ => c_469 hJ (fun F2 h2 => e F2 h2), fun _ => c_492 hJ (fun F2 h2 => e F2 h2), fun _ => c_535 hJ (fun F2 h2 => e F2 h2), fun _ => c_594 hJ (fun F2 h2 => e F2 h2), fun _ => c_617 hJ (fun F2 h2 => e F2 h2), fun _ => c_640 hJ (fun F2 h2 => e F2 h2), fun _ => c_663 hJ (fun F2 h2 => e F2 h2), fun _ => c_686 hJ (fun F2 h2 => e F2 h2), fun _ => c_709 hJ (fun F2 h2 => e F2 h2), fun _ => c_742 hJ (fun F2 h2 => e F2 h2), fun _ => c_765 hJ (fun F2 h2 => e F2 h2), fun _ => c_788 hJ (fun F2 h2 => e F2 h2), fun _ => c_831 hJ (fun F2 h2 => e F2 h2), fun _ => c_854 hJ (fun F2 h2 => e F2 h2), fun _ => c_877 hJ (fun F2 h2 => e F2 h2), fun _ => c_890 hJ (fun F2 h2 => e F2 h2), fun _ => c_913 hJ (fun F2 h2 => e F2 h2), fun _ => c_956 hJ (fun F2 h2 => e F2 h2), fun _ => c_989 hJ (fun F2 h2 => e F2 h2), fun _ => c_1032 hJ (fun F2 h2 => e F2 h2), fun _ => c_1055 hJ (fun F2 h2 => e F2 h2), fun _ => c_1078 hJ (fun F2 h2 => e F2 h2), fun _ => c_1121 hJ (fun F2 h2 => e F2 h2), fun _ => c_1164 hJ (fun F2 h2 => e F2 h2), fun _ => c_1217 hJ (fun F2 h2 => e F2 h2), fun _ => c_1230 hJ (fun F2 h2 => e F2 h2), fun _ => e F hJ⟩⟩
end LawPF
