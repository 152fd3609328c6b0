/-! THE LAW'S RUN, III: its loop answers 1 -/
def J4 (ro : Nat → Option MC) (F : MH) : Prop := WT tGam tSets tRoles ro F ∧ F.map zc = sh0 ∧ R4 F
/-- fed, or not -/
def fC (x1 : Int32) (L : Nat) (ι ι' : IS) (p f q : Nat) : Prop := (0 ≤ x1.toInt ∧ x1.toInt ≤ 127 ∧ L < 160 ∧ (∀ a j, ¬ (a = p ∧ j = f) → ¬ (a = q ∧ j = L) → ι' a j = ι a j) ∧ (ι' p f).toInt = (L + 1 : Nat) ∧ ι' q L = x1) ∨ (¬ (0 ≤ x1.toInt ∧ x1.toInt ≤ 127 ∧ L < 160) ∧ ι' = ι)
/-- cut, or not -/
def eC (x1 : Int32) (L : Nat) (ι ι' : IS) (p f : Nat) : Prop := (0 ≤ x1.toInt ∧ x1.toInt ≤ L ∧ ι' = up ι p f x1) ∨ (¬ (0 ≤ x1.toInt ∧ x1.toInt ≤ L) ∧ ι' = ι)
section LawPF
variable {xl : List Int32} {n : Nat} {F : MH} {x1 x3 : Int32}
theorem R4_feed {ι0 ι1 : IS} {F2 : MH} {b : Nat → Int} {L : Nat} (hX : BX b L ι0) (hM : BM b L ι0) (h1 : fC x1 L ι0 ι1 22 1 23) (h2 : fC x1 L ι1 (iv F2) 129 13 135) : R4 F2 := by
  rcases h1 with ⟨a1, a2, a3, a4, a5, a6⟩ | ⟨a1, a2⟩
  · rcases h2 with ⟨-, -, -, c4, c5, c6⟩ | ⟨c1, -⟩
    · refine ⟨fun q => if q = L then x1.toInt else b q, L + 1, ⟨by omega, ?_, fun q => ?_⟩, ⟨by omega, c5, fun q => ?_, fun q => ?_⟩⟩
      · rw [c4 22 1 (by omega) (by omega)]; exact a5
      · rw [c4 23 q (by omega) (by omega)]
        show _ = if q = L then x1.toInt else b q
        split
        · rename_i e; rw [e, a6]
        · rw [a4 23 q (by omega) (by omega)]; exact hX.2.2 q
      · show _ = if q = L then x1.toInt else b q
        split
        · rename_i e; rw [e, c6]
        · rw [c4 135 q (by omega) (by omega), a4 135 q (by omega) (by omega)]; exact hM.2.2.1 q
      · show 0 ≤ if q = L then x1.toInt else b q
        split
        · exact a1
        · exact hM.2.2.2 q
    · exact absurd ⟨a1, a2, a3⟩ c1
  · rcases h2 with ⟨c1, c2, c3, -⟩ | ⟨-, c2⟩
    · exact absurd ⟨c1, c2, c3⟩ a1
    · have e : iv F2 = ι0 := c2.trans a2
      exact ⟨b, L, by rw [e]; exact hX, by rw [e]; exact hM⟩
theorem R4_end {ι0 ι1 : IS} {F2 : MH} {b : Nat → Int} {L : Nat} (hX : BX b L ι0) (hM : BM b L ι0) (h1 : eC x1 L ι0 ι1 22 1) (h2 : eC x1 L ι1 (iv F2) 129 13) : R4 F2 := by
  rcases h1 with ⟨a1, a2, a3⟩ | ⟨a1, a3⟩
  · rcases h2 with ⟨-, -, c3⟩ | ⟨c1, -⟩
    · have hn : ((x1.toInt.toNat : Nat) : Int) = x1.toInt := Int.toNat_of_nonneg a1
      have hl := hX.1
      refine ⟨b, x1.toInt.toNat, ⟨by omega, ?_, fun q => ?_⟩, ⟨by omega, ?_, fun q => ?_, hM.2.2.2⟩⟩
      · rw [c3, up_ne (by omega), a3, up_same, hn]
      · rw [c3, up_ne (by omega), a3, up_ne (by omega)]; exact hX.2.2 q
      · rw [c3, up_same, hn]
      · rw [c3, up_ne (by omega), a3, up_ne (by omega)]; exact hM.2.2.1 q
    · exact absurd ⟨a1, a2⟩ c1
  · rcases h2 with ⟨c1, c2, -⟩ | ⟨-, c2⟩
    · exact absurd ⟨c1, c2⟩ a1
    · have e : iv F2 = ι0 := c2.trans a3
      exact ⟨b, L, by rw [e]; exact hX, by rw [e]; exact hM⟩
/-- half way: the class is fed, the model is not yet -/
def K1 (C : IS → IS → Nat → Prop) (ro : Nat → Option MC) (F : MH) : Prop := WT tGam tSets tRoles ro F ∧ F.map zc = sh0 ∧ ∃ b L ι0, BX b L ι0 ∧ BM b L ι0 ∧ C ι0 (iv F) L
theorem feed1 (hJ : J4 (tRo xl) F) : PF (tRo xl) n 10 0 [(0, .ref 0), (1, .int x1)] [] F (fun _ F1 => K1 (fun ι0 ι1 L => fC x1 L ι0 ι1 22 1 23) (tRo xl) F1) := by
  obtain ⟨hW, hs, b, L, hX, hM⟩ := hJ
  have A : PC xl n 10 0 [(0, .ref 0), (1, .int x1)] [] (iv F) (fun _ ι' => fC x1 L (iv F) ι' 22 1 23) := feedX hX.2.1 (fun h1 h2 h3 ι' h4 h5 h6 _ => Or.inl ⟨h1, h2, h3, h4, h5, h6⟩) (fun h1 _ => Or.inr ⟨h1, rfl⟩)
  exact (((A F hs rfl).and (op_10 rfl hW)).and (PF.sh rfl hs)).imp (fun v F1 q => ⟨q.1.2.1, q.2, b, L, iv F, hX, hM, q.1.1⟩)
theorem feed2 (hK : K1 (fun ι0 ι1 L => fC x1 L ι0 ι1 22 1 23) (tRo xl) F) : PF (tRo xl) n 147 0 [(0, .ref 129), (1, .int x1)] [] F (fun _ F1 => J4 (tRo xl) F1) := by
  obtain ⟨hW, hs, b, L, ι0, hX, hM, hC⟩ := hK
  have hl : (iv F 129 13).toInt = L := by
    rcases hC with ⟨-, -, -, a4, -, -⟩ | ⟨-, a2⟩
    · rw [a4 129 13 (by omega) (by omega)]; exact hM.2.1
    · rw [a2]; exact hM.2.1
  have A : PC xl n 147 0 [(0, .ref 129), (1, .int x1)] [] (iv F) (fun _ ι' => fC x1 L (iv F) ι' 129 13 135) := feedM hl hM.1 (fun h1 h2 h3 ι' h4 h5 h6 _ => Or.inl ⟨h1, h2, h3, h4, h5, h6⟩) (fun h1 _ => Or.inr ⟨h1, rfl⟩)
  exact (((A F hs rfl).and (op_147 rfl hW)).and (PF.sh rfl hs)).imp (fun v F1 q => ⟨q.1.2.1, q.2, R4_feed hX hM hC q.1.1⟩)
theorem end1 (hJ : J4 (tRo xl) F) : PF (tRo xl) n 12 0 [(0, .ref 0), (1, .int x1)] [] F (fun _ F1 => K1 (fun ι0 ι1 L => eC x1 L ι0 ι1 22 1) (tRo xl) F1) := by
  obtain ⟨hW, hs, b, L, hX, hM⟩ := hJ
  have A : PC xl n 12 0 [(0, .ref 0), (1, .int x1)] [] (iv F) (fun _ ι' => eC x1 L (iv F) ι' 22 1) := endXs hX.2.1 (fun h1 h2 _ => Or.inl ⟨h1, h2, rfl⟩) (fun h1 _ => Or.inr ⟨h1, rfl⟩)
  exact (((A F hs rfl).and (op_12 rfl hW)).and (PF.sh rfl hs)).imp (fun v F1 q => ⟨q.1.2.1, q.2, b, L, iv F, hX, hM, q.1.1⟩)
theorem end2 (hK : K1 (fun ι0 ι1 L => eC x1 L ι0 ι1 22 1) (tRo xl) F) : PF (tRo xl) n 149 0 [(0, .ref 129), (1, .int x1)] [] F (fun _ F1 => J4 (tRo xl) F1) := by
  obtain ⟨hW, hs, b, L, ι0, hX, hM, hC⟩ := hK
  have hl : (iv F 129 13).toInt = L := by
    rcases hC with ⟨-, -, a4⟩ | ⟨-, a2⟩
    · rw [a4, up_ne (by omega)]; exact hM.2.1
    · rw [a2]; exact hM.2.1
  have A : PC xl n 149 0 [(0, .ref 129), (1, .int x1)] [] (iv F) (fun _ ι' => eC x1 L (iv F) ι' 129 13) := endMs hl (fun h1 h2 _ => Or.inl ⟨h1, h2, rfl⟩) (fun h1 _ => Or.inr ⟨h1, rfl⟩)
  exact (((A F hs rfl).and (op_149 rfl hW)).and (PF.sh rfl hs)).imp (fun v F1 q => ⟨q.1.2.1, q.2, R4_end hX hM hC q.1.1⟩)
theorem text1 (hJ : J4 (tRo xl) F) : PF (tRo xl) n 13 0 [(0, .ref 0)] [] F (fun v1 F1 => PF (tRo xl) n 150 0 [(0, .ref 129)] [] F1 (fun v2 F2 => v1 = v2 ∧ J4 (tRo xl) F2)) := by
  obtain ⟨hW, hs, b, L, hX, hM⟩ := hJ
  intro d z hx
  have o1 := op_13 (n := n) rfl hW d z hx
  have s1 : z.2.map zc = sh0 := ex_sh _ _ _ _ _ _ _ _ (show sP 13 = true from rfl) hs hx
  have k1 : ∀ q, iv z.2 135 q = iv F 135 q := fun q => fr_iv o1.2 (r := 30) rfl rfl (by decide) hs s1
  have k2 : iv z.2 129 13 = iv F 129 13 := fr_iv o1.2 (r := 24) rfl rfl (by decide) hs s1
  have k3 : ∀ q, iv z.2 23 q = iv F 23 q := fun q => fr_iv o1.2 (r := 14) rfl rfl (by decide) hs s1
  have hM1 : BM b L (iv z.2) := ⟨hM.1, by rw [k2]; exact hM.2.1, fun q => by rw [k1]; exact hM.2.2.1 q, hM.2.2.2⟩
  have T := txt2 (xl := xl) (n := n) (n2 := n) hX hM1 F hs rfl d z hx z.2 s1 rfl
  refine ((T.and (op_150 (n := n) rfl o1.1)).and (PF.sh (n := n) rfl s1)).imp (fun v2 F2 hh => ?_)
  obtain ⟨⟨⟨t1, t2, t3⟩, w2, f2⟩, s2⟩ := hh
  refine ⟨t1, w2, s2, b, 0, ⟨by omega, ?_, fun q => ?_⟩, ⟨by omega, ?_, fun q => ?_, hM.2.2.2⟩⟩
  · rw [fr_iv f2 (r := 13) (a := 22) (j := 1) rfl rfl (by decide) s1 s2, t2]; rfl
  · rw [fr_iv f2 (r := 14) (a := 23) (j := q) rfl rfl (by decide) s1 s2, k3]; exact hX.2.2 q
  · rw [t3]; rfl
  · rw [fr_iv f2 (r := 30) (a := 135) (j := q) rfl rfl (by decide) s1 s2, k1]; exact hM.2.2.1 q
end LawPF
/-! THE LAW'S RUN, IV: with the images that are kept -/
def fl (F : MH) : Prop := ∀ q, q < 2 → iv F 85 q = iv F 132 q
def J5 (ro : Nat → Option MC) (F : MH) : Prop := J4 ro F ∧ fl F
section LawPF5
variable {xl : List Int32} {n : Nat} {F F1 F2 : MH} {x1 x3 : Int32} {ro : Nat → Option MC}
theorem fl_fr {ms : Mods} (h : FRm tGam ro ms F F1) (h1 : ∀ j, inM ms 16 j = false) (h2 : ∀ j, inM ms 27 j = false) (hs : F.map zc = sh0) (hs1 : F1.map zc = sh0) (hf : fl F) : fl F1 := fun q hq => by
  rw [fr_iv (a := 85) h (r := 16) rfl (h1 q) (by decide) hs hs1, fr_iv (a := 132) h (r := 27) rfl (h2 q) (by decide) hs hs1]
  exact hf q hq
theorem keep_fl {v1 v2 : Option Value} (h1 : kC x1 (iv F) (iv F1) v1 85) (h2 : kC x1 (iv F1) (iv F2) v2 132) (g1 : ∀ q, iv F1 132 q = iv F 132 q) (g2 : ∀ q, iv F2 85 q = iv F1 85 q) (hf : fl F) : v1 = v2 ∧ fl F2 := by
  rcases h1 with ⟨k, a1, a2, a3, a4⟩ | ⟨a1, a2, a3⟩
  · rcases h2 with ⟨k2, c1, c2, c3, c4⟩ | ⟨c1, -, -⟩
    · have ek : k2 = k := by omega
      subst ek
      refine ⟨by rw [a3, c3, g1, hf _ a2], fun q hq => ?_⟩
      rw [g2, a4, c4, g1, hf q hq]
    · exact absurd ⟨by omega, by omega⟩ c1
  · rcases h2 with ⟨k2, c1, c2, -, -⟩ | ⟨c1, c2, c3⟩
    · exact absurd ⟨by omega, by omega⟩ a1
    · refine ⟨by rw [a2, c2], fun q hq => ?_⟩
      rw [g2, a3, c3, g1]; exact hf q hq
theorem text5 (hJ : J5 (tRo xl) F) : PF (tRo xl) n 13 0 [(0, .ref 0)] [] F (fun v1 F1 => PF (tRo xl) n 150 0 [(0, .ref 129)] [] F1 (fun v2 F2 => v1 = v2 ∧ J5 (tRo xl) F2)) := by
  obtain ⟨⟨hW, hs, b, L, hX, hM⟩, hf⟩ := hJ
  intro d z hx
  have o1 := op_13 (n := n) rfl hW d z hx
  have s1 : z.2.map zc = sh0 := ex_sh _ _ _ _ _ _ _ _ (show sP 13 = true from rfl) hs hx
  have k1 : ∀ q, iv z.2 135 q = iv F 135 q := fun q => fr_iv o1.2 (r := 30) rfl rfl (by decide) hs s1
  have k2 : iv z.2 129 13 = iv F 129 13 := fr_iv o1.2 (r := 24) rfl rfl (by decide) hs s1
  have k3 : ∀ q, iv z.2 23 q = iv F 23 q := fun q => fr_iv o1.2 (r := 14) rfl rfl (by decide) hs s1
  have k4 : ∀ q, iv z.2 132 q = iv F 132 q := fun q => fr_iv o1.2 (r := 27) rfl rfl (by decide) hs s1
  have hM1 : BM b L (iv z.2) := ⟨hM.1, by rw [k2]; exact hM.2.1, fun q => by rw [k1]; exact hM.2.2.1 q, hM.2.2.2⟩
  have T := txt3 (xl := xl) (n := n) (n2 := n) hX hM1 F hs rfl d z hx z.2 s1 rfl
  refine ((T.and (op_150 (n := n) rfl o1.1)).and (PF.sh (n := n) rfl s1)).imp (fun v2 F2 hh => ?_)
  obtain ⟨⟨⟨t1, t2, t3, t4⟩, w2, f2⟩, s2⟩ := hh
  refine ⟨t1, ⟨w2, s2, b, 0, ⟨by omega, ?_, fun q => ?_⟩, ⟨by omega, ?_, fun q => ?_, hM.2.2.2⟩⟩, fun q hq => ?_⟩
  · rw [fr_iv f2 (r := 13) (a := 22) (j := 1) rfl rfl (by decide) s1 s2, t2]; rfl
  · rw [fr_iv f2 (r := 14) (a := 23) (j := q) rfl rfl (by decide) s1 s2, k3]; exact hX.2.2 q
  · rw [t3]; rfl
  · rw [fr_iv f2 (r := 30) (a := 135) (j := q) rfl rfl (by decide) s1 s2, k1]; exact hM.2.2.1 q
  · rw [fr_iv f2 (r := 16) (a := 85) (j := q) rfl rfl (by decide) s1 s2]
    rcases t4 with t4 | t4
    · rw [(t4 q hq).1, (t4 q hq).2]
    · rw [t4.1, t4.2, k4]; exact hf q hq
theorem c5_196 (hJ : J5 (tRo xl) F) (e : ∀ F2, J5 (tRo xl) F2 → PF (tRo xl) n 0 1253 [(3, .int x3), (2, .ref 129), (1, .ref 0), (0, .ref KB)] [] F2 (fun v _ => v = some (.int 1))) : PF (tRo xl) n 0 196 [(3, .int x3), (2, .ref 129), (1, .ref 0), (0, .ref KB)] [] F (fun v _ => v = some (.int 1)) := by
  refine (l_196 ?_).weak
  intros
  refine PF.imp (PF.and (feed1 hJ.1) (op_10 rfl hJ.1.1)) (fun v1 F1 j1 => ?_)
  have f1 := fl_fr j1.2.2 (fun _ => rfl) (fun _ => rfl) hJ.1.2.1 j1.1.2.1 hJ.2
  intros
  exact PF.imp (PF.and (feed2 j1.1) (op_147 rfl j1.1.1)) (fun v2 F2 j2 _ _ => e F2 ⟨j2.1, fl_fr j2.2.2 (fun _ => rfl) (fun _ => rfl) j1.1.2.1 j2.1.2.1 f1⟩)
theorem c5_219 (hJ : J5 (tRo xl) F) (e : ∀ F2, J5 (tRo xl) F2 → PF (tRo xl) n 0 1253 [(3, .int x3), (2, .ref 129), (1, .ref 0), (0, .ref KB)] [] F2 (fun v _ => v = some (.int 1))) : PF (tRo xl) n 0 219 [(3, .int x3), (2, .ref 129), (1, .ref 0), (0, .ref KB)] [] F (fun v _ => v = some (.int 1)) := by
  refine (l_219 ?_).weak
  intros
  refine PF.imp (PF.and (end1 hJ.1) (op_12 rfl hJ.1.1)) (fun v1 F1 j1 => ?_)
  have f1 := fl_fr j1.2.2 (fun _ => rfl) (fun _ => rfl) hJ.1.2.1 j1.1.2.1 hJ.2
  intros
  exact PF.imp (PF.and (end2 j1.1) (op_149 rfl j1.1.1)) (fun v2 F2 j2 _ _ => e F2 ⟨j2.1, fl_fr j2.2.2 (fun _ => rfl) (fun _ => rfl) j1.1.2.1 j2.1.2.1 f1⟩)
theorem c5_242 (hJ : J5 (tRo xl) F) (e : ∀ F2, J5 (tRo xl) F2 → PF (tRo xl) n 0 1253 [(3, .int x3), (2, .ref 129), (1, .ref 0), (0, .ref KB)] [] F2 (fun v _ => v = some (.int 1))) : PF (tRo xl) n 0 242 [(3, .int x3), (2, .ref 129), (1, .ref 0), (0, .ref KB)] [] F (fun v _ => v = some (.int 1)) := by
  refine (l_242 ?_).weak
  intros
  refine PF.imp (text5 hJ) (fun v1 F1 j1 => ?_)
  intros
  exact PF.imp j1 (fun v2 F2 j2 _ _ => e F2 j2.2)
theorem c5_255 (hJ : J5 (tRo xl) F) (e : ∀ F2, J5 (tRo xl) F2 → PF (tRo xl) n 0 1253 [(3, .int x3), (2, .ref 129), (1, .ref 0), (0, .ref KB)] [] F2 (fun v _ => v = some (.int 1))) : PF (tRo xl) n 0 255 [(3, .int x3), (2, .ref 129), (1, .ref 0), (0, .ref KB)] [] F (fun v _ => v = some (.int 1)) := by
  refine (l_255 ?_).weak
  intros
  refine PF.imp (PF.and (opR_55 rfl hJ.1.1 hJ.1.2.1 hJ.1.2.2) (op_55 rfl hJ.1.1)) (fun v1 F1 j1 => ?_)
  have f1 := fl_fr j1.2.2 (fun _ => rfl) (fun _ => rfl) hJ.1.2.1 j1.1.2.1 hJ.2
  intros
  exact PF.imp (PF.and (opR_166 rfl j1.1.1 j1.1.2.1 j1.1.2.2) (op_166 rfl j1.1.1)) (fun v2 F2 j2 _ _ => e F2 ⟨j2.1, fl_fr j2.2.2 (fun _ => rfl) (fun _ => rfl) j1.1.2.1 j2.1.2.1 f1⟩)
theorem c5_268 (hJ : J5 (tRo xl) F) (e : ∀ F2, J5 (tRo xl) F2 → PF (tRo xl) n 0 1253 [(3, .int x3), (2, .ref 129), (1, .ref 0), (0, .ref KB)] [] F2 (fun v _ => v = some (.int 1))) : PF (tRo xl) n 0 268 [(3, .int x3), (2, .ref 129), (1, .ref 0), (0, .ref KB)] [] F (fun v _ => v = some (.int 1)) := by
  refine (l_268 ?_).weak
  intros
  refine PF.imp (PF.and (opR_56 rfl hJ.1.1 hJ.1.2.1 hJ.1.2.2) (op_56 rfl hJ.1.1)) (fun v1 F1 j1 => ?_)
  have f1 := fl_fr j1.2.2 (fun _ => rfl) (fun _ => rfl) hJ.1.2.1 j1.1.2.1 hJ.2
  intros
  exact PF.imp (PF.and (opR_167 rfl j1.1.1 j1.1.2.1 j1.1.2.2) (op_167 rfl j1.1.1)) (fun v2 F2 j2 _ _ => e F2 ⟨j2.1, fl_fr j2.2.2 (fun _ => rfl) (fun _ => rfl) j1.1.2.1 j2.1.2.1 f1⟩)
theorem c5_291 (hJ : J5 (tRo xl) F) (e : ∀ F2, J5 (tRo xl) F2 → PF (tRo xl) n 0 1253 [(3, .int x3), (2, .ref 129), (1, .ref 0), (0, .ref KB)] [] F2 (fun v _ => v = some (.int 1))) : PF (tRo xl) n 0 291 [(3, .int x3), (2, .ref 129), (1, .ref 0), (0, .ref KB)] [] F (fun v _ => v = some (.int 1)) := by
  refine (l_291 ?_).weak
  intros
  refine PF.imp (PF.and (opR_62 rfl hJ.1.1 hJ.1.2.1 hJ.1.2.2) (op_62 rfl hJ.1.1)) (fun v1 F1 j1 => ?_)
  have f1 := fl_fr j1.2.2 (fun _ => rfl) (fun _ => rfl) hJ.1.2.1 j1.1.2.1 hJ.2
  intros
  exact PF.imp (PF.and (opR_176 rfl j1.1.1 j1.1.2.1 j1.1.2.2) (op_176 rfl j1.1.1)) (fun v2 F2 j2 _ _ => e F2 ⟨j2.1, fl_fr j2.2.2 (fun _ => rfl) (fun _ => rfl) j1.1.2.1 j2.1.2.1 f1⟩)
theorem c5_324 (hJ : J5 (tRo xl) F) (e : ∀ F2, J5 (tRo xl) F2 → PF (tRo xl) n 0 1253 [(3, .int x3), (2, .ref 129), (1, .ref 0), (0, .ref KB)] [] F2 (fun v _ => v = some (.int 1))) : PF (tRo xl) n 0 324 [(3, .int x3), (2, .ref 129), (1, .ref 0), (0, .ref KB)] [] F (fun v _ => v = some (.int 1)) := by
  refine (l_324 ?_).weak
  intros
  refine PF.imp (PF.and (opR_64 rfl hJ.1.1 hJ.1.2.1 hJ.1.2.2) (op_64 rfl hJ.1.1)) (fun v1 F1 j1 => ?_)
  have f1 := fl_fr j1.2.2 (fun _ => rfl) (fun _ => rfl) hJ.1.2.1 j1.1.2.1 hJ.2
  intros
  exact PF.imp (PF.and (opR_180 rfl j1.1.1 j1.1.2.1 j1.1.2.2) (op_180 rfl j1.1.1)) (fun v2 F2 j2 _ _ => e F2 ⟨j2.1, fl_fr j2.2.2 (fun _ => rfl) (fun _ => rfl) j1.1.2.1 j2.1.2.1 f1⟩)
theorem c5_357 (hJ : J5 (tRo xl) F) (e : ∀ F2, J5 (tRo xl) F2 → PF (tRo xl) n 0 1253 [(3, .int x3), (2, .ref 129), (1, .ref 0), (0, .ref KB)] [] F2 (fun v _ => v = some (.int 1))) : PF (tRo xl) n 0 357 [(3, .int x3), (2, .ref 129), (1, .ref 0), (0, .ref KB)] [] F (fun v _ => v = some (.int 1)) := by
  refine (l_357 ?_).weak
  intros
  refine PF.imp (PF.and (opR_66 rfl hJ.1.1 hJ.1.2.1 hJ.1.2.2) (op_66 rfl hJ.1.1)) (fun v1 F1 j1 => ?_)
  have f1 := fl_fr j1.2.2 (fun _ => rfl) (fun _ => rfl) hJ.1.2.1 j1.1.2.1 hJ.2
  intros
  exact PF.imp (PF.and (opR_182 rfl j1.1.1 j1.1.2.1 j1.1.2.2) (op_182 rfl j1.1.1)) (fun v2 F2 j2 _ _ => e F2 ⟨j2.1, fl_fr j2.2.2 (fun _ => rfl) (fun _ => rfl) j1.1.2.1 j2.1.2.1 f1⟩)
theorem c5_380 (hJ : J5 (tRo xl) F) (e : ∀ F2, J5 (tRo xl) F2 → PF (tRo xl) n 0 1253 [(3, .int x3), (2, .ref 129), (1, .ref 0), (0, .ref KB)] [] F2 (fun v _ => v = some (.int 1))) : PF (tRo xl) n 0 380 [(3, .int x3), (2, .ref 129), (1, .ref 0), (0, .ref KB)] [] F (fun v _ => v = some (.int 1)) := by
  refine (l_380 ?_).weak
  intros
  refine PF.imp (PF.and (opR_67 rfl hJ.1.1 hJ.1.2.1 hJ.1.2.2) (op_67 rfl hJ.1.1)) (fun v1 F1 j1 => ?_)
  have f1 := fl_fr j1.2.2 (fun _ => rfl) (fun _ => rfl) hJ.1.2.1 j1.1.2.1 hJ.2
  intros
  exact PF.imp (PF.and (opR_183 rfl j1.1.1 j1.1.2.1 j1.1.2.2) (op_183 rfl j1.1.1)) (fun v2 F2 j2 _ _ => e F2 ⟨j2.1, fl_fr j2.2.2 (fun _ => rfl) (fun _ => rfl) j1.1.2.1 j2.1.2.1 f1⟩)
theorem c5_413 (hJ : J5 (tRo xl) F) (e : ∀ F2, J5 (tRo xl) F2 → PF (tRo xl) n 0 1253 [(3, .int x3), (2, .ref 129), (1, .ref 0), (0, .ref KB)] [] F2 (fun v _ => v = some (.int 1))) : PF (tRo xl) n 0 413 [(3, .int x3), (2, .ref 129), (1, .ref 0), (0, .ref KB)] [] F (fun v _ => v = some (.int 1)) := by
  refine (l_413 ?_).weak
  intros
  refine PF.imp (PF.and (opR_69 rfl hJ.1.1 hJ.1.2.1 hJ.1.2.2) (op_69 rfl hJ.1.1)) (fun v1 F1 j1 => ?_)
  have f1 := fl_fr j1.2.2 (fun _ => rfl) (fun _ => rfl) hJ.1.2.1 j1.1.2.1 hJ.2
  intros
  exact PF.imp (PF.and (opR_185 rfl j1.1.1 j1.1.2.1 j1.1.2.2) (op_185 rfl j1.1.1)) (fun v2 F2 j2 _ _ => e F2 ⟨j2.1, fl_fr j2.2.2 (fun _ => rfl) (fun _ => rfl) j1.1.2.1 j2.1.2.1 f1⟩)
theorem c5_446 (hJ : J5 (tRo xl) F) (e : ∀ F2, J5 (tRo xl) F2 → PF (tRo xl) n 0 1253 [(3, .int x3), (2, .ref 129), (1, .ref 0), (0, .ref KB)] [] F2 (fun v _ => v = some (.int 1))) : PF (tRo xl) n 0 446 [(3, .int x3), (2, .ref 129), (1, .ref 0), (0, .ref KB)] [] F (fun v _ => v = some (.int 1)) := by
  refine (l_446 ?_).weak
  intros
  refine PF.imp (PF.and (opR_75 rfl hJ.1.1 hJ.1.2.1 hJ.1.2.2) (op_75 rfl hJ.1.1)) (fun v1 F1 j1 => ?_)
  have f1 := fl_fr j1.2.2 (fun _ => rfl) (fun _ => rfl) hJ.1.2.1 j1.1.2.1 hJ.2
  intros
  exact PF.imp (PF.and (opR_190 rfl j1.1.1 j1.1.2.1 j1.1.2.2) (op_190 rfl j1.1.1)) (fun v2 F2 j2 _ _ => e F2 ⟨j2.1, fl_fr j2.2.2 (fun _ => rfl) (fun _ => rfl) j1.1.2.1 j2.1.2.1 f1⟩)
theorem c5_469 (hJ : J5 (tRo xl) F) (e : ∀ F2, J5 (tRo xl) F2 → PF (tRo xl) n 0 1253 [(3, .int x3), (2, .ref 129), (1, .ref 0), (0, .ref KB)] [] F2 (fun v _ => v = some (.int 1))) : PF (tRo xl) n 0 469 [(3, .int x3), (2, .ref 129), (1, .ref 0), (0, .ref KB)] [] F (fun v _ => v = some (.int 1)) := by
  refine (l_469 ?_).weak
  intros
  refine PF.imp (PF.and (opR_81 rfl hJ.1.1 hJ.1.2.1 hJ.1.2.2) (op_81 rfl hJ.1.1)) (fun v1 F1 j1 => ?_)
  have f1 := fl_fr j1.2.2 (fun _ => rfl) (fun _ => rfl) hJ.1.2.1 j1.1.2.1 hJ.2
  intros
  exact PF.imp (PF.and (opR_194 rfl j1.1.1 j1.1.2.1 j1.1.2.2) (op_194 rfl j1.1.1)) (fun v2 F2 j2 _ _ => e F2 ⟨j2.1, fl_fr j2.2.2 (fun _ => rfl) (fun _ => rfl) j1.1.2.1 j2.1.2.1 f1⟩)
theorem c5_492 (hJ : J5 (tRo xl) F) (e : ∀ F2, J5 (tRo xl) F2 → PF (tRo xl) n 0 1253 [(3, .int x3), (2, .ref 129), (1, .ref 0), (0, .ref KB)] [] F2 (fun v _ => v = some (.int 1))) : PF (tRo xl) n 0 492 [(3, .int x3), (2, .ref 129), (1, .ref 0), (0, .ref KB)] [] F (fun v _ => v = some (.int 1)) := by
  refine (l_492 ?_).weak
  intros
  refine PF.imp (PF.and (opR_82 rfl hJ.1.1 hJ.1.2.1 hJ.1.2.2) (op_82 rfl hJ.1.1)) (fun v1 F1 j1 => ?_)
  have f1 := fl_fr j1.2.2 (fun _ => rfl) (fun _ => rfl) hJ.1.2.1 j1.1.2.1 hJ.2
  intros
  exact PF.imp (PF.and (opR_195 rfl j1.1.1 j1.1.2.1 j1.1.2.2) (op_195 rfl j1.1.1)) (fun v2 F2 j2 _ _ => e F2 ⟨j2.1, fl_fr j2.2.2 (fun _ => rfl) (fun _ => rfl) j1.1.2.1 j2.1.2.1 f1⟩)
theorem c5_535 (hJ : J5 (tRo xl) F) (e : ∀ F2, J5 (tRo xl) F2 → PF (tRo xl) n 0 1253 [(3, .int x3), (2, .ref 129), (1, .ref 0), (0, .ref KB)] [] F2 (fun v _ => v = some (.int 1))) : PF (tRo xl) n 0 535 [(3, .int x3), (2, .ref 129), (1, .ref 0), (0, .ref KB)] [] F (fun v _ => v = some (.int 1)) := by
  refine (l_535 ?_).weak
  intros
  refine ⟨fun _ => ?_, fun _ => ?_⟩
  · refine PF.imp (PF.and (opR_83 (Or.inl rfl) rfl hJ.1.1 hJ.1.2.1 hJ.1.2.2) (op_83 (Or.inl rfl) rfl hJ.1.1)) (fun v1 F1 j1 => ?_)
    have f1 := fl_fr j1.2.2 (fun _ => rfl) (fun _ => rfl) hJ.1.2.1 j1.1.2.1 hJ.2
    intros
    exact ⟨fun _ => PF.imp (PF.and (opR_198 (Or.inl rfl) rfl j1.1.1 j1.1.2.1 j1.1.2.2) (op_198 (Or.inl rfl) rfl j1.1.1)) (fun v2 F2 j2 _ _ => e F2 ⟨j2.1, fl_fr j2.2.2 (fun _ => rfl) (fun _ => rfl) j1.1.2.1 j2.1.2.1 f1⟩), fun _ => PF.imp (PF.and (opR_198 (Or.inr rfl) rfl j1.1.1 j1.1.2.1 j1.1.2.2) (op_198 (Or.inr rfl) rfl j1.1.1)) (fun v2 F2 j2 _ _ => e F2 ⟨j2.1, fl_fr j2.2.2 (fun _ => rfl) (fun _ => rfl) j1.1.2.1 j2.1.2.1 f1⟩)⟩
  · refine PF.imp (PF.and (opR_83 (Or.inr rfl) rfl hJ.1.1 hJ.1.2.1 hJ.1.2.2) (op_83 (Or.inr rfl) rfl hJ.1.1)) (fun v1 F1 j1 => ?_)
    have f1 := fl_fr j1.2.2 (fun _ => rfl) (fun _ => rfl) hJ.1.2.1 j1.1.2.1 hJ.2
    intros
    exact ⟨fun _ => PF.imp (PF.and (opR_198 (Or.inl rfl) rfl j1.1.1 j1.1.2.1 j1.1.2.2) (op_198 (Or.inl rfl) rfl j1.1.1)) (fun v2 F2 j2 _ _ => e F2 ⟨j2.1, fl_fr j2.2.2 (fun _ => rfl) (fun _ => rfl) j1.1.2.1 j2.1.2.1 f1⟩), fun _ => PF.imp (PF.and (opR_198 (Or.inr rfl) rfl j1.1.1 j1.1.2.1 j1.1.2.2) (op_198 (Or.inr rfl) rfl j1.1.1)) (fun v2 F2 j2 _ _ => e F2 ⟨j2.1, fl_fr j2.2.2 (fun _ => rfl) (fun _ => rfl) j1.1.2.1 j2.1.2.1 f1⟩)⟩
theorem c5_594 (hJ : J5 (tRo xl) F) (e : ∀ F2, J5 (tRo xl) F2 → PF (tRo xl) n 0 1253 [(3, .int x3), (2, .ref 129), (1, .ref 0), (0, .ref KB)] [] F2 (fun v _ => v = some (.int 1))) : PF (tRo xl) n 0 594 [(3, .int x3), (2, .ref 129), (1, .ref 0), (0, .ref KB)] [] F (fun v _ => v = some (.int 1)) := by
  refine (l_594 ?_).weak
  intros
  refine PF.imp (PF.and (opR_84 rfl hJ.1.1 hJ.1.2.1 hJ.1.2.2) (op_84 rfl hJ.1.1)) (fun v1 F1 j1 => ?_)
  have f1 := fl_fr j1.2.2 (fun _ => rfl) (fun _ => rfl) hJ.1.2.1 j1.1.2.1 hJ.2
  intros
  exact PF.imp (PF.and (opR_199 rfl j1.1.1 j1.1.2.1 j1.1.2.2) (op_199 rfl j1.1.1)) (fun v2 F2 j2 _ _ => e F2 ⟨j2.1, fl_fr j2.2.2 (fun _ => rfl) (fun _ => rfl) j1.1.2.1 j2.1.2.1 f1⟩)
theorem c5_617 (hJ : J5 (tRo xl) F) (e : ∀ F2, J5 (tRo xl) F2 → PF (tRo xl) n 0 1253 [(3, .int x3), (2, .ref 129), (1, .ref 0), (0, .ref KB)] [] F2 (fun v _ => v = some (.int 1))) : PF (tRo xl) n 0 617 [(3, .int x3), (2, .ref 129), (1, .ref 0), (0, .ref KB)] [] F (fun v _ => v = some (.int 1)) := by
  refine (l_617 ?_).weak
  intros
  refine PF.imp (PF.and (opR_85 rfl hJ.1.1 hJ.1.2.1 hJ.1.2.2) (op_85 rfl hJ.1.1)) (fun v1 F1 j1 => ?_)
  have f1 := fl_fr j1.2.2 (fun _ => rfl) (fun _ => rfl) hJ.1.2.1 j1.1.2.1 hJ.2
  intros
  exact PF.imp (PF.and (opR_201 rfl j1.1.1 j1.1.2.1 j1.1.2.2) (op_201 rfl j1.1.1)) (fun v2 F2 j2 _ _ => e F2 ⟨j2.1, fl_fr j2.2.2 (fun _ => rfl) (fun _ => rfl) j1.1.2.1 j2.1.2.1 f1⟩)
theorem c5_640 (hJ : J5 (tRo xl) F) (e : ∀ F2, J5 (tRo xl) F2 → PF (tRo xl) n 0 1253 [(3, .int x3), (2, .ref 129), (1, .ref 0), (0, .ref KB)] [] F2 (fun v _ => v = some (.int 1))) : PF (tRo xl) n 0 640 [(3, .int x3), (2, .ref 129), (1, .ref 0), (0, .ref KB)] [] F (fun v _ => v = some (.int 1)) := by
  refine (l_640 ?_).weak
  intros
  refine PF.imp (PF.and (opR_86 rfl hJ.1.1 hJ.1.2.1 hJ.1.2.2) (op_86 rfl hJ.1.1)) (fun v1 F1 j1 => ?_)
  have f1 := fl_fr j1.2.2 (fun _ => rfl) (fun _ => rfl) hJ.1.2.1 j1.1.2.1 hJ.2
  intros
  exact PF.imp (PF.and (opR_202 rfl j1.1.1 j1.1.2.1 j1.1.2.2) (op_202 rfl j1.1.1)) (fun v2 F2 j2 _ _ => e F2 ⟨j2.1, fl_fr j2.2.2 (fun _ => rfl) (fun _ => rfl) j1.1.2.1 j2.1.2.1 f1⟩)
theorem c5_663 (hJ : J5 (tRo xl) F) (e : ∀ F2, J5 (tRo xl) F2 → PF (tRo xl) n 0 1253 [(3, .int x3), (2, .ref 129), (1, .ref 0), (0, .ref KB)] [] F2 (fun v _ => v = some (.int 1))) : PF (tRo xl) n 0 663 [(3, .int x3), (2, .ref 129), (1, .ref 0), (0, .ref KB)] [] F (fun v _ => v = some (.int 1)) := by
  refine (l_663 ?_).weak
  intros
  refine PF.imp (PF.and (opR_93 rfl hJ.1.1 hJ.1.2.1 hJ.1.2.2) (op_93 rfl hJ.1.1)) (fun v1 F1 j1 => ?_)
  have f1 := fl_fr j1.2.2 (fun _ => rfl) (fun _ => rfl) hJ.1.2.1 j1.1.2.1 hJ.2
  intros
  exact PF.imp (PF.and (opR_204 rfl j1.1.1 j1.1.2.1 j1.1.2.2) (op_204 rfl j1.1.1)) (fun v2 F2 j2 _ _ => e F2 ⟨j2.1, fl_fr j2.2.2 (fun _ => rfl) (fun _ => rfl) j1.1.2.1 j2.1.2.1 f1⟩)
theorem c5_686 (hJ : J5 (tRo xl) F) (e : ∀ F2, J5 (tRo xl) F2 → PF (tRo xl) n 0 1253 [(3, .int x3), (2, .ref 129), (1, .ref 0), (0, .ref KB)] [] F2 (fun v _ => v = some (.int 1))) : PF (tRo xl) n 0 686 [(3, .int x3), (2, .ref 129), (1, .ref 0), (0, .ref KB)] [] F (fun v _ => v = some (.int 1)) := by
  refine (l_686 ?_).weak
  intros
  refine PF.imp (PF.and (opR_94 rfl hJ.1.1 hJ.1.2.1 hJ.1.2.2) (op_94 rfl hJ.1.1)) (fun v1 F1 j1 => ?_)
  have f1 := fl_fr j1.2.2 (fun _ => rfl) (fun _ => rfl) hJ.1.2.1 j1.1.2.1 hJ.2
  intros
  exact PF.imp (PF.and (opR_206 rfl j1.1.1 j1.1.2.1 j1.1.2.2) (op_206 rfl j1.1.1)) (fun v2 F2 j2 _ _ => e F2 ⟨j2.1, fl_fr j2.2.2 (fun _ => rfl) (fun _ => rfl) j1.1.2.1 j2.1.2.1 f1⟩)
theorem c5_709 (hJ : J5 (tRo xl) F) (e : ∀ F2, J5 (tRo xl) F2 → PF (tRo xl) n 0 1253 [(3, .int x3), (2, .ref 129), (1, .ref 0), (0, .ref KB)] [] F2 (fun v _ => v = some (.int 1))) : PF (tRo xl) n 0 709 [(3, .int x3), (2, .ref 129), (1, .ref 0), (0, .ref KB)] [] F (fun v _ => v = some (.int 1)) := by
  refine (l_709 ?_).weak
  intros
  refine PF.imp (PF.and (opR_95 rfl hJ.1.1 hJ.1.2.1 hJ.1.2.2) (op_95 rfl hJ.1.1)) (fun v1 F1 j1 => ?_)
  have f1 := fl_fr j1.2.2 (fun _ => rfl) (fun _ => rfl) hJ.1.2.1 j1.1.2.1 hJ.2
  intros
  exact PF.imp (PF.and (opR_207 rfl j1.1.1 j1.1.2.1 j1.1.2.2) (op_207 rfl j1.1.1)) (fun v2 F2 j2 _ _ => e F2 ⟨j2.1, fl_fr j2.2.2 (fun _ => rfl) (fun _ => rfl) j1.1.2.1 j2.1.2.1 f1⟩)
theorem c5_742 (hJ : J5 (tRo xl) F) (e : ∀ F2, J5 (tRo xl) F2 → PF (tRo xl) n 0 1253 [(3, .int x3), (2, .ref 129), (1, .ref 0), (0, .ref KB)] [] F2 (fun v _ => v = some (.int 1))) : PF (tRo xl) n 0 742 [(3, .int x3), (2, .ref 129), (1, .ref 0), (0, .ref KB)] [] F (fun v _ => v = some (.int 1)) := by
  refine (l_742 ?_).weak
  intros
  refine PF.imp (PF.and (opR_107 rfl hJ.1.1 hJ.1.2.1 hJ.1.2.2) (op_107 rfl hJ.1.1)) (fun v1 F1 j1 => ?_)
  have f1 := fl_fr j1.2.2 (fun _ => rfl) (fun _ => rfl) hJ.1.2.1 j1.1.2.1 hJ.2
  intros
  exact PF.imp (PF.and (opR_215 rfl j1.1.1 j1.1.2.1 j1.1.2.2) (op_215 rfl j1.1.1)) (fun v2 F2 j2 _ _ => e F2 ⟨j2.1, fl_fr j2.2.2 (fun _ => rfl) (fun _ => rfl) j1.1.2.1 j2.1.2.1 f1⟩)
theorem c5_765 (hJ : J5 (tRo xl) F) (e : ∀ F2, J5 (tRo xl) F2 → PF (tRo xl) n 0 1253 [(3, .int x3), (2, .ref 129), (1, .ref 0), (0, .ref KB)] [] F2 (fun v _ => v = some (.int 1))) : PF (tRo xl) n 0 765 [(3, .int x3), (2, .ref 129), (1, .ref 0), (0, .ref KB)] [] F (fun v _ => v = some (.int 1)) := by
  refine (l_765 ?_).weak
  intros
  refine PF.imp (PF.and (opR_109 rfl hJ.1.1 hJ.1.2.1 hJ.1.2.2) (op_109 rfl hJ.1.1)) (fun v1 F1 j1 => ?_)
  have f1 := fl_fr j1.2.2 (fun _ => rfl) (fun _ => rfl) hJ.1.2.1 j1.1.2.1 hJ.2
  intros
  exact PF.imp (PF.and (opR_216 rfl j1.1.1 j1.1.2.1 j1.1.2.2) (op_216 rfl j1.1.1)) (fun v2 F2 j2 _ _ => e F2 ⟨j2.1, fl_fr j2.2.2 (fun _ => rfl) (fun _ => rfl) j1.1.2.1 j2.1.2.1 f1⟩)
theorem c5_788 (hJ : J5 (tRo xl) F) (e : ∀ F2, J5 (tRo xl) F2 → PF (tRo xl) n 0 1253 [(3, .int x3), (2, .ref 129), (1, .ref 0), (0, .ref KB)] [] F2 (fun v _ => v = some (.int 1))) : PF (tRo xl) n 0 788 [(3, .int x3), (2, .ref 129), (1, .ref 0), (0, .ref KB)] [] F (fun v _ => v = some (.int 1)) := by
  refine (l_788 ?_).weak
  intros
  refine PF.imp (PF.and (opR_111 rfl hJ.1.1 hJ.1.2.1 hJ.1.2.2) (op_111 rfl hJ.1.1)) (fun v1 F1 j1 => ?_)
  have f1 := fl_fr j1.2.2 (fun _ => rfl) (fun _ => rfl) hJ.1.2.1 j1.1.2.1 hJ.2
  intros
  exact PF.imp (PF.and (opR_217 rfl j1.1.1 j1.1.2.1 j1.1.2.2) (op_217 rfl j1.1.1)) (fun v2 F2 j2 _ _ => e F2 ⟨j2.1, fl_fr j2.2.2 (fun _ => rfl) (fun _ => rfl) j1.1.2.1 j2.1.2.1 f1⟩)
theorem c5_831 (hJ : J5 (tRo xl) F) (e : ∀ F2, J5 (tRo xl) F2 → PF (tRo xl) n 0 1253 [(3, .int x3), (2, .ref 129), (1, .ref 0), (0, .ref KB)] [] F2 (fun v _ => v = some (.int 1))) : PF (tRo xl) n 0 831 [(3, .int x3), (2, .ref 129), (1, .ref 0), (0, .ref KB)] [] F (fun v _ => v = some (.int 1)) := by
  refine (l_831 ?_).weak
  intros
  refine PF.imp (PF.and (opR_113 rfl hJ.1.1 hJ.1.2.1 hJ.1.2.2) (op_113 rfl hJ.1.1)) (fun v1 F1 j1 => ?_)
  have f1 := fl_fr j1.2.2 (fun _ => rfl) (fun _ => rfl) hJ.1.2.1 j1.1.2.1 hJ.2
  intros
  exact PF.imp (PF.and (opR_218 rfl j1.1.1 j1.1.2.1 j1.1.2.2) (op_218 rfl j1.1.1)) (fun v2 F2 j2 _ _ => e F2 ⟨j2.1, fl_fr j2.2.2 (fun _ => rfl) (fun _ => rfl) j1.1.2.1 j2.1.2.1 f1⟩)
theorem c5_854 (hJ : J5 (tRo xl) F) (e : ∀ F2, J5 (tRo xl) F2 → PF (tRo xl) n 0 1253 [(3, .int x3), (2, .ref 129), (1, .ref 0), (0, .ref KB)] [] F2 (fun v _ => v = some (.int 1))) : PF (tRo xl) n 0 854 [(3, .int x3), (2, .ref 129), (1, .ref 0), (0, .ref KB)] [] F (fun v _ => v = some (.int 1)) := by
  refine (l_854 ?_).weak
  intros
  refine PF.imp (PF.and (opR_114 rfl hJ.1.1 hJ.1.2.1 hJ.1.2.2) (op_114 rfl hJ.1.1)) (fun v1 F1 j1 => ?_)
  have f1 := fl_fr j1.2.2 (fun _ => rfl) (fun _ => rfl) hJ.1.2.1 j1.1.2.1 hJ.2
  intros
  exact PF.imp (PF.and (opR_219 rfl j1.1.1 j1.1.2.1 j1.1.2.2) (op_219 rfl j1.1.1)) (fun v2 F2 j2 _ _ => e F2 ⟨j2.1, fl_fr j2.2.2 (fun _ => rfl) (fun _ => rfl) j1.1.2.1 j2.1.2.1 f1⟩)
theorem c5_877 (hJ : J5 (tRo xl) F) (e : ∀ F2, J5 (tRo xl) F2 → PF (tRo xl) n 0 1253 [(3, .int x3), (2, .ref 129), (1, .ref 0), (0, .ref KB)] [] F2 (fun v _ => v = some (.int 1))) : PF (tRo xl) n 0 877 [(3, .int x3), (2, .ref 129), (1, .ref 0), (0, .ref KB)] [] F (fun v _ => v = some (.int 1)) := by
  refine (l_877 ?_).weak
  intros
  refine PF.imp (PF.and (opR_117 rfl hJ.1.1 hJ.1.2.1 hJ.1.2.2) (op_117 rfl hJ.1.1)) (fun v1 F1 j1 => ?_)
  have f1 := fl_fr j1.2.2 (fun _ => rfl) (fun _ => rfl) hJ.1.2.1 j1.1.2.1 hJ.2
  intros
  exact PF.imp (PF.and (opR_221 rfl j1.1.1 j1.1.2.1 j1.1.2.2) (op_221 rfl j1.1.1)) (fun v2 F2 j2 _ _ => e F2 ⟨j2.1, fl_fr j2.2.2 (fun _ => rfl) (fun _ => rfl) j1.1.2.1 j2.1.2.1 f1⟩)
theorem c5_890 (hJ : J5 (tRo xl) F) (e : ∀ F2, J5 (tRo xl) F2 → PF (tRo xl) n 0 1253 [(3, .int x3), (2, .ref 129), (1, .ref 0), (0, .ref KB)] [] F2 (fun v _ => v = some (.int 1))) : PF (tRo xl) n 0 890 [(3, .int x3), (2, .ref 129), (1, .ref 0), (0, .ref KB)] [] F (fun v _ => v = some (.int 1)) := by
  refine (l_890 ?_).weak
  intros
  refine PF.imp (PF.and (opR_118 rfl hJ.1.1 hJ.1.2.1 hJ.1.2.2) (op_118 rfl hJ.1.1)) (fun v1 F1 j1 => ?_)
  have f1 := fl_fr j1.2.2 (fun _ => rfl) (fun _ => rfl) hJ.1.2.1 j1.1.2.1 hJ.2
  intros
  exact PF.imp (PF.and (opR_222 rfl j1.1.1 j1.1.2.1 j1.1.2.2) (op_222 rfl j1.1.1)) (fun v2 F2 j2 _ _ => e F2 ⟨j2.1, fl_fr j2.2.2 (fun _ => rfl) (fun _ => rfl) j1.1.2.1 j2.1.2.1 f1⟩)
theorem c5_913 (hJ : J5 (tRo xl) F) (e : ∀ F2, J5 (tRo xl) F2 → PF (tRo xl) n 0 1253 [(3, .int x3), (2, .ref 129), (1, .ref 0), (0, .ref KB)] [] F2 (fun v _ => v = some (.int 1))) : PF (tRo xl) n 0 913 [(3, .int x3), (2, .ref 129), (1, .ref 0), (0, .ref KB)] [] F (fun v _ => v = some (.int 1)) := by
  refine (l_913 ?_).weak
  intros
  refine PF.imp (PF.and (opR_121 rfl hJ.1.1 hJ.1.2.1 hJ.1.2.2) (op_121 rfl hJ.1.1)) (fun v1 F1 j1 => ?_)
  have f1 := fl_fr j1.2.2 (fun _ => rfl) (fun _ => rfl) hJ.1.2.1 j1.1.2.1 hJ.2
  intros
  exact PF.imp (PF.and (opR_224 rfl j1.1.1 j1.1.2.1 j1.1.2.2) (op_224 rfl j1.1.1)) (fun v2 F2 j2 _ _ => e F2 ⟨j2.1, fl_fr j2.2.2 (fun _ => rfl) (fun _ => rfl) j1.1.2.1 j2.1.2.1 f1⟩)
theorem c5_956 (hJ : J5 (tRo xl) F) (e : ∀ F2, J5 (tRo xl) F2 → PF (tRo xl) n 0 1253 [(3, .int x3), (2, .ref 129), (1, .ref 0), (0, .ref KB)] [] F2 (fun v _ => v = some (.int 1))) : PF (tRo xl) n 0 956 [(3, .int x3), (2, .ref 129), (1, .ref 0), (0, .ref KB)] [] F (fun v _ => v = some (.int 1)) := by
  refine (l_956 ?_).weak
  intros
  refine PF.imp (PF.and (opR_127 rfl hJ.1.1 hJ.1.2.1 hJ.1.2.2) (op_127 rfl hJ.1.1)) (fun v1 F1 j1 => ?_)
  have f1 := fl_fr j1.2.2 (fun _ => rfl) (fun _ => rfl) hJ.1.2.1 j1.1.2.1 hJ.2
  intros
  exact PF.imp (PF.and (opR_228 rfl j1.1.1 j1.1.2.1 j1.1.2.2) (op_228 rfl j1.1.1)) (fun v2 F2 j2 _ _ => e F2 ⟨j2.1, fl_fr j2.2.2 (fun _ => rfl) (fun _ => rfl) j1.1.2.1 j2.1.2.1 f1⟩)
theorem c5_989 (hJ : J5 (tRo xl) F) (e : ∀ F2, J5 (tRo xl) F2 → PF (tRo xl) n 0 1253 [(3, .int x3), (2, .ref 129), (1, .ref 0), (0, .ref KB)] [] F2 (fun v _ => v = some (.int 1))) : PF (tRo xl) n 0 989 [(3, .int x3), (2, .ref 129), (1, .ref 0), (0, .ref KB)] [] F (fun v _ => v = some (.int 1)) := by
  refine (l_989 ?_).weak
  intros
  refine PF.imp (PF.and (opR_128 rfl hJ.1.1 hJ.1.2.1 hJ.1.2.2) (op_128 rfl hJ.1.1)) (fun v1 F1 j1 => ?_)
  have f1 := fl_fr j1.2.2 (fun _ => rfl) (fun _ => rfl) hJ.1.2.1 j1.1.2.1 hJ.2
  intros
  exact PF.imp (PF.and (opR_229 rfl j1.1.1 j1.1.2.1 j1.1.2.2) (op_229 rfl j1.1.1)) (fun v2 F2 j2 _ _ => e F2 ⟨j2.1, fl_fr j2.2.2 (fun _ => rfl) (fun _ => rfl) j1.1.2.1 j2.1.2.1 f1⟩)
theorem c5_1032 (hJ : J5 (tRo xl) F) (e : ∀ F2, J5 (tRo xl) F2 → PF (tRo xl) n 0 1253 [(3, .int x3), (2, .ref 129), (1, .ref 0), (0, .ref KB)] [] F2 (fun v _ => v = some (.int 1))) : PF (tRo xl) n 0 1032 [(3, .int x3), (2, .ref 129), (1, .ref 0), (0, .ref KB)] [] F (fun v _ => v = some (.int 1)) := by
  refine (l_1032 ?_).weak
  intros
  refine PF.imp (PF.and (PF.and (keepX F hJ.1.2.1 rfl) (opR_130 rfl hJ.1.1 hJ.1.2.1 hJ.1.2.2)) (op_130 rfl hJ.1.1)) (fun v1 F1 j1 => ?_)
  intro r1 e1
  intros
  refine PF.imp (PF.and (PF.and (keepM F1 j1.1.2.2.1 rfl) (opR_230 rfl j1.1.2.1 j1.1.2.2.1 j1.1.2.2.2)) (op_230 rfl j1.1.2.1)) (fun v2 F2 j2 => ?_)
  intro r2 e2
  have g := keep_fl j1.1.1 j2.1.1 (fun q => fr_iv j1.2.2 (r := 27) rfl rfl (by decide) hJ.1.2.1 j1.1.2.2.1) (fun q => fr_iv j2.2.2 (r := 16) rfl rfl (by decide) j1.1.2.2.1 j2.1.2.2.1) hJ.2
  have er : r1 = r2 := by
    have t := g.1
    rw [e1, e2] at t
    cases t; rfl
  exact ⟨fun _ => e F2 ⟨j2.1.2, g.2⟩, fun hn => absurd er hn⟩
theorem c5_1055 (hJ : J5 (tRo xl) F) (e : ∀ F2, J5 (tRo xl) F2 → PF (tRo xl) n 0 1253 [(3, .int x3), (2, .ref 129), (1, .ref 0), (0, .ref KB)] [] F2 (fun v _ => v = some (.int 1))) : PF (tRo xl) n 0 1055 [(3, .int x3), (2, .ref 129), (1, .ref 0), (0, .ref KB)] [] F (fun v _ => v = some (.int 1)) := by
  refine (l_1055 ?_).weak
  intros
  refine PF.imp (PF.and (opR_131 rfl hJ.1.1 hJ.1.2.1 hJ.1.2.2) (op_131 rfl hJ.1.1)) (fun v1 F1 j1 => ?_)
  have f1 := fl_fr j1.2.2 (fun _ => rfl) (fun _ => rfl) hJ.1.2.1 j1.1.2.1 hJ.2
  intros
  exact PF.imp (PF.and (opR_232 rfl j1.1.1 j1.1.2.1 j1.1.2.2) (op_232 rfl j1.1.1)) (fun v2 F2 j2 _ _ => e F2 ⟨j2.1, fl_fr j2.2.2 (fun _ => rfl) (fun _ => rfl) j1.1.2.1 j2.1.2.1 f1⟩)
theorem c5_1078 (hJ : J5 (tRo xl) F) (e : ∀ F2, J5 (tRo xl) F2 → PF (tRo xl) n 0 1253 [(3, .int x3), (2, .ref 129), (1, .ref 0), (0, .ref KB)] [] F2 (fun v _ => v = some (.int 1))) : PF (tRo xl) n 0 1078 [(3, .int x3), (2, .ref 129), (1, .ref 0), (0, .ref KB)] [] F (fun v _ => v = some (.int 1)) := by
  refine (l_1078 ?_).weak
  intros
  refine PF.imp (PF.and (opR_132 rfl hJ.1.1 hJ.1.2.1 hJ.1.2.2) (op_132 rfl hJ.1.1)) (fun v1 F1 j1 => ?_)
  have f1 := fl_fr j1.2.2 (fun _ => rfl) (fun _ => rfl) hJ.1.2.1 j1.1.2.1 hJ.2
  intros
  exact PF.imp (PF.and (opR_233 rfl j1.1.1 j1.1.2.1 j1.1.2.2) (op_233 rfl j1.1.1)) (fun v2 F2 j2 _ _ => e F2 ⟨j2.1, fl_fr j2.2.2 (fun _ => rfl) (fun _ => rfl) j1.1.2.1 j2.1.2.1 f1⟩)
theorem c5_1121 (hJ : J5 (tRo xl) F) (e : ∀ F2, J5 (tRo xl) F2 → PF (tRo xl) n 0 1253 [(3, .int x3), (2, .ref 129), (1, .ref 0), (0, .ref KB)] [] F2 (fun v _ => v = some (.int 1))) : PF (tRo xl) n 0 1121 [(3, .int x3), (2, .ref 129), (1, .ref 0), (0, .ref KB)] [] F (fun v _ => v = some (.int 1)) := by
  refine (l_1121 ?_).weak
  intros
  refine PF.imp (PF.and (opR_136 rfl hJ.1.1 hJ.1.2.1 hJ.1.2.2) (op_136 rfl hJ.1.1)) (fun v1 F1 j1 => ?_)
  have f1 := fl_fr j1.2.2 (fun _ => rfl) (fun _ => rfl) hJ.1.2.1 j1.1.2.1 hJ.2
  intros
  exact PF.imp (PF.and (opR_235 rfl j1.1.1 j1.1.2.1 j1.1.2.2) (op_235 rfl j1.1.1)) (fun v2 F2 j2 _ _ => e F2 ⟨j2.1, fl_fr j2.2.2 (fun _ => rfl) (fun _ => rfl) j1.1.2.1 j2.1.2.1 f1⟩)
theorem c5_1164 (hJ : J5 (tRo xl) F) (e : ∀ F2, J5 (tRo xl) F2 → PF (tRo xl) n 0 1253 [(3, .int x3), (2, .ref 129), (1, .ref 0), (0, .ref KB)] [] F2 (fun v _ => v = some (.int 1))) : PF (tRo xl) n 0 1164 [(3, .int x3), (2, .ref 129), (1, .ref 0), (0, .ref KB)] [] F (fun v _ => v = some (.int 1)) := by
  refine (l_1164 ?_).weak
  intros
  refine PF.imp (PF.and (opR_139 rfl hJ.1.1 hJ.1.2.1 hJ.1.2.2) (op_139 rfl hJ.1.1)) (fun v1 F1 j1 => ?_)
  have f1 := fl_fr j1.2.2 (fun _ => rfl) (fun _ => rfl) hJ.1.2.1 j1.1.2.1 hJ.2
  intros
  exact PF.imp (PF.and (opR_236 rfl j1.1.1 j1.1.2.1 j1.1.2.2) (op_236 rfl j1.1.1)) (fun v2 F2 j2 _ _ => e F2 ⟨j2.1, fl_fr j2.2.2 (fun _ => rfl) (fun _ => rfl) j1.1.2.1 j2.1.2.1 f1⟩)
theorem c5_1217 (hJ : J5 (tRo xl) F) (e : ∀ F2, J5 (tRo xl) F2 → PF (tRo xl) n 0 1253 [(3, .int x3), (2, .ref 129), (1, .ref 0), (0, .ref KB)] [] F2 (fun v _ => v = some (.int 1))) : PF (tRo xl) n 0 1217 [(3, .int x3), (2, .ref 129), (1, .ref 0), (0, .ref KB)] [] F (fun v _ => v = some (.int 1)) := by
  refine (l_1217 ?_).weak
  intros
  refine PF.imp (PF.and (opR_142 rfl hJ.1.1 hJ.1.2.1 hJ.1.2.2) (op_142 rfl hJ.1.1)) (fun v1 F1 j1 => ?_)
  have f1 := fl_fr j1.2.2 (fun _ => rfl) (fun _ => rfl) hJ.1.2.1 j1.1.2.1 hJ.2
  intros
  exact PF.imp (PF.and (opR_237 rfl j1.1.1 j1.1.2.1 j1.1.2.2) (op_237 rfl j1.1.1)) (fun v2 F2 j2 _ _ => e F2 ⟨j2.1, fl_fr j2.2.2 (fun _ => rfl) (fun _ => rfl) j1.1.2.1 j2.1.2.1 f1⟩)
theorem c5_1230 (hJ : J5 (tRo xl) F) (e : ∀ F2, J5 (tRo xl) F2 → PF (tRo xl) n 0 1253 [(3, .int x3), (2, .ref 129), (1, .ref 0), (0, .ref KB)] [] F2 (fun v _ => v = some (.int 1))) : PF (tRo xl) n 0 1230 [(3, .int x3), (2, .ref 129), (1, .ref 0), (0, .ref KB)] [] F (fun v _ => v = some (.int 1)) := by
  refine (l_1230 ?_).weak
  intros
  refine PF.imp (PF.and (opR_143 rfl hJ.1.1 hJ.1.2.1 hJ.1.2.2) (op_143 rfl hJ.1.1)) (fun v1 F1 j1 => ?_)
  have f1 := fl_fr j1.2.2 (fun _ => rfl) (fun _ => rfl) hJ.1.2.1 j1.1.2.1 hJ.2
  intros
  exact PF.imp (PF.and (opR_238 rfl j1.1.1 j1.1.2.1 j1.1.2.2) (op_238 rfl j1.1.1)) (fun v2 F2 j2 _ _ => e F2 ⟨j2.1, fl_fr j2.2.2 (fun _ => rfl) (fun _ => rfl) j1.1.2.1 j2.1.2.1 f1⟩)
theorem law_PF5 : ∀ (n : Nat) (F : MH) (x3 : Int32), J5 (tRo xl) F → PF (tRo xl) n 0 18 [(3, .int x3), (2, .ref 129), (1, .ref 0), (0, .ref KB)] [] F (fun v _ => v = some (.int 1)) := by
  intro n
  induction n with
  | zero => intro F x3 _; exact PF.zero
  | succ n ih =>
    intro F x3 hJ
    have e : ∀ F2, J5 (tRo xl) F2 → PF (tRo xl) n 0 1253 [(3, .int x3), (2, .ref 129), (1, .ref 0), (0, .ref KB)] [] F2 (fun v _ => v = some (.int 1)) := fun F2 h2 => (l_1253 (ih F2 _ h2)).weak
    exact l_18 ⟨fun _ => rfl, fun _ _ _ => ⟨fun _ => c5_196 hJ (fun F2 h2 => e F2 h2), fun _ => c5_219 hJ (fun F2 h2 => e F2 h2), fun _ => c5_242 hJ (fun F2 h2 => e F2 h2), fun _ => c5_255 hJ (fun F2 h2 => e F2 h2), fun _ => c5_268 hJ (fun F2 h2 => e F2 h2), fun _ => c5_291 hJ (fun F2 h2 => e F2 h2), fun _ => c5_324 hJ (fun F2 h2 => e F2 h2), fun _ => c5_357 hJ (fun F2 h2 => e F2 h2), fun _ => c5_380 hJ (fun F2 h2 => e F2 h2), fun _ => c5_413 hJ (fun F2 h2 => e F2 h2), fun _ => c5_446 hJ (fun F2 h2 => e F2 h2), fun _ => c5_469 hJ (fun F2 h2 => e F2 h2), fun _ => c5_492 hJ (fun F2 h2 => e F2 h2), fun _ => c5_535 hJ (fun F2 h2 => e F2 h2), fun _ => c5_594 hJ (fun F2 h2 => e F2 h2), fun _ => c5_617 hJ (fun F2 h2 => e F2 h2), fun _ => c5_640 hJ (fun F2 h2 => e F2 h2), fun _ => c5_663 hJ (fun F2 h2 => e F2 h2), fun _ => c5_686 hJ (fun F2 h2 => e F2 h2), fun _ => c5_709 hJ (fun F2 h2 => e F2 h2), fun _ => c5_742 hJ (fun F2 h2 => e F2 h2), fun _ => c5_765 hJ (fun F2 h2 => e F2 h2), fun _ => c5_788 hJ (fun F2 h2 => e F2 h2), fun _ => c5_831 hJ (fun F2 h2 => e F2 h2), fun _ => c5_854 hJ (fun F2 h2 => e F2 h2), fun _ => c5_877 hJ (fun F2 h2 => e F2 h2), fun _ => c5_890 hJ (fun F2 h2 => e F2 h2), fun _ => c5_913 hJ (fun F2 h2 => e F2 h2), fun _ => c5_956 hJ (fun F2 h2 => e F2 h2), fun _ => c5_989 hJ (fun F2 h2 => e F2 h2), fun _ => c5_1032 hJ (fun F2 h2 => e F2 h2), fun _ => c5_1055 hJ (fun F2 h2 => e F2 h2), fun _ => c5_1078 hJ (fun F2 h2 => e F2 h2), fun _ => c5_1121 hJ (fun F2 h2 => e F2 h2), fun _ => c5_1164 hJ (fun F2 h2 => e F2 h2), fun _ => c5_1217 hJ (fun F2 h2 => e F2 h2), fun _ => c5_1230 hJ (fun F2 h2 => e F2 h2), fun _ => e F hJ⟩⟩
end LawPF5
