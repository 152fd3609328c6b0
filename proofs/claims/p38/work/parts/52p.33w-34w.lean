section
/-! WHAT RUNS ASK (written by a program) -/
/-- DoorPaintsModel.firstDraft()V -/
theorem t_145_0 {xl : List Int32} {n : Nat} {ι : IS} {Q : Option Value → IS → Prop} {a0 : Nat} (h : PC xl n 145 2 [(0, .ref a0), (1, .int 0)] [] ι Q) : PC xl (n + 1) 145 0 [(0, .ref a0)] [] ι Q := by
  refine PC.pr1 (k := 0) (pc' := 1) (lv' := [(0, .ref a0)]) (st' := [.int 0]) rfl ?_
  refine PC.pr (k := 1) (pc' := 2) (lv' := [(1, .int 0), (0, .ref a0)]) (st' := []) rfl ?_
  exact PC.lv (lvE.cons rfl (lvE.cons rfl (lvE.nil))) h
theorem t_145_2 {xl : List Int32} {n : Nat} {ι : IS} {Q : Option Value → IS → Prop} {a0 : Nat} {x1 : Int32} (h : ((¬ x1 < 80 → PC xl n 145 23 [(0, .ref a0), (1, .int 0)] [] ι Q) ∧ (x1 < 80 → (0 ≤ x1.toInt → x1.toInt < ln (rf a0 5) → PC xl n 145 2 [(0, .ref a0), (1, .int (x1 + 1))] [] (up ι (rf a0 5) x1.toNatClampNeg 0) Q)))) : PC xl (n + 1) 145 2 [(0, .ref a0), (1, .int x1)] [] ι Q := by
  refine PC.pr1 (k := 0) (pc' := 3) (lv' := [(0, .ref a0), (1, .int x1)]) (st' := [.int x1]) rfl ?_
  refine PC.pr (k := 1) (pc' := 5) (lv' := [(0, .ref a0), (1, .int x1)]) (st' := [.int 80, .int x1]) rfl ?_
  refine PC.if2 (t := 21) rfl rfl (fun c => ?_) (fun c => ?_)
  · have h := h.1 (cmp_ge.1.mp c)
    refine PC.pr (k := 1) (pc' := 22) (lv' := [(0, .ref a0), (1, .int x1)]) (st' := [.int 0]) rfl ?_
    refine PC.pr (k := 1) (pc' := 23) (lv' := [(1, .int 0), (0, .ref a0)]) (st' := []) rfl ?_
    exact PC.lv (lvE.cons rfl (lvE.cons rfl (lvE.nil))) h
  · have h := h.2 (cmp_ge.2.mp c)
    refine PC.pr (k := 1) (pc' := 9) (lv' := [(0, .ref a0), (1, .int x1)]) (st' := [.ref a0]) rfl ?_
    refine PC.gR (ci := 9) (j := 5) rfl rfl (by decide) ?_
    refine PC.pr (k := 1) (pc' := 13) (lv' := [(0, .ref a0), (1, .int x1)]) (st' := [.int x1, .ref (rf a0 5)]) rfl ?_
    refine PC.pr (k := 1) (pc' := 14) (lv' := [(0, .ref a0), (1, .int x1)]) (st' := [.int 0, .int x1, .ref (rf a0 5)]) rfl ?_
    refine PC.wI rfl (fun c1 c2 => ?_)
    have h := h c1 c2
    refine PC.pr (k := 1) (pc' := 18) (lv' := [(1, .int (x1 + 1)), (0, .ref a0)]) (st' := []) rfl ?_
    refine PC.pr (k := 1) (pc' := 2) (lv' := [(1, .int (x1 + 1)), (0, .ref a0)]) (st' := []) rfl ?_
    exact PC.lv (lvE.cons rfl (lvE.cons rfl (lvE.nil))) h
theorem t_145_23 {xl : List Int32} {n : Nat} {ι : IS} {Q : Option Value → IS → Prop} {a0 : Nat} {x1 : Int32} (h : ((¬ x1 < 4 → Q none (up (up (up (up (up ι a0 6 0) a0 7 0) a0 8 0) a0 9 (-4)) a0 10 (-4))) ∧ (x1 < 4 → (0 ≤ x1.toInt → x1.toInt < ln (rf a0 11) → PC xl n 145 23 [(0, .ref a0), (1, .int (x1 + 1))] [] (up ι (rf a0 11) x1.toNatClampNeg 0) Q)))) : PC xl (n + 1) 145 23 [(0, .ref a0), (1, .int x1)] [] ι Q := by
  refine PC.pr1 (k := 0) (pc' := 24) (lv' := [(0, .ref a0), (1, .int x1)]) (st' := [.int x1]) rfl ?_
  refine PC.pr (k := 1) (pc' := 25) (lv' := [(0, .ref a0), (1, .int x1)]) (st' := [.int 4, .int x1]) rfl ?_
  refine PC.if2 (t := 41) rfl rfl (fun c => ?_) (fun c => ?_)
  · have h := h.1 (cmp_ge.1.mp c)
    refine PC.pr (k := 1) (pc' := 42) (lv' := [(0, .ref a0), (1, .int x1)]) (st' := [.ref a0]) rfl ?_
    refine PC.pr (k := 1) (pc' := 43) (lv' := [(0, .ref a0), (1, .int x1)]) (st' := [.int 0, .ref a0]) rfl ?_
    refine PC.pI (ci := 9) (j := 6) rfl rfl ?_
    refine PC.pr (k := 1) (pc' := 47) (lv' := [(0, .ref a0), (1, .int x1)]) (st' := [.ref a0]) rfl ?_
    refine PC.pr (k := 1) (pc' := 48) (lv' := [(0, .ref a0), (1, .int x1)]) (st' := [.int 0, .ref a0]) rfl ?_
    refine PC.pI (ci := 9) (j := 7) rfl rfl ?_
    refine PC.pr (k := 1) (pc' := 52) (lv' := [(0, .ref a0), (1, .int x1)]) (st' := [.ref a0]) rfl ?_
    refine PC.pr (k := 1) (pc' := 53) (lv' := [(0, .ref a0), (1, .int x1)]) (st' := [.int 0, .ref a0]) rfl ?_
    refine PC.pI (ci := 9) (j := 8) rfl rfl ?_
    refine PC.pr (k := 1) (pc' := 57) (lv' := [(0, .ref a0), (1, .int x1)]) (st' := [.ref a0]) rfl ?_
    refine PC.pr (k := 1) (pc' := 59) (lv' := [(0, .ref a0), (1, .int x1)]) (st' := [.int (-4), .ref a0]) rfl ?_
    refine PC.pI (ci := 9) (j := 9) rfl rfl ?_
    refine PC.pr (k := 1) (pc' := 63) (lv' := [(0, .ref a0), (1, .int x1)]) (st' := [.ref a0]) rfl ?_
    refine PC.pr (k := 1) (pc' := 65) (lv' := [(0, .ref a0), (1, .int x1)]) (st' := [.int (-4), .ref a0]) rfl ?_
    refine PC.pI (ci := 9) (j := 10) rfl rfl ?_
    exact PC.retV rfl h
  · have h := h.2 (cmp_ge.2.mp c)
    refine PC.pr (k := 1) (pc' := 29) (lv' := [(0, .ref a0), (1, .int x1)]) (st' := [.ref a0]) rfl ?_
    refine PC.gR (ci := 9) (j := 11) rfl rfl (by decide) ?_
    refine PC.pr (k := 1) (pc' := 33) (lv' := [(0, .ref a0), (1, .int x1)]) (st' := [.int x1, .ref (rf a0 11)]) rfl ?_
    refine PC.pr (k := 1) (pc' := 34) (lv' := [(0, .ref a0), (1, .int x1)]) (st' := [.int 0, .int x1, .ref (rf a0 11)]) rfl ?_
    refine PC.wI rfl (fun c1 c2 => ?_)
    have h := h c1 c2
    refine PC.pr (k := 1) (pc' := 38) (lv' := [(1, .int (x1 + 1)), (0, .ref a0)]) (st' := []) rfl ?_
    refine PC.pr (k := 1) (pc' := 23) (lv' := [(1, .int (x1 + 1)), (0, .ref a0)]) (st' := []) rfl ?_
    exact PC.lv (lvE.cons rfl (lvE.cons rfl (lvE.nil))) h

/-- DoorPaintsModel.keepDraft()V -/
theorem t_146_0 {xl : List Int32} {n : Nat} {ι : IS} {Q : Option Value → IS → Prop} {a0 : Nat} (h : PC xl n 146 2 [(0, .ref a0), (1, .int 0)] [] ι Q) : PC xl (n + 1) 146 0 [(0, .ref a0)] [] ι Q := by
  refine PC.pr1 (k := 0) (pc' := 1) (lv' := [(0, .ref a0)]) (st' := [.int 0]) rfl ?_
  refine PC.pr (k := 1) (pc' := 2) (lv' := [(1, .int 0), (0, .ref a0)]) (st' := []) rfl ?_
  exact PC.lv (lvE.cons rfl (lvE.cons rfl (lvE.nil))) h
theorem t_146_2 {xl : List Int32} {n : Nat} {ι : IS} {Q : Option Value → IS → Prop} {a0 : Nat} {x1 : Int32} (h : ((¬ x1 < 80 → PC xl n 146 44 [(0, .ref a0), (1, .int 0)] [] (up (up ι a0 3 (ι a0 6)) a0 4 ((up ι a0 3 (ι a0 6)) a0 7)) Q) ∧ (x1 < 80 → (0 ≤ x1.toInt → x1.toInt < ln (rf a0 5) → (0 ≤ x1.toInt → x1.toInt < ln (rf a0 0) → PC xl n 146 2 [(0, .ref a0), (1, .int (x1 + 1))] [] (up ι (rf a0 0) x1.toNatClampNeg (ι (rf a0 5) x1.toNatClampNeg)) Q))))) : PC xl (n + 1) 146 2 [(0, .ref a0), (1, .int x1)] [] ι Q := by
  refine PC.pr1 (k := 0) (pc' := 3) (lv' := [(0, .ref a0), (1, .int x1)]) (st' := [.int x1]) rfl ?_
  refine PC.pr (k := 1) (pc' := 5) (lv' := [(0, .ref a0), (1, .int x1)]) (st' := [.int 80, .int x1]) rfl ?_
  refine PC.if2 (t := 26) rfl rfl (fun c => ?_) (fun c => ?_)
  · have h := h.1 (cmp_ge.1.mp c)
    refine PC.pr (k := 1) (pc' := 27) (lv' := [(0, .ref a0), (1, .int x1)]) (st' := [.ref a0]) rfl ?_
    refine PC.pr (k := 1) (pc' := 28) (lv' := [(0, .ref a0), (1, .int x1)]) (st' := [.ref a0, .ref a0]) rfl ?_
    refine PC.gI (ci := 9) (j := 6) rfl rfl (by decide) ?_
    refine PC.pI (ci := 9) (j := 3) rfl rfl ?_
    refine PC.pr (k := 1) (pc' := 35) (lv' := [(0, .ref a0), (1, .int x1)]) (st' := [.ref a0]) rfl ?_
    refine PC.pr (k := 1) (pc' := 36) (lv' := [(0, .ref a0), (1, .int x1)]) (st' := [.ref a0, .ref a0]) rfl ?_
    refine PC.gI (ci := 9) (j := 7) rfl rfl (by decide) ?_
    refine PC.pI (ci := 9) (j := 4) rfl rfl ?_
    refine PC.pr (k := 1) (pc' := 43) (lv' := [(0, .ref a0), (1, .int x1)]) (st' := [.int 0]) rfl ?_
    refine PC.pr (k := 1) (pc' := 44) (lv' := [(1, .int 0), (0, .ref a0)]) (st' := []) rfl ?_
    exact PC.lv (lvE.cons rfl (lvE.cons rfl (lvE.nil))) h
  · have h := h.2 (cmp_ge.2.mp c)
    refine PC.pr (k := 1) (pc' := 9) (lv' := [(0, .ref a0), (1, .int x1)]) (st' := [.ref a0]) rfl ?_
    refine PC.gR (ci := 9) (j := 0) rfl rfl (by decide) ?_
    refine PC.pr (k := 1) (pc' := 13) (lv' := [(0, .ref a0), (1, .int x1)]) (st' := [.int x1, .ref (rf a0 0)]) rfl ?_
    refine PC.pr (k := 1) (pc' := 14) (lv' := [(0, .ref a0), (1, .int x1)]) (st' := [.ref a0, .int x1, .ref (rf a0 0)]) rfl ?_
    refine PC.gR (ci := 9) (j := 5) rfl rfl (by decide) ?_
    refine PC.pr (k := 1) (pc' := 18) (lv' := [(0, .ref a0), (1, .int x1)]) (st' := [.int x1, .ref (rf a0 5), .int x1, .ref (rf a0 0)]) rfl ?_
    refine PC.rd rfl (rf_lt _ _) (fun c1 c2 => ?_)
    have h := h c1 c2
    refine PC.wI rfl (fun c1 c2 => ?_)
    have h := h c1 c2
    refine PC.pr (k := 1) (pc' := 23) (lv' := [(1, .int (x1 + 1)), (0, .ref a0)]) (st' := []) rfl ?_
    refine PC.pr (k := 1) (pc' := 2) (lv' := [(1, .int (x1 + 1)), (0, .ref a0)]) (st' := []) rfl ?_
    exact PC.lv (lvE.cons rfl (lvE.cons rfl (lvE.nil))) h
theorem t_146_44 {xl : List Int32} {n : Nat} {ι : IS} {Q : Option Value → IS → Prop} {a0 : Nat} {x1 : Int32} (h : ((¬ x1 < (ι a0 4) → (0 ≤ (0 : Int32).toInt → (0 : Int32).toInt < ln (rf a0 2) → (0 ≤ (1 : Int32).toInt → (1 : Int32).toInt < ln (rf a0 2) → Q none (up (up ι (rf a0 2) (0 : Int32).toNatClampNeg (vp_nar .boolean 0)) (rf a0 2) (1 : Int32).toNatClampNeg (vp_nar .boolean 0))))) ∧ (x1 < (ι a0 4) → (0 ≤ x1.toInt → x1.toInt < ln (rf a0 11) → (0 ≤ ((16 + (9 * x1)) + 2).toInt → ((16 + (9 * x1)) + 2).toInt < ln (rf a0 0) → PC xl n 146 44 [(0, .ref a0), (1, .int (x1 + 1))] [] (up ι (rf a0 0) ((16 + (9 * x1)) + 2).toNatClampNeg (ι (rf a0 11) x1.toNatClampNeg)) Q))))) : PC xl (n + 1) 146 44 [(0, .ref a0), (1, .int x1)] [] ι Q := by
  refine PC.pr1 (k := 0) (pc' := 45) (lv' := [(0, .ref a0), (1, .int x1)]) (st' := [.int x1]) rfl ?_
  refine PC.pr (k := 1) (pc' := 46) (lv' := [(0, .ref a0), (1, .int x1)]) (st' := [.ref a0, .int x1]) rfl ?_
  refine PC.gI (ci := 9) (j := 4) rfl rfl (by decide) ?_
  refine PC.if2 (t := 78) rfl rfl (fun c => ?_) (fun c => ?_)
  · have h := h.1 (cmp_ge.1.mp c)
    refine PC.pr (k := 1) (pc' := 79) (lv' := [(0, .ref a0), (1, .int x1)]) (st' := [.ref a0]) rfl ?_
    refine PC.gR (ci := 9) (j := 2) rfl rfl (by decide) ?_
    refine PC.pr (k := 1) (pc' := 83) (lv' := [(0, .ref a0), (1, .int x1)]) (st' := [.int 0, .ref (rf a0 2)]) rfl ?_
    refine PC.pr (k := 1) (pc' := 84) (lv' := [(0, .ref a0), (1, .int x1)]) (st' := [.int 0, .int 0, .ref (rf a0 2)]) rfl ?_
    refine PC.wB rfl (fun c1 c2 => ?_)
    have h := h c1 c2
    refine PC.pr (k := 1) (pc' := 86) (lv' := [(0, .ref a0), (1, .int x1)]) (st' := [.ref a0]) rfl ?_
    refine PC.gR (ci := 9) (j := 2) rfl rfl (by decide) ?_
    refine PC.pr (k := 1) (pc' := 90) (lv' := [(0, .ref a0), (1, .int x1)]) (st' := [.int 1, .ref (rf a0 2)]) rfl ?_
    refine PC.pr (k := 1) (pc' := 91) (lv' := [(0, .ref a0), (1, .int x1)]) (st' := [.int 0, .int 1, .ref (rf a0 2)]) rfl ?_
    refine PC.wB rfl (fun c1 c2 => ?_)
    have h := h c1 c2
    exact PC.retV rfl h
  · have h := h.2 (cmp_ge.2.mp c)
    refine PC.pr (k := 1) (pc' := 53) (lv' := [(0, .ref a0), (1, .int x1)]) (st' := [.ref a0]) rfl ?_
    refine PC.gR (ci := 9) (j := 0) rfl rfl (by decide) ?_
    refine PC.pr (k := 1) (pc' := 58) (lv' := [(0, .ref a0), (1, .int x1)]) (st' := [.int 16, .ref (rf a0 0)]) rfl ?_
    refine PC.pr (k := 1) (pc' := 60) (lv' := [(0, .ref a0), (1, .int x1)]) (st' := [.int 9, .int 16, .ref (rf a0 0)]) rfl ?_
    refine PC.pr (k := 1) (pc' := 61) (lv' := [(0, .ref a0), (1, .int x1)]) (st' := [.int x1, .int 9, .int 16, .ref (rf a0 0)]) rfl ?_
    refine PC.pr (k := 1) (pc' := 62) (lv' := [(0, .ref a0), (1, .int x1)]) (st' := [.int (9 * x1), .int 16, .ref (rf a0 0)]) rfl ?_
    refine PC.pr (k := 1) (pc' := 63) (lv' := [(0, .ref a0), (1, .int x1)]) (st' := [.int (16 + (9 * x1)), .ref (rf a0 0)]) rfl ?_
    refine PC.pr (k := 1) (pc' := 64) (lv' := [(0, .ref a0), (1, .int x1)]) (st' := [.int 2, .int (16 + (9 * x1)), .ref (rf a0 0)]) rfl ?_
    refine PC.pr (k := 1) (pc' := 65) (lv' := [(0, .ref a0), (1, .int x1)]) (st' := [.int ((16 + (9 * x1)) + 2), .ref (rf a0 0)]) rfl ?_
    refine PC.pr (k := 1) (pc' := 66) (lv' := [(0, .ref a0), (1, .int x1)]) (st' := [.ref a0, .int ((16 + (9 * x1)) + 2), .ref (rf a0 0)]) rfl ?_
    refine PC.gR (ci := 9) (j := 11) rfl rfl (by decide) ?_
    refine PC.pr (k := 1) (pc' := 70) (lv' := [(0, .ref a0), (1, .int x1)]) (st' := [.int x1, .ref (rf a0 11), .int ((16 + (9 * x1)) + 2), .ref (rf a0 0)]) rfl ?_
    refine PC.rd rfl (rf_lt _ _) (fun c1 c2 => ?_)
    have h := h c1 c2
    refine PC.wI rfl (fun c1 c2 => ?_)
    have h := h c1 c2
    refine PC.pr (k := 1) (pc' := 75) (lv' := [(1, .int (x1 + 1)), (0, .ref a0)]) (st' := []) rfl ?_
    refine PC.pr (k := 1) (pc' := 44) (lv' := [(1, .int (x1 + 1)), (0, .ref a0)]) (st' := []) rfl ?_
    exact PC.lv (lvE.cons rfl (lvE.cons rfl (lvE.nil))) h

/-- DoorPaintsModel.feed(I)I -/
theorem t_147_0 {xl : List Int32} {n : Nat} {ι : IS} {Q : Option Value → IS → Prop} {a0 : Nat} {x1 : Int32} (h : PC xl n 148 0 [(0, .long (x1).toInt64), (2, .long 0), (4, .long 127)] [] ι (fun v1 κ1 => ∀ r1, v1 = some (.int r1) → ((¬ r1 = 0 → ((¬ (κ1 a0 13) = 160 → (0 ≤ (κ1 a0 13).toInt → (κ1 a0 13).toInt < ln (rf a0 12) → Q (some (.int ((up (up κ1 (rf a0 12) (κ1 a0 13).toNatClampNeg x1) a0 13 (((up κ1 (rf a0 12) (κ1 a0 13).toNatClampNeg x1) a0 13) + 1)) a0 13))) (up (up κ1 (rf a0 12) (κ1 a0 13).toNatClampNeg x1) a0 13 (((up κ1 (rf a0 12) (κ1 a0 13).toNatClampNeg x1) a0 13) + 1)))) ∧ ((κ1 a0 13) = 160 → Q (some (.int (-3))) κ1))) ∧ (r1 = 0 → Q (some (.int (-1))) κ1)))) : PC xl (n + 1) 147 0 [(0, .ref a0), (1, .int x1)] [] ι Q := by
  refine PC.pr1 (k := 0) (pc' := 1) (lv' := [(0, .ref a0), (1, .int x1)]) (st' := [.int x1]) rfl ?_
  refine PC.pr (k := 1) (pc' := 2) (lv' := [(0, .ref a0), (1, .int x1)]) (st' := [.long (x1).toInt64]) rfl ?_
  refine PC.pr (k := 1) (pc' := 3) (lv' := [(0, .ref a0), (1, .int x1)]) (st' := [.long 0, .long (x1).toInt64]) rfl ?_
  refine PC.pr (k := 1) (pc' := 6) (lv' := [(0, .ref a0), (1, .int x1)]) (st' := [.long 127, .long 0, .long (x1).toInt64]) rfl ?_
  refine (PC.callI (j := 148) (args := [.long (x1).toInt64, .long 0, .long 127]) (rest := []) (M := cM148) (ty := .boolean) rfl rfl rfl rfl rfl rfl (by decide) rfl rfl (by decide) ?_).weak
  refine PC.imp h (fun v1 κ1 h r1 hv => ?_)
  have h := h r1 hv
  refine PC.if1 (t := 14) rfl rfl (fun c => ?_) (fun c => ?_)
  · have h := h.1 (cmp_ne.1.mp c)
    refine PC.pr (k := 1) (pc' := 15) (lv' := [(0, .ref a0), (1, .int x1)]) (st' := [.ref a0]) rfl ?_
    refine PC.gI (ci := 9) (j := 13) rfl rfl (by decide) ?_
    refine PC.pr (k := 1) (pc' := 21) (lv' := [(0, .ref a0), (1, .int x1)]) (st' := [.int 160, .int (κ1 a0 13)]) rfl ?_
    refine PC.if2 (t := 27) rfl rfl (fun c => ?_) (fun c => ?_)
    · have h := h.1 (cmp_ne.1.mp c)
      refine PC.pr (k := 1) (pc' := 28) (lv' := [(0, .ref a0), (1, .int x1)]) (st' := [.ref a0]) rfl ?_
      refine PC.gR (ci := 9) (j := 12) rfl rfl (by decide) ?_
      refine PC.pr (k := 1) (pc' := 32) (lv' := [(0, .ref a0), (1, .int x1)]) (st' := [.ref a0, .ref (rf a0 12)]) rfl ?_
      refine PC.gI (ci := 9) (j := 13) rfl rfl (by decide) ?_
      refine PC.pr (k := 1) (pc' := 36) (lv' := [(0, .ref a0), (1, .int x1)]) (st' := [.int x1, .int (κ1 a0 13), .ref (rf a0 12)]) rfl ?_
      refine PC.wI rfl (fun c1 c2 => ?_)
      have h := h c1 c2
      refine PC.pr (k := 1) (pc' := 38) (lv' := [(0, .ref a0), (1, .int x1)]) (st' := [.ref a0]) rfl ?_
      refine PC.pr (k := 1) (pc' := 39) (lv' := [(0, .ref a0), (1, .int x1)]) (st' := [.ref a0, .ref a0]) rfl ?_
      refine PC.gI (ci := 9) (j := 13) rfl rfl (by decide) ?_
      refine PC.pr (k := 1) (pc' := 43) (lv' := [(0, .ref a0), (1, .int x1)]) (st' := [.int 1, .int ((up κ1 (rf a0 12) (κ1 a0 13).toNatClampNeg x1) a0 13), .ref a0]) rfl ?_
      refine PC.pr (k := 1) (pc' := 44) (lv' := [(0, .ref a0), (1, .int x1)]) (st' := [.int (((up κ1 (rf a0 12) (κ1 a0 13).toNatClampNeg x1) a0 13) + 1), .ref a0]) rfl ?_
      refine PC.pI (ci := 9) (j := 13) rfl rfl ?_
      refine PC.pr (k := 1) (pc' := 48) (lv' := [(0, .ref a0), (1, .int x1)]) (st' := [.ref a0]) rfl ?_
      refine PC.gI (ci := 9) (j := 13) rfl rfl (by decide) ?_
      exact PC.retI rfl h
    · have h := h.2 (cmp_ne.2.mp c)
      refine PC.pr (k := 1) (pc' := 26) (lv' := [(0, .ref a0), (1, .int x1)]) (st' := [.int (-3)]) rfl ?_
      exact PC.retI rfl h
  · have h := h.2 (cmp_ne.2.mp c)
    refine PC.pr (k := 1) (pc' := 13) (lv' := [(0, .ref a0), (1, .int x1)]) (st' := [.int (-1)]) rfl ?_
    exact PC.retI rfl h

/-- DoorPaintsModel.end(I)I -/
theorem t_149_0 {xl : List Int32} {n : Nat} {ι : IS} {Q : Option Value → IS → Prop} {a0 : Nat} {x1 : Int32} (h : PC xl n 148 0 [(0, .long (x1).toInt64), (2, .long 0), (4, .long ((ι a0 13)).toInt64)] [] ι (fun v1 κ1 => ∀ r1, v1 = some (.int r1) → ((¬ r1 = 0 → Q (some (.int (κ1 a0 13))) (up κ1 a0 13 x1)) ∧ (r1 = 0 → Q (some (.int (-1))) κ1)))) : PC xl (n + 1) 149 0 [(0, .ref a0), (1, .int x1)] [] ι Q := by
  refine PC.pr1 (k := 0) (pc' := 1) (lv' := [(0, .ref a0), (1, .int x1)]) (st' := [.int x1]) rfl ?_
  refine PC.pr (k := 1) (pc' := 2) (lv' := [(0, .ref a0), (1, .int x1)]) (st' := [.long (x1).toInt64]) rfl ?_
  refine PC.pr (k := 1) (pc' := 3) (lv' := [(0, .ref a0), (1, .int x1)]) (st' := [.long 0, .long (x1).toInt64]) rfl ?_
  refine PC.pr (k := 1) (pc' := 4) (lv' := [(0, .ref a0), (1, .int x1)]) (st' := [.ref a0, .long 0, .long (x1).toInt64]) rfl ?_
  refine PC.gI (ci := 9) (j := 13) rfl rfl (by decide) ?_
  refine PC.pr (k := 1) (pc' := 8) (lv' := [(0, .ref a0), (1, .int x1)]) (st' := [.long ((ι a0 13)).toInt64, .long 0, .long (x1).toInt64]) rfl ?_
  refine (PC.callI (j := 148) (args := [.long (x1).toInt64, .long 0, .long ((ι a0 13)).toInt64]) (rest := []) (M := cM148) (ty := .boolean) rfl rfl rfl rfl rfl rfl (by decide) rfl rfl (by decide) ?_).weak
  refine PC.imp h (fun v1 κ1 h r1 hv => ?_)
  have h := h r1 hv
  refine PC.if1 (t := 16) rfl rfl (fun c => ?_) (fun c => ?_)
  · have h := h.1 (cmp_ne.1.mp c)
    refine PC.pr (k := 1) (pc' := 17) (lv' := [(0, .ref a0), (1, .int x1)]) (st' := [.ref a0]) rfl ?_
    refine PC.gI (ci := 9) (j := 13) rfl rfl (by decide) ?_
    refine PC.pr (k := 1) (pc' := 21) (lv' := [(2, .int (κ1 a0 13)), (0, .ref a0), (1, .int x1)]) (st' := []) rfl ?_
    refine PC.pr (k := 1) (pc' := 22) (lv' := [(2, .int (κ1 a0 13)), (0, .ref a0), (1, .int x1)]) (st' := [.ref a0]) rfl ?_
    refine PC.pr (k := 1) (pc' := 23) (lv' := [(2, .int (κ1 a0 13)), (0, .ref a0), (1, .int x1)]) (st' := [.int x1, .ref a0]) rfl ?_
    refine PC.pI (ci := 9) (j := 13) rfl rfl ?_
    refine PC.pr (k := 1) (pc' := 27) (lv' := [(2, .int (κ1 a0 13)), (0, .ref a0), (1, .int x1)]) (st' := [.int (κ1 a0 13)]) rfl ?_
    exact PC.retI rfl h
  · have h := h.2 (cmp_ne.2.mp c)
    refine PC.pr (k := 1) (pc' := 15) (lv' := [(0, .ref a0), (1, .int x1)]) (st' := [.int (-1)]) rfl ?_
    exact PC.retI rfl h

/-- DoorPaintsModel.text()I -/
theorem t_150_0 {xl : List Int32} {n : Nat} {ι : IS} {Q : Option Value → IS → Prop} {a0 : Nat} (h : PC xl n 145 0 [(0, .ref a0)] [] (up (up ι a0 18 0) a0 14 0) (fun _ κ1 => PC xl n 151 0 [(0, .ref a0)] [] κ1 (fun _ κ2 => PC xl n 150 20 [(0, .ref a0), (1, .int 0)] [] κ2 Q))) : PC xl (n + 1) 150 0 [(0, .ref a0)] [] ι Q := by
  refine PC.pr1 (k := 0) (pc' := 1) (lv' := [(0, .ref a0)]) (st' := [.int 0]) rfl ?_
  refine PC.pr (k := 1) (pc' := 2) (lv' := [(1, .int 0), (0, .ref a0)]) (st' := []) rfl ?_
  refine PC.pr (k := 1) (pc' := 3) (lv' := [(1, .int 0), (0, .ref a0)]) (st' := [.ref a0]) rfl ?_
  refine PC.pr (k := 1) (pc' := 4) (lv' := [(1, .int 0), (0, .ref a0)]) (st' := [.int 0, .ref a0]) rfl ?_
  refine PC.pI (ci := 9) (j := 18) rfl rfl ?_
  refine PC.pr (k := 1) (pc' := 8) (lv' := [(1, .int 0), (0, .ref a0)]) (st' := [.ref a0]) rfl ?_
  refine PC.pr (k := 1) (pc' := 9) (lv' := [(1, .int 0), (0, .ref a0)]) (st' := [.int 0, .ref a0]) rfl ?_
  refine PC.pI (ci := 9) (j := 14) rfl rfl ?_
  refine PC.pr (k := 1) (pc' := 13) (lv' := [(1, .int 0), (0, .ref a0)]) (st' := [.ref a0]) rfl ?_
  refine (PC.callV (j := 145) (args := [.ref a0]) (rest := []) (M := cM145) rfl rfl rfl rfl rfl rfl (by decide) rfl rfl ?_).weak
  refine PC.imp h (fun _ κ1 h => ?_)
  refine PC.pr (k := 1) (pc' := 17) (lv' := [(1, .int 0), (0, .ref a0)]) (st' := [.ref a0]) rfl ?_
  refine (PC.callV (j := 151) (args := [.ref a0]) (rest := []) (M := cM151) rfl rfl rfl rfl rfl rfl (by decide) rfl rfl ?_).weak
  refine PC.imp h (fun _ κ2 h => ?_)
  exact PC.lv (lvE.cons rfl (lvE.cons rfl (lvE.nil))) h
theorem t_150_20 {xl : List Int32} {n : Nat} {ι : IS} {Q : Option Value → IS → Prop} {a0 : Nat} {x1 : Int32} (h : ((¬ (ι a0 18) = 0 → PC xl n 150 44 [(0, .ref a0), (1, .int x1)] [] ι Q) ∧ ((ι a0 18) = 0 → (((ι a0 16) = 0 → PC xl n 150 44 [(0, .ref a0), (1, .int x1)] [] ι Q) ∧ (¬ (ι a0 16) = 0 → PC xl n 154 0 [(0, .ref a0)] [] ι (fun _ κ1 => PC xl n 150 20 [(0, .ref a0), (1, .int (x1 + 1))] [] κ1 Q)))))) : PC xl (n + 1) 150 20 [(0, .ref a0), (1, .int x1)] [] ι Q := by
  refine PC.pr1 (k := 0) (pc' := 21) (lv' := [(0, .ref a0), (1, .int x1)]) (st' := [.ref a0]) rfl ?_
  refine PC.gI (ci := 9) (j := 18) rfl rfl (by decide) ?_
  refine PC.if1 (t := 44) rfl rfl (fun c => ?_) (fun c => ?_)
  · have h := h.1 (cmp_ne.1.mp c)
    exact h
  · have h := h.2 (cmp_ne.2.mp c)
    refine PC.pr (k := 1) (pc' := 28) (lv' := [(0, .ref a0), (1, .int x1)]) (st' := [.ref a0]) rfl ?_
    refine PC.gI (ci := 9) (j := 16) rfl rfl (by decide) ?_
    refine PC.if1 (t := 44) rfl rfl (fun c => ?_) (fun c => ?_)
    · have h := h.1 (cmp_eq.1.mp c)
      exact h
    · have h := h.2 (cmp_eq.2.mp c)
      refine PC.pr (k := 1) (pc' := 35) (lv' := [(0, .ref a0), (1, .int x1)]) (st' := [.ref a0]) rfl ?_
      refine (PC.callV (j := 154) (args := [.ref a0]) (rest := []) (M := cM154) rfl rfl rfl rfl rfl rfl (by decide) rfl rfl ?_).weak
      refine PC.imp h (fun _ κ1 h => ?_)
      refine PC.pr (k := 1) (pc' := 41) (lv' := [(1, .int (x1 + 1)), (0, .ref a0)]) (st' := []) rfl ?_
      refine PC.pr (k := 1) (pc' := 20) (lv' := [(1, .int (x1 + 1)), (0, .ref a0)]) (st' := []) rfl ?_
      exact PC.lv (lvE.cons rfl (lvE.cons rfl (lvE.nil))) h
theorem t_150_44 {xl : List Int32} {n : Nat} {ι : IS} {Q : Option Value → IS → Prop} {a0 : Nat} {x1 : Int32} (h : ((¬ (ι a0 18) = 0 → PC xl n 150 84 [(0, .ref a0), (1, .int x1)] [] ι Q) ∧ ((ι a0 18) = 0 → ((¬ (ι a0 9) < (ι a0 6) → PC xl n 153 0 [(0, .ref a0), (1, .int 0), (2, .int 6)] [] ι (fun _ κ1 => PC xl n 150 84 [(0, .ref a0), (1, .int x1)] [] κ1 Q)) ∧ ((ι a0 9) < (ι a0 6) → ((¬ (ι a0 10) < (ι a0 7) → PC xl n 153 0 [(0, .ref a0), (1, .int 0), (2, .int 6)] [] ι (fun _ κ2 => PC xl n 150 84 [(0, .ref a0), (1, .int x1)] [] κ2 Q)) ∧ ((ι a0 10) < (ι a0 7) → PC xl n 153 0 [(0, .ref a0), (1, .int 1), (2, .int 6)] [] ι (fun _ κ3 => PC xl n 150 84 [(0, .ref a0), (1, .int x1)] [] κ3 Q)))))))) : PC xl (n + 1) 150 44 [(0, .ref a0), (1, .int x1)] [] ι Q := by
  refine PC.pr1 (k := 0) (pc' := 45) (lv' := [(0, .ref a0), (1, .int x1)]) (st' := [.ref a0]) rfl ?_
  refine PC.gI (ci := 9) (j := 18) rfl rfl (by decide) ?_
  refine PC.if1 (t := 84) rfl rfl (fun c => ?_) (fun c => ?_)
  · have h := h.1 (cmp_ne.1.mp c)
    exact h
  · have h := h.2 (cmp_ne.2.mp c)
    refine PC.pr (k := 1) (pc' := 52) (lv' := [(0, .ref a0), (1, .int x1)]) (st' := [.ref a0]) rfl ?_
    refine PC.pr (k := 1) (pc' := 53) (lv' := [(0, .ref a0), (1, .int x1)]) (st' := [.ref a0, .ref a0]) rfl ?_
    refine PC.gI (ci := 9) (j := 9) rfl rfl (by decide) ?_
    refine PC.pr (k := 1) (pc' := 57) (lv' := [(0, .ref a0), (1, .int x1)]) (st' := [.ref a0, .int (ι a0 9), .ref a0]) rfl ?_
    refine PC.gI (ci := 9) (j := 6) rfl rfl (by decide) ?_
    refine PC.if2 (t := 78) rfl rfl (fun c => ?_) (fun c => ?_)
    · have h := h.1 (cmp_ge.1.mp c)
      refine PC.pr (k := 1) (pc' := 79) (lv' := [(0, .ref a0), (1, .int x1)]) (st' := [.int 0, .ref a0]) rfl ?_
      refine PC.pr (k := 1) (pc' := 81) (lv' := [(0, .ref a0), (1, .int x1)]) (st' := [.int 6, .int 0, .ref a0]) rfl ?_
      refine (PC.callV (j := 153) (args := [.ref a0, .int 0, .int 6]) (rest := []) (M := cM153) rfl rfl rfl rfl rfl rfl (by decide) rfl rfl ?_).weak
      refine PC.imp h (fun _ κ1 h => ?_)
      exact h
    · have h := h.2 (cmp_ge.2.mp c)
      refine PC.pr (k := 1) (pc' := 64) (lv' := [(0, .ref a0), (1, .int x1)]) (st' := [.ref a0, .ref a0]) rfl ?_
      refine PC.gI (ci := 9) (j := 10) rfl rfl (by decide) ?_
      refine PC.pr (k := 1) (pc' := 68) (lv' := [(0, .ref a0), (1, .int x1)]) (st' := [.ref a0, .int (ι a0 10), .ref a0]) rfl ?_
      refine PC.gI (ci := 9) (j := 7) rfl rfl (by decide) ?_
      refine PC.if2 (t := 78) rfl rfl (fun c => ?_) (fun c => ?_)
      · have h := h.1 (cmp_ge.1.mp c)
        refine PC.pr (k := 1) (pc' := 79) (lv' := [(0, .ref a0), (1, .int x1)]) (st' := [.int 0, .ref a0]) rfl ?_
        refine PC.pr (k := 1) (pc' := 81) (lv' := [(0, .ref a0), (1, .int x1)]) (st' := [.int 6, .int 0, .ref a0]) rfl ?_
        refine (PC.callV (j := 153) (args := [.ref a0, .int 0, .int 6]) (rest := []) (M := cM153) rfl rfl rfl rfl rfl rfl (by decide) rfl rfl ?_).weak
        refine PC.imp h (fun _ κ2 h => ?_)
        exact h
      · have h := h.2 (cmp_ge.2.mp c)
        refine PC.pr (k := 1) (pc' := 75) (lv' := [(0, .ref a0), (1, .int x1)]) (st' := [.int 1, .ref a0]) rfl ?_
        refine PC.pr (k := 1) (pc' := 79) (lv' := [(0, .ref a0), (1, .int x1)]) (st' := [.int 1, .ref a0]) rfl ?_
        refine PC.pr (k := 1) (pc' := 81) (lv' := [(0, .ref a0), (1, .int x1)]) (st' := [.int 6, .int 1, .ref a0]) rfl ?_
        refine (PC.callV (j := 153) (args := [.ref a0, .int 1, .int 6]) (rest := []) (M := cM153) rfl rfl rfl rfl rfl rfl (by decide) rfl rfl ?_).weak
        refine PC.imp h (fun _ κ3 h => ?_)
        exact h
theorem t_150_84 {xl : List Int32} {n : Nat} {ι : IS} {Q : Option Value → IS → Prop} {a0 : Nat} {x1 : Int32} (h : ((¬ 0 < ((up ι a0 13 0) a0 18) → PC xl n 146 0 [(0, .ref a0)] [] (up ι a0 13 0) (fun _ κ1 => Q (some (.int x1)) κ1)) ∧ (0 < ((up ι a0 13 0) a0 18) → Q (some (.int ((-10) - ((up ι a0 13 0) a0 19)))) (up ι a0 13 0)))) : PC xl (n + 1) 150 84 [(0, .ref a0), (1, .int x1)] [] ι Q := by
  refine PC.pr1 (k := 0) (pc' := 85) (lv' := [(0, .ref a0), (1, .int x1)]) (st' := [.ref a0]) rfl ?_
  refine PC.pr (k := 1) (pc' := 86) (lv' := [(0, .ref a0), (1, .int x1)]) (st' := [.int 0, .ref a0]) rfl ?_
  refine PC.pI (ci := 9) (j := 13) rfl rfl ?_
  refine PC.pr (k := 1) (pc' := 90) (lv' := [(0, .ref a0), (1, .int x1)]) (st' := [.ref a0]) rfl ?_
  refine PC.gI (ci := 9) (j := 18) rfl rfl (by decide) ?_
  refine PC.if1 (t := 104) rfl rfl (fun c => ?_) (fun c => ?_)
  · have h := h.1 (cmp_le.1.mp c)
    refine PC.pr (k := 1) (pc' := 105) (lv' := [(0, .ref a0), (1, .int x1)]) (st' := [.ref a0]) rfl ?_
    refine (PC.callV (j := 146) (args := [.ref a0]) (rest := []) (M := cM146) rfl rfl rfl rfl rfl rfl (by decide) rfl rfl ?_).weak
    refine PC.imp h (fun _ κ1 h => ?_)
    refine PC.pr (k := 1) (pc' := 109) (lv' := [(0, .ref a0), (1, .int x1)]) (st' := [.int x1]) rfl ?_
    exact PC.retI rfl h
  · have h := h.2 (cmp_le.2.mp c)
    refine PC.pr (k := 1) (pc' := 98) (lv' := [(0, .ref a0), (1, .int x1)]) (st' := [.int (-10)]) rfl ?_
    refine PC.pr (k := 1) (pc' := 99) (lv' := [(0, .ref a0), (1, .int x1)]) (st' := [.ref a0, .int (-10)]) rfl ?_
    refine PC.gI (ci := 9) (j := 19) rfl rfl (by decide) ?_
    refine PC.pr (k := 1) (pc' := 103) (lv' := [(0, .ref a0), (1, .int x1)]) (st' := [.int ((-10) - ((up ι a0 13 0) a0 19))]) rfl ?_
    exact PC.retI rfl h

/-- DoorPaintsModel.readLine()V -/
theorem t_154_0 {xl : List Int32} {n : Nat} {ι : IS} {Q : Option Value → IS → Prop} {a0 : Nat} (h : ((¬ (ι a0 16) = 1 → PC xl n 154 17 [(0, .ref a0)] [.int (-4)] ι Q) ∧ ((ι a0 16) = 1 → PC xl n 155 0 [(0, .ref a0)] [] ι (fun v1 κ1 => ∀ r1, v1 = some (.int r1) → PC xl n 154 17 [(0, .ref a0)] [.int r1] κ1 Q)))) : PC xl (n + 1) 154 0 [(0, .ref a0)] [] ι Q := by
  refine PC.pr1 (k := 0) (pc' := 1) (lv' := [(0, .ref a0)]) (st' := [.ref a0]) rfl ?_
  refine PC.gI (ci := 9) (j := 16) rfl rfl (by decide) ?_
  refine PC.pr (k := 1) (pc' := 5) (lv' := [(0, .ref a0)]) (st' := [.int 1, .int (ι a0 16)]) rfl ?_
  refine PC.if2 (t := 15) rfl rfl (fun c => ?_) (fun c => ?_)
  · have h := h.1 (cmp_ne.1.mp c)
    refine PC.pr (k := 1) (pc' := 17) (lv' := [(0, .ref a0)]) (st' := [.int (-4)]) rfl ?_
    exact h
  · have h := h.2 (cmp_ne.2.mp c)
    refine PC.pr (k := 1) (pc' := 9) (lv' := [(0, .ref a0)]) (st' := [.ref a0]) rfl ?_
    refine (PC.callI (j := 155) (args := [.ref a0]) (rest := []) (M := cM155) (ty := .int) rfl rfl rfl rfl rfl rfl (by decide) rfl rfl (by decide) ?_).weak
    refine PC.imp h (fun v1 κ1 h r1 hv => ?_)
    have h := h r1 hv
    refine PC.pr (k := 1) (pc' := 17) (lv' := [(0, .ref a0)]) (st' := [.int r1]) rfl ?_
    exact h
theorem t_154_17 {xl : List Int32} {n : Nat} {ι : IS} {Q : Option Value → IS → Prop} {a0 : Nat} {u0 : Int32} (h : ((u0 = (-4) → PC xl n 154 30 [(0, .ref a0), (1, .int u0)] [.int 0, .ref a0] ι Q) ∧ (¬ u0 = (-4) → PC xl n 154 30 [(0, .ref a0), (1, .int u0)] [.int 1, .ref a0] ι Q))) : PC xl (n + 1) 154 17 [(0, .ref a0)] [.int u0] ι Q := by
  refine PC.pr1 (k := 0) (pc' := 18) (lv' := [(1, .int u0), (0, .ref a0)]) (st' := []) rfl ?_
  refine PC.pr (k := 1) (pc' := 19) (lv' := [(1, .int u0), (0, .ref a0)]) (st' := [.ref a0]) rfl ?_
  refine PC.pr (k := 1) (pc' := 20) (lv' := [(1, .int u0), (0, .ref a0)]) (st' := [.int u0, .ref a0]) rfl ?_
  refine PC.pr (k := 1) (pc' := 22) (lv' := [(1, .int u0), (0, .ref a0)]) (st' := [.int (-4), .int u0, .ref a0]) rfl ?_
  refine PC.if2 (t := 29) rfl rfl (fun c => ?_) (fun c => ?_)
  · have h := h.1 (cmp_eq.1.mp c)
    refine PC.pr (k := 1) (pc' := 30) (lv' := [(1, .int u0), (0, .ref a0)]) (st' := [.int 0, .ref a0]) rfl ?_
    exact PC.lv (lvE.cons rfl (lvE.cons rfl (lvE.nil))) h
  · have h := h.2 (cmp_eq.2.mp c)
    refine PC.pr (k := 1) (pc' := 26) (lv' := [(1, .int u0), (0, .ref a0)]) (st' := [.int 1, .ref a0]) rfl ?_
    refine PC.pr (k := 1) (pc' := 30) (lv' := [(1, .int u0), (0, .ref a0)]) (st' := [.int 1, .ref a0]) rfl ?_
    exact PC.lv (lvE.cons rfl (lvE.cons rfl (lvE.nil))) h
theorem t_154_30 {xl : List Int32} {n : Nat} {ι : IS} {Q : Option Value → IS → Prop} {a0 : Nat} {x1 : Int32} {u0 : Int32} {u1 : Nat} (h : PC xl n 153 0 [(0, .ref u1), (1, .int u0), (2, .int 2)] [] ι (fun _ κ1 => ((¬ x1 = 4 → ((4 < x1 → PC xl n 154 69 [(0, .ref a0), (1, .int x1)] [.ref a0] κ1 Q) ∧ (¬ 4 < x1 → ((¬ (κ1 a0 6) < 4 → PC xl n 154 74 [(0, .ref a0), (1, .int x1)] [.int 0, .ref a0] κ1 Q) ∧ ((κ1 a0 6) < 4 → PC xl n 154 69 [(0, .ref a0), (1, .int x1)] [.ref a0] κ1 Q))))) ∧ (x1 = 4 → ((¬ (κ1 a0 7) < 4 → PC xl n 154 74 [(0, .ref a0), (1, .int x1)] [.int 0, .ref a0] κ1 Q) ∧ ((κ1 a0 7) < 4 → PC xl n 154 74 [(0, .ref a0), (1, .int x1)] [.int 1, .ref a0] κ1 Q)))))) : PC xl (n + 1) 154 30 [(0, .ref a0), (1, .int x1)] [.int u0, .ref u1] ι Q := by
  refine PC.pr1 (k := 0) (pc' := 31) (lv' := [(0, .ref a0), (1, .int x1)]) (st' := [.int 2, .int u0, .ref u1]) rfl ?_
  refine (PC.callV (j := 153) (args := [.ref u1, .int u0, .int 2]) (rest := []) (M := cM153) rfl rfl rfl rfl rfl rfl (by decide) rfl rfl ?_).weak
  refine PC.imp h (fun _ κ1 h => ?_)
  refine PC.pr (k := 1) (pc' := 35) (lv' := [(0, .ref a0), (1, .int x1)]) (st' := [.ref a0]) rfl ?_
  refine PC.pr (k := 1) (pc' := 36) (lv' := [(0, .ref a0), (1, .int x1)]) (st' := [.int x1, .ref a0]) rfl ?_
  refine PC.pr (k := 1) (pc' := 37) (lv' := [(0, .ref a0), (1, .int x1)]) (st' := [.int 4, .int x1, .ref a0]) rfl ?_
  refine PC.if2 (t := 56) rfl rfl (fun c => ?_) (fun c => ?_)
  · have h := h.1 (cmp_ne.1.mp c)
    refine PC.pr (k := 1) (pc' := 57) (lv' := [(0, .ref a0), (1, .int x1)]) (st' := [.int x1, .ref a0]) rfl ?_
    refine PC.pr (k := 1) (pc' := 58) (lv' := [(0, .ref a0), (1, .int x1)]) (st' := [.int 4, .int x1, .ref a0]) rfl ?_
    refine PC.if2 (t := 69) rfl rfl (fun c => ?_) (fun c => ?_)
    · have h := h.1 (cmp_gt.1.mp c)
      exact h
    · have h := h.2 (cmp_gt.2.mp c)
      refine PC.pr (k := 1) (pc' := 62) (lv' := [(0, .ref a0), (1, .int x1)]) (st' := [.ref a0, .ref a0]) rfl ?_
      refine PC.gI (ci := 9) (j := 6) rfl rfl (by decide) ?_
      refine PC.pr (k := 1) (pc' := 66) (lv' := [(0, .ref a0), (1, .int x1)]) (st' := [.int 4, .int (κ1 a0 6), .ref a0]) rfl ?_
      refine PC.if2 (t := 73) rfl rfl (fun c => ?_) (fun c => ?_)
      · have h := h.1 (cmp_ge.1.mp c)
        refine PC.pr (k := 1) (pc' := 74) (lv' := [(0, .ref a0), (1, .int x1)]) (st' := [.int 0, .ref a0]) rfl ?_
        exact h
      · have h := h.2 (cmp_ge.2.mp c)
        exact h
  · have h := h.2 (cmp_ne.2.mp c)
    refine PC.pr (k := 1) (pc' := 41) (lv' := [(0, .ref a0), (1, .int x1)]) (st' := [.ref a0, .ref a0]) rfl ?_
    refine PC.gI (ci := 9) (j := 7) rfl rfl (by decide) ?_
    refine PC.pr (k := 1) (pc' := 45) (lv' := [(0, .ref a0), (1, .int x1)]) (st' := [.int 4, .int (κ1 a0 7), .ref a0]) rfl ?_
    refine PC.if2 (t := 52) rfl rfl (fun c => ?_) (fun c => ?_)
    · have h := h.1 (cmp_ge.1.mp c)
      refine PC.pr (k := 1) (pc' := 53) (lv' := [(0, .ref a0), (1, .int x1)]) (st' := [.int 0, .ref a0]) rfl ?_
      refine PC.pr (k := 1) (pc' := 74) (lv' := [(0, .ref a0), (1, .int x1)]) (st' := [.int 0, .ref a0]) rfl ?_
      exact h
    · have h := h.2 (cmp_ge.2.mp c)
      refine PC.pr (k := 1) (pc' := 49) (lv' := [(0, .ref a0), (1, .int x1)]) (st' := [.int 1, .ref a0]) rfl ?_
      refine PC.pr (k := 1) (pc' := 74) (lv' := [(0, .ref a0), (1, .int x1)]) (st' := [.int 1, .ref a0]) rfl ?_
      exact h
theorem t_154_69 {xl : List Int32} {n : Nat} {ι : IS} {Q : Option Value → IS → Prop} {a0 : Nat} {x1 : Int32} {u0 : Nat} (h : PC xl n 154 74 [(0, .ref a0), (1, .int x1)] [.int 1, .ref u0] ι Q) : PC xl (n + 1) 154 69 [(0, .ref a0), (1, .int x1)] [.ref u0] ι Q := by
  refine PC.pr1 (k := 0) (pc' := 70) (lv' := [(0, .ref a0), (1, .int x1)]) (st' := [.int 1, .ref u0]) rfl ?_
  refine PC.pr (k := 1) (pc' := 74) (lv' := [(0, .ref a0), (1, .int x1)]) (st' := [.int 1, .ref u0]) rfl ?_
  exact h
theorem t_154_74 {xl : List Int32} {n : Nat} {ι : IS} {Q : Option Value → IS → Prop} {a0 : Nat} {x1 : Int32} {u0 : Int32} {u1 : Nat} (h : PC xl n 153 0 [(0, .ref u1), (1, .int u0), (2, .int 5)] [] ι (fun _ κ1 => ((¬ x1 = 6 → PC xl n 154 92 [(0, .ref a0), (1, .int x1)] [.ref a0] κ1 Q) ∧ (x1 = 6 → ((¬ (κ1 a0 8) = 0 → PC xl n 154 97 [(0, .ref a0), (1, .int x1)] [.int 0, .ref a0] κ1 Q) ∧ ((κ1 a0 8) = 0 → PC xl n 154 92 [(0, .ref a0), (1, .int x1)] [.ref a0] κ1 Q)))))) : PC xl (n + 1) 154 74 [(0, .ref a0), (1, .int x1)] [.int u0, .ref u1] ι Q := by
  refine PC.pr1 (k := 0) (pc' := 75) (lv' := [(0, .ref a0), (1, .int x1)]) (st' := [.int 5, .int u0, .ref u1]) rfl ?_
  refine (PC.callV (j := 153) (args := [.ref u1, .int u0, .int 5]) (rest := []) (M := cM153) rfl rfl rfl rfl rfl rfl (by decide) rfl rfl ?_).weak
  refine PC.imp h (fun _ κ1 h => ?_)
  refine PC.pr (k := 1) (pc' := 79) (lv' := [(0, .ref a0), (1, .int x1)]) (st' := [.ref a0]) rfl ?_
  refine PC.pr (k := 1) (pc' := 80) (lv' := [(0, .ref a0), (1, .int x1)]) (st' := [.int x1, .ref a0]) rfl ?_
  refine PC.pr (k := 1) (pc' := 82) (lv' := [(0, .ref a0), (1, .int x1)]) (st' := [.int 6, .int x1, .ref a0]) rfl ?_
  refine PC.if2 (t := 92) rfl rfl (fun c => ?_) (fun c => ?_)
  · have h := h.1 (cmp_ne.1.mp c)
    exact h
  · have h := h.2 (cmp_ne.2.mp c)
    refine PC.pr (k := 1) (pc' := 86) (lv' := [(0, .ref a0), (1, .int x1)]) (st' := [.ref a0, .ref a0]) rfl ?_
    refine PC.gI (ci := 9) (j := 8) rfl rfl (by decide) ?_
    refine PC.if1 (t := 96) rfl rfl (fun c => ?_) (fun c => ?_)
    · have h := h.1 (cmp_ne.1.mp c)
      refine PC.pr (k := 1) (pc' := 97) (lv' := [(0, .ref a0), (1, .int x1)]) (st' := [.int 0, .ref a0]) rfl ?_
      exact h
    · have h := h.2 (cmp_ne.2.mp c)
      exact h
theorem t_154_92 {xl : List Int32} {n : Nat} {ι : IS} {Q : Option Value → IS → Prop} {a0 : Nat} {x1 : Int32} {u0 : Nat} (h : PC xl n 154 97 [(0, .ref a0), (1, .int x1)] [.int 1, .ref u0] ι Q) : PC xl (n + 1) 154 92 [(0, .ref a0), (1, .int x1)] [.ref u0] ι Q := by
  refine PC.pr1 (k := 0) (pc' := 93) (lv' := [(0, .ref a0), (1, .int x1)]) (st' := [.int 1, .ref u0]) rfl ?_
  refine PC.pr (k := 1) (pc' := 97) (lv' := [(0, .ref a0), (1, .int x1)]) (st' := [.int 1, .ref u0]) rfl ?_
  exact h
theorem t_154_97 {xl : List Int32} {n : Nat} {ι : IS} {Q : Option Value → IS → Prop} {a0 : Nat} {x1 : Int32} {u0 : Int32} {u1 : Nat} (h : PC xl n 153 0 [(0, .ref u1), (1, .int u0), (2, .int 4)] [] ι (fun _ κ1 => ((¬ (κ1 a0 8) = 0 → PC xl n 154 115 [(0, .ref a0), (1, .int x1)] [.ref a0] κ1 Q) ∧ ((κ1 a0 8) = 0 → ((¬ x1 = 6 → PC xl n 154 123 [(0, .ref a0), (1, .int x1)] [] (up κ1 a0 8 0) Q) ∧ (x1 = 6 → PC xl n 154 115 [(0, .ref a0), (1, .int x1)] [.ref a0] κ1 Q)))))) : PC xl (n + 1) 154 97 [(0, .ref a0), (1, .int x1)] [.int u0, .ref u1] ι Q := by
  refine PC.pr1 (k := 0) (pc' := 98) (lv' := [(0, .ref a0), (1, .int x1)]) (st' := [.int 4, .int u0, .ref u1]) rfl ?_
  refine (PC.callV (j := 153) (args := [.ref u1, .int u0, .int 4]) (rest := []) (M := cM153) rfl rfl rfl rfl rfl rfl (by decide) rfl rfl ?_).weak
  refine PC.imp h (fun _ κ1 h => ?_)
  refine PC.pr (k := 1) (pc' := 102) (lv' := [(0, .ref a0), (1, .int x1)]) (st' := [.ref a0]) rfl ?_
  refine PC.pr (k := 1) (pc' := 103) (lv' := [(0, .ref a0), (1, .int x1)]) (st' := [.ref a0, .ref a0]) rfl ?_
  refine PC.gI (ci := 9) (j := 8) rfl rfl (by decide) ?_
  refine PC.if1 (t := 115) rfl rfl (fun c => ?_) (fun c => ?_)
  · have h := h.1 (cmp_ne.1.mp c)
    exact h
  · have h := h.2 (cmp_ne.2.mp c)
    refine PC.pr (k := 1) (pc' := 110) (lv' := [(0, .ref a0), (1, .int x1)]) (st' := [.int x1, .ref a0]) rfl ?_
    refine PC.pr (k := 1) (pc' := 112) (lv' := [(0, .ref a0), (1, .int x1)]) (st' := [.int 6, .int x1, .ref a0]) rfl ?_
    refine PC.if2 (t := 119) rfl rfl (fun c => ?_) (fun c => ?_)
    · have h := h.1 (cmp_ne.1.mp c)
      refine PC.pr (k := 1) (pc' := 120) (lv' := [(0, .ref a0), (1, .int x1)]) (st' := [.int 0, .ref a0]) rfl ?_
      refine PC.pI (ci := 9) (j := 8) rfl rfl ?_
      exact h
    · have h := h.2 (cmp_ne.2.mp c)
      exact h
theorem t_154_115 {xl : List Int32} {n : Nat} {ι : IS} {Q : Option Value → IS → Prop} {a0 : Nat} {x1 : Int32} {u0 : Nat} (h : PC xl n 154 123 [(0, .ref a0), (1, .int x1)] [] (up ι u0 8 1) Q) : PC xl (n + 1) 154 115 [(0, .ref a0), (1, .int x1)] [.ref u0] ι Q := by
  refine PC.pr1 (k := 0) (pc' := 116) (lv' := [(0, .ref a0), (1, .int x1)]) (st' := [.int 1, .ref u0]) rfl ?_
  refine PC.pr (k := 1) (pc' := 120) (lv' := [(0, .ref a0), (1, .int x1)]) (st' := [.int 1, .ref u0]) rfl ?_
  refine PC.pI (ci := 9) (j := 8) rfl rfl ?_
  exact h
theorem t_154_123 {xl : List Int32} {n : Nat} {ι : IS} {Q : Option Value → IS → Prop} {a0 : Nat} {x1 : Int32} (h : PC xl n 151 0 [(0, .ref a0)] [] ι (fun _ κ1 => ((¬ 0 < (κ1 a0 18) → PC xl n 158 0 [(0, .ref a0), (1, .int x1)] [] κ1 (fun _ κ2 => PC xl n 154 140 [(0, .ref a0), (1, .int x1)] [] κ2 Q)) ∧ (0 < (κ1 a0 18) → Q none κ1)))) : PC xl (n + 1) 154 123 [(0, .ref a0), (1, .int x1)] [] ι Q := by
  refine PC.pr1 (k := 0) (pc' := 124) (lv' := [(0, .ref a0), (1, .int x1)]) (st' := [.ref a0]) rfl ?_
  refine (PC.callV (j := 151) (args := [.ref a0]) (rest := []) (M := cM151) rfl rfl rfl rfl rfl rfl (by decide) rfl rfl ?_).weak
  refine PC.imp h (fun _ κ1 h => ?_)
  refine PC.pr (k := 1) (pc' := 128) (lv' := [(0, .ref a0), (1, .int x1)]) (st' := [.ref a0]) rfl ?_
  refine PC.gI (ci := 9) (j := 18) rfl rfl (by decide) ?_
  refine PC.if1 (t := 135) rfl rfl (fun c => ?_) (fun c => ?_)
  · have h := h.1 (cmp_le.1.mp c)
    refine PC.pr (k := 1) (pc' := 136) (lv' := [(0, .ref a0), (1, .int x1)]) (st' := [.ref a0]) rfl ?_
    refine PC.pr (k := 1) (pc' := 137) (lv' := [(0, .ref a0), (1, .int x1)]) (st' := [.int x1, .ref a0]) rfl ?_
    refine (PC.callV (j := 158) (args := [.ref a0, .int x1]) (rest := []) (M := cM158) rfl rfl rfl rfl rfl rfl (by decide) rfl rfl ?_).weak
    refine PC.imp h (fun _ κ2 h => ?_)
    exact h
  · have h := h.2 (cmp_le.2.mp c)
    exact PC.retV rfl h
theorem t_154_140 {xl : List Int32} {n : Nat} {ι : IS} {Q : Option Value → IS → Prop} {a0 : Nat} {w1 : Value} (h : ((¬ (ι a0 18) = 0 → PC xl n 151 0 [(0, .ref a0)] [] ι (fun _ κ1 => Q none κ1)) ∧ ((ι a0 18) = 0 → ((¬ (ι a0 16) = 3 → PC xl n 153 0 [(0, .ref a0), (1, .int 0), (2, .int 2)] [] ι (fun _ κ2 => PC xl n 151 0 [(0, .ref a0)] [] κ2 (fun _ κ3 => Q none κ3))) ∧ ((ι a0 16) = 3 → PC xl n 153 0 [(0, .ref a0), (1, .int 1), (2, .int 2)] [] ι (fun _ κ4 => PC xl n 151 0 [(0, .ref a0)] [] κ4 (fun _ κ5 => Q none κ5))))))) : PC xl (n + 1) 154 140 [(0, .ref a0), (1, w1)] [] ι Q := by
  refine PC.pr1 (k := 0) (pc' := 141) (lv' := [(0, .ref a0), (1, w1)]) (st' := [.ref a0]) rfl ?_
  refine PC.gI (ci := 9) (j := 18) rfl rfl (by decide) ?_
  refine PC.if1 (t := 165) rfl rfl (fun c => ?_) (fun c => ?_)
  · have h := h.1 (cmp_ne.1.mp c)
    refine PC.pr (k := 1) (pc' := 166) (lv' := [(0, .ref a0), (1, w1)]) (st' := [.ref a0]) rfl ?_
    refine (PC.callV (j := 151) (args := [.ref a0]) (rest := []) (M := cM151) rfl rfl rfl rfl rfl rfl (by decide) rfl rfl ?_).weak
    refine PC.imp h (fun _ κ1 h => ?_)
    exact PC.retV rfl h
  · have h := h.2 (cmp_ne.2.mp c)
    refine PC.pr (k := 1) (pc' := 148) (lv' := [(0, .ref a0), (1, w1)]) (st' := [.ref a0]) rfl ?_
    refine PC.pr (k := 1) (pc' := 149) (lv' := [(0, .ref a0), (1, w1)]) (st' := [.ref a0, .ref a0]) rfl ?_
    refine PC.gI (ci := 9) (j := 16) rfl rfl (by decide) ?_
    refine PC.pr (k := 1) (pc' := 153) (lv' := [(0, .ref a0), (1, w1)]) (st' := [.int 3, .int (ι a0 16), .ref a0]) rfl ?_
    refine PC.if2 (t := 160) rfl rfl (fun c => ?_) (fun c => ?_)
    · have h := h.1 (cmp_ne.1.mp c)
      refine PC.pr (k := 1) (pc' := 161) (lv' := [(0, .ref a0), (1, w1)]) (st' := [.int 0, .ref a0]) rfl ?_
      refine PC.pr (k := 1) (pc' := 162) (lv' := [(0, .ref a0), (1, w1)]) (st' := [.int 2, .int 0, .ref a0]) rfl ?_
      refine (PC.callV (j := 153) (args := [.ref a0, .int 0, .int 2]) (rest := []) (M := cM153) rfl rfl rfl rfl rfl rfl (by decide) rfl rfl ?_).weak
      refine PC.imp h (fun _ κ2 h => ?_)
      refine PC.pr (k := 1) (pc' := 166) (lv' := [(0, .ref a0), (1, w1)]) (st' := [.ref a0]) rfl ?_
      refine (PC.callV (j := 151) (args := [.ref a0]) (rest := []) (M := cM151) rfl rfl rfl rfl rfl rfl (by decide) rfl rfl ?_).weak
      refine PC.imp h (fun _ κ3 h => ?_)
      exact PC.retV rfl h
    · have h := h.2 (cmp_ne.2.mp c)
      refine PC.pr (k := 1) (pc' := 157) (lv' := [(0, .ref a0), (1, w1)]) (st' := [.int 1, .ref a0]) rfl ?_
      refine PC.pr (k := 1) (pc' := 161) (lv' := [(0, .ref a0), (1, w1)]) (st' := [.int 1, .ref a0]) rfl ?_
      refine PC.pr (k := 1) (pc' := 162) (lv' := [(0, .ref a0), (1, w1)]) (st' := [.int 2, .int 1, .ref a0]) rfl ?_
      refine (PC.callV (j := 153) (args := [.ref a0, .int 1, .int 2]) (rest := []) (M := cM153) rfl rfl rfl rfl rfl rfl (by decide) rfl rfl ?_).weak
      refine PC.imp h (fun _ κ4 h => ?_)
      refine PC.pr (k := 1) (pc' := 166) (lv' := [(0, .ref a0), (1, w1)]) (st' := [.ref a0]) rfl ?_
      refine (PC.callV (j := 151) (args := [.ref a0]) (rest := []) (M := cM151) rfl rfl rfl rfl rfl rfl (by decide) rfl rfl ?_).weak
      refine PC.imp h (fun _ κ5 h => ?_)
      exact PC.retV rfl h

/-- DoorPaintsModel.readLineOf(I)V -/
theorem t_158_0 {xl : List Int32} {n : Nat} {ι : IS} {Q : Option Value → IS → Prop} {a0 : Nat} {x1 : Int32} (h : ((x1.toInt = 4 → PC xl n 159 0 [(0, .ref a0)] [] ι (fun _ κ1 => Q none κ1)) ∧ (x1.toInt = 5 → PC xl n 162 0 [(0, .ref a0)] [] ι (fun _ κ2 => Q none κ2)) ∧ (x1.toInt = 6 → PC xl n 163 0 [(0, .ref a0)] [] ι (fun _ κ3 => Q none κ3)) ∧ ((x1.toInt < 4 ∨ 6 < x1.toInt) → PC xl n 165 0 [(0, .ref a0), (1, .int x1)] [] ι (fun _ κ4 => Q none κ4)))) : PC xl (n + 1) 158 0 [(0, .ref a0), (1, .int x1)] [] ι Q := by
  refine PC.pr1 (k := 0) (pc' := 1) (lv' := [(0, .ref a0), (1, .int x1)]) (st' := [.int x1]) rfl ?_
  refine PC.tsw rfl (fun i off t ho ht hx => ?_) (fun t ht hx => ?_)
  · match i, ho, hx with
    | 0, ho, hx =>
      obtain rfl : (27 : Int) = off := Option.some.inj ho
      obtain rfl : 28 = t := Option.some.inj ht
      have h := h.1 (by simpa using hx)
      refine PC.pr (k := 1) (pc' := 29) (lv' := [(0, .ref a0), (1, .int x1)]) (st' := [.ref a0]) rfl ?_
      refine (PC.callV (j := 159) (args := [.ref a0]) (rest := []) (M := cM159) rfl rfl rfl rfl rfl rfl (by decide) rfl rfl ?_).weak
      refine PC.imp h (fun _ κ1 h => ?_)
      refine PC.pr (k := 1) (pc' := 54) (lv' := [(0, .ref a0), (1, .int x1)]) (st' := []) rfl ?_
      exact PC.retV rfl h
    | 1, ho, hx =>
      obtain rfl : (34 : Int) = off := Option.some.inj ho
      obtain rfl : 35 = t := Option.some.inj ht
      have h := h.2.1 (by simpa using hx)
      refine PC.pr (k := 1) (pc' := 36) (lv' := [(0, .ref a0), (1, .int x1)]) (st' := [.ref a0]) rfl ?_
      refine (PC.callV (j := 162) (args := [.ref a0]) (rest := []) (M := cM162) rfl rfl rfl rfl rfl rfl (by decide) rfl rfl ?_).weak
      refine PC.imp h (fun _ κ2 h => ?_)
      refine PC.pr (k := 1) (pc' := 54) (lv' := [(0, .ref a0), (1, .int x1)]) (st' := []) rfl ?_
      exact PC.retV rfl h
    | 2, ho, hx =>
      obtain rfl : (41 : Int) = off := Option.some.inj ho
      obtain rfl : 42 = t := Option.some.inj ht
      have h := h.2.2.1 (by simpa using hx)
      refine PC.pr (k := 1) (pc' := 43) (lv' := [(0, .ref a0), (1, .int x1)]) (st' := [.ref a0]) rfl ?_
      refine (PC.callV (j := 163) (args := [.ref a0]) (rest := []) (M := cM163) rfl rfl rfl rfl rfl rfl (by decide) rfl rfl ?_).weak
      refine PC.imp h (fun _ κ3 h => ?_)
      refine PC.pr (k := 1) (pc' := 54) (lv' := [(0, .ref a0), (1, .int x1)]) (st' := []) rfl ?_
      exact PC.retV rfl h
    | i + 3, ho, hx => cases ho
  · obtain rfl : 49 = t := Option.some.inj ht
    have h := h.2.2.2 hx
    refine PC.pr (k := 1) (pc' := 50) (lv' := [(0, .ref a0), (1, .int x1)]) (st' := [.ref a0]) rfl ?_
    refine PC.pr (k := 1) (pc' := 51) (lv' := [(0, .ref a0), (1, .int x1)]) (st' := [.int x1, .ref a0]) rfl ?_
    refine (PC.callV (j := 165) (args := [.ref a0, .int x1]) (rest := []) (M := cM165) rfl rfl rfl rfl rfl rfl (by decide) rfl rfl ?_).weak
    refine PC.imp h (fun _ κ4 h => ?_)
    exact PC.retV rfl h

/-- DoorPaintsModel.readDoor()V -/
theorem t_159_0 {xl : List Int32} {n : Nat} {ι : IS} {Q : Option Value → IS → Prop} {a0 : Nat} (h : PC xl n 159 11 [(0, .ref a0), (1, .int (16 + (9 * (ι a0 7)))), (2, .null)] [] ι Q) : PC xl (n + 1) 159 0 [(0, .ref a0)] [] ι Q := by
  refine PC.pr1 (k := 0) (pc' := 2) (lv' := [(0, .ref a0)]) (st' := [.int 16]) rfl ?_
  refine PC.pr (k := 1) (pc' := 4) (lv' := [(0, .ref a0)]) (st' := [.int 9, .int 16]) rfl ?_
  refine PC.pr (k := 1) (pc' := 5) (lv' := [(0, .ref a0)]) (st' := [.ref a0, .int 9, .int 16]) rfl ?_
  refine PC.gI (ci := 9) (j := 7) rfl rfl (by decide) ?_
  refine PC.pr (k := 1) (pc' := 9) (lv' := [(0, .ref a0)]) (st' := [.int (9 * (ι a0 7)), .int 16]) rfl ?_
  refine PC.pr (k := 1) (pc' := 10) (lv' := [(0, .ref a0)]) (st' := [.int (16 + (9 * (ι a0 7)))]) rfl ?_
  refine PC.pr (k := 1) (pc' := 11) (lv' := [(1, .int (16 + (9 * (ι a0 7)))), (0, .ref a0)]) (st' := []) rfl ?_
  exact PC.lv (lvE.cons rfl (lvE.cons rfl (lvE.nil))) h
theorem t_159_11 {xl : List Int32} {n : Nat} {ι : IS} {Q : Option Value → IS → Prop} {a0 : Nat} {x1 : Int32} {w2 : Value} (h : ((¬ (ι a0 18) = 0 → Q none (up ι a0 7 ((ι a0 7) + 1))) ∧ ((ι a0 18) = 0 → ((¬ (ι a0 16) = 2 → Q none (up ι a0 7 ((ι a0 7) + 1))) ∧ ((ι a0 16) = 2 → (0 ≤ (x1 + 0).toInt → (x1 + 0).toInt < ln (rf a0 5) → ((¬ (ι (rf a0 5) (x1 + 0).toNatClampNeg) < 6 → PC xl n 159 45 [(0, .ref a0), (1, .int x1), (2, w2)] [.int 0, .ref a0] ι Q) ∧ ((ι (rf a0 5) (x1 + 0).toNatClampNeg) < 6 → PC xl n 159 45 [(0, .ref a0), (1, .int x1), (2, w2)] [.int 1, .ref a0] ι Q)))))))) : PC xl (n + 1) 159 11 [(0, .ref a0), (1, .int x1), (2, w2)] [] ι Q := by
  refine PC.pr1 (k := 0) (pc' := 12) (lv' := [(0, .ref a0), (1, .int x1), (2, w2)]) (st' := [.ref a0]) rfl ?_
  refine PC.gI (ci := 9) (j := 18) rfl rfl (by decide) ?_
  refine PC.if1 (t := 96) rfl rfl (fun c => ?_) (fun c => ?_)
  · have h := h.1 (cmp_ne.1.mp c)
    refine PC.pr (k := 1) (pc' := 97) (lv' := [(0, .ref a0), (1, .int x1), (2, w2)]) (st' := [.ref a0]) rfl ?_
    refine PC.pr (k := 1) (pc' := 98) (lv' := [(0, .ref a0), (1, .int x1), (2, w2)]) (st' := [.ref a0, .ref a0]) rfl ?_
    refine PC.gI (ci := 9) (j := 7) rfl rfl (by decide) ?_
    refine PC.pr (k := 1) (pc' := 102) (lv' := [(0, .ref a0), (1, .int x1), (2, w2)]) (st' := [.int 1, .int (ι a0 7), .ref a0]) rfl ?_
    refine PC.pr (k := 1) (pc' := 103) (lv' := [(0, .ref a0), (1, .int x1), (2, w2)]) (st' := [.int ((ι a0 7) + 1), .ref a0]) rfl ?_
    refine PC.pI (ci := 9) (j := 7) rfl rfl ?_
    exact PC.retV rfl h
  · have h := h.2 (cmp_ne.2.mp c)
    refine PC.pr (k := 1) (pc' := 19) (lv' := [(0, .ref a0), (1, .int x1), (2, w2)]) (st' := [.ref a0]) rfl ?_
    refine PC.gI (ci := 9) (j := 16) rfl rfl (by decide) ?_
    refine PC.pr (k := 1) (pc' := 23) (lv' := [(0, .ref a0), (1, .int x1), (2, w2)]) (st' := [.int 2, .int (ι a0 16)]) rfl ?_
    refine PC.if2 (t := 96) rfl rfl (fun c => ?_) (fun c => ?_)
    · have h := h.1 (cmp_ne.1.mp c)
      refine PC.pr (k := 1) (pc' := 97) (lv' := [(0, .ref a0), (1, .int x1), (2, w2)]) (st' := [.ref a0]) rfl ?_
      refine PC.pr (k := 1) (pc' := 98) (lv' := [(0, .ref a0), (1, .int x1), (2, w2)]) (st' := [.ref a0, .ref a0]) rfl ?_
      refine PC.gI (ci := 9) (j := 7) rfl rfl (by decide) ?_
      refine PC.pr (k := 1) (pc' := 102) (lv' := [(0, .ref a0), (1, .int x1), (2, w2)]) (st' := [.int 1, .int (ι a0 7), .ref a0]) rfl ?_
      refine PC.pr (k := 1) (pc' := 103) (lv' := [(0, .ref a0), (1, .int x1), (2, w2)]) (st' := [.int ((ι a0 7) + 1), .ref a0]) rfl ?_
      refine PC.pI (ci := 9) (j := 7) rfl rfl ?_
      exact PC.retV rfl h
    · have h := h.2 (cmp_ne.2.mp c)
      refine PC.pr (k := 1) (pc' := 27) (lv' := [(0, .ref a0), (1, .int x1), (2, w2)]) (st' := [.ref a0]) rfl ?_
      refine PC.pr (k := 1) (pc' := 28) (lv' := [(0, .ref a0), (1, .int x1), (2, w2)]) (st' := [.ref a0, .ref a0]) rfl ?_
      refine PC.gR (ci := 9) (j := 5) rfl rfl (by decide) ?_
      refine PC.pr (k := 1) (pc' := 32) (lv' := [(0, .ref a0), (1, .int x1), (2, w2)]) (st' := [.int x1, .ref (rf a0 5), .ref a0]) rfl ?_
      refine PC.pr (k := 1) (pc' := 33) (lv' := [(0, .ref a0), (1, .int x1), (2, w2)]) (st' := [.int 0, .int x1, .ref (rf a0 5), .ref a0]) rfl ?_
      refine PC.pr (k := 1) (pc' := 34) (lv' := [(0, .ref a0), (1, .int x1), (2, w2)]) (st' := [.int (x1 + 0), .ref (rf a0 5), .ref a0]) rfl ?_
      refine PC.rd rfl (rf_lt _ _) (fun c1 c2 => ?_)
      have h := h c1 c2
      refine PC.pr (k := 1) (pc' := 37) (lv' := [(0, .ref a0), (1, .int x1), (2, w2)]) (st' := [.int 6, .int (ι (rf a0 5) (x1 + 0).toNatClampNeg), .ref a0]) rfl ?_
      refine PC.if2 (t := 44) rfl rfl (fun c => ?_) (fun c => ?_)
      · have h := h.1 (cmp_ge.1.mp c)
        refine PC.pr (k := 1) (pc' := 45) (lv' := [(0, .ref a0), (1, .int x1), (2, w2)]) (st' := [.int 0, .ref a0]) rfl ?_
        exact h
      · have h := h.2 (cmp_ge.2.mp c)
        refine PC.pr (k := 1) (pc' := 41) (lv' := [(0, .ref a0), (1, .int x1), (2, w2)]) (st' := [.int 1, .ref a0]) rfl ?_
        refine PC.pr (k := 1) (pc' := 45) (lv' := [(0, .ref a0), (1, .int x1), (2, w2)]) (st' := [.int 1, .ref a0]) rfl ?_
        exact h
theorem t_159_45 {xl : List Int32} {n : Nat} {ι : IS} {Q : Option Value → IS → Prop} {a0 : Nat} {x1 : Int32} {w2 : Value} {u0 : Int32} {u1 : Nat} (h : PC xl n 153 0 [(0, .ref u1), (1, .int u0), (2, .int 5)] [] ι (fun _ κ1 => PC xl n 160 0 [(0, .ref a0), (1, .int 0), (2, .int 5)] [] κ1 (fun v2 κ2 => ∀ r2, v2 = some (.int r2) → ((¬ (κ2 a0 18) = 0 → PC xl n 159 93 [(0, .ref a0), (1, .int x1), (2, .int r2)] [] κ2 Q) ∧ ((κ2 a0 18) = 0 → (0 ≤ (x1 + 0).toInt → (x1 + 0).toInt < ln (rf a0 5) → (0 ≤ ((x1 + 3) + (κ2 (rf a0 5) (x1 + 0).toNatClampNeg)).toInt → ((x1 + 3) + (κ2 (rf a0 5) (x1 + 0).toNatClampNeg)).toInt < ln (rf a0 5) → (0 ≤ (x1 + 0).toInt → (x1 + 0).toInt < ln (rf a0 5) → (0 ≤ (x1 + 0).toInt → (x1 + 0).toInt < ln (rf a0 5) → PC xl n 159 93 [(0, .ref a0), (1, .int x1), (2, .int r2)] [] (up (up κ2 (rf a0 5) ((x1 + 3) + (κ2 (rf a0 5) (x1 + 0).toNatClampNeg)).toNatClampNeg r2) (rf a0 5) (x1 + 0).toNatClampNeg (((up κ2 (rf a0 5) ((x1 + 3) + (κ2 (rf a0 5) (x1 + 0).toNatClampNeg)).toNatClampNeg r2) (rf a0 5) (x1 + 0).toNatClampNeg) + 1)) Q))))))))) : PC xl (n + 1) 159 45 [(0, .ref a0), (1, .int x1), (2, w2)] [.int u0, .ref u1] ι Q := by
  refine PC.pr1 (k := 0) (pc' := 46) (lv' := [(0, .ref a0), (1, .int x1), (2, w2)]) (st' := [.int 5, .int u0, .ref u1]) rfl ?_
  refine (PC.callV (j := 153) (args := [.ref u1, .int u0, .int 5]) (rest := []) (M := cM153) rfl rfl rfl rfl rfl rfl (by decide) rfl rfl ?_).weak
  refine PC.imp h (fun _ κ1 h => ?_)
  refine PC.pr (k := 1) (pc' := 50) (lv' := [(0, .ref a0), (1, .int x1), (2, w2)]) (st' := [.ref a0]) rfl ?_
  refine PC.pr (k := 1) (pc' := 51) (lv' := [(0, .ref a0), (1, .int x1), (2, w2)]) (st' := [.int 0, .ref a0]) rfl ?_
  refine PC.pr (k := 1) (pc' := 52) (lv' := [(0, .ref a0), (1, .int x1), (2, w2)]) (st' := [.int 5, .int 0, .ref a0]) rfl ?_
  refine (PC.callI (j := 160) (args := [.ref a0, .int 0, .int 5]) (rest := []) (M := cM160) (ty := .int) rfl rfl rfl rfl rfl rfl (by decide) rfl rfl (by decide) ?_).weak
  refine PC.imp h (fun v2 κ2 h r2 hv => ?_)
  have h := h r2 hv
  refine PC.pr (k := 1) (pc' := 56) (lv' := [(2, .int r2), (0, .ref a0), (1, .int x1)]) (st' := []) rfl ?_
  refine PC.pr (k := 1) (pc' := 57) (lv' := [(2, .int r2), (0, .ref a0), (1, .int x1)]) (st' := [.ref a0]) rfl ?_
  refine PC.gI (ci := 9) (j := 18) rfl rfl (by decide) ?_
  refine PC.if1 (t := 93) rfl rfl (fun c => ?_) (fun c => ?_)
  · have h := h.1 (cmp_ne.1.mp c)
    exact PC.lv (lvE.cons rfl (lvE.cons rfl (lvE.cons rfl (lvE.nil)))) h
  · have h := h.2 (cmp_ne.2.mp c)
    refine PC.pr (k := 1) (pc' := 64) (lv' := [(2, .int r2), (0, .ref a0), (1, .int x1)]) (st' := [.ref a0]) rfl ?_
    refine PC.gR (ci := 9) (j := 5) rfl rfl (by decide) ?_
    refine PC.pr (k := 1) (pc' := 68) (lv' := [(2, .int r2), (0, .ref a0), (1, .int x1)]) (st' := [.int x1, .ref (rf a0 5)]) rfl ?_
    refine PC.pr (k := 1) (pc' := 69) (lv' := [(2, .int r2), (0, .ref a0), (1, .int x1)]) (st' := [.int 3, .int x1, .ref (rf a0 5)]) rfl ?_
    refine PC.pr (k := 1) (pc' := 70) (lv' := [(2, .int r2), (0, .ref a0), (1, .int x1)]) (st' := [.int (x1 + 3), .ref (rf a0 5)]) rfl ?_
    refine PC.pr (k := 1) (pc' := 71) (lv' := [(2, .int r2), (0, .ref a0), (1, .int x1)]) (st' := [.ref a0, .int (x1 + 3), .ref (rf a0 5)]) rfl ?_
    refine PC.gR (ci := 9) (j := 5) rfl rfl (by decide) ?_
    refine PC.pr (k := 1) (pc' := 75) (lv' := [(2, .int r2), (0, .ref a0), (1, .int x1)]) (st' := [.int x1, .ref (rf a0 5), .int (x1 + 3), .ref (rf a0 5)]) rfl ?_
    refine PC.pr (k := 1) (pc' := 76) (lv' := [(2, .int r2), (0, .ref a0), (1, .int x1)]) (st' := [.int 0, .int x1, .ref (rf a0 5), .int (x1 + 3), .ref (rf a0 5)]) rfl ?_
    refine PC.pr (k := 1) (pc' := 77) (lv' := [(2, .int r2), (0, .ref a0), (1, .int x1)]) (st' := [.int (x1 + 0), .ref (rf a0 5), .int (x1 + 3), .ref (rf a0 5)]) rfl ?_
    refine PC.rd rfl (rf_lt _ _) (fun c1 c2 => ?_)
    have h := h c1 c2
    refine PC.pr (k := 1) (pc' := 79) (lv' := [(2, .int r2), (0, .ref a0), (1, .int x1)]) (st' := [.int ((x1 + 3) + (κ2 (rf a0 5) (x1 + 0).toNatClampNeg)), .ref (rf a0 5)]) rfl ?_
    refine PC.pr (k := 1) (pc' := 80) (lv' := [(2, .int r2), (0, .ref a0), (1, .int x1)]) (st' := [.int r2, .int ((x1 + 3) + (κ2 (rf a0 5) (x1 + 0).toNatClampNeg)), .ref (rf a0 5)]) rfl ?_
    refine PC.wI rfl (fun c1 c2 => ?_)
    have h := h c1 c2
    refine PC.pr (k := 1) (pc' := 82) (lv' := [(2, .int r2), (0, .ref a0), (1, .int x1)]) (st' := [.ref a0]) rfl ?_
    refine PC.gR (ci := 9) (j := 5) rfl rfl (by decide) ?_
    refine PC.pr (k := 1) (pc' := 86) (lv' := [(2, .int r2), (0, .ref a0), (1, .int x1)]) (st' := [.int x1, .ref (rf a0 5)]) rfl ?_
    refine PC.pr (k := 1) (pc' := 87) (lv' := [(2, .int r2), (0, .ref a0), (1, .int x1)]) (st' := [.int 0, .int x1, .ref (rf a0 5)]) rfl ?_
    refine PC.pr (k := 1) (pc' := 88) (lv' := [(2, .int r2), (0, .ref a0), (1, .int x1)]) (st' := [.int (x1 + 0), .ref (rf a0 5)]) rfl ?_
    refine PC.pr (k := 1) (pc' := 89) (lv' := [(2, .int r2), (0, .ref a0), (1, .int x1)]) (st' := [.int (x1 + 0), .ref (rf a0 5), .int (x1 + 0), .ref (rf a0 5)]) rfl ?_
    refine PC.rd rfl (rf_lt _ _) (fun c1 c2 => ?_)
    have h := h c1 c2
    refine PC.pr (k := 1) (pc' := 91) (lv' := [(2, .int r2), (0, .ref a0), (1, .int x1)]) (st' := [.int 1, .int ((up κ2 (rf a0 5) ((x1 + 3) + (κ2 (rf a0 5) (x1 + 0).toNatClampNeg)).toNatClampNeg r2) (rf a0 5) (x1 + 0).toNatClampNeg), .int (x1 + 0), .ref (rf a0 5)]) rfl ?_
    refine PC.pr (k := 1) (pc' := 92) (lv' := [(2, .int r2), (0, .ref a0), (1, .int x1)]) (st' := [.int (((up κ2 (rf a0 5) ((x1 + 3) + (κ2 (rf a0 5) (x1 + 0).toNatClampNeg)).toNatClampNeg r2) (rf a0 5) (x1 + 0).toNatClampNeg) + 1), .int (x1 + 0), .ref (rf a0 5)]) rfl ?_
    refine PC.wI rfl (fun c1 c2 => ?_)
    have h := h c1 c2
    exact PC.lv (lvE.cons rfl (lvE.cons rfl (lvE.cons rfl (lvE.nil)))) h
theorem t_159_93 {xl : List Int32} {n : Nat} {ι : IS} {Q : Option Value → IS → Prop} {a0 : Nat} {x1 : Int32} {w2 : Value} (h : PC xl n 159 11 [(0, .ref a0), (1, .int x1), (2, w2)] [] ι Q) : PC xl (n + 1) 159 93 [(0, .ref a0), (1, .int x1), (2, w2)] [] ι Q := by
  refine PC.pr1 (k := 0) (pc' := 11) (lv' := [(0, .ref a0), (1, .int x1), (2, w2)]) (st' := []) rfl ?_
  exact h

/-- DoorPaintsModel.readNumber(II)I -/
theorem t_160_0 {xl : List Int32} {n : Nat} {ι : IS} {Q : Option Value → IS → Prop} {a0 : Nat} {x1 : Int32} {x2 : Int32} (h : PC xl n 161 0 [(0, .ref a0), (1, .int x1), (2, .int x2)] [] ι (fun v1 κ1 => ∀ r1, v1 = some (.int r1) → PC xl n 151 0 [(0, .ref a0)] [] κ1 (fun _ κ2 => Q (some (.int r1)) κ2))) : PC xl (n + 1) 160 0 [(0, .ref a0), (1, .int x1), (2, .int x2)] [] ι Q := by
  refine PC.pr1 (k := 0) (pc' := 1) (lv' := [(0, .ref a0), (1, .int x1), (2, .int x2)]) (st' := [.ref a0]) rfl ?_
  refine PC.pr (k := 1) (pc' := 2) (lv' := [(0, .ref a0), (1, .int x1), (2, .int x2)]) (st' := [.int x1, .ref a0]) rfl ?_
  refine PC.pr (k := 1) (pc' := 3) (lv' := [(0, .ref a0), (1, .int x1), (2, .int x2)]) (st' := [.int x2, .int x1, .ref a0]) rfl ?_
  refine (PC.callI (j := 161) (args := [.ref a0, .int x1, .int x2]) (rest := []) (M := cM161) (ty := .int) rfl rfl rfl rfl rfl rfl (by decide) rfl rfl (by decide) ?_).weak
  refine PC.imp h (fun v1 κ1 h r1 hv => ?_)
  have h := h r1 hv
  refine PC.pr (k := 1) (pc' := 7) (lv' := [(3, .int r1), (0, .ref a0), (1, .int x1), (2, .int x2)]) (st' := []) rfl ?_
  refine PC.pr (k := 1) (pc' := 8) (lv' := [(3, .int r1), (0, .ref a0), (1, .int x1), (2, .int x2)]) (st' := [.ref a0]) rfl ?_
  refine (PC.callV (j := 151) (args := [.ref a0]) (rest := []) (M := cM151) rfl rfl rfl rfl rfl rfl (by decide) rfl rfl ?_).weak
  refine PC.imp h (fun _ κ2 h => ?_)
  refine PC.pr (k := 1) (pc' := 12) (lv' := [(3, .int r1), (0, .ref a0), (1, .int x1), (2, .int x2)]) (st' := [.int r1]) rfl ?_
  exact PC.retI rfl h

/-- DoorPaintsModel.looked(II)I -/
theorem t_161_0 {xl : List Int32} {n : Nat} {ι : IS} {Q : Option Value → IS → Prop} {a0 : Nat} {x1 : Int32} {x2 : Int32} (h : ((¬ (ι a0 18) = 0 → PC xl n 161 25 [(0, .ref a0), (1, .int x1), (2, .int x2)] [] ι Q) ∧ ((ι a0 18) = 0 → ((¬ (ι a0 16) = 2 → PC xl n 153 0 [(0, .ref a0), (1, .int 0), (2, .int 2)] [] ι (fun _ κ1 => PC xl n 161 25 [(0, .ref a0), (1, .int x1), (2, .int x2)] [] κ1 Q)) ∧ ((ι a0 16) = 2 → PC xl n 153 0 [(0, .ref a0), (1, .int 1), (2, .int 2)] [] ι (fun _ κ2 => PC xl n 161 25 [(0, .ref a0), (1, .int x1), (2, .int x2)] [] κ2 Q)))))) : PC xl (n + 1) 161 0 [(0, .ref a0), (1, .int x1), (2, .int x2)] [] ι Q := by
  refine PC.pr1 (k := 0) (pc' := 1) (lv' := [(0, .ref a0), (1, .int x1), (2, .int x2)]) (st' := [.ref a0]) rfl ?_
  refine PC.gI (ci := 9) (j := 18) rfl rfl (by decide) ?_
  refine PC.if1 (t := 25) rfl rfl (fun c => ?_) (fun c => ?_)
  · have h := h.1 (cmp_ne.1.mp c)
    exact h
  · have h := h.2 (cmp_ne.2.mp c)
    refine PC.pr (k := 1) (pc' := 8) (lv' := [(0, .ref a0), (1, .int x1), (2, .int x2)]) (st' := [.ref a0]) rfl ?_
    refine PC.pr (k := 1) (pc' := 9) (lv' := [(0, .ref a0), (1, .int x1), (2, .int x2)]) (st' := [.ref a0, .ref a0]) rfl ?_
    refine PC.gI (ci := 9) (j := 16) rfl rfl (by decide) ?_
    refine PC.pr (k := 1) (pc' := 13) (lv' := [(0, .ref a0), (1, .int x1), (2, .int x2)]) (st' := [.int 2, .int (ι a0 16), .ref a0]) rfl ?_
    refine PC.if2 (t := 20) rfl rfl (fun c => ?_) (fun c => ?_)
    · have h := h.1 (cmp_ne.1.mp c)
      refine PC.pr (k := 1) (pc' := 21) (lv' := [(0, .ref a0), (1, .int x1), (2, .int x2)]) (st' := [.int 0, .ref a0]) rfl ?_
      refine PC.pr (k := 1) (pc' := 22) (lv' := [(0, .ref a0), (1, .int x1), (2, .int x2)]) (st' := [.int 2, .int 0, .ref a0]) rfl ?_
      refine (PC.callV (j := 153) (args := [.ref a0, .int 0, .int 2]) (rest := []) (M := cM153) rfl rfl rfl rfl rfl rfl (by decide) rfl rfl ?_).weak
      refine PC.imp h (fun _ κ1 h => ?_)
      exact h
    · have h := h.2 (cmp_ne.2.mp c)
      refine PC.pr (k := 1) (pc' := 17) (lv' := [(0, .ref a0), (1, .int x1), (2, .int x2)]) (st' := [.int 1, .ref a0]) rfl ?_
      refine PC.pr (k := 1) (pc' := 21) (lv' := [(0, .ref a0), (1, .int x1), (2, .int x2)]) (st' := [.int 1, .ref a0]) rfl ?_
      refine PC.pr (k := 1) (pc' := 22) (lv' := [(0, .ref a0), (1, .int x1), (2, .int x2)]) (st' := [.int 2, .int 1, .ref a0]) rfl ?_
      refine (PC.callV (j := 153) (args := [.ref a0, .int 1, .int 2]) (rest := []) (M := cM153) rfl rfl rfl rfl rfl rfl (by decide) rfl rfl ?_).weak
      refine PC.imp h (fun _ κ2 h => ?_)
      exact h
theorem t_161_25 {xl : List Int32} {n : Nat} {ι : IS} {Q : Option Value → IS → Prop} {a0 : Nat} {x1 : Int32} {x2 : Int32} (h : ((¬ (ι a0 18) = 0 → PC xl n 161 49 [(0, .ref a0), (1, .int x1), (2, .int x2)] [] ι Q) ∧ ((ι a0 18) = 0 → PC xl n 148 0 [(0, .long ((ι a0 17)).toInt64), (2, .long (x1).toInt64), (4, .long (x2).toInt64)] [] ι (fun v1 κ1 => ∀ r1, v1 = some (.int r1) → PC xl n 153 0 [(0, .ref a0), (1, .int r1), (2, .int 3)] [] κ1 (fun _ κ2 => PC xl n 161 49 [(0, .ref a0), (1, .int x1), (2, .int x2)] [] κ2 Q))))) : PC xl (n + 1) 161 25 [(0, .ref a0), (1, .int x1), (2, .int x2)] [] ι Q := by
  refine PC.pr1 (k := 0) (pc' := 26) (lv' := [(0, .ref a0), (1, .int x1), (2, .int x2)]) (st' := [.ref a0]) rfl ?_
  refine PC.gI (ci := 9) (j := 18) rfl rfl (by decide) ?_
  refine PC.if1 (t := 49) rfl rfl (fun c => ?_) (fun c => ?_)
  · have h := h.1 (cmp_ne.1.mp c)
    exact h
  · have h := h.2 (cmp_ne.2.mp c)
    refine PC.pr (k := 1) (pc' := 33) (lv' := [(0, .ref a0), (1, .int x1), (2, .int x2)]) (st' := [.ref a0]) rfl ?_
    refine PC.pr (k := 1) (pc' := 34) (lv' := [(0, .ref a0), (1, .int x1), (2, .int x2)]) (st' := [.ref a0, .ref a0]) rfl ?_
    refine PC.gI (ci := 9) (j := 17) rfl rfl (by decide) ?_
    refine PC.pr (k := 1) (pc' := 38) (lv' := [(0, .ref a0), (1, .int x1), (2, .int x2)]) (st' := [.long ((ι a0 17)).toInt64, .ref a0]) rfl ?_
    refine PC.pr (k := 1) (pc' := 39) (lv' := [(0, .ref a0), (1, .int x1), (2, .int x2)]) (st' := [.int x1, .long ((ι a0 17)).toInt64, .ref a0]) rfl ?_
    refine PC.pr (k := 1) (pc' := 40) (lv' := [(0, .ref a0), (1, .int x1), (2, .int x2)]) (st' := [.long (x1).toInt64, .long ((ι a0 17)).toInt64, .ref a0]) rfl ?_
    refine PC.pr (k := 1) (pc' := 41) (lv' := [(0, .ref a0), (1, .int x1), (2, .int x2)]) (st' := [.int x2, .long (x1).toInt64, .long ((ι a0 17)).toInt64, .ref a0]) rfl ?_
    refine PC.pr (k := 1) (pc' := 42) (lv' := [(0, .ref a0), (1, .int x1), (2, .int x2)]) (st' := [.long (x2).toInt64, .long (x1).toInt64, .long ((ι a0 17)).toInt64, .ref a0]) rfl ?_
    refine (PC.callI (j := 148) (args := [.long ((ι a0 17)).toInt64, .long (x1).toInt64, .long (x2).toInt64]) (rest := [.ref a0]) (M := cM148) (ty := .boolean) rfl rfl rfl rfl rfl rfl (by decide) rfl rfl (by decide) ?_).weak
    refine PC.imp h (fun v1 κ1 h r1 hv => ?_)
    have h := h r1 hv
    refine PC.pr (k := 1) (pc' := 46) (lv' := [(0, .ref a0), (1, .int x1), (2, .int x2)]) (st' := [.int 3, .int r1, .ref a0]) rfl ?_
    refine (PC.callV (j := 153) (args := [.ref a0, .int r1, .int 3]) (rest := []) (M := cM153) rfl rfl rfl rfl rfl rfl (by decide) rfl rfl ?_).weak
    refine PC.imp h (fun _ κ2 h => ?_)
    exact h
theorem t_161_49 {xl : List Int32} {n : Nat} {ι : IS} {Q : Option Value → IS → Prop} {a0 : Nat} {w1 : Value} {w2 : Value} (h : ((¬ (ι a0 18) = 0 → Q (some (.int 0)) ι) ∧ ((ι a0 18) = 0 → Q (some (.int (ι a0 17))) ι))) : PC xl (n + 1) 161 49 [(0, .ref a0), (1, w1), (2, w2)] [] ι Q := by
  refine PC.pr1 (k := 0) (pc' := 50) (lv' := [(0, .ref a0), (1, w1), (2, w2)]) (st' := [.ref a0]) rfl ?_
  refine PC.gI (ci := 9) (j := 18) rfl rfl (by decide) ?_
  refine PC.if1 (t := 63) rfl rfl (fun c => ?_) (fun c => ?_)
  · have h := h.1 (cmp_ne.1.mp c)
    refine PC.pr (k := 1) (pc' := 64) (lv' := [(0, .ref a0), (1, w1), (2, w2)]) (st' := [.int 0]) rfl ?_
    exact PC.retI rfl h
  · have h := h.2 (cmp_ne.2.mp c)
    refine PC.pr (k := 1) (pc' := 57) (lv' := [(0, .ref a0), (1, w1), (2, w2)]) (st' := [.ref a0]) rfl ?_
    refine PC.gI (ci := 9) (j := 17) rfl rfl (by decide) ?_
    refine PC.pr (k := 1) (pc' := 64) (lv' := [(0, .ref a0), (1, w1), (2, w2)]) (st' := [.int (ι a0 17)]) rfl ?_
    exact PC.retI rfl h

/-- DoorPaintsModel.readNot()V -/
theorem t_162_0 {xl : List Int32} {n : Nat} {ι : IS} {Q : Option Value → IS → Prop} {a0 : Nat} (h : PC xl n 160 0 [(0, .ref a0), (1, .int 0), (2, .int 3)] [] ι (fun v1 κ1 => ∀ r1, v1 = some (.int r1) → ((¬ (κ1 a0 18) = 0 → PC xl n 162 27 [(0, .ref a0), (1, .int r1)] [.ref a0] κ1 Q) ∧ ((κ1 a0 18) = 0 → ((¬ (κ1 a0 10) < r1 → PC xl n 162 27 [(0, .ref a0), (1, .int r1)] [.ref a0] κ1 Q) ∧ ((κ1 a0 10) < r1 → PC xl n 161 0 [(0, .ref a0), (1, .int 0), (2, .int 5)] [] (up κ1 a0 10 r1) (fun v2 κ2 => ∀ r2, v2 = some (.int r2) → ((¬ (κ2 a0 18) = 0 → PC xl n 151 0 [(0, .ref a0)] [] κ2 (fun _ κ3 => Q none κ3)) ∧ ((κ2 a0 18) = 0 → (0 ≤ r1.toInt → r1.toInt < ln (rf a0 11) → ((¬ (((κ2 (rf a0 11) r1.toNatClampNeg) >>> (r2 &&& 31)) &&& 1) = 0 → PC xl n 162 67 [(0, .ref a0), (1, .int r1), (2, .int r2)] [.int 0, .ref a0] κ2 Q) ∧ ((((κ2 (rf a0 11) r1.toNatClampNeg) >>> (r2 &&& 31)) &&& 1) = 0 → PC xl n 162 67 [(0, .ref a0), (1, .int r1), (2, .int r2)] [.int 1, .ref a0] κ2 Q)))))))))))) : PC xl (n + 1) 162 0 [(0, .ref a0)] [] ι Q := by
  refine PC.pr1 (k := 0) (pc' := 1) (lv' := [(0, .ref a0)]) (st' := [.ref a0]) rfl ?_
  refine PC.pr (k := 1) (pc' := 2) (lv' := [(0, .ref a0)]) (st' := [.int 0, .ref a0]) rfl ?_
  refine PC.pr (k := 1) (pc' := 3) (lv' := [(0, .ref a0)]) (st' := [.int 3, .int 0, .ref a0]) rfl ?_
  refine (PC.callI (j := 160) (args := [.ref a0, .int 0, .int 3]) (rest := []) (M := cM160) (ty := .int) rfl rfl rfl rfl rfl rfl (by decide) rfl rfl (by decide) ?_).weak
  refine PC.imp h (fun v1 κ1 h r1 hv => ?_)
  have h := h r1 hv
  refine PC.pr (k := 1) (pc' := 7) (lv' := [(1, .int r1), (0, .ref a0)]) (st' := []) rfl ?_
  refine PC.pr (k := 1) (pc' := 8) (lv' := [(1, .int r1), (0, .ref a0)]) (st' := [.ref a0]) rfl ?_
  refine PC.pr (k := 1) (pc' := 9) (lv' := [(1, .int r1), (0, .ref a0)]) (st' := [.ref a0, .ref a0]) rfl ?_
  refine PC.gI (ci := 9) (j := 18) rfl rfl (by decide) ?_
  refine PC.if1 (t := 27) rfl rfl (fun c => ?_) (fun c => ?_)
  · have h := h.1 (cmp_ne.1.mp c)
    exact PC.lv (lvE.cons rfl (lvE.cons rfl (lvE.nil))) h
  · have h := h.2 (cmp_ne.2.mp c)
    refine PC.pr (k := 1) (pc' := 16) (lv' := [(1, .int r1), (0, .ref a0)]) (st' := [.int r1, .ref a0]) rfl ?_
    refine PC.pr (k := 1) (pc' := 17) (lv' := [(1, .int r1), (0, .ref a0)]) (st' := [.ref a0, .int r1, .ref a0]) rfl ?_
    refine PC.gI (ci := 9) (j := 10) rfl rfl (by decide) ?_
    refine PC.if2 (t := 27) rfl rfl (fun c => ?_) (fun c => ?_)
    · have h := h.1 (cmp_le.1.mp c)
      exact PC.lv (lvE.cons rfl (lvE.cons rfl (lvE.nil))) h
    · have h := h.2 (cmp_le.2.mp c)
      refine PC.pr (k := 1) (pc' := 24) (lv' := [(1, .int r1), (0, .ref a0)]) (st' := [.int r1, .ref a0]) rfl ?_
      refine PC.pr (k := 1) (pc' := 31) (lv' := [(1, .int r1), (0, .ref a0)]) (st' := [.int r1, .ref a0]) rfl ?_
      refine PC.pI (ci := 9) (j := 10) rfl rfl ?_
      refine PC.pr (k := 1) (pc' := 35) (lv' := [(1, .int r1), (0, .ref a0)]) (st' := [.ref a0]) rfl ?_
      refine PC.pr (k := 1) (pc' := 36) (lv' := [(1, .int r1), (0, .ref a0)]) (st' := [.int 0, .ref a0]) rfl ?_
      refine PC.pr (k := 1) (pc' := 37) (lv' := [(1, .int r1), (0, .ref a0)]) (st' := [.int 5, .int 0, .ref a0]) rfl ?_
      refine (PC.callI (j := 161) (args := [.ref a0, .int 0, .int 5]) (rest := []) (M := cM161) (ty := .int) rfl rfl rfl rfl rfl rfl (by decide) rfl rfl (by decide) ?_).weak
      refine PC.imp h (fun v2 κ2 h r2 hv => ?_)
      have h := h r2 hv
      refine PC.pr (k := 1) (pc' := 41) (lv' := [(2, .int r2), (1, .int r1), (0, .ref a0)]) (st' := []) rfl ?_
      refine PC.pr (k := 1) (pc' := 42) (lv' := [(2, .int r2), (1, .int r1), (0, .ref a0)]) (st' := [.ref a0]) rfl ?_
      refine PC.gI (ci := 9) (j := 18) rfl rfl (by decide) ?_
      refine PC.if1 (t := 83) rfl rfl (fun c => ?_) (fun c => ?_)
      · have h := h.1 (cmp_ne.1.mp c)
        refine PC.pr (k := 1) (pc' := 84) (lv' := [(2, .int r2), (1, .int r1), (0, .ref a0)]) (st' := [.ref a0]) rfl ?_
        refine (PC.callV (j := 151) (args := [.ref a0]) (rest := []) (M := cM151) rfl rfl rfl rfl rfl rfl (by decide) rfl rfl ?_).weak
        refine PC.imp h (fun _ κ3 h => ?_)
        exact PC.retV rfl h
      · have h := h.2 (cmp_ne.2.mp c)
        refine PC.pr (k := 1) (pc' := 49) (lv' := [(2, .int r2), (1, .int r1), (0, .ref a0)]) (st' := [.ref a0]) rfl ?_
        refine PC.pr (k := 1) (pc' := 50) (lv' := [(2, .int r2), (1, .int r1), (0, .ref a0)]) (st' := [.ref a0, .ref a0]) rfl ?_
        refine PC.gR (ci := 9) (j := 11) rfl rfl (by decide) ?_
        refine PC.pr (k := 1) (pc' := 54) (lv' := [(2, .int r2), (1, .int r1), (0, .ref a0)]) (st' := [.int r1, .ref (rf a0 11), .ref a0]) rfl ?_
        refine PC.rd rfl (rf_lt _ _) (fun c1 c2 => ?_)
        have h := h c1 c2
        refine PC.pr (k := 1) (pc' := 56) (lv' := [(2, .int r2), (1, .int r1), (0, .ref a0)]) (st' := [.int r2, .int (κ2 (rf a0 11) r1.toNatClampNeg), .ref a0]) rfl ?_
        refine PC.pr (k := 1) (pc' := 57) (lv' := [(2, .int r2), (1, .int r1), (0, .ref a0)]) (st' := [.int ((κ2 (rf a0 11) r1.toNatClampNeg) >>> (r2 &&& 31)), .ref a0]) rfl ?_
        refine PC.pr (k := 1) (pc' := 58) (lv' := [(2, .int r2), (1, .int r1), (0, .ref a0)]) (st' := [.int 1, .int ((κ2 (rf a0 11) r1.toNatClampNeg) >>> (r2 &&& 31)), .ref a0]) rfl ?_
        refine PC.pr (k := 1) (pc' := 59) (lv' := [(2, .int r2), (1, .int r1), (0, .ref a0)]) (st' := [.int (((κ2 (rf a0 11) r1.toNatClampNeg) >>> (r2 &&& 31)) &&& 1), .ref a0]) rfl ?_
        refine PC.if1 (t := 66) rfl rfl (fun c => ?_) (fun c => ?_)
        · have h := h.1 (cmp_ne.1.mp c)
          refine PC.pr (k := 1) (pc' := 67) (lv' := [(2, .int r2), (1, .int r1), (0, .ref a0)]) (st' := [.int 0, .ref a0]) rfl ?_
          exact PC.lv (lvE.cons rfl (lvE.cons rfl (lvE.cons rfl (lvE.nil)))) h
        · have h := h.2 (cmp_ne.2.mp c)
          refine PC.pr (k := 1) (pc' := 63) (lv' := [(2, .int r2), (1, .int r1), (0, .ref a0)]) (st' := [.int 1, .ref a0]) rfl ?_
          refine PC.pr (k := 1) (pc' := 67) (lv' := [(2, .int r2), (1, .int r1), (0, .ref a0)]) (st' := [.int 1, .ref a0]) rfl ?_
          exact PC.lv (lvE.cons rfl (lvE.cons rfl (lvE.cons rfl (lvE.nil)))) h
theorem t_162_27 {xl : List Int32} {n : Nat} {ι : IS} {Q : Option Value → IS → Prop} {a0 : Nat} {x1 : Int32} {u0 : Nat} (h : PC xl n 161 0 [(0, .ref a0), (1, .int 0), (2, .int 5)] [] (up ι u0 10 (ι a0 10)) (fun v1 κ1 => ∀ r1, v1 = some (.int r1) → ((¬ (κ1 a0 18) = 0 → PC xl n 151 0 [(0, .ref a0)] [] κ1 (fun _ κ2 => Q none κ2)) ∧ ((κ1 a0 18) = 0 → (0 ≤ x1.toInt → x1.toInt < ln (rf a0 11) → ((¬ (((κ1 (rf a0 11) x1.toNatClampNeg) >>> (r1 &&& 31)) &&& 1) = 0 → PC xl n 162 67 [(0, .ref a0), (1, .int x1), (2, .int r1)] [.int 0, .ref a0] κ1 Q) ∧ ((((κ1 (rf a0 11) x1.toNatClampNeg) >>> (r1 &&& 31)) &&& 1) = 0 → PC xl n 162 67 [(0, .ref a0), (1, .int x1), (2, .int r1)] [.int 1, .ref a0] κ1 Q))))))) : PC xl (n + 1) 162 27 [(0, .ref a0), (1, .int x1)] [.ref u0] ι Q := by
  refine PC.pr1 (k := 0) (pc' := 28) (lv' := [(0, .ref a0), (1, .int x1)]) (st' := [.ref a0, .ref u0]) rfl ?_
  refine PC.gI (ci := 9) (j := 10) rfl rfl (by decide) ?_
  refine PC.pI (ci := 9) (j := 10) rfl rfl ?_
  refine PC.pr (k := 1) (pc' := 35) (lv' := [(0, .ref a0), (1, .int x1)]) (st' := [.ref a0]) rfl ?_
  refine PC.pr (k := 1) (pc' := 36) (lv' := [(0, .ref a0), (1, .int x1)]) (st' := [.int 0, .ref a0]) rfl ?_
  refine PC.pr (k := 1) (pc' := 37) (lv' := [(0, .ref a0), (1, .int x1)]) (st' := [.int 5, .int 0, .ref a0]) rfl ?_
  refine (PC.callI (j := 161) (args := [.ref a0, .int 0, .int 5]) (rest := []) (M := cM161) (ty := .int) rfl rfl rfl rfl rfl rfl (by decide) rfl rfl (by decide) ?_).weak
  refine PC.imp h (fun v1 κ1 h r1 hv => ?_)
  have h := h r1 hv
  refine PC.pr (k := 1) (pc' := 41) (lv' := [(2, .int r1), (0, .ref a0), (1, .int x1)]) (st' := []) rfl ?_
  refine PC.pr (k := 1) (pc' := 42) (lv' := [(2, .int r1), (0, .ref a0), (1, .int x1)]) (st' := [.ref a0]) rfl ?_
  refine PC.gI (ci := 9) (j := 18) rfl rfl (by decide) ?_
  refine PC.if1 (t := 83) rfl rfl (fun c => ?_) (fun c => ?_)
  · have h := h.1 (cmp_ne.1.mp c)
    refine PC.pr (k := 1) (pc' := 84) (lv' := [(2, .int r1), (0, .ref a0), (1, .int x1)]) (st' := [.ref a0]) rfl ?_
    refine (PC.callV (j := 151) (args := [.ref a0]) (rest := []) (M := cM151) rfl rfl rfl rfl rfl rfl (by decide) rfl rfl ?_).weak
    refine PC.imp h (fun _ κ2 h => ?_)
    exact PC.retV rfl h
  · have h := h.2 (cmp_ne.2.mp c)
    refine PC.pr (k := 1) (pc' := 49) (lv' := [(2, .int r1), (0, .ref a0), (1, .int x1)]) (st' := [.ref a0]) rfl ?_
    refine PC.pr (k := 1) (pc' := 50) (lv' := [(2, .int r1), (0, .ref a0), (1, .int x1)]) (st' := [.ref a0, .ref a0]) rfl ?_
    refine PC.gR (ci := 9) (j := 11) rfl rfl (by decide) ?_
    refine PC.pr (k := 1) (pc' := 54) (lv' := [(2, .int r1), (0, .ref a0), (1, .int x1)]) (st' := [.int x1, .ref (rf a0 11), .ref a0]) rfl ?_
    refine PC.rd rfl (rf_lt _ _) (fun c1 c2 => ?_)
    have h := h c1 c2
    refine PC.pr (k := 1) (pc' := 56) (lv' := [(2, .int r1), (0, .ref a0), (1, .int x1)]) (st' := [.int r1, .int (κ1 (rf a0 11) x1.toNatClampNeg), .ref a0]) rfl ?_
    refine PC.pr (k := 1) (pc' := 57) (lv' := [(2, .int r1), (0, .ref a0), (1, .int x1)]) (st' := [.int ((κ1 (rf a0 11) x1.toNatClampNeg) >>> (r1 &&& 31)), .ref a0]) rfl ?_
    refine PC.pr (k := 1) (pc' := 58) (lv' := [(2, .int r1), (0, .ref a0), (1, .int x1)]) (st' := [.int 1, .int ((κ1 (rf a0 11) x1.toNatClampNeg) >>> (r1 &&& 31)), .ref a0]) rfl ?_
    refine PC.pr (k := 1) (pc' := 59) (lv' := [(2, .int r1), (0, .ref a0), (1, .int x1)]) (st' := [.int (((κ1 (rf a0 11) x1.toNatClampNeg) >>> (r1 &&& 31)) &&& 1), .ref a0]) rfl ?_
    refine PC.if1 (t := 66) rfl rfl (fun c => ?_) (fun c => ?_)
    · have h := h.1 (cmp_ne.1.mp c)
      refine PC.pr (k := 1) (pc' := 67) (lv' := [(2, .int r1), (0, .ref a0), (1, .int x1)]) (st' := [.int 0, .ref a0]) rfl ?_
      exact PC.lv (lvE.cons rfl (lvE.cons rfl (lvE.cons rfl (lvE.nil)))) h
    · have h := h.2 (cmp_ne.2.mp c)
      refine PC.pr (k := 1) (pc' := 63) (lv' := [(2, .int r1), (0, .ref a0), (1, .int x1)]) (st' := [.int 1, .ref a0]) rfl ?_
      refine PC.pr (k := 1) (pc' := 67) (lv' := [(2, .int r1), (0, .ref a0), (1, .int x1)]) (st' := [.int 1, .ref a0]) rfl ?_
      exact PC.lv (lvE.cons rfl (lvE.cons rfl (lvE.cons rfl (lvE.nil)))) h
theorem t_162_67 {xl : List Int32} {n : Nat} {ι : IS} {Q : Option Value → IS → Prop} {a0 : Nat} {x1 : Int32} {x2 : Int32} {u0 : Int32} {u1 : Nat} (h : PC xl n 153 0 [(0, .ref u1), (1, .int u0), (2, .int 4)] [] ι (fun _ κ1 => (0 ≤ x1.toInt → x1.toInt < ln (rf a0 11) → (0 ≤ x1.toInt → x1.toInt < ln (rf a0 11) → PC xl n 151 0 [(0, .ref a0)] [] (up κ1 (rf a0 11) x1.toNatClampNeg ((κ1 (rf a0 11) x1.toNatClampNeg) ||| (1 <<< (x2 &&& 31)))) (fun _ κ2 => Q none κ2))))) : PC xl (n + 1) 162 67 [(0, .ref a0), (1, .int x1), (2, .int x2)] [.int u0, .ref u1] ι Q := by
  refine PC.pr1 (k := 0) (pc' := 68) (lv' := [(0, .ref a0), (1, .int x1), (2, .int x2)]) (st' := [.int 4, .int u0, .ref u1]) rfl ?_
  refine (PC.callV (j := 153) (args := [.ref u1, .int u0, .int 4]) (rest := []) (M := cM153) rfl rfl rfl rfl rfl rfl (by decide) rfl rfl ?_).weak
  refine PC.imp h (fun _ κ1 h => ?_)
  refine PC.pr (k := 1) (pc' := 72) (lv' := [(0, .ref a0), (1, .int x1), (2, .int x2)]) (st' := [.ref a0]) rfl ?_
  refine PC.gR (ci := 9) (j := 11) rfl rfl (by decide) ?_
  refine PC.pr (k := 1) (pc' := 76) (lv' := [(0, .ref a0), (1, .int x1), (2, .int x2)]) (st' := [.int x1, .ref (rf a0 11)]) rfl ?_
  refine PC.pr (k := 1) (pc' := 77) (lv' := [(0, .ref a0), (1, .int x1), (2, .int x2)]) (st' := [.int x1, .ref (rf a0 11), .int x1, .ref (rf a0 11)]) rfl ?_
  refine PC.rd rfl (rf_lt _ _) (fun c1 c2 => ?_)
  have h := h c1 c2
  refine PC.pr (k := 1) (pc' := 79) (lv' := [(0, .ref a0), (1, .int x1), (2, .int x2)]) (st' := [.int 1, .int (κ1 (rf a0 11) x1.toNatClampNeg), .int x1, .ref (rf a0 11)]) rfl ?_
  refine PC.pr (k := 1) (pc' := 80) (lv' := [(0, .ref a0), (1, .int x1), (2, .int x2)]) (st' := [.int x2, .int 1, .int (κ1 (rf a0 11) x1.toNatClampNeg), .int x1, .ref (rf a0 11)]) rfl ?_
  refine PC.pr (k := 1) (pc' := 81) (lv' := [(0, .ref a0), (1, .int x1), (2, .int x2)]) (st' := [.int (1 <<< (x2 &&& 31)), .int (κ1 (rf a0 11) x1.toNatClampNeg), .int x1, .ref (rf a0 11)]) rfl ?_
  refine PC.pr (k := 1) (pc' := 82) (lv' := [(0, .ref a0), (1, .int x1), (2, .int x2)]) (st' := [.int ((κ1 (rf a0 11) x1.toNatClampNeg) ||| (1 <<< (x2 &&& 31))), .int x1, .ref (rf a0 11)]) rfl ?_
  refine PC.wI rfl (fun c1 c2 => ?_)
  have h := h c1 c2
  refine PC.pr (k := 1) (pc' := 84) (lv' := [(0, .ref a0), (1, .int x1), (2, .int x2)]) (st' := [.ref a0]) rfl ?_
  refine (PC.callV (j := 151) (args := [.ref a0]) (rest := []) (M := cM151) rfl rfl rfl rfl rfl rfl (by decide) rfl rfl ?_).weak
  refine PC.imp h (fun _ κ2 h => ?_)
  exact PC.retV rfl h

/-- DoorPaintsModel.readPlan()V -/
theorem t_163_0 {xl : List Int32} {n : Nat} {ι : IS} {Q : Option Value → IS → Prop} {a0 : Nat} (h : ((¬ (ι a0 18) = 0 → Q none ι) ∧ ((ι a0 18) = 0 → ((¬ (ι a0 16) = 2 → Q none ι) ∧ ((ι a0 16) = 2 → (0 ≤ (52 : Int32).toInt → (52 : Int32).toInt < ln (rf a0 5) → ((¬ (ι (rf a0 5) (52 : Int32).toNatClampNeg) < 8 → PC xl n 163 33 [(0, .ref a0)] [.int 0, .ref a0] ι Q) ∧ ((ι (rf a0 5) (52 : Int32).toNatClampNeg) < 8 → PC xl n 163 33 [(0, .ref a0)] [.int 1, .ref a0] ι Q)))))))) : PC xl (n + 1) 163 0 [(0, .ref a0)] [] ι Q := by
  refine PC.pr1 (k := 0) (pc' := 1) (lv' := [(0, .ref a0)]) (st' := [.ref a0]) rfl ?_
  refine PC.gI (ci := 9) (j := 18) rfl rfl (by decide) ?_
  refine PC.if1 (t := 182) rfl rfl (fun c => ?_) (fun c => ?_)
  · have h := h.1 (cmp_ne.1.mp c)
    exact PC.retV rfl h
  · have h := h.2 (cmp_ne.2.mp c)
    refine PC.pr (k := 1) (pc' := 8) (lv' := [(0, .ref a0)]) (st' := [.ref a0]) rfl ?_
    refine PC.gI (ci := 9) (j := 16) rfl rfl (by decide) ?_
    refine PC.pr (k := 1) (pc' := 12) (lv' := [(0, .ref a0)]) (st' := [.int 2, .int (ι a0 16)]) rfl ?_
    refine PC.if2 (t := 182) rfl rfl (fun c => ?_) (fun c => ?_)
    · have h := h.1 (cmp_ne.1.mp c)
      exact PC.retV rfl h
    · have h := h.2 (cmp_ne.2.mp c)
      refine PC.pr (k := 1) (pc' := 16) (lv' := [(0, .ref a0)]) (st' := [.ref a0]) rfl ?_
      refine PC.pr (k := 1) (pc' := 17) (lv' := [(0, .ref a0)]) (st' := [.ref a0, .ref a0]) rfl ?_
      refine PC.gR (ci := 9) (j := 5) rfl rfl (by decide) ?_
      refine PC.pr (k := 1) (pc' := 22) (lv' := [(0, .ref a0)]) (st' := [.int 52, .ref (rf a0 5), .ref a0]) rfl ?_
      refine PC.rd rfl (rf_lt _ _) (fun c1 c2 => ?_)
      have h := h c1 c2
      refine PC.pr (k := 1) (pc' := 25) (lv' := [(0, .ref a0)]) (st' := [.int 8, .int (ι (rf a0 5) (52 : Int32).toNatClampNeg), .ref a0]) rfl ?_
      refine PC.if2 (t := 32) rfl rfl (fun c => ?_) (fun c => ?_)
      · have h := h.1 (cmp_ge.1.mp c)
        refine PC.pr (k := 1) (pc' := 33) (lv' := [(0, .ref a0)]) (st' := [.int 0, .ref a0]) rfl ?_
        exact h
      · have h := h.2 (cmp_ge.2.mp c)
        refine PC.pr (k := 1) (pc' := 29) (lv' := [(0, .ref a0)]) (st' := [.int 1, .ref a0]) rfl ?_
        refine PC.pr (k := 1) (pc' := 33) (lv' := [(0, .ref a0)]) (st' := [.int 1, .ref a0]) rfl ?_
        exact h
theorem t_163_33 {xl : List Int32} {n : Nat} {ι : IS} {Q : Option Value → IS → Prop} {a0 : Nat} {u0 : Int32} {u1 : Nat} (h : PC xl n 153 0 [(0, .ref u1), (1, .int u0), (2, .int 5)] [] ι (fun _ κ1 => ((¬ (κ1 a0 18) = 0 → PC xl n 163 56 [(0, .ref a0)] [] κ1 Q) ∧ ((κ1 a0 18) = 0 → PC xl n 164 0 [(0, .int (κ1 a0 17))] [] κ1 (fun v2 κ2 => ∀ r2, v2 = some (.int r2) → PC xl n 153 0 [(0, .ref a0), (1, .int r2), (2, .int 3)] [] κ2 (fun _ κ3 => PC xl n 163 56 [(0, .ref a0)] [] κ3 Q)))))) : PC xl (n + 1) 163 33 [(0, .ref a0)] [.int u0, .ref u1] ι Q := by
  refine PC.pr1 (k := 0) (pc' := 34) (lv' := [(0, .ref a0)]) (st' := [.int 5, .int u0, .ref u1]) rfl ?_
  refine (PC.callV (j := 153) (args := [.ref u1, .int u0, .int 5]) (rest := []) (M := cM153) rfl rfl rfl rfl rfl rfl (by decide) rfl rfl ?_).weak
  refine PC.imp h (fun _ κ1 h => ?_)
  refine PC.pr (k := 1) (pc' := 38) (lv' := [(0, .ref a0)]) (st' := [.ref a0]) rfl ?_
  refine PC.gI (ci := 9) (j := 18) rfl rfl (by decide) ?_
  refine PC.if1 (t := 56) rfl rfl (fun c => ?_) (fun c => ?_)
  · have h := h.1 (cmp_ne.1.mp c)
    exact h
  · have h := h.2 (cmp_ne.2.mp c)
    refine PC.pr (k := 1) (pc' := 45) (lv' := [(0, .ref a0)]) (st' := [.ref a0]) rfl ?_
    refine PC.pr (k := 1) (pc' := 46) (lv' := [(0, .ref a0)]) (st' := [.ref a0, .ref a0]) rfl ?_
    refine PC.gI (ci := 9) (j := 17) rfl rfl (by decide) ?_
    refine (PC.callI (j := 164) (args := [.int (κ1 a0 17)]) (rest := [.ref a0]) (M := cM164) (ty := .boolean) rfl rfl rfl rfl rfl rfl (by decide) rfl rfl (by decide) ?_).weak
    refine PC.imp h (fun v2 κ2 h r2 hv => ?_)
    have h := h r2 hv
    refine PC.pr (k := 1) (pc' := 53) (lv' := [(0, .ref a0)]) (st' := [.int 3, .int r2, .ref a0]) rfl ?_
    refine (PC.callV (j := 153) (args := [.ref a0, .int r2, .int 3]) (rest := []) (M := cM153) rfl rfl rfl rfl rfl rfl (by decide) rfl rfl ?_).weak
    refine PC.imp h (fun _ κ3 h => ?_)
    exact h
theorem t_163_56 {xl : List Int32} {n : Nat} {ι : IS} {Q : Option Value → IS → Prop} {a0 : Nat} (h : ((¬ (ι a0 18) = 0 → PC xl n 163 175 [(0, .ref a0)] [] ι Q) ∧ ((ι a0 18) = 0 → (0 ≤ (52 : Int32).toInt → (52 : Int32).toInt < ln (rf a0 5) → (0 ≤ (53 + (ι (rf a0 5) (52 : Int32).toNatClampNeg)).toInt → (53 + (ι (rf a0 5) (52 : Int32).toNatClampNeg)).toInt < ln (rf a0 5) → (0 ≤ (52 : Int32).toInt → (52 : Int32).toInt < ln (rf a0 5) → (0 ≤ (52 : Int32).toInt → (52 : Int32).toInt < ln (rf a0 5) → PC xl n 163 93 [(0, .ref a0)] [] (up (up ι (rf a0 5) (53 + (ι (rf a0 5) (52 : Int32).toNatClampNeg)).toNatClampNeg (ι a0 17)) (rf a0 5) (52 : Int32).toNatClampNeg (((up ι (rf a0 5) (53 + (ι (rf a0 5) (52 : Int32).toNatClampNeg)).toNatClampNeg (ι a0 17)) (rf a0 5) (52 : Int32).toNatClampNeg) + 1)) Q))))))) : PC xl (n + 1) 163 56 [(0, .ref a0)] [] ι Q := by
  refine PC.pr1 (k := 0) (pc' := 57) (lv' := [(0, .ref a0)]) (st' := [.ref a0]) rfl ?_
  refine PC.gI (ci := 9) (j := 18) rfl rfl (by decide) ?_
  refine PC.if1 (t := 175) rfl rfl (fun c => ?_) (fun c => ?_)
  · have h := h.1 (cmp_ne.1.mp c)
    exact h
  · have h := h.2 (cmp_ne.2.mp c)
    refine PC.pr (k := 1) (pc' := 64) (lv' := [(0, .ref a0)]) (st' := [.ref a0]) rfl ?_
    refine PC.gR (ci := 9) (j := 5) rfl rfl (by decide) ?_
    refine PC.pr (k := 1) (pc' := 69) (lv' := [(0, .ref a0)]) (st' := [.int 53, .ref (rf a0 5)]) rfl ?_
    refine PC.pr (k := 1) (pc' := 70) (lv' := [(0, .ref a0)]) (st' := [.ref a0, .int 53, .ref (rf a0 5)]) rfl ?_
    refine PC.gR (ci := 9) (j := 5) rfl rfl (by decide) ?_
    refine PC.pr (k := 1) (pc' := 75) (lv' := [(0, .ref a0)]) (st' := [.int 52, .ref (rf a0 5), .int 53, .ref (rf a0 5)]) rfl ?_
    refine PC.rd rfl (rf_lt _ _) (fun c1 c2 => ?_)
    have h := h c1 c2
    refine PC.pr (k := 1) (pc' := 77) (lv' := [(0, .ref a0)]) (st' := [.int (53 + (ι (rf a0 5) (52 : Int32).toNatClampNeg)), .ref (rf a0 5)]) rfl ?_
    refine PC.pr (k := 1) (pc' := 78) (lv' := [(0, .ref a0)]) (st' := [.ref a0, .int (53 + (ι (rf a0 5) (52 : Int32).toNatClampNeg)), .ref (rf a0 5)]) rfl ?_
    refine PC.gI (ci := 9) (j := 17) rfl rfl (by decide) ?_
    refine PC.wI rfl (fun c1 c2 => ?_)
    have h := h c1 c2
    refine PC.pr (k := 1) (pc' := 83) (lv' := [(0, .ref a0)]) (st' := [.ref a0]) rfl ?_
    refine PC.gR (ci := 9) (j := 5) rfl rfl (by decide) ?_
    refine PC.pr (k := 1) (pc' := 88) (lv' := [(0, .ref a0)]) (st' := [.int 52, .ref (rf a0 5)]) rfl ?_
    refine PC.pr (k := 1) (pc' := 89) (lv' := [(0, .ref a0)]) (st' := [.int 52, .ref (rf a0 5), .int 52, .ref (rf a0 5)]) rfl ?_
    refine PC.rd rfl (rf_lt _ _) (fun c1 c2 => ?_)
    have h := h c1 c2
    refine PC.pr (k := 1) (pc' := 91) (lv' := [(0, .ref a0)]) (st' := [.int 1, .int ((up ι (rf a0 5) (53 + (ι (rf a0 5) (52 : Int32).toNatClampNeg)).toNatClampNeg (ι a0 17)) (rf a0 5) (52 : Int32).toNatClampNeg), .int 52, .ref (rf a0 5)]) rfl ?_
    refine PC.pr (k := 1) (pc' := 92) (lv' := [(0, .ref a0)]) (st' := [.int (((up ι (rf a0 5) (53 + (ι (rf a0 5) (52 : Int32).toNatClampNeg)).toNatClampNeg (ι a0 17)) (rf a0 5) (52 : Int32).toNatClampNeg) + 1), .int 52, .ref (rf a0 5)]) rfl ?_
    refine PC.wI rfl (fun c1 c2 => ?_)
    have h := h c1 c2
    exact h
theorem t_163_93 {xl : List Int32} {n : Nat} {ι : IS} {Q : Option Value → IS → Prop} {a0 : Nat} (h : ((¬ (ι a0 17) < 90 → PC xl n 163 127 [(0, .ref a0)] [.ref a0] ι Q) ∧ ((ι a0 17) < 90 → ((¬ (ι a0 9) < ((ι a0 17) / 10) → PC xl n 163 127 [(0, .ref a0)] [.ref a0] ι Q) ∧ ((ι a0 9) < ((ι a0 17) / 10) → ((¬ ((up ι a0 9 ((ι a0 17) / 10)) a0 17) < 90 → PC xl n 163 168 [(0, .ref a0)] [.ref a0] (up ι a0 9 ((ι a0 17) / 10)) Q) ∧ (((up ι a0 9 ((ι a0 17) / 10)) a0 17) < 90 → ((¬ ((up ι a0 9 ((ι a0 17) / 10)) a0 10) < (((up ι a0 9 ((ι a0 17) / 10)) a0 17) - ((up ι a0 9 ((ι a0 17) / 10)) a0 17) / 10 * 10) → PC xl n 163 168 [(0, .ref a0)] [.ref a0] (up ι a0 9 ((ι a0 17) / 10)) Q) ∧ (((up ι a0 9 ((ι a0 17) / 10)) a0 10) < (((up ι a0 9 ((ι a0 17) / 10)) a0 17) - ((up ι a0 9 ((ι a0 17) / 10)) a0 17) / 10 * 10) → PC xl n 163 175 [(0, .ref a0)] [] (up (up ι a0 9 ((ι a0 17) / 10)) a0 10 (((up ι a0 9 ((ι a0 17) / 10)) a0 17) - ((up ι a0 9 ((ι a0 17) / 10)) a0 17) / 10 * 10)) Q))))))))) : PC xl (n + 1) 163 93 [(0, .ref a0)] [] ι Q := by
  refine PC.pr1 (k := 0) (pc' := 94) (lv' := [(0, .ref a0)]) (st' := [.ref a0]) rfl ?_
  refine PC.pr (k := 1) (pc' := 95) (lv' := [(0, .ref a0)]) (st' := [.ref a0, .ref a0]) rfl ?_
  refine PC.gI (ci := 9) (j := 17) rfl rfl (by decide) ?_
  refine PC.pr (k := 1) (pc' := 100) (lv' := [(0, .ref a0)]) (st' := [.int 90, .int (ι a0 17), .ref a0]) rfl ?_
  refine PC.if2 (t := 127) rfl rfl (fun c => ?_) (fun c => ?_)
  · have h := h.1 (cmp_ge.1.mp c)
    exact h
  · have h := h.2 (cmp_ge.2.mp c)
    refine PC.pr (k := 1) (pc' := 104) (lv' := [(0, .ref a0)]) (st' := [.ref a0, .ref a0]) rfl ?_
    refine PC.gI (ci := 9) (j := 17) rfl rfl (by decide) ?_
    refine PC.pr (k := 1) (pc' := 109) (lv' := [(0, .ref a0)]) (st' := [.int 10, .int (ι a0 17), .ref a0]) rfl ?_
    refine PC.pr (k := 1) (pc' := 110) (lv' := [(0, .ref a0)]) (st' := [.int ((ι a0 17) / 10), .ref a0]) rfl ?_
    refine PC.pr (k := 1) (pc' := 111) (lv' := [(0, .ref a0)]) (st' := [.ref a0, .int ((ι a0 17) / 10), .ref a0]) rfl ?_
    refine PC.gI (ci := 9) (j := 9) rfl rfl (by decide) ?_
    refine PC.if2 (t := 127) rfl rfl (fun c => ?_) (fun c => ?_)
    · have h := h.1 (cmp_le.1.mp c)
      exact h
    · have h := h.2 (cmp_le.2.mp c)
      refine PC.pr (k := 1) (pc' := 118) (lv' := [(0, .ref a0)]) (st' := [.ref a0, .ref a0]) rfl ?_
      refine PC.gI (ci := 9) (j := 17) rfl rfl (by decide) ?_
      refine PC.pr (k := 1) (pc' := 123) (lv' := [(0, .ref a0)]) (st' := [.int 10, .int (ι a0 17), .ref a0]) rfl ?_
      refine PC.pr (k := 1) (pc' := 124) (lv' := [(0, .ref a0)]) (st' := [.int ((ι a0 17) / 10), .ref a0]) rfl ?_
      refine PC.pr (k := 1) (pc' := 131) (lv' := [(0, .ref a0)]) (st' := [.int ((ι a0 17) / 10), .ref a0]) rfl ?_
      refine PC.pI (ci := 9) (j := 9) rfl rfl ?_
      refine PC.pr (k := 1) (pc' := 135) (lv' := [(0, .ref a0)]) (st' := [.ref a0]) rfl ?_
      refine PC.pr (k := 1) (pc' := 136) (lv' := [(0, .ref a0)]) (st' := [.ref a0, .ref a0]) rfl ?_
      refine PC.gI (ci := 9) (j := 17) rfl rfl (by decide) ?_
      refine PC.pr (k := 1) (pc' := 141) (lv' := [(0, .ref a0)]) (st' := [.int 90, .int ((up ι a0 9 ((ι a0 17) / 10)) a0 17), .ref a0]) rfl ?_
      refine PC.if2 (t := 168) rfl rfl (fun c => ?_) (fun c => ?_)
      · have h := h.1 (cmp_ge.1.mp c)
        exact h
      · have h := h.2 (cmp_ge.2.mp c)
        refine PC.pr (k := 1) (pc' := 145) (lv' := [(0, .ref a0)]) (st' := [.ref a0, .ref a0]) rfl ?_
        refine PC.gI (ci := 9) (j := 17) rfl rfl (by decide) ?_
        refine PC.pr (k := 1) (pc' := 150) (lv' := [(0, .ref a0)]) (st' := [.int 10, .int ((up ι a0 9 ((ι a0 17) / 10)) a0 17), .ref a0]) rfl ?_
        refine PC.pr (k := 1) (pc' := 151) (lv' := [(0, .ref a0)]) (st' := [.int (((up ι a0 9 ((ι a0 17) / 10)) a0 17) - ((up ι a0 9 ((ι a0 17) / 10)) a0 17) / 10 * 10), .ref a0]) rfl ?_
        refine PC.pr (k := 1) (pc' := 152) (lv' := [(0, .ref a0)]) (st' := [.ref a0, .int (((up ι a0 9 ((ι a0 17) / 10)) a0 17) - ((up ι a0 9 ((ι a0 17) / 10)) a0 17) / 10 * 10), .ref a0]) rfl ?_
        refine PC.gI (ci := 9) (j := 10) rfl rfl (by decide) ?_
        refine PC.if2 (t := 168) rfl rfl (fun c => ?_) (fun c => ?_)
        · have h := h.1 (cmp_le.1.mp c)
          exact h
        · have h := h.2 (cmp_le.2.mp c)
          refine PC.pr (k := 1) (pc' := 159) (lv' := [(0, .ref a0)]) (st' := [.ref a0, .ref a0]) rfl ?_
          refine PC.gI (ci := 9) (j := 17) rfl rfl (by decide) ?_
          refine PC.pr (k := 1) (pc' := 164) (lv' := [(0, .ref a0)]) (st' := [.int 10, .int ((up ι a0 9 ((ι a0 17) / 10)) a0 17), .ref a0]) rfl ?_
          refine PC.pr (k := 1) (pc' := 165) (lv' := [(0, .ref a0)]) (st' := [.int (((up ι a0 9 ((ι a0 17) / 10)) a0 17) - ((up ι a0 9 ((ι a0 17) / 10)) a0 17) / 10 * 10), .ref a0]) rfl ?_
          refine PC.pr (k := 1) (pc' := 172) (lv' := [(0, .ref a0)]) (st' := [.int (((up ι a0 9 ((ι a0 17) / 10)) a0 17) - ((up ι a0 9 ((ι a0 17) / 10)) a0 17) / 10 * 10), .ref a0]) rfl ?_
          refine PC.pI (ci := 9) (j := 10) rfl rfl ?_
          exact h
theorem t_163_127 {xl : List Int32} {n : Nat} {ι : IS} {Q : Option Value → IS → Prop} {a0 : Nat} {u0 : Nat} (h : ((¬ ((up ι u0 9 (ι a0 9)) a0 17) < 90 → PC xl n 163 168 [(0, .ref a0)] [.ref a0] (up ι u0 9 (ι a0 9)) Q) ∧ (((up ι u0 9 (ι a0 9)) a0 17) < 90 → ((¬ ((up ι u0 9 (ι a0 9)) a0 10) < (((up ι u0 9 (ι a0 9)) a0 17) - ((up ι u0 9 (ι a0 9)) a0 17) / 10 * 10) → PC xl n 163 168 [(0, .ref a0)] [.ref a0] (up ι u0 9 (ι a0 9)) Q) ∧ (((up ι u0 9 (ι a0 9)) a0 10) < (((up ι u0 9 (ι a0 9)) a0 17) - ((up ι u0 9 (ι a0 9)) a0 17) / 10 * 10) → PC xl n 163 175 [(0, .ref a0)] [] (up (up ι u0 9 (ι a0 9)) a0 10 (((up ι u0 9 (ι a0 9)) a0 17) - ((up ι u0 9 (ι a0 9)) a0 17) / 10 * 10)) Q))))) : PC xl (n + 1) 163 127 [(0, .ref a0)] [.ref u0] ι Q := by
  refine PC.pr1 (k := 0) (pc' := 128) (lv' := [(0, .ref a0)]) (st' := [.ref a0, .ref u0]) rfl ?_
  refine PC.gI (ci := 9) (j := 9) rfl rfl (by decide) ?_
  refine PC.pI (ci := 9) (j := 9) rfl rfl ?_
  refine PC.pr (k := 1) (pc' := 135) (lv' := [(0, .ref a0)]) (st' := [.ref a0]) rfl ?_
  refine PC.pr (k := 1) (pc' := 136) (lv' := [(0, .ref a0)]) (st' := [.ref a0, .ref a0]) rfl ?_
  refine PC.gI (ci := 9) (j := 17) rfl rfl (by decide) ?_
  refine PC.pr (k := 1) (pc' := 141) (lv' := [(0, .ref a0)]) (st' := [.int 90, .int ((up ι u0 9 (ι a0 9)) a0 17), .ref a0]) rfl ?_
  refine PC.if2 (t := 168) rfl rfl (fun c => ?_) (fun c => ?_)
  · have h := h.1 (cmp_ge.1.mp c)
    exact h
  · have h := h.2 (cmp_ge.2.mp c)
    refine PC.pr (k := 1) (pc' := 145) (lv' := [(0, .ref a0)]) (st' := [.ref a0, .ref a0]) rfl ?_
    refine PC.gI (ci := 9) (j := 17) rfl rfl (by decide) ?_
    refine PC.pr (k := 1) (pc' := 150) (lv' := [(0, .ref a0)]) (st' := [.int 10, .int ((up ι u0 9 (ι a0 9)) a0 17), .ref a0]) rfl ?_
    refine PC.pr (k := 1) (pc' := 151) (lv' := [(0, .ref a0)]) (st' := [.int (((up ι u0 9 (ι a0 9)) a0 17) - ((up ι u0 9 (ι a0 9)) a0 17) / 10 * 10), .ref a0]) rfl ?_
    refine PC.pr (k := 1) (pc' := 152) (lv' := [(0, .ref a0)]) (st' := [.ref a0, .int (((up ι u0 9 (ι a0 9)) a0 17) - ((up ι u0 9 (ι a0 9)) a0 17) / 10 * 10), .ref a0]) rfl ?_
    refine PC.gI (ci := 9) (j := 10) rfl rfl (by decide) ?_
    refine PC.if2 (t := 168) rfl rfl (fun c => ?_) (fun c => ?_)
    · have h := h.1 (cmp_le.1.mp c)
      exact h
    · have h := h.2 (cmp_le.2.mp c)
      refine PC.pr (k := 1) (pc' := 159) (lv' := [(0, .ref a0)]) (st' := [.ref a0, .ref a0]) rfl ?_
      refine PC.gI (ci := 9) (j := 17) rfl rfl (by decide) ?_
      refine PC.pr (k := 1) (pc' := 164) (lv' := [(0, .ref a0)]) (st' := [.int 10, .int ((up ι u0 9 (ι a0 9)) a0 17), .ref a0]) rfl ?_
      refine PC.pr (k := 1) (pc' := 165) (lv' := [(0, .ref a0)]) (st' := [.int (((up ι u0 9 (ι a0 9)) a0 17) - ((up ι u0 9 (ι a0 9)) a0 17) / 10 * 10), .ref a0]) rfl ?_
      refine PC.pr (k := 1) (pc' := 172) (lv' := [(0, .ref a0)]) (st' := [.int (((up ι u0 9 (ι a0 9)) a0 17) - ((up ι u0 9 (ι a0 9)) a0 17) / 10 * 10), .ref a0]) rfl ?_
      refine PC.pI (ci := 9) (j := 10) rfl rfl ?_
      exact h
theorem t_163_168 {xl : List Int32} {n : Nat} {ι : IS} {Q : Option Value → IS → Prop} {a0 : Nat} {u0 : Nat} (h : PC xl n 163 175 [(0, .ref a0)] [] (up ι u0 10 (ι a0 10)) Q) : PC xl (n + 1) 163 168 [(0, .ref a0)] [.ref u0] ι Q := by
  refine PC.pr1 (k := 0) (pc' := 169) (lv' := [(0, .ref a0)]) (st' := [.ref a0, .ref u0]) rfl ?_
  refine PC.gI (ci := 9) (j := 10) rfl rfl (by decide) ?_
  refine PC.pI (ci := 9) (j := 10) rfl rfl ?_
  exact h
theorem t_163_175 {xl : List Int32} {n : Nat} {ι : IS} {Q : Option Value → IS → Prop} {a0 : Nat} (h : PC xl n 151 0 [(0, .ref a0)] [] ι (fun _ κ1 => PC xl n 163 0 [(0, .ref a0)] [] κ1 Q)) : PC xl (n + 1) 163 175 [(0, .ref a0)] [] ι Q := by
  refine PC.pr1 (k := 0) (pc' := 176) (lv' := [(0, .ref a0)]) (st' := [.ref a0]) rfl ?_
  refine (PC.callV (j := 151) (args := [.ref a0]) (rest := []) (M := cM151) rfl rfl rfl rfl rfl rfl (by decide) rfl rfl ?_).weak
  refine PC.imp h (fun _ κ1 h => ?_)
  refine PC.pr (k := 1) (pc' := 0) (lv' := [(0, .ref a0)]) (st' := []) rfl ?_
  exact h

/-- DoorPaintsModel.isActLike(I)Z -/
theorem t_164_0 {xl : List Int32} {n : Nat} {ι : IS} {Q : Option Value → IS → Prop} {x0 : Int32} (h : PC xl n 148 0 [(0, .long (x0).toInt64), (2, .long 90), (4, .long 92)] [] ι (fun v1 κ1 => ∀ r1, v1 = some (.int r1) → ((¬ r1 = 0 → Q (some (.int 1)) κ1) ∧ (r1 = 0 → PC xl n 148 0 [(0, .long ((x0 / 10)).toInt64), (2, .long 0), (4, .long 3)] [] κ1 (fun v2 κ2 => ∀ r2, v2 = some (.int r2) → ((r2 = 0 → Q (some (.int 0)) κ2) ∧ (¬ r2 = 0 → ((¬ (x0 - x0 / 10 * 10) < 4 → Q (some (.int 0)) κ2) ∧ ((x0 - x0 / 10 * 10) < 4 → Q (some (.int 1)) κ2))))))))) : PC xl (n + 1) 164 0 [(0, .int x0)] [] ι Q := by
  refine PC.pr1 (k := 0) (pc' := 1) (lv' := [(0, .int x0)]) (st' := [.int x0]) rfl ?_
  refine PC.pr (k := 1) (pc' := 2) (lv' := [(0, .int x0)]) (st' := [.long (x0).toInt64]) rfl ?_
  refine PC.pr (k := 1) (pc' := 5) (lv' := [(0, .int x0)]) (st' := [.long 90, .long (x0).toInt64]) rfl ?_
  refine PC.pr (k := 1) (pc' := 8) (lv' := [(0, .int x0)]) (st' := [.long 92, .long 90, .long (x0).toInt64]) rfl ?_
  refine (PC.callI (j := 148) (args := [.long (x0).toInt64, .long 90, .long 92]) (rest := []) (M := cM148) (ty := .boolean) rfl rfl rfl rfl rfl rfl (by decide) rfl rfl (by decide) ?_).weak
  refine PC.imp h (fun v1 κ1 h r1 hv => ?_)
  have h := h r1 hv
  refine PC.if1 (t := 37) rfl rfl (fun c => ?_) (fun c => ?_)
  · have h := h.1 (cmp_ne.1.mp c)
    refine PC.pr (k := 1) (pc' := 38) (lv' := [(0, .int x0)]) (st' := [.int 1]) rfl ?_
    refine PC.pr (k := 1) (pc' := 42) (lv' := [(0, .int x0)]) (st' := [.int 1]) rfl ?_
    exact PC.retI rfl h
  · have h := h.2 (cmp_ne.2.mp c)
    refine PC.pr (k := 1) (pc' := 15) (lv' := [(0, .int x0)]) (st' := [.int x0]) rfl ?_
    refine PC.pr (k := 1) (pc' := 17) (lv' := [(0, .int x0)]) (st' := [.int 10, .int x0]) rfl ?_
    refine PC.pr (k := 1) (pc' := 18) (lv' := [(0, .int x0)]) (st' := [.int (x0 / 10)]) rfl ?_
    refine PC.pr (k := 1) (pc' := 19) (lv' := [(0, .int x0)]) (st' := [.long ((x0 / 10)).toInt64]) rfl ?_
    refine PC.pr (k := 1) (pc' := 20) (lv' := [(0, .int x0)]) (st' := [.long 0, .long ((x0 / 10)).toInt64]) rfl ?_
    refine PC.pr (k := 1) (pc' := 23) (lv' := [(0, .int x0)]) (st' := [.long 3, .long 0, .long ((x0 / 10)).toInt64]) rfl ?_
    refine (PC.callI (j := 148) (args := [.long ((x0 / 10)).toInt64, .long 0, .long 3]) (rest := []) (M := cM148) (ty := .boolean) rfl rfl rfl rfl rfl rfl (by decide) rfl rfl (by decide) ?_).weak
    refine PC.imp h (fun v2 κ2 h r2 hv => ?_)
    have h := h r2 hv
    refine PC.if1 (t := 41) rfl rfl (fun c => ?_) (fun c => ?_)
    · have h := h.1 (cmp_eq.1.mp c)
      refine PC.pr (k := 1) (pc' := 42) (lv' := [(0, .int x0)]) (st' := [.int 0]) rfl ?_
      exact PC.retI rfl h
    · have h := h.2 (cmp_eq.2.mp c)
      refine PC.pr (k := 1) (pc' := 30) (lv' := [(0, .int x0)]) (st' := [.int x0]) rfl ?_
      refine PC.pr (k := 1) (pc' := 32) (lv' := [(0, .int x0)]) (st' := [.int 10, .int x0]) rfl ?_
      refine PC.pr (k := 1) (pc' := 33) (lv' := [(0, .int x0)]) (st' := [.int (x0 - x0 / 10 * 10)]) rfl ?_
      refine PC.pr (k := 1) (pc' := 34) (lv' := [(0, .int x0)]) (st' := [.int 4, .int (x0 - x0 / 10 * 10)]) rfl ?_
      refine PC.if2 (t := 41) rfl rfl (fun c => ?_) (fun c => ?_)
      · have h := h.1 (cmp_ge.1.mp c)
        refine PC.pr (k := 1) (pc' := 42) (lv' := [(0, .int x0)]) (st' := [.int 0]) rfl ?_
        exact PC.retI rfl h
      · have h := h.2 (cmp_ge.2.mp c)
        refine PC.pr (k := 1) (pc' := 38) (lv' := [(0, .int x0)]) (st' := [.int 1]) rfl ?_
        refine PC.pr (k := 1) (pc' := 42) (lv' := [(0, .int x0)]) (st' := [.int 1]) rfl ?_
        exact PC.retI rfl h

/-- DoorPaintsModel.readVisitor(I)V -/
theorem t_165_0 {xl : List Int32} {n : Nat} {ι : IS} {Q : Option Value → IS → Prop} {a0 : Nat} {x1 : Int32} (h : (0 ≤ ((4 * (ι a0 6)) + 0).toInt → ((4 * (ι a0 6)) + 0).toInt < ln (rf a0 5) → PC xl n 160 0 [(0, .ref a0), (1, .int 0), (2, .int 5)] [] (up ι (rf a0 5) ((4 * (ι a0 6)) + 0).toNatClampNeg x1) (fun v1 κ1 => ∀ r1, v1 = some (.int r1) → (0 ≤ ((4 * (ι a0 6)) + 1).toInt → ((4 * (ι a0 6)) + 1).toInt < ln (rf a0 5) → PC xl n 160 0 [(0, .ref a0), (1, .int 0), (2, .int 99)] [] (up κ1 (rf a0 5) ((4 * (ι a0 6)) + 1).toNatClampNeg r1) (fun v2 κ2 => ∀ r2, v2 = some (.int r2) → (0 ≤ ((4 * (ι a0 6)) + 2).toInt → ((4 * (ι a0 6)) + 2).toInt < ln (rf a0 5) → Q none (up (up κ2 (rf a0 5) ((4 * (ι a0 6)) + 2).toNatClampNeg r2) a0 6 (((up κ2 (rf a0 5) ((4 * (ι a0 6)) + 2).toNatClampNeg r2) a0 6) + 1)))))))) : PC xl (n + 1) 165 0 [(0, .ref a0), (1, .int x1)] [] ι Q := by
  refine PC.pr1 (k := 0) (pc' := 1) (lv' := [(0, .ref a0), (1, .int x1)]) (st' := [.int 4]) rfl ?_
  refine PC.pr (k := 1) (pc' := 2) (lv' := [(0, .ref a0), (1, .int x1)]) (st' := [.ref a0, .int 4]) rfl ?_
  refine PC.gI (ci := 9) (j := 6) rfl rfl (by decide) ?_
  refine PC.pr (k := 1) (pc' := 6) (lv' := [(0, .ref a0), (1, .int x1)]) (st' := [.int (4 * (ι a0 6))]) rfl ?_
  refine PC.pr (k := 1) (pc' := 7) (lv' := [(2, .int (4 * (ι a0 6))), (0, .ref a0), (1, .int x1)]) (st' := []) rfl ?_
  refine PC.pr (k := 1) (pc' := 8) (lv' := [(2, .int (4 * (ι a0 6))), (0, .ref a0), (1, .int x1)]) (st' := [.ref a0]) rfl ?_
  refine PC.gR (ci := 9) (j := 5) rfl rfl (by decide) ?_
  refine PC.pr (k := 1) (pc' := 12) (lv' := [(2, .int (4 * (ι a0 6))), (0, .ref a0), (1, .int x1)]) (st' := [.int (4 * (ι a0 6)), .ref (rf a0 5)]) rfl ?_
  refine PC.pr (k := 1) (pc' := 13) (lv' := [(2, .int (4 * (ι a0 6))), (0, .ref a0), (1, .int x1)]) (st' := [.int 0, .int (4 * (ι a0 6)), .ref (rf a0 5)]) rfl ?_
  refine PC.pr (k := 1) (pc' := 14) (lv' := [(2, .int (4 * (ι a0 6))), (0, .ref a0), (1, .int x1)]) (st' := [.int ((4 * (ι a0 6)) + 0), .ref (rf a0 5)]) rfl ?_
  refine PC.pr (k := 1) (pc' := 15) (lv' := [(2, .int (4 * (ι a0 6))), (0, .ref a0), (1, .int x1)]) (st' := [.int x1, .int ((4 * (ι a0 6)) + 0), .ref (rf a0 5)]) rfl ?_
  refine PC.wI rfl (fun c1 c2 => ?_)
  have h := h c1 c2
  refine PC.pr (k := 1) (pc' := 17) (lv' := [(2, .int (4 * (ι a0 6))), (0, .ref a0), (1, .int x1)]) (st' := [.ref a0]) rfl ?_
  refine PC.gR (ci := 9) (j := 5) rfl rfl (by decide) ?_
  refine PC.pr (k := 1) (pc' := 21) (lv' := [(2, .int (4 * (ι a0 6))), (0, .ref a0), (1, .int x1)]) (st' := [.int (4 * (ι a0 6)), .ref (rf a0 5)]) rfl ?_
  refine PC.pr (k := 1) (pc' := 22) (lv' := [(2, .int (4 * (ι a0 6))), (0, .ref a0), (1, .int x1)]) (st' := [.int 1, .int (4 * (ι a0 6)), .ref (rf a0 5)]) rfl ?_
  refine PC.pr (k := 1) (pc' := 23) (lv' := [(2, .int (4 * (ι a0 6))), (0, .ref a0), (1, .int x1)]) (st' := [.int ((4 * (ι a0 6)) + 1), .ref (rf a0 5)]) rfl ?_
  refine PC.pr (k := 1) (pc' := 24) (lv' := [(2, .int (4 * (ι a0 6))), (0, .ref a0), (1, .int x1)]) (st' := [.ref a0, .int ((4 * (ι a0 6)) + 1), .ref (rf a0 5)]) rfl ?_
  refine PC.pr (k := 1) (pc' := 25) (lv' := [(2, .int (4 * (ι a0 6))), (0, .ref a0), (1, .int x1)]) (st' := [.int 0, .ref a0, .int ((4 * (ι a0 6)) + 1), .ref (rf a0 5)]) rfl ?_
  refine PC.pr (k := 1) (pc' := 26) (lv' := [(2, .int (4 * (ι a0 6))), (0, .ref a0), (1, .int x1)]) (st' := [.int 5, .int 0, .ref a0, .int ((4 * (ι a0 6)) + 1), .ref (rf a0 5)]) rfl ?_
  refine (PC.callI (j := 160) (args := [.ref a0, .int 0, .int 5]) (rest := [.int ((4 * (ι a0 6)) + 1), .ref (rf a0 5)]) (M := cM160) (ty := .int) rfl rfl rfl rfl rfl rfl (by decide) rfl rfl (by decide) ?_).weak
  refine PC.imp h (fun v1 κ1 h r1 hv => ?_)
  have h := h r1 hv
  refine PC.wI rfl (fun c1 c2 => ?_)
  have h := h c1 c2
  refine PC.pr (k := 1) (pc' := 31) (lv' := [(2, .int (4 * (ι a0 6))), (0, .ref a0), (1, .int x1)]) (st' := [.ref a0]) rfl ?_
  refine PC.gR (ci := 9) (j := 5) rfl rfl (by decide) ?_
  refine PC.pr (k := 1) (pc' := 35) (lv' := [(2, .int (4 * (ι a0 6))), (0, .ref a0), (1, .int x1)]) (st' := [.int (4 * (ι a0 6)), .ref (rf a0 5)]) rfl ?_
  refine PC.pr (k := 1) (pc' := 36) (lv' := [(2, .int (4 * (ι a0 6))), (0, .ref a0), (1, .int x1)]) (st' := [.int 2, .int (4 * (ι a0 6)), .ref (rf a0 5)]) rfl ?_
  refine PC.pr (k := 1) (pc' := 37) (lv' := [(2, .int (4 * (ι a0 6))), (0, .ref a0), (1, .int x1)]) (st' := [.int ((4 * (ι a0 6)) + 2), .ref (rf a0 5)]) rfl ?_
  refine PC.pr (k := 1) (pc' := 38) (lv' := [(2, .int (4 * (ι a0 6))), (0, .ref a0), (1, .int x1)]) (st' := [.ref a0, .int ((4 * (ι a0 6)) + 2), .ref (rf a0 5)]) rfl ?_
  refine PC.pr (k := 1) (pc' := 39) (lv' := [(2, .int (4 * (ι a0 6))), (0, .ref a0), (1, .int x1)]) (st' := [.int 0, .ref a0, .int ((4 * (ι a0 6)) + 2), .ref (rf a0 5)]) rfl ?_
  refine PC.pr (k := 1) (pc' := 41) (lv' := [(2, .int (4 * (ι a0 6))), (0, .ref a0), (1, .int x1)]) (st' := [.int 99, .int 0, .ref a0, .int ((4 * (ι a0 6)) + 2), .ref (rf a0 5)]) rfl ?_
  refine (PC.callI (j := 160) (args := [.ref a0, .int 0, .int 99]) (rest := [.int ((4 * (ι a0 6)) + 2), .ref (rf a0 5)]) (M := cM160) (ty := .int) rfl rfl rfl rfl rfl rfl (by decide) rfl rfl (by decide) ?_).weak
  refine PC.imp h (fun v2 κ2 h r2 hv => ?_)
  have h := h r2 hv
  refine PC.wI rfl (fun c1 c2 => ?_)
  have h := h c1 c2
  refine PC.pr (k := 1) (pc' := 46) (lv' := [(2, .int (4 * (ι a0 6))), (0, .ref a0), (1, .int x1)]) (st' := [.ref a0]) rfl ?_
  refine PC.pr (k := 1) (pc' := 47) (lv' := [(2, .int (4 * (ι a0 6))), (0, .ref a0), (1, .int x1)]) (st' := [.ref a0, .ref a0]) rfl ?_
  refine PC.gI (ci := 9) (j := 6) rfl rfl (by decide) ?_
  refine PC.pr (k := 1) (pc' := 51) (lv' := [(2, .int (4 * (ι a0 6))), (0, .ref a0), (1, .int x1)]) (st' := [.int 1, .int ((up κ2 (rf a0 5) ((4 * (ι a0 6)) + 2).toNatClampNeg r2) a0 6), .ref a0]) rfl ?_
  refine PC.pr (k := 1) (pc' := 52) (lv' := [(2, .int (4 * (ι a0 6))), (0, .ref a0), (1, .int x1)]) (st' := [.int (((up κ2 (rf a0 5) ((4 * (ι a0 6)) + 2).toNatClampNeg r2) a0 6) + 1), .ref a0]) rfl ?_
  refine PC.pI (ci := 9) (j := 6) rfl rfl ?_
  exact PC.retV rfl h
end
section
/-! WHAT RUNS ASK (written by a program) -/
/-- DoorPaints.keep(I)I -/
theorem t_130_0 {xl : List Int32} {n : Nat} {ι : IS} {Q : Option Value → IS → Prop} {a0 : Nat} {x1 : Int32} (h : ((x1 < 0 → Q (some (.int (-1))) ι) ∧ (¬ x1 < 0 → ((x1 < 2 → (0 ≤ x1.toInt → x1.toInt < ln (rf a0 4) → (((ι (rf a0 4) x1.toNatClampNeg) = 0 → (0 ≤ x1.toInt → x1.toInt < lr (rf a0 3) → PC xl n 51 0 [(0, .ref (re (rf a0 3) x1.toNatClampNeg)), (1, .ref (rf a0 2))] [] ι (fun _ κ1 => (0 ≤ x1.toInt → x1.toInt < ln (rf a0 4) → Q (some (.int 0)) (up κ1 (rf a0 4) x1.toNatClampNeg (vp_nar .boolean 1)))))) ∧ (¬ (ι (rf a0 4) x1.toNatClampNeg) = 0 → (0 ≤ x1.toInt → x1.toInt < lr (rf a0 3) → PC xl n 51 0 [(0, .ref (re (rf a0 3) x1.toNatClampNeg)), (1, .ref (rf a0 2))] [] ι (fun _ κ2 => (0 ≤ x1.toInt → x1.toInt < ln (rf a0 4) → Q (some (.int 1)) (up κ2 (rf a0 4) x1.toNatClampNeg (vp_nar .boolean 1))))))))) ∧ (¬ x1 < 2 → Q (some (.int (-1))) ι))))) : PC xl (n + 1) 130 0 [(0, .ref a0), (1, .int x1)] [] ι Q := by
  refine PC.pr1 (k := 0) (pc' := 1) (lv' := [(0, .ref a0), (1, .int x1)]) (st' := [.int x1]) rfl ?_
  refine PC.if1 (t := 9) rfl rfl (fun c => ?_) (fun c => ?_)
  · have h := h.1 (cmp_lt.1.mp c)
    refine PC.pr (k := 1) (pc' := 10) (lv' := [(0, .ref a0), (1, .int x1)]) (st' := [.int (-1)]) rfl ?_
    exact PC.retI rfl h
  · have h := h.2 (cmp_lt.2.mp c)
    refine PC.pr (k := 1) (pc' := 5) (lv' := [(0, .ref a0), (1, .int x1)]) (st' := [.int x1]) rfl ?_
    refine PC.pr (k := 1) (pc' := 6) (lv' := [(0, .ref a0), (1, .int x1)]) (st' := [.int 2, .int x1]) rfl ?_
    refine PC.if2 (t := 11) rfl rfl (fun c => ?_) (fun c => ?_)
    · have h := h.1 (cmp_lt.1.mp c)
      refine PC.pr (k := 1) (pc' := 12) (lv' := [(0, .ref a0), (1, .int x1)]) (st' := [.ref a0]) rfl ?_
      refine PC.gR (ci := 0) (j := 4) rfl rfl (by decide) ?_
      refine PC.pr (k := 1) (pc' := 16) (lv' := [(0, .ref a0), (1, .int x1)]) (st' := [.int x1, .ref (rf a0 4)]) rfl ?_
      refine PC.ba rfl (rf_lt _ _) (fun c1 c2 => ?_)
      have h := h c1 c2
      refine PC.if1 (t := 24) rfl rfl (fun c => ?_) (fun c => ?_)
      · have h := h.1 (cmp_eq.1.mp c)
        refine PC.pr (k := 1) (pc' := 25) (lv' := [(0, .ref a0), (1, .int x1)]) (st' := [.int 0]) rfl ?_
        refine PC.pr (k := 1) (pc' := 26) (lv' := [(2, .int 0), (0, .ref a0), (1, .int x1)]) (st' := []) rfl ?_
        refine PC.pr (k := 1) (pc' := 27) (lv' := [(2, .int 0), (0, .ref a0), (1, .int x1)]) (st' := [.ref a0]) rfl ?_
        refine PC.gR (ci := 0) (j := 3) rfl rfl (by decide) ?_
        refine PC.pr (k := 1) (pc' := 31) (lv' := [(2, .int 0), (0, .ref a0), (1, .int x1)]) (st' := [.int x1, .ref (rf a0 3)]) rfl ?_
        refine PC.ra rfl (fun c1 c2 => ?_)
        have h := h c1 c2
        refine PC.pr (k := 1) (pc' := 33) (lv' := [(2, .int 0), (0, .ref a0), (1, .int x1)]) (st' := [.ref a0, .ref (re (rf a0 3) x1.toNatClampNeg)]) rfl ?_
        refine PC.gR (ci := 0) (j := 2) rfl rfl (by decide) ?_
        refine (PC.callV (j := 51) (args := [.ref (re (rf a0 3) x1.toNatClampNeg), .ref (rf a0 2)]) (rest := []) (M := cM51) rfl rfl rfl rfl rfl rfl (by decide) rfl rfl ?_).weak
        refine PC.imp h (fun _ κ1 h => ?_)
        refine PC.pr (k := 1) (pc' := 40) (lv' := [(2, .int 0), (0, .ref a0), (1, .int x1)]) (st' := [.ref a0]) rfl ?_
        refine PC.gR (ci := 0) (j := 4) rfl rfl (by decide) ?_
        refine PC.pr (k := 1) (pc' := 44) (lv' := [(2, .int 0), (0, .ref a0), (1, .int x1)]) (st' := [.int x1, .ref (rf a0 4)]) rfl ?_
        refine PC.pr (k := 1) (pc' := 45) (lv' := [(2, .int 0), (0, .ref a0), (1, .int x1)]) (st' := [.int 1, .int x1, .ref (rf a0 4)]) rfl ?_
        refine PC.wB rfl (fun c1 c2 => ?_)
        have h := h c1 c2
        refine PC.pr (k := 1) (pc' := 47) (lv' := [(2, .int 0), (0, .ref a0), (1, .int x1)]) (st' := [.int 0]) rfl ?_
        exact PC.retI rfl h
      · have h := h.2 (cmp_eq.2.mp c)
        refine PC.pr (k := 1) (pc' := 21) (lv' := [(0, .ref a0), (1, .int x1)]) (st' := [.int 1]) rfl ?_
        refine PC.pr (k := 1) (pc' := 25) (lv' := [(0, .ref a0), (1, .int x1)]) (st' := [.int 1]) rfl ?_
        refine PC.pr (k := 1) (pc' := 26) (lv' := [(2, .int 1), (0, .ref a0), (1, .int x1)]) (st' := []) rfl ?_
        refine PC.pr (k := 1) (pc' := 27) (lv' := [(2, .int 1), (0, .ref a0), (1, .int x1)]) (st' := [.ref a0]) rfl ?_
        refine PC.gR (ci := 0) (j := 3) rfl rfl (by decide) ?_
        refine PC.pr (k := 1) (pc' := 31) (lv' := [(2, .int 1), (0, .ref a0), (1, .int x1)]) (st' := [.int x1, .ref (rf a0 3)]) rfl ?_
        refine PC.ra rfl (fun c1 c2 => ?_)
        have h := h c1 c2
        refine PC.pr (k := 1) (pc' := 33) (lv' := [(2, .int 1), (0, .ref a0), (1, .int x1)]) (st' := [.ref a0, .ref (re (rf a0 3) x1.toNatClampNeg)]) rfl ?_
        refine PC.gR (ci := 0) (j := 2) rfl rfl (by decide) ?_
        refine (PC.callV (j := 51) (args := [.ref (re (rf a0 3) x1.toNatClampNeg), .ref (rf a0 2)]) (rest := []) (M := cM51) rfl rfl rfl rfl rfl rfl (by decide) rfl rfl ?_).weak
        refine PC.imp h (fun _ κ2 h => ?_)
        refine PC.pr (k := 1) (pc' := 40) (lv' := [(2, .int 1), (0, .ref a0), (1, .int x1)]) (st' := [.ref a0]) rfl ?_
        refine PC.gR (ci := 0) (j := 4) rfl rfl (by decide) ?_
        refine PC.pr (k := 1) (pc' := 44) (lv' := [(2, .int 1), (0, .ref a0), (1, .int x1)]) (st' := [.int x1, .ref (rf a0 4)]) rfl ?_
        refine PC.pr (k := 1) (pc' := 45) (lv' := [(2, .int 1), (0, .ref a0), (1, .int x1)]) (st' := [.int 1, .int x1, .ref (rf a0 4)]) rfl ?_
        refine PC.wB rfl (fun c1 c2 => ?_)
        have h := h c1 c2
        refine PC.pr (k := 1) (pc' := 47) (lv' := [(2, .int 1), (0, .ref a0), (1, .int x1)]) (st' := [.int 1]) rfl ?_
        exact PC.retI rfl h
    · have h := h.2 (cmp_lt.2.mp c)
      refine PC.pr (k := 1) (pc' := 10) (lv' := [(0, .ref a0), (1, .int x1)]) (st' := [.int (-1)]) rfl ?_
      exact PC.retI rfl h

/-- DoorPaintsModel.flag(Z)I -/
theorem t_175_0 {xl : List Int32} {n : Nat} {ι : IS} {Q : Option Value → IS → Prop} {x0 : Int32} (h : ((x0 = 0 → Q (some (.int 0)) ι) ∧ (¬ x0 = 0 → Q (some (.int 1)) ι))) : PC xl (n + 1) 175 0 [(0, .int x0)] [] ι Q := by
  refine PC.pr1 (k := 0) (pc' := 1) (lv' := [(0, .int x0)]) (st' := [.int x0]) rfl ?_
  refine PC.if1 (t := 8) rfl rfl (fun c => ?_) (fun c => ?_)
  · have h := h.1 (cmp_eq.1.mp c)
    refine PC.pr (k := 1) (pc' := 9) (lv' := [(0, .int x0)]) (st' := [.int 0]) rfl ?_
    exact PC.retI rfl h
  · have h := h.2 (cmp_eq.2.mp c)
    refine PC.pr (k := 1) (pc' := 5) (lv' := [(0, .int x0)]) (st' := [.int 1]) rfl ?_
    refine PC.pr (k := 1) (pc' := 9) (lv' := [(0, .int x0)]) (st' := [.int 1]) rfl ?_
    exact PC.retI rfl h

/-- DoorPaintsModel.keep(I)I -/
theorem t_230_0 {xl : List Int32} {n : Nat} {ι : IS} {Q : Option Value → IS → Prop} {a0 : Nat} {x1 : Int32} (h : PC xl n 148 0 [(0, .long (x1).toInt64), (2, .long 0), (4, .long 1)] [] ι (fun v1 κ1 => ∀ r1, v1 = some (.int r1) → ((¬ r1 = 0 → (0 ≤ x1.toInt → x1.toInt < ln (rf a0 2) → PC xl n 175 0 [(0, .int (κ1 (rf a0 2) x1.toNatClampNeg))] [] κ1 (fun v2 κ2 => ∀ r2, v2 = some (.int r2) → (0 ≤ x1.toInt → x1.toInt < ln (rf a0 2) → PC xl n 231 0 [(0, .ref a0), (1, .int (80 * (x1 + 1))), (2, .int 0)] [] (up κ2 (rf a0 2) x1.toNatClampNeg (vp_nar .boolean 1)) (fun _ κ3 => Q (some (.int r2)) κ3))))) ∧ (r1 = 0 → Q (some (.int (-1))) κ1)))) : PC xl (n + 1) 230 0 [(0, .ref a0), (1, .int x1)] [] ι Q := by
  refine PC.pr1 (k := 0) (pc' := 1) (lv' := [(0, .ref a0), (1, .int x1)]) (st' := [.int x1]) rfl ?_
  refine PC.pr (k := 1) (pc' := 2) (lv' := [(0, .ref a0), (1, .int x1)]) (st' := [.long (x1).toInt64]) rfl ?_
  refine PC.pr (k := 1) (pc' := 3) (lv' := [(0, .ref a0), (1, .int x1)]) (st' := [.long 0, .long (x1).toInt64]) rfl ?_
  refine PC.pr (k := 1) (pc' := 4) (lv' := [(0, .ref a0), (1, .int x1)]) (st' := [.long 1, .long 0, .long (x1).toInt64]) rfl ?_
  refine (PC.callI (j := 148) (args := [.long (x1).toInt64, .long 0, .long 1]) (rest := []) (M := cM148) (ty := .boolean) rfl rfl rfl rfl rfl rfl (by decide) rfl rfl (by decide) ?_).weak
  refine PC.imp h (fun v1 κ1 h r1 hv => ?_)
  have h := h r1 hv
  refine PC.if1 (t := 12) rfl rfl (fun c => ?_) (fun c => ?_)
  · have h := h.1 (cmp_ne.1.mp c)
    refine PC.pr (k := 1) (pc' := 13) (lv' := [(0, .ref a0), (1, .int x1)]) (st' := [.ref a0]) rfl ?_
    refine PC.gR (ci := 9) (j := 2) rfl rfl (by decide) ?_
    refine PC.pr (k := 1) (pc' := 17) (lv' := [(0, .ref a0), (1, .int x1)]) (st' := [.int x1, .ref (rf a0 2)]) rfl ?_
    refine PC.ba rfl (rf_lt _ _) (fun c1 c2 => ?_)
    have h := h c1 c2
    refine (PC.callI (j := 175) (args := [.int (κ1 (rf a0 2) x1.toNatClampNeg)]) (rest := []) (M := cM175) (ty := .int) rfl rfl rfl rfl rfl rfl (by decide) rfl rfl (by decide) ?_).weak
    refine PC.imp h (fun v2 κ2 h r2 hv => ?_)
    have h := h r2 hv
    refine PC.pr (k := 1) (pc' := 22) (lv' := [(2, .int r2), (0, .ref a0), (1, .int x1)]) (st' := []) rfl ?_
    refine PC.pr (k := 1) (pc' := 23) (lv' := [(2, .int r2), (0, .ref a0), (1, .int x1)]) (st' := [.ref a0]) rfl ?_
    refine PC.gR (ci := 9) (j := 2) rfl rfl (by decide) ?_
    refine PC.pr (k := 1) (pc' := 27) (lv' := [(2, .int r2), (0, .ref a0), (1, .int x1)]) (st' := [.int x1, .ref (rf a0 2)]) rfl ?_
    refine PC.pr (k := 1) (pc' := 28) (lv' := [(2, .int r2), (0, .ref a0), (1, .int x1)]) (st' := [.int 1, .int x1, .ref (rf a0 2)]) rfl ?_
    refine PC.wB rfl (fun c1 c2 => ?_)
    have h := h c1 c2
    refine PC.pr (k := 1) (pc' := 30) (lv' := [(2, .int r2), (0, .ref a0), (1, .int x1)]) (st' := [.ref a0]) rfl ?_
    refine PC.pr (k := 1) (pc' := 32) (lv' := [(2, .int r2), (0, .ref a0), (1, .int x1)]) (st' := [.int 80, .ref a0]) rfl ?_
    refine PC.pr (k := 1) (pc' := 33) (lv' := [(2, .int r2), (0, .ref a0), (1, .int x1)]) (st' := [.int x1, .int 80, .ref a0]) rfl ?_
    refine PC.pr (k := 1) (pc' := 34) (lv' := [(2, .int r2), (0, .ref a0), (1, .int x1)]) (st' := [.int 1, .int x1, .int 80, .ref a0]) rfl ?_
    refine PC.pr (k := 1) (pc' := 35) (lv' := [(2, .int r2), (0, .ref a0), (1, .int x1)]) (st' := [.int (x1 + 1), .int 80, .ref a0]) rfl ?_
    refine PC.pr (k := 1) (pc' := 36) (lv' := [(2, .int r2), (0, .ref a0), (1, .int x1)]) (st' := [.int (80 * (x1 + 1)), .ref a0]) rfl ?_
    refine PC.pr (k := 1) (pc' := 37) (lv' := [(2, .int r2), (0, .ref a0), (1, .int x1)]) (st' := [.int 0, .int (80 * (x1 + 1)), .ref a0]) rfl ?_
    refine (PC.callV (j := 231) (args := [.ref a0, .int (80 * (x1 + 1)), .int 0]) (rest := []) (M := cM231) rfl rfl rfl rfl rfl rfl (by decide) rfl rfl ?_).weak
    refine PC.imp h (fun _ κ3 h => ?_)
    refine PC.pr (k := 1) (pc' := 41) (lv' := [(2, .int r2), (0, .ref a0), (1, .int x1)]) (st' := [.int r2]) rfl ?_
    exact PC.retI rfl h
  · have h := h.2 (cmp_ne.2.mp c)
    refine PC.pr (k := 1) (pc' := 11) (lv' := [(0, .ref a0), (1, .int x1)]) (st' := [.int (-1)]) rfl ?_
    exact PC.retI rfl h

/-- DoorPaintsModel.copies(II)V -/
theorem t_231_0 {xl : List Int32} {n : Nat} {ι : IS} {Q : Option Value → IS → Prop} {a0 : Nat} {x1 : Int32} {x2 : Int32} (h : PC xl n 231 2 [(0, .ref a0), (1, .int x1), (2, .int x2), (3, .int 0)] [] ι Q) : PC xl (n + 1) 231 0 [(0, .ref a0), (1, .int x1), (2, .int x2)] [] ι Q := by
  refine PC.pr1 (k := 0) (pc' := 1) (lv' := [(0, .ref a0), (1, .int x1), (2, .int x2)]) (st' := [.int 0]) rfl ?_
  refine PC.pr (k := 1) (pc' := 2) (lv' := [(3, .int 0), (0, .ref a0), (1, .int x1), (2, .int x2)]) (st' := []) rfl ?_
  exact PC.lv (lvE.cons rfl (lvE.cons rfl (lvE.cons rfl (lvE.cons rfl (lvE.nil))))) h
theorem t_231_2 {xl : List Int32} {n : Nat} {ι : IS} {Q : Option Value → IS → Prop} {a0 : Nat} {x1 : Int32} {x2 : Int32} {x3 : Int32} (h : ((¬ x3 < 80 → Q none ι) ∧ (x3 < 80 → (0 ≤ (x2 + x3).toInt → (x2 + x3).toInt < ln (rf a0 0) → (0 ≤ (x1 + x3).toInt → (x1 + x3).toInt < ln (rf a0 0) → PC xl n 231 2 [(0, .ref a0), (1, .int x1), (2, .int x2), (3, .int (x3 + 1))] [] (up ι (rf a0 0) (x1 + x3).toNatClampNeg (ι (rf a0 0) (x2 + x3).toNatClampNeg)) Q))))) : PC xl (n + 1) 231 2 [(0, .ref a0), (1, .int x1), (2, .int x2), (3, .int x3)] [] ι Q := by
  refine PC.pr1 (k := 0) (pc' := 3) (lv' := [(0, .ref a0), (1, .int x1), (2, .int x2), (3, .int x3)]) (st' := [.int x3]) rfl ?_
  refine PC.pr (k := 1) (pc' := 5) (lv' := [(0, .ref a0), (1, .int x1), (2, .int x2), (3, .int x3)]) (st' := [.int 80, .int x3]) rfl ?_
  refine PC.if2 (t := 30) rfl rfl (fun c => ?_) (fun c => ?_)
  · have h := h.1 (cmp_ge.1.mp c)
    exact PC.retV rfl h
  · have h := h.2 (cmp_ge.2.mp c)
    refine PC.pr (k := 1) (pc' := 9) (lv' := [(0, .ref a0), (1, .int x1), (2, .int x2), (3, .int x3)]) (st' := [.ref a0]) rfl ?_
    refine PC.gR (ci := 9) (j := 0) rfl rfl (by decide) ?_
    refine PC.pr (k := 1) (pc' := 13) (lv' := [(0, .ref a0), (1, .int x1), (2, .int x2), (3, .int x3)]) (st' := [.int x1, .ref (rf a0 0)]) rfl ?_
    refine PC.pr (k := 1) (pc' := 14) (lv' := [(0, .ref a0), (1, .int x1), (2, .int x2), (3, .int x3)]) (st' := [.int x3, .int x1, .ref (rf a0 0)]) rfl ?_
    refine PC.pr (k := 1) (pc' := 15) (lv' := [(0, .ref a0), (1, .int x1), (2, .int x2), (3, .int x3)]) (st' := [.int (x1 + x3), .ref (rf a0 0)]) rfl ?_
    refine PC.pr (k := 1) (pc' := 16) (lv' := [(0, .ref a0), (1, .int x1), (2, .int x2), (3, .int x3)]) (st' := [.ref a0, .int (x1 + x3), .ref (rf a0 0)]) rfl ?_
    refine PC.gR (ci := 9) (j := 0) rfl rfl (by decide) ?_
    refine PC.pr (k := 1) (pc' := 20) (lv' := [(0, .ref a0), (1, .int x1), (2, .int x2), (3, .int x3)]) (st' := [.int x2, .ref (rf a0 0), .int (x1 + x3), .ref (rf a0 0)]) rfl ?_
    refine PC.pr (k := 1) (pc' := 21) (lv' := [(0, .ref a0), (1, .int x1), (2, .int x2), (3, .int x3)]) (st' := [.int x3, .int x2, .ref (rf a0 0), .int (x1 + x3), .ref (rf a0 0)]) rfl ?_
    refine PC.pr (k := 1) (pc' := 22) (lv' := [(0, .ref a0), (1, .int x1), (2, .int x2), (3, .int x3)]) (st' := [.int (x2 + x3), .ref (rf a0 0), .int (x1 + x3), .ref (rf a0 0)]) rfl ?_
    refine PC.rd rfl (rf_lt _ _) (fun c1 c2 => ?_)
    have h := h c1 c2
    refine PC.wI rfl (fun c1 c2 => ?_)
    have h := h c1 c2
    refine PC.pr (k := 1) (pc' := 27) (lv' := [(3, .int (x3 + 1)), (0, .ref a0), (1, .int x1), (2, .int x2)]) (st' := []) rfl ?_
    refine PC.pr (k := 1) (pc' := 2) (lv' := [(3, .int (x3 + 1)), (0, .ref a0), (1, .int x1), (2, .int x2)]) (st' := []) rfl ?_
    exact PC.lv (lvE.cons rfl (lvE.cons rfl (lvE.cons rfl (lvE.cons rfl (lvE.nil))))) h
end
