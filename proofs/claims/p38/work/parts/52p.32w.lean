/-! WHAT RUNS ASK (written by a program) -/
/-- DoorPaints.feed(I)I -/
theorem t_10_0 {xl : List Int32} {n : Nat} {ι : IS} {Q : Option Value → IS → Prop} {a0 : Nat} {x1 : Int32} (h : ((x1 < 0 → Q (some (.int (-1))) ι) ∧ (¬ x1 < 0 → ((¬ 127 < x1 → PC xl n 11 0 [(0, .ref (rf a0 1)), (1, .int x1)] [] ι (fun v1 κ1 => ∀ r1, v1 = some (.int r1) → ((r1 = 0 → Q (some (.int (-3))) κ1) ∧ (¬ r1 = 0 → Q (some (.int (κ1 (rf a0 1) 1))) κ1)))) ∧ (127 < x1 → Q (some (.int (-1))) ι))))) : PC xl (n + 1) 10 0 [(0, .ref a0), (1, .int x1)] [] ι Q := by
  refine PC.pr1 (k := 0) (pc' := 1) (lv' := [(0, .ref a0), (1, .int x1)]) (st' := [.int x1]) rfl ?_
  refine PC.if1 (t := 10) rfl rfl (fun c => ?_) (fun c => ?_)
  · have h := h.1 (cmp_lt.1.mp c)
    refine PC.pr (k := 1) (pc' := 11) (lv' := [(0, .ref a0), (1, .int x1)]) (st' := [.int (-1)]) rfl ?_
    exact PC.retI rfl h
  · have h := h.2 (cmp_lt.2.mp c)
    refine PC.pr (k := 1) (pc' := 5) (lv' := [(0, .ref a0), (1, .int x1)]) (st' := [.int x1]) rfl ?_
    refine PC.pr (k := 1) (pc' := 7) (lv' := [(0, .ref a0), (1, .int x1)]) (st' := [.int 127, .int x1]) rfl ?_
    refine PC.if2 (t := 12) rfl rfl (fun c => ?_) (fun c => ?_)
    · have h := h.1 (cmp_le.1.mp c)
      refine PC.pr (k := 1) (pc' := 13) (lv' := [(0, .ref a0), (1, .int x1)]) (st' := [.ref a0]) rfl ?_
      refine PC.gR (ci := 0) (j := 1) rfl rfl (by decide) ?_
      refine PC.pr (k := 1) (pc' := 17) (lv' := [(0, .ref a0), (1, .int x1)]) (st' := [.int x1, .ref (rf a0 1)]) rfl ?_
      refine (PC.callI (j := 11) (args := [.ref (rf a0 1), .int x1]) (rest := []) (M := cM11) (ty := .boolean) rfl rfl rfl rfl rfl rfl (by decide) rfl rfl (by decide) ?_).weak
      refine PC.imp h (fun v1 κ1 h r1 hv => ?_)
      have h := h r1 hv
      refine PC.if1 (t := 33) rfl rfl (fun c => ?_) (fun c => ?_)
      · have h := h.1 (cmp_eq.1.mp c)
        refine PC.pr (k := 1) (pc' := 35) (lv' := [(0, .ref a0), (1, .int x1)]) (st' := [.int (-3)]) rfl ?_
        exact PC.retI rfl h
      · have h := h.2 (cmp_eq.2.mp c)
        refine PC.pr (k := 1) (pc' := 24) (lv' := [(0, .ref a0), (1, .int x1)]) (st' := [.ref a0]) rfl ?_
        refine PC.gR (ci := 0) (j := 1) rfl rfl (by decide) ?_
        refine PC.gI (ci := 6) (j := 1) rfl rfl (by decide) ?_
        refine PC.pr (k := 1) (pc' := 35) (lv' := [(0, .ref a0), (1, .int x1)]) (st' := [.int (κ1 (rf a0 1) 1)]) rfl ?_
        exact PC.retI rfl h
    · have h := h.2 (cmp_le.2.mp c)
      refine PC.pr (k := 1) (pc' := 11) (lv' := [(0, .ref a0), (1, .int x1)]) (st' := [.int (-1)]) rfl ?_
      exact PC.retI rfl h

/-- DoorPaints$Tape.append(I)Z -/
theorem t_11_0 {xl : List Int32} {n : Nat} {ι : IS} {Q : Option Value → IS → Prop} {a0 : Nat} {x1 : Int32} (h : (((ι a0 1) < 160 → (0 ≤ (ι a0 1).toInt → (ι a0 1).toInt < ln (rf a0 0) → Q (some (.int 1)) (up (up ι (rf a0 0) (ι a0 1).toNatClampNeg x1) a0 1 (((up ι (rf a0 0) (ι a0 1).toNatClampNeg x1) a0 1) + 1)))) ∧ (¬ (ι a0 1) < 160 → Q (some (.int 0)) ι))) : PC xl (n + 1) 11 0 [(0, .ref a0), (1, .int x1)] [] ι Q := by
  refine PC.pr1 (k := 0) (pc' := 1) (lv' := [(0, .ref a0), (1, .int x1)]) (st' := [.ref a0]) rfl ?_
  refine PC.gI (ci := 6) (j := 1) rfl rfl (by decide) ?_
  refine PC.pr (k := 1) (pc' := 7) (lv' := [(0, .ref a0), (1, .int x1)]) (st' := [.int 160, .int (ι a0 1)]) rfl ?_
  refine PC.if2 (t := 12) rfl rfl (fun c => ?_) (fun c => ?_)
  · have h := h.1 (cmp_lt.1.mp c)
    refine PC.pr (k := 1) (pc' := 13) (lv' := [(0, .ref a0), (1, .int x1)]) (st' := [.ref a0]) rfl ?_
    refine PC.gR (ci := 6) (j := 0) rfl rfl (by decide) ?_
    refine PC.pr (k := 1) (pc' := 17) (lv' := [(0, .ref a0), (1, .int x1)]) (st' := [.ref a0, .ref (rf a0 0)]) rfl ?_
    refine PC.gI (ci := 6) (j := 1) rfl rfl (by decide) ?_
    refine PC.pr (k := 1) (pc' := 21) (lv' := [(0, .ref a0), (1, .int x1)]) (st' := [.int x1, .int (ι a0 1), .ref (rf a0 0)]) rfl ?_
    refine PC.wI rfl (fun c1 c2 => ?_)
    have h := h c1 c2
    refine PC.pr (k := 1) (pc' := 23) (lv' := [(0, .ref a0), (1, .int x1)]) (st' := [.ref a0]) rfl ?_
    refine PC.pr (k := 1) (pc' := 24) (lv' := [(0, .ref a0), (1, .int x1)]) (st' := [.ref a0, .ref a0]) rfl ?_
    refine PC.gI (ci := 6) (j := 1) rfl rfl (by decide) ?_
    refine PC.pr (k := 1) (pc' := 28) (lv' := [(0, .ref a0), (1, .int x1)]) (st' := [.int 1, .int ((up ι (rf a0 0) (ι a0 1).toNatClampNeg x1) a0 1), .ref a0]) rfl ?_
    refine PC.pr (k := 1) (pc' := 29) (lv' := [(0, .ref a0), (1, .int x1)]) (st' := [.int (((up ι (rf a0 0) (ι a0 1).toNatClampNeg x1) a0 1) + 1), .ref a0]) rfl ?_
    refine PC.pI (ci := 6) (j := 1) rfl rfl ?_
    refine PC.pr (k := 1) (pc' := 33) (lv' := [(0, .ref a0), (1, .int x1)]) (st' := [.int 1]) rfl ?_
    exact PC.retI rfl h
  · have h := h.2 (cmp_lt.2.mp c)
    refine PC.pr (k := 1) (pc' := 11) (lv' := [(0, .ref a0), (1, .int x1)]) (st' := [.int 0]) rfl ?_
    exact PC.retI rfl h

/-- DoorPaints.end(I)I -/
theorem t_12_0 {xl : List Int32} {n : Nat} {ι : IS} {Q : Option Value → IS → Prop} {a0 : Nat} {x1 : Int32} (h : ((x1 < 0 → Q (some (.int (-1))) ι) ∧ (¬ x1 < 0 → ((¬ (ι (rf a0 1) 1) < x1 → Q (some (.int (ι (rf a0 1) 1))) (up ι (rf a0 1) 1 x1)) ∧ ((ι (rf a0 1) 1) < x1 → Q (some (.int (-1))) ι))))) : PC xl (n + 1) 12 0 [(0, .ref a0), (1, .int x1)] [] ι Q := by
  refine PC.pr1 (k := 0) (pc' := 1) (lv' := [(0, .ref a0), (1, .int x1)]) (st' := [.int x1]) rfl ?_
  refine PC.if1 (t := 15) rfl rfl (fun c => ?_) (fun c => ?_)
  · have h := h.1 (cmp_lt.1.mp c)
    refine PC.pr (k := 1) (pc' := 16) (lv' := [(0, .ref a0), (1, .int x1)]) (st' := [.int (-1)]) rfl ?_
    exact PC.retI rfl h
  · have h := h.2 (cmp_lt.2.mp c)
    refine PC.pr (k := 1) (pc' := 5) (lv' := [(0, .ref a0), (1, .int x1)]) (st' := [.int x1]) rfl ?_
    refine PC.pr (k := 1) (pc' := 6) (lv' := [(0, .ref a0), (1, .int x1)]) (st' := [.ref a0, .int x1]) rfl ?_
    refine PC.gR (ci := 0) (j := 1) rfl rfl (by decide) ?_
    refine PC.gI (ci := 6) (j := 1) rfl rfl (by decide) ?_
    refine PC.if2 (t := 17) rfl rfl (fun c => ?_) (fun c => ?_)
    · have h := h.1 (cmp_le.1.mp c)
      refine PC.pr (k := 1) (pc' := 18) (lv' := [(0, .ref a0), (1, .int x1)]) (st' := [.ref a0]) rfl ?_
      refine PC.gR (ci := 0) (j := 1) rfl rfl (by decide) ?_
      refine PC.gI (ci := 6) (j := 1) rfl rfl (by decide) ?_
      refine PC.pr (k := 1) (pc' := 25) (lv' := [(2, .int (ι (rf a0 1) 1)), (0, .ref a0), (1, .int x1)]) (st' := []) rfl ?_
      refine PC.pr (k := 1) (pc' := 26) (lv' := [(2, .int (ι (rf a0 1) 1)), (0, .ref a0), (1, .int x1)]) (st' := [.ref a0]) rfl ?_
      refine PC.gR (ci := 0) (j := 1) rfl rfl (by decide) ?_
      refine PC.pr (k := 1) (pc' := 30) (lv' := [(2, .int (ι (rf a0 1) 1)), (0, .ref a0), (1, .int x1)]) (st' := [.int x1, .ref (rf a0 1)]) rfl ?_
      refine PC.pI (ci := 6) (j := 1) rfl rfl ?_
      refine PC.pr (k := 1) (pc' := 34) (lv' := [(2, .int (ι (rf a0 1) 1)), (0, .ref a0), (1, .int x1)]) (st' := [.int (ι (rf a0 1) 1)]) rfl ?_
      exact PC.retI rfl h
    · have h := h.2 (cmp_le.2.mp c)
      refine PC.pr (k := 1) (pc' := 16) (lv' := [(0, .ref a0), (1, .int x1)]) (st' := [.int (-1)]) rfl ?_
      exact PC.retI rfl h

/-- DoorPaints.text()I -/
theorem t_13_0 {xl : List Int32} {n : Nat} {ι : IS} {Q : Option Value → IS → Prop} {a0 : Nat} (h : PC xl n 14 0 [(0, .ref (rf a0 0))] [] ι (fun v1 κ1 => ∀ r1, v1 = some (.int r1) → ((¬ ((up (up κ1 (rf a0 1) 1 0) a0 9 ((up κ1 (rf a0 1) 1 0) (rf a0 0) 2)) a0 9) = 0 → Q (some (.int r1)) (up (up κ1 (rf a0 1) 1 0) a0 9 ((up κ1 (rf a0 1) 1 0) (rf a0 0) 2))) ∧ (((up (up κ1 (rf a0 1) 1 0) a0 9 ((up κ1 (rf a0 1) 1 0) (rf a0 0) 2)) a0 9) = 0 → PC xl n 51 0 [(0, .ref (rf a0 2)), (1, .ref (rf (rf a0 0) 0))] [] (up (up κ1 (rf a0 1) 1 0) a0 9 ((up κ1 (rf a0 1) 1 0) (rf a0 0) 2)) (fun _ κ2 => PC xl n 13 50 [(0, .ref a0), (1, .int r1), (2, .int 0)] [] κ2 Q))))) : PC xl (n + 1) 13 0 [(0, .ref a0)] [] ι Q := by
  refine PC.pr1 (k := 0) (pc' := 1) (lv' := [(0, .ref a0)]) (st' := [.ref a0]) rfl ?_
  refine PC.gR (ci := 0) (j := 0) rfl rfl (by decide) ?_
  refine (PC.callI (j := 14) (args := [.ref (rf a0 0)]) (rest := []) (M := cM14) (ty := .int) rfl rfl rfl rfl rfl rfl (by decide) rfl rfl (by decide) ?_).weak
  refine PC.imp h (fun v1 κ1 h r1 hv => ?_)
  have h := h r1 hv
  refine PC.pr (k := 1) (pc' := 8) (lv' := [(1, .int r1), (0, .ref a0)]) (st' := []) rfl ?_
  refine PC.pr (k := 1) (pc' := 9) (lv' := [(1, .int r1), (0, .ref a0)]) (st' := [.ref a0]) rfl ?_
  refine PC.gR (ci := 0) (j := 1) rfl rfl (by decide) ?_
  refine PC.pr (k := 1) (pc' := 13) (lv' := [(1, .int r1), (0, .ref a0)]) (st' := [.int 0, .ref (rf a0 1)]) rfl ?_
  refine PC.pI (ci := 6) (j := 1) rfl rfl ?_
  refine PC.pr (k := 1) (pc' := 17) (lv' := [(1, .int r1), (0, .ref a0)]) (st' := [.ref a0]) rfl ?_
  refine PC.pr (k := 1) (pc' := 18) (lv' := [(1, .int r1), (0, .ref a0)]) (st' := [.ref a0, .ref a0]) rfl ?_
  refine PC.gR (ci := 0) (j := 0) rfl rfl (by decide) ?_
  refine PC.gI (ci := 1) (j := 2) rfl rfl (by decide) ?_
  refine PC.pI (ci := 0) (j := 9) rfl rfl ?_
  refine PC.pr (k := 1) (pc' := 28) (lv' := [(1, .int r1), (0, .ref a0)]) (st' := [.ref a0]) rfl ?_
  refine PC.gI (ci := 0) (j := 9) rfl rfl (by decide) ?_
  refine PC.if1 (t := 68) rfl rfl (fun c => ?_) (fun c => ?_)
  · have h := h.1 (cmp_ne.1.mp c)
    refine PC.pr (k := 1) (pc' := 69) (lv' := [(1, .int r1), (0, .ref a0)]) (st' := [.int r1]) rfl ?_
    exact PC.retI rfl h
  · have h := h.2 (cmp_ne.2.mp c)
    refine PC.pr (k := 1) (pc' := 35) (lv' := [(1, .int r1), (0, .ref a0)]) (st' := [.ref a0]) rfl ?_
    refine PC.gR (ci := 0) (j := 2) rfl rfl (by decide) ?_
    refine PC.pr (k := 1) (pc' := 39) (lv' := [(1, .int r1), (0, .ref a0)]) (st' := [.ref a0, .ref (rf a0 2)]) rfl ?_
    refine PC.gR (ci := 0) (j := 0) rfl rfl (by decide) ?_
    refine PC.gR (ci := 1) (j := 0) rfl rfl (by decide) ?_
    refine (PC.callV (j := 51) (args := [.ref (rf a0 2), .ref (rf (rf a0 0) 0)]) (rest := []) (M := cM51) rfl rfl rfl rfl rfl rfl (by decide) rfl rfl ?_).weak
    refine PC.imp h (fun _ κ2 h => ?_)
    refine PC.pr (k := 1) (pc' := 49) (lv' := [(1, .int r1), (0, .ref a0)]) (st' := [.int 0]) rfl ?_
    refine PC.pr (k := 1) (pc' := 50) (lv' := [(2, .int 0), (1, .int r1), (0, .ref a0)]) (st' := []) rfl ?_
    exact PC.lv (lvE.cons rfl (lvE.cons rfl (lvE.cons rfl (lvE.nil)))) h
theorem t_13_50 {xl : List Int32} {n : Nat} {ι : IS} {Q : Option Value → IS → Prop} {a0 : Nat} {x1 : Int32} {x2 : Int32} (h : ((¬ x2 < 2 → Q (some (.int x1)) ι) ∧ (x2 < 2 → (0 ≤ x2.toInt → x2.toInt < ln (rf a0 4) → PC xl n 13 50 [(0, .ref a0), (1, .int x1), (2, .int (x2 + 1))] [] (up ι (rf a0 4) x2.toNatClampNeg (vp_nar .boolean 0)) Q)))) : PC xl (n + 1) 13 50 [(0, .ref a0), (1, .int x1), (2, .int x2)] [] ι Q := by
  refine PC.pr1 (k := 0) (pc' := 51) (lv' := [(0, .ref a0), (1, .int x1), (2, .int x2)]) (st' := [.int x2]) rfl ?_
  refine PC.pr (k := 1) (pc' := 52) (lv' := [(0, .ref a0), (1, .int x1), (2, .int x2)]) (st' := [.int 2, .int x2]) rfl ?_
  refine PC.if2 (t := 68) rfl rfl (fun c => ?_) (fun c => ?_)
  · have h := h.1 (cmp_ge.1.mp c)
    refine PC.pr (k := 1) (pc' := 69) (lv' := [(0, .ref a0), (1, .int x1), (2, .int x2)]) (st' := [.int x1]) rfl ?_
    exact PC.retI rfl h
  · have h := h.2 (cmp_ge.2.mp c)
    refine PC.pr (k := 1) (pc' := 56) (lv' := [(0, .ref a0), (1, .int x1), (2, .int x2)]) (st' := [.ref a0]) rfl ?_
    refine PC.gR (ci := 0) (j := 4) rfl rfl (by decide) ?_
    refine PC.pr (k := 1) (pc' := 60) (lv' := [(0, .ref a0), (1, .int x1), (2, .int x2)]) (st' := [.int x2, .ref (rf a0 4)]) rfl ?_
    refine PC.pr (k := 1) (pc' := 61) (lv' := [(0, .ref a0), (1, .int x1), (2, .int x2)]) (st' := [.int 0, .int x2, .ref (rf a0 4)]) rfl ?_
    refine PC.wB rfl (fun c1 c2 => ?_)
    have h := h c1 c2
    refine PC.pr (k := 1) (pc' := 65) (lv' := [(2, .int (x2 + 1)), (0, .ref a0), (1, .int x1)]) (st' := []) rfl ?_
    refine PC.pr (k := 1) (pc' := 50) (lv' := [(2, .int (x2 + 1)), (0, .ref a0), (1, .int x1)]) (st' := []) rfl ?_
    exact PC.lv (lvE.cons rfl (lvE.cons rfl (lvE.cons rfl (lvE.nil)))) h

/-- DoorPaints$Reader.readAll()I -/
theorem t_14_0 {xl : List Int32} {n : Nat} {ι : IS} {Q : Option Value → IS → Prop} {a0 : Nat} (h : PC xl n 15 0 [(0, .ref (rf a0 0))] [] (up (up ι a0 2 0) a0 4 0) (fun _ κ1 => PC xl n 18 0 [(0, .ref (rf a0 1))] [] κ1 (fun _ κ2 => PC xl n 14 26 [(0, .ref a0), (1, .int 0)] [] κ2 Q))) : PC xl (n + 1) 14 0 [(0, .ref a0)] [] ι Q := by
  refine PC.pr1 (k := 0) (pc' := 1) (lv' := [(0, .ref a0)]) (st' := [.ref a0]) rfl ?_
  refine PC.pr (k := 1) (pc' := 2) (lv' := [(0, .ref a0)]) (st' := [.int 0, .ref a0]) rfl ?_
  refine PC.pI (ci := 1) (j := 2) rfl rfl ?_
  refine PC.pr (k := 1) (pc' := 6) (lv' := [(0, .ref a0)]) (st' := [.ref a0]) rfl ?_
  refine PC.pr (k := 1) (pc' := 7) (lv' := [(0, .ref a0)]) (st' := [.int 0, .ref a0]) rfl ?_
  refine PC.pI (ci := 1) (j := 4) rfl rfl ?_
  refine PC.pr (k := 1) (pc' := 11) (lv' := [(0, .ref a0)]) (st' := [.ref a0]) rfl ?_
  refine PC.gR (ci := 1) (j := 0) rfl rfl (by decide) ?_
  refine (PC.callV (j := 15) (args := [.ref (rf a0 0)]) (rest := []) (M := cM15) rfl rfl rfl rfl rfl rfl (by decide) rfl rfl ?_).weak
  refine PC.imp h (fun _ κ1 h => ?_)
  refine PC.pr (k := 1) (pc' := 18) (lv' := [(0, .ref a0)]) (st' := [.ref a0]) rfl ?_
  refine PC.gR (ci := 1) (j := 1) rfl rfl (by decide) ?_
  refine (PC.callV (j := 18) (args := [.ref (rf a0 1)]) (rest := []) (M := cM18) rfl rfl rfl rfl rfl rfl (by decide) rfl rfl ?_).weak
  refine PC.imp h (fun _ κ2 h => ?_)
  refine PC.pr (k := 1) (pc' := 25) (lv' := [(0, .ref a0)]) (st' := [.int 0]) rfl ?_
  refine PC.pr (k := 1) (pc' := 26) (lv' := [(1, .int 0), (0, .ref a0)]) (st' := []) rfl ?_
  exact PC.lv (lvE.cons rfl (lvE.cons rfl (lvE.nil))) h
theorem t_14_26 {xl : List Int32} {n : Nat} {ι : IS} {Q : Option Value → IS → Prop} {a0 : Nat} {x1 : Int32} (h : ((¬ x1 < 160 → PC xl n 14 60 [(0, .ref a0), (1, .int x1)] [] ι Q) ∧ (x1 < 160 → ((¬ (ι a0 2) = 0 → PC xl n 14 60 [(0, .ref a0), (1, .int x1)] [] ι Q) ∧ ((ι a0 2) = 0 → (((ι (rf a0 1) 2) = 0 → PC xl n 14 60 [(0, .ref a0), (1, .int x1)] [] ι Q) ∧ (¬ (ι (rf a0 1) 2) = 0 → PC xl n 22 0 [(0, .ref a0)] [] ι (fun _ κ1 => PC xl n 14 26 [(0, .ref a0), (1, .int (x1 + 1))] [] κ1 Q)))))))) : PC xl (n + 1) 14 26 [(0, .ref a0), (1, .int x1)] [] ι Q := by
  refine PC.pr1 (k := 0) (pc' := 27) (lv' := [(0, .ref a0), (1, .int x1)]) (st' := [.int x1]) rfl ?_
  refine PC.pr (k := 1) (pc' := 30) (lv' := [(0, .ref a0), (1, .int x1)]) (st' := [.int 160, .int x1]) rfl ?_
  refine PC.if2 (t := 60) rfl rfl (fun c => ?_) (fun c => ?_)
  · have h := h.1 (cmp_ge.1.mp c)
    exact h
  · have h := h.2 (cmp_ge.2.mp c)
    refine PC.pr (k := 1) (pc' := 34) (lv' := [(0, .ref a0), (1, .int x1)]) (st' := [.ref a0]) rfl ?_
    refine PC.gI (ci := 1) (j := 2) rfl rfl (by decide) ?_
    refine PC.if1 (t := 60) rfl rfl (fun c => ?_) (fun c => ?_)
    · have h := h.1 (cmp_ne.1.mp c)
      exact h
    · have h := h.2 (cmp_ne.2.mp c)
      refine PC.pr (k := 1) (pc' := 41) (lv' := [(0, .ref a0), (1, .int x1)]) (st' := [.ref a0]) rfl ?_
      refine PC.gR (ci := 1) (j := 1) rfl rfl (by decide) ?_
      refine PC.gI (ci := 6) (j := 2) rfl rfl (by decide) ?_
      refine PC.if1 (t := 60) rfl rfl (fun c => ?_) (fun c => ?_)
      · have h := h.1 (cmp_eq.1.mp c)
        exact h
      · have h := h.2 (cmp_eq.2.mp c)
        refine PC.pr (k := 1) (pc' := 51) (lv' := [(0, .ref a0), (1, .int x1)]) (st' := [.ref a0]) rfl ?_
        refine (PC.callV (j := 22) (args := [.ref a0]) (rest := []) (M := cM22) rfl rfl rfl rfl rfl rfl (by decide) rfl rfl ?_).weak
        refine PC.imp h (fun _ κ1 h => ?_)
        refine PC.pr (k := 1) (pc' := 57) (lv' := [(1, .int (x1 + 1)), (0, .ref a0)]) (st' := []) rfl ?_
        refine PC.pr (k := 1) (pc' := 26) (lv' := [(1, .int (x1 + 1)), (0, .ref a0)]) (st' := []) rfl ?_
        exact PC.lv (lvE.cons rfl (lvE.cons rfl (lvE.nil))) h
theorem t_14_60 {xl : List Int32} {n : Nat} {ι : IS} {Q : Option Value → IS → Prop} {a0 : Nat} {x1 : Int32} (h : ((¬ (ι a0 2) = 0 → PC xl n 14 94 [(0, .ref a0), (1, .int x1)] [] ι Q) ∧ ((ι a0 2) = 0 → PC xl n 47 0 [(0, .ref (rf a0 0))] [] ι (fun v1 κ1 => ∀ r1, v1 = some (.int r1) → ((¬ r1 = 0 → PC xl n 14 94 [(0, .ref a0), (1, .int x1)] [] κ1 Q) ∧ (r1 = 0 → PC xl n 14 94 [(0, .ref a0), (1, .int x1)] [] (up (up κ1 a0 2 6) a0 3 ((up κ1 a0 2 6) (rf a0 1) 1)) Q)))))) : PC xl (n + 1) 14 60 [(0, .ref a0), (1, .int x1)] [] ι Q := by
  refine PC.pr1 (k := 0) (pc' := 61) (lv' := [(0, .ref a0), (1, .int x1)]) (st' := [.ref a0]) rfl ?_
  refine PC.gI (ci := 1) (j := 2) rfl rfl (by decide) ?_
  refine PC.if1 (t := 94) rfl rfl (fun c => ?_) (fun c => ?_)
  · have h := h.1 (cmp_ne.1.mp c)
    exact h
  · have h := h.2 (cmp_ne.2.mp c)
    refine PC.pr (k := 1) (pc' := 68) (lv' := [(0, .ref a0), (1, .int x1)]) (st' := [.ref a0]) rfl ?_
    refine PC.gR (ci := 1) (j := 0) rfl rfl (by decide) ?_
    refine (PC.callI (j := 47) (args := [.ref (rf a0 0)]) (rest := []) (M := cM47) (ty := .boolean) rfl rfl rfl rfl rfl rfl (by decide) rfl rfl (by decide) ?_).weak
    refine PC.imp h (fun v1 κ1 h r1 hv => ?_)
    have h := h r1 hv
    refine PC.if1 (t := 94) rfl rfl (fun c => ?_) (fun c => ?_)
    · have h := h.1 (cmp_ne.1.mp c)
      exact h
    · have h := h.2 (cmp_ne.2.mp c)
      refine PC.pr (k := 1) (pc' := 78) (lv' := [(0, .ref a0), (1, .int x1)]) (st' := [.ref a0]) rfl ?_
      refine PC.pr (k := 1) (pc' := 80) (lv' := [(0, .ref a0), (1, .int x1)]) (st' := [.int 6, .ref a0]) rfl ?_
      refine PC.pI (ci := 1) (j := 2) rfl rfl ?_
      refine PC.pr (k := 1) (pc' := 84) (lv' := [(0, .ref a0), (1, .int x1)]) (st' := [.ref a0]) rfl ?_
      refine PC.pr (k := 1) (pc' := 85) (lv' := [(0, .ref a0), (1, .int x1)]) (st' := [.ref a0, .ref a0]) rfl ?_
      refine PC.gR (ci := 1) (j := 1) rfl rfl (by decide) ?_
      refine PC.gI (ci := 6) (j := 1) rfl rfl (by decide) ?_
      refine PC.pI (ci := 1) (j := 3) rfl rfl ?_
      exact h
theorem t_14_94 {xl : List Int32} {n : Nat} {ι : IS} {Q : Option Value → IS → Prop} {a0 : Nat} {x1 : Int32} (h : ((¬ (ι a0 2) = 0 → Q (some (.int ((-10) - (ι a0 3)))) ι) ∧ ((ι a0 2) = 0 → Q (some (.int x1)) ι))) : PC xl (n + 1) 14 94 [(0, .ref a0), (1, .int x1)] [] ι Q := by
  refine PC.pr1 (k := 0) (pc' := 95) (lv' := [(0, .ref a0), (1, .int x1)]) (st' := [.ref a0]) rfl ?_
  refine PC.gI (ci := 1) (j := 2) rfl rfl (by decide) ?_
  refine PC.if1 (t := 105) rfl rfl (fun c => ?_) (fun c => ?_)
  · have h := h.1 (cmp_ne.1.mp c)
    refine PC.pr (k := 1) (pc' := 107) (lv' := [(0, .ref a0), (1, .int x1)]) (st' := [.int (-10)]) rfl ?_
    refine PC.pr (k := 1) (pc' := 108) (lv' := [(0, .ref a0), (1, .int x1)]) (st' := [.ref a0, .int (-10)]) rfl ?_
    refine PC.gI (ci := 1) (j := 3) rfl rfl (by decide) ?_
    refine PC.pr (k := 1) (pc' := 112) (lv' := [(0, .ref a0), (1, .int x1)]) (st' := [.int ((-10) - (ι a0 3))]) rfl ?_
    exact PC.retI rfl h
  · have h := h.2 (cmp_ne.2.mp c)
    refine PC.pr (k := 1) (pc' := 102) (lv' := [(0, .ref a0), (1, .int x1)]) (st' := [.int x1]) rfl ?_
    refine PC.pr (k := 1) (pc' := 112) (lv' := [(0, .ref a0), (1, .int x1)]) (st' := [.int x1]) rfl ?_
    exact PC.retI rfl h

/-- DoorPaints$Told.clear()V -/
theorem t_15_0 {xl : List Int32} {n : Nat} {ι : IS} {Q : Option Value → IS → Prop} {a0 : Nat} (h : PC xl n 16 0 [(0, .ref (rf a0 0))] [] ι (fun _ κ1 => Q none (up (up κ1 a0 2 0) a0 6 0))) : PC xl (n + 1) 15 0 [(0, .ref a0)] [] ι Q := by
  refine PC.pr1 (k := 0) (pc' := 1) (lv' := [(0, .ref a0)]) (st' := [.ref a0]) rfl ?_
  refine PC.gR (ci := 2) (j := 0) rfl rfl (by decide) ?_
  refine (PC.callV (j := 16) (args := [.ref (rf a0 0)]) (rest := []) (M := cM16) rfl rfl rfl rfl rfl rfl (by decide) rfl rfl ?_).weak
  refine PC.imp h (fun _ κ1 h => ?_)
  refine PC.pr (k := 1) (pc' := 8) (lv' := [(0, .ref a0)]) (st' := [.ref a0]) rfl ?_
  refine PC.pr (k := 1) (pc' := 9) (lv' := [(0, .ref a0)]) (st' := [.int 0, .ref a0]) rfl ?_
  refine PC.pI (ci := 2) (j := 2) rfl rfl ?_
  refine PC.pr (k := 1) (pc' := 13) (lv' := [(0, .ref a0)]) (st' := [.ref a0]) rfl ?_
  refine PC.pr (k := 1) (pc' := 14) (lv' := [(0, .ref a0)]) (st' := [.int 0, .ref a0]) rfl ?_
  refine PC.pI (ci := 2) (j := 6) rfl rfl ?_
  exact PC.retV rfl h

/-- DoorPaints$Town.clear()V -/
theorem t_16_0 {xl : List Int32} {n : Nat} {ι : IS} {Q : Option Value → IS → Prop} {a0 : Nat} (h : PC xl n 16 12 [(0, .ref a0), (1, .int 0)] [] (up (up ι a0 2 0) a0 3 0) Q) : PC xl (n + 1) 16 0 [(0, .ref a0)] [] ι Q := by
  refine PC.pr1 (k := 0) (pc' := 1) (lv' := [(0, .ref a0)]) (st' := [.ref a0]) rfl ?_
  refine PC.pr (k := 1) (pc' := 2) (lv' := [(0, .ref a0)]) (st' := [.int 0, .ref a0]) rfl ?_
  refine PC.pI (ci := 3) (j := 2) rfl rfl ?_
  refine PC.pr (k := 1) (pc' := 6) (lv' := [(0, .ref a0)]) (st' := [.ref a0]) rfl ?_
  refine PC.pr (k := 1) (pc' := 7) (lv' := [(0, .ref a0)]) (st' := [.int 0, .ref a0]) rfl ?_
  refine PC.pI (ci := 3) (j := 3) rfl rfl ?_
  refine PC.pr (k := 1) (pc' := 11) (lv' := [(0, .ref a0)]) (st' := [.int 0]) rfl ?_
  refine PC.pr (k := 1) (pc' := 12) (lv' := [(1, .int 0), (0, .ref a0)]) (st' := []) rfl ?_
  exact PC.lv (lvE.cons rfl (lvE.cons rfl (lvE.nil))) h
theorem t_16_12 {xl : List Int32} {n : Nat} {ι : IS} {Q : Option Value → IS → Prop} {a0 : Nat} {x1 : Int32} (h : ((¬ x1 < 4 → Q none ι) ∧ (x1 < 4 → (0 ≤ x1.toInt → x1.toInt < lr (rf a0 1) → PC xl n 17 0 [(0, .ref (re (rf a0 1) x1.toNatClampNeg))] [] ι (fun _ κ1 => PC xl n 16 12 [(0, .ref a0), (1, .int (x1 + 1))] [] κ1 Q))))) : PC xl (n + 1) 16 12 [(0, .ref a0), (1, .int x1)] [] ι Q := by
  refine PC.pr1 (k := 0) (pc' := 13) (lv' := [(0, .ref a0), (1, .int x1)]) (st' := [.int x1]) rfl ?_
  refine PC.pr (k := 1) (pc' := 14) (lv' := [(0, .ref a0), (1, .int x1)]) (st' := [.int 4, .int x1]) rfl ?_
  refine PC.if2 (t := 32) rfl rfl (fun c => ?_) (fun c => ?_)
  · have h := h.1 (cmp_ge.1.mp c)
    exact PC.retV rfl h
  · have h := h.2 (cmp_ge.2.mp c)
    refine PC.pr (k := 1) (pc' := 18) (lv' := [(0, .ref a0), (1, .int x1)]) (st' := [.ref a0]) rfl ?_
    refine PC.gR (ci := 3) (j := 1) rfl rfl (by decide) ?_
    refine PC.pr (k := 1) (pc' := 22) (lv' := [(0, .ref a0), (1, .int x1)]) (st' := [.int x1, .ref (rf a0 1)]) rfl ?_
    refine PC.ra rfl (fun c1 c2 => ?_)
    have h := h c1 c2
    refine (PC.callV (j := 17) (args := [.ref (re (rf a0 1) x1.toNatClampNeg)]) (rest := []) (M := cM17) rfl rfl rfl rfl rfl rfl (by decide) rfl rfl ?_).weak
    refine PC.imp h (fun _ κ1 h => ?_)
    refine PC.pr (k := 1) (pc' := 29) (lv' := [(1, .int (x1 + 1)), (0, .ref a0)]) (st' := []) rfl ?_
    refine PC.pr (k := 1) (pc' := 12) (lv' := [(1, .int (x1 + 1)), (0, .ref a0)]) (st' := []) rfl ?_
    exact PC.lv (lvE.cons rfl (lvE.cons rfl (lvE.nil))) h

/-- DoorPaints$Door.clear()V -/
theorem t_17_0 {xl : List Int32} {n : Nat} {ι : IS} {Q : Option Value → IS → Prop} {a0 : Nat} (h : Q none (up (up (up ι a0 1 0) a0 2 0) a0 3 0)) : PC xl (n + 1) 17 0 [(0, .ref a0)] [] ι Q := by
  refine PC.pr1 (k := 0) (pc' := 1) (lv' := [(0, .ref a0)]) (st' := [.ref a0]) rfl ?_
  refine PC.pr (k := 1) (pc' := 2) (lv' := [(0, .ref a0)]) (st' := [.int 0, .ref a0]) rfl ?_
  refine PC.pI (ci := 5) (j := 1) rfl rfl ?_
  refine PC.pr (k := 1) (pc' := 6) (lv' := [(0, .ref a0)]) (st' := [.ref a0]) rfl ?_
  refine PC.pr (k := 1) (pc' := 7) (lv' := [(0, .ref a0)]) (st' := [.int 0, .ref a0]) rfl ?_
  refine PC.pI (ci := 5) (j := 2) rfl rfl ?_
  refine PC.pr (k := 1) (pc' := 11) (lv' := [(0, .ref a0)]) (st' := [.ref a0]) rfl ?_
  refine PC.pr (k := 1) (pc' := 12) (lv' := [(0, .ref a0)]) (st' := [.int 0, .ref a0]) rfl ?_
  refine PC.pI (ci := 5) (j := 3) rfl rfl ?_
  exact PC.retV rfl h

/-- DoorPaints$Tape.rewind()V -/
theorem t_18_0 {xl : List Int32} {n : Nat} {ι : IS} {Q : Option Value → IS → Prop} {a0 : Nat} (h : PC xl n 19 0 [(0, .ref a0)] [] (up ι a0 4 0) (fun _ κ1 => Q none κ1)) : PC xl (n + 1) 18 0 [(0, .ref a0)] [] ι Q := by
  refine PC.pr1 (k := 0) (pc' := 1) (lv' := [(0, .ref a0)]) (st' := [.ref a0]) rfl ?_
  refine PC.pr (k := 1) (pc' := 2) (lv' := [(0, .ref a0)]) (st' := [.int 0, .ref a0]) rfl ?_
  refine PC.pI (ci := 6) (j := 4) rfl rfl ?_
  refine PC.pr (k := 1) (pc' := 6) (lv' := [(0, .ref a0)]) (st' := [.ref a0]) rfl ?_
  refine (PC.callV (j := 19) (args := [.ref a0]) (rest := []) (M := cM19) rfl rfl rfl rfl rfl rfl (by decide) rfl rfl ?_).weak
  refine PC.imp h (fun _ κ1 h => ?_)
  exact PC.retV rfl h

/-- DoorPaints$Reader.readLine()V -/
theorem t_22_0 {xl : List Int32} {n : Nat} {ι : IS} {Q : Option Value → IS → Prop} {a0 : Nat} (h : PC xl n 23 0 [(0, .ref a0), (1, .int 1)] [] ι (fun v1 κ1 => ∀ r1, v1 = some (.int r1) → ((¬ r1 = 0 → PC xl n 25 0 [(0, .ref (rf a0 1)), (1, .ref (KB + 1))] [] κ1 (fun v2 κ2 => ∀ r2, v2 = some (.int r2) → ((r2 = 0 → PC xl n 25 0 [(0, .ref (rf a0 1)), (1, .ref (KB + 3))] [] κ2 (fun v3 κ3 => ∀ r3, v3 = some (.int r3) → ((r3 = 0 → PC xl n 25 0 [(0, .ref (rf a0 1)), (1, .ref (KB + 5))] [] κ3 (fun v4 κ4 => ∀ r4, v4 = some (.int r4) → ((r4 = 0 → PC xl n 44 0 [(0, .ref a0)] [] κ4 (fun v5 κ5 => ∀ r5, v5 = some (.int r5) → PC xl n 45 0 [(0, .ref a0), (1, .int r5)] [] κ5 (fun _ κ6 => Q none κ6))) ∧ (¬ r4 = 0 → PC xl n 40 0 [(0, .ref a0)] [] κ4 (fun _ κ7 => Q none κ7))))) ∧ (¬ r3 = 0 → PC xl n 37 0 [(0, .ref a0)] [] κ3 (fun _ κ8 => Q none κ8))))) ∧ (¬ r2 = 0 → PC xl n 33 0 [(0, .ref a0)] [] κ2 (fun _ κ9 => Q none κ9))))) ∧ (r1 = 0 → Q none κ1)))) : PC xl (n + 1) 22 0 [(0, .ref a0)] [] ι Q := by
  refine PC.pr1 (k := 0) (pc' := 1) (lv' := [(0, .ref a0)]) (st' := [.ref a0]) rfl ?_
  refine PC.pr (k := 1) (pc' := 2) (lv' := [(0, .ref a0)]) (st' := [.int 1, .ref a0]) rfl ?_
  refine (PC.callI (j := 23) (args := [.ref a0, .int 1]) (rest := []) (M := cM23) (ty := .boolean) rfl rfl rfl rfl rfl rfl (by decide) rfl rfl (by decide) ?_).weak
  refine PC.imp h (fun v1 κ1 h r1 hv => ?_)
  have h := h r1 hv
  refine PC.if1 (t := 9) rfl rfl (fun c => ?_) (fun c => ?_)
  · have h := h.1 (cmp_ne.1.mp c)
    refine PC.pr (k := 1) (pc' := 10) (lv' := [(0, .ref a0)]) (st' := [.ref a0]) rfl ?_
    refine PC.gR (ci := 1) (j := 1) rfl rfl (by decide) ?_
    refine PC.pr (k := 1) (pc' := 15) (lv' := [(0, .ref a0)]) (st' := [.ref (KB + 1), .ref (rf a0 1)]) rfl ?_
    refine (PC.callI (j := 25) (args := [.ref (rf a0 1), .ref (KB + 1)]) (rest := []) (M := cM25) (ty := .boolean) rfl rfl rfl rfl rfl rfl (by decide) rfl rfl (by decide) ?_).weak
    refine PC.imp h (fun v2 κ2 h r2 hv => ?_)
    have h := h r2 hv
    refine PC.if1 (t := 28) rfl rfl (fun c => ?_) (fun c => ?_)
    · have h := h.1 (cmp_eq.1.mp c)
      refine PC.pr (k := 1) (pc' := 29) (lv' := [(0, .ref a0)]) (st' := [.ref a0]) rfl ?_
      refine PC.gR (ci := 1) (j := 1) rfl rfl (by decide) ?_
      refine PC.pr (k := 1) (pc' := 34) (lv' := [(0, .ref a0)]) (st' := [.ref (KB + 3), .ref (rf a0 1)]) rfl ?_
      refine (PC.callI (j := 25) (args := [.ref (rf a0 1), .ref (KB + 3)]) (rest := []) (M := cM25) (ty := .boolean) rfl rfl rfl rfl rfl rfl (by decide) rfl rfl (by decide) ?_).weak
      refine PC.imp h (fun v3 κ3 h r3 hv => ?_)
      have h := h r3 hv
      refine PC.if1 (t := 47) rfl rfl (fun c => ?_) (fun c => ?_)
      · have h := h.1 (cmp_eq.1.mp c)
        refine PC.pr (k := 1) (pc' := 48) (lv' := [(0, .ref a0)]) (st' := [.ref a0]) rfl ?_
        refine PC.gR (ci := 1) (j := 1) rfl rfl (by decide) ?_
        refine PC.pr (k := 1) (pc' := 53) (lv' := [(0, .ref a0)]) (st' := [.ref (KB + 5), .ref (rf a0 1)]) rfl ?_
        refine (PC.callI (j := 25) (args := [.ref (rf a0 1), .ref (KB + 5)]) (rest := []) (M := cM25) (ty := .boolean) rfl rfl rfl rfl rfl rfl (by decide) rfl rfl (by decide) ?_).weak
        refine PC.imp h (fun v4 κ4 h r4 hv => ?_)
        have h := h r4 hv
        refine PC.if1 (t := 66) rfl rfl (fun c => ?_) (fun c => ?_)
        · have h := h.1 (cmp_eq.1.mp c)
          refine PC.pr (k := 1) (pc' := 67) (lv' := [(0, .ref a0)]) (st' := [.ref a0]) rfl ?_
          refine PC.pr (k := 1) (pc' := 68) (lv' := [(0, .ref a0)]) (st' := [.ref a0, .ref a0]) rfl ?_
          refine (PC.callI (j := 44) (args := [.ref a0]) (rest := [.ref a0]) (M := cM44) (ty := .int) rfl rfl rfl rfl rfl rfl (by decide) rfl rfl (by decide) ?_).weak
          refine PC.imp h (fun v5 κ5 h r5 hv => ?_)
          have h := h r5 hv
          refine (PC.callV (j := 45) (args := [.ref a0, .int r5]) (rest := []) (M := cM45) rfl rfl rfl rfl rfl rfl (by decide) rfl rfl ?_).weak
          refine PC.imp h (fun _ κ6 h => ?_)
          exact PC.retV rfl h
        · have h := h.2 (cmp_eq.2.mp c)
          refine PC.pr (k := 1) (pc' := 60) (lv' := [(0, .ref a0)]) (st' := [.ref a0]) rfl ?_
          refine (PC.callV (j := 40) (args := [.ref a0]) (rest := []) (M := cM40) rfl rfl rfl rfl rfl rfl (by decide) rfl rfl ?_).weak
          refine PC.imp h (fun _ κ7 h => ?_)
          refine PC.pr (k := 1) (pc' := 74) (lv' := [(0, .ref a0)]) (st' := []) rfl ?_
          exact PC.retV rfl h
      · have h := h.2 (cmp_eq.2.mp c)
        refine PC.pr (k := 1) (pc' := 41) (lv' := [(0, .ref a0)]) (st' := [.ref a0]) rfl ?_
        refine (PC.callV (j := 37) (args := [.ref a0]) (rest := []) (M := cM37) rfl rfl rfl rfl rfl rfl (by decide) rfl rfl ?_).weak
        refine PC.imp h (fun _ κ8 h => ?_)
        refine PC.pr (k := 1) (pc' := 74) (lv' := [(0, .ref a0)]) (st' := []) rfl ?_
        exact PC.retV rfl h
    · have h := h.2 (cmp_eq.2.mp c)
      refine PC.pr (k := 1) (pc' := 22) (lv' := [(0, .ref a0)]) (st' := [.ref a0]) rfl ?_
      refine (PC.callV (j := 33) (args := [.ref a0]) (rest := []) (M := cM33) rfl rfl rfl rfl rfl rfl (by decide) rfl rfl ?_).weak
      refine PC.imp h (fun _ κ9 h => ?_)
      refine PC.pr (k := 1) (pc' := 74) (lv' := [(0, .ref a0)]) (st' := []) rfl ?_
      exact PC.retV rfl h
  · have h := h.2 (cmp_ne.2.mp c)
    exact PC.retV rfl h

/-- DoorPaints$Reader.stands(I)Z -/
theorem t_23_0 {xl : List Int32} {n : Nat} {ι : IS} {Q : Option Value → IS → Prop} {a0 : Nat} {x1 : Int32} (h : ((¬ (ι (rf a0 1) 2) = x1 → ((¬ (ι (rf a0 1) 2) = 4 → PC xl n 24 0 [(0, .ref a0), (1, .int 2)] [] ι (fun _ κ1 => Q (some (.int 0)) κ1)) ∧ ((ι (rf a0 1) 2) = 4 → PC xl n 24 0 [(0, .ref a0), (1, .int 1)] [] ι (fun _ κ2 => Q (some (.int 0)) κ2)))) ∧ ((ι (rf a0 1) 2) = x1 → Q (some (.int 1)) ι))) : PC xl (n + 1) 23 0 [(0, .ref a0), (1, .int x1)] [] ι Q := by
  refine PC.pr1 (k := 0) (pc' := 1) (lv' := [(0, .ref a0), (1, .int x1)]) (st' := [.ref a0]) rfl ?_
  refine PC.gR (ci := 1) (j := 1) rfl rfl (by decide) ?_
  refine PC.gI (ci := 6) (j := 2) rfl rfl (by decide) ?_
  refine PC.pr (k := 1) (pc' := 8) (lv' := [(0, .ref a0), (1, .int x1)]) (st' := [.int x1, .int (ι (rf a0 1) 2)]) rfl ?_
  refine PC.if2 (t := 13) rfl rfl (fun c => ?_) (fun c => ?_)
  · have h := h.1 (cmp_ne.1.mp c)
    refine PC.pr (k := 1) (pc' := 14) (lv' := [(0, .ref a0), (1, .int x1)]) (st' := [.ref a0]) rfl ?_
    refine PC.pr (k := 1) (pc' := 15) (lv' := [(0, .ref a0), (1, .int x1)]) (st' := [.ref a0, .ref a0]) rfl ?_
    refine PC.gR (ci := 1) (j := 1) rfl rfl (by decide) ?_
    refine PC.gI (ci := 6) (j := 2) rfl rfl (by decide) ?_
    refine PC.pr (k := 1) (pc' := 22) (lv' := [(0, .ref a0), (1, .int x1)]) (st' := [.int 4, .int (ι (rf a0 1) 2), .ref a0]) rfl ?_
    refine PC.if2 (t := 29) rfl rfl (fun c => ?_) (fun c => ?_)
    · have h := h.1 (cmp_ne.1.mp c)
      refine PC.pr (k := 1) (pc' := 30) (lv' := [(0, .ref a0), (1, .int x1)]) (st' := [.int 2, .ref a0]) rfl ?_
      refine (PC.callV (j := 24) (args := [.ref a0, .int 2]) (rest := []) (M := cM24) rfl rfl rfl rfl rfl rfl (by decide) rfl rfl ?_).weak
      refine PC.imp h (fun _ κ1 h => ?_)
      refine PC.pr (k := 1) (pc' := 34) (lv' := [(0, .ref a0), (1, .int x1)]) (st' := [.int 0]) rfl ?_
      exact PC.retI rfl h
    · have h := h.2 (cmp_ne.2.mp c)
      refine PC.pr (k := 1) (pc' := 26) (lv' := [(0, .ref a0), (1, .int x1)]) (st' := [.int 1, .ref a0]) rfl ?_
      refine PC.pr (k := 1) (pc' := 30) (lv' := [(0, .ref a0), (1, .int x1)]) (st' := [.int 1, .ref a0]) rfl ?_
      refine (PC.callV (j := 24) (args := [.ref a0, .int 1]) (rest := []) (M := cM24) rfl rfl rfl rfl rfl rfl (by decide) rfl rfl ?_).weak
      refine PC.imp h (fun _ κ2 h => ?_)
      refine PC.pr (k := 1) (pc' := 34) (lv' := [(0, .ref a0), (1, .int x1)]) (st' := [.int 0]) rfl ?_
      exact PC.retI rfl h
  · have h := h.2 (cmp_ne.2.mp c)
    refine PC.pr (k := 1) (pc' := 12) (lv' := [(0, .ref a0), (1, .int x1)]) (st' := [.int 1]) rfl ?_
    exact PC.retI rfl h

/-- DoorPaints$Reader.fail(I)V -/
theorem t_24_0 {xl : List Int32} {n : Nat} {ι : IS} {Q : Option Value → IS → Prop} {a0 : Nat} {x1 : Int32} (h : Q none (up (up ι a0 2 x1) a0 3 ((up ι a0 2 x1) (rf a0 1) 3))) : PC xl (n + 1) 24 0 [(0, .ref a0), (1, .int x1)] [] ι Q := by
  refine PC.pr1 (k := 0) (pc' := 1) (lv' := [(0, .ref a0), (1, .int x1)]) (st' := [.ref a0]) rfl ?_
  refine PC.pr (k := 1) (pc' := 2) (lv' := [(0, .ref a0), (1, .int x1)]) (st' := [.int x1, .ref a0]) rfl ?_
  refine PC.pI (ci := 1) (j := 2) rfl rfl ?_
  refine PC.pr (k := 1) (pc' := 6) (lv' := [(0, .ref a0), (1, .int x1)]) (st' := [.ref a0]) rfl ?_
  refine PC.pr (k := 1) (pc' := 7) (lv' := [(0, .ref a0), (1, .int x1)]) (st' := [.ref a0, .ref a0]) rfl ?_
  refine PC.gR (ci := 1) (j := 1) rfl rfl (by decide) ?_
  refine PC.gI (ci := 6) (j := 3) rfl rfl (by decide) ?_
  refine PC.pI (ci := 1) (j := 3) rfl rfl ?_
  exact PC.retV rfl h

/-- DoorPaints$Reader.readDoor()V -/
theorem t_33_0 {xl : List Int32} {n : Nat} {ι : IS} {Q : Option Value → IS → Prop} {a0 : Nat} (h : (((ι (rf (rf a0 0) 0) 3) < 4 → (0 ≤ (ι (rf (rf a0 0) 0) 3).toInt → (ι (rf (rf a0 0) 0) 3).toInt < lr (rf (rf (rf a0 0) 0) 1) → PC xl n 19 0 [(0, .ref (rf a0 1))] [] (up ι (rf (rf a0 0) 0) 3 ((ι (rf (rf a0 0) 0) 3) + 1)) (fun _ κ1 => PC xl n 33 67 [(0, .ref a0), (1, .ref (re (rf (rf (rf a0 0) 0) 1) (ι (rf (rf a0 0) 0) 3).toNatClampNeg)), (2, .int 0)] [] κ1 Q))) ∧ (¬ (ι (rf (rf a0 0) 0) 3) < 4 → PC xl n 24 0 [(0, .ref a0), (1, .int 5)] [] ι (fun _ κ2 => Q none κ2)))) : PC xl (n + 1) 33 0 [(0, .ref a0)] [] ι Q := by
  refine PC.pr1 (k := 0) (pc' := 1) (lv' := [(0, .ref a0)]) (st' := [.ref a0]) rfl ?_
  refine PC.gR (ci := 1) (j := 0) rfl rfl (by decide) ?_
  refine PC.gR (ci := 2) (j := 0) rfl rfl (by decide) ?_
  refine PC.gI (ci := 3) (j := 3) rfl rfl (by decide) ?_
  refine PC.pr (k := 1) (pc' := 11) (lv' := [(0, .ref a0)]) (st' := [.int 4, .int (ι (rf (rf a0 0) 0) 3)]) rfl ?_
  refine PC.if2 (t := 20) rfl rfl (fun c => ?_) (fun c => ?_)
  · have h := h.1 (cmp_lt.1.mp c)
    refine PC.pr (k := 1) (pc' := 21) (lv' := [(0, .ref a0)]) (st' := [.ref a0]) rfl ?_
    refine PC.gR (ci := 1) (j := 0) rfl rfl (by decide) ?_
    refine PC.gR (ci := 2) (j := 0) rfl rfl (by decide) ?_
    refine PC.gR (ci := 3) (j := 1) rfl rfl (by decide) ?_
    refine PC.pr (k := 1) (pc' := 31) (lv' := [(0, .ref a0)]) (st' := [.ref a0, .ref (rf (rf (rf a0 0) 0) 1)]) rfl ?_
    refine PC.gR (ci := 1) (j := 0) rfl rfl (by decide) ?_
    refine PC.gR (ci := 2) (j := 0) rfl rfl (by decide) ?_
    refine PC.gI (ci := 3) (j := 3) rfl rfl (by decide) ?_
    refine PC.ra rfl (fun c1 c2 => ?_)
    have h := h c1 c2
    refine PC.pr (k := 1) (pc' := 42) (lv' := [(1, .ref (re (rf (rf (rf a0 0) 0) 1) (ι (rf (rf a0 0) 0) 3).toNatClampNeg)), (0, .ref a0)]) (st' := []) rfl ?_
    refine PC.pr (k := 1) (pc' := 43) (lv' := [(1, .ref (re (rf (rf (rf a0 0) 0) 1) (ι (rf (rf a0 0) 0) 3).toNatClampNeg)), (0, .ref a0)]) (st' := [.ref a0]) rfl ?_
    refine PC.gR (ci := 1) (j := 0) rfl rfl (by decide) ?_
    refine PC.gR (ci := 2) (j := 0) rfl rfl (by decide) ?_
    refine PC.pr (k := 1) (pc' := 50) (lv' := [(1, .ref (re (rf (rf (rf a0 0) 0) 1) (ι (rf (rf a0 0) 0) 3).toNatClampNeg)), (0, .ref a0)]) (st' := [.ref (rf (rf a0 0) 0), .ref (rf (rf a0 0) 0)]) rfl ?_
    refine PC.gI (ci := 3) (j := 3) rfl rfl (by decide) ?_
    refine PC.pr (k := 1) (pc' := 54) (lv' := [(1, .ref (re (rf (rf (rf a0 0) 0) 1) (ι (rf (rf a0 0) 0) 3).toNatClampNeg)), (0, .ref a0)]) (st' := [.int 1, .int (ι (rf (rf a0 0) 0) 3), .ref (rf (rf a0 0) 0)]) rfl ?_
    refine PC.pr (k := 1) (pc' := 55) (lv' := [(1, .ref (re (rf (rf (rf a0 0) 0) 1) (ι (rf (rf a0 0) 0) 3).toNatClampNeg)), (0, .ref a0)]) (st' := [.int ((ι (rf (rf a0 0) 0) 3) + 1), .ref (rf (rf a0 0) 0)]) rfl ?_
    refine PC.pI (ci := 3) (j := 3) rfl rfl ?_
    refine PC.pr (k := 1) (pc' := 59) (lv' := [(1, .ref (re (rf (rf (rf a0 0) 0) 1) (ι (rf (rf a0 0) 0) 3).toNatClampNeg)), (0, .ref a0)]) (st' := [.ref a0]) rfl ?_
    refine PC.gR (ci := 1) (j := 1) rfl rfl (by decide) ?_
    refine (PC.callV (j := 19) (args := [.ref (rf a0 1)]) (rest := []) (M := cM19) rfl rfl rfl rfl rfl rfl (by decide) rfl rfl ?_).weak
    refine PC.imp h (fun _ κ1 h => ?_)
    refine PC.pr (k := 1) (pc' := 66) (lv' := [(1, .ref (re (rf (rf (rf a0 0) 0) 1) (ι (rf (rf a0 0) 0) 3).toNatClampNeg)), (0, .ref a0)]) (st' := [.int 0]) rfl ?_
    refine PC.pr (k := 1) (pc' := 67) (lv' := [(2, .int 0), (1, .ref (re (rf (rf (rf a0 0) 0) 1) (ι (rf (rf a0 0) 0) 3).toNatClampNeg)), (0, .ref a0)]) (st' := []) rfl ?_
    exact PC.lv (lvE.cons rfl (lvE.cons rfl (lvE.cons rfl (lvE.nil)))) h
  · have h := h.2 (cmp_lt.2.mp c)
    refine PC.pr (k := 1) (pc' := 15) (lv' := [(0, .ref a0)]) (st' := [.ref a0]) rfl ?_
    refine PC.pr (k := 1) (pc' := 16) (lv' := [(0, .ref a0)]) (st' := [.int 5, .ref a0]) rfl ?_
    refine (PC.callV (j := 24) (args := [.ref a0, .int 5]) (rest := []) (M := cM24) rfl rfl rfl rfl rfl rfl (by decide) rfl rfl ?_).weak
    refine PC.imp h (fun _ κ2 h => ?_)
    exact PC.retV rfl h
theorem t_33_67 {xl : List Int32} {n : Nat} {ι : IS} {Q : Option Value → IS → Prop} {a0 : Nat} {a1 : Nat} {x2 : Int32} (h : ((6 < x2 → PC xl n 36 0 [(0, .ref a0)] [] ι (fun _ κ1 => Q none κ1)) ∧ (¬ 6 < x2 → ((¬ (ι (rf a0 1) 2) = 2 → PC xl n 36 0 [(0, .ref a0)] [] ι (fun _ κ2 => Q none κ2)) ∧ ((ι (rf a0 1) 2) = 2 → PC xl n 34 0 [(0, .ref a0), (1, .int 5)] [] ι (fun v3 κ3 => ∀ r3, v3 = some (.int r3) → ((¬ r3 = 0 → PC xl n 35 0 [(0, .ref a1), (1, .int (κ3 (rf a0 1) 5))] [] κ3 (fun v4 κ4 => ∀ r4, v4 = some (.int r4) → ((¬ r4 = 0 → PC xl n 19 0 [(0, .ref (rf a0 1))] [] κ4 (fun _ κ5 => PC xl n 33 67 [(0, .ref a0), (1, .ref a1), (2, .int (x2 + 1))] [] κ5 Q)) ∧ (r4 = 0 → PC xl n 24 0 [(0, .ref a0), (1, .int 5)] [] κ4 (fun _ κ6 => Q none κ6))))) ∧ (r3 = 0 → Q none κ3)))))))) : PC xl (n + 1) 33 67 [(0, .ref a0), (1, .ref a1), (2, .int x2)] [] ι Q := by
  refine PC.pr1 (k := 0) (pc' := 68) (lv' := [(0, .ref a0), (1, .ref a1), (2, .int x2)]) (st' := [.int x2]) rfl ?_
  refine PC.pr (k := 1) (pc' := 70) (lv' := [(0, .ref a0), (1, .ref a1), (2, .int x2)]) (st' := [.int 6, .int x2]) rfl ?_
  refine PC.if2 (t := 126) rfl rfl (fun c => ?_) (fun c => ?_)
  · have h := h.1 (cmp_gt.1.mp c)
    refine PC.pr (k := 1) (pc' := 127) (lv' := [(0, .ref a0), (1, .ref a1), (2, .int x2)]) (st' := [.ref a0]) rfl ?_
    refine (PC.callV (j := 36) (args := [.ref a0]) (rest := []) (M := cM36) rfl rfl rfl rfl rfl rfl (by decide) rfl rfl ?_).weak
    refine PC.imp h (fun _ κ1 h => ?_)
    exact PC.retV rfl h
  · have h := h.2 (cmp_gt.2.mp c)
    refine PC.pr (k := 1) (pc' := 74) (lv' := [(0, .ref a0), (1, .ref a1), (2, .int x2)]) (st' := [.ref a0]) rfl ?_
    refine PC.gR (ci := 1) (j := 1) rfl rfl (by decide) ?_
    refine PC.gI (ci := 6) (j := 2) rfl rfl (by decide) ?_
    refine PC.pr (k := 1) (pc' := 81) (lv' := [(0, .ref a0), (1, .ref a1), (2, .int x2)]) (st' := [.int 2, .int (ι (rf a0 1) 2)]) rfl ?_
    refine PC.if2 (t := 126) rfl rfl (fun c => ?_) (fun c => ?_)
    · have h := h.1 (cmp_ne.1.mp c)
      refine PC.pr (k := 1) (pc' := 127) (lv' := [(0, .ref a0), (1, .ref a1), (2, .int x2)]) (st' := [.ref a0]) rfl ?_
      refine (PC.callV (j := 36) (args := [.ref a0]) (rest := []) (M := cM36) rfl rfl rfl rfl rfl rfl (by decide) rfl rfl ?_).weak
      refine PC.imp h (fun _ κ2 h => ?_)
      exact PC.retV rfl h
    · have h := h.2 (cmp_ne.2.mp c)
      refine PC.pr (k := 1) (pc' := 85) (lv' := [(0, .ref a0), (1, .ref a1), (2, .int x2)]) (st' := [.ref a0]) rfl ?_
      refine PC.pr (k := 1) (pc' := 86) (lv' := [(0, .ref a0), (1, .ref a1), (2, .int x2)]) (st' := [.int 5, .ref a0]) rfl ?_
      refine (PC.callI (j := 34) (args := [.ref a0, .int 5]) (rest := []) (M := cM34) (ty := .boolean) rfl rfl rfl rfl rfl rfl (by decide) rfl rfl (by decide) ?_).weak
      refine PC.imp h (fun v3 κ3 h r3 hv => ?_)
      have h := h r3 hv
      refine PC.if1 (t := 93) rfl rfl (fun c => ?_) (fun c => ?_)
      · have h := h.1 (cmp_ne.1.mp c)
        refine PC.pr (k := 1) (pc' := 94) (lv' := [(0, .ref a0), (1, .ref a1), (2, .int x2)]) (st' := [.ref a1]) rfl ?_
        refine PC.pr (k := 1) (pc' := 95) (lv' := [(0, .ref a0), (1, .ref a1), (2, .int x2)]) (st' := [.ref a0, .ref a1]) rfl ?_
        refine PC.gR (ci := 1) (j := 1) rfl rfl (by decide) ?_
        refine PC.gI (ci := 6) (j := 5) rfl rfl (by decide) ?_
        refine (PC.callI (j := 35) (args := [.ref a1, .int (κ3 (rf a0 1) 5)]) (rest := []) (M := cM35) (ty := .boolean) rfl rfl rfl rfl rfl rfl (by decide) rfl rfl (by decide) ?_).weak
        refine PC.imp h (fun v4 κ4 h r4 hv => ?_)
        have h := h r4 hv
        refine PC.if1 (t := 113) rfl rfl (fun c => ?_) (fun c => ?_)
        · have h := h.1 (cmp_ne.1.mp c)
          refine PC.pr (k := 1) (pc' := 114) (lv' := [(0, .ref a0), (1, .ref a1), (2, .int x2)]) (st' := [.ref a0]) rfl ?_
          refine PC.gR (ci := 1) (j := 1) rfl rfl (by decide) ?_
          refine (PC.callV (j := 19) (args := [.ref (rf a0 1)]) (rest := []) (M := cM19) rfl rfl rfl rfl rfl rfl (by decide) rfl rfl ?_).weak
          refine PC.imp h (fun _ κ5 h => ?_)
          refine PC.pr (k := 1) (pc' := 123) (lv' := [(2, .int (x2 + 1)), (0, .ref a0), (1, .ref a1)]) (st' := []) rfl ?_
          refine PC.pr (k := 1) (pc' := 67) (lv' := [(2, .int (x2 + 1)), (0, .ref a0), (1, .ref a1)]) (st' := []) rfl ?_
          exact PC.lv (lvE.cons rfl (lvE.cons rfl (lvE.cons rfl (lvE.nil)))) h
        · have h := h.2 (cmp_ne.2.mp c)
          refine PC.pr (k := 1) (pc' := 108) (lv' := [(0, .ref a0), (1, .ref a1), (2, .int x2)]) (st' := [.ref a0]) rfl ?_
          refine PC.pr (k := 1) (pc' := 109) (lv' := [(0, .ref a0), (1, .ref a1), (2, .int x2)]) (st' := [.int 5, .ref a0]) rfl ?_
          refine (PC.callV (j := 24) (args := [.ref a0, .int 5]) (rest := []) (M := cM24) rfl rfl rfl rfl rfl rfl (by decide) rfl rfl ?_).weak
          refine PC.imp h (fun _ κ6 h => ?_)
          exact PC.retV rfl h
      · have h := h.2 (cmp_ne.2.mp c)
        exact PC.retV rfl h

/-- DoorPaints$Reader.numberStands(I)Z -/
theorem t_34_0 {xl : List Int32} {n : Nat} {ι : IS} {Q : Option Value → IS → Prop} {a0 : Nat} {x1 : Int32} (h : PC xl n 23 0 [(0, .ref a0), (1, .int 2)] [] ι (fun v1 κ1 => ∀ r1, v1 = some (.int r1) → ((¬ r1 = 0 → ((¬ x1 < (κ1 (rf a0 1) 5) → Q (some (.int 1)) κ1) ∧ (x1 < (κ1 (rf a0 1) 5) → PC xl n 24 0 [(0, .ref a0), (1, .int 3)] [] κ1 (fun _ κ2 => Q (some (.int 0)) κ2)))) ∧ (r1 = 0 → Q (some (.int 0)) κ1)))) : PC xl (n + 1) 34 0 [(0, .ref a0), (1, .int x1)] [] ι Q := by
  refine PC.pr1 (k := 0) (pc' := 1) (lv' := [(0, .ref a0), (1, .int x1)]) (st' := [.ref a0]) rfl ?_
  refine PC.pr (k := 1) (pc' := 2) (lv' := [(0, .ref a0), (1, .int x1)]) (st' := [.int 2, .ref a0]) rfl ?_
  refine (PC.callI (j := 23) (args := [.ref a0, .int 2]) (rest := []) (M := cM23) (ty := .boolean) rfl rfl rfl rfl rfl rfl (by decide) rfl rfl (by decide) ?_).weak
  refine PC.imp h (fun v1 κ1 h r1 hv => ?_)
  have h := h r1 hv
  refine PC.if1 (t := 10) rfl rfl (fun c => ?_) (fun c => ?_)
  · have h := h.1 (cmp_ne.1.mp c)
    refine PC.pr (k := 1) (pc' := 11) (lv' := [(0, .ref a0), (1, .int x1)]) (st' := [.ref a0]) rfl ?_
    refine PC.gR (ci := 1) (j := 1) rfl rfl (by decide) ?_
    refine PC.gI (ci := 6) (j := 5) rfl rfl (by decide) ?_
    refine PC.pr (k := 1) (pc' := 18) (lv' := [(0, .ref a0), (1, .int x1)]) (st' := [.int x1, .int (κ1 (rf a0 1) 5)]) rfl ?_
    refine PC.if2 (t := 28) rfl rfl (fun c => ?_) (fun c => ?_)
    · have h := h.1 (cmp_le.1.mp c)
      refine PC.pr (k := 1) (pc' := 29) (lv' := [(0, .ref a0), (1, .int x1)]) (st' := [.int 1]) rfl ?_
      exact PC.retI rfl h
    · have h := h.2 (cmp_le.2.mp c)
      refine PC.pr (k := 1) (pc' := 22) (lv' := [(0, .ref a0), (1, .int x1)]) (st' := [.ref a0]) rfl ?_
      refine PC.pr (k := 1) (pc' := 23) (lv' := [(0, .ref a0), (1, .int x1)]) (st' := [.int 3, .ref a0]) rfl ?_
      refine (PC.callV (j := 24) (args := [.ref a0, .int 3]) (rest := []) (M := cM24) rfl rfl rfl rfl rfl rfl (by decide) rfl rfl ?_).weak
      refine PC.imp h (fun _ κ2 h => ?_)
      refine PC.pr (k := 1) (pc' := 27) (lv' := [(0, .ref a0), (1, .int x1)]) (st' := [.int 0]) rfl ?_
      exact PC.retI rfl h
  · have h := h.2 (cmp_ne.2.mp c)
    refine PC.pr (k := 1) (pc' := 9) (lv' := [(0, .ref a0), (1, .int x1)]) (st' := [.int 0]) rfl ?_
    exact PC.retI rfl h

/-- DoorPaints$Door.addLayer(I)Z -/
theorem t_35_0 {xl : List Int32} {n : Nat} {ι : IS} {Q : Option Value → IS → Prop} {a0 : Nat} {x1 : Int32} (h : (((ι a0 1) < 6 → (0 ≤ (ι a0 1).toInt → (ι a0 1).toInt < ln (rf a0 0) → Q (some (.int 1)) (up (up ι (rf a0 0) (ι a0 1).toNatClampNeg x1) a0 1 (((up ι (rf a0 0) (ι a0 1).toNatClampNeg x1) a0 1) + 1)))) ∧ (¬ (ι a0 1) < 6 → Q (some (.int 0)) ι))) : PC xl (n + 1) 35 0 [(0, .ref a0), (1, .int x1)] [] ι Q := by
  refine PC.pr1 (k := 0) (pc' := 1) (lv' := [(0, .ref a0), (1, .int x1)]) (st' := [.ref a0]) rfl ?_
  refine PC.gI (ci := 5) (j := 1) rfl rfl (by decide) ?_
  refine PC.pr (k := 1) (pc' := 6) (lv' := [(0, .ref a0), (1, .int x1)]) (st' := [.int 6, .int (ι a0 1)]) rfl ?_
  refine PC.if2 (t := 11) rfl rfl (fun c => ?_) (fun c => ?_)
  · have h := h.1 (cmp_lt.1.mp c)
    refine PC.pr (k := 1) (pc' := 12) (lv' := [(0, .ref a0), (1, .int x1)]) (st' := [.ref a0]) rfl ?_
    refine PC.gR (ci := 5) (j := 0) rfl rfl (by decide) ?_
    refine PC.pr (k := 1) (pc' := 16) (lv' := [(0, .ref a0), (1, .int x1)]) (st' := [.ref a0, .ref (rf a0 0)]) rfl ?_
    refine PC.gI (ci := 5) (j := 1) rfl rfl (by decide) ?_
    refine PC.pr (k := 1) (pc' := 20) (lv' := [(0, .ref a0), (1, .int x1)]) (st' := [.int x1, .int (ι a0 1), .ref (rf a0 0)]) rfl ?_
    refine PC.wI rfl (fun c1 c2 => ?_)
    have h := h c1 c2
    refine PC.pr (k := 1) (pc' := 22) (lv' := [(0, .ref a0), (1, .int x1)]) (st' := [.ref a0]) rfl ?_
    refine PC.pr (k := 1) (pc' := 23) (lv' := [(0, .ref a0), (1, .int x1)]) (st' := [.ref a0, .ref a0]) rfl ?_
    refine PC.gI (ci := 5) (j := 1) rfl rfl (by decide) ?_
    refine PC.pr (k := 1) (pc' := 27) (lv' := [(0, .ref a0), (1, .int x1)]) (st' := [.int 1, .int ((up ι (rf a0 0) (ι a0 1).toNatClampNeg x1) a0 1), .ref a0]) rfl ?_
    refine PC.pr (k := 1) (pc' := 28) (lv' := [(0, .ref a0), (1, .int x1)]) (st' := [.int (((up ι (rf a0 0) (ι a0 1).toNatClampNeg x1) a0 1) + 1), .ref a0]) rfl ?_
    refine PC.pI (ci := 5) (j := 1) rfl rfl ?_
    refine PC.pr (k := 1) (pc' := 32) (lv' := [(0, .ref a0), (1, .int x1)]) (st' := [.int 1]) rfl ?_
    exact PC.retI rfl h
  · have h := h.2 (cmp_lt.2.mp c)
    refine PC.pr (k := 1) (pc' := 10) (lv' := [(0, .ref a0), (1, .int x1)]) (st' := [.int 0]) rfl ?_
    exact PC.retI rfl h

/-- DoorPaints$Reader.endLine()V -/
theorem t_36_0 {xl : List Int32} {n : Nat} {ι : IS} {Q : Option Value → IS → Prop} {a0 : Nat} (h : PC xl n 23 0 [(0, .ref a0), (1, .int 3)] [] ι (fun v1 κ1 => ∀ r1, v1 = some (.int r1) → ((r1 = 0 → Q none κ1) ∧ (¬ r1 = 0 → PC xl n 19 0 [(0, .ref (rf a0 1))] [] κ1 (fun _ κ2 => Q none κ2))))) : PC xl (n + 1) 36 0 [(0, .ref a0)] [] ι Q := by
  refine PC.pr1 (k := 0) (pc' := 1) (lv' := [(0, .ref a0)]) (st' := [.ref a0]) rfl ?_
  refine PC.pr (k := 1) (pc' := 2) (lv' := [(0, .ref a0)]) (st' := [.int 3, .ref a0]) rfl ?_
  refine (PC.callI (j := 23) (args := [.ref a0, .int 3]) (rest := []) (M := cM23) (ty := .boolean) rfl rfl rfl rfl rfl rfl (by decide) rfl rfl (by decide) ?_).weak
  refine PC.imp h (fun v1 κ1 h r1 hv => ?_)
  have h := h r1 hv
  refine PC.if1 (t := 15) rfl rfl (fun c => ?_) (fun c => ?_)
  · have h := h.1 (cmp_eq.1.mp c)
    exact PC.retV rfl h
  · have h := h.2 (cmp_eq.2.mp c)
    refine PC.pr (k := 1) (pc' := 9) (lv' := [(0, .ref a0)]) (st' := [.ref a0]) rfl ?_
    refine PC.gR (ci := 1) (j := 1) rfl rfl (by decide) ?_
    refine (PC.callV (j := 19) (args := [.ref (rf a0 1)]) (rest := []) (M := cM19) rfl rfl rfl rfl rfl rfl (by decide) rfl rfl ?_).weak
    refine PC.imp h (fun _ κ2 h => ?_)
    exact PC.retV rfl h

/-- DoorPaints$Reader.readNot()V -/
theorem t_37_0 {xl : List Int32} {n : Nat} {ι : IS} {Q : Option Value → IS → Prop} {a0 : Nat} (h : PC xl n 19 0 [(0, .ref (rf a0 1))] [] ι (fun _ κ1 => PC xl n 34 0 [(0, .ref a0), (1, .int 3)] [] κ1 (fun v2 κ2 => ∀ r2, v2 = some (.int r2) → ((¬ r2 = 0 → (0 ≤ (κ2 (rf a0 1) 5).toInt → (κ2 (rf a0 1) 5).toInt < lr (rf (rf (rf a0 0) 0) 1) → PC xl n 19 0 [(0, .ref (rf a0 1))] [] κ2 (fun _ κ3 => PC xl n 34 0 [(0, .ref a0), (1, .int 5)] [] κ3 (fun v4 κ4 => ∀ r4, v4 = some (.int r4) → ((¬ r4 = 0 → PC xl n 38 0 [(0, .ref (re (rf (rf (rf a0 0) 0) 1) (κ2 (rf a0 1) 5).toNatClampNeg)), (1, .int (κ4 (rf a0 1) 5))] [] κ4 (fun v5 κ5 => ∀ r5, v5 = some (.int r5) → ((r5 = 0 → PC xl n 39 0 [(0, .ref (re (rf (rf (rf a0 0) 0) 1) (κ2 (rf a0 1) 5).toNatClampNeg)), (1, .int (κ5 (rf a0 1) 5)), (2, .int 1)] [] κ5 (fun _ κ6 => PC xl n 19 0 [(0, .ref (rf a0 1))] [] κ6 (fun _ κ7 => PC xl n 36 0 [(0, .ref a0)] [] κ7 (fun _ κ8 => Q none κ8)))) ∧ (¬ r5 = 0 → PC xl n 24 0 [(0, .ref a0), (1, .int 4)] [] κ5 (fun _ κ9 => Q none κ9))))) ∧ (r4 = 0 → Q none κ4)))))) ∧ (r2 = 0 → Q none κ2))))) : PC xl (n + 1) 37 0 [(0, .ref a0)] [] ι Q := by
  refine PC.pr1 (k := 0) (pc' := 1) (lv' := [(0, .ref a0)]) (st' := [.ref a0]) rfl ?_
  refine PC.gR (ci := 1) (j := 1) rfl rfl (by decide) ?_
  refine (PC.callV (j := 19) (args := [.ref (rf a0 1)]) (rest := []) (M := cM19) rfl rfl rfl rfl rfl rfl (by decide) rfl rfl ?_).weak
  refine PC.imp h (fun _ κ1 h => ?_)
  refine PC.pr (k := 1) (pc' := 8) (lv' := [(0, .ref a0)]) (st' := [.ref a0]) rfl ?_
  refine PC.pr (k := 1) (pc' := 9) (lv' := [(0, .ref a0)]) (st' := [.int 3, .ref a0]) rfl ?_
  refine (PC.callI (j := 34) (args := [.ref a0, .int 3]) (rest := []) (M := cM34) (ty := .boolean) rfl rfl rfl rfl rfl rfl (by decide) rfl rfl (by decide) ?_).weak
  refine PC.imp h (fun v2 κ2 h r2 hv => ?_)
  have h := h r2 hv
  refine PC.if1 (t := 16) rfl rfl (fun c => ?_) (fun c => ?_)
  · have h := h.1 (cmp_ne.1.mp c)
    refine PC.pr (k := 1) (pc' := 17) (lv' := [(0, .ref a0)]) (st' := [.ref a0]) rfl ?_
    refine PC.gR (ci := 1) (j := 0) rfl rfl (by decide) ?_
    refine PC.gR (ci := 2) (j := 0) rfl rfl (by decide) ?_
    refine PC.gR (ci := 3) (j := 1) rfl rfl (by decide) ?_
    refine PC.pr (k := 1) (pc' := 27) (lv' := [(0, .ref a0)]) (st' := [.ref a0, .ref (rf (rf (rf a0 0) 0) 1)]) rfl ?_
    refine PC.gR (ci := 1) (j := 1) rfl rfl (by decide) ?_
    refine PC.gI (ci := 6) (j := 5) rfl rfl (by decide) ?_
    refine PC.ra rfl (fun c1 c2 => ?_)
    have h := h c1 c2
    refine PC.pr (k := 1) (pc' := 35) (lv' := [(1, .ref (re (rf (rf (rf a0 0) 0) 1) (κ2 (rf a0 1) 5).toNatClampNeg)), (0, .ref a0)]) (st' := []) rfl ?_
    refine PC.pr (k := 1) (pc' := 36) (lv' := [(1, .ref (re (rf (rf (rf a0 0) 0) 1) (κ2 (rf a0 1) 5).toNatClampNeg)), (0, .ref a0)]) (st' := [.ref a0]) rfl ?_
    refine PC.gR (ci := 1) (j := 1) rfl rfl (by decide) ?_
    refine (PC.callV (j := 19) (args := [.ref (rf a0 1)]) (rest := []) (M := cM19) rfl rfl rfl rfl rfl rfl (by decide) rfl rfl ?_).weak
    refine PC.imp h (fun _ κ3 h => ?_)
    refine PC.pr (k := 1) (pc' := 43) (lv' := [(1, .ref (re (rf (rf (rf a0 0) 0) 1) (κ2 (rf a0 1) 5).toNatClampNeg)), (0, .ref a0)]) (st' := [.ref a0]) rfl ?_
    refine PC.pr (k := 1) (pc' := 44) (lv' := [(1, .ref (re (rf (rf (rf a0 0) 0) 1) (κ2 (rf a0 1) 5).toNatClampNeg)), (0, .ref a0)]) (st' := [.int 5, .ref a0]) rfl ?_
    refine (PC.callI (j := 34) (args := [.ref a0, .int 5]) (rest := []) (M := cM34) (ty := .boolean) rfl rfl rfl rfl rfl rfl (by decide) rfl rfl (by decide) ?_).weak
    refine PC.imp h (fun v4 κ4 h r4 hv => ?_)
    have h := h r4 hv
    refine PC.if1 (t := 51) rfl rfl (fun c => ?_) (fun c => ?_)
    · have h := h.1 (cmp_ne.1.mp c)
      refine PC.pr (k := 1) (pc' := 52) (lv' := [(1, .ref (re (rf (rf (rf a0 0) 0) 1) (κ2 (rf a0 1) 5).toNatClampNeg)), (0, .ref a0)]) (st' := [.ref (re (rf (rf (rf a0 0) 0) 1) (κ2 (rf a0 1) 5).toNatClampNeg)]) rfl ?_
      refine PC.pr (k := 1) (pc' := 53) (lv' := [(1, .ref (re (rf (rf (rf a0 0) 0) 1) (κ2 (rf a0 1) 5).toNatClampNeg)), (0, .ref a0)]) (st' := [.ref a0, .ref (re (rf (rf (rf a0 0) 0) 1) (κ2 (rf a0 1) 5).toNatClampNeg)]) rfl ?_
      refine PC.gR (ci := 1) (j := 1) rfl rfl (by decide) ?_
      refine PC.gI (ci := 6) (j := 5) rfl rfl (by decide) ?_
      refine (PC.callI (j := 38) (args := [.ref (re (rf (rf (rf a0 0) 0) 1) (κ2 (rf a0 1) 5).toNatClampNeg), .int (κ4 (rf a0 1) 5)]) (rest := []) (M := cM38) (ty := .boolean) rfl rfl rfl rfl rfl rfl (by decide) rfl rfl (by decide) ?_).weak
      refine PC.imp h (fun v5 κ5 h r5 hv => ?_)
      have h := h r5 hv
      refine PC.if1 (t := 71) rfl rfl (fun c => ?_) (fun c => ?_)
      · have h := h.1 (cmp_eq.1.mp c)
        refine PC.pr (k := 1) (pc' := 72) (lv' := [(1, .ref (re (rf (rf (rf a0 0) 0) 1) (κ2 (rf a0 1) 5).toNatClampNeg)), (0, .ref a0)]) (st' := [.ref (re (rf (rf (rf a0 0) 0) 1) (κ2 (rf a0 1) 5).toNatClampNeg)]) rfl ?_
        refine PC.pr (k := 1) (pc' := 73) (lv' := [(1, .ref (re (rf (rf (rf a0 0) 0) 1) (κ2 (rf a0 1) 5).toNatClampNeg)), (0, .ref a0)]) (st' := [.ref a0, .ref (re (rf (rf (rf a0 0) 0) 1) (κ2 (rf a0 1) 5).toNatClampNeg)]) rfl ?_
        refine PC.gR (ci := 1) (j := 1) rfl rfl (by decide) ?_
        refine PC.gI (ci := 6) (j := 5) rfl rfl (by decide) ?_
        refine PC.pr (k := 1) (pc' := 80) (lv' := [(1, .ref (re (rf (rf (rf a0 0) 0) 1) (κ2 (rf a0 1) 5).toNatClampNeg)), (0, .ref a0)]) (st' := [.int 1, .int (κ5 (rf a0 1) 5), .ref (re (rf (rf (rf a0 0) 0) 1) (κ2 (rf a0 1) 5).toNatClampNeg)]) rfl ?_
        refine (PC.callV (j := 39) (args := [.ref (re (rf (rf (rf a0 0) 0) 1) (κ2 (rf a0 1) 5).toNatClampNeg), .int (κ5 (rf a0 1) 5), .int 1]) (rest := []) (M := cM39) rfl rfl rfl rfl rfl rfl (by decide) rfl rfl ?_).weak
        refine PC.imp h (fun _ κ6 h => ?_)
        refine PC.pr (k := 1) (pc' := 84) (lv' := [(1, .ref (re (rf (rf (rf a0 0) 0) 1) (κ2 (rf a0 1) 5).toNatClampNeg)), (0, .ref a0)]) (st' := [.ref a0]) rfl ?_
        refine PC.gR (ci := 1) (j := 1) rfl rfl (by decide) ?_
        refine (PC.callV (j := 19) (args := [.ref (rf a0 1)]) (rest := []) (M := cM19) rfl rfl rfl rfl rfl rfl (by decide) rfl rfl ?_).weak
        refine PC.imp h (fun _ κ7 h => ?_)
        refine PC.pr (k := 1) (pc' := 91) (lv' := [(1, .ref (re (rf (rf (rf a0 0) 0) 1) (κ2 (rf a0 1) 5).toNatClampNeg)), (0, .ref a0)]) (st' := [.ref a0]) rfl ?_
        refine (PC.callV (j := 36) (args := [.ref a0]) (rest := []) (M := cM36) rfl rfl rfl rfl rfl rfl (by decide) rfl rfl ?_).weak
        refine PC.imp h (fun _ κ8 h => ?_)
        exact PC.retV rfl h
      · have h := h.2 (cmp_eq.2.mp c)
        refine PC.pr (k := 1) (pc' := 66) (lv' := [(1, .ref (re (rf (rf (rf a0 0) 0) 1) (κ2 (rf a0 1) 5).toNatClampNeg)), (0, .ref a0)]) (st' := [.ref a0]) rfl ?_
        refine PC.pr (k := 1) (pc' := 67) (lv' := [(1, .ref (re (rf (rf (rf a0 0) 0) 1) (κ2 (rf a0 1) 5).toNatClampNeg)), (0, .ref a0)]) (st' := [.int 4, .ref a0]) rfl ?_
        refine (PC.callV (j := 24) (args := [.ref a0, .int 4]) (rest := []) (M := cM24) rfl rfl rfl rfl rfl rfl (by decide) rfl rfl ?_).weak
        refine PC.imp h (fun _ κ9 h => ?_)
        exact PC.retV rfl h
    · have h := h.2 (cmp_ne.2.mp c)
      exact PC.retV rfl h
  · have h := h.2 (cmp_ne.2.mp c)
    exact PC.retV rfl h

/-- DoorPaints$Door.forbids(I)Z -/
theorem t_38_0 {xl : List Int32} {n : Nat} {ι : IS} {Q : Option Value → IS → Prop} {a0 : Nat} {x1 : Int32} (h : ((¬ (((ι a0 2) >>> (x1 &&& 31)) &&& 1) = 1 → Q (some (.int 0)) ι) ∧ ((((ι a0 2) >>> (x1 &&& 31)) &&& 1) = 1 → Q (some (.int 1)) ι))) : PC xl (n + 1) 38 0 [(0, .ref a0), (1, .int x1)] [] ι Q := by
  refine PC.pr1 (k := 0) (pc' := 1) (lv' := [(0, .ref a0), (1, .int x1)]) (st' := [.ref a0]) rfl ?_
  refine PC.gI (ci := 5) (j := 2) rfl rfl (by decide) ?_
  refine PC.pr (k := 1) (pc' := 5) (lv' := [(0, .ref a0), (1, .int x1)]) (st' := [.int x1, .int (ι a0 2)]) rfl ?_
  refine PC.pr (k := 1) (pc' := 6) (lv' := [(0, .ref a0), (1, .int x1)]) (st' := [.int ((ι a0 2) >>> (x1 &&& 31))]) rfl ?_
  refine PC.pr (k := 1) (pc' := 7) (lv' := [(0, .ref a0), (1, .int x1)]) (st' := [.int 1, .int ((ι a0 2) >>> (x1 &&& 31))]) rfl ?_
  refine PC.pr (k := 1) (pc' := 8) (lv' := [(0, .ref a0), (1, .int x1)]) (st' := [.int (((ι a0 2) >>> (x1 &&& 31)) &&& 1)]) rfl ?_
  refine PC.pr (k := 1) (pc' := 9) (lv' := [(0, .ref a0), (1, .int x1)]) (st' := [.int 1, .int (((ι a0 2) >>> (x1 &&& 31)) &&& 1)]) rfl ?_
  refine PC.if2 (t := 16) rfl rfl (fun c => ?_) (fun c => ?_)
  · have h := h.1 (cmp_ne.1.mp c)
    refine PC.pr (k := 1) (pc' := 17) (lv' := [(0, .ref a0), (1, .int x1)]) (st' := [.int 0]) rfl ?_
    exact PC.retI rfl h
  · have h := h.2 (cmp_ne.2.mp c)
    refine PC.pr (k := 1) (pc' := 13) (lv' := [(0, .ref a0), (1, .int x1)]) (st' := [.int 1]) rfl ?_
    refine PC.pr (k := 1) (pc' := 17) (lv' := [(0, .ref a0), (1, .int x1)]) (st' := [.int 1]) rfl ?_
    exact PC.retI rfl h

/-- DoorPaints$Door.forbid(IZ)V -/
theorem t_39_0 {xl : List Int32} {n : Nat} {ι : IS} {Q : Option Value → IS → Prop} {a0 : Nat} {x1 : Int32} {x2 : Int32} (h : ((x2 = 0 → Q none (up ι a0 2 ((ι a0 2) &&& ((1 <<< (x1 &&& 31)) ^^^ (-1))))) ∧ (¬ x2 = 0 → Q none (up ι a0 2 ((ι a0 2) ||| (1 <<< (x1 &&& 31))))))) : PC xl (n + 1) 39 0 [(0, .ref a0), (1, .int x1), (2, .int x2)] [] ι Q := by
  refine PC.pr1 (k := 0) (pc' := 1) (lv' := [(0, .ref a0), (1, .int x1), (2, .int x2)]) (st' := [.int 1]) rfl ?_
  refine PC.pr (k := 1) (pc' := 2) (lv' := [(0, .ref a0), (1, .int x1), (2, .int x2)]) (st' := [.int x1, .int 1]) rfl ?_
  refine PC.pr (k := 1) (pc' := 3) (lv' := [(0, .ref a0), (1, .int x1), (2, .int x2)]) (st' := [.int (1 <<< (x1 &&& 31))]) rfl ?_
  refine PC.pr (k := 1) (pc' := 4) (lv' := [(3, .int (1 <<< (x1 &&& 31))), (0, .ref a0), (1, .int x1), (2, .int x2)]) (st' := []) rfl ?_
  refine PC.pr (k := 1) (pc' := 5) (lv' := [(3, .int (1 <<< (x1 &&& 31))), (0, .ref a0), (1, .int x1), (2, .int x2)]) (st' := [.ref a0]) rfl ?_
  refine PC.pr (k := 1) (pc' := 6) (lv' := [(3, .int (1 <<< (x1 &&& 31))), (0, .ref a0), (1, .int x1), (2, .int x2)]) (st' := [.int x2, .ref a0]) rfl ?_
  refine PC.if1 (t := 18) rfl rfl (fun c => ?_) (fun c => ?_)
  · have h := h.1 (cmp_eq.1.mp c)
    refine PC.pr (k := 1) (pc' := 19) (lv' := [(3, .int (1 <<< (x1 &&& 31))), (0, .ref a0), (1, .int x1), (2, .int x2)]) (st' := [.ref a0, .ref a0]) rfl ?_
    refine PC.gI (ci := 5) (j := 2) rfl rfl (by decide) ?_
    refine PC.pr (k := 1) (pc' := 23) (lv' := [(3, .int (1 <<< (x1 &&& 31))), (0, .ref a0), (1, .int x1), (2, .int x2)]) (st' := [.int (1 <<< (x1 &&& 31)), .int (ι a0 2), .ref a0]) rfl ?_
    refine PC.pr (k := 1) (pc' := 24) (lv' := [(3, .int (1 <<< (x1 &&& 31))), (0, .ref a0), (1, .int x1), (2, .int x2)]) (st' := [.int (-1), .int (1 <<< (x1 &&& 31)), .int (ι a0 2), .ref a0]) rfl ?_
    refine PC.pr (k := 1) (pc' := 25) (lv' := [(3, .int (1 <<< (x1 &&& 31))), (0, .ref a0), (1, .int x1), (2, .int x2)]) (st' := [.int ((1 <<< (x1 &&& 31)) ^^^ (-1)), .int (ι a0 2), .ref a0]) rfl ?_
    refine PC.pr (k := 1) (pc' := 26) (lv' := [(3, .int (1 <<< (x1 &&& 31))), (0, .ref a0), (1, .int x1), (2, .int x2)]) (st' := [.int ((ι a0 2) &&& ((1 <<< (x1 &&& 31)) ^^^ (-1))), .ref a0]) rfl ?_
    refine PC.pI (ci := 5) (j := 2) rfl rfl ?_
    exact PC.retV rfl h
  · have h := h.2 (cmp_eq.2.mp c)
    refine PC.pr (k := 1) (pc' := 10) (lv' := [(3, .int (1 <<< (x1 &&& 31))), (0, .ref a0), (1, .int x1), (2, .int x2)]) (st' := [.ref a0, .ref a0]) rfl ?_
    refine PC.gI (ci := 5) (j := 2) rfl rfl (by decide) ?_
    refine PC.pr (k := 1) (pc' := 14) (lv' := [(3, .int (1 <<< (x1 &&& 31))), (0, .ref a0), (1, .int x1), (2, .int x2)]) (st' := [.int (1 <<< (x1 &&& 31)), .int (ι a0 2), .ref a0]) rfl ?_
    refine PC.pr (k := 1) (pc' := 15) (lv' := [(3, .int (1 <<< (x1 &&& 31))), (0, .ref a0), (1, .int x1), (2, .int x2)]) (st' := [.int ((ι a0 2) ||| (1 <<< (x1 &&& 31))), .ref a0]) rfl ?_
    refine PC.pr (k := 1) (pc' := 26) (lv' := [(3, .int (1 <<< (x1 &&& 31))), (0, .ref a0), (1, .int x1), (2, .int x2)]) (st' := [.int ((ι a0 2) ||| (1 <<< (x1 &&& 31))), .ref a0]) rfl ?_
    refine PC.pI (ci := 5) (j := 2) rfl rfl ?_
    exact PC.retV rfl h

/-- DoorPaints$Reader.readPlan()V -/
theorem t_40_0 {xl : List Int32} {n : Nat} {ι : IS} {Q : Option Value → IS → Prop} {a0 : Nat} (h : (((ι a0 4) = 0 → PC xl n 19 0 [(0, .ref (rf a0 1))] [] (up ι a0 4 1) (fun _ κ1 => PC xl n 40 27 [(0, .ref a0), (1, .int 0)] [] κ1 Q)) ∧ (¬ (ι a0 4) = 0 → PC xl n 24 0 [(0, .ref a0), (1, .int 4)] [] ι (fun _ κ2 => Q none κ2)))) : PC xl (n + 1) 40 0 [(0, .ref a0)] [] ι Q := by
  refine PC.pr1 (k := 0) (pc' := 1) (lv' := [(0, .ref a0)]) (st' := [.ref a0]) rfl ?_
  refine PC.gI (ci := 1) (j := 4) rfl rfl (by decide) ?_
  refine PC.if1 (t := 13) rfl rfl (fun c => ?_) (fun c => ?_)
  · have h := h.1 (cmp_eq.1.mp c)
    refine PC.pr (k := 1) (pc' := 14) (lv' := [(0, .ref a0)]) (st' := [.ref a0]) rfl ?_
    refine PC.pr (k := 1) (pc' := 15) (lv' := [(0, .ref a0)]) (st' := [.int 1, .ref a0]) rfl ?_
    refine PC.pI (ci := 1) (j := 4) rfl rfl ?_
    refine PC.pr (k := 1) (pc' := 19) (lv' := [(0, .ref a0)]) (st' := [.ref a0]) rfl ?_
    refine PC.gR (ci := 1) (j := 1) rfl rfl (by decide) ?_
    refine (PC.callV (j := 19) (args := [.ref (rf a0 1)]) (rest := []) (M := cM19) rfl rfl rfl rfl rfl rfl (by decide) rfl rfl ?_).weak
    refine PC.imp h (fun _ κ1 h => ?_)
    refine PC.pr (k := 1) (pc' := 26) (lv' := [(0, .ref a0)]) (st' := [.int 0]) rfl ?_
    refine PC.pr (k := 1) (pc' := 27) (lv' := [(1, .int 0), (0, .ref a0)]) (st' := []) rfl ?_
    exact PC.lv (lvE.cons rfl (lvE.cons rfl (lvE.nil))) h
  · have h := h.2 (cmp_eq.2.mp c)
    refine PC.pr (k := 1) (pc' := 8) (lv' := [(0, .ref a0)]) (st' := [.ref a0]) rfl ?_
    refine PC.pr (k := 1) (pc' := 9) (lv' := [(0, .ref a0)]) (st' := [.int 4, .ref a0]) rfl ?_
    refine (PC.callV (j := 24) (args := [.ref a0, .int 4]) (rest := []) (M := cM24) rfl rfl rfl rfl rfl rfl (by decide) rfl rfl ?_).weak
    refine PC.imp h (fun _ κ2 h => ?_)
    exact PC.retV rfl h
theorem t_40_27 {xl : List Int32} {n : Nat} {ι : IS} {Q : Option Value → IS → Prop} {a0 : Nat} {x1 : Int32} (h : ((8 < x1 → PC xl n 36 0 [(0, .ref a0)] [] ι (fun _ κ1 => Q none κ1)) ∧ (¬ 8 < x1 → ((¬ (ι (rf a0 1) 2) = 2 → PC xl n 36 0 [(0, .ref a0)] [] ι (fun _ κ2 => Q none κ2)) ∧ ((ι (rf a0 1) 2) = 2 → PC xl n 41 0 [(0, .int (ι (rf a0 1) 5))] [] ι (fun v3 κ3 => ∀ r3, v3 = some (.int r3) → ((¬ r3 = 0 → PC xl n 43 0 [(0, .ref (rf a0 0)), (1, .int (κ3 (rf a0 1) 5))] [] κ3 (fun v4 κ4 => ∀ r4, v4 = some (.int r4) → ((¬ r4 = 0 → PC xl n 19 0 [(0, .ref (rf a0 1))] [] κ4 (fun _ κ5 => PC xl n 40 27 [(0, .ref a0), (1, .int (x1 + 1))] [] κ5 Q)) ∧ (r4 = 0 → PC xl n 24 0 [(0, .ref a0), (1, .int 5)] [] κ4 (fun _ κ6 => Q none κ6))))) ∧ (r3 = 0 → PC xl n 24 0 [(0, .ref a0), (1, .int 3)] [] κ3 (fun _ κ7 => Q none κ7))))))))) : PC xl (n + 1) 40 27 [(0, .ref a0), (1, .int x1)] [] ι Q := by
  refine PC.pr1 (k := 0) (pc' := 28) (lv' := [(0, .ref a0), (1, .int x1)]) (st' := [.int x1]) rfl ?_
  refine PC.pr (k := 1) (pc' := 30) (lv' := [(0, .ref a0), (1, .int x1)]) (st' := [.int 8, .int x1]) rfl ?_
  refine PC.if2 (t := 99) rfl rfl (fun c => ?_) (fun c => ?_)
  · have h := h.1 (cmp_gt.1.mp c)
    refine PC.pr (k := 1) (pc' := 100) (lv' := [(0, .ref a0), (1, .int x1)]) (st' := [.ref a0]) rfl ?_
    refine (PC.callV (j := 36) (args := [.ref a0]) (rest := []) (M := cM36) rfl rfl rfl rfl rfl rfl (by decide) rfl rfl ?_).weak
    refine PC.imp h (fun _ κ1 h => ?_)
    exact PC.retV rfl h
  · have h := h.2 (cmp_gt.2.mp c)
    refine PC.pr (k := 1) (pc' := 34) (lv' := [(0, .ref a0), (1, .int x1)]) (st' := [.ref a0]) rfl ?_
    refine PC.gR (ci := 1) (j := 1) rfl rfl (by decide) ?_
    refine PC.gI (ci := 6) (j := 2) rfl rfl (by decide) ?_
    refine PC.pr (k := 1) (pc' := 41) (lv' := [(0, .ref a0), (1, .int x1)]) (st' := [.int 2, .int (ι (rf a0 1) 2)]) rfl ?_
    refine PC.if2 (t := 99) rfl rfl (fun c => ?_) (fun c => ?_)
    · have h := h.1 (cmp_ne.1.mp c)
      refine PC.pr (k := 1) (pc' := 100) (lv' := [(0, .ref a0), (1, .int x1)]) (st' := [.ref a0]) rfl ?_
      refine (PC.callV (j := 36) (args := [.ref a0]) (rest := []) (M := cM36) rfl rfl rfl rfl rfl rfl (by decide) rfl rfl ?_).weak
      refine PC.imp h (fun _ κ2 h => ?_)
      exact PC.retV rfl h
    · have h := h.2 (cmp_ne.2.mp c)
      refine PC.pr (k := 1) (pc' := 45) (lv' := [(0, .ref a0), (1, .int x1)]) (st' := [.ref a0]) rfl ?_
      refine PC.gR (ci := 1) (j := 1) rfl rfl (by decide) ?_
      refine PC.gI (ci := 6) (j := 5) rfl rfl (by decide) ?_
      refine (PC.callI (j := 41) (args := [.int (ι (rf a0 1) 5)]) (rest := []) (M := cM41) (ty := .boolean) rfl rfl rfl rfl rfl rfl (by decide) rfl rfl (by decide) ?_).weak
      refine PC.imp h (fun v3 κ3 h r3 hv => ?_)
      have h := h r3 hv
      refine PC.if1 (t := 63) rfl rfl (fun c => ?_) (fun c => ?_)
      · have h := h.1 (cmp_ne.1.mp c)
        refine PC.pr (k := 1) (pc' := 64) (lv' := [(0, .ref a0), (1, .int x1)]) (st' := [.ref a0]) rfl ?_
        refine PC.gR (ci := 1) (j := 0) rfl rfl (by decide) ?_
        refine PC.pr (k := 1) (pc' := 68) (lv' := [(0, .ref a0), (1, .int x1)]) (st' := [.ref a0, .ref (rf a0 0)]) rfl ?_
        refine PC.gR (ci := 1) (j := 1) rfl rfl (by decide) ?_
        refine PC.gI (ci := 6) (j := 5) rfl rfl (by decide) ?_
        refine (PC.callI (j := 43) (args := [.ref (rf a0 0), .int (κ3 (rf a0 1) 5)]) (rest := []) (M := cM43) (ty := .boolean) rfl rfl rfl rfl rfl rfl (by decide) rfl rfl (by decide) ?_).weak
        refine PC.imp h (fun v4 κ4 h r4 hv => ?_)
        have h := h r4 hv
        refine PC.if1 (t := 86) rfl rfl (fun c => ?_) (fun c => ?_)
        · have h := h.1 (cmp_ne.1.mp c)
          refine PC.pr (k := 1) (pc' := 87) (lv' := [(0, .ref a0), (1, .int x1)]) (st' := [.ref a0]) rfl ?_
          refine PC.gR (ci := 1) (j := 1) rfl rfl (by decide) ?_
          refine (PC.callV (j := 19) (args := [.ref (rf a0 1)]) (rest := []) (M := cM19) rfl rfl rfl rfl rfl rfl (by decide) rfl rfl ?_).weak
          refine PC.imp h (fun _ κ5 h => ?_)
          refine PC.pr (k := 1) (pc' := 96) (lv' := [(1, .int (x1 + 1)), (0, .ref a0)]) (st' := []) rfl ?_
          refine PC.pr (k := 1) (pc' := 27) (lv' := [(1, .int (x1 + 1)), (0, .ref a0)]) (st' := []) rfl ?_
          exact PC.lv (lvE.cons rfl (lvE.cons rfl (lvE.nil))) h
        · have h := h.2 (cmp_ne.2.mp c)
          refine PC.pr (k := 1) (pc' := 81) (lv' := [(0, .ref a0), (1, .int x1)]) (st' := [.ref a0]) rfl ?_
          refine PC.pr (k := 1) (pc' := 82) (lv' := [(0, .ref a0), (1, .int x1)]) (st' := [.int 5, .ref a0]) rfl ?_
          refine (PC.callV (j := 24) (args := [.ref a0, .int 5]) (rest := []) (M := cM24) rfl rfl rfl rfl rfl rfl (by decide) rfl rfl ?_).weak
          refine PC.imp h (fun _ κ6 h => ?_)
          exact PC.retV rfl h
      · have h := h.2 (cmp_ne.2.mp c)
        refine PC.pr (k := 1) (pc' := 58) (lv' := [(0, .ref a0), (1, .int x1)]) (st' := [.ref a0]) rfl ?_
        refine PC.pr (k := 1) (pc' := 59) (lv' := [(0, .ref a0), (1, .int x1)]) (st' := [.int 3, .ref a0]) rfl ?_
        refine (PC.callV (j := 24) (args := [.ref a0, .int 3]) (rest := []) (M := cM24) rfl rfl rfl rfl rfl rfl (by decide) rfl rfl ?_).weak
        refine PC.imp h (fun _ κ7 h => ?_)
        exact PC.retV rfl h

/-- DoorPaints.isAct(I)Z -/
theorem t_41_0 {xl : List Int32} {n : Nat} {ι : IS} {Q : Option Value → IS → Prop} {x0 : Int32} (h : ((x0 < 0 → PC xl n 41 24 [(0, .int x0)] [] ι Q) ∧ (¬ x0 < 0 → ((¬ (x0 / 10) < 4 → PC xl n 41 24 [(0, .int x0)] [] ι Q) ∧ ((x0 / 10) < 4 → ((¬ (x0 - x0 / 10 * 10) < 4 → PC xl n 41 24 [(0, .int x0)] [] ι Q) ∧ ((x0 - x0 / 10 * 10) < 4 → ((¬ (1 : Int32) = 0 → Q (some (.int 1)) ι) ∧ ((1 : Int32) = 0 → PC xl n 42 0 [(0, .int x0)] [] ι (fun v1 κ1 => ∀ r1, v1 = some (.int r1) → ((r1 = 0 → Q (some (.int 0)) κ1) ∧ (¬ r1 = 0 → Q (some (.int 1)) κ1)))))))))))) : PC xl (n + 1) 41 0 [(0, .int x0)] [] ι Q := by
  refine PC.pr1 (k := 0) (pc' := 1) (lv' := [(0, .int x0)]) (st' := [.int x0]) rfl ?_
  refine PC.if1 (t := 24) rfl rfl (fun c => ?_) (fun c => ?_)
  · have h := h.1 (cmp_lt.1.mp c)
    exact h
  · have h := h.2 (cmp_lt.2.mp c)
    refine PC.pr (k := 1) (pc' := 5) (lv' := [(0, .int x0)]) (st' := [.int x0]) rfl ?_
    refine PC.pr (k := 1) (pc' := 7) (lv' := [(0, .int x0)]) (st' := [.int 10, .int x0]) rfl ?_
    refine PC.pr (k := 1) (pc' := 8) (lv' := [(0, .int x0)]) (st' := [.int (x0 / 10)]) rfl ?_
    refine PC.pr (k := 1) (pc' := 9) (lv' := [(0, .int x0)]) (st' := [.int 4, .int (x0 / 10)]) rfl ?_
    refine PC.if2 (t := 24) rfl rfl (fun c => ?_) (fun c => ?_)
    · have h := h.1 (cmp_ge.1.mp c)
      exact h
    · have h := h.2 (cmp_ge.2.mp c)
      refine PC.pr (k := 1) (pc' := 13) (lv' := [(0, .int x0)]) (st' := [.int x0]) rfl ?_
      refine PC.pr (k := 1) (pc' := 15) (lv' := [(0, .int x0)]) (st' := [.int 10, .int x0]) rfl ?_
      refine PC.pr (k := 1) (pc' := 16) (lv' := [(0, .int x0)]) (st' := [.int (x0 - x0 / 10 * 10)]) rfl ?_
      refine PC.pr (k := 1) (pc' := 17) (lv' := [(0, .int x0)]) (st' := [.int 4, .int (x0 - x0 / 10 * 10)]) rfl ?_
      refine PC.if2 (t := 24) rfl rfl (fun c => ?_) (fun c => ?_)
      · have h := h.1 (cmp_ge.1.mp c)
        exact h
      · have h := h.2 (cmp_ge.2.mp c)
        refine PC.pr (k := 1) (pc' := 21) (lv' := [(0, .int x0)]) (st' := [.int 1]) rfl ?_
        refine PC.pr (k := 1) (pc' := 25) (lv' := [(0, .int x0)]) (st' := [.int 1]) rfl ?_
        refine PC.pr (k := 1) (pc' := 26) (lv' := [(1, .int 1), (0, .int x0)]) (st' := []) rfl ?_
        refine PC.pr (k := 1) (pc' := 27) (lv' := [(1, .int 1), (0, .int x0)]) (st' := [.int 1]) rfl ?_
        refine PC.if1 (t := 37) rfl rfl (fun c => ?_) (fun c => ?_)
        · have h := h.1 (cmp_ne.1.mp c)
          refine PC.pr (k := 1) (pc' := 38) (lv' := [(1, .int 1), (0, .int x0)]) (st' := [.int 1]) rfl ?_
          refine PC.pr (k := 1) (pc' := 42) (lv' := [(1, .int 1), (0, .int x0)]) (st' := [.int 1]) rfl ?_
          exact PC.retI rfl h
        · have h := h.2 (cmp_ne.2.mp c)
          refine PC.pr (k := 1) (pc' := 31) (lv' := [(1, .int 1), (0, .int x0)]) (st' := [.int x0]) rfl ?_
          refine (PC.callI (j := 42) (args := [.int x0]) (rest := []) (M := cM42) (ty := .boolean) rfl rfl rfl rfl rfl rfl (by decide) rfl rfl (by decide) ?_).weak
          refine PC.imp h (fun v1 κ1 h r1 hv => ?_)
          have h := h r1 hv
          refine PC.if1 (t := 41) rfl rfl (fun c => ?_) (fun c => ?_)
          · have h := h.1 (cmp_eq.1.mp c)
            refine PC.pr (k := 1) (pc' := 42) (lv' := [(1, .int 1), (0, .int x0)]) (st' := [.int 0]) rfl ?_
            exact PC.retI rfl h
          · have h := h.2 (cmp_eq.2.mp c)
            refine PC.pr (k := 1) (pc' := 38) (lv' := [(1, .int 1), (0, .int x0)]) (st' := [.int 1]) rfl ?_
            refine PC.pr (k := 1) (pc' := 42) (lv' := [(1, .int 1), (0, .int x0)]) (st' := [.int 1]) rfl ?_
            exact PC.retI rfl h
theorem t_41_24 {xl : List Int32} {n : Nat} {ι : IS} {Q : Option Value → IS → Prop} {x0 : Int32} (h : ((¬ (0 : Int32) = 0 → Q (some (.int 1)) ι) ∧ ((0 : Int32) = 0 → PC xl n 42 0 [(0, .int x0)] [] ι (fun v1 κ1 => ∀ r1, v1 = some (.int r1) → ((r1 = 0 → Q (some (.int 0)) κ1) ∧ (¬ r1 = 0 → Q (some (.int 1)) κ1)))))) : PC xl (n + 1) 41 24 [(0, .int x0)] [] ι Q := by
  refine PC.pr1 (k := 0) (pc' := 25) (lv' := [(0, .int x0)]) (st' := [.int 0]) rfl ?_
  refine PC.pr (k := 1) (pc' := 26) (lv' := [(1, .int 0), (0, .int x0)]) (st' := []) rfl ?_
  refine PC.pr (k := 1) (pc' := 27) (lv' := [(1, .int 0), (0, .int x0)]) (st' := [.int 0]) rfl ?_
  refine PC.if1 (t := 37) rfl rfl (fun c => ?_) (fun c => ?_)
  · have h := h.1 (cmp_ne.1.mp c)
    refine PC.pr (k := 1) (pc' := 38) (lv' := [(1, .int 0), (0, .int x0)]) (st' := [.int 1]) rfl ?_
    refine PC.pr (k := 1) (pc' := 42) (lv' := [(1, .int 0), (0, .int x0)]) (st' := [.int 1]) rfl ?_
    exact PC.retI rfl h
  · have h := h.2 (cmp_ne.2.mp c)
    refine PC.pr (k := 1) (pc' := 31) (lv' := [(1, .int 0), (0, .int x0)]) (st' := [.int x0]) rfl ?_
    refine (PC.callI (j := 42) (args := [.int x0]) (rest := []) (M := cM42) (ty := .boolean) rfl rfl rfl rfl rfl rfl (by decide) rfl rfl (by decide) ?_).weak
    refine PC.imp h (fun v1 κ1 h r1 hv => ?_)
    have h := h r1 hv
    refine PC.if1 (t := 41) rfl rfl (fun c => ?_) (fun c => ?_)
    · have h := h.1 (cmp_eq.1.mp c)
      refine PC.pr (k := 1) (pc' := 42) (lv' := [(1, .int 0), (0, .int x0)]) (st' := [.int 0]) rfl ?_
      exact PC.retI rfl h
    · have h := h.2 (cmp_eq.2.mp c)
      refine PC.pr (k := 1) (pc' := 38) (lv' := [(1, .int 0), (0, .int x0)]) (st' := [.int 1]) rfl ?_
      refine PC.pr (k := 1) (pc' := 42) (lv' := [(1, .int 0), (0, .int x0)]) (st' := [.int 1]) rfl ?_
      exact PC.retI rfl h

/-- DoorPaints.isSkyAct(I)Z -/
theorem t_42_0 {xl : List Int32} {n : Nat} {ι : IS} {Q : Option Value → IS → Prop} {x0 : Int32} (h : ((x0 < 90 → Q (some (.int 0)) ι) ∧ (¬ x0 < 90 → ((92 < x0 → Q (some (.int 0)) ι) ∧ (¬ 92 < x0 → Q (some (.int 1)) ι))))) : PC xl (n + 1) 42 0 [(0, .int x0)] [] ι Q := by
  refine PC.pr1 (k := 0) (pc' := 1) (lv' := [(0, .int x0)]) (st' := [.int x0]) rfl ?_
  refine PC.pr (k := 1) (pc' := 3) (lv' := [(0, .int x0)]) (st' := [.int 90, .int x0]) rfl ?_
  refine PC.if2 (t := 16) rfl rfl (fun c => ?_) (fun c => ?_)
  · have h := h.1 (cmp_lt.1.mp c)
    refine PC.pr (k := 1) (pc' := 17) (lv' := [(0, .int x0)]) (st' := [.int 0]) rfl ?_
    exact PC.retI rfl h
  · have h := h.2 (cmp_lt.2.mp c)
    refine PC.pr (k := 1) (pc' := 7) (lv' := [(0, .int x0)]) (st' := [.int x0]) rfl ?_
    refine PC.pr (k := 1) (pc' := 9) (lv' := [(0, .int x0)]) (st' := [.int 92, .int x0]) rfl ?_
    refine PC.if2 (t := 16) rfl rfl (fun c => ?_) (fun c => ?_)
    · have h := h.1 (cmp_gt.1.mp c)
      refine PC.pr (k := 1) (pc' := 17) (lv' := [(0, .int x0)]) (st' := [.int 0]) rfl ?_
      exact PC.retI rfl h
    · have h := h.2 (cmp_gt.2.mp c)
      refine PC.pr (k := 1) (pc' := 13) (lv' := [(0, .int x0)]) (st' := [.int 1]) rfl ?_
      refine PC.pr (k := 1) (pc' := 17) (lv' := [(0, .int x0)]) (st' := [.int 1]) rfl ?_
      exact PC.retI rfl h

/-- DoorPaints$Told.addAct(I)Z -/
theorem t_43_0 {xl : List Int32} {n : Nat} {ι : IS} {Q : Option Value → IS → Prop} {a0 : Nat} {x1 : Int32} (h : (((ι a0 2) < 8 → (0 ≤ (ι a0 2).toInt → (ι a0 2).toInt < ln (rf a0 1) → Q (some (.int 1)) (up (up ι (rf a0 1) (ι a0 2).toNatClampNeg x1) a0 2 (((up ι (rf a0 1) (ι a0 2).toNatClampNeg x1) a0 2) + 1)))) ∧ (¬ (ι a0 2) < 8 → Q (some (.int 0)) ι))) : PC xl (n + 1) 43 0 [(0, .ref a0), (1, .int x1)] [] ι Q := by
  refine PC.pr1 (k := 0) (pc' := 1) (lv' := [(0, .ref a0), (1, .int x1)]) (st' := [.ref a0]) rfl ?_
  refine PC.gI (ci := 2) (j := 2) rfl rfl (by decide) ?_
  refine PC.pr (k := 1) (pc' := 6) (lv' := [(0, .ref a0), (1, .int x1)]) (st' := [.int 8, .int (ι a0 2)]) rfl ?_
  refine PC.if2 (t := 11) rfl rfl (fun c => ?_) (fun c => ?_)
  · have h := h.1 (cmp_lt.1.mp c)
    refine PC.pr (k := 1) (pc' := 12) (lv' := [(0, .ref a0), (1, .int x1)]) (st' := [.ref a0]) rfl ?_
    refine PC.gR (ci := 2) (j := 1) rfl rfl (by decide) ?_
    refine PC.pr (k := 1) (pc' := 16) (lv' := [(0, .ref a0), (1, .int x1)]) (st' := [.ref a0, .ref (rf a0 1)]) rfl ?_
    refine PC.gI (ci := 2) (j := 2) rfl rfl (by decide) ?_
    refine PC.pr (k := 1) (pc' := 20) (lv' := [(0, .ref a0), (1, .int x1)]) (st' := [.int x1, .int (ι a0 2), .ref (rf a0 1)]) rfl ?_
    refine PC.wI rfl (fun c1 c2 => ?_)
    have h := h c1 c2
    refine PC.pr (k := 1) (pc' := 22) (lv' := [(0, .ref a0), (1, .int x1)]) (st' := [.ref a0]) rfl ?_
    refine PC.pr (k := 1) (pc' := 23) (lv' := [(0, .ref a0), (1, .int x1)]) (st' := [.ref a0, .ref a0]) rfl ?_
    refine PC.gI (ci := 2) (j := 2) rfl rfl (by decide) ?_
    refine PC.pr (k := 1) (pc' := 27) (lv' := [(0, .ref a0), (1, .int x1)]) (st' := [.int 1, .int ((up ι (rf a0 1) (ι a0 2).toNatClampNeg x1) a0 2), .ref a0]) rfl ?_
    refine PC.pr (k := 1) (pc' := 28) (lv' := [(0, .ref a0), (1, .int x1)]) (st' := [.int (((up ι (rf a0 1) (ι a0 2).toNatClampNeg x1) a0 2) + 1), .ref a0]) rfl ?_
    refine PC.pI (ci := 2) (j := 2) rfl rfl ?_
    refine PC.pr (k := 1) (pc' := 32) (lv' := [(0, .ref a0), (1, .int x1)]) (st' := [.int 1]) rfl ?_
    exact PC.retI rfl h
  · have h := h.2 (cmp_lt.2.mp c)
    refine PC.pr (k := 1) (pc' := 10) (lv' := [(0, .ref a0), (1, .int x1)]) (st' := [.int 0]) rfl ?_
    exact PC.retI rfl h

/-- DoorPaints$Reader.kindNamed()I -/
theorem t_44_0 {xl : List Int32} {n : Nat} {ι : IS} {Q : Option Value → IS → Prop} {a0 : Nat} (h : PC xl n 25 0 [(0, .ref (rf a0 1)), (1, .ref (KB + 7))] [] ι (fun v1 κ1 => ∀ r1, v1 = some (.int r1) → ((r1 = 0 → PC xl n 25 0 [(0, .ref (rf a0 1)), (1, .ref (KB + 9))] [] κ1 (fun v2 κ2 => ∀ r2, v2 = some (.int r2) → ((r2 = 0 → PC xl n 25 0 [(0, .ref (rf a0 1)), (1, .ref (KB + 11))] [] κ2 (fun v3 κ3 => ∀ r3, v3 = some (.int r3) → ((r3 = 0 → PC xl n 25 0 [(0, .ref (rf a0 1)), (1, .ref (KB + 13))] [] κ3 (fun v4 κ4 => ∀ r4, v4 = some (.int r4) → ((r4 = 0 → Q (some (.int (-4))) κ4) ∧ (¬ r4 = 0 → Q (some (.int 3)) κ4)))) ∧ (¬ r3 = 0 → Q (some (.int 2)) κ3)))) ∧ (¬ r2 = 0 → Q (some (.int 1)) κ2)))) ∧ (¬ r1 = 0 → Q (some (.int 0)) κ1)))) : PC xl (n + 1) 44 0 [(0, .ref a0)] [] ι Q := by
  refine PC.pr1 (k := 0) (pc' := 1) (lv' := [(0, .ref a0)]) (st' := [.ref a0]) rfl ?_
  refine PC.gR (ci := 1) (j := 1) rfl rfl (by decide) ?_
  refine PC.pr (k := 1) (pc' := 6) (lv' := [(0, .ref a0)]) (st' := [.ref (KB + 7), .ref (rf a0 1)]) rfl ?_
  refine (PC.callI (j := 25) (args := [.ref (rf a0 1), .ref (KB + 7)]) (rest := []) (M := cM25) (ty := .boolean) rfl rfl rfl rfl rfl rfl (by decide) rfl rfl (by decide) ?_).weak
  refine PC.imp h (fun v1 κ1 h r1 hv => ?_)
  have h := h r1 hv
  refine PC.if1 (t := 14) rfl rfl (fun c => ?_) (fun c => ?_)
  · have h := h.1 (cmp_eq.1.mp c)
    refine PC.pr (k := 1) (pc' := 15) (lv' := [(0, .ref a0)]) (st' := [.ref a0]) rfl ?_
    refine PC.gR (ci := 1) (j := 1) rfl rfl (by decide) ?_
    refine PC.pr (k := 1) (pc' := 20) (lv' := [(0, .ref a0)]) (st' := [.ref (KB + 9), .ref (rf a0 1)]) rfl ?_
    refine (PC.callI (j := 25) (args := [.ref (rf a0 1), .ref (KB + 9)]) (rest := []) (M := cM25) (ty := .boolean) rfl rfl rfl rfl rfl rfl (by decide) rfl rfl (by decide) ?_).weak
    refine PC.imp h (fun v2 κ2 h r2 hv => ?_)
    have h := h r2 hv
    refine PC.if1 (t := 28) rfl rfl (fun c => ?_) (fun c => ?_)
    · have h := h.1 (cmp_eq.1.mp c)
      refine PC.pr (k := 1) (pc' := 29) (lv' := [(0, .ref a0)]) (st' := [.ref a0]) rfl ?_
      refine PC.gR (ci := 1) (j := 1) rfl rfl (by decide) ?_
      refine PC.pr (k := 1) (pc' := 34) (lv' := [(0, .ref a0)]) (st' := [.ref (KB + 11), .ref (rf a0 1)]) rfl ?_
      refine (PC.callI (j := 25) (args := [.ref (rf a0 1), .ref (KB + 11)]) (rest := []) (M := cM25) (ty := .boolean) rfl rfl rfl rfl rfl rfl (by decide) rfl rfl (by decide) ?_).weak
      refine PC.imp h (fun v3 κ3 h r3 hv => ?_)
      have h := h r3 hv
      refine PC.if1 (t := 42) rfl rfl (fun c => ?_) (fun c => ?_)
      · have h := h.1 (cmp_eq.1.mp c)
        refine PC.pr (k := 1) (pc' := 43) (lv' := [(0, .ref a0)]) (st' := [.ref a0]) rfl ?_
        refine PC.gR (ci := 1) (j := 1) rfl rfl (by decide) ?_
        refine PC.pr (k := 1) (pc' := 48) (lv' := [(0, .ref a0)]) (st' := [.ref (KB + 13), .ref (rf a0 1)]) rfl ?_
        refine (PC.callI (j := 25) (args := [.ref (rf a0 1), .ref (KB + 13)]) (rest := []) (M := cM25) (ty := .boolean) rfl rfl rfl rfl rfl rfl (by decide) rfl rfl (by decide) ?_).weak
        refine PC.imp h (fun v4 κ4 h r4 hv => ?_)
        have h := h r4 hv
        refine PC.if1 (t := 58) rfl rfl (fun c => ?_) (fun c => ?_)
        · have h := h.1 (cmp_eq.1.mp c)
          refine PC.pr (k := 1) (pc' := 60) (lv' := [(0, .ref a0)]) (st' := [.int (-4)]) rfl ?_
          exact PC.retI rfl h
        · have h := h.2 (cmp_eq.2.mp c)
          refine PC.pr (k := 1) (pc' := 55) (lv' := [(0, .ref a0)]) (st' := [.int 3]) rfl ?_
          refine PC.pr (k := 1) (pc' := 60) (lv' := [(0, .ref a0)]) (st' := [.int 3]) rfl ?_
          exact PC.retI rfl h
      · have h := h.2 (cmp_eq.2.mp c)
        refine PC.pr (k := 1) (pc' := 41) (lv' := [(0, .ref a0)]) (st' := [.int 2]) rfl ?_
        exact PC.retI rfl h
    · have h := h.2 (cmp_eq.2.mp c)
      refine PC.pr (k := 1) (pc' := 27) (lv' := [(0, .ref a0)]) (st' := [.int 1]) rfl ?_
      exact PC.retI rfl h
  · have h := h.2 (cmp_eq.2.mp c)
    refine PC.pr (k := 1) (pc' := 13) (lv' := [(0, .ref a0)]) (st' := [.int 0]) rfl ?_
    exact PC.retI rfl h

/-- DoorPaints$Reader.readVisitor(I)V -/
theorem t_45_0 {xl : List Int32} {n : Nat} {ι : IS} {Q : Option Value → IS → Prop} {a0 : Nat} {x1 : Int32} (h : ((¬ x1 = (-4) → (((ι (rf (rf a0 0) 0) 2) < 4 → PC xl n 19 0 [(0, .ref (rf a0 1))] [] ι (fun _ κ1 => PC xl n 34 0 [(0, .ref a0), (1, .int 5)] [] κ1 (fun v2 κ2 => ∀ r2, v2 = some (.int r2) → ((¬ r2 = 0 → PC xl n 19 0 [(0, .ref (rf a0 1))] [] κ2 (fun _ κ3 => PC xl n 34 0 [(0, .ref a0), (1, .int 99)] [] κ3 (fun v4 κ4 => ∀ r4, v4 = some (.int r4) → ((¬ r4 = 0 → PC xl n 46 0 [(0, .ref (rf (rf a0 0) 0)), (1, .int x1), (2, .int (κ2 (rf a0 1) 5)), (3, .int (κ4 (rf a0 1) 5))] [] κ4 (fun _ κ5 => PC xl n 19 0 [(0, .ref (rf a0 1))] [] κ5 (fun _ κ6 => PC xl n 36 0 [(0, .ref a0)] [] κ6 (fun _ κ7 => Q none κ7)))) ∧ (r4 = 0 → Q none κ4))))) ∧ (r2 = 0 → Q none κ2))))) ∧ (¬ (ι (rf (rf a0 0) 0) 2) < 4 → PC xl n 24 0 [(0, .ref a0), (1, .int 5)] [] ι (fun _ κ8 => Q none κ8)))) ∧ (x1 = (-4) → PC xl n 24 0 [(0, .ref a0), (1, .int 2)] [] ι (fun _ κ9 => Q none κ9)))) : PC xl (n + 1) 45 0 [(0, .ref a0), (1, .int x1)] [] ι Q := by
  refine PC.pr1 (k := 0) (pc' := 1) (lv' := [(0, .ref a0), (1, .int x1)]) (st' := [.int x1]) rfl ?_
  refine PC.pr (k := 1) (pc' := 3) (lv' := [(0, .ref a0), (1, .int x1)]) (st' := [.int (-4), .int x1]) rfl ?_
  refine PC.if2 (t := 12) rfl rfl (fun c => ?_) (fun c => ?_)
  · have h := h.1 (cmp_ne.1.mp c)
    refine PC.pr (k := 1) (pc' := 13) (lv' := [(0, .ref a0), (1, .int x1)]) (st' := [.ref a0]) rfl ?_
    refine PC.gR (ci := 1) (j := 0) rfl rfl (by decide) ?_
    refine PC.gR (ci := 2) (j := 0) rfl rfl (by decide) ?_
    refine PC.gI (ci := 3) (j := 2) rfl rfl (by decide) ?_
    refine PC.pr (k := 1) (pc' := 23) (lv' := [(0, .ref a0), (1, .int x1)]) (st' := [.int 4, .int (ι (rf (rf a0 0) 0) 2)]) rfl ?_
    refine PC.if2 (t := 32) rfl rfl (fun c => ?_) (fun c => ?_)
    · have h := h.1 (cmp_lt.1.mp c)
      refine PC.pr (k := 1) (pc' := 33) (lv' := [(0, .ref a0), (1, .int x1)]) (st' := [.ref a0]) rfl ?_
      refine PC.gR (ci := 1) (j := 1) rfl rfl (by decide) ?_
      refine (PC.callV (j := 19) (args := [.ref (rf a0 1)]) (rest := []) (M := cM19) rfl rfl rfl rfl rfl rfl (by decide) rfl rfl ?_).weak
      refine PC.imp h (fun _ κ1 h => ?_)
      refine PC.pr (k := 1) (pc' := 40) (lv' := [(0, .ref a0), (1, .int x1)]) (st' := [.ref a0]) rfl ?_
      refine PC.pr (k := 1) (pc' := 41) (lv' := [(0, .ref a0), (1, .int x1)]) (st' := [.int 5, .ref a0]) rfl ?_
      refine (PC.callI (j := 34) (args := [.ref a0, .int 5]) (rest := []) (M := cM34) (ty := .boolean) rfl rfl rfl rfl rfl rfl (by decide) rfl rfl (by decide) ?_).weak
      refine PC.imp h (fun v2 κ2 h r2 hv => ?_)
      have h := h r2 hv
      refine PC.if1 (t := 48) rfl rfl (fun c => ?_) (fun c => ?_)
      · have h := h.1 (cmp_ne.1.mp c)
        refine PC.pr (k := 1) (pc' := 49) (lv' := [(0, .ref a0), (1, .int x1)]) (st' := [.ref a0]) rfl ?_
        refine PC.gR (ci := 1) (j := 1) rfl rfl (by decide) ?_
        refine PC.gI (ci := 6) (j := 5) rfl rfl (by decide) ?_
        refine PC.pr (k := 1) (pc' := 56) (lv' := [(2, .int (κ2 (rf a0 1) 5)), (0, .ref a0), (1, .int x1)]) (st' := []) rfl ?_
        refine PC.pr (k := 1) (pc' := 57) (lv' := [(2, .int (κ2 (rf a0 1) 5)), (0, .ref a0), (1, .int x1)]) (st' := [.ref a0]) rfl ?_
        refine PC.gR (ci := 1) (j := 1) rfl rfl (by decide) ?_
        refine (PC.callV (j := 19) (args := [.ref (rf a0 1)]) (rest := []) (M := cM19) rfl rfl rfl rfl rfl rfl (by decide) rfl rfl ?_).weak
        refine PC.imp h (fun _ κ3 h => ?_)
        refine PC.pr (k := 1) (pc' := 64) (lv' := [(2, .int (κ2 (rf a0 1) 5)), (0, .ref a0), (1, .int x1)]) (st' := [.ref a0]) rfl ?_
        refine PC.pr (k := 1) (pc' := 66) (lv' := [(2, .int (κ2 (rf a0 1) 5)), (0, .ref a0), (1, .int x1)]) (st' := [.int 99, .ref a0]) rfl ?_
        refine (PC.callI (j := 34) (args := [.ref a0, .int 99]) (rest := []) (M := cM34) (ty := .boolean) rfl rfl rfl rfl rfl rfl (by decide) rfl rfl (by decide) ?_).weak
        refine PC.imp h (fun v4 κ4 h r4 hv => ?_)
        have h := h r4 hv
        refine PC.if1 (t := 73) rfl rfl (fun c => ?_) (fun c => ?_)
        · have h := h.1 (cmp_ne.1.mp c)
          refine PC.pr (k := 1) (pc' := 74) (lv' := [(2, .int (κ2 (rf a0 1) 5)), (0, .ref a0), (1, .int x1)]) (st' := [.ref a0]) rfl ?_
          refine PC.gR (ci := 1) (j := 0) rfl rfl (by decide) ?_
          refine PC.gR (ci := 2) (j := 0) rfl rfl (by decide) ?_
          refine PC.pr (k := 1) (pc' := 81) (lv' := [(2, .int (κ2 (rf a0 1) 5)), (0, .ref a0), (1, .int x1)]) (st' := [.int x1, .ref (rf (rf a0 0) 0)]) rfl ?_
          refine PC.pr (k := 1) (pc' := 82) (lv' := [(2, .int (κ2 (rf a0 1) 5)), (0, .ref a0), (1, .int x1)]) (st' := [.int (κ2 (rf a0 1) 5), .int x1, .ref (rf (rf a0 0) 0)]) rfl ?_
          refine PC.pr (k := 1) (pc' := 83) (lv' := [(2, .int (κ2 (rf a0 1) 5)), (0, .ref a0), (1, .int x1)]) (st' := [.ref a0, .int (κ2 (rf a0 1) 5), .int x1, .ref (rf (rf a0 0) 0)]) rfl ?_
          refine PC.gR (ci := 1) (j := 1) rfl rfl (by decide) ?_
          refine PC.gI (ci := 6) (j := 5) rfl rfl (by decide) ?_
          refine (PC.callV (j := 46) (args := [.ref (rf (rf a0 0) 0), .int x1, .int (κ2 (rf a0 1) 5), .int (κ4 (rf a0 1) 5)]) (rest := []) (M := cM46) rfl rfl rfl rfl rfl rfl (by decide) rfl rfl ?_).weak
          refine PC.imp h (fun _ κ5 h => ?_)
          refine PC.pr (k := 1) (pc' := 93) (lv' := [(2, .int (κ2 (rf a0 1) 5)), (0, .ref a0), (1, .int x1)]) (st' := [.ref a0]) rfl ?_
          refine PC.gR (ci := 1) (j := 1) rfl rfl (by decide) ?_
          refine (PC.callV (j := 19) (args := [.ref (rf a0 1)]) (rest := []) (M := cM19) rfl rfl rfl rfl rfl rfl (by decide) rfl rfl ?_).weak
          refine PC.imp h (fun _ κ6 h => ?_)
          refine PC.pr (k := 1) (pc' := 100) (lv' := [(2, .int (κ2 (rf a0 1) 5)), (0, .ref a0), (1, .int x1)]) (st' := [.ref a0]) rfl ?_
          refine (PC.callV (j := 36) (args := [.ref a0]) (rest := []) (M := cM36) rfl rfl rfl rfl rfl rfl (by decide) rfl rfl ?_).weak
          refine PC.imp h (fun _ κ7 h => ?_)
          exact PC.retV rfl h
        · have h := h.2 (cmp_ne.2.mp c)
          exact PC.retV rfl h
      · have h := h.2 (cmp_ne.2.mp c)
        exact PC.retV rfl h
    · have h := h.2 (cmp_lt.2.mp c)
      refine PC.pr (k := 1) (pc' := 27) (lv' := [(0, .ref a0), (1, .int x1)]) (st' := [.ref a0]) rfl ?_
      refine PC.pr (k := 1) (pc' := 28) (lv' := [(0, .ref a0), (1, .int x1)]) (st' := [.int 5, .ref a0]) rfl ?_
      refine (PC.callV (j := 24) (args := [.ref a0, .int 5]) (rest := []) (M := cM24) rfl rfl rfl rfl rfl rfl (by decide) rfl rfl ?_).weak
      refine PC.imp h (fun _ κ8 h => ?_)
      exact PC.retV rfl h
  · have h := h.2 (cmp_ne.2.mp c)
    refine PC.pr (k := 1) (pc' := 7) (lv' := [(0, .ref a0), (1, .int x1)]) (st' := [.ref a0]) rfl ?_
    refine PC.pr (k := 1) (pc' := 8) (lv' := [(0, .ref a0), (1, .int x1)]) (st' := [.int 2, .ref a0]) rfl ?_
    refine (PC.callV (j := 24) (args := [.ref a0, .int 2]) (rest := []) (M := cM24) rfl rfl rfl rfl rfl rfl (by decide) rfl rfl ?_).weak
    refine PC.imp h (fun _ κ9 h => ?_)
    exact PC.retV rfl h

/-- DoorPaints$Town.addVisitor(III)V -/
theorem t_46_0 {xl : List Int32} {n : Nat} {ι : IS} {Q : Option Value → IS → Prop} {a0 : Nat} {x1 : Int32} {x2 : Int32} {x3 : Int32} (h : ((¬ (ι a0 2) < 4 → Q none ι) ∧ ((ι a0 2) < 4 → (0 ≤ (ι a0 2).toInt → (ι a0 2).toInt < lr (rf a0 0) → PC xl n 46 43 [(0, .ref a0), (1, .int x1), (2, .int x2), (3, .int x3), (4, .ref (re (rf a0 0) (ι a0 2).toNatClampNeg))] [] (up (up (up (up ι (re (rf a0 0) (ι a0 2).toNatClampNeg) 0 x1) (re (rf a0 0) (ι a0 2).toNatClampNeg) 1 x2) (re (rf a0 0) (ι a0 2).toNatClampNeg) 2 x3) (re (rf a0 0) (ι a0 2).toNatClampNeg) 3 0) Q)))) : PC xl (n + 1) 46 0 [(0, .ref a0), (1, .int x1), (2, .int x2), (3, .int x3)] [] ι Q := by
  refine PC.pr1 (k := 0) (pc' := 1) (lv' := [(0, .ref a0), (1, .int x1), (2, .int x2), (3, .int x3)]) (st' := [.ref a0]) rfl ?_
  refine PC.gI (ci := 3) (j := 2) rfl rfl (by decide) ?_
  refine PC.pr (k := 1) (pc' := 5) (lv' := [(0, .ref a0), (1, .int x1), (2, .int x2), (3, .int x3)]) (st' := [.int 4, .int (ι a0 2)]) rfl ?_
  refine PC.if2 (t := 53) rfl rfl (fun c => ?_) (fun c => ?_)
  · have h := h.1 (cmp_ge.1.mp c)
    exact PC.retV rfl h
  · have h := h.2 (cmp_ge.2.mp c)
    refine PC.pr (k := 1) (pc' := 9) (lv' := [(0, .ref a0), (1, .int x1), (2, .int x2), (3, .int x3)]) (st' := [.ref a0]) rfl ?_
    refine PC.gR (ci := 3) (j := 0) rfl rfl (by decide) ?_
    refine PC.pr (k := 1) (pc' := 13) (lv' := [(0, .ref a0), (1, .int x1), (2, .int x2), (3, .int x3)]) (st' := [.ref a0, .ref (rf a0 0)]) rfl ?_
    refine PC.gI (ci := 3) (j := 2) rfl rfl (by decide) ?_
    refine PC.ra rfl (fun c1 c2 => ?_)
    have h := h c1 c2
    refine PC.pr (k := 1) (pc' := 19) (lv' := [(4, .ref (re (rf a0 0) (ι a0 2).toNatClampNeg)), (0, .ref a0), (1, .int x1), (2, .int x2), (3, .int x3)]) (st' := []) rfl ?_
    refine PC.pr (k := 1) (pc' := 21) (lv' := [(4, .ref (re (rf a0 0) (ι a0 2).toNatClampNeg)), (0, .ref a0), (1, .int x1), (2, .int x2), (3, .int x3)]) (st' := [.ref (re (rf a0 0) (ι a0 2).toNatClampNeg)]) rfl ?_
    refine PC.pr (k := 1) (pc' := 22) (lv' := [(4, .ref (re (rf a0 0) (ι a0 2).toNatClampNeg)), (0, .ref a0), (1, .int x1), (2, .int x2), (3, .int x3)]) (st' := [.int x1, .ref (re (rf a0 0) (ι a0 2).toNatClampNeg)]) rfl ?_
    refine PC.pI (ci := 4) (j := 0) rfl rfl ?_
    refine PC.pr (k := 1) (pc' := 27) (lv' := [(4, .ref (re (rf a0 0) (ι a0 2).toNatClampNeg)), (0, .ref a0), (1, .int x1), (2, .int x2), (3, .int x3)]) (st' := [.ref (re (rf a0 0) (ι a0 2).toNatClampNeg)]) rfl ?_
    refine PC.pr (k := 1) (pc' := 28) (lv' := [(4, .ref (re (rf a0 0) (ι a0 2).toNatClampNeg)), (0, .ref a0), (1, .int x1), (2, .int x2), (3, .int x3)]) (st' := [.int x2, .ref (re (rf a0 0) (ι a0 2).toNatClampNeg)]) rfl ?_
    refine PC.pI (ci := 4) (j := 1) rfl rfl ?_
    refine PC.pr (k := 1) (pc' := 33) (lv' := [(4, .ref (re (rf a0 0) (ι a0 2).toNatClampNeg)), (0, .ref a0), (1, .int x1), (2, .int x2), (3, .int x3)]) (st' := [.ref (re (rf a0 0) (ι a0 2).toNatClampNeg)]) rfl ?_
    refine PC.pr (k := 1) (pc' := 34) (lv' := [(4, .ref (re (rf a0 0) (ι a0 2).toNatClampNeg)), (0, .ref a0), (1, .int x1), (2, .int x2), (3, .int x3)]) (st' := [.int x3, .ref (re (rf a0 0) (ι a0 2).toNatClampNeg)]) rfl ?_
    refine PC.pI (ci := 4) (j := 2) rfl rfl ?_
    refine PC.pr (k := 1) (pc' := 39) (lv' := [(4, .ref (re (rf a0 0) (ι a0 2).toNatClampNeg)), (0, .ref a0), (1, .int x1), (2, .int x2), (3, .int x3)]) (st' := [.ref (re (rf a0 0) (ι a0 2).toNatClampNeg)]) rfl ?_
    refine PC.pr (k := 1) (pc' := 40) (lv' := [(4, .ref (re (rf a0 0) (ι a0 2).toNatClampNeg)), (0, .ref a0), (1, .int x1), (2, .int x2), (3, .int x3)]) (st' := [.int 0, .ref (re (rf a0 0) (ι a0 2).toNatClampNeg)]) rfl ?_
    refine PC.pI (ci := 4) (j := 3) rfl rfl ?_
    exact PC.lv (lvE.cons rfl (lvE.cons rfl (lvE.cons rfl (lvE.cons rfl (lvE.cons rfl (lvE.nil)))))) h
theorem t_46_43 {xl : List Int32} {n : Nat} {ι : IS} {Q : Option Value → IS → Prop} {a0 : Nat} {w1 : Value} {w2 : Value} {w3 : Value} {w4 : Value} (h : Q none (up ι a0 2 ((ι a0 2) + 1))) : PC xl (n + 1) 46 43 [(0, .ref a0), (1, w1), (2, w2), (3, w3), (4, w4)] [] ι Q := by
  refine PC.pr1 (k := 0) (pc' := 44) (lv' := [(0, .ref a0), (1, w1), (2, w2), (3, w3), (4, w4)]) (st' := [.ref a0]) rfl ?_
  refine PC.pr (k := 1) (pc' := 45) (lv' := [(0, .ref a0), (1, w1), (2, w2), (3, w3), (4, w4)]) (st' := [.ref a0, .ref a0]) rfl ?_
  refine PC.gI (ci := 3) (j := 2) rfl rfl (by decide) ?_
  refine PC.pr (k := 1) (pc' := 49) (lv' := [(0, .ref a0), (1, w1), (2, w2), (3, w3), (4, w4)]) (st' := [.int 1, .int (ι a0 2), .ref a0]) rfl ?_
  refine PC.pr (k := 1) (pc' := 50) (lv' := [(0, .ref a0), (1, w1), (2, w2), (3, w3), (4, w4)]) (st' := [.int ((ι a0 2) + 1), .ref a0]) rfl ?_
  refine PC.pI (ci := 3) (j := 2) rfl rfl ?_
  exact PC.retV rfl h

/-- DoorPaints$Told.isWhole()Z -/
theorem t_47_0 {xl : List Int32} {n : Nat} {ι : IS} {Q : Option Value → IS → Prop} {a0 : Nat} (h : PC xl n 47 2 [(0, .ref a0), (1, .int 0)] [] ι Q) : PC xl (n + 1) 47 0 [(0, .ref a0)] [] ι Q := by
  refine PC.pr1 (k := 0) (pc' := 1) (lv' := [(0, .ref a0)]) (st' := [.int 0]) rfl ?_
  refine PC.pr (k := 1) (pc' := 2) (lv' := [(1, .int 0), (0, .ref a0)]) (st' := []) rfl ?_
  exact PC.lv (lvE.cons rfl (lvE.cons rfl (lvE.nil))) h
theorem t_47_2 {xl : List Int32} {n : Nat} {ι : IS} {Q : Option Value → IS → Prop} {a0 : Nat} {x1 : Int32} (h : ((¬ x1 < (ι a0 2) → PC xl n 47 42 [(0, .ref a0), (1, .int (ι (rf a0 0) 3))] [] ι Q) ∧ (x1 < (ι a0 2) → (0 ≤ x1.toInt → x1.toInt < ln (rf a0 1) → PC xl n 48 0 [(0, .ref (rf a0 0)), (1, .int (ι (rf a0 1) x1.toNatClampNeg))] [] ι (fun v1 κ1 => ∀ r1, v1 = some (.int r1) → ((¬ r1 = 0 → PC xl n 47 2 [(0, .ref a0), (1, .int (x1 + 1))] [] κ1 Q) ∧ (r1 = 0 → Q (some (.int 0)) κ1))))))) : PC xl (n + 1) 47 2 [(0, .ref a0), (1, .int x1)] [] ι Q := by
  refine PC.pr1 (k := 0) (pc' := 3) (lv' := [(0, .ref a0), (1, .int x1)]) (st' := [.int x1]) rfl ?_
  refine PC.pr (k := 1) (pc' := 4) (lv' := [(0, .ref a0), (1, .int x1)]) (st' := [.ref a0, .int x1]) rfl ?_
  refine PC.gI (ci := 2) (j := 2) rfl rfl (by decide) ?_
  refine PC.if2 (t := 34) rfl rfl (fun c => ?_) (fun c => ?_)
  · have h := h.1 (cmp_ge.1.mp c)
    refine PC.pr (k := 1) (pc' := 35) (lv' := [(0, .ref a0), (1, .int x1)]) (st' := [.ref a0]) rfl ?_
    refine PC.gR (ci := 2) (j := 0) rfl rfl (by decide) ?_
    refine PC.gI (ci := 3) (j := 3) rfl rfl (by decide) ?_
    refine PC.pr (k := 1) (pc' := 42) (lv' := [(1, .int (ι (rf a0 0) 3)), (0, .ref a0)]) (st' := []) rfl ?_
    exact PC.lv (lvE.cons rfl (lvE.cons rfl (lvE.nil))) h
  · have h := h.2 (cmp_ge.2.mp c)
    refine PC.pr (k := 1) (pc' := 11) (lv' := [(0, .ref a0), (1, .int x1)]) (st' := [.ref a0]) rfl ?_
    refine PC.gR (ci := 2) (j := 0) rfl rfl (by decide) ?_
    refine PC.pr (k := 1) (pc' := 15) (lv' := [(0, .ref a0), (1, .int x1)]) (st' := [.ref a0, .ref (rf a0 0)]) rfl ?_
    refine PC.gR (ci := 2) (j := 1) rfl rfl (by decide) ?_
    refine PC.pr (k := 1) (pc' := 19) (lv' := [(0, .ref a0), (1, .int x1)]) (st' := [.int x1, .ref (rf a0 1), .ref (rf a0 0)]) rfl ?_
    refine PC.rd rfl (rf_lt _ _) (fun c1 c2 => ?_)
    have h := h c1 c2
    refine (PC.callI (j := 48) (args := [.ref (rf a0 0), .int (ι (rf a0 1) x1.toNatClampNeg)]) (rest := []) (M := cM48) (ty := .boolean) rfl rfl rfl rfl rfl rfl (by decide) rfl rfl (by decide) ?_).weak
    refine PC.imp h (fun v1 κ1 h r1 hv => ?_)
    have h := h r1 hv
    refine PC.if1 (t := 28) rfl rfl (fun c => ?_) (fun c => ?_)
    · have h := h.1 (cmp_ne.1.mp c)
      refine PC.pr (k := 1) (pc' := 31) (lv' := [(1, .int (x1 + 1)), (0, .ref a0)]) (st' := []) rfl ?_
      refine PC.pr (k := 1) (pc' := 2) (lv' := [(1, .int (x1 + 1)), (0, .ref a0)]) (st' := []) rfl ?_
      exact PC.lv (lvE.cons rfl (lvE.cons rfl (lvE.nil))) h
    · have h := h.2 (cmp_ne.2.mp c)
      refine PC.pr (k := 1) (pc' := 27) (lv' := [(0, .ref a0), (1, .int x1)]) (st' := [.int 0]) rfl ?_
      exact PC.retI rfl h
theorem t_47_42 {xl : List Int32} {n : Nat} {ι : IS} {Q : Option Value → IS → Prop} {a0 : Nat} {x1 : Int32} (h : ((¬ x1 < 4 → Q (some (.int 1)) ι) ∧ (x1 < 4 → (0 ≤ x1.toInt → x1.toInt < lr (rf (rf a0 0) 1) → (((ι (re (rf (rf a0 0) 1) x1.toNatClampNeg) 2) = 0 → PC xl n 47 42 [(0, .ref a0), (1, .int (x1 + 1))] [] ι Q) ∧ (¬ (ι (re (rf (rf a0 0) 1) x1.toNatClampNeg) 2) = 0 → Q (some (.int 0)) ι)))))) : PC xl (n + 1) 47 42 [(0, .ref a0), (1, .int x1)] [] ι Q := by
  refine PC.pr1 (k := 0) (pc' := 43) (lv' := [(0, .ref a0), (1, .int x1)]) (st' := [.int x1]) rfl ?_
  refine PC.pr (k := 1) (pc' := 44) (lv' := [(0, .ref a0), (1, .int x1)]) (st' := [.int 4, .int x1]) rfl ?_
  refine PC.if2 (t := 70) rfl rfl (fun c => ?_) (fun c => ?_)
  · have h := h.1 (cmp_ge.1.mp c)
    refine PC.pr (k := 1) (pc' := 71) (lv' := [(0, .ref a0), (1, .int x1)]) (st' := [.int 1]) rfl ?_
    exact PC.retI rfl h
  · have h := h.2 (cmp_ge.2.mp c)
    refine PC.pr (k := 1) (pc' := 48) (lv' := [(0, .ref a0), (1, .int x1)]) (st' := [.ref a0]) rfl ?_
    refine PC.gR (ci := 2) (j := 0) rfl rfl (by decide) ?_
    refine PC.gR (ci := 3) (j := 1) rfl rfl (by decide) ?_
    refine PC.pr (k := 1) (pc' := 55) (lv' := [(0, .ref a0), (1, .int x1)]) (st' := [.int x1, .ref (rf (rf a0 0) 1)]) rfl ?_
    refine PC.ra rfl (fun c1 c2 => ?_)
    have h := h c1 c2
    refine PC.gI (ci := 5) (j := 2) rfl rfl (by decide) ?_
    refine PC.if1 (t := 64) rfl rfl (fun c => ?_) (fun c => ?_)
    · have h := h.1 (cmp_eq.1.mp c)
      refine PC.pr (k := 1) (pc' := 67) (lv' := [(1, .int (x1 + 1)), (0, .ref a0)]) (st' := []) rfl ?_
      refine PC.pr (k := 1) (pc' := 42) (lv' := [(1, .int (x1 + 1)), (0, .ref a0)]) (st' := []) rfl ?_
      exact PC.lv (lvE.cons rfl (lvE.cons rfl (lvE.nil))) h
    · have h := h.2 (cmp_eq.2.mp c)
      refine PC.pr (k := 1) (pc' := 63) (lv' := [(0, .ref a0), (1, .int x1)]) (st' := [.int 0]) rfl ?_
      exact PC.retI rfl h

/-- DoorPaints$Town.knows(I)Z -/
theorem t_48_0 {xl : List Int32} {n : Nat} {ι : IS} {Q : Option Value → IS → Prop} {a0 : Nat} {x1 : Int32} (h : PC xl n 42 0 [(0, .int x1)] [] ι (fun v1 κ1 => ∀ r1, v1 = some (.int r1) → ((¬ r1 = 0 → Q (some (.int 1)) κ1) ∧ (r1 = 0 → PC xl n 49 0 [(0, .ref a0), (1, .int (x1 / 10))] [] κ1 (fun v2 κ2 => ∀ r2, v2 = some (.int r2) → ((r2 = 0 → Q (some (.int 0)) κ2) ∧ (¬ r2 = 0 → PC xl n 50 0 [(0, .ref a0), (1, .int (x1 - x1 / 10 * 10))] [] κ2 (fun v3 κ3 => ∀ r3, v3 = some (.int r3) → ((r3 = 0 → Q (some (.int 0)) κ3) ∧ (¬ r3 = 0 → Q (some (.int 1)) κ3)))))))))) : PC xl (n + 1) 48 0 [(0, .ref a0), (1, .int x1)] [] ι Q := by
  refine PC.pr1 (k := 0) (pc' := 1) (lv' := [(0, .ref a0), (1, .int x1)]) (st' := [.int x1]) rfl ?_
  refine (PC.callI (j := 42) (args := [.int x1]) (rest := []) (M := cM42) (ty := .boolean) rfl rfl rfl rfl rfl rfl (by decide) rfl rfl (by decide) ?_).weak
  refine PC.imp h (fun v1 κ1 h r1 hv => ?_)
  have h := h r1 hv
  refine PC.if1 (t := 29) rfl rfl (fun c => ?_) (fun c => ?_)
  · have h := h.1 (cmp_ne.1.mp c)
    refine PC.pr (k := 1) (pc' := 30) (lv' := [(0, .ref a0), (1, .int x1)]) (st' := [.int 1]) rfl ?_
    refine PC.pr (k := 1) (pc' := 34) (lv' := [(0, .ref a0), (1, .int x1)]) (st' := [.int 1]) rfl ?_
    exact PC.retI rfl h
  · have h := h.2 (cmp_ne.2.mp c)
    refine PC.pr (k := 1) (pc' := 8) (lv' := [(0, .ref a0), (1, .int x1)]) (st' := [.ref a0]) rfl ?_
    refine PC.pr (k := 1) (pc' := 9) (lv' := [(0, .ref a0), (1, .int x1)]) (st' := [.int x1, .ref a0]) rfl ?_
    refine PC.pr (k := 1) (pc' := 11) (lv' := [(0, .ref a0), (1, .int x1)]) (st' := [.int 10, .int x1, .ref a0]) rfl ?_
    refine PC.pr (k := 1) (pc' := 12) (lv' := [(0, .ref a0), (1, .int x1)]) (st' := [.int (x1 / 10), .ref a0]) rfl ?_
    refine (PC.callI (j := 49) (args := [.ref a0, .int (x1 / 10)]) (rest := []) (M := cM49) (ty := .boolean) rfl rfl rfl rfl rfl rfl (by decide) rfl rfl (by decide) ?_).weak
    refine PC.imp h (fun v2 κ2 h r2 hv => ?_)
    have h := h r2 hv
    refine PC.if1 (t := 33) rfl rfl (fun c => ?_) (fun c => ?_)
    · have h := h.1 (cmp_eq.1.mp c)
      refine PC.pr (k := 1) (pc' := 34) (lv' := [(0, .ref a0), (1, .int x1)]) (st' := [.int 0]) rfl ?_
      exact PC.retI rfl h
    · have h := h.2 (cmp_eq.2.mp c)
      refine PC.pr (k := 1) (pc' := 19) (lv' := [(0, .ref a0), (1, .int x1)]) (st' := [.ref a0]) rfl ?_
      refine PC.pr (k := 1) (pc' := 20) (lv' := [(0, .ref a0), (1, .int x1)]) (st' := [.int x1, .ref a0]) rfl ?_
      refine PC.pr (k := 1) (pc' := 22) (lv' := [(0, .ref a0), (1, .int x1)]) (st' := [.int 10, .int x1, .ref a0]) rfl ?_
      refine PC.pr (k := 1) (pc' := 23) (lv' := [(0, .ref a0), (1, .int x1)]) (st' := [.int (x1 - x1 / 10 * 10), .ref a0]) rfl ?_
      refine (PC.callI (j := 50) (args := [.ref a0, .int (x1 - x1 / 10 * 10)]) (rest := []) (M := cM50) (ty := .boolean) rfl rfl rfl rfl rfl rfl (by decide) rfl rfl (by decide) ?_).weak
      refine PC.imp h (fun v3 κ3 h r3 hv => ?_)
      have h := h r3 hv
      refine PC.if1 (t := 33) rfl rfl (fun c => ?_) (fun c => ?_)
      · have h := h.1 (cmp_eq.1.mp c)
        refine PC.pr (k := 1) (pc' := 34) (lv' := [(0, .ref a0), (1, .int x1)]) (st' := [.int 0]) rfl ?_
        exact PC.retI rfl h
      · have h := h.2 (cmp_eq.2.mp c)
        refine PC.pr (k := 1) (pc' := 30) (lv' := [(0, .ref a0), (1, .int x1)]) (st' := [.int 1]) rfl ?_
        refine PC.pr (k := 1) (pc' := 34) (lv' := [(0, .ref a0), (1, .int x1)]) (st' := [.int 1]) rfl ?_
        exact PC.retI rfl h

/-- DoorPaints$Town.hasVisitor(I)Z -/
theorem t_49_0 {xl : List Int32} {n : Nat} {ι : IS} {Q : Option Value → IS → Prop} {a0 : Nat} {x1 : Int32} (h : ((x1 < 0 → Q (some (.int 0)) ι) ∧ (¬ x1 < 0 → ((¬ x1 < (ι a0 2) → Q (some (.int 0)) ι) ∧ (x1 < (ι a0 2) → Q (some (.int 1)) ι))))) : PC xl (n + 1) 49 0 [(0, .ref a0), (1, .int x1)] [] ι Q := by
  refine PC.pr1 (k := 0) (pc' := 1) (lv' := [(0, .ref a0), (1, .int x1)]) (st' := [.int x1]) rfl ?_
  refine PC.if1 (t := 16) rfl rfl (fun c => ?_) (fun c => ?_)
  · have h := h.1 (cmp_lt.1.mp c)
    refine PC.pr (k := 1) (pc' := 17) (lv' := [(0, .ref a0), (1, .int x1)]) (st' := [.int 0]) rfl ?_
    exact PC.retI rfl h
  · have h := h.2 (cmp_lt.2.mp c)
    refine PC.pr (k := 1) (pc' := 5) (lv' := [(0, .ref a0), (1, .int x1)]) (st' := [.int x1]) rfl ?_
    refine PC.pr (k := 1) (pc' := 6) (lv' := [(0, .ref a0), (1, .int x1)]) (st' := [.ref a0, .int x1]) rfl ?_
    refine PC.gI (ci := 3) (j := 2) rfl rfl (by decide) ?_
    refine PC.if2 (t := 16) rfl rfl (fun c => ?_) (fun c => ?_)
    · have h := h.1 (cmp_ge.1.mp c)
      refine PC.pr (k := 1) (pc' := 17) (lv' := [(0, .ref a0), (1, .int x1)]) (st' := [.int 0]) rfl ?_
      exact PC.retI rfl h
    · have h := h.2 (cmp_ge.2.mp c)
      refine PC.pr (k := 1) (pc' := 13) (lv' := [(0, .ref a0), (1, .int x1)]) (st' := [.int 1]) rfl ?_
      refine PC.pr (k := 1) (pc' := 17) (lv' := [(0, .ref a0), (1, .int x1)]) (st' := [.int 1]) rfl ?_
      exact PC.retI rfl h

/-- DoorPaints$Town.hasDoor(I)Z -/
theorem t_50_0 {xl : List Int32} {n : Nat} {ι : IS} {Q : Option Value → IS → Prop} {a0 : Nat} {x1 : Int32} (h : ((x1 < 0 → Q (some (.int 0)) ι) ∧ (¬ x1 < 0 → ((¬ x1 < (ι a0 3) → Q (some (.int 0)) ι) ∧ (x1 < (ι a0 3) → Q (some (.int 1)) ι))))) : PC xl (n + 1) 50 0 [(0, .ref a0), (1, .int x1)] [] ι Q := by
  refine PC.pr1 (k := 0) (pc' := 1) (lv' := [(0, .ref a0), (1, .int x1)]) (st' := [.int x1]) rfl ?_
  refine PC.if1 (t := 16) rfl rfl (fun c => ?_) (fun c => ?_)
  · have h := h.1 (cmp_lt.1.mp c)
    refine PC.pr (k := 1) (pc' := 17) (lv' := [(0, .ref a0), (1, .int x1)]) (st' := [.int 0]) rfl ?_
    exact PC.retI rfl h
  · have h := h.2 (cmp_lt.2.mp c)
    refine PC.pr (k := 1) (pc' := 5) (lv' := [(0, .ref a0), (1, .int x1)]) (st' := [.int x1]) rfl ?_
    refine PC.pr (k := 1) (pc' := 6) (lv' := [(0, .ref a0), (1, .int x1)]) (st' := [.ref a0, .int x1]) rfl ?_
    refine PC.gI (ci := 3) (j := 3) rfl rfl (by decide) ?_
    refine PC.if2 (t := 16) rfl rfl (fun c => ?_) (fun c => ?_)
    · have h := h.1 (cmp_ge.1.mp c)
      refine PC.pr (k := 1) (pc' := 17) (lv' := [(0, .ref a0), (1, .int x1)]) (st' := [.int 0]) rfl ?_
      exact PC.retI rfl h
    · have h := h.2 (cmp_ge.2.mp c)
      refine PC.pr (k := 1) (pc' := 13) (lv' := [(0, .ref a0), (1, .int x1)]) (st' := [.int 1]) rfl ?_
      refine PC.pr (k := 1) (pc' := 17) (lv' := [(0, .ref a0), (1, .int x1)]) (st' := [.int 1]) rfl ?_
      exact PC.retI rfl h

/-- DoorPaints$Told.become(LDoorPaints$Told;)V -/
theorem t_51_0 {xl : List Int32} {n : Nat} {ι : IS} {Q : Option Value → IS → Prop} {a0 : Nat} {a1 : Nat} (h : PC xl n 52 0 [(0, .ref (rf a0 0)), (1, .ref (rf a1 0))] [] ι (fun _ κ1 => PC xl n 51 21 [(0, .ref a0), (1, .ref a1), (2, .int 0)] [] (up κ1 a0 2 (κ1 a1 2)) Q)) : PC xl (n + 1) 51 0 [(0, .ref a0), (1, .ref a1)] [] ι Q := by
  refine PC.pr1 (k := 0) (pc' := 1) (lv' := [(0, .ref a0), (1, .ref a1)]) (st' := [.ref a0]) rfl ?_
  refine PC.gR (ci := 2) (j := 0) rfl rfl (by decide) ?_
  refine PC.pr (k := 1) (pc' := 5) (lv' := [(0, .ref a0), (1, .ref a1)]) (st' := [.ref a1, .ref (rf a0 0)]) rfl ?_
  refine PC.gR (ci := 2) (j := 0) rfl rfl (by decide) ?_
  refine (PC.callV (j := 52) (args := [.ref (rf a0 0), .ref (rf a1 0)]) (rest := []) (M := cM52) rfl rfl rfl rfl rfl rfl (by decide) rfl rfl ?_).weak
  refine PC.imp h (fun _ κ1 h => ?_)
  refine PC.pr (k := 1) (pc' := 12) (lv' := [(0, .ref a0), (1, .ref a1)]) (st' := [.ref a0]) rfl ?_
  refine PC.pr (k := 1) (pc' := 13) (lv' := [(0, .ref a0), (1, .ref a1)]) (st' := [.ref a1, .ref a0]) rfl ?_
  refine PC.gI (ci := 2) (j := 2) rfl rfl (by decide) ?_
  refine PC.pI (ci := 2) (j := 2) rfl rfl ?_
  refine PC.pr (k := 1) (pc' := 20) (lv' := [(0, .ref a0), (1, .ref a1)]) (st' := [.int 0]) rfl ?_
  refine PC.pr (k := 1) (pc' := 21) (lv' := [(2, .int 0), (0, .ref a0), (1, .ref a1)]) (st' := []) rfl ?_
  exact PC.lv (lvE.cons rfl (lvE.cons rfl (lvE.cons rfl (lvE.nil)))) h
theorem t_51_21 {xl : List Int32} {n : Nat} {ι : IS} {Q : Option Value → IS → Prop} {a0 : Nat} {a1 : Nat} {x2 : Int32} (h : ((¬ x2 < (ι a0 2) → PC xl n 51 57 [(0, .ref a0), (1, .ref a1), (2, .int 0)] [] (up ι a0 6 (ι a1 6)) Q) ∧ (x2 < (ι a0 2) → (0 ≤ x2.toInt → x2.toInt < ln (rf a1 1) → (0 ≤ x2.toInt → x2.toInt < ln (rf a0 1) → PC xl n 51 21 [(0, .ref a0), (1, .ref a1), (2, .int (x2 + 1))] [] (up ι (rf a0 1) x2.toNatClampNeg (ι (rf a1 1) x2.toNatClampNeg)) Q))))) : PC xl (n + 1) 51 21 [(0, .ref a0), (1, .ref a1), (2, .int x2)] [] ι Q := by
  refine PC.pr1 (k := 0) (pc' := 22) (lv' := [(0, .ref a0), (1, .ref a1), (2, .int x2)]) (st' := [.int x2]) rfl ?_
  refine PC.pr (k := 1) (pc' := 23) (lv' := [(0, .ref a0), (1, .ref a1), (2, .int x2)]) (st' := [.ref a0, .int x2]) rfl ?_
  refine PC.gI (ci := 2) (j := 2) rfl rfl (by decide) ?_
  refine PC.if2 (t := 47) rfl rfl (fun c => ?_) (fun c => ?_)
  · have h := h.1 (cmp_ge.1.mp c)
    refine PC.pr (k := 1) (pc' := 48) (lv' := [(0, .ref a0), (1, .ref a1), (2, .int x2)]) (st' := [.ref a0]) rfl ?_
    refine PC.pr (k := 1) (pc' := 49) (lv' := [(0, .ref a0), (1, .ref a1), (2, .int x2)]) (st' := [.ref a1, .ref a0]) rfl ?_
    refine PC.gI (ci := 2) (j := 6) rfl rfl (by decide) ?_
    refine PC.pI (ci := 2) (j := 6) rfl rfl ?_
    refine PC.pr (k := 1) (pc' := 56) (lv' := [(0, .ref a0), (1, .ref a1), (2, .int x2)]) (st' := [.int 0]) rfl ?_
    refine PC.pr (k := 1) (pc' := 57) (lv' := [(2, .int 0), (0, .ref a0), (1, .ref a1)]) (st' := []) rfl ?_
    exact PC.lv (lvE.cons rfl (lvE.cons rfl (lvE.cons rfl (lvE.nil)))) h
  · have h := h.2 (cmp_ge.2.mp c)
    refine PC.pr (k := 1) (pc' := 30) (lv' := [(0, .ref a0), (1, .ref a1), (2, .int x2)]) (st' := [.ref a0]) rfl ?_
    refine PC.gR (ci := 2) (j := 1) rfl rfl (by decide) ?_
    refine PC.pr (k := 1) (pc' := 34) (lv' := [(0, .ref a0), (1, .ref a1), (2, .int x2)]) (st' := [.int x2, .ref (rf a0 1)]) rfl ?_
    refine PC.pr (k := 1) (pc' := 35) (lv' := [(0, .ref a0), (1, .ref a1), (2, .int x2)]) (st' := [.ref a1, .int x2, .ref (rf a0 1)]) rfl ?_
    refine PC.gR (ci := 2) (j := 1) rfl rfl (by decide) ?_
    refine PC.pr (k := 1) (pc' := 39) (lv' := [(0, .ref a0), (1, .ref a1), (2, .int x2)]) (st' := [.int x2, .ref (rf a1 1), .int x2, .ref (rf a0 1)]) rfl ?_
    refine PC.rd rfl (rf_lt _ _) (fun c1 c2 => ?_)
    have h := h c1 c2
    refine PC.wI rfl (fun c1 c2 => ?_)
    have h := h c1 c2
    refine PC.pr (k := 1) (pc' := 44) (lv' := [(2, .int (x2 + 1)), (0, .ref a0), (1, .ref a1)]) (st' := []) rfl ?_
    refine PC.pr (k := 1) (pc' := 21) (lv' := [(2, .int (x2 + 1)), (0, .ref a0), (1, .ref a1)]) (st' := []) rfl ?_
    exact PC.lv (lvE.cons rfl (lvE.cons rfl (lvE.cons rfl (lvE.nil)))) h
theorem t_51_57 {xl : List Int32} {n : Nat} {ι : IS} {Q : Option Value → IS → Prop} {a0 : Nat} {a1 : Nat} {x2 : Int32} (h : ((¬ x2 < (ι a0 6) → Q none ι) ∧ (x2 < (ι a0 6) → (0 ≤ x2.toInt → x2.toInt < ln (rf a1 3) → (0 ≤ x2.toInt → x2.toInt < ln (rf a0 3) → (0 ≤ x2.toInt → x2.toInt < ln (rf a1 4) → (0 ≤ x2.toInt → x2.toInt < ln (rf a0 4) → PC xl n 51 89 [(0, .ref a0), (1, .ref a1), (2, .int x2)] [] (up (up ι (rf a0 3) x2.toNatClampNeg (ι (rf a1 3) x2.toNatClampNeg)) (rf a0 4) x2.toNatClampNeg ((up ι (rf a0 3) x2.toNatClampNeg (ι (rf a1 3) x2.toNatClampNeg)) (rf a1 4) x2.toNatClampNeg)) Q))))))) : PC xl (n + 1) 51 57 [(0, .ref a0), (1, .ref a1), (2, .int x2)] [] ι Q := by
  refine PC.pr1 (k := 0) (pc' := 58) (lv' := [(0, .ref a0), (1, .ref a1), (2, .int x2)]) (st' := [.int x2]) rfl ?_
  refine PC.pr (k := 1) (pc' := 59) (lv' := [(0, .ref a0), (1, .ref a1), (2, .int x2)]) (st' := [.ref a0, .int x2]) rfl ?_
  refine PC.gI (ci := 2) (j := 6) rfl rfl (by decide) ?_
  refine PC.if2 (t := 107) rfl rfl (fun c => ?_) (fun c => ?_)
  · have h := h.1 (cmp_ge.1.mp c)
    exact PC.retV rfl h
  · have h := h.2 (cmp_ge.2.mp c)
    refine PC.pr (k := 1) (pc' := 66) (lv' := [(0, .ref a0), (1, .ref a1), (2, .int x2)]) (st' := [.ref a0]) rfl ?_
    refine PC.gR (ci := 2) (j := 3) rfl rfl (by decide) ?_
    refine PC.pr (k := 1) (pc' := 70) (lv' := [(0, .ref a0), (1, .ref a1), (2, .int x2)]) (st' := [.int x2, .ref (rf a0 3)]) rfl ?_
    refine PC.pr (k := 1) (pc' := 71) (lv' := [(0, .ref a0), (1, .ref a1), (2, .int x2)]) (st' := [.ref a1, .int x2, .ref (rf a0 3)]) rfl ?_
    refine PC.gR (ci := 2) (j := 3) rfl rfl (by decide) ?_
    refine PC.pr (k := 1) (pc' := 75) (lv' := [(0, .ref a0), (1, .ref a1), (2, .int x2)]) (st' := [.int x2, .ref (rf a1 3), .int x2, .ref (rf a0 3)]) rfl ?_
    refine PC.rd rfl (rf_lt _ _) (fun c1 c2 => ?_)
    have h := h c1 c2
    refine PC.wI rfl (fun c1 c2 => ?_)
    have h := h c1 c2
    refine PC.pr (k := 1) (pc' := 78) (lv' := [(0, .ref a0), (1, .ref a1), (2, .int x2)]) (st' := [.ref a0]) rfl ?_
    refine PC.gR (ci := 2) (j := 4) rfl rfl (by decide) ?_
    refine PC.pr (k := 1) (pc' := 82) (lv' := [(0, .ref a0), (1, .ref a1), (2, .int x2)]) (st' := [.int x2, .ref (rf a0 4)]) rfl ?_
    refine PC.pr (k := 1) (pc' := 83) (lv' := [(0, .ref a0), (1, .ref a1), (2, .int x2)]) (st' := [.ref a1, .int x2, .ref (rf a0 4)]) rfl ?_
    refine PC.gR (ci := 2) (j := 4) rfl rfl (by decide) ?_
    refine PC.pr (k := 1) (pc' := 87) (lv' := [(0, .ref a0), (1, .ref a1), (2, .int x2)]) (st' := [.int x2, .ref (rf a1 4), .int x2, .ref (rf a0 4)]) rfl ?_
    refine PC.rd rfl (rf_lt _ _) (fun c1 c2 => ?_)
    have h := h c1 c2
    refine PC.wI rfl (fun c1 c2 => ?_)
    have h := h c1 c2
    exact h
theorem t_51_89 {xl : List Int32} {n : Nat} {ι : IS} {Q : Option Value → IS → Prop} {a0 : Nat} {a1 : Nat} {x2 : Int32} (h : (0 ≤ x2.toInt → x2.toInt < ln (rf a1 5) → (0 ≤ x2.toInt → x2.toInt < ln (rf a0 5) → PC xl n 51 57 [(0, .ref a0), (1, .ref a1), (2, .int (x2 + 1))] [] (up ι (rf a0 5) x2.toNatClampNeg (ι (rf a1 5) x2.toNatClampNeg)) Q))) : PC xl (n + 1) 51 89 [(0, .ref a0), (1, .ref a1), (2, .int x2)] [] ι Q := by
  refine PC.pr1 (k := 0) (pc' := 90) (lv' := [(0, .ref a0), (1, .ref a1), (2, .int x2)]) (st' := [.ref a0]) rfl ?_
  refine PC.gR (ci := 2) (j := 5) rfl rfl (by decide) ?_
  refine PC.pr (k := 1) (pc' := 94) (lv' := [(0, .ref a0), (1, .ref a1), (2, .int x2)]) (st' := [.int x2, .ref (rf a0 5)]) rfl ?_
  refine PC.pr (k := 1) (pc' := 95) (lv' := [(0, .ref a0), (1, .ref a1), (2, .int x2)]) (st' := [.ref a1, .int x2, .ref (rf a0 5)]) rfl ?_
  refine PC.gR (ci := 2) (j := 5) rfl rfl (by decide) ?_
  refine PC.pr (k := 1) (pc' := 99) (lv' := [(0, .ref a0), (1, .ref a1), (2, .int x2)]) (st' := [.int x2, .ref (rf a1 5), .int x2, .ref (rf a0 5)]) rfl ?_
  refine PC.rd rfl (rf_lt _ _) (fun c1 c2 => ?_)
  have h := h c1 c2
  refine PC.wI rfl (fun c1 c2 => ?_)
  have h := h c1 c2
  refine PC.pr (k := 1) (pc' := 104) (lv' := [(2, .int (x2 + 1)), (0, .ref a0), (1, .ref a1)]) (st' := []) rfl ?_
  refine PC.pr (k := 1) (pc' := 57) (lv' := [(2, .int (x2 + 1)), (0, .ref a0), (1, .ref a1)]) (st' := []) rfl ?_
  exact PC.lv (lvE.cons rfl (lvE.cons rfl (lvE.cons rfl (lvE.nil)))) h

/-- DoorPaints$Town.become(LDoorPaints$Town;)V -/
theorem t_52_0 {xl : List Int32} {n : Nat} {ι : IS} {Q : Option Value → IS → Prop} {a0 : Nat} {a1 : Nat} (h : PC xl n 52 10 [(0, .ref a0), (1, .ref a1), (2, .int 0)] [] (up ι a0 2 (ι a1 2)) Q) : PC xl (n + 1) 52 0 [(0, .ref a0), (1, .ref a1)] [] ι Q := by
  refine PC.pr1 (k := 0) (pc' := 1) (lv' := [(0, .ref a0), (1, .ref a1)]) (st' := [.ref a0]) rfl ?_
  refine PC.pr (k := 1) (pc' := 2) (lv' := [(0, .ref a0), (1, .ref a1)]) (st' := [.ref a1, .ref a0]) rfl ?_
  refine PC.gI (ci := 3) (j := 2) rfl rfl (by decide) ?_
  refine PC.pI (ci := 3) (j := 2) rfl rfl ?_
  refine PC.pr (k := 1) (pc' := 9) (lv' := [(0, .ref a0), (1, .ref a1)]) (st' := [.int 0]) rfl ?_
  refine PC.pr (k := 1) (pc' := 10) (lv' := [(2, .int 0), (0, .ref a0), (1, .ref a1)]) (st' := []) rfl ?_
  exact PC.lv (lvE.cons rfl (lvE.cons rfl (lvE.cons rfl (lvE.nil)))) h
theorem t_52_10 {xl : List Int32} {n : Nat} {ι : IS} {Q : Option Value → IS → Prop} {a0 : Nat} {a1 : Nat} {x2 : Int32} (h : ((¬ x2 < (ι a0 2) → PC xl n 52 49 [(0, .ref a0), (1, .ref a1), (2, .int 0)] [] (up ι a0 3 (ι a1 3)) Q) ∧ (x2 < (ι a0 2) → (0 ≤ x2.toInt → x2.toInt < lr (rf a0 0) → (0 ≤ x2.toInt → x2.toInt < lr (rf a1 0) → PC xl n 53 0 [(0, .ref (re (rf a0 0) x2.toNatClampNeg)), (1, .ref (re (rf a1 0) x2.toNatClampNeg))] [] ι (fun _ κ1 => PC xl n 52 10 [(0, .ref a0), (1, .ref a1), (2, .int (x2 + 1))] [] κ1 Q)))))) : PC xl (n + 1) 52 10 [(0, .ref a0), (1, .ref a1), (2, .int x2)] [] ι Q := by
  refine PC.pr1 (k := 0) (pc' := 11) (lv' := [(0, .ref a0), (1, .ref a1), (2, .int x2)]) (st' := [.int x2]) rfl ?_
  refine PC.pr (k := 1) (pc' := 12) (lv' := [(0, .ref a0), (1, .ref a1), (2, .int x2)]) (st' := [.ref a0, .int x2]) rfl ?_
  refine PC.gI (ci := 3) (j := 2) rfl rfl (by decide) ?_
  refine PC.if2 (t := 39) rfl rfl (fun c => ?_) (fun c => ?_)
  · have h := h.1 (cmp_ge.1.mp c)
    refine PC.pr (k := 1) (pc' := 40) (lv' := [(0, .ref a0), (1, .ref a1), (2, .int x2)]) (st' := [.ref a0]) rfl ?_
    refine PC.pr (k := 1) (pc' := 41) (lv' := [(0, .ref a0), (1, .ref a1), (2, .int x2)]) (st' := [.ref a1, .ref a0]) rfl ?_
    refine PC.gI (ci := 3) (j := 3) rfl rfl (by decide) ?_
    refine PC.pI (ci := 3) (j := 3) rfl rfl ?_
    refine PC.pr (k := 1) (pc' := 48) (lv' := [(0, .ref a0), (1, .ref a1), (2, .int x2)]) (st' := [.int 0]) rfl ?_
    refine PC.pr (k := 1) (pc' := 49) (lv' := [(2, .int 0), (0, .ref a0), (1, .ref a1)]) (st' := []) rfl ?_
    exact PC.lv (lvE.cons rfl (lvE.cons rfl (lvE.cons rfl (lvE.nil)))) h
  · have h := h.2 (cmp_ge.2.mp c)
    refine PC.pr (k := 1) (pc' := 19) (lv' := [(0, .ref a0), (1, .ref a1), (2, .int x2)]) (st' := [.ref a0]) rfl ?_
    refine PC.gR (ci := 3) (j := 0) rfl rfl (by decide) ?_
    refine PC.pr (k := 1) (pc' := 23) (lv' := [(0, .ref a0), (1, .ref a1), (2, .int x2)]) (st' := [.int x2, .ref (rf a0 0)]) rfl ?_
    refine PC.ra rfl (fun c1 c2 => ?_)
    have h := h c1 c2
    refine PC.pr (k := 1) (pc' := 25) (lv' := [(0, .ref a0), (1, .ref a1), (2, .int x2)]) (st' := [.ref a1, .ref (re (rf a0 0) x2.toNatClampNeg)]) rfl ?_
    refine PC.gR (ci := 3) (j := 0) rfl rfl (by decide) ?_
    refine PC.pr (k := 1) (pc' := 29) (lv' := [(0, .ref a0), (1, .ref a1), (2, .int x2)]) (st' := [.int x2, .ref (rf a1 0), .ref (re (rf a0 0) x2.toNatClampNeg)]) rfl ?_
    refine PC.ra rfl (fun c1 c2 => ?_)
    have h := h c1 c2
    refine (PC.callV (j := 53) (args := [.ref (re (rf a0 0) x2.toNatClampNeg), .ref (re (rf a1 0) x2.toNatClampNeg)]) (rest := []) (M := cM53) rfl rfl rfl rfl rfl rfl (by decide) rfl rfl ?_).weak
    refine PC.imp h (fun _ κ1 h => ?_)
    refine PC.pr (k := 1) (pc' := 36) (lv' := [(2, .int (x2 + 1)), (0, .ref a0), (1, .ref a1)]) (st' := []) rfl ?_
    refine PC.pr (k := 1) (pc' := 10) (lv' := [(2, .int (x2 + 1)), (0, .ref a0), (1, .ref a1)]) (st' := []) rfl ?_
    exact PC.lv (lvE.cons rfl (lvE.cons rfl (lvE.cons rfl (lvE.nil)))) h
theorem t_52_49 {xl : List Int32} {n : Nat} {ι : IS} {Q : Option Value → IS → Prop} {a0 : Nat} {a1 : Nat} {x2 : Int32} (h : ((¬ x2 < (ι a0 3) → Q none (up ι a0 4 (-4))) ∧ (x2 < (ι a0 3) → (0 ≤ x2.toInt → x2.toInt < lr (rf a0 1) → (0 ≤ x2.toInt → x2.toInt < lr (rf a1 1) → PC xl n 54 0 [(0, .ref (re (rf a0 1) x2.toNatClampNeg)), (1, .ref (re (rf a1 1) x2.toNatClampNeg))] [] ι (fun _ κ1 => PC xl n 52 49 [(0, .ref a0), (1, .ref a1), (2, .int (x2 + 1))] [] κ1 Q)))))) : PC xl (n + 1) 52 49 [(0, .ref a0), (1, .ref a1), (2, .int x2)] [] ι Q := by
  refine PC.pr1 (k := 0) (pc' := 50) (lv' := [(0, .ref a0), (1, .ref a1), (2, .int x2)]) (st' := [.int x2]) rfl ?_
  refine PC.pr (k := 1) (pc' := 51) (lv' := [(0, .ref a0), (1, .ref a1), (2, .int x2)]) (st' := [.ref a0, .int x2]) rfl ?_
  refine PC.gI (ci := 3) (j := 3) rfl rfl (by decide) ?_
  refine PC.if2 (t := 78) rfl rfl (fun c => ?_) (fun c => ?_)
  · have h := h.1 (cmp_ge.1.mp c)
    refine PC.pr (k := 1) (pc' := 79) (lv' := [(0, .ref a0), (1, .ref a1), (2, .int x2)]) (st' := [.ref a0]) rfl ?_
    refine PC.pr (k := 1) (pc' := 81) (lv' := [(0, .ref a0), (1, .ref a1), (2, .int x2)]) (st' := [.int (-4), .ref a0]) rfl ?_
    refine PC.pI (ci := 3) (j := 4) rfl rfl ?_
    exact PC.retV rfl h
  · have h := h.2 (cmp_ge.2.mp c)
    refine PC.pr (k := 1) (pc' := 58) (lv' := [(0, .ref a0), (1, .ref a1), (2, .int x2)]) (st' := [.ref a0]) rfl ?_
    refine PC.gR (ci := 3) (j := 1) rfl rfl (by decide) ?_
    refine PC.pr (k := 1) (pc' := 62) (lv' := [(0, .ref a0), (1, .ref a1), (2, .int x2)]) (st' := [.int x2, .ref (rf a0 1)]) rfl ?_
    refine PC.ra rfl (fun c1 c2 => ?_)
    have h := h c1 c2
    refine PC.pr (k := 1) (pc' := 64) (lv' := [(0, .ref a0), (1, .ref a1), (2, .int x2)]) (st' := [.ref a1, .ref (re (rf a0 1) x2.toNatClampNeg)]) rfl ?_
    refine PC.gR (ci := 3) (j := 1) rfl rfl (by decide) ?_
    refine PC.pr (k := 1) (pc' := 68) (lv' := [(0, .ref a0), (1, .ref a1), (2, .int x2)]) (st' := [.int x2, .ref (rf a1 1), .ref (re (rf a0 1) x2.toNatClampNeg)]) rfl ?_
    refine PC.ra rfl (fun c1 c2 => ?_)
    have h := h c1 c2
    refine (PC.callV (j := 54) (args := [.ref (re (rf a0 1) x2.toNatClampNeg), .ref (re (rf a1 1) x2.toNatClampNeg)]) (rest := []) (M := cM54) rfl rfl rfl rfl rfl rfl (by decide) rfl rfl ?_).weak
    refine PC.imp h (fun _ κ1 h => ?_)
    refine PC.pr (k := 1) (pc' := 75) (lv' := [(2, .int (x2 + 1)), (0, .ref a0), (1, .ref a1)]) (st' := []) rfl ?_
    refine PC.pr (k := 1) (pc' := 49) (lv' := [(2, .int (x2 + 1)), (0, .ref a0), (1, .ref a1)]) (st' := []) rfl ?_
    exact PC.lv (lvE.cons rfl (lvE.cons rfl (lvE.cons rfl (lvE.nil)))) h

/-- DoorPaints$Visitor.become(LDoorPaints$Visitor;)V -/
theorem t_53_0 {xl : List Int32} {n : Nat} {ι : IS} {Q : Option Value → IS → Prop} {a0 : Nat} {a1 : Nat} (h : Q none (up (up (up (up ι a0 0 (ι a1 0)) a0 1 ((up ι a0 0 (ι a1 0)) a1 1)) a0 2 ((up (up ι a0 0 (ι a1 0)) a0 1 ((up ι a0 0 (ι a1 0)) a1 1)) a1 2)) a0 3 ((up (up (up ι a0 0 (ι a1 0)) a0 1 ((up ι a0 0 (ι a1 0)) a1 1)) a0 2 ((up (up ι a0 0 (ι a1 0)) a0 1 ((up ι a0 0 (ι a1 0)) a1 1)) a1 2)) a1 3))) : PC xl (n + 1) 53 0 [(0, .ref a0), (1, .ref a1)] [] ι Q := by
  refine PC.pr1 (k := 0) (pc' := 1) (lv' := [(0, .ref a0), (1, .ref a1)]) (st' := [.ref a0]) rfl ?_
  refine PC.pr (k := 1) (pc' := 2) (lv' := [(0, .ref a0), (1, .ref a1)]) (st' := [.ref a1, .ref a0]) rfl ?_
  refine PC.gI (ci := 4) (j := 0) rfl rfl (by decide) ?_
  refine PC.pI (ci := 4) (j := 0) rfl rfl ?_
  refine PC.pr (k := 1) (pc' := 9) (lv' := [(0, .ref a0), (1, .ref a1)]) (st' := [.ref a0]) rfl ?_
  refine PC.pr (k := 1) (pc' := 10) (lv' := [(0, .ref a0), (1, .ref a1)]) (st' := [.ref a1, .ref a0]) rfl ?_
  refine PC.gI (ci := 4) (j := 1) rfl rfl (by decide) ?_
  refine PC.pI (ci := 4) (j := 1) rfl rfl ?_
  refine PC.pr (k := 1) (pc' := 17) (lv' := [(0, .ref a0), (1, .ref a1)]) (st' := [.ref a0]) rfl ?_
  refine PC.pr (k := 1) (pc' := 18) (lv' := [(0, .ref a0), (1, .ref a1)]) (st' := [.ref a1, .ref a0]) rfl ?_
  refine PC.gI (ci := 4) (j := 2) rfl rfl (by decide) ?_
  refine PC.pI (ci := 4) (j := 2) rfl rfl ?_
  refine PC.pr (k := 1) (pc' := 25) (lv' := [(0, .ref a0), (1, .ref a1)]) (st' := [.ref a0]) rfl ?_
  refine PC.pr (k := 1) (pc' := 26) (lv' := [(0, .ref a0), (1, .ref a1)]) (st' := [.ref a1, .ref a0]) rfl ?_
  refine PC.gI (ci := 4) (j := 3) rfl rfl (by decide) ?_
  refine PC.pI (ci := 4) (j := 3) rfl rfl ?_
  exact PC.retV rfl h

/-- DoorPaints$Door.become(LDoorPaints$Door;)V -/
theorem t_54_0 {xl : List Int32} {n : Nat} {ι : IS} {Q : Option Value → IS → Prop} {a0 : Nat} {a1 : Nat} (h : PC xl n 54 2 [(0, .ref a0), (1, .ref a1), (2, .int 0)] [] ι Q) : PC xl (n + 1) 54 0 [(0, .ref a0), (1, .ref a1)] [] ι Q := by
  refine PC.pr1 (k := 0) (pc' := 1) (lv' := [(0, .ref a0), (1, .ref a1)]) (st' := [.int 0]) rfl ?_
  refine PC.pr (k := 1) (pc' := 2) (lv' := [(2, .int 0), (0, .ref a0), (1, .ref a1)]) (st' := []) rfl ?_
  exact PC.lv (lvE.cons rfl (lvE.cons rfl (lvE.cons rfl (lvE.nil)))) h
theorem t_54_2 {xl : List Int32} {n : Nat} {ι : IS} {Q : Option Value → IS → Prop} {a0 : Nat} {a1 : Nat} {x2 : Int32} (h : ((¬ x2 < (ι a1 1) → Q none (up (up (up ι a0 1 (ι a1 1)) a0 2 ((up ι a0 1 (ι a1 1)) a1 2)) a0 3 ((up (up ι a0 1 (ι a1 1)) a0 2 ((up ι a0 1 (ι a1 1)) a1 2)) a1 3))) ∧ (x2 < (ι a1 1) → (0 ≤ x2.toInt → x2.toInt < ln (rf a1 0) → (0 ≤ x2.toInt → x2.toInt < ln (rf a0 0) → PC xl n 54 2 [(0, .ref a0), (1, .ref a1), (2, .int (x2 + 1))] [] (up ι (rf a0 0) x2.toNatClampNeg (ι (rf a1 0) x2.toNatClampNeg)) Q))))) : PC xl (n + 1) 54 2 [(0, .ref a0), (1, .ref a1), (2, .int x2)] [] ι Q := by
  refine PC.pr1 (k := 0) (pc' := 3) (lv' := [(0, .ref a0), (1, .ref a1), (2, .int x2)]) (st' := [.int x2]) rfl ?_
  refine PC.pr (k := 1) (pc' := 4) (lv' := [(0, .ref a0), (1, .ref a1), (2, .int x2)]) (st' := [.ref a1, .int x2]) rfl ?_
  refine PC.gI (ci := 5) (j := 1) rfl rfl (by decide) ?_
  refine PC.if2 (t := 28) rfl rfl (fun c => ?_) (fun c => ?_)
  · have h := h.1 (cmp_ge.1.mp c)
    refine PC.pr (k := 1) (pc' := 29) (lv' := [(0, .ref a0), (1, .ref a1), (2, .int x2)]) (st' := [.ref a0]) rfl ?_
    refine PC.pr (k := 1) (pc' := 30) (lv' := [(0, .ref a0), (1, .ref a1), (2, .int x2)]) (st' := [.ref a1, .ref a0]) rfl ?_
    refine PC.gI (ci := 5) (j := 1) rfl rfl (by decide) ?_
    refine PC.pI (ci := 5) (j := 1) rfl rfl ?_
    refine PC.pr (k := 1) (pc' := 37) (lv' := [(0, .ref a0), (1, .ref a1), (2, .int x2)]) (st' := [.ref a0]) rfl ?_
    refine PC.pr (k := 1) (pc' := 38) (lv' := [(0, .ref a0), (1, .ref a1), (2, .int x2)]) (st' := [.ref a1, .ref a0]) rfl ?_
    refine PC.gI (ci := 5) (j := 2) rfl rfl (by decide) ?_
    refine PC.pI (ci := 5) (j := 2) rfl rfl ?_
    refine PC.pr (k := 1) (pc' := 45) (lv' := [(0, .ref a0), (1, .ref a1), (2, .int x2)]) (st' := [.ref a0]) rfl ?_
    refine PC.pr (k := 1) (pc' := 46) (lv' := [(0, .ref a0), (1, .ref a1), (2, .int x2)]) (st' := [.ref a1, .ref a0]) rfl ?_
    refine PC.gI (ci := 5) (j := 3) rfl rfl (by decide) ?_
    refine PC.pI (ci := 5) (j := 3) rfl rfl ?_
    exact PC.retV rfl h
  · have h := h.2 (cmp_ge.2.mp c)
    refine PC.pr (k := 1) (pc' := 11) (lv' := [(0, .ref a0), (1, .ref a1), (2, .int x2)]) (st' := [.ref a0]) rfl ?_
    refine PC.gR (ci := 5) (j := 0) rfl rfl (by decide) ?_
    refine PC.pr (k := 1) (pc' := 15) (lv' := [(0, .ref a0), (1, .ref a1), (2, .int x2)]) (st' := [.int x2, .ref (rf a0 0)]) rfl ?_
    refine PC.pr (k := 1) (pc' := 16) (lv' := [(0, .ref a0), (1, .ref a1), (2, .int x2)]) (st' := [.ref a1, .int x2, .ref (rf a0 0)]) rfl ?_
    refine PC.gR (ci := 5) (j := 0) rfl rfl (by decide) ?_
    refine PC.pr (k := 1) (pc' := 20) (lv' := [(0, .ref a0), (1, .ref a1), (2, .int x2)]) (st' := [.int x2, .ref (rf a1 0), .int x2, .ref (rf a0 0)]) rfl ?_
    refine PC.rd rfl (rf_lt _ _) (fun c1 c2 => ?_)
    have h := h c1 c2
    refine PC.wI rfl (fun c1 c2 => ?_)
    have h := h c1 c2
    refine PC.pr (k := 1) (pc' := 25) (lv' := [(2, .int (x2 + 1)), (0, .ref a0), (1, .ref a1)]) (st' := []) rfl ?_
    refine PC.pr (k := 1) (pc' := 2) (lv' := [(2, .int (x2 + 1)), (0, .ref a0), (1, .ref a1)]) (st' := []) rfl ?_
    exact PC.lv (lvE.cons rfl (lvE.cons rfl (lvE.cons rfl (lvE.nil)))) h

