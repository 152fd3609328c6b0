section
/-! WHAT RUNS ASK (written by a program) -/
/-- DoorPaints$Tape.advance()V -/
theorem t_19_0 {xl : List Int32} {n : Nat} {ι : IS} {Q : Option Value → IS → Prop} {a0 : Nat} (h : ((¬ (ι a0 4) < (ι a0 1) → PC xl n 19 38 [(0, .ref a0)] [] ι Q) ∧ ((ι a0 4) < (ι a0 1) → (0 ≤ (ι a0 4).toInt → (ι a0 4).toInt < ln (rf a0 0) → ((¬ (ι (rf a0 0) (ι a0 4).toNatClampNeg) = 32 → PC xl n 19 38 [(0, .ref a0)] [] ι Q) ∧ ((ι (rf a0 0) (ι a0 4).toNatClampNeg) = 32 → PC xl n 19 0 [(0, .ref a0)] [] (up ι a0 4 ((ι a0 4) + 1)) Q)))))) : PC xl (n + 1) 19 0 [(0, .ref a0)] [] ι Q := by
  refine PC.pr1 (k := 0) (pc' := 1) (lv' := [(0, .ref a0)]) (st' := [.ref a0]) rfl ?_
  refine PC.gI (ci := 6) (j := 4) rfl rfl (by decide) ?_
  refine PC.pr (k := 1) (pc' := 5) (lv' := [(0, .ref a0)]) (st' := [.ref a0, .int (ι a0 4)]) rfl ?_
  refine PC.gI (ci := 6) (j := 1) rfl rfl (by decide) ?_
  refine PC.if2 (t := 38) rfl rfl (fun c => ?_) (fun c => ?_)
  · have h := h.1 (cmp_ge.1.mp c)
    exact h
  · have h := h.2 (cmp_ge.2.mp c)
    refine PC.pr (k := 1) (pc' := 12) (lv' := [(0, .ref a0)]) (st' := [.ref a0]) rfl ?_
    refine PC.gR (ci := 6) (j := 0) rfl rfl (by decide) ?_
    refine PC.pr (k := 1) (pc' := 16) (lv' := [(0, .ref a0)]) (st' := [.ref a0, .ref (rf a0 0)]) rfl ?_
    refine PC.gI (ci := 6) (j := 4) rfl rfl (by decide) ?_
    refine PC.rd rfl (rf_lt _ _) (fun c1 c2 => ?_)
    have h := h c1 c2
    refine PC.pr (k := 1) (pc' := 22) (lv' := [(0, .ref a0)]) (st' := [.int 32, .int (ι (rf a0 0) (ι a0 4).toNatClampNeg)]) rfl ?_
    refine PC.if2 (t := 38) rfl rfl (fun c => ?_) (fun c => ?_)
    · have h := h.1 (cmp_ne.1.mp c)
      exact h
    · have h := h.2 (cmp_ne.2.mp c)
      refine PC.pr (k := 1) (pc' := 26) (lv' := [(0, .ref a0)]) (st' := [.ref a0]) rfl ?_
      refine PC.pr (k := 1) (pc' := 27) (lv' := [(0, .ref a0)]) (st' := [.ref a0, .ref a0]) rfl ?_
      refine PC.gI (ci := 6) (j := 4) rfl rfl (by decide) ?_
      refine PC.pr (k := 1) (pc' := 31) (lv' := [(0, .ref a0)]) (st' := [.int 1, .int (ι a0 4), .ref a0]) rfl ?_
      refine PC.pr (k := 1) (pc' := 32) (lv' := [(0, .ref a0)]) (st' := [.int ((ι a0 4) + 1), .ref a0]) rfl ?_
      refine PC.pI (ci := 6) (j := 4) rfl rfl ?_
      refine PC.pr (k := 1) (pc' := 0) (lv' := [(0, .ref a0)]) (st' := []) rfl ?_
      exact h
theorem t_19_38 {xl : List Int32} {n : Nat} {ι : IS} {Q : Option Value → IS → Prop} {a0 : Nat} (h : ((((up ι a0 3 (ι a0 4)) a0 4) < ((up ι a0 3 (ι a0 4)) a0 1) → PC xl n 20 0 [(0, .ref a0), (1, .int 97), (2, .int 122)] [] (up ι a0 3 (ι a0 4)) (fun v1 κ1 => ∀ r1, v1 = some (.int r1) → ((r1 = 0 → PC xl n 20 0 [(0, .ref a0), (1, .int 48), (2, .int 57)] [] κ1 (fun v2 κ2 => ∀ r2, v2 = some (.int r2) → ((r2 = 0 → (0 ≤ (κ2 a0 4).toInt → (κ2 a0 4).toInt < ln (rf a0 0) → ((¬ (κ2 (rf a0 0) (κ2 a0 4).toNatClampNeg) = 59 → Q none (up (up κ2 a0 2 4) a0 4 (((up κ2 a0 2 4) a0 4) + 1))) ∧ ((κ2 (rf a0 0) (κ2 a0 4).toNatClampNeg) = 59 → Q none (up (up κ2 a0 2 3) a0 4 (((up κ2 a0 2 3) a0 4) + 1)))))) ∧ (¬ r2 = 0 → PC xl n 21 0 [(0, .ref a0)] [] κ2 (fun _ κ3 => Q none κ3))))) ∧ (¬ r1 = 0 → Q none (up κ1 a0 2 1))))) ∧ (¬ ((up ι a0 3 (ι a0 4)) a0 4) < ((up ι a0 3 (ι a0 4)) a0 1) → Q none (up (up ι a0 3 (ι a0 4)) a0 2 0)))) : PC xl (n + 1) 19 38 [(0, .ref a0)] [] ι Q := by
  refine PC.pr1 (k := 0) (pc' := 39) (lv' := [(0, .ref a0)]) (st' := [.ref a0]) rfl ?_
  refine PC.pr (k := 1) (pc' := 40) (lv' := [(0, .ref a0)]) (st' := [.ref a0, .ref a0]) rfl ?_
  refine PC.gI (ci := 6) (j := 4) rfl rfl (by decide) ?_
  refine PC.pI (ci := 6) (j := 3) rfl rfl ?_
  refine PC.pr (k := 1) (pc' := 47) (lv' := [(0, .ref a0)]) (st' := [.ref a0]) rfl ?_
  refine PC.gI (ci := 6) (j := 4) rfl rfl (by decide) ?_
  refine PC.pr (k := 1) (pc' := 51) (lv' := [(0, .ref a0)]) (st' := [.ref a0, .int ((up ι a0 3 (ι a0 4)) a0 4)]) rfl ?_
  refine PC.gI (ci := 6) (j := 1) rfl rfl (by decide) ?_
  refine PC.if2 (t := 65) rfl rfl (fun c => ?_) (fun c => ?_)
  · have h := h.1 (cmp_lt.1.mp c)
    refine PC.pr (k := 1) (pc' := 66) (lv' := [(0, .ref a0)]) (st' := [.ref a0]) rfl ?_
    refine PC.pr (k := 1) (pc' := 68) (lv' := [(0, .ref a0)]) (st' := [.int 97, .ref a0]) rfl ?_
    refine PC.pr (k := 1) (pc' := 70) (lv' := [(0, .ref a0)]) (st' := [.int 122, .int 97, .ref a0]) rfl ?_
    refine (PC.callI (j := 20) (args := [.ref a0, .int 97, .int 122]) (rest := []) (M := cM20) (ty := .boolean) rfl rfl rfl rfl rfl rfl (by decide) rfl rfl (by decide) ?_).weak
    refine PC.imp h (fun v1 κ1 h r1 hv => ?_)
    have h := h r1 hv
    refine PC.if1 (t := 84) rfl rfl (fun c => ?_) (fun c => ?_)
    · have h := h.1 (cmp_eq.1.mp c)
      refine PC.pr (k := 1) (pc' := 85) (lv' := [(0, .ref a0)]) (st' := [.ref a0]) rfl ?_
      refine PC.pr (k := 1) (pc' := 87) (lv' := [(0, .ref a0)]) (st' := [.int 48, .ref a0]) rfl ?_
      refine PC.pr (k := 1) (pc' := 89) (lv' := [(0, .ref a0)]) (st' := [.int 57, .int 48, .ref a0]) rfl ?_
      refine (PC.callI (j := 20) (args := [.ref a0, .int 48, .int 57]) (rest := []) (M := cM20) (ty := .boolean) rfl rfl rfl rfl rfl rfl (by decide) rfl rfl (by decide) ?_).weak
      refine PC.imp h (fun v2 κ2 h r2 hv => ?_)
      have h := h r2 hv
      refine PC.if1 (t := 102) rfl rfl (fun c => ?_) (fun c => ?_)
      · have h := h.1 (cmp_eq.1.mp c)
        refine PC.pr (k := 1) (pc' := 103) (lv' := [(0, .ref a0)]) (st' := [.ref a0]) rfl ?_
        refine PC.pr (k := 1) (pc' := 104) (lv' := [(0, .ref a0)]) (st' := [.ref a0, .ref a0]) rfl ?_
        refine PC.gR (ci := 6) (j := 0) rfl rfl (by decide) ?_
        refine PC.pr (k := 1) (pc' := 108) (lv' := [(0, .ref a0)]) (st' := [.ref a0, .ref (rf a0 0), .ref a0]) rfl ?_
        refine PC.gI (ci := 6) (j := 4) rfl rfl (by decide) ?_
        refine PC.rd rfl (rf_lt _ _) (fun c1 c2 => ?_)
        have h := h c1 c2
        refine PC.pr (k := 1) (pc' := 114) (lv' := [(0, .ref a0)]) (st' := [.int 59, .int (κ2 (rf a0 0) (κ2 a0 4).toNatClampNeg), .ref a0]) rfl ?_
        refine PC.if2 (t := 121) rfl rfl (fun c => ?_) (fun c => ?_)
        · have h := h.1 (cmp_ne.1.mp c)
          refine PC.pr (k := 1) (pc' := 122) (lv' := [(0, .ref a0)]) (st' := [.int 4, .ref a0]) rfl ?_
          refine PC.pI (ci := 6) (j := 2) rfl rfl ?_
          refine PC.pr (k := 1) (pc' := 126) (lv' := [(0, .ref a0)]) (st' := [.ref a0]) rfl ?_
          refine PC.pr (k := 1) (pc' := 127) (lv' := [(0, .ref a0)]) (st' := [.ref a0, .ref a0]) rfl ?_
          refine PC.gI (ci := 6) (j := 4) rfl rfl (by decide) ?_
          refine PC.pr (k := 1) (pc' := 131) (lv' := [(0, .ref a0)]) (st' := [.int 1, .int ((up κ2 a0 2 4) a0 4), .ref a0]) rfl ?_
          refine PC.pr (k := 1) (pc' := 132) (lv' := [(0, .ref a0)]) (st' := [.int (((up κ2 a0 2 4) a0 4) + 1), .ref a0]) rfl ?_
          refine PC.pI (ci := 6) (j := 4) rfl rfl ?_
          exact PC.retV rfl h
        · have h := h.2 (cmp_ne.2.mp c)
          refine PC.pr (k := 1) (pc' := 118) (lv' := [(0, .ref a0)]) (st' := [.int 3, .ref a0]) rfl ?_
          refine PC.pr (k := 1) (pc' := 122) (lv' := [(0, .ref a0)]) (st' := [.int 3, .ref a0]) rfl ?_
          refine PC.pI (ci := 6) (j := 2) rfl rfl ?_
          refine PC.pr (k := 1) (pc' := 126) (lv' := [(0, .ref a0)]) (st' := [.ref a0]) rfl ?_
          refine PC.pr (k := 1) (pc' := 127) (lv' := [(0, .ref a0)]) (st' := [.ref a0, .ref a0]) rfl ?_
          refine PC.gI (ci := 6) (j := 4) rfl rfl (by decide) ?_
          refine PC.pr (k := 1) (pc' := 131) (lv' := [(0, .ref a0)]) (st' := [.int 1, .int ((up κ2 a0 2 3) a0 4), .ref a0]) rfl ?_
          refine PC.pr (k := 1) (pc' := 132) (lv' := [(0, .ref a0)]) (st' := [.int (((up κ2 a0 2 3) a0 4) + 1), .ref a0]) rfl ?_
          refine PC.pI (ci := 6) (j := 4) rfl rfl ?_
          exact PC.retV rfl h
      · have h := h.2 (cmp_eq.2.mp c)
        refine PC.pr (k := 1) (pc' := 96) (lv' := [(0, .ref a0)]) (st' := [.ref a0]) rfl ?_
        refine (PC.callV (j := 21) (args := [.ref a0]) (rest := []) (M := cM21) rfl rfl rfl rfl rfl rfl (by decide) rfl rfl ?_).weak
        refine PC.imp h (fun _ κ3 h => ?_)
        refine PC.pr (k := 1) (pc' := 135) (lv' := [(0, .ref a0)]) (st' := []) rfl ?_
        exact PC.retV rfl h
    · have h := h.2 (cmp_eq.2.mp c)
      refine PC.pr (k := 1) (pc' := 77) (lv' := [(0, .ref a0)]) (st' := [.ref a0]) rfl ?_
      refine PC.pr (k := 1) (pc' := 78) (lv' := [(0, .ref a0)]) (st' := [.int 1, .ref a0]) rfl ?_
      refine PC.pI (ci := 6) (j := 2) rfl rfl ?_
      refine PC.pr (k := 1) (pc' := 135) (lv' := [(0, .ref a0)]) (st' := []) rfl ?_
      exact PC.retV rfl h
  · have h := h.2 (cmp_lt.2.mp c)
    refine PC.pr (k := 1) (pc' := 58) (lv' := [(0, .ref a0)]) (st' := [.ref a0]) rfl ?_
    refine PC.pr (k := 1) (pc' := 59) (lv' := [(0, .ref a0)]) (st' := [.int 0, .ref a0]) rfl ?_
    refine PC.pI (ci := 6) (j := 2) rfl rfl ?_
    refine PC.pr (k := 1) (pc' := 135) (lv' := [(0, .ref a0)]) (st' := []) rfl ?_
    exact PC.retV rfl h

/-- DoorPaints$Tape.skip(II)Z -/
theorem t_20_0 {xl : List Int32} {n : Nat} {ι : IS} {Q : Option Value → IS → Prop} {a0 : Nat} {x1 : Int32} {x2 : Int32} (h : ((¬ (ι a0 4) < (ι a0 1) → ((¬ (ι a0 3) < (ι a0 4) → Q (some (.int 0)) ι) ∧ ((ι a0 3) < (ι a0 4) → Q (some (.int 1)) ι))) ∧ ((ι a0 4) < (ι a0 1) → (0 ≤ (ι a0 4).toInt → (ι a0 4).toInt < ln (rf a0 0) → (((ι (rf a0 0) (ι a0 4).toNatClampNeg) < x1 → ((¬ (ι a0 3) < (ι a0 4) → Q (some (.int 0)) ι) ∧ ((ι a0 3) < (ι a0 4) → Q (some (.int 1)) ι))) ∧ (¬ (ι (rf a0 0) (ι a0 4).toNatClampNeg) < x1 → (0 ≤ (ι a0 4).toInt → (ι a0 4).toInt < ln (rf a0 0) → ((x2 < (ι (rf a0 0) (ι a0 4).toNatClampNeg) → ((¬ (ι a0 3) < (ι a0 4) → Q (some (.int 0)) ι) ∧ ((ι a0 3) < (ι a0 4) → Q (some (.int 1)) ι))) ∧ (¬ x2 < (ι (rf a0 0) (ι a0 4).toNatClampNeg) → PC xl n 20 0 [(0, .ref a0), (1, .int x1), (2, .int x2)] [] (up ι a0 4 ((ι a0 4) + 1)) Q))))))))) : PC xl (n + 1) 20 0 [(0, .ref a0), (1, .int x1), (2, .int x2)] [] ι Q := by
  refine PC.pr1 (k := 0) (pc' := 1) (lv' := [(0, .ref a0), (1, .int x1), (2, .int x2)]) (st' := [.ref a0]) rfl ?_
  refine PC.gI (ci := 6) (j := 4) rfl rfl (by decide) ?_
  refine PC.pr (k := 1) (pc' := 5) (lv' := [(0, .ref a0), (1, .int x1), (2, .int x2)]) (st' := [.ref a0, .int (ι a0 4)]) rfl ?_
  refine PC.gI (ci := 6) (j := 1) rfl rfl (by decide) ?_
  refine PC.if2 (t := 50) rfl rfl (fun c => ?_) (fun c => ?_)
  · have h := h.1 (cmp_ge.1.mp c)
    refine PC.pr (k := 1) (pc' := 51) (lv' := [(0, .ref a0), (1, .int x1), (2, .int x2)]) (st' := [.ref a0]) rfl ?_
    refine PC.gI (ci := 6) (j := 4) rfl rfl (by decide) ?_
    refine PC.pr (k := 1) (pc' := 55) (lv' := [(0, .ref a0), (1, .int x1), (2, .int x2)]) (st' := [.ref a0, .int (ι a0 4)]) rfl ?_
    refine PC.gI (ci := 6) (j := 3) rfl rfl (by decide) ?_
    refine PC.if2 (t := 65) rfl rfl (fun c => ?_) (fun c => ?_)
    · have h := h.1 (cmp_le.1.mp c)
      refine PC.pr (k := 1) (pc' := 66) (lv' := [(0, .ref a0), (1, .int x1), (2, .int x2)]) (st' := [.int 0]) rfl ?_
      exact PC.retI rfl h
    · have h := h.2 (cmp_le.2.mp c)
      refine PC.pr (k := 1) (pc' := 62) (lv' := [(0, .ref a0), (1, .int x1), (2, .int x2)]) (st' := [.int 1]) rfl ?_
      refine PC.pr (k := 1) (pc' := 66) (lv' := [(0, .ref a0), (1, .int x1), (2, .int x2)]) (st' := [.int 1]) rfl ?_
      exact PC.retI rfl h
  · have h := h.2 (cmp_ge.2.mp c)
    refine PC.pr (k := 1) (pc' := 12) (lv' := [(0, .ref a0), (1, .int x1), (2, .int x2)]) (st' := [.ref a0]) rfl ?_
    refine PC.gR (ci := 6) (j := 0) rfl rfl (by decide) ?_
    refine PC.pr (k := 1) (pc' := 16) (lv' := [(0, .ref a0), (1, .int x1), (2, .int x2)]) (st' := [.ref a0, .ref (rf a0 0)]) rfl ?_
    refine PC.gI (ci := 6) (j := 4) rfl rfl (by decide) ?_
    refine PC.rd rfl (rf_lt _ _) (fun c1 c2 => ?_)
    have h := h c1 c2
    refine PC.pr (k := 1) (pc' := 21) (lv' := [(0, .ref a0), (1, .int x1), (2, .int x2)]) (st' := [.int x1, .int (ι (rf a0 0) (ι a0 4).toNatClampNeg)]) rfl ?_
    refine PC.if2 (t := 50) rfl rfl (fun c => ?_) (fun c => ?_)
    · have h := h.1 (cmp_lt.1.mp c)
      refine PC.pr (k := 1) (pc' := 51) (lv' := [(0, .ref a0), (1, .int x1), (2, .int x2)]) (st' := [.ref a0]) rfl ?_
      refine PC.gI (ci := 6) (j := 4) rfl rfl (by decide) ?_
      refine PC.pr (k := 1) (pc' := 55) (lv' := [(0, .ref a0), (1, .int x1), (2, .int x2)]) (st' := [.ref a0, .int (ι a0 4)]) rfl ?_
      refine PC.gI (ci := 6) (j := 3) rfl rfl (by decide) ?_
      refine PC.if2 (t := 65) rfl rfl (fun c => ?_) (fun c => ?_)
      · have h := h.1 (cmp_le.1.mp c)
        refine PC.pr (k := 1) (pc' := 66) (lv' := [(0, .ref a0), (1, .int x1), (2, .int x2)]) (st' := [.int 0]) rfl ?_
        exact PC.retI rfl h
      · have h := h.2 (cmp_le.2.mp c)
        refine PC.pr (k := 1) (pc' := 62) (lv' := [(0, .ref a0), (1, .int x1), (2, .int x2)]) (st' := [.int 1]) rfl ?_
        refine PC.pr (k := 1) (pc' := 66) (lv' := [(0, .ref a0), (1, .int x1), (2, .int x2)]) (st' := [.int 1]) rfl ?_
        exact PC.retI rfl h
    · have h := h.2 (cmp_lt.2.mp c)
      refine PC.pr (k := 1) (pc' := 25) (lv' := [(0, .ref a0), (1, .int x1), (2, .int x2)]) (st' := [.ref a0]) rfl ?_
      refine PC.gR (ci := 6) (j := 0) rfl rfl (by decide) ?_
      refine PC.pr (k := 1) (pc' := 29) (lv' := [(0, .ref a0), (1, .int x1), (2, .int x2)]) (st' := [.ref a0, .ref (rf a0 0)]) rfl ?_
      refine PC.gI (ci := 6) (j := 4) rfl rfl (by decide) ?_
      refine PC.rd rfl (rf_lt _ _) (fun c1 c2 => ?_)
      have h := h c1 c2
      refine PC.pr (k := 1) (pc' := 34) (lv' := [(0, .ref a0), (1, .int x1), (2, .int x2)]) (st' := [.int x2, .int (ι (rf a0 0) (ι a0 4).toNatClampNeg)]) rfl ?_
      refine PC.if2 (t := 50) rfl rfl (fun c => ?_) (fun c => ?_)
      · have h := h.1 (cmp_gt.1.mp c)
        refine PC.pr (k := 1) (pc' := 51) (lv' := [(0, .ref a0), (1, .int x1), (2, .int x2)]) (st' := [.ref a0]) rfl ?_
        refine PC.gI (ci := 6) (j := 4) rfl rfl (by decide) ?_
        refine PC.pr (k := 1) (pc' := 55) (lv' := [(0, .ref a0), (1, .int x1), (2, .int x2)]) (st' := [.ref a0, .int (ι a0 4)]) rfl ?_
        refine PC.gI (ci := 6) (j := 3) rfl rfl (by decide) ?_
        refine PC.if2 (t := 65) rfl rfl (fun c => ?_) (fun c => ?_)
        · have h := h.1 (cmp_le.1.mp c)
          refine PC.pr (k := 1) (pc' := 66) (lv' := [(0, .ref a0), (1, .int x1), (2, .int x2)]) (st' := [.int 0]) rfl ?_
          exact PC.retI rfl h
        · have h := h.2 (cmp_le.2.mp c)
          refine PC.pr (k := 1) (pc' := 62) (lv' := [(0, .ref a0), (1, .int x1), (2, .int x2)]) (st' := [.int 1]) rfl ?_
          refine PC.pr (k := 1) (pc' := 66) (lv' := [(0, .ref a0), (1, .int x1), (2, .int x2)]) (st' := [.int 1]) rfl ?_
          exact PC.retI rfl h
      · have h := h.2 (cmp_gt.2.mp c)
        refine PC.pr (k := 1) (pc' := 38) (lv' := [(0, .ref a0), (1, .int x1), (2, .int x2)]) (st' := [.ref a0]) rfl ?_
        refine PC.pr (k := 1) (pc' := 39) (lv' := [(0, .ref a0), (1, .int x1), (2, .int x2)]) (st' := [.ref a0, .ref a0]) rfl ?_
        refine PC.gI (ci := 6) (j := 4) rfl rfl (by decide) ?_
        refine PC.pr (k := 1) (pc' := 43) (lv' := [(0, .ref a0), (1, .int x1), (2, .int x2)]) (st' := [.int 1, .int (ι a0 4), .ref a0]) rfl ?_
        refine PC.pr (k := 1) (pc' := 44) (lv' := [(0, .ref a0), (1, .int x1), (2, .int x2)]) (st' := [.int ((ι a0 4) + 1), .ref a0]) rfl ?_
        refine PC.pI (ci := 6) (j := 4) rfl rfl ?_
        refine PC.pr (k := 1) (pc' := 0) (lv' := [(0, .ref a0), (1, .int x1), (2, .int x2)]) (st' := []) rfl ?_
        exact h

/-- DoorPaints$Tape.takeNumber()V -/
theorem t_21_0 {xl : List Int32} {n : Nat} {ι : IS} {Q : Option Value → IS → Prop} {a0 : Nat} (h : ((¬ 2 < ((ι a0 4) - (ι a0 3)) → PC xl n 21 32 [(0, .ref a0), (1, .int ((up (up ι a0 2 2) a0 5 0) a0 3))] [] (up (up ι a0 2 2) a0 5 0) Q) ∧ (2 < ((ι a0 4) - (ι a0 3)) → PC xl n 21 32 [(0, .ref a0), (1, .int ((up (up ι a0 2 4) a0 5 0) a0 3))] [] (up (up ι a0 2 4) a0 5 0) Q))) : PC xl (n + 1) 21 0 [(0, .ref a0)] [] ι Q := by
  refine PC.pr1 (k := 0) (pc' := 1) (lv' := [(0, .ref a0)]) (st' := [.ref a0]) rfl ?_
  refine PC.pr (k := 1) (pc' := 2) (lv' := [(0, .ref a0)]) (st' := [.ref a0, .ref a0]) rfl ?_
  refine PC.gI (ci := 6) (j := 4) rfl rfl (by decide) ?_
  refine PC.pr (k := 1) (pc' := 6) (lv' := [(0, .ref a0)]) (st' := [.ref a0, .int (ι a0 4), .ref a0]) rfl ?_
  refine PC.gI (ci := 6) (j := 3) rfl rfl (by decide) ?_
  refine PC.pr (k := 1) (pc' := 10) (lv' := [(0, .ref a0)]) (st' := [.int ((ι a0 4) - (ι a0 3)), .ref a0]) rfl ?_
  refine PC.pr (k := 1) (pc' := 11) (lv' := [(0, .ref a0)]) (st' := [.int 2, .int ((ι a0 4) - (ι a0 3)), .ref a0]) rfl ?_
  refine PC.if2 (t := 18) rfl rfl (fun c => ?_) (fun c => ?_)
  · have h := h.1 (cmp_le.1.mp c)
    refine PC.pr (k := 1) (pc' := 19) (lv' := [(0, .ref a0)]) (st' := [.int 2, .ref a0]) rfl ?_
    refine PC.pI (ci := 6) (j := 2) rfl rfl ?_
    refine PC.pr (k := 1) (pc' := 23) (lv' := [(0, .ref a0)]) (st' := [.ref a0]) rfl ?_
    refine PC.pr (k := 1) (pc' := 24) (lv' := [(0, .ref a0)]) (st' := [.int 0, .ref a0]) rfl ?_
    refine PC.pI (ci := 6) (j := 5) rfl rfl ?_
    refine PC.pr (k := 1) (pc' := 28) (lv' := [(0, .ref a0)]) (st' := [.ref a0]) rfl ?_
    refine PC.gI (ci := 6) (j := 3) rfl rfl (by decide) ?_
    refine PC.pr (k := 1) (pc' := 32) (lv' := [(1, .int ((up (up ι a0 2 2) a0 5 0) a0 3)), (0, .ref a0)]) (st' := []) rfl ?_
    exact PC.lv (lvE.cons rfl (lvE.cons rfl (lvE.nil))) h
  · have h := h.2 (cmp_le.2.mp c)
    refine PC.pr (k := 1) (pc' := 15) (lv' := [(0, .ref a0)]) (st' := [.int 4, .ref a0]) rfl ?_
    refine PC.pr (k := 1) (pc' := 19) (lv' := [(0, .ref a0)]) (st' := [.int 4, .ref a0]) rfl ?_
    refine PC.pI (ci := 6) (j := 2) rfl rfl ?_
    refine PC.pr (k := 1) (pc' := 23) (lv' := [(0, .ref a0)]) (st' := [.ref a0]) rfl ?_
    refine PC.pr (k := 1) (pc' := 24) (lv' := [(0, .ref a0)]) (st' := [.int 0, .ref a0]) rfl ?_
    refine PC.pI (ci := 6) (j := 5) rfl rfl ?_
    refine PC.pr (k := 1) (pc' := 28) (lv' := [(0, .ref a0)]) (st' := [.ref a0]) rfl ?_
    refine PC.gI (ci := 6) (j := 3) rfl rfl (by decide) ?_
    refine PC.pr (k := 1) (pc' := 32) (lv' := [(1, .int ((up (up ι a0 2 4) a0 5 0) a0 3)), (0, .ref a0)]) (st' := []) rfl ?_
    exact PC.lv (lvE.cons rfl (lvE.cons rfl (lvE.nil))) h
theorem t_21_32 {xl : List Int32} {n : Nat} {ι : IS} {Q : Option Value → IS → Prop} {a0 : Nat} {x1 : Int32} (h : ((¬ x1 < (ι a0 4) → Q none ι) ∧ (x1 < (ι a0 4) → ((¬ (ι a0 2) = 2 → Q none ι) ∧ ((ι a0 2) = 2 → (0 ≤ x1.toInt → x1.toInt < ln (rf a0 0) → PC xl n 21 32 [(0, .ref a0), (1, .int (x1 + 1))] [] (up ι a0 5 ((((ι a0 5) * 10) + (ι (rf a0 0) x1.toNatClampNeg)) - 48)) Q)))))) : PC xl (n + 1) 21 32 [(0, .ref a0), (1, .int x1)] [] ι Q := by
  refine PC.pr1 (k := 0) (pc' := 33) (lv' := [(0, .ref a0), (1, .int x1)]) (st' := [.int x1]) rfl ?_
  refine PC.pr (k := 1) (pc' := 34) (lv' := [(0, .ref a0), (1, .int x1)]) (st' := [.ref a0, .int x1]) rfl ?_
  refine PC.gI (ci := 6) (j := 4) rfl rfl (by decide) ?_
  refine PC.if2 (t := 75) rfl rfl (fun c => ?_) (fun c => ?_)
  · have h := h.1 (cmp_ge.1.mp c)
    exact PC.retV rfl h
  · have h := h.2 (cmp_ge.2.mp c)
    refine PC.pr (k := 1) (pc' := 41) (lv' := [(0, .ref a0), (1, .int x1)]) (st' := [.ref a0]) rfl ?_
    refine PC.gI (ci := 6) (j := 2) rfl rfl (by decide) ?_
    refine PC.pr (k := 1) (pc' := 45) (lv' := [(0, .ref a0), (1, .int x1)]) (st' := [.int 2, .int (ι a0 2)]) rfl ?_
    refine PC.if2 (t := 75) rfl rfl (fun c => ?_) (fun c => ?_)
    · have h := h.1 (cmp_ne.1.mp c)
      exact PC.retV rfl h
    · have h := h.2 (cmp_ne.2.mp c)
      refine PC.pr (k := 1) (pc' := 49) (lv' := [(0, .ref a0), (1, .int x1)]) (st' := [.ref a0]) rfl ?_
      refine PC.pr (k := 1) (pc' := 50) (lv' := [(0, .ref a0), (1, .int x1)]) (st' := [.ref a0, .ref a0]) rfl ?_
      refine PC.gI (ci := 6) (j := 5) rfl rfl (by decide) ?_
      refine PC.pr (k := 1) (pc' := 55) (lv' := [(0, .ref a0), (1, .int x1)]) (st' := [.int 10, .int (ι a0 5), .ref a0]) rfl ?_
      refine PC.pr (k := 1) (pc' := 56) (lv' := [(0, .ref a0), (1, .int x1)]) (st' := [.int ((ι a0 5) * 10), .ref a0]) rfl ?_
      refine PC.pr (k := 1) (pc' := 57) (lv' := [(0, .ref a0), (1, .int x1)]) (st' := [.ref a0, .int ((ι a0 5) * 10), .ref a0]) rfl ?_
      refine PC.gR (ci := 6) (j := 0) rfl rfl (by decide) ?_
      refine PC.pr (k := 1) (pc' := 61) (lv' := [(0, .ref a0), (1, .int x1)]) (st' := [.int x1, .ref (rf a0 0), .int ((ι a0 5) * 10), .ref a0]) rfl ?_
      refine PC.rd rfl (rf_lt _ _) (fun c1 c2 => ?_)
      have h := h c1 c2
      refine PC.pr (k := 1) (pc' := 63) (lv' := [(0, .ref a0), (1, .int x1)]) (st' := [.int (((ι a0 5) * 10) + (ι (rf a0 0) x1.toNatClampNeg)), .ref a0]) rfl ?_
      refine PC.pr (k := 1) (pc' := 65) (lv' := [(0, .ref a0), (1, .int x1)]) (st' := [.int 48, .int (((ι a0 5) * 10) + (ι (rf a0 0) x1.toNatClampNeg)), .ref a0]) rfl ?_
      refine PC.pr (k := 1) (pc' := 66) (lv' := [(0, .ref a0), (1, .int x1)]) (st' := [.int ((((ι a0 5) * 10) + (ι (rf a0 0) x1.toNatClampNeg)) - 48), .ref a0]) rfl ?_
      refine PC.pI (ci := 6) (j := 5) rfl rfl ?_
      refine PC.pr (k := 1) (pc' := 72) (lv' := [(1, .int (x1 + 1)), (0, .ref a0)]) (st' := []) rfl ?_
      refine PC.pr (k := 1) (pc' := 32) (lv' := [(1, .int (x1 + 1)), (0, .ref a0)]) (st' := []) rfl ?_
      exact PC.lv (lvE.cons rfl (lvE.cons rfl (lvE.nil))) h

/-- DoorPaintsModel.in(JJJ)Z -/
theorem t_148_0 {xl : List Int32} {n : Nat} {ι : IS} {Q : Option Value → IS → Prop} {y0 : Int64} {y2 : Int64} {y4 : Int64} (h : (((lg_cmp y0 y2) < 0 → Q (some (.int 0)) ι) ∧ (¬ (lg_cmp y0 y2) < 0 → ((0 < (lg_cmp y0 y4) → Q (some (.int 0)) ι) ∧ (¬ 0 < (lg_cmp y0 y4) → Q (some (.int 1)) ι))))) : PC xl (n + 1) 148 0 [(0, .long y0), (2, .long y2), (4, .long y4)] [] ι Q := by
  refine PC.pr1 (k := 0) (pc' := 1) (lv' := [(0, .long y0), (2, .long y2), (4, .long y4)]) (st' := [.long y0]) rfl ?_
  refine PC.pr (k := 1) (pc' := 2) (lv' := [(0, .long y0), (2, .long y2), (4, .long y4)]) (st' := [.long y2, .long y0]) rfl ?_
  refine PC.pr (k := 1) (pc' := 3) (lv' := [(0, .long y0), (2, .long y2), (4, .long y4)]) (st' := [.int (lg_cmp y0 y2)]) rfl ?_
  refine PC.if1 (t := 17) rfl rfl (fun c => ?_) (fun c => ?_)
  · have h := h.1 (cmp_lt.1.mp c)
    refine PC.pr (k := 1) (pc' := 18) (lv' := [(0, .long y0), (2, .long y2), (4, .long y4)]) (st' := [.int 0]) rfl ?_
    exact PC.retI rfl h
  · have h := h.2 (cmp_lt.2.mp c)
    refine PC.pr (k := 1) (pc' := 7) (lv' := [(0, .long y0), (2, .long y2), (4, .long y4)]) (st' := [.long y0]) rfl ?_
    refine PC.pr (k := 1) (pc' := 9) (lv' := [(0, .long y0), (2, .long y2), (4, .long y4)]) (st' := [.long y4, .long y0]) rfl ?_
    refine PC.pr (k := 1) (pc' := 10) (lv' := [(0, .long y0), (2, .long y2), (4, .long y4)]) (st' := [.int (lg_cmp y0 y4)]) rfl ?_
    refine PC.if1 (t := 17) rfl rfl (fun c => ?_) (fun c => ?_)
    · have h := h.1 (cmp_gt.1.mp c)
      refine PC.pr (k := 1) (pc' := 18) (lv' := [(0, .long y0), (2, .long y2), (4, .long y4)]) (st' := [.int 0]) rfl ?_
      exact PC.retI rfl h
    · have h := h.2 (cmp_gt.2.mp c)
      refine PC.pr (k := 1) (pc' := 14) (lv' := [(0, .long y0), (2, .long y2), (4, .long y4)]) (st' := [.int 1]) rfl ?_
      refine PC.pr (k := 1) (pc' := 18) (lv' := [(0, .long y0), (2, .long y2), (4, .long y4)]) (st' := [.int 1]) rfl ?_
      exact PC.retI rfl h

/-- DoorPaintsModel.next()V -/
theorem t_151_0 {xl : List Int32} {n : Nat} {ι : IS} {Q : Option Value → IS → Prop} {a0 : Nat} (h : ((¬ 0 < (ι a0 18) → PC xl n 151 8 [(0, .ref a0)] [] ι Q) ∧ (0 < (ι a0 18) → Q none ι))) : PC xl (n + 1) 151 0 [(0, .ref a0)] [] ι Q := by
  refine PC.pr1 (k := 0) (pc' := 1) (lv' := [(0, .ref a0)]) (st' := [.ref a0]) rfl ?_
  refine PC.gI (ci := 9) (j := 18) rfl rfl (by decide) ?_
  refine PC.if1 (t := 8) rfl rfl (fun c => ?_) (fun c => ?_)
  · have h := h.1 (cmp_le.1.mp c)
    exact h
  · have h := h.2 (cmp_le.2.mp c)
    exact PC.retV rfl h
theorem t_151_8 {xl : List Int32} {n : Nat} {ι : IS} {Q : Option Value → IS → Prop} {a0 : Nat} (h : PC xl n 152 0 [(0, .ref a0), (1, .int (ι a0 14))] [] ι (fun v1 κ1 => ∀ r1, v1 = some (.int r1) → ((¬ r1 = 32 → PC xl n 151 34 [(0, .ref a0)] [] κ1 Q) ∧ (r1 = 32 → PC xl n 151 8 [(0, .ref a0)] [] (up κ1 a0 14 ((κ1 a0 14) + 1)) Q)))) : PC xl (n + 1) 151 8 [(0, .ref a0)] [] ι Q := by
  refine PC.pr1 (k := 0) (pc' := 9) (lv' := [(0, .ref a0)]) (st' := [.ref a0]) rfl ?_
  refine PC.pr (k := 1) (pc' := 10) (lv' := [(0, .ref a0)]) (st' := [.ref a0, .ref a0]) rfl ?_
  refine PC.gI (ci := 9) (j := 14) rfl rfl (by decide) ?_
  refine (PC.callI (j := 152) (args := [.ref a0, .int (ι a0 14)]) (rest := []) (M := cM152) (ty := .int) rfl rfl rfl rfl rfl rfl (by decide) rfl rfl (by decide) ?_).weak
  refine PC.imp h (fun v1 κ1 h r1 hv => ?_)
  have h := h r1 hv
  refine PC.pr (k := 1) (pc' := 18) (lv' := [(0, .ref a0)]) (st' := [.int 32, .int r1]) rfl ?_
  refine PC.if2 (t := 34) rfl rfl (fun c => ?_) (fun c => ?_)
  · have h := h.1 (cmp_ne.1.mp c)
    exact h
  · have h := h.2 (cmp_ne.2.mp c)
    refine PC.pr (k := 1) (pc' := 22) (lv' := [(0, .ref a0)]) (st' := [.ref a0]) rfl ?_
    refine PC.pr (k := 1) (pc' := 23) (lv' := [(0, .ref a0)]) (st' := [.ref a0, .ref a0]) rfl ?_
    refine PC.gI (ci := 9) (j := 14) rfl rfl (by decide) ?_
    refine PC.pr (k := 1) (pc' := 27) (lv' := [(0, .ref a0)]) (st' := [.int 1, .int (κ1 a0 14), .ref a0]) rfl ?_
    refine PC.pr (k := 1) (pc' := 28) (lv' := [(0, .ref a0)]) (st' := [.int ((κ1 a0 14) + 1), .ref a0]) rfl ?_
    refine PC.pI (ci := 9) (j := 14) rfl rfl ?_
    refine PC.pr (k := 1) (pc' := 8) (lv' := [(0, .ref a0)]) (st' := []) rfl ?_
    exact h
theorem t_151_34 {xl : List Int32} {n : Nat} {ι : IS} {Q : Option Value → IS → Prop} {a0 : Nat} (h : PC xl n 152 0 [(0, .ref a0), (1, .int ((up ι a0 15 (ι a0 14)) a0 14))] [] (up ι a0 15 (ι a0 14)) (fun v1 κ1 => ∀ r1, v1 = some (.int r1) → ((¬ r1 < 0 → PC xl n 148 0 [(0, .long (r1).toInt64), (2, .long 97), (4, .long 122)] [] κ1 (fun v2 κ2 => ∀ r2, v2 = some (.int r2) → ((r2 = 0 → PC xl n 148 0 [(0, .long (r1).toInt64), (2, .long 48), (4, .long 57)] [] κ2 (fun v3 κ3 => ∀ r3, v3 = some (.int r3) → ((r3 = 0 → ((¬ r1 = 59 → PC xl n 153 0 [(0, .ref a0), (1, .int 0), (2, .int 1)] [] (up κ3 a0 16 3) (fun _ κ4 => Q none (up κ4 a0 14 ((κ4 a0 14) + 1)))) ∧ (r1 = 59 → PC xl n 153 0 [(0, .ref a0), (1, .int 1), (2, .int 1)] [] (up κ3 a0 16 3) (fun _ κ5 => Q none (up κ5 a0 14 ((κ5 a0 14) + 1)))))) ∧ (¬ r3 = 0 → PC xl n 151 140 [(0, .ref a0), (1, .int r1)] [] (up (up κ3 a0 16 2) a0 17 0) Q)))) ∧ (¬ r2 = 0 → PC xl n 151 82 [(0, .ref a0), (1, .int r1)] [] (up κ2 a0 16 1) Q)))) ∧ (r1 < 0 → Q none (up κ1 a0 16 0))))) : PC xl (n + 1) 151 34 [(0, .ref a0)] [] ι Q := by
  refine PC.pr1 (k := 0) (pc' := 35) (lv' := [(0, .ref a0)]) (st' := [.ref a0]) rfl ?_
  refine PC.pr (k := 1) (pc' := 36) (lv' := [(0, .ref a0)]) (st' := [.ref a0, .ref a0]) rfl ?_
  refine PC.gI (ci := 9) (j := 14) rfl rfl (by decide) ?_
  refine PC.pI (ci := 9) (j := 15) rfl rfl ?_
  refine PC.pr (k := 1) (pc' := 43) (lv' := [(0, .ref a0)]) (st' := [.ref a0]) rfl ?_
  refine PC.pr (k := 1) (pc' := 44) (lv' := [(0, .ref a0)]) (st' := [.ref a0, .ref a0]) rfl ?_
  refine PC.gI (ci := 9) (j := 14) rfl rfl (by decide) ?_
  refine (PC.callI (j := 152) (args := [.ref a0, .int ((up ι a0 15 (ι a0 14)) a0 14)]) (rest := []) (M := cM152) (ty := .int) rfl rfl rfl rfl rfl rfl (by decide) rfl rfl (by decide) ?_).weak
  refine PC.imp h (fun v1 κ1 h r1 hv => ?_)
  have h := h r1 hv
  refine PC.pr (k := 1) (pc' := 51) (lv' := [(1, .int r1), (0, .ref a0)]) (st' := []) rfl ?_
  refine PC.pr (k := 1) (pc' := 52) (lv' := [(1, .int r1), (0, .ref a0)]) (st' := [.int r1]) rfl ?_
  refine PC.if1 (t := 63) rfl rfl (fun c => ?_) (fun c => ?_)
  · have h := h.1 (cmp_ge.1.mp c)
    refine PC.pr (k := 1) (pc' := 64) (lv' := [(1, .int r1), (0, .ref a0)]) (st' := [.int r1]) rfl ?_
    refine PC.pr (k := 1) (pc' := 65) (lv' := [(1, .int r1), (0, .ref a0)]) (st' := [.long (r1).toInt64]) rfl ?_
    refine PC.pr (k := 1) (pc' := 68) (lv' := [(1, .int r1), (0, .ref a0)]) (st' := [.long 97, .long (r1).toInt64]) rfl ?_
    refine PC.pr (k := 1) (pc' := 71) (lv' := [(1, .int r1), (0, .ref a0)]) (st' := [.long 122, .long 97, .long (r1).toInt64]) rfl ?_
    refine (PC.callI (j := 148) (args := [.long (r1).toInt64, .long 97, .long 122]) (rest := []) (M := cM148) (ty := .boolean) rfl rfl rfl rfl rfl rfl (by decide) rfl rfl (by decide) ?_).weak
    refine PC.imp h (fun v2 κ2 h r2 hv => ?_)
    have h := h r2 hv
    refine PC.if1 (t := 116) rfl rfl (fun c => ?_) (fun c => ?_)
    · have h := h.1 (cmp_eq.1.mp c)
      refine PC.pr (k := 1) (pc' := 117) (lv' := [(1, .int r1), (0, .ref a0)]) (st' := [.int r1]) rfl ?_
      refine PC.pr (k := 1) (pc' := 118) (lv' := [(1, .int r1), (0, .ref a0)]) (st' := [.long (r1).toInt64]) rfl ?_
      refine PC.pr (k := 1) (pc' := 121) (lv' := [(1, .int r1), (0, .ref a0)]) (st' := [.long 48, .long (r1).toInt64]) rfl ?_
      refine PC.pr (k := 1) (pc' := 124) (lv' := [(1, .int r1), (0, .ref a0)]) (st' := [.long 57, .long 48, .long (r1).toInt64]) rfl ?_
      refine (PC.callI (j := 148) (args := [.long (r1).toInt64, .long 48, .long 57]) (rest := []) (M := cM148) (ty := .boolean) rfl rfl rfl rfl rfl rfl (by decide) rfl rfl (by decide) ?_).weak
      refine PC.imp h (fun v3 κ3 h r3 hv => ?_)
      have h := h r3 hv
      refine PC.if1 (t := 243) rfl rfl (fun c => ?_) (fun c => ?_)
      · have h := h.1 (cmp_eq.1.mp c)
        refine PC.pr (k := 1) (pc' := 244) (lv' := [(1, .int r1), (0, .ref a0)]) (st' := [.ref a0]) rfl ?_
        refine PC.pr (k := 1) (pc' := 245) (lv' := [(1, .int r1), (0, .ref a0)]) (st' := [.int 3, .ref a0]) rfl ?_
        refine PC.pI (ci := 9) (j := 16) rfl rfl ?_
        refine PC.pr (k := 1) (pc' := 249) (lv' := [(1, .int r1), (0, .ref a0)]) (st' := [.ref a0]) rfl ?_
        refine PC.pr (k := 1) (pc' := 250) (lv' := [(1, .int r1), (0, .ref a0)]) (st' := [.int r1, .ref a0]) rfl ?_
        refine PC.pr (k := 1) (pc' := 252) (lv' := [(1, .int r1), (0, .ref a0)]) (st' := [.int 59, .int r1, .ref a0]) rfl ?_
        refine PC.if2 (t := 259) rfl rfl (fun c => ?_) (fun c => ?_)
        · have h := h.1 (cmp_ne.1.mp c)
          refine PC.pr (k := 1) (pc' := 260) (lv' := [(1, .int r1), (0, .ref a0)]) (st' := [.int 0, .ref a0]) rfl ?_
          refine PC.pr (k := 1) (pc' := 261) (lv' := [(1, .int r1), (0, .ref a0)]) (st' := [.int 1, .int 0, .ref a0]) rfl ?_
          refine (PC.callV (j := 153) (args := [.ref a0, .int 0, .int 1]) (rest := []) (M := cM153) rfl rfl rfl rfl rfl rfl (by decide) rfl rfl ?_).weak
          refine PC.imp h (fun _ κ4 h => ?_)
          refine PC.pr (k := 1) (pc' := 265) (lv' := [(1, .int r1), (0, .ref a0)]) (st' := [.ref a0]) rfl ?_
          refine PC.pr (k := 1) (pc' := 266) (lv' := [(1, .int r1), (0, .ref a0)]) (st' := [.ref a0, .ref a0]) rfl ?_
          refine PC.gI (ci := 9) (j := 14) rfl rfl (by decide) ?_
          refine PC.pr (k := 1) (pc' := 270) (lv' := [(1, .int r1), (0, .ref a0)]) (st' := [.int 1, .int (κ4 a0 14), .ref a0]) rfl ?_
          refine PC.pr (k := 1) (pc' := 271) (lv' := [(1, .int r1), (0, .ref a0)]) (st' := [.int ((κ4 a0 14) + 1), .ref a0]) rfl ?_
          refine PC.pI (ci := 9) (j := 14) rfl rfl ?_
          exact PC.retV rfl h
        · have h := h.2 (cmp_ne.2.mp c)
          refine PC.pr (k := 1) (pc' := 256) (lv' := [(1, .int r1), (0, .ref a0)]) (st' := [.int 1, .ref a0]) rfl ?_
          refine PC.pr (k := 1) (pc' := 260) (lv' := [(1, .int r1), (0, .ref a0)]) (st' := [.int 1, .ref a0]) rfl ?_
          refine PC.pr (k := 1) (pc' := 261) (lv' := [(1, .int r1), (0, .ref a0)]) (st' := [.int 1, .int 1, .ref a0]) rfl ?_
          refine (PC.callV (j := 153) (args := [.ref a0, .int 1, .int 1]) (rest := []) (M := cM153) rfl rfl rfl rfl rfl rfl (by decide) rfl rfl ?_).weak
          refine PC.imp h (fun _ κ5 h => ?_)
          refine PC.pr (k := 1) (pc' := 265) (lv' := [(1, .int r1), (0, .ref a0)]) (st' := [.ref a0]) rfl ?_
          refine PC.pr (k := 1) (pc' := 266) (lv' := [(1, .int r1), (0, .ref a0)]) (st' := [.ref a0, .ref a0]) rfl ?_
          refine PC.gI (ci := 9) (j := 14) rfl rfl (by decide) ?_
          refine PC.pr (k := 1) (pc' := 270) (lv' := [(1, .int r1), (0, .ref a0)]) (st' := [.int 1, .int (κ5 a0 14), .ref a0]) rfl ?_
          refine PC.pr (k := 1) (pc' := 271) (lv' := [(1, .int r1), (0, .ref a0)]) (st' := [.int ((κ5 a0 14) + 1), .ref a0]) rfl ?_
          refine PC.pI (ci := 9) (j := 14) rfl rfl ?_
          exact PC.retV rfl h
      · have h := h.2 (cmp_eq.2.mp c)
        refine PC.pr (k := 1) (pc' := 131) (lv' := [(1, .int r1), (0, .ref a0)]) (st' := [.ref a0]) rfl ?_
        refine PC.pr (k := 1) (pc' := 132) (lv' := [(1, .int r1), (0, .ref a0)]) (st' := [.int 2, .ref a0]) rfl ?_
        refine PC.pI (ci := 9) (j := 16) rfl rfl ?_
        refine PC.pr (k := 1) (pc' := 136) (lv' := [(1, .int r1), (0, .ref a0)]) (st' := [.ref a0]) rfl ?_
        refine PC.pr (k := 1) (pc' := 137) (lv' := [(1, .int r1), (0, .ref a0)]) (st' := [.int 0, .ref a0]) rfl ?_
        refine PC.pI (ci := 9) (j := 17) rfl rfl ?_
        exact PC.lv (lvE.cons rfl (lvE.cons rfl (lvE.nil))) h
    · have h := h.2 (cmp_eq.2.mp c)
      refine PC.pr (k := 1) (pc' := 78) (lv' := [(1, .int r1), (0, .ref a0)]) (st' := [.ref a0]) rfl ?_
      refine PC.pr (k := 1) (pc' := 79) (lv' := [(1, .int r1), (0, .ref a0)]) (st' := [.int 1, .ref a0]) rfl ?_
      refine PC.pI (ci := 9) (j := 16) rfl rfl ?_
      exact PC.lv (lvE.cons rfl (lvE.cons rfl (lvE.nil))) h
  · have h := h.2 (cmp_ge.2.mp c)
    refine PC.pr (k := 1) (pc' := 56) (lv' := [(1, .int r1), (0, .ref a0)]) (st' := [.ref a0]) rfl ?_
    refine PC.pr (k := 1) (pc' := 57) (lv' := [(1, .int r1), (0, .ref a0)]) (st' := [.int 0, .ref a0]) rfl ?_
    refine PC.pI (ci := 9) (j := 16) rfl rfl ?_
    refine PC.pr (k := 1) (pc' := 274) (lv' := [(1, .int r1), (0, .ref a0)]) (st' := []) rfl ?_
    exact PC.retV rfl h
theorem t_151_82 {xl : List Int32} {n : Nat} {ι : IS} {Q : Option Value → IS → Prop} {a0 : Nat} {w1 : Value} (h : PC xl n 152 0 [(0, .ref a0), (1, .int (ι a0 14))] [] ι (fun v1 κ1 => ∀ r1, v1 = some (.int r1) → PC xl n 148 0 [(0, .long (r1).toInt64), (2, .long 97), (4, .long 122)] [] κ1 (fun v2 κ2 => ∀ r2, v2 = some (.int r2) → ((r2 = 0 → Q none κ2) ∧ (¬ r2 = 0 → PC xl n 151 82 [(0, .ref a0), (1, w1)] [] (up κ2 a0 14 ((κ2 a0 14) + 1)) Q))))) : PC xl (n + 1) 151 82 [(0, .ref a0), (1, w1)] [] ι Q := by
  refine PC.pr1 (k := 0) (pc' := 83) (lv' := [(0, .ref a0), (1, w1)]) (st' := [.ref a0]) rfl ?_
  refine PC.pr (k := 1) (pc' := 84) (lv' := [(0, .ref a0), (1, w1)]) (st' := [.ref a0, .ref a0]) rfl ?_
  refine PC.gI (ci := 9) (j := 14) rfl rfl (by decide) ?_
  refine (PC.callI (j := 152) (args := [.ref a0, .int (ι a0 14)]) (rest := []) (M := cM152) (ty := .int) rfl rfl rfl rfl rfl rfl (by decide) rfl rfl (by decide) ?_).weak
  refine PC.imp h (fun v1 κ1 h r1 hv => ?_)
  have h := h r1 hv
  refine PC.pr (k := 1) (pc' := 91) (lv' := [(0, .ref a0), (1, w1)]) (st' := [.long (r1).toInt64]) rfl ?_
  refine PC.pr (k := 1) (pc' := 94) (lv' := [(0, .ref a0), (1, w1)]) (st' := [.long 97, .long (r1).toInt64]) rfl ?_
  refine PC.pr (k := 1) (pc' := 97) (lv' := [(0, .ref a0), (1, w1)]) (st' := [.long 122, .long 97, .long (r1).toInt64]) rfl ?_
  refine (PC.callI (j := 148) (args := [.long (r1).toInt64, .long 97, .long 122]) (rest := []) (M := cM148) (ty := .boolean) rfl rfl rfl rfl rfl rfl (by decide) rfl rfl (by decide) ?_).weak
  refine PC.imp h (fun v2 κ2 h r2 hv => ?_)
  have h := h r2 hv
  refine PC.if1 (t := 274) rfl rfl (fun c => ?_) (fun c => ?_)
  · have h := h.1 (cmp_eq.1.mp c)
    exact PC.retV rfl h
  · have h := h.2 (cmp_eq.2.mp c)
    refine PC.pr (k := 1) (pc' := 104) (lv' := [(0, .ref a0), (1, w1)]) (st' := [.ref a0]) rfl ?_
    refine PC.pr (k := 1) (pc' := 105) (lv' := [(0, .ref a0), (1, w1)]) (st' := [.ref a0, .ref a0]) rfl ?_
    refine PC.gI (ci := 9) (j := 14) rfl rfl (by decide) ?_
    refine PC.pr (k := 1) (pc' := 109) (lv' := [(0, .ref a0), (1, w1)]) (st' := [.int 1, .int (κ2 a0 14), .ref a0]) rfl ?_
    refine PC.pr (k := 1) (pc' := 110) (lv' := [(0, .ref a0), (1, w1)]) (st' := [.int ((κ2 a0 14) + 1), .ref a0]) rfl ?_
    refine PC.pI (ci := 9) (j := 14) rfl rfl ?_
    refine PC.pr (k := 1) (pc' := 82) (lv' := [(0, .ref a0), (1, w1)]) (st' := []) rfl ?_
    exact h
theorem t_151_140 {xl : List Int32} {n : Nat} {ι : IS} {Q : Option Value → IS → Prop} {a0 : Nat} {w1 : Value} (h : PC xl n 152 0 [(0, .ref a0), (1, .int (ι a0 14))] [] ι (fun v1 κ1 => ∀ r1, v1 = some (.int r1) → PC xl n 148 0 [(0, .long (r1).toInt64), (2, .long 48), (4, .long 57)] [] κ1 (fun v2 κ2 => ∀ r2, v2 = some (.int r2) → ((r2 = 0 → ((2 < ((κ2 a0 14) - (κ2 a0 15)) → PC xl n 153 0 [(0, .ref a0), (1, .int 0), (2, .int 1)] [] κ2 (fun _ κ3 => Q none κ3)) ∧ (¬ 2 < ((κ2 a0 14) - (κ2 a0 15)) → PC xl n 153 0 [(0, .ref a0), (1, .int 1), (2, .int 1)] [] κ2 (fun _ κ4 => Q none κ4)))) ∧ (¬ r2 = 0 → ((¬ ((κ2 a0 14) - (κ2 a0 15)) < 2 → PC xl n 151 140 [(0, .ref a0), (1, w1)] [] (up (up κ2 a0 17 (κ2 a0 17)) a0 14 (((up κ2 a0 17 (κ2 a0 17)) a0 14) + 1)) Q) ∧ (((κ2 a0 14) - (κ2 a0 15)) < 2 → PC xl n 152 0 [(0, .ref a0), (1, .int (κ2 a0 14))] [] κ2 (fun v5 κ5 => ∀ r5, v5 = some (.int r5) → PC xl n 151 140 [(0, .ref a0), (1, w1)] [] (up (up κ5 a0 17 (((10 * (κ2 a0 17)) + r5) - 48)) a0 14 (((up κ5 a0 17 (((10 * (κ2 a0 17)) + r5) - 48)) a0 14) + 1)) Q)))))))) : PC xl (n + 1) 151 140 [(0, .ref a0), (1, w1)] [] ι Q := by
  refine PC.pr1 (k := 0) (pc' := 141) (lv' := [(0, .ref a0), (1, w1)]) (st' := [.ref a0]) rfl ?_
  refine PC.pr (k := 1) (pc' := 142) (lv' := [(0, .ref a0), (1, w1)]) (st' := [.ref a0, .ref a0]) rfl ?_
  refine PC.gI (ci := 9) (j := 14) rfl rfl (by decide) ?_
  refine (PC.callI (j := 152) (args := [.ref a0, .int (ι a0 14)]) (rest := []) (M := cM152) (ty := .int) rfl rfl rfl rfl rfl rfl (by decide) rfl rfl (by decide) ?_).weak
  refine PC.imp h (fun v1 κ1 h r1 hv => ?_)
  have h := h r1 hv
  refine PC.pr (k := 1) (pc' := 149) (lv' := [(0, .ref a0), (1, w1)]) (st' := [.long (r1).toInt64]) rfl ?_
  refine PC.pr (k := 1) (pc' := 152) (lv' := [(0, .ref a0), (1, w1)]) (st' := [.long 48, .long (r1).toInt64]) rfl ?_
  refine PC.pr (k := 1) (pc' := 155) (lv' := [(0, .ref a0), (1, w1)]) (st' := [.long 57, .long 48, .long (r1).toInt64]) rfl ?_
  refine (PC.callI (j := 148) (args := [.long (r1).toInt64, .long 48, .long 57]) (rest := []) (M := cM148) (ty := .boolean) rfl rfl rfl rfl rfl rfl (by decide) rfl rfl (by decide) ?_).weak
  refine PC.imp h (fun v2 κ2 h r2 hv => ?_)
  have h := h r2 hv
  refine PC.if1 (t := 217) rfl rfl (fun c => ?_) (fun c => ?_)
  · have h := h.1 (cmp_eq.1.mp c)
    refine PC.pr (k := 1) (pc' := 218) (lv' := [(0, .ref a0), (1, w1)]) (st' := [.ref a0]) rfl ?_
    refine PC.pr (k := 1) (pc' := 219) (lv' := [(0, .ref a0), (1, w1)]) (st' := [.ref a0, .ref a0]) rfl ?_
    refine PC.gI (ci := 9) (j := 14) rfl rfl (by decide) ?_
    refine PC.pr (k := 1) (pc' := 223) (lv' := [(0, .ref a0), (1, w1)]) (st' := [.ref a0, .int (κ2 a0 14), .ref a0]) rfl ?_
    refine PC.gI (ci := 9) (j := 15) rfl rfl (by decide) ?_
    refine PC.pr (k := 1) (pc' := 227) (lv' := [(0, .ref a0), (1, w1)]) (st' := [.int ((κ2 a0 14) - (κ2 a0 15)), .ref a0]) rfl ?_
    refine PC.pr (k := 1) (pc' := 228) (lv' := [(0, .ref a0), (1, w1)]) (st' := [.int 2, .int ((κ2 a0 14) - (κ2 a0 15)), .ref a0]) rfl ?_
    refine PC.if2 (t := 235) rfl rfl (fun c => ?_) (fun c => ?_)
    · have h := h.1 (cmp_gt.1.mp c)
      refine PC.pr (k := 1) (pc' := 236) (lv' := [(0, .ref a0), (1, w1)]) (st' := [.int 0, .ref a0]) rfl ?_
      refine PC.pr (k := 1) (pc' := 237) (lv' := [(0, .ref a0), (1, w1)]) (st' := [.int 1, .int 0, .ref a0]) rfl ?_
      refine (PC.callV (j := 153) (args := [.ref a0, .int 0, .int 1]) (rest := []) (M := cM153) rfl rfl rfl rfl rfl rfl (by decide) rfl rfl ?_).weak
      refine PC.imp h (fun _ κ3 h => ?_)
      refine PC.pr (k := 1) (pc' := 274) (lv' := [(0, .ref a0), (1, w1)]) (st' := []) rfl ?_
      exact PC.retV rfl h
    · have h := h.2 (cmp_gt.2.mp c)
      refine PC.pr (k := 1) (pc' := 232) (lv' := [(0, .ref a0), (1, w1)]) (st' := [.int 1, .ref a0]) rfl ?_
      refine PC.pr (k := 1) (pc' := 236) (lv' := [(0, .ref a0), (1, w1)]) (st' := [.int 1, .ref a0]) rfl ?_
      refine PC.pr (k := 1) (pc' := 237) (lv' := [(0, .ref a0), (1, w1)]) (st' := [.int 1, .int 1, .ref a0]) rfl ?_
      refine (PC.callV (j := 153) (args := [.ref a0, .int 1, .int 1]) (rest := []) (M := cM153) rfl rfl rfl rfl rfl rfl (by decide) rfl rfl ?_).weak
      refine PC.imp h (fun _ κ4 h => ?_)
      refine PC.pr (k := 1) (pc' := 274) (lv' := [(0, .ref a0), (1, w1)]) (st' := []) rfl ?_
      exact PC.retV rfl h
  · have h := h.2 (cmp_eq.2.mp c)
    refine PC.pr (k := 1) (pc' := 162) (lv' := [(0, .ref a0), (1, w1)]) (st' := [.ref a0]) rfl ?_
    refine PC.pr (k := 1) (pc' := 163) (lv' := [(0, .ref a0), (1, w1)]) (st' := [.ref a0, .ref a0]) rfl ?_
    refine PC.gI (ci := 9) (j := 14) rfl rfl (by decide) ?_
    refine PC.pr (k := 1) (pc' := 167) (lv' := [(0, .ref a0), (1, w1)]) (st' := [.ref a0, .int (κ2 a0 14), .ref a0]) rfl ?_
    refine PC.gI (ci := 9) (j := 15) rfl rfl (by decide) ?_
    refine PC.pr (k := 1) (pc' := 171) (lv' := [(0, .ref a0), (1, w1)]) (st' := [.int ((κ2 a0 14) - (κ2 a0 15)), .ref a0]) rfl ?_
    refine PC.pr (k := 1) (pc' := 172) (lv' := [(0, .ref a0), (1, w1)]) (st' := [.int 2, .int ((κ2 a0 14) - (κ2 a0 15)), .ref a0]) rfl ?_
    refine PC.if2 (t := 197) rfl rfl (fun c => ?_) (fun c => ?_)
    · have h := h.1 (cmp_ge.1.mp c)
      refine PC.pr (k := 1) (pc' := 198) (lv' := [(0, .ref a0), (1, w1)]) (st' := [.ref a0, .ref a0]) rfl ?_
      refine PC.gI (ci := 9) (j := 17) rfl rfl (by decide) ?_
      refine PC.pI (ci := 9) (j := 17) rfl rfl ?_
      refine PC.pr (k := 1) (pc' := 205) (lv' := [(0, .ref a0), (1, w1)]) (st' := [.ref a0]) rfl ?_
      refine PC.pr (k := 1) (pc' := 206) (lv' := [(0, .ref a0), (1, w1)]) (st' := [.ref a0, .ref a0]) rfl ?_
      refine PC.gI (ci := 9) (j := 14) rfl rfl (by decide) ?_
      refine PC.pr (k := 1) (pc' := 210) (lv' := [(0, .ref a0), (1, w1)]) (st' := [.int 1, .int ((up κ2 a0 17 (κ2 a0 17)) a0 14), .ref a0]) rfl ?_
      refine PC.pr (k := 1) (pc' := 211) (lv' := [(0, .ref a0), (1, w1)]) (st' := [.int (((up κ2 a0 17 (κ2 a0 17)) a0 14) + 1), .ref a0]) rfl ?_
      refine PC.pI (ci := 9) (j := 14) rfl rfl ?_
      refine PC.pr (k := 1) (pc' := 140) (lv' := [(0, .ref a0), (1, w1)]) (st' := []) rfl ?_
      exact h
    · have h := h.2 (cmp_ge.2.mp c)
      refine PC.pr (k := 1) (pc' := 177) (lv' := [(0, .ref a0), (1, w1)]) (st' := [.int 10, .ref a0]) rfl ?_
      refine PC.pr (k := 1) (pc' := 178) (lv' := [(0, .ref a0), (1, w1)]) (st' := [.ref a0, .int 10, .ref a0]) rfl ?_
      refine PC.gI (ci := 9) (j := 17) rfl rfl (by decide) ?_
      refine PC.pr (k := 1) (pc' := 182) (lv' := [(0, .ref a0), (1, w1)]) (st' := [.int (10 * (κ2 a0 17)), .ref a0]) rfl ?_
      refine PC.pr (k := 1) (pc' := 183) (lv' := [(0, .ref a0), (1, w1)]) (st' := [.ref a0, .int (10 * (κ2 a0 17)), .ref a0]) rfl ?_
      refine PC.pr (k := 1) (pc' := 184) (lv' := [(0, .ref a0), (1, w1)]) (st' := [.ref a0, .ref a0, .int (10 * (κ2 a0 17)), .ref a0]) rfl ?_
      refine PC.gI (ci := 9) (j := 14) rfl rfl (by decide) ?_
      refine (PC.callI (j := 152) (args := [.ref a0, .int (κ2 a0 14)]) (rest := [.int (10 * (κ2 a0 17)), .ref a0]) (M := cM152) (ty := .int) rfl rfl rfl rfl rfl rfl (by decide) rfl rfl (by decide) ?_).weak
      refine PC.imp h (fun v5 κ5 h r5 hv => ?_)
      have h := h r5 hv
      refine PC.pr (k := 1) (pc' := 191) (lv' := [(0, .ref a0), (1, w1)]) (st' := [.int ((10 * (κ2 a0 17)) + r5), .ref a0]) rfl ?_
      refine PC.pr (k := 1) (pc' := 193) (lv' := [(0, .ref a0), (1, w1)]) (st' := [.int 48, .int ((10 * (κ2 a0 17)) + r5), .ref a0]) rfl ?_
      refine PC.pr (k := 1) (pc' := 194) (lv' := [(0, .ref a0), (1, w1)]) (st' := [.int (((10 * (κ2 a0 17)) + r5) - 48), .ref a0]) rfl ?_
      refine PC.pr (k := 1) (pc' := 201) (lv' := [(0, .ref a0), (1, w1)]) (st' := [.int (((10 * (κ2 a0 17)) + r5) - 48), .ref a0]) rfl ?_
      refine PC.pI (ci := 9) (j := 17) rfl rfl ?_
      refine PC.pr (k := 1) (pc' := 205) (lv' := [(0, .ref a0), (1, w1)]) (st' := [.ref a0]) rfl ?_
      refine PC.pr (k := 1) (pc' := 206) (lv' := [(0, .ref a0), (1, w1)]) (st' := [.ref a0, .ref a0]) rfl ?_
      refine PC.gI (ci := 9) (j := 14) rfl rfl (by decide) ?_
      refine PC.pr (k := 1) (pc' := 210) (lv' := [(0, .ref a0), (1, w1)]) (st' := [.int 1, .int ((up κ5 a0 17 (((10 * (κ2 a0 17)) + r5) - 48)) a0 14), .ref a0]) rfl ?_
      refine PC.pr (k := 1) (pc' := 211) (lv' := [(0, .ref a0), (1, w1)]) (st' := [.int (((up κ5 a0 17 (((10 * (κ2 a0 17)) + r5) - 48)) a0 14) + 1), .ref a0]) rfl ?_
      refine PC.pI (ci := 9) (j := 14) rfl rfl ?_
      refine PC.pr (k := 1) (pc' := 140) (lv' := [(0, .ref a0), (1, w1)]) (st' := []) rfl ?_
      exact h

/-- DoorPaintsModel.byteAt(I)I -/
theorem t_152_0 {xl : List Int32} {n : Nat} {ι : IS} {Q : Option Value → IS → Prop} {a0 : Nat} {x1 : Int32} (h : ((¬ x1 < (ι a0 13) → Q (some (.int (-1))) ι) ∧ (x1 < (ι a0 13) → (0 ≤ x1.toInt → x1.toInt < ln (rf a0 12) → Q (some (.int (ι (rf a0 12) x1.toNatClampNeg))) ι)))) : PC xl (n + 1) 152 0 [(0, .ref a0), (1, .int x1)] [] ι Q := by
  refine PC.pr1 (k := 0) (pc' := 1) (lv' := [(0, .ref a0), (1, .int x1)]) (st' := [.int x1]) rfl ?_
  refine PC.pr (k := 1) (pc' := 2) (lv' := [(0, .ref a0), (1, .int x1)]) (st' := [.ref a0, .int x1]) rfl ?_
  refine PC.gI (ci := 9) (j := 13) rfl rfl (by decide) ?_
  refine PC.if2 (t := 17) rfl rfl (fun c => ?_) (fun c => ?_)
  · have h := h.1 (cmp_ge.1.mp c)
    refine PC.pr (k := 1) (pc' := 18) (lv' := [(0, .ref a0), (1, .int x1)]) (st' := [.int (-1)]) rfl ?_
    exact PC.retI rfl h
  · have h := h.2 (cmp_ge.2.mp c)
    refine PC.pr (k := 1) (pc' := 9) (lv' := [(0, .ref a0), (1, .int x1)]) (st' := [.ref a0]) rfl ?_
    refine PC.gR (ci := 9) (j := 12) rfl rfl (by decide) ?_
    refine PC.pr (k := 1) (pc' := 13) (lv' := [(0, .ref a0), (1, .int x1)]) (st' := [.int x1, .ref (rf a0 12)]) rfl ?_
    refine PC.rd rfl (rf_lt _ _) (fun c1 c2 => ?_)
    have h := h c1 c2
    refine PC.pr (k := 1) (pc' := 18) (lv' := [(0, .ref a0), (1, .int x1)]) (st' := [.int (ι (rf a0 12) x1.toNatClampNeg)]) rfl ?_
    exact PC.retI rfl h

/-- DoorPaintsModel.needs(ZI)V -/
theorem t_153_0 {xl : List Int32} {n : Nat} {ι : IS} {Q : Option Value → IS → Prop} {a0 : Nat} {x1 : Int32} {x2 : Int32} (h : ((¬ x1 = 0 → Q none ι) ∧ (x1 = 0 → ((¬ (ι a0 18) = 0 → Q none ι) ∧ ((ι a0 18) = 0 → Q none (up (up ι a0 18 x2) a0 19 ((up ι a0 18 x2) a0 15))))))) : PC xl (n + 1) 153 0 [(0, .ref a0), (1, .int x1), (2, .int x2)] [] ι Q := by
  refine PC.pr1 (k := 0) (pc' := 1) (lv' := [(0, .ref a0), (1, .int x1), (2, .int x2)]) (st' := [.int x1]) rfl ?_
  refine PC.if1 (t := 24) rfl rfl (fun c => ?_) (fun c => ?_)
  · have h := h.1 (cmp_ne.1.mp c)
    exact PC.retV rfl h
  · have h := h.2 (cmp_ne.2.mp c)
    refine PC.pr (k := 1) (pc' := 5) (lv' := [(0, .ref a0), (1, .int x1), (2, .int x2)]) (st' := [.ref a0]) rfl ?_
    refine PC.gI (ci := 9) (j := 18) rfl rfl (by decide) ?_
    refine PC.if1 (t := 24) rfl rfl (fun c => ?_) (fun c => ?_)
    · have h := h.1 (cmp_ne.1.mp c)
      exact PC.retV rfl h
    · have h := h.2 (cmp_ne.2.mp c)
      refine PC.pr (k := 1) (pc' := 12) (lv' := [(0, .ref a0), (1, .int x1), (2, .int x2)]) (st' := [.ref a0]) rfl ?_
      refine PC.pr (k := 1) (pc' := 13) (lv' := [(0, .ref a0), (1, .int x1), (2, .int x2)]) (st' := [.int x2, .ref a0]) rfl ?_
      refine PC.pI (ci := 9) (j := 18) rfl rfl ?_
      refine PC.pr (k := 1) (pc' := 17) (lv' := [(0, .ref a0), (1, .int x1), (2, .int x2)]) (st' := [.ref a0]) rfl ?_
      refine PC.pr (k := 1) (pc' := 18) (lv' := [(0, .ref a0), (1, .int x1), (2, .int x2)]) (st' := [.ref a0, .ref a0]) rfl ?_
      refine PC.gI (ci := 9) (j := 15) rfl rfl (by decide) ?_
      refine PC.pI (ci := 9) (j := 19) rfl rfl ?_
      exact PC.retV rfl h
end
section
/-! WHAT RUNS ASK (written by a program) -/
/-- DoorPaints$Tape.nameIs(Ljava/lang/String;)Z -/
theorem t_25_0 {xl : List Int32} {n : Nat} {ι : IS} {Q : Option Value → IS → Prop} {o : Nat} {bs : List Int32} (ho1 : tRo xl o = some (.inl (99, [.ref (KB + (o + 1)), .int 0]))) (ho2 : tRo xl (o + 1) = some (.inr (.inl (2, bs)))) {a0 : Nat} (h : ((¬ (ι a0 2) = 1 → Q (some (.int 0)) ι) ∧ ((ι a0 2) = 1 → PC xl n 26 0 [(0, .ref (KB + o))] [] ι (fun v1 κ1 => ∀ r1, v1 = some (.int r1) → ((((ι a0 4) - (ι a0 3)) = r1 → PC xl n 25 28 [(0, .ref a0), (1, .ref (KB + o)), (2, .int 0)] [] κ1 Q) ∧ (¬ ((ι a0 4) - (ι a0 3)) = r1 → Q (some (.int 0)) κ1)))))) : PC xl (n + 1) 25 0 [(0, .ref a0), (1, .ref (KB + o))] [] ι Q := by
  refine PC.pr1 (k := 0) (pc' := 1) (lv' := [(0, .ref a0), (1, .ref (KB + o))]) (st' := [.ref a0]) rfl ?_
  refine PC.gI (ci := 6) (j := 2) rfl rfl (by decide) ?_
  refine PC.pr (k := 1) (pc' := 5) (lv' := [(0, .ref a0), (1, .ref (KB + o))]) (st' := [.int 1, .int (ι a0 2)]) rfl ?_
  refine PC.if2 (t := 24) rfl rfl (fun c => ?_) (fun c => ?_)
  · have h := h.1 (cmp_ne.1.mp c)
    refine PC.pr (k := 1) (pc' := 25) (lv' := [(0, .ref a0), (1, .ref (KB + o))]) (st' := [.int 0]) rfl ?_
    exact PC.retI rfl h
  · have h := h.2 (cmp_ne.2.mp c)
    refine PC.pr (k := 1) (pc' := 9) (lv' := [(0, .ref a0), (1, .ref (KB + o))]) (st' := [.ref a0]) rfl ?_
    refine PC.gI (ci := 6) (j := 4) rfl rfl (by decide) ?_
    refine PC.pr (k := 1) (pc' := 13) (lv' := [(0, .ref a0), (1, .ref (KB + o))]) (st' := [.ref a0, .int (ι a0 4)]) rfl ?_
    refine PC.gI (ci := 6) (j := 3) rfl rfl (by decide) ?_
    refine PC.pr (k := 1) (pc' := 17) (lv' := [(0, .ref a0), (1, .ref (KB + o))]) (st' := [.int ((ι a0 4) - (ι a0 3))]) rfl ?_
    refine PC.pr (k := 1) (pc' := 18) (lv' := [(0, .ref a0), (1, .ref (KB + o))]) (st' := [.ref (KB + o), .int ((ι a0 4) - (ι a0 3))]) rfl ?_
    refine (PC.callI (j := 26) (args := [.ref (KB + o)]) (rest := [.int ((ι a0 4) - (ι a0 3))]) (M := cM26) (ty := .int) rfl rfl rfl rfl rfl rfl (by decide) rfl rfl (by decide) ?_).weak
    refine PC.imp h (fun v1 κ1 h r1 hv => ?_)
    have h := h r1 hv
    refine PC.if2 (t := 26) rfl rfl (fun c => ?_) (fun c => ?_)
    · have h := h.1 (cmp_eq.1.mp c)
      refine PC.pr (k := 1) (pc' := 27) (lv' := [(0, .ref a0), (1, .ref (KB + o))]) (st' := [.int 0]) rfl ?_
      refine PC.pr (k := 1) (pc' := 28) (lv' := [(2, .int 0), (0, .ref a0), (1, .ref (KB + o))]) (st' := []) rfl ?_
      exact PC.lv (lvE.cons rfl (lvE.cons rfl (lvE.cons rfl (lvE.nil)))) h
    · have h := h.2 (cmp_eq.2.mp c)
      refine PC.pr (k := 1) (pc' := 25) (lv' := [(0, .ref a0), (1, .ref (KB + o))]) (st' := [.int 0]) rfl ?_
      exact PC.retI rfl h
theorem t_25_28 {xl : List Int32} {n : Nat} {ι : IS} {Q : Option Value → IS → Prop} {a0 : Nat} {o : Nat} {bs : List Int32} (ho1 : tRo xl o = some (.inl (99, [.ref (KB + (o + 1)), .int 0]))) (ho2 : tRo xl (o + 1) = some (.inr (.inl (2, bs)))) {x2 : Int32} (h : PC xl n 26 0 [(0, .ref (KB + o))] [] ι (fun v1 κ1 => ∀ r1, v1 = some (.int r1) → ((¬ x2 < r1 → Q (some (.int 1)) κ1) ∧ (x2 < r1 → (0 ≤ ((κ1 a0 3) + x2).toInt → ((κ1 a0 3) + x2).toInt < ln (rf a0 0) → PC xl n 28 0 [(0, .ref (KB + o)), (1, .int x2)] [] κ1 (fun v2 κ2 => ∀ r2, v2 = some (.int r2) → (((κ1 (rf a0 0) ((κ1 a0 3) + x2).toNatClampNeg) = r2 → PC xl n 25 28 [(0, .ref a0), (1, .ref (KB + o)), (2, .int (x2 + 1))] [] κ2 Q) ∧ (¬ (κ1 (rf a0 0) ((κ1 a0 3) + x2).toNatClampNeg) = r2 → Q (some (.int 0)) κ2)))))))) : PC xl (n + 1) 25 28 [(0, .ref a0), (1, .ref (KB + o)), (2, .int x2)] [] ι Q := by
  refine PC.pr1 (k := 0) (pc' := 29) (lv' := [(0, .ref a0), (1, .ref (KB + o)), (2, .int x2)]) (st' := [.int x2]) rfl ?_
  refine PC.pr (k := 1) (pc' := 30) (lv' := [(0, .ref a0), (1, .ref (KB + o)), (2, .int x2)]) (st' := [.ref (KB + o), .int x2]) rfl ?_
  refine (PC.callI (j := 26) (args := [.ref (KB + o)]) (rest := [.int x2]) (M := cM26) (ty := .int) rfl rfl rfl rfl rfl rfl (by decide) rfl rfl (by decide) ?_).weak
  refine PC.imp h (fun v1 κ1 h r1 hv => ?_)
  have h := h r1 hv
  refine PC.if2 (t := 63) rfl rfl (fun c => ?_) (fun c => ?_)
  · have h := h.1 (cmp_ge.1.mp c)
    refine PC.pr (k := 1) (pc' := 64) (lv' := [(0, .ref a0), (1, .ref (KB + o)), (2, .int x2)]) (st' := [.int 1]) rfl ?_
    exact PC.retI rfl h
  · have h := h.2 (cmp_ge.2.mp c)
    refine PC.pr (k := 1) (pc' := 37) (lv' := [(0, .ref a0), (1, .ref (KB + o)), (2, .int x2)]) (st' := [.ref a0]) rfl ?_
    refine PC.gR (ci := 6) (j := 0) rfl rfl (by decide) ?_
    refine PC.pr (k := 1) (pc' := 41) (lv' := [(0, .ref a0), (1, .ref (KB + o)), (2, .int x2)]) (st' := [.ref a0, .ref (rf a0 0)]) rfl ?_
    refine PC.gI (ci := 6) (j := 3) rfl rfl (by decide) ?_
    refine PC.pr (k := 1) (pc' := 45) (lv' := [(0, .ref a0), (1, .ref (KB + o)), (2, .int x2)]) (st' := [.int x2, .int (κ1 a0 3), .ref (rf a0 0)]) rfl ?_
    refine PC.pr (k := 1) (pc' := 46) (lv' := [(0, .ref a0), (1, .ref (KB + o)), (2, .int x2)]) (st' := [.int ((κ1 a0 3) + x2), .ref (rf a0 0)]) rfl ?_
    refine PC.rd rfl (rf_lt _ _) (fun c1 c2 => ?_)
    have h := h c1 c2
    refine PC.pr (k := 1) (pc' := 48) (lv' := [(0, .ref a0), (1, .ref (KB + o)), (2, .int x2)]) (st' := [.ref (KB + o), .int (κ1 (rf a0 0) ((κ1 a0 3) + x2).toNatClampNeg)]) rfl ?_
    refine PC.pr (k := 1) (pc' := 49) (lv' := [(0, .ref a0), (1, .ref (KB + o)), (2, .int x2)]) (st' := [.int x2, .ref (KB + o), .int (κ1 (rf a0 0) ((κ1 a0 3) + x2).toNatClampNeg)]) rfl ?_
    refine (PC.callI (j := 28) (args := [.ref (KB + o), .int x2]) (rest := [.int (κ1 (rf a0 0) ((κ1 a0 3) + x2).toNatClampNeg)]) (M := cM28) (ty := .char) rfl rfl rfl rfl rfl rfl (by decide) rfl rfl (by decide) ?_).weak
    refine PC.imp h (fun v2 κ2 h r2 hv => ?_)
    have h := h r2 hv
    refine PC.if2 (t := 57) rfl rfl (fun c => ?_) (fun c => ?_)
    · have h := h.1 (cmp_eq.1.mp c)
      refine PC.pr (k := 1) (pc' := 60) (lv' := [(2, .int (x2 + 1)), (0, .ref a0), (1, .ref (KB + o))]) (st' := []) rfl ?_
      refine PC.pr (k := 1) (pc' := 28) (lv' := [(2, .int (x2 + 1)), (0, .ref a0), (1, .ref (KB + o))]) (st' := []) rfl ?_
      exact PC.lv (lvE.cons rfl (lvE.cons rfl (lvE.cons rfl (lvE.nil)))) h
    · have h := h.2 (cmp_eq.2.mp c)
      refine PC.pr (k := 1) (pc' := 56) (lv' := [(0, .ref a0), (1, .ref (KB + o)), (2, .int x2)]) (st' := [.int 0]) rfl ?_
      exact PC.retI rfl h

/-- java/lang/String.length()I -/
theorem t_26_0 {xl : List Int32} {n : Nat} {ι : IS} {Q : Option Value → IS → Prop} {o : Nat} {bs : List Int32} (ho1 : tRo xl o = some (.inl (99, [.ref (KB + (o + 1)), .int 0]))) (ho2 : tRo xl (o + 1) = some (.inr (.inl (2, bs)))) (h : PC xl n 27 0 [(0, .ref (KB + o))] [] ι (fun v1 κ1 => ∀ r1, v1 = some (.int r1) → Q (some (.int ((Int32.ofNat bs.length) >>> (r1 &&& 31)))) κ1)) : PC xl (n + 1) 26 0 [(0, .ref (KB + o))] [] ι Q := by
  refine PC.pr1 (k := 0) (pc' := 1) (lv' := [(0, .ref (KB + o))]) (st' := [.ref (KB + o)]) rfl ?_
  refine PC.gS ho1 rfl rfl ?_
  refine PC.aL ho2 rfl ?_
  refine PC.pr (k := 1) (pc' := 6) (lv' := [(0, .ref (KB + o))]) (st' := [.ref (KB + o), .int (Int32.ofNat bs.length)]) rfl ?_
  refine (PC.callI (j := 27) (args := [.ref (KB + o)]) (rest := [.int (Int32.ofNat bs.length)]) (M := cM27) (ty := .byte) rfl rfl rfl rfl rfl rfl (by decide) rfl rfl (by decide) ?_).weak
  refine PC.imp h (fun v1 κ1 h r1 hv => ?_)
  have h := h r1 hv
  refine PC.pr (k := 1) (pc' := 10) (lv' := [(0, .ref (KB + o))]) (st' := [.int ((Int32.ofNat bs.length) >>> (r1 &&& 31))]) rfl ?_
  exact PC.retI rfl h

/-- java/lang/String.coder()B -/
theorem t_27_0 {xl : List Int32} {n : Nat} {ι : IS} {Q : Option Value → IS → Prop} {o : Nat} {bs : List Int32} (ho1 : tRo xl o = some (.inl (99, [.ref (KB + (o + 1)), .int 0]))) (ho2 : tRo xl (o + 1) = some (.inr (.inl (2, bs)))) (h : (((1 : Int32) = 0 → Q (some (.int 1)) ι) ∧ (¬ (1 : Int32) = 0 → Q (some (.int 0)) ι))) : PC xl (n + 1) 27 0 [(0, .ref (KB + o))] [] ι Q := by
  refine PC.pr1 (k := 0) (pc' := 3) (lv' := [(0, .ref (KB + o))]) (st' := [.int 1]) rfl ?_
  refine PC.if1 (t := 13) rfl rfl (fun c => ?_) (fun c => ?_)
  · have h := h.1 (cmp_eq.1.mp c)
    refine PC.pr (k := 1) (pc' := 14) (lv' := [(0, .ref (KB + o))]) (st' := [.int 1]) rfl ?_
    exact PC.retI rfl h
  · have h := h.2 (cmp_eq.2.mp c)
    refine PC.pr (k := 1) (pc' := 7) (lv' := [(0, .ref (KB + o))]) (st' := [.ref (KB + o)]) rfl ?_
    refine PC.gS ho1 rfl rfl ?_
    refine PC.pr (k := 1) (pc' := 14) (lv' := [(0, .ref (KB + o))]) (st' := [.int 0]) rfl ?_
    exact PC.retI rfl h

/-- java/lang/String.charAt(I)C -/
theorem t_28_0 {xl : List Int32} {n : Nat} {ι : IS} {Q : Option Value → IS → Prop} {o : Nat} {bs : List Int32} (ho1 : tRo xl o = some (.inl (99, [.ref (KB + (o + 1)), .int 0]))) (ho2 : tRo xl (o + 1) = some (.inr (.inl (2, bs)))) {x1 : Int32} (h : PC xl n 29 0 [(0, .ref (KB + o))] [] ι (fun v1 κ1 => ∀ r1, v1 = some (.int r1) → ((r1 = 0 → True) ∧ (¬ r1 = 0 → PC xl n 30 0 [(0, .ref (KB + (o + 1))), (1, .int x1)] [] κ1 (fun v2 κ2 => ∀ r2, v2 = some (.int r2) → Q (some (.int r2)) κ2))))) : PC xl (n + 1) 28 0 [(0, .ref (KB + o)), (1, .int x1)] [] ι Q := by
  refine PC.pr1 (k := 0) (pc' := 1) (lv' := [(0, .ref (KB + o)), (1, .int x1)]) (st' := [.ref (KB + o)]) rfl ?_
  refine (PC.callI (j := 29) (args := [.ref (KB + o)]) (rest := []) (M := cM29) (ty := .boolean) rfl rfl rfl rfl rfl rfl (by decide) rfl rfl (by decide) ?_).weak
  refine PC.imp h (fun v1 κ1 h r1 hv => ?_)
  have h := h r1 hv
  refine PC.if1 (t := 16) rfl rfl (fun c => ?_) (fun c => ?_)
  · have h := h.1 (cmp_eq.1.mp c)
    refine PC.pr (k := 1) (pc' := 17) (lv' := [(0, .ref (KB + o)), (1, .int x1)]) (st' := [.ref (KB + o)]) rfl ?_
    refine PC.gS ho1 rfl rfl ?_
    refine PC.pr (k := 1) (pc' := 21) (lv' := [(0, .ref (KB + o)), (1, .int x1)]) (st' := [.int x1, .ref (KB + (o + 1))]) rfl ?_
    exact PC.none rfl
  · have h := h.2 (cmp_eq.2.mp c)
    refine PC.pr (k := 1) (pc' := 8) (lv' := [(0, .ref (KB + o)), (1, .int x1)]) (st' := [.ref (KB + o)]) rfl ?_
    refine PC.gS ho1 rfl rfl ?_
    refine PC.pr (k := 1) (pc' := 12) (lv' := [(0, .ref (KB + o)), (1, .int x1)]) (st' := [.int x1, .ref (KB + (o + 1))]) rfl ?_
    refine (PC.callI (j := 30) (args := [.ref (KB + (o + 1)), .int x1]) (rest := []) (M := cM30) (ty := .char) rfl rfl rfl rfl rfl rfl (by decide) rfl rfl (by decide) ?_).weak
    refine PC.imp h (fun v2 κ2 h r2 hv => ?_)
    have h := h r2 hv
    exact PC.retI rfl h

/-- java/lang/String.isLatin1()Z -/
theorem t_29_0 {xl : List Int32} {n : Nat} {ι : IS} {Q : Option Value → IS → Prop} {o : Nat} {bs : List Int32} (ho1 : tRo xl o = some (.inl (99, [.ref (KB + (o + 1)), .int 0]))) (ho2 : tRo xl (o + 1) = some (.inr (.inl (2, bs)))) (h : (((1 : Int32) = 0 → Q (some (.int 0)) ι) ∧ (¬ (1 : Int32) = 0 → ((¬ (0 : Int32) = 0 → Q (some (.int 0)) ι) ∧ ((0 : Int32) = 0 → Q (some (.int 1)) ι))))) : PC xl (n + 1) 29 0 [(0, .ref (KB + o))] [] ι Q := by
  refine PC.pr1 (k := 0) (pc' := 3) (lv' := [(0, .ref (KB + o))]) (st' := [.int 1]) rfl ?_
  refine PC.if1 (t := 17) rfl rfl (fun c => ?_) (fun c => ?_)
  · have h := h.1 (cmp_eq.1.mp c)
    refine PC.pr (k := 1) (pc' := 18) (lv' := [(0, .ref (KB + o))]) (st' := [.int 0]) rfl ?_
    exact PC.retI rfl h
  · have h := h.2 (cmp_eq.2.mp c)
    refine PC.pr (k := 1) (pc' := 7) (lv' := [(0, .ref (KB + o))]) (st' := [.ref (KB + o)]) rfl ?_
    refine PC.gS ho1 rfl rfl ?_
    refine PC.if1 (t := 17) rfl rfl (fun c => ?_) (fun c => ?_)
    · have h := h.1 (cmp_ne.1.mp c)
      refine PC.pr (k := 1) (pc' := 18) (lv' := [(0, .ref (KB + o))]) (st' := [.int 0]) rfl ?_
      exact PC.retI rfl h
    · have h := h.2 (cmp_ne.2.mp c)
      refine PC.pr (k := 1) (pc' := 14) (lv' := [(0, .ref (KB + o))]) (st' := [.int 1]) rfl ?_
      refine PC.pr (k := 1) (pc' := 18) (lv' := [(0, .ref (KB + o))]) (st' := [.int 1]) rfl ?_
      exact PC.retI rfl h

/-- java/lang/StringLatin1.charAt([BI)C -/
theorem t_30_0 {xl : List Int32} {n : Nat} {ι : IS} {Q : Option Value → IS → Prop} {o : Nat} {bs : List Int32} (ho1 : tRo xl o = some (.inl (99, [.ref (KB + (o + 1)), .int 0]))) (ho2 : tRo xl (o + 1) = some (.inr (.inl (2, bs)))) {x1 : Int32} (h : PC xl n 31 0 [(0, .int x1), (1, .int (Int32.ofNat bs.length))] [] ι (fun _ κ1 => (0 ≤ x1.toInt → x1.toInt < bs.length → Q (some (.int ((((bs.getD x1.toNatClampNeg 0) &&& 255)).toUInt32 % 65536).toInt32)) κ1))) : PC xl (n + 1) 30 0 [(0, .ref (KB + (o + 1))), (1, .int x1)] [] ι Q := by
  refine PC.pr1 (k := 0) (pc' := 1) (lv' := [(0, .ref (KB + (o + 1))), (1, .int x1)]) (st' := [.int x1]) rfl ?_
  refine PC.pr (k := 1) (pc' := 2) (lv' := [(0, .ref (KB + (o + 1))), (1, .int x1)]) (st' := [.ref (KB + (o + 1)), .int x1]) rfl ?_
  refine PC.aL ho2 rfl ?_
  refine (PC.callV (j := 31) (args := [.int x1, .int (Int32.ofNat bs.length)]) (rest := []) (M := cM31) rfl rfl rfl rfl rfl rfl (by decide) rfl rfl ?_).weak
  refine PC.imp h (fun _ κ1 h => ?_)
  refine PC.pr (k := 1) (pc' := 7) (lv' := [(0, .ref (KB + (o + 1))), (1, .int x1)]) (st' := [.ref (KB + (o + 1))]) rfl ?_
  refine PC.pr (k := 1) (pc' := 8) (lv' := [(0, .ref (KB + (o + 1))), (1, .int x1)]) (st' := [.int x1, .ref (KB + (o + 1))]) rfl ?_
  refine PC.bS ho2 rfl (fun c1 c2 => ?_)
  have h := h c1 c2
  refine PC.pr (k := 1) (pc' := 12) (lv' := [(0, .ref (KB + (o + 1))), (1, .int x1)]) (st' := [.int 255, .int (bs.getD x1.toNatClampNeg 0)]) rfl ?_
  refine PC.pr (k := 1) (pc' := 13) (lv' := [(0, .ref (KB + (o + 1))), (1, .int x1)]) (st' := [.int ((bs.getD x1.toNatClampNeg 0) &&& 255)]) rfl ?_
  refine PC.pr (k := 1) (pc' := 14) (lv' := [(0, .ref (KB + (o + 1))), (1, .int x1)]) (st' := [.int ((((bs.getD x1.toNatClampNeg 0) &&& 255)).toUInt32 % 65536).toInt32]) rfl ?_
  exact PC.retI rfl h

/-- java/lang/String.checkIndex(II)V -/
theorem t_31_0 {xl : List Int32} {n : Nat} {ι : IS} {Q : Option Value → IS → Prop} {x0 : Int32} {x1 : Int32} (h : PC xl n 32 0 [(0, .int x0), (1, .int x1), (2, .ref (KB + 100))] [] ι (fun v1 κ1 => ∀ r1, v1 = some (.int r1) → Q none κ1)) : PC xl (n + 1) 31 0 [(0, .int x0), (1, .int x1)] [] ι Q := by
  refine PC.pr1 (k := 0) (pc' := 1) (lv' := [(0, .int x0), (1, .int x1)]) (st' := [.int x0]) rfl ?_
  refine PC.pr (k := 1) (pc' := 2) (lv' := [(0, .int x0), (1, .int x1)]) (st' := [.int x1, .int x0]) rfl ?_
  refine PC.pr (k := 1) (pc' := 5) (lv' := [(0, .int x0), (1, .int x1)]) (st' := [.ref (KB + 100), .int x1, .int x0]) rfl ?_
  refine (PC.callI (j := 32) (args := [.int x0, .int x1, .ref (KB + 100)]) (rest := []) (M := cM32) (ty := .int) rfl rfl rfl rfl rfl rfl (by decide) rfl rfl (by decide) ?_).weak
  refine PC.imp h (fun v1 κ1 h r1 hv => ?_)
  have h := h r1 hv
  refine PC.pr (k := 1) (pc' := 9) (lv' := [(0, .int x0), (1, .int x1)]) (st' := []) rfl ?_
  exact PC.retV rfl h

/-- jdk/internal/util/Preconditions.checkIndex(IILjava/util/function/BiFunction;)I -/
theorem t_32_0 {xl : List Int32} {n : Nat} {ι : IS} {Q : Option Value → IS → Prop} {x0 : Int32} {x1 : Int32} {a2 : Nat} (h : ((x0 < 0 → True) ∧ (¬ x0 < 0 → ((x0 < x1 → Q (some (.int x0)) ι) ∧ (¬ x0 < x1 → True))))) : PC xl (n + 1) 32 0 [(0, .int x0), (1, .int x1), (2, .ref a2)] [] ι Q := by
  refine PC.pr1 (k := 0) (pc' := 1) (lv' := [(0, .int x0), (1, .int x1), (2, .ref a2)]) (st' := [.int x0]) rfl ?_
  refine PC.if1 (t := 9) rfl rfl (fun c => ?_) (fun c => ?_)
  · have h := h.1 (cmp_lt.1.mp c)
    refine PC.pr (k := 1) (pc' := 10) (lv' := [(0, .int x0), (1, .int x1), (2, .ref a2)]) (st' := [.ref a2]) rfl ?_
    refine PC.pr (k := 1) (pc' := 11) (lv' := [(0, .int x0), (1, .int x1), (2, .ref a2)]) (st' := [.int x0, .ref a2]) rfl ?_
    refine PC.pr (k := 1) (pc' := 12) (lv' := [(0, .int x0), (1, .int x1), (2, .ref a2)]) (st' := [.int x1, .int x0, .ref a2]) rfl ?_
    exact PC.none rfl
  · have h := h.2 (cmp_lt.2.mp c)
    refine PC.pr (k := 1) (pc' := 5) (lv' := [(0, .int x0), (1, .int x1), (2, .ref a2)]) (st' := [.int x0]) rfl ?_
    refine PC.pr (k := 1) (pc' := 6) (lv' := [(0, .int x0), (1, .int x1), (2, .ref a2)]) (st' := [.int x1, .int x0]) rfl ?_
    refine PC.if2 (t := 16) rfl rfl (fun c => ?_) (fun c => ?_)
    · have h := h.1 (cmp_lt.1.mp c)
      refine PC.pr (k := 1) (pc' := 17) (lv' := [(0, .int x0), (1, .int x1), (2, .ref a2)]) (st' := [.int x0]) rfl ?_
      exact PC.retI rfl h
    · have h := h.2 (cmp_lt.2.mp c)
      refine PC.pr (k := 1) (pc' := 10) (lv' := [(0, .int x0), (1, .int x1), (2, .ref a2)]) (st' := [.ref a2]) rfl ?_
      refine PC.pr (k := 1) (pc' := 11) (lv' := [(0, .int x0), (1, .int x1), (2, .ref a2)]) (st' := [.int x0, .ref a2]) rfl ?_
      refine PC.pr (k := 1) (pc' := 12) (lv' := [(0, .int x0), (1, .int x1), (2, .ref a2)]) (st' := [.int x1, .int x0, .ref a2]) rfl ?_
      exact PC.none rfl

/-- DoorPaintsModel.lineNow()I -/
theorem t_155_0 {xl : List Int32} {n : Nat} {ι : IS} {Q : Option Value → IS → Prop} {a0 : Nat} (h : PC xl n 156 0 [(0, .ref a0), (1, .int 5), (2, .int 112), (3, .int 108), (4, .int 97)] [] ι (fun v1 κ1 => ∀ r1, v1 = some (.int r1) → ((r1 = 0 → PC xl n 155 28 [(0, .ref a0)] [] κ1 Q) ∧ (¬ r1 = 0 → PC xl n 157 0 [(0, .ref a0), (1, .int 105), (2, .int 110), (3, .int 0)] [] κ1 (fun v2 κ2 => ∀ r2, v2 = some (.int r2) → ((r2 = 0 → PC xl n 155 28 [(0, .ref a0)] [] κ2 Q) ∧ (¬ r2 = 0 → Q (some (.int 0)) κ2))))))) : PC xl (n + 1) 155 0 [(0, .ref a0)] [] ι Q := by
  refine PC.pr1 (k := 0) (pc' := 1) (lv' := [(0, .ref a0)]) (st' := [.ref a0]) rfl ?_
  refine PC.pr (k := 1) (pc' := 2) (lv' := [(0, .ref a0)]) (st' := [.int 5, .ref a0]) rfl ?_
  refine PC.pr (k := 1) (pc' := 4) (lv' := [(0, .ref a0)]) (st' := [.int 112, .int 5, .ref a0]) rfl ?_
  refine PC.pr (k := 1) (pc' := 6) (lv' := [(0, .ref a0)]) (st' := [.int 108, .int 112, .int 5, .ref a0]) rfl ?_
  refine PC.pr (k := 1) (pc' := 8) (lv' := [(0, .ref a0)]) (st' := [.int 97, .int 108, .int 112, .int 5, .ref a0]) rfl ?_
  refine (PC.callI (j := 156) (args := [.ref a0, .int 5, .int 112, .int 108, .int 97]) (rest := []) (M := cM156) (ty := .boolean) rfl rfl rfl rfl rfl rfl (by decide) rfl rfl (by decide) ?_).weak
  refine PC.imp h (fun v1 κ1 h r1 hv => ?_)
  have h := h r1 hv
  refine PC.if1 (t := 28) rfl rfl (fun c => ?_) (fun c => ?_)
  · have h := h.1 (cmp_eq.1.mp c)
    exact h
  · have h := h.2 (cmp_eq.2.mp c)
    refine PC.pr (k := 1) (pc' := 15) (lv' := [(0, .ref a0)]) (st' := [.ref a0]) rfl ?_
    refine PC.pr (k := 1) (pc' := 17) (lv' := [(0, .ref a0)]) (st' := [.int 105, .ref a0]) rfl ?_
    refine PC.pr (k := 1) (pc' := 19) (lv' := [(0, .ref a0)]) (st' := [.int 110, .int 105, .ref a0]) rfl ?_
    refine PC.pr (k := 1) (pc' := 20) (lv' := [(0, .ref a0)]) (st' := [.int 0, .int 110, .int 105, .ref a0]) rfl ?_
    refine (PC.callI (j := 157) (args := [.ref a0, .int 105, .int 110, .int 0]) (rest := []) (M := cM157) (ty := .boolean) rfl rfl rfl rfl rfl rfl (by decide) rfl rfl (by decide) ?_).weak
    refine PC.imp h (fun v2 κ2 h r2 hv => ?_)
    have h := h r2 hv
    refine PC.if1 (t := 28) rfl rfl (fun c => ?_) (fun c => ?_)
    · have h := h.1 (cmp_eq.1.mp c)
      exact h
    · have h := h.2 (cmp_eq.2.mp c)
      refine PC.pr (k := 1) (pc' := 27) (lv' := [(0, .ref a0)]) (st' := [.int 0]) rfl ?_
      exact PC.retI rfl h
theorem t_155_28 {xl : List Int32} {n : Nat} {ι : IS} {Q : Option Value → IS → Prop} {a0 : Nat} (h : PC xl n 156 0 [(0, .ref a0), (1, .int 6), (2, .int 112), (3, .int 114), (4, .int 105)] [] ι (fun v1 κ1 => ∀ r1, v1 = some (.int r1) → ((r1 = 0 → PC xl n 155 58 [(0, .ref a0)] [] κ1 Q) ∧ (¬ r1 = 0 → PC xl n 157 0 [(0, .ref a0), (1, .int 101), (2, .int 115), (3, .int 116)] [] κ1 (fun v2 κ2 => ∀ r2, v2 = some (.int r2) → ((r2 = 0 → PC xl n 155 58 [(0, .ref a0)] [] κ2 Q) ∧ (¬ r2 = 0 → Q (some (.int 1)) κ2))))))) : PC xl (n + 1) 155 28 [(0, .ref a0)] [] ι Q := by
  refine PC.pr1 (k := 0) (pc' := 29) (lv' := [(0, .ref a0)]) (st' := [.ref a0]) rfl ?_
  refine PC.pr (k := 1) (pc' := 31) (lv' := [(0, .ref a0)]) (st' := [.int 6, .ref a0]) rfl ?_
  refine PC.pr (k := 1) (pc' := 33) (lv' := [(0, .ref a0)]) (st' := [.int 112, .int 6, .ref a0]) rfl ?_
  refine PC.pr (k := 1) (pc' := 35) (lv' := [(0, .ref a0)]) (st' := [.int 114, .int 112, .int 6, .ref a0]) rfl ?_
  refine PC.pr (k := 1) (pc' := 37) (lv' := [(0, .ref a0)]) (st' := [.int 105, .int 114, .int 112, .int 6, .ref a0]) rfl ?_
  refine (PC.callI (j := 156) (args := [.ref a0, .int 6, .int 112, .int 114, .int 105]) (rest := []) (M := cM156) (ty := .boolean) rfl rfl rfl rfl rfl rfl (by decide) rfl rfl (by decide) ?_).weak
  refine PC.imp h (fun v1 κ1 h r1 hv => ?_)
  have h := h r1 hv
  refine PC.if1 (t := 58) rfl rfl (fun c => ?_) (fun c => ?_)
  · have h := h.1 (cmp_eq.1.mp c)
    exact h
  · have h := h.2 (cmp_eq.2.mp c)
    refine PC.pr (k := 1) (pc' := 44) (lv' := [(0, .ref a0)]) (st' := [.ref a0]) rfl ?_
    refine PC.pr (k := 1) (pc' := 46) (lv' := [(0, .ref a0)]) (st' := [.int 101, .ref a0]) rfl ?_
    refine PC.pr (k := 1) (pc' := 48) (lv' := [(0, .ref a0)]) (st' := [.int 115, .int 101, .ref a0]) rfl ?_
    refine PC.pr (k := 1) (pc' := 50) (lv' := [(0, .ref a0)]) (st' := [.int 116, .int 115, .int 101, .ref a0]) rfl ?_
    refine (PC.callI (j := 157) (args := [.ref a0, .int 101, .int 115, .int 116]) (rest := []) (M := cM157) (ty := .boolean) rfl rfl rfl rfl rfl rfl (by decide) rfl rfl (by decide) ?_).weak
    refine PC.imp h (fun v2 κ2 h r2 hv => ?_)
    have h := h r2 hv
    refine PC.if1 (t := 58) rfl rfl (fun c => ?_) (fun c => ?_)
    · have h := h.1 (cmp_eq.1.mp c)
      exact h
    · have h := h.2 (cmp_eq.2.mp c)
      refine PC.pr (k := 1) (pc' := 57) (lv' := [(0, .ref a0)]) (st' := [.int 1]) rfl ?_
      exact PC.retI rfl h
theorem t_155_58 {xl : List Int32} {n : Nat} {ι : IS} {Q : Option Value → IS → Prop} {a0 : Nat} (h : PC xl n 156 0 [(0, .ref a0), (1, .int 5), (2, .int 109), (3, .int 105), (4, .int 115)] [] ι (fun v1 κ1 => ∀ r1, v1 = some (.int r1) → ((r1 = 0 → PC xl n 155 86 [(0, .ref a0)] [] κ1 Q) ∧ (¬ r1 = 0 → PC xl n 157 0 [(0, .ref a0), (1, .int 101), (2, .int 114), (3, .int 0)] [] κ1 (fun v2 κ2 => ∀ r2, v2 = some (.int r2) → ((r2 = 0 → PC xl n 155 86 [(0, .ref a0)] [] κ2 Q) ∧ (¬ r2 = 0 → Q (some (.int 2)) κ2))))))) : PC xl (n + 1) 155 58 [(0, .ref a0)] [] ι Q := by
  refine PC.pr1 (k := 0) (pc' := 59) (lv' := [(0, .ref a0)]) (st' := [.ref a0]) rfl ?_
  refine PC.pr (k := 1) (pc' := 60) (lv' := [(0, .ref a0)]) (st' := [.int 5, .ref a0]) rfl ?_
  refine PC.pr (k := 1) (pc' := 62) (lv' := [(0, .ref a0)]) (st' := [.int 109, .int 5, .ref a0]) rfl ?_
  refine PC.pr (k := 1) (pc' := 64) (lv' := [(0, .ref a0)]) (st' := [.int 105, .int 109, .int 5, .ref a0]) rfl ?_
  refine PC.pr (k := 1) (pc' := 66) (lv' := [(0, .ref a0)]) (st' := [.int 115, .int 105, .int 109, .int 5, .ref a0]) rfl ?_
  refine (PC.callI (j := 156) (args := [.ref a0, .int 5, .int 109, .int 105, .int 115]) (rest := []) (M := cM156) (ty := .boolean) rfl rfl rfl rfl rfl rfl (by decide) rfl rfl (by decide) ?_).weak
  refine PC.imp h (fun v1 κ1 h r1 hv => ?_)
  have h := h r1 hv
  refine PC.if1 (t := 86) rfl rfl (fun c => ?_) (fun c => ?_)
  · have h := h.1 (cmp_eq.1.mp c)
    exact h
  · have h := h.2 (cmp_eq.2.mp c)
    refine PC.pr (k := 1) (pc' := 73) (lv' := [(0, .ref a0)]) (st' := [.ref a0]) rfl ?_
    refine PC.pr (k := 1) (pc' := 75) (lv' := [(0, .ref a0)]) (st' := [.int 101, .ref a0]) rfl ?_
    refine PC.pr (k := 1) (pc' := 77) (lv' := [(0, .ref a0)]) (st' := [.int 114, .int 101, .ref a0]) rfl ?_
    refine PC.pr (k := 1) (pc' := 78) (lv' := [(0, .ref a0)]) (st' := [.int 0, .int 114, .int 101, .ref a0]) rfl ?_
    refine (PC.callI (j := 157) (args := [.ref a0, .int 101, .int 114, .int 0]) (rest := []) (M := cM157) (ty := .boolean) rfl rfl rfl rfl rfl rfl (by decide) rfl rfl (by decide) ?_).weak
    refine PC.imp h (fun v2 κ2 h r2 hv => ?_)
    have h := h r2 hv
    refine PC.if1 (t := 86) rfl rfl (fun c => ?_) (fun c => ?_)
    · have h := h.1 (cmp_eq.1.mp c)
      exact h
    · have h := h.2 (cmp_eq.2.mp c)
      refine PC.pr (k := 1) (pc' := 85) (lv' := [(0, .ref a0)]) (st' := [.int 2]) rfl ?_
      exact PC.retI rfl h
theorem t_155_86 {xl : List Int32} {n : Nat} {ι : IS} {Q : Option Value → IS → Prop} {a0 : Nat} (h : PC xl n 156 0 [(0, .ref a0), (1, .int 3), (2, .int 115), (3, .int 112), (4, .int 121)] [] ι (fun v1 κ1 => ∀ r1, v1 = some (.int r1) → ((r1 = 0 → PC xl n 156 0 [(0, .ref a0), (1, .int 4), (2, .int 100), (3, .int 111), (4, .int 111)] [] κ1 (fun v2 κ2 => ∀ r2, v2 = some (.int r2) → ((r2 = 0 → PC xl n 155 129 [(0, .ref a0)] [] κ2 Q) ∧ (¬ r2 = 0 → PC xl n 157 0 [(0, .ref a0), (1, .int 114), (2, .int 0), (3, .int 0)] [] κ2 (fun v3 κ3 => ∀ r3, v3 = some (.int r3) → ((r3 = 0 → PC xl n 155 129 [(0, .ref a0)] [] κ3 Q) ∧ (¬ r3 = 0 → Q (some (.int 4)) κ3))))))) ∧ (¬ r1 = 0 → Q (some (.int 3)) κ1)))) : PC xl (n + 1) 155 86 [(0, .ref a0)] [] ι Q := by
  refine PC.pr1 (k := 0) (pc' := 87) (lv' := [(0, .ref a0)]) (st' := [.ref a0]) rfl ?_
  refine PC.pr (k := 1) (pc' := 88) (lv' := [(0, .ref a0)]) (st' := [.int 3, .ref a0]) rfl ?_
  refine PC.pr (k := 1) (pc' := 90) (lv' := [(0, .ref a0)]) (st' := [.int 115, .int 3, .ref a0]) rfl ?_
  refine PC.pr (k := 1) (pc' := 92) (lv' := [(0, .ref a0)]) (st' := [.int 112, .int 115, .int 3, .ref a0]) rfl ?_
  refine PC.pr (k := 1) (pc' := 94) (lv' := [(0, .ref a0)]) (st' := [.int 121, .int 112, .int 115, .int 3, .ref a0]) rfl ?_
  refine (PC.callI (j := 156) (args := [.ref a0, .int 3, .int 115, .int 112, .int 121]) (rest := []) (M := cM156) (ty := .boolean) rfl rfl rfl rfl rfl rfl (by decide) rfl rfl (by decide) ?_).weak
  refine PC.imp h (fun v1 κ1 h r1 hv => ?_)
  have h := h r1 hv
  refine PC.if1 (t := 102) rfl rfl (fun c => ?_) (fun c => ?_)
  · have h := h.1 (cmp_eq.1.mp c)
    refine PC.pr (k := 1) (pc' := 103) (lv' := [(0, .ref a0)]) (st' := [.ref a0]) rfl ?_
    refine PC.pr (k := 1) (pc' := 104) (lv' := [(0, .ref a0)]) (st' := [.int 4, .ref a0]) rfl ?_
    refine PC.pr (k := 1) (pc' := 106) (lv' := [(0, .ref a0)]) (st' := [.int 100, .int 4, .ref a0]) rfl ?_
    refine PC.pr (k := 1) (pc' := 108) (lv' := [(0, .ref a0)]) (st' := [.int 111, .int 100, .int 4, .ref a0]) rfl ?_
    refine PC.pr (k := 1) (pc' := 110) (lv' := [(0, .ref a0)]) (st' := [.int 111, .int 111, .int 100, .int 4, .ref a0]) rfl ?_
    refine (PC.callI (j := 156) (args := [.ref a0, .int 4, .int 100, .int 111, .int 111]) (rest := []) (M := cM156) (ty := .boolean) rfl rfl rfl rfl rfl rfl (by decide) rfl rfl (by decide) ?_).weak
    refine PC.imp h (fun v2 κ2 h r2 hv => ?_)
    have h := h r2 hv
    refine PC.if1 (t := 129) rfl rfl (fun c => ?_) (fun c => ?_)
    · have h := h.1 (cmp_eq.1.mp c)
      exact h
    · have h := h.2 (cmp_eq.2.mp c)
      refine PC.pr (k := 1) (pc' := 117) (lv' := [(0, .ref a0)]) (st' := [.ref a0]) rfl ?_
      refine PC.pr (k := 1) (pc' := 119) (lv' := [(0, .ref a0)]) (st' := [.int 114, .ref a0]) rfl ?_
      refine PC.pr (k := 1) (pc' := 120) (lv' := [(0, .ref a0)]) (st' := [.int 0, .int 114, .ref a0]) rfl ?_
      refine PC.pr (k := 1) (pc' := 121) (lv' := [(0, .ref a0)]) (st' := [.int 0, .int 0, .int 114, .ref a0]) rfl ?_
      refine (PC.callI (j := 157) (args := [.ref a0, .int 114, .int 0, .int 0]) (rest := []) (M := cM157) (ty := .boolean) rfl rfl rfl rfl rfl rfl (by decide) rfl rfl (by decide) ?_).weak
      refine PC.imp h (fun v3 κ3 h r3 hv => ?_)
      have h := h r3 hv
      refine PC.if1 (t := 129) rfl rfl (fun c => ?_) (fun c => ?_)
      · have h := h.1 (cmp_eq.1.mp c)
        exact h
      · have h := h.2 (cmp_eq.2.mp c)
        refine PC.pr (k := 1) (pc' := 128) (lv' := [(0, .ref a0)]) (st' := [.int 4]) rfl ?_
        exact PC.retI rfl h
  · have h := h.2 (cmp_eq.2.mp c)
    refine PC.pr (k := 1) (pc' := 101) (lv' := [(0, .ref a0)]) (st' := [.int 3]) rfl ?_
    exact PC.retI rfl h
theorem t_155_129 {xl : List Int32} {n : Nat} {ι : IS} {Q : Option Value → IS → Prop} {a0 : Nat} (h : PC xl n 156 0 [(0, .ref a0), (1, .int 3), (2, .int 110), (3, .int 111), (4, .int 116)] [] ι (fun v1 κ1 => ∀ r1, v1 = some (.int r1) → ((r1 = 0 → PC xl n 156 0 [(0, .ref a0), (1, .int 4), (2, .int 112), (3, .int 108), (4, .int 97)] [] κ1 (fun v2 κ2 => ∀ r2, v2 = some (.int r2) → ((r2 = 0 → Q (some (.int (-4))) κ2) ∧ (¬ r2 = 0 → PC xl n 157 0 [(0, .ref a0), (1, .int 110), (2, .int 0), (3, .int 0)] [] κ2 (fun v3 κ3 => ∀ r3, v3 = some (.int r3) → ((r3 = 0 → Q (some (.int (-4))) κ3) ∧ (¬ r3 = 0 → Q (some (.int 6)) κ3))))))) ∧ (¬ r1 = 0 → Q (some (.int 5)) κ1)))) : PC xl (n + 1) 155 129 [(0, .ref a0)] [] ι Q := by
  refine PC.pr1 (k := 0) (pc' := 130) (lv' := [(0, .ref a0)]) (st' := [.ref a0]) rfl ?_
  refine PC.pr (k := 1) (pc' := 131) (lv' := [(0, .ref a0)]) (st' := [.int 3, .ref a0]) rfl ?_
  refine PC.pr (k := 1) (pc' := 133) (lv' := [(0, .ref a0)]) (st' := [.int 110, .int 3, .ref a0]) rfl ?_
  refine PC.pr (k := 1) (pc' := 135) (lv' := [(0, .ref a0)]) (st' := [.int 111, .int 110, .int 3, .ref a0]) rfl ?_
  refine PC.pr (k := 1) (pc' := 137) (lv' := [(0, .ref a0)]) (st' := [.int 116, .int 111, .int 110, .int 3, .ref a0]) rfl ?_
  refine (PC.callI (j := 156) (args := [.ref a0, .int 3, .int 110, .int 111, .int 116]) (rest := []) (M := cM156) (ty := .boolean) rfl rfl rfl rfl rfl rfl (by decide) rfl rfl (by decide) ?_).weak
  refine PC.imp h (fun v1 κ1 h r1 hv => ?_)
  have h := h r1 hv
  refine PC.if1 (t := 147) rfl rfl (fun c => ?_) (fun c => ?_)
  · have h := h.1 (cmp_eq.1.mp c)
    refine PC.pr (k := 1) (pc' := 148) (lv' := [(0, .ref a0)]) (st' := [.ref a0]) rfl ?_
    refine PC.pr (k := 1) (pc' := 149) (lv' := [(0, .ref a0)]) (st' := [.int 4, .ref a0]) rfl ?_
    refine PC.pr (k := 1) (pc' := 151) (lv' := [(0, .ref a0)]) (st' := [.int 112, .int 4, .ref a0]) rfl ?_
    refine PC.pr (k := 1) (pc' := 153) (lv' := [(0, .ref a0)]) (st' := [.int 108, .int 112, .int 4, .ref a0]) rfl ?_
    refine PC.pr (k := 1) (pc' := 155) (lv' := [(0, .ref a0)]) (st' := [.int 97, .int 108, .int 112, .int 4, .ref a0]) rfl ?_
    refine (PC.callI (j := 156) (args := [.ref a0, .int 4, .int 112, .int 108, .int 97]) (rest := []) (M := cM156) (ty := .boolean) rfl rfl rfl rfl rfl rfl (by decide) rfl rfl (by decide) ?_).weak
    refine PC.imp h (fun v2 κ2 h r2 hv => ?_)
    have h := h r2 hv
    refine PC.if1 (t := 177) rfl rfl (fun c => ?_) (fun c => ?_)
    · have h := h.1 (cmp_eq.1.mp c)
      refine PC.pr (k := 1) (pc' := 179) (lv' := [(0, .ref a0)]) (st' := [.int (-4)]) rfl ?_
      exact PC.retI rfl h
    · have h := h.2 (cmp_eq.2.mp c)
      refine PC.pr (k := 1) (pc' := 162) (lv' := [(0, .ref a0)]) (st' := [.ref a0]) rfl ?_
      refine PC.pr (k := 1) (pc' := 164) (lv' := [(0, .ref a0)]) (st' := [.int 110, .ref a0]) rfl ?_
      refine PC.pr (k := 1) (pc' := 165) (lv' := [(0, .ref a0)]) (st' := [.int 0, .int 110, .ref a0]) rfl ?_
      refine PC.pr (k := 1) (pc' := 166) (lv' := [(0, .ref a0)]) (st' := [.int 0, .int 0, .int 110, .ref a0]) rfl ?_
      refine (PC.callI (j := 157) (args := [.ref a0, .int 110, .int 0, .int 0]) (rest := []) (M := cM157) (ty := .boolean) rfl rfl rfl rfl rfl rfl (by decide) rfl rfl (by decide) ?_).weak
      refine PC.imp h (fun v3 κ3 h r3 hv => ?_)
      have h := h r3 hv
      refine PC.if1 (t := 177) rfl rfl (fun c => ?_) (fun c => ?_)
      · have h := h.1 (cmp_eq.1.mp c)
        refine PC.pr (k := 1) (pc' := 179) (lv' := [(0, .ref a0)]) (st' := [.int (-4)]) rfl ?_
        exact PC.retI rfl h
      · have h := h.2 (cmp_eq.2.mp c)
        refine PC.pr (k := 1) (pc' := 174) (lv' := [(0, .ref a0)]) (st' := [.int 6]) rfl ?_
        refine PC.pr (k := 1) (pc' := 179) (lv' := [(0, .ref a0)]) (st' := [.int 6]) rfl ?_
        exact PC.retI rfl h
  · have h := h.2 (cmp_eq.2.mp c)
    refine PC.pr (k := 1) (pc' := 144) (lv' := [(0, .ref a0)]) (st' := [.int 5]) rfl ?_
    refine PC.pr (k := 1) (pc' := 179) (lv' := [(0, .ref a0)]) (st' := [.int 5]) rfl ?_
    exact PC.retI rfl h

/-- DoorPaintsModel.is(IIII)Z -/
theorem t_156_0 {xl : List Int32} {n : Nat} {ι : IS} {Q : Option Value → IS → Prop} {a0 : Nat} {x1 : Int32} {x2 : Int32} {x3 : Int32} {x4 : Int32} (h : ((¬ ((ι a0 14) - (ι a0 15)) = x1 → Q (some (.int 0)) ι) ∧ (((ι a0 14) - (ι a0 15)) = x1 → PC xl n 152 0 [(0, .ref a0), (1, .int (ι a0 15))] [] ι (fun v1 κ1 => ∀ r1, v1 = some (.int r1) → ((¬ r1 = x2 → Q (some (.int 0)) κ1) ∧ (r1 = x2 → PC xl n 152 0 [(0, .ref a0), (1, .int ((κ1 a0 15) + 1))] [] κ1 (fun v2 κ2 => ∀ r2, v2 = some (.int r2) → ((¬ r2 = x3 → Q (some (.int 0)) κ2) ∧ (r2 = x3 → PC xl n 152 0 [(0, .ref a0), (1, .int ((κ2 a0 15) + 2))] [] κ2 (fun v3 κ3 => ∀ r3, v3 = some (.int r3) → ((¬ r3 = x4 → Q (some (.int 0)) κ3) ∧ (r3 = x4 → Q (some (.int 1)) κ3)))))))))))) : PC xl (n + 1) 156 0 [(0, .ref a0), (1, .int x1), (2, .int x2), (3, .int x3), (4, .int x4)] [] ι Q := by
  refine PC.pr1 (k := 0) (pc' := 1) (lv' := [(0, .ref a0), (1, .int x1), (2, .int x2), (3, .int x3), (4, .int x4)]) (st' := [.ref a0]) rfl ?_
  refine PC.gI (ci := 9) (j := 14) rfl rfl (by decide) ?_
  refine PC.pr (k := 1) (pc' := 5) (lv' := [(0, .ref a0), (1, .int x1), (2, .int x2), (3, .int x3), (4, .int x4)]) (st' := [.ref a0, .int (ι a0 14)]) rfl ?_
  refine PC.gI (ci := 9) (j := 15) rfl rfl (by decide) ?_
  refine PC.pr (k := 1) (pc' := 9) (lv' := [(0, .ref a0), (1, .int x1), (2, .int x2), (3, .int x3), (4, .int x4)]) (st' := [.int ((ι a0 14) - (ι a0 15))]) rfl ?_
  refine PC.pr (k := 1) (pc' := 10) (lv' := [(0, .ref a0), (1, .int x1), (2, .int x2), (3, .int x3), (4, .int x4)]) (st' := [.int x1, .int ((ι a0 14) - (ι a0 15))]) rfl ?_
  refine PC.if2 (t := 58) rfl rfl (fun c => ?_) (fun c => ?_)
  · have h := h.1 (cmp_ne.1.mp c)
    refine PC.pr (k := 1) (pc' := 59) (lv' := [(0, .ref a0), (1, .int x1), (2, .int x2), (3, .int x3), (4, .int x4)]) (st' := [.int 0]) rfl ?_
    exact PC.retI rfl h
  · have h := h.2 (cmp_ne.2.mp c)
    refine PC.pr (k := 1) (pc' := 14) (lv' := [(0, .ref a0), (1, .int x1), (2, .int x2), (3, .int x3), (4, .int x4)]) (st' := [.ref a0]) rfl ?_
    refine PC.pr (k := 1) (pc' := 15) (lv' := [(0, .ref a0), (1, .int x1), (2, .int x2), (3, .int x3), (4, .int x4)]) (st' := [.ref a0, .ref a0]) rfl ?_
    refine PC.gI (ci := 9) (j := 15) rfl rfl (by decide) ?_
    refine (PC.callI (j := 152) (args := [.ref a0, .int (ι a0 15)]) (rest := []) (M := cM152) (ty := .int) rfl rfl rfl rfl rfl rfl (by decide) rfl rfl (by decide) ?_).weak
    refine PC.imp h (fun v1 κ1 h r1 hv => ?_)
    have h := h r1 hv
    refine PC.pr (k := 1) (pc' := 22) (lv' := [(0, .ref a0), (1, .int x1), (2, .int x2), (3, .int x3), (4, .int x4)]) (st' := [.int x2, .int r1]) rfl ?_
    refine PC.if2 (t := 58) rfl rfl (fun c => ?_) (fun c => ?_)
    · have h := h.1 (cmp_ne.1.mp c)
      refine PC.pr (k := 1) (pc' := 59) (lv' := [(0, .ref a0), (1, .int x1), (2, .int x2), (3, .int x3), (4, .int x4)]) (st' := [.int 0]) rfl ?_
      exact PC.retI rfl h
    · have h := h.2 (cmp_ne.2.mp c)
      refine PC.pr (k := 1) (pc' := 26) (lv' := [(0, .ref a0), (1, .int x1), (2, .int x2), (3, .int x3), (4, .int x4)]) (st' := [.ref a0]) rfl ?_
      refine PC.pr (k := 1) (pc' := 27) (lv' := [(0, .ref a0), (1, .int x1), (2, .int x2), (3, .int x3), (4, .int x4)]) (st' := [.ref a0, .ref a0]) rfl ?_
      refine PC.gI (ci := 9) (j := 15) rfl rfl (by decide) ?_
      refine PC.pr (k := 1) (pc' := 31) (lv' := [(0, .ref a0), (1, .int x1), (2, .int x2), (3, .int x3), (4, .int x4)]) (st' := [.int 1, .int (κ1 a0 15), .ref a0]) rfl ?_
      refine PC.pr (k := 1) (pc' := 32) (lv' := [(0, .ref a0), (1, .int x1), (2, .int x2), (3, .int x3), (4, .int x4)]) (st' := [.int ((κ1 a0 15) + 1), .ref a0]) rfl ?_
      refine (PC.callI (j := 152) (args := [.ref a0, .int ((κ1 a0 15) + 1)]) (rest := []) (M := cM152) (ty := .int) rfl rfl rfl rfl rfl rfl (by decide) rfl rfl (by decide) ?_).weak
      refine PC.imp h (fun v2 κ2 h r2 hv => ?_)
      have h := h r2 hv
      refine PC.pr (k := 1) (pc' := 36) (lv' := [(0, .ref a0), (1, .int x1), (2, .int x2), (3, .int x3), (4, .int x4)]) (st' := [.int x3, .int r2]) rfl ?_
      refine PC.if2 (t := 58) rfl rfl (fun c => ?_) (fun c => ?_)
      · have h := h.1 (cmp_ne.1.mp c)
        refine PC.pr (k := 1) (pc' := 59) (lv' := [(0, .ref a0), (1, .int x1), (2, .int x2), (3, .int x3), (4, .int x4)]) (st' := [.int 0]) rfl ?_
        exact PC.retI rfl h
      · have h := h.2 (cmp_ne.2.mp c)
        refine PC.pr (k := 1) (pc' := 40) (lv' := [(0, .ref a0), (1, .int x1), (2, .int x2), (3, .int x3), (4, .int x4)]) (st' := [.ref a0]) rfl ?_
        refine PC.pr (k := 1) (pc' := 41) (lv' := [(0, .ref a0), (1, .int x1), (2, .int x2), (3, .int x3), (4, .int x4)]) (st' := [.ref a0, .ref a0]) rfl ?_
        refine PC.gI (ci := 9) (j := 15) rfl rfl (by decide) ?_
        refine PC.pr (k := 1) (pc' := 45) (lv' := [(0, .ref a0), (1, .int x1), (2, .int x2), (3, .int x3), (4, .int x4)]) (st' := [.int 2, .int (κ2 a0 15), .ref a0]) rfl ?_
        refine PC.pr (k := 1) (pc' := 46) (lv' := [(0, .ref a0), (1, .int x1), (2, .int x2), (3, .int x3), (4, .int x4)]) (st' := [.int ((κ2 a0 15) + 2), .ref a0]) rfl ?_
        refine (PC.callI (j := 152) (args := [.ref a0, .int ((κ2 a0 15) + 2)]) (rest := []) (M := cM152) (ty := .int) rfl rfl rfl rfl rfl rfl (by decide) rfl rfl (by decide) ?_).weak
        refine PC.imp h (fun v3 κ3 h r3 hv => ?_)
        have h := h r3 hv
        refine PC.pr (k := 1) (pc' := 51) (lv' := [(0, .ref a0), (1, .int x1), (2, .int x2), (3, .int x3), (4, .int x4)]) (st' := [.int x4, .int r3]) rfl ?_
        refine PC.if2 (t := 58) rfl rfl (fun c => ?_) (fun c => ?_)
        · have h := h.1 (cmp_ne.1.mp c)
          refine PC.pr (k := 1) (pc' := 59) (lv' := [(0, .ref a0), (1, .int x1), (2, .int x2), (3, .int x3), (4, .int x4)]) (st' := [.int 0]) rfl ?_
          exact PC.retI rfl h
        · have h := h.2 (cmp_ne.2.mp c)
          refine PC.pr (k := 1) (pc' := 55) (lv' := [(0, .ref a0), (1, .int x1), (2, .int x2), (3, .int x3), (4, .int x4)]) (st' := [.int 1]) rfl ?_
          refine PC.pr (k := 1) (pc' := 59) (lv' := [(0, .ref a0), (1, .int x1), (2, .int x2), (3, .int x3), (4, .int x4)]) (st' := [.int 1]) rfl ?_
          exact PC.retI rfl h

/-- DoorPaintsModel.ends(III)Z -/
theorem t_157_0 {xl : List Int32} {n : Nat} {ι : IS} {Q : Option Value → IS → Prop} {a0 : Nat} {x1 : Int32} {x2 : Int32} {x3 : Int32} (h : PC xl n 152 0 [(0, .ref a0), (1, .int ((ι a0 15) + 3))] [] ι (fun v1 κ1 => ∀ r1, v1 = some (.int r1) → ((¬ r1 = x1 → Q (some (.int 0)) κ1) ∧ (r1 = x1 → ((x2 = 0 → ((x3 = 0 → Q (some (.int 1)) κ1) ∧ (¬ x3 = 0 → PC xl n 152 0 [(0, .ref a0), (1, .int ((κ1 a0 15) + 5))] [] κ1 (fun v2 κ2 => ∀ r2, v2 = some (.int r2) → ((¬ r2 = x3 → Q (some (.int 0)) κ2) ∧ (r2 = x3 → Q (some (.int 1)) κ2)))))) ∧ (¬ x2 = 0 → PC xl n 152 0 [(0, .ref a0), (1, .int ((κ1 a0 15) + 4))] [] κ1 (fun v3 κ3 => ∀ r3, v3 = some (.int r3) → ((¬ r3 = x2 → Q (some (.int 0)) κ3) ∧ (r3 = x2 → ((x3 = 0 → Q (some (.int 1)) κ3) ∧ (¬ x3 = 0 → PC xl n 152 0 [(0, .ref a0), (1, .int ((κ3 a0 15) + 5))] [] κ3 (fun v4 κ4 => ∀ r4, v4 = some (.int r4) → ((¬ r4 = x3 → Q (some (.int 0)) κ4) ∧ (r4 = x3 → Q (some (.int 1)) κ4)))))))))))))) : PC xl (n + 1) 157 0 [(0, .ref a0), (1, .int x1), (2, .int x2), (3, .int x3)] [] ι Q := by
  refine PC.pr1 (k := 0) (pc' := 1) (lv' := [(0, .ref a0), (1, .int x1), (2, .int x2), (3, .int x3)]) (st' := [.ref a0]) rfl ?_
  refine PC.pr (k := 1) (pc' := 2) (lv' := [(0, .ref a0), (1, .int x1), (2, .int x2), (3, .int x3)]) (st' := [.ref a0, .ref a0]) rfl ?_
  refine PC.gI (ci := 9) (j := 15) rfl rfl (by decide) ?_
  refine PC.pr (k := 1) (pc' := 6) (lv' := [(0, .ref a0), (1, .int x1), (2, .int x2), (3, .int x3)]) (st' := [.int 3, .int (ι a0 15), .ref a0]) rfl ?_
  refine PC.pr (k := 1) (pc' := 7) (lv' := [(0, .ref a0), (1, .int x1), (2, .int x2), (3, .int x3)]) (st' := [.int ((ι a0 15) + 3), .ref a0]) rfl ?_
  refine (PC.callI (j := 152) (args := [.ref a0, .int ((ι a0 15) + 3)]) (rest := []) (M := cM152) (ty := .int) rfl rfl rfl rfl rfl rfl (by decide) rfl rfl (by decide) ?_).weak
  refine PC.imp h (fun v1 κ1 h r1 hv => ?_)
  have h := h r1 hv
  refine PC.pr (k := 1) (pc' := 11) (lv' := [(0, .ref a0), (1, .int x1), (2, .int x2), (3, .int x3)]) (st' := [.int x1, .int r1]) rfl ?_
  refine PC.if2 (t := 54) rfl rfl (fun c => ?_) (fun c => ?_)
  · have h := h.1 (cmp_ne.1.mp c)
    refine PC.pr (k := 1) (pc' := 55) (lv' := [(0, .ref a0), (1, .int x1), (2, .int x2), (3, .int x3)]) (st' := [.int 0]) rfl ?_
    exact PC.retI rfl h
  · have h := h.2 (cmp_ne.2.mp c)
    refine PC.pr (k := 1) (pc' := 15) (lv' := [(0, .ref a0), (1, .int x1), (2, .int x2), (3, .int x3)]) (st' := [.int x2]) rfl ?_
    refine PC.if1 (t := 32) rfl rfl (fun c => ?_) (fun c => ?_)
    · have h := h.1 (cmp_eq.1.mp c)
      refine PC.pr (k := 1) (pc' := 33) (lv' := [(0, .ref a0), (1, .int x1), (2, .int x2), (3, .int x3)]) (st' := [.int x3]) rfl ?_
      refine PC.if1 (t := 50) rfl rfl (fun c => ?_) (fun c => ?_)
      · have h := h.1 (cmp_eq.1.mp c)
        refine PC.pr (k := 1) (pc' := 51) (lv' := [(0, .ref a0), (1, .int x1), (2, .int x2), (3, .int x3)]) (st' := [.int 1]) rfl ?_
        refine PC.pr (k := 1) (pc' := 55) (lv' := [(0, .ref a0), (1, .int x1), (2, .int x2), (3, .int x3)]) (st' := [.int 1]) rfl ?_
        exact PC.retI rfl h
      · have h := h.2 (cmp_eq.2.mp c)
        refine PC.pr (k := 1) (pc' := 37) (lv' := [(0, .ref a0), (1, .int x1), (2, .int x2), (3, .int x3)]) (st' := [.ref a0]) rfl ?_
        refine PC.pr (k := 1) (pc' := 38) (lv' := [(0, .ref a0), (1, .int x1), (2, .int x2), (3, .int x3)]) (st' := [.ref a0, .ref a0]) rfl ?_
        refine PC.gI (ci := 9) (j := 15) rfl rfl (by decide) ?_
        refine PC.pr (k := 1) (pc' := 42) (lv' := [(0, .ref a0), (1, .int x1), (2, .int x2), (3, .int x3)]) (st' := [.int 5, .int (κ1 a0 15), .ref a0]) rfl ?_
        refine PC.pr (k := 1) (pc' := 43) (lv' := [(0, .ref a0), (1, .int x1), (2, .int x2), (3, .int x3)]) (st' := [.int ((κ1 a0 15) + 5), .ref a0]) rfl ?_
        refine (PC.callI (j := 152) (args := [.ref a0, .int ((κ1 a0 15) + 5)]) (rest := []) (M := cM152) (ty := .int) rfl rfl rfl rfl rfl rfl (by decide) rfl rfl (by decide) ?_).weak
        refine PC.imp h (fun v2 κ2 h r2 hv => ?_)
        have h := h r2 hv
        refine PC.pr (k := 1) (pc' := 47) (lv' := [(0, .ref a0), (1, .int x1), (2, .int x2), (3, .int x3)]) (st' := [.int x3, .int r2]) rfl ?_
        refine PC.if2 (t := 54) rfl rfl (fun c => ?_) (fun c => ?_)
        · have h := h.1 (cmp_ne.1.mp c)
          refine PC.pr (k := 1) (pc' := 55) (lv' := [(0, .ref a0), (1, .int x1), (2, .int x2), (3, .int x3)]) (st' := [.int 0]) rfl ?_
          exact PC.retI rfl h
        · have h := h.2 (cmp_ne.2.mp c)
          refine PC.pr (k := 1) (pc' := 51) (lv' := [(0, .ref a0), (1, .int x1), (2, .int x2), (3, .int x3)]) (st' := [.int 1]) rfl ?_
          refine PC.pr (k := 1) (pc' := 55) (lv' := [(0, .ref a0), (1, .int x1), (2, .int x2), (3, .int x3)]) (st' := [.int 1]) rfl ?_
          exact PC.retI rfl h
    · have h := h.2 (cmp_eq.2.mp c)
      refine PC.pr (k := 1) (pc' := 19) (lv' := [(0, .ref a0), (1, .int x1), (2, .int x2), (3, .int x3)]) (st' := [.ref a0]) rfl ?_
      refine PC.pr (k := 1) (pc' := 20) (lv' := [(0, .ref a0), (1, .int x1), (2, .int x2), (3, .int x3)]) (st' := [.ref a0, .ref a0]) rfl ?_
      refine PC.gI (ci := 9) (j := 15) rfl rfl (by decide) ?_
      refine PC.pr (k := 1) (pc' := 24) (lv' := [(0, .ref a0), (1, .int x1), (2, .int x2), (3, .int x3)]) (st' := [.int 4, .int (κ1 a0 15), .ref a0]) rfl ?_
      refine PC.pr (k := 1) (pc' := 25) (lv' := [(0, .ref a0), (1, .int x1), (2, .int x2), (3, .int x3)]) (st' := [.int ((κ1 a0 15) + 4), .ref a0]) rfl ?_
      refine (PC.callI (j := 152) (args := [.ref a0, .int ((κ1 a0 15) + 4)]) (rest := []) (M := cM152) (ty := .int) rfl rfl rfl rfl rfl rfl (by decide) rfl rfl (by decide) ?_).weak
      refine PC.imp h (fun v3 κ3 h r3 hv => ?_)
      have h := h r3 hv
      refine PC.pr (k := 1) (pc' := 29) (lv' := [(0, .ref a0), (1, .int x1), (2, .int x2), (3, .int x3)]) (st' := [.int x2, .int r3]) rfl ?_
      refine PC.if2 (t := 54) rfl rfl (fun c => ?_) (fun c => ?_)
      · have h := h.1 (cmp_ne.1.mp c)
        refine PC.pr (k := 1) (pc' := 55) (lv' := [(0, .ref a0), (1, .int x1), (2, .int x2), (3, .int x3)]) (st' := [.int 0]) rfl ?_
        exact PC.retI rfl h
      · have h := h.2 (cmp_ne.2.mp c)
        refine PC.pr (k := 1) (pc' := 33) (lv' := [(0, .ref a0), (1, .int x1), (2, .int x2), (3, .int x3)]) (st' := [.int x3]) rfl ?_
        refine PC.if1 (t := 50) rfl rfl (fun c => ?_) (fun c => ?_)
        · have h := h.1 (cmp_eq.1.mp c)
          refine PC.pr (k := 1) (pc' := 51) (lv' := [(0, .ref a0), (1, .int x1), (2, .int x2), (3, .int x3)]) (st' := [.int 1]) rfl ?_
          refine PC.pr (k := 1) (pc' := 55) (lv' := [(0, .ref a0), (1, .int x1), (2, .int x2), (3, .int x3)]) (st' := [.int 1]) rfl ?_
          exact PC.retI rfl h
        · have h := h.2 (cmp_eq.2.mp c)
          refine PC.pr (k := 1) (pc' := 37) (lv' := [(0, .ref a0), (1, .int x1), (2, .int x2), (3, .int x3)]) (st' := [.ref a0]) rfl ?_
          refine PC.pr (k := 1) (pc' := 38) (lv' := [(0, .ref a0), (1, .int x1), (2, .int x2), (3, .int x3)]) (st' := [.ref a0, .ref a0]) rfl ?_
          refine PC.gI (ci := 9) (j := 15) rfl rfl (by decide) ?_
          refine PC.pr (k := 1) (pc' := 42) (lv' := [(0, .ref a0), (1, .int x1), (2, .int x2), (3, .int x3)]) (st' := [.int 5, .int (κ3 a0 15), .ref a0]) rfl ?_
          refine PC.pr (k := 1) (pc' := 43) (lv' := [(0, .ref a0), (1, .int x1), (2, .int x2), (3, .int x3)]) (st' := [.int ((κ3 a0 15) + 5), .ref a0]) rfl ?_
          refine (PC.callI (j := 152) (args := [.ref a0, .int ((κ3 a0 15) + 5)]) (rest := []) (M := cM152) (ty := .int) rfl rfl rfl rfl rfl rfl (by decide) rfl rfl (by decide) ?_).weak
          refine PC.imp h (fun v4 κ4 h r4 hv => ?_)
          have h := h r4 hv
          refine PC.pr (k := 1) (pc' := 47) (lv' := [(0, .ref a0), (1, .int x1), (2, .int x2), (3, .int x3)]) (st' := [.int x3, .int r4]) rfl ?_
          refine PC.if2 (t := 54) rfl rfl (fun c => ?_) (fun c => ?_)
          · have h := h.1 (cmp_ne.1.mp c)
            refine PC.pr (k := 1) (pc' := 55) (lv' := [(0, .ref a0), (1, .int x1), (2, .int x2), (3, .int x3)]) (st' := [.int 0]) rfl ?_
            exact PC.retI rfl h
          · have h := h.2 (cmp_ne.2.mp c)
            refine PC.pr (k := 1) (pc' := 51) (lv' := [(0, .ref a0), (1, .int x1), (2, .int x2), (3, .int x3)]) (st' := [.int 1]) rfl ?_
            refine PC.pr (k := 1) (pc' := 55) (lv' := [(0, .ref a0), (1, .int x1), (2, .int x2), (3, .int x3)]) (st' := [.int 1]) rfl ?_
            exact PC.retI rfl h
end
