/-! WHAT RUNS ASK (written by a program) -/
/-- DoorPaints$Tape.advance()V -/
theorem t_19_0 {xl : List Int32} {n : Nat} {ι : IS} {Q : Option Value → IS → Prop} {a0 : Nat} (h : ((¬ (ι a0 4) < (ι a0 1) → PC xl n 19 38 [(0, .ref a0)] [] ι Q) ∧ ((ι a0 4) < (ι a0 1) → (0 ≤ (ι a0 4).toInt → (ι a0 4).toInt < ln (rf a0 0) → ((¬ (ι (rf a0 0) (ι a0 4).toNatClampNeg) = 32 → PC xl n 19 38 [(0, .ref a0)] [] ι Q) ∧ ((ι (rf a0 0) (ι a0 4).toNatClampNeg) = 32 → PC xl n 19 0 [(0, .ref a0)] [] (up ι a0 4 ((ι a0 4) + 1)) Q)))))) : PC xl (n + 1) 19 0 [(0, .ref a0)] [] ι Q := by
  refine PC.pr1 (k := 0) (pc' := 1) (lv' := [(0, .ref a0)]) (st' := [.ref a0]) rfl ?_
  refine PC.gI (ci := 6) (j := 4) rfl rfl (by decide) ?_
  refine PC.pr (k := 1) (pc' := 5) (lv' := [(0, .ref a0)]) (st' := [.ref a0, .int (ι a0 4)]) rfl ?_
  refine PC.gI (ci := 6) (j := 1) rfl rfl (by decide) ?_
  refine PC.if2 (t := 38) rfl rfl (fun c => ?_) (fun c => ?_)
  · have h := h.1 (cmp_ge.1.mp c)
    exact h
  · have h := h.2 (cmp_ge.2.mp c)
    refine PC.pr (k := 1) (pc' := 12) (lv' := [(0, .ref a0)]) (st' := [.ref a0]) rfl ?_
    refine PC.gR (ci := 6) (j := 0) rfl rfl (by decide) ?_
    refine PC.pr (k := 1) (pc' := 16) (lv' := [(0, .ref a0)]) (st' := [.ref a0, .ref (rf a0 0)]) rfl ?_
    refine PC.gI (ci := 6) (j := 4) rfl rfl (by decide) ?_
    refine PC.rd rfl (rf_lt _ _) (fun c1 c2 => ?_)
    have h := h c1 c2
    refine PC.pr (k := 1) (pc' := 22) (lv' := [(0, .ref a0)]) (st' := [.int 32, .int (ι (rf a0 0) (ι a0 4).toNatClampNeg)]) rfl ?_
    refine PC.if2 (t := 38) rfl rfl (fun c => ?_) (fun c => ?_)
    · have h := h.1 (cmp_ne.1.mp c)
      exact h
    · have h := h.2 (cmp_ne.2.mp c)
      refine PC.pr (k := 1) (pc' := 26) (lv' := [(0, .ref a0)]) (st' := [.ref a0]) rfl ?_
      refine PC.pr (k := 1) (pc' := 27) (lv' := [(0, .ref a0)]) (st' := [.ref a0, .ref a0]) rfl ?_
      refine PC.gI (ci := 6) (j := 4) rfl rfl (by decide) ?_
      refine PC.pr (k := 1) (pc' := 31) (lv' := [(0, .ref a0)]) (st' := [.int 1, .int (ι a0 4), .ref a0]) rfl ?_
      refine PC.pr (k := 1) (pc' := 32) (lv' := [(0, .ref a0)]) (st' := [.int ((ι a0 4) + 1), .ref a0]) rfl ?_
      refine PC.pI (ci := 6) (j := 4) rfl rfl ?_
      refine PC.pr (k := 1) (pc' := 0) (lv' := [(0, .ref a0)]) (st' := []) rfl ?_
      exact h
theorem t_19_38 {xl : List Int32} {n : Nat} {ι : IS} {Q : Option Value → IS → Prop} {a0 : Nat} (h : ((((up ι a0 3 (ι a0 4)) a0 4) < ((up ι a0 3 (ι a0 4)) a0 1) → PC xl n 20 0 [(0, .ref a0), (1, .int 97), (2, .int 122)] [] (up ι a0 3 (ι a0 4)) (fun v1 κ1 => ∀ r1, v1 = some (.int r1) → ((r1 = 0 → PC xl n 20 0 [(0, .ref a0), (1, .int 48), (2, .int 57)] [] κ1 (fun v2 κ2 => ∀ r2, v2 = some (.int r2) → ((r2 = 0 → (0 ≤ (κ2 a0 4).toInt → (κ2 a0 4).toInt < ln (rf a0 0) → ((¬ (κ2 (rf a0 0) (κ2 a0 4).toNatClampNeg) = 59 → Q none (up (up κ2 a0 2 4) a0 4 (((up κ2 a0 2 4) a0 4) + 1))) ∧ ((κ2 (rf a0 0) (κ2 a0 4).toNatClampNeg) = 59 → Q none (up (up κ2 a0 2 3) a0 4 (((up κ2 a0 2 3) a0 4) + 1)))))) ∧ (¬ r2 = 0 → PC xl n 21 0 [(0, .ref a0)] [] κ2 (fun _ κ3 => Q none κ3))))) ∧ (¬ r1 = 0 → Q none (up κ1 a0 2 1))))) ∧ (¬ ((up ι a0 3 (ι a0 4)) a0 4) < ((up ι a0 3 (ι a0 4)) a0 1) → Q none (up (up ι a0 3 (ι a0 4)) a0 2 0)))) : PC xl (n + 1) 19 38 [(0, .ref a0)] [] ι Q := by
  refine PC.pr1 (k := 0) (pc' := 39) (lv' := [(0, .ref a0)]) (st' := [.ref a0]) rfl ?_
  refine PC.pr (k := 1) (pc' := 40) (lv' := [(0, .ref a0)]) (st' := [.ref a0, .ref a0]) rfl ?_
  refine PC.gI (ci := 6) (j := 4) rfl rfl (by decide) ?_
  refine PC.pI (ci := 6) (j := 3) rfl rfl ?_
  refine PC.pr (k := 1) (pc' := 47) (lv' := [(0, .ref a0)]) (st' := [.ref a0]) rfl ?_
  refine PC.gI (ci := 6) (j := 4) rfl rfl (by decide) ?_
  refine PC.pr (k := 1) (pc' := 51) (lv' := [(0, .ref a0)]) (st' := [.ref a0, .int ((up ι a0 3 (ι a0 4)) a0 4)]) rfl ?_
  refine PC.gI (ci := 6) (j := 1) rfl rfl (by decide) ?_
  refine PC.if2 (t := 65) rfl rfl (fun c => ?_) (fun c => ?_)
  · have h := h.1 (cmp_lt.1.mp c)
    refine PC.pr (k := 1) (pc' := 66) (lv' := [(0, .ref a0)]) (st' := [.ref a0]) rfl ?_
    refine PC.pr (k := 1) (pc' := 68) (lv' := [(0, .ref a0)]) (st' := [.int 97, .ref a0]) rfl ?_
    refine PC.pr (k := 1) (pc' := 70) (lv' := [(0, .ref a0)]) (st' := [.int 122, .int 97, .ref a0]) rfl ?_
    refine (PC.callI (j := 20) (args := [.ref a0, .int 97, .int 122]) (rest := []) (M := cM20) (ty := .boolean) rfl rfl rfl rfl rfl rfl (by decide) rfl rfl (by decide) ?_).weak
    refine PC.imp h (fun v1 κ1 h r1 hv => ?_)
    have h := h r1 hv
    refine PC.if1 (t := 84) rfl rfl (fun c => ?_) (fun c => ?_)
    · have h := h.1 (cmp_eq.1.mp c)
      refine PC.pr (k := 1) (pc' := 85) (lv' := [(0, .ref a0)]) (st' := [.ref a0]) rfl ?_
      refine PC.pr (k := 1) (pc' := 87) (lv' := [(0, .ref a0)]) (st' := [.int 48, .ref a0]) rfl ?_
      refine PC.pr (k := 1) (pc' := 89) (lv' := [(0, .ref a0)]) (st' := [.int 57, .int 48, .ref a0]) rfl ?_
      refine (PC.callI (j := 20) (args := [.ref a0, .int 48, .int 57]) (rest := []) (M := cM20) (ty := .boolean) rfl rfl rfl rfl rfl rfl (by decide) rfl rfl (by decide) ?_).weak
      refine PC.imp h (fun v2 κ2 h r2 hv => ?_)
      have h := h r2 hv
      refine PC.if1 (t := 102) rfl rfl (fun c => ?_) (fun c => ?_)
      · have h := h.1 (cmp_eq.1.mp c)
        refine PC.pr (k := 1) (pc' := 103) (lv' := [(0, .ref a0)]) (st' := [.ref a0]) rfl ?_
        refine PC.pr (k := 1) (pc' := 104) (lv' := [(0, .ref a0)]) (st' := [.ref a0, .ref a0]) rfl ?_
        refine PC.gR (ci := 6) (j := 0) rfl rfl (by decide) ?_
        refine PC.pr (k := 1) (pc' := 108) (lv' := [(0, .ref a0)]) (st' := [.ref a0, .ref (rf a0 0), .ref a0]) rfl ?_
        refine PC.gI (ci := 6) (j := 4) rfl rfl (by decide) ?_
        refine PC.rd rfl (rf_lt _ _) (fun c1 c2 => ?_)
        have h := h c1 c2
        refine PC.pr (k := 1) (pc' := 114) (lv' := [(0, .ref a0)]) (st' := [.int 59, .int (κ2 (rf a0 0) (κ2 a0 4).toNatClampNeg), .ref a0]) rfl ?_
        refine PC.if2 (t := 121) rfl rfl (fun c => ?_) (fun c => ?_)
        · have h := h.1 (cmp_ne.1.mp c)
          refine PC.pr (k := 1) (pc' := 122) (lv' := [(0, .ref a0)]) (st' := [.int 4, .ref a0]) rfl ?_
          refine PC.pI (ci := 6) (j := 2) rfl rfl ?_
          refine PC.pr (k := 1) (pc' := 126) (lv' := [(0, .ref a0)]) (st' := [.ref a0]) rfl ?_
          refine PC.pr (k := 1) (pc' := 127) (lv' := [(0, .ref a0)]) (st' := [.ref a0, .ref a0]) rfl ?_
          refine PC.gI (ci := 6) (j := 4) rfl rfl (by decide) ?_
          refine PC.pr (k := 1) (pc' := 131) (lv' := [(0, .ref a0)]) (st' := [.int 1, .int ((up κ2 a0 2 4) a0 4), .ref a0]) rfl ?_
          refine PC.pr (k := 1) (pc' := 132) (lv' := [(0, .ref a0)]) (st' := [.int (((up κ2 a0 2 4) a0 4) + 1), .ref a0]) rfl ?_
          refine PC.pI (ci := 6) (j := 4) rfl rfl ?_
          exact PC.retV rfl h
        · have h := h.2 (cmp_ne.2.mp c)
          refine PC.pr (k := 1) (pc' := 118) (lv' := [(0, .ref a0)]) (st' := [.int 3, .ref a0]) rfl ?_
          refine PC.pr (k := 1) (pc' := 122) (lv' := [(0, .ref a0)]) (st' := [.int 3, .ref a0]) rfl ?_
          refine PC.pI (ci := 6) (j := 2) rfl rfl ?_
          refine PC.pr (k := 1) (pc' := 126) (lv' := [(0, .ref a0)]) (st' := [.ref a0]) rfl ?_
          refine PC.pr (k := 1) (pc' := 127) (lv' := [(0, .ref a0)]) (st' := [.ref a0, .ref a0]) rfl ?_
          refine PC.gI (ci := 6) (j := 4) rfl rfl (by decide) ?_
          refine PC.pr (k := 1) (pc' := 131) (lv' := [(0, .ref a0)]) (st' := [.int 1, .int ((up κ2 a0 2 3) a0 4), .ref a0]) rfl ?_
          refine PC.pr (k := 1) (pc' := 132) (lv' := [(0, .ref a0)]) (st' := [.int (((up κ2 a0 2 3) a0 4) + 1), .ref a0]) rfl ?_
          refine PC.pI (ci := 6) (j := 4) rfl rfl ?_
          exact PC.retV rfl h
      · have h := h.2 (cmp_eq.2.mp c)
        refine PC.pr (k := 1) (pc' := 96) (lv' := [(0, .ref a0)]) (st' := [.ref a0]) rfl ?_
        refine (PC.callV (j := 21) (args := [.ref a0]) (rest := []) (M := cM21) rfl rfl rfl rfl rfl rfl (by decide) rfl rfl ?_).weak
        refine PC.imp h (fun _ κ3 h => ?_)
        refine PC.pr (k := 1) (pc' := 135) (lv' := [(0, .ref a0)]) (st' := []) rfl ?_
        exact PC.retV rfl h
    · have h := h.2 (cmp_eq.2.mp c)
      refine PC.pr (k := 1) (pc' := 77) (lv' := [(0, .ref a0)]) (st' := [.ref a0]) rfl ?_
      refine PC.pr (k := 1) (pc' := 78) (lv' := [(0, .ref a0)]) (st' := [.int 1, .ref a0]) rfl ?_
      refine PC.pI (ci := 6) (j := 2) rfl rfl ?_
      refine PC.pr (k := 1) (pc' := 135) (lv' := [(0, .ref a0)]) (st' := []) rfl ?_
      exact PC.retV rfl h
  · have h := h.2 (cmp_lt.2.mp c)
    refine PC.pr (k := 1) (pc' := 58) (lv' := [(0, .ref a0)]) (st' := [.ref a0]) rfl ?_
    refine PC.pr (k := 1) (pc' := 59) (lv' := [(0, .ref a0)]) (st' := [.int 0, .ref a0]) rfl ?_
    refine PC.pI (ci := 6) (j := 2) rfl rfl ?_
    refine PC.pr (k := 1) (pc' := 135) (lv' := [(0, .ref a0)]) (st' := []) rfl ?_
    exact PC.retV rfl h

/-- DoorPaints$Tape.skip(II)Z -/
theorem t_20_0 {xl : List Int32} {n : Nat} {ι : IS} {Q : Option Value → IS → Prop} {a0 : Nat} {x1 : Int32} {x2 : Int32} (h : ((¬ (ι a0 4) < (ι a0 1) → ((¬ (ι a0 3) < (ι a0 4) → Q (some (.int 0)) ι) ∧ ((ι a0 3) < (ι a0 4) → Q (some (.int 1)) ι))) ∧ ((ι a0 4) < (ι a0 1) → (0 ≤ (ι a0 4).toInt → (ι a0 4).toInt < ln (rf a0 0) → (((ι (rf a0 0) (ι a0 4).toNatClampNeg) < x1 → ((¬ (ι a0 3) < (ι a0 4) → Q (some (.int 0)) ι) ∧ ((ι a0 3) < (ι a0 4) → Q (some (.int 1)) ι))) ∧ (¬ (ι (rf a0 0) (ι a0 4).toNatClampNeg) < x1 → (0 ≤ (ι a0 4).toInt → (ι a0 4).toInt < ln (rf a0 0) → ((x2 < (ι (rf a0 0) (ι a0 4).toNatClampNeg) → ((¬ (ι a0 3) < (ι a0 4) → Q (some (.int 0)) ι) ∧ ((ι a0 3) < (ι a0 4) → Q (some (.int 1)) ι))) ∧ (¬ x2 < (ι (rf a0 0) (ι a0 4).toNatClampNeg) → PC xl n 20 0 [(0, .ref a0), (1, .int x1), (2, .int x2)] [] (up ι a0 4 ((ι a0 4) + 1)) Q))))))))) : PC xl (n + 1) 20 0 [(0, .ref a0), (1, .int x1), (2, .int x2)] [] ι Q := by
  refine PC.pr1 (k := 0) (pc' := 1) (lv' := [(0, .ref a0), (1, .int x1), (2, .int x2)]) (st' := [.ref a0]) rfl ?_
  refine PC.gI (ci := 6) (j := 4) rfl rfl (by decide) ?_
  refine PC.pr (k := 1) (pc' := 5) (lv' := [(0, .ref a0), (1, .int x1), (2, .int x2)]) (st' := [.ref a0, .int (ι a0 4)]) rfl ?_
  refine PC.gI (ci := 6) (j := 1) rfl rfl (by decide) ?_
  refine PC.if2 (t := 50) rfl rfl (fun c => ?_) (fun c => ?_)
  · have h := h.1 (cmp_ge.1.mp c)
    refine PC.pr (k := 1) (pc' := 51) (lv' := [(0, .ref a0), (1, .int x1), (2, .int x2)]) (st' := [.ref a0]) rfl ?_
    refine PC.gI (ci := 6) (j := 4) rfl rfl (by decide) ?_
    refine PC.pr (k := 1) (pc' := 55) (lv' := [(0, .ref a0), (1, .int x1), (2, .int x2)]) (st' := [.ref a0, .int (ι a0 4)]) rfl ?_
    refine PC.gI (ci := 6) (j := 3) rfl rfl (by decide) ?_
    refine PC.if2 (t := 65) rfl rfl (fun c => ?_) (fun c => ?_)
    · have h := h.1 (cmp_le.1.mp c)
      refine PC.pr (k := 1) (pc' := 66) (lv' := [(0, .ref a0), (1, .int x1), (2, .int x2)]) (st' := [.int 0]) rfl ?_
      exact PC.retI rfl h
    · have h := h.2 (cmp_le.2.mp c)
      refine PC.pr (k := 1) (pc' := 62) (lv' := [(0, .ref a0), (1, .int x1), (2, .int x2)]) (st' := [.int 1]) rfl ?_
      refine PC.pr (k := 1) (pc' := 66) (lv' := [(0, .ref a0), (1, .int x1), (2, .int x2)]) (st' := [.int 1]) rfl ?_
      exact PC.retI rfl h
  · have h := h.2 (cmp_ge.2.mp c)
    refine PC.pr (k := 1) (pc' := 12) (lv' := [(0, .ref a0), (1, .int x1), (2, .int x2)]) (st' := [.ref a0]) rfl ?_
    refine PC.gR (ci := 6) (j := 0) rfl rfl (by decide) ?_
    refine PC.pr (k := 1) (pc' := 16) (lv' := [(0, .ref a0), (1, .int x1), (2, .int x2)]) (st' := [.ref a0, .ref (rf a0 0)]) rfl ?_
    refine PC.gI (ci := 6) (j := 4) rfl rfl (by decide) ?_
    refine PC.rd rfl (rf_lt _ _) (fun c1 c2 => ?_)
    have h := h c1 c2
    refine PC.pr (k := 1) (pc' := 21) (lv' := [(0, .ref a0), (1, .int x1), (2, .int x2)]) (st' := [.int x1, .int (ι (rf a0 0) (ι a0 4).toNatClampNeg)]) rfl ?_
    refine PC.if2 (t := 50) rfl rfl (fun c => ?_) (fun c => ?_)
    · have h := h.1 (cmp_lt.1.mp c)
      refine PC.pr (k := 1) (pc' := 51) (lv' := [(0, .ref a0), (1, .int x1), (2, .int x2)]) (st' := [.ref a0]) rfl ?_
      refine PC.gI (ci := 6) (j := 4) rfl rfl (by decide) ?_
      refine PC.pr (k := 1) (pc' := 55) (lv' := [(0, .ref a0), (1, .int x1), (2, .int x2)]) (st' := [.ref a0, .int (ι a0 4)]) rfl ?_
      refine PC.gI (ci := 6) (j := 3) rfl rfl (by decide) ?_
      refine PC.if2 (t := 65) rfl rfl (fun c => ?_) (fun c => ?_)
      · have h := h.1 (cmp_le.1.mp c)
        refine PC.pr (k := 1) (pc' := 66) (lv' := [(0, .ref a0), (1, .int x1), (2, .int x2)]) (st' := [.int 0]) rfl ?_
        exact PC.retI rfl h
      · have h := h.2 (cmp_le.2.mp c)
        refine PC.pr (k := 1) (pc' := 62) (lv' := [(0, .ref a0), (1, .int x1), (2, .int x2)]) (st' := [.int 1]) rfl ?_
        refine PC.pr (k := 1) (pc' := 66) (lv' := [(0, .ref a0), (1, .int x1), (2, .int x2)]) (st' := [.int 1]) rfl ?_
        exact PC.retI rfl h
    · have h := h.2 (cmp_lt.2.mp c)
      refine PC.pr (k := 1) (pc' := 25) (lv' := [(0, .ref a0), (1, .int x1), (2, .int x2)]) (st' := [.ref a0]) rfl ?_
      refine PC.gR (ci := 6) (j := 0) rfl rfl (by decide) ?_
      refine PC.pr (k := 1) (pc' := 29) (lv' := [(0, .ref a0), (1, .int x1), (2, .int x2)]) (st' := [.ref a0, .ref (rf a0 0)]) rfl ?_
      refine PC.gI (ci := 6) (j := 4) rfl rfl (by decide) ?_
      refine PC.rd rfl (rf_lt _ _) (fun c1 c2 => ?_)
      have h := h c1 c2
      refine PC.pr (k := 1) (pc' := 34) (lv' := [(0, .ref a0), (1, .int x1), (2, .int x2)]) (st' := [.int x2, .int (ι (rf a0 0) (ι a0 4).toNatClampNeg)]) rfl ?_
      refine PC.if2 (t := 50) rfl rfl (fun c => ?_) (fun c => ?_)
      · have h := h.1 (cmp_gt.1.mp c)
        refine PC.pr (k := 1) (pc' := 51) (lv' := [(0, .ref a0), (1, .int x1), (2, .int x2)]) (st' := [.ref a0]) rfl ?_
        refine PC.gI (ci := 6) (j := 4) rfl rfl (by decide) ?_
        refine PC.pr (k := 1) (pc' := 55) (lv' := [(0, .ref a0), (1, .int x1), (2, .int x2)]) (st' := [.ref a0, .int (ι a0 4)]) rfl ?_
        refine PC.gI (ci := 6) (j := 3) rfl rfl (by decide) ?_
        refine PC.if2 (t := 65) rfl rfl (fun c => ?_) (fun c => ?_)
        · have h := h.1 (cmp_le.1.mp c)
          refine PC.pr (k := 1) (pc' := 66) (lv' := [(0, .ref a0), (1, .int x1), (2, .int x2)]) (st' := [.int 0]) rfl ?_
          exact PC.retI rfl h
        · have h := h.2 (cmp_le.2.mp c)
          refine PC.pr (k := 1) (pc' := 62) (lv' := [(0, .ref a0), (1, .int x1), (2, .int x2)]) (st' := [.int 1]) rfl ?_
          refine PC.pr (k := 1) (pc' := 66) (lv' := [(0, .ref a0), (1, .int x1), (2, .int x2)]) (st' := [.int 1]) rfl ?_
          exact PC.retI rfl h
      · have h := h.2 (cmp_gt.2.mp c)
        refine PC.pr (k := 1) (pc' := 38) (lv' := [(0, .ref a0), (1, .int x1), (2, .int x2)]) (st' := [.ref a0]) rfl ?_
        refine PC.pr (k := 1) (pc' := 39) (lv' := [(0, .ref a0), (1, .int x1), (2, .int x2)]) (st' := [.ref a0, .ref a0]) rfl ?_
        refine PC.gI (ci := 6) (j := 4) rfl rfl (by decide) ?_
        refine PC.pr (k := 1) (pc' := 43) (lv' := [(0, .ref a0), (1, .int x1), (2, .int x2)]) (st' := [.int 1, .int (ι a0 4), .ref a0]) rfl ?_
        refine PC.pr (k := 1) (pc' := 44) (lv' := [(0, .ref a0), (1, .int x1), (2, .int x2)]) (st' := [.int ((ι a0 4) + 1), .ref a0]) rfl ?_
        refine PC.pI (ci := 6) (j := 4) rfl rfl ?_
        refine PC.pr (k := 1) (pc' := 0) (lv' := [(0, .ref a0), (1, .int x1), (2, .int x2)]) (st' := []) rfl ?_
        exact h

/-- DoorPaints$Tape.takeNumber()V -/
theorem t_21_0 {xl : List Int32} {n : Nat} {ι : IS} {Q : Option Value → IS → Prop} {a0 : Nat} (h : ((¬ 2 < ((ι a0 4) - (ι a0 3)) → PC xl n 21 32 [(0, .ref a0), (1, .int ((up (up ι a0 2 2) a0 5 0) a0 3))] [] (up (up ι a0 2 2) a0 5 0) Q) ∧ (2 < ((ι a0 4) - (ι a0 3)) → PC xl n 21 32 [(0, .ref a0), (1, .int ((up (up ι a0 2 4) a0 5 0) a0 3))] [] (up (up ι a0 2 4) a0 5 0) Q))) : PC xl (n + 1) 21 0 [(0, .ref a0)] [] ι Q := by
  refine PC.pr1 (k := 0) (pc' := 1) (lv' := [(0, .ref a0)]) (st' := [.ref a0]) rfl ?_
  refine PC.pr (k := 1) (pc' := 2) (lv' := [(0, .ref a0)]) (st' := [.ref a0, .ref a0]) rfl ?_
  refine PC.gI (ci := 6) (j := 4) rfl rfl (by decide) ?_
  refine PC.pr (k := 1) (pc' := 6) (lv' := [(0, .ref a0)]) (st' := [.ref a0, .int (ι a0 4), .ref a0]) rfl ?_
  refine PC.gI (ci := 6) (j := 3) rfl rfl (by decide) ?_
  refine PC.pr (k := 1) (pc' := 10) (lv' := [(0, .ref a0)]) (st' := [.int ((ι a0 4) - (ι a0 3)), .ref a0]) rfl ?_
  refine PC.pr (k := 1) (pc' := 11) (lv' := [(0, .ref a0)]) (st' := [.int 2, .int ((ι a0 4) - (ι a0 3)), .ref a0]) rfl ?_
  refine PC.if2 (t := 18) rfl rfl (fun c => ?_) (fun c => ?_)
  · have h := h.1 (cmp_le.1.mp c)
    refine PC.pr (k := 1) (pc' := 19) (lv' := [(0, .ref a0)]) (st' := [.int 2, .ref a0]) rfl ?_
    refine PC.pI (ci := 6) (j := 2) rfl rfl ?_
    refine PC.pr (k := 1) (pc' := 23) (lv' := [(0, .ref a0)]) (st' := [.ref a0]) rfl ?_
    refine PC.pr (k := 1) (pc' := 24) (lv' := [(0, .ref a0)]) (st' := [.int 0, .ref a0]) rfl ?_
    refine PC.pI (ci := 6) (j := 5) rfl rfl ?_
    refine PC.pr (k := 1) (pc' := 28) (lv' := [(0, .ref a0)]) (st' := [.ref a0]) rfl ?_
    refine PC.gI (ci := 6) (j := 3) rfl rfl (by decide) ?_
    refine PC.pr (k := 1) (pc' := 32) (lv' := [(1, .int ((up (up ι a0 2 2) a0 5 0) a0 3)), (0, .ref a0)]) (st' := []) rfl ?_
    exact PC.lv (lvE.cons rfl (lvE.cons rfl (lvE.nil))) h
  · have h := h.2 (cmp_le.2.mp c)
    refine PC.pr (k := 1) (pc' := 15) (lv' := [(0, .ref a0)]) (st' := [.int 4, .ref a0]) rfl ?_
    refine PC.pr (k := 1) (pc' := 19) (lv' := [(0, .ref a0)]) (st' := [.int 4, .ref a0]) rfl ?_
    refine PC.pI (ci := 6) (j := 2) rfl rfl ?_
    refine PC.pr (k := 1) (pc' := 23) (lv' := [(0, .ref a0)]) (st' := [.ref a0]) rfl ?_
    refine PC.pr (k := 1) (pc' := 24) (lv' := [(0, .ref a0)]) (st' := [.int 0, .ref a0]) rfl ?_
    refine PC.pI (ci := 6) (j := 5) rfl rfl ?_
    refine PC.pr (k := 1) (pc' := 28) (lv' := [(0, .ref a0)]) (st' := [.ref a0]) rfl ?_
    refine PC.gI (ci := 6) (j := 3) rfl rfl (by decide) ?_
    refine PC.pr (k := 1) (pc' := 32) (lv' := [(1, .int ((up (up ι a0 2 4) a0 5 0) a0 3)), (0, .ref a0)]) (st' := []) rfl ?_
    exact PC.lv (lvE.cons rfl (lvE.cons rfl (lvE.nil))) h
theorem t_21_32 {xl : List Int32} {n : Nat} {ι : IS} {Q : Option Value → IS → Prop} {a0 : Nat} {x1 : Int32} (h : ((¬ x1 < (ι a0 4) → Q none ι) ∧ (x1 < (ι a0 4) → ((¬ (ι a0 2) = 2 → Q none ι) ∧ ((ι a0 2) = 2 → (0 ≤ x1.toInt → x1.toInt < ln (rf a0 0) → PC xl n 21 32 [(0, .ref a0), (1, .int (x1 + 1))] [] (up ι a0 5 ((((ι a0 5) * 10) + (ι (rf a0 0) x1.toNatClampNeg)) - 48)) Q)))))) : PC xl (n + 1) 21 32 [(0, .ref a0), (1, .int x1)] [] ι Q := by
  refine PC.pr1 (k := 0) (pc' := 33) (lv' := [(0, .ref a0), (1, .int x1)]) (st' := [.int x1]) rfl ?_
  refine PC.pr (k := 1) (pc' := 34) (lv' := [(0, .ref a0), (1, .int x1)]) (st' := [.ref a0, .int x1]) rfl ?_
  refine PC.gI (ci := 6) (j := 4) rfl rfl (by decide) ?_
  refine PC.if2 (t := 75) rfl rfl (fun c => ?_) (fun c => ?_)
  · have h := h.1 (cmp_ge.1.mp c)
    exact PC.retV rfl h
  · have h := h.2 (cmp_ge.2.mp c)
    refine PC.pr (k := 1) (pc' := 41) (lv' := [(0, .ref a0), (1, .int x1)]) (st' := [.ref a0]) rfl ?_
    refine PC.gI (ci := 6) (j := 2) rfl rfl (by decide) ?_
    refine PC.pr (k := 1) (pc' := 45) (lv' := [(0, .ref a0), (1, .int x1)]) (st' := [.int 2, .int (ι a0 2)]) rfl ?_
    refine PC.if2 (t := 75) rfl rfl (fun c => ?_) (fun c => ?_)
    · have h := h.1 (cmp_ne.1.mp c)
      exact PC.retV rfl h
    · have h := h.2 (cmp_ne.2.mp c)
      refine PC.pr (k := 1) (pc' := 49) (lv' := [(0, .ref a0), (1, .int x1)]) (st' := [.ref a0]) rfl ?_
      refine PC.pr (k := 1) (pc' := 50) (lv' := [(0, .ref a0), (1, .int x1)]) (st' := [.ref a0, .ref a0]) rfl ?_
      refine PC.gI (ci := 6) (j := 5) rfl rfl (by decide) ?_
      refine PC.pr (k := 1) (pc' := 55) (lv' := [(0, .ref a0), (1, .int x1)]) (st' := [.int 10, .int (ι a0 5), .ref a0]) rfl ?_
      refine PC.pr (k := 1) (pc' := 56) (lv' := [(0, .ref a0), (1, .int x1)]) (st' := [.int ((ι a0 5) * 10), .ref a0]) rfl ?_
      refine PC.pr (k := 1) (pc' := 57) (lv' := [(0, .ref a0), (1, .int x1)]) (st' := [.ref a0, .int ((ι a0 5) * 10), .ref a0]) rfl ?_
      refine PC.gR (ci := 6) (j := 0) rfl rfl (by decide) ?_
      refine PC.pr (k := 1) (pc' := 61) (lv' := [(0, .ref a0), (1, .int x1)]) (st' := [.int x1, .ref (rf a0 0), .int ((ι a0 5) * 10), .ref a0]) rfl ?_
      refine PC.rd rfl (rf_lt _ _) (fun c1 c2 => ?_)
      have h := h c1 c2
      refine PC.pr (k := 1) (pc' := 63) (lv' := [(0, .ref a0), (1, .int x1)]) (st' := [.int (((ι a0 5) * 10) + (ι (rf a0 0) x1.toNatClampNeg)), .ref a0]) rfl ?_
      refine PC.pr (k := 1) (pc' := 65) (lv' := [(0, .ref a0), (1, .int x1)]) (st' := [.int 48, .int (((ι a0 5) * 10) + (ι (rf a0 0) x1.toNatClampNeg)), .ref a0]) rfl ?_
      refine PC.pr (k := 1) (pc' := 66) (lv' := [(0, .ref a0), (1, .int x1)]) (st' := [.int ((((ι a0 5) * 10) + (ι (rf a0 0) x1.toNatClampNeg)) - 48), .ref a0]) rfl ?_
      refine PC.pI (ci := 6) (j := 5) rfl rfl ?_
      refine PC.pr (k := 1) (pc' := 72) (lv' := [(1, .int (x1 + 1)), (0, .ref a0)]) (st' := []) rfl ?_
      refine PC.pr (k := 1) (pc' := 32) (lv' := [(1, .int (x1 + 1)), (0, .ref a0)]) (st' := []) rfl ?_
      exact PC.lv (lvE.cons rfl (lvE.cons rfl (lvE.nil))) h

/-- DoorPaintsModel.in(JJJ)Z -/
theorem t_148_0 {xl : List Int32} {n : Nat} {ι : IS} {Q : Option Value → IS → Prop} {y0 : Int64} {y2 : Int64} {y4 : Int64} (h : (((lg_cmp y0 y2) < 0 → Q (some (.int 0)) ι) ∧ (¬ (lg_cmp y0 y2) < 0 → ((0 < (lg_cmp y0 y4) → Q (some (.int 0)) ι) ∧ (¬ 0 < (lg_cmp y0 y4) → Q (some (.int 1)) ι))))) : PC xl (n + 1) 148 0 [(0, .long y0), (2, .long y2), (4, .long y4)] [] ι Q := by
  refine PC.pr1 (k := 0) (pc' := 1) (lv' := [(0, .long y0), (2, .long y2), (4, .long y4)]) (st' := [.long y0]) rfl ?_
  refine PC.pr (k := 1) (pc' := 2) (lv' := [(0, .long y0), (2, .long y2), (4, .long y4)]) (st' := [.long y2, .long y0]) rfl ?_
  refine PC.pr (k := 1) (pc' := 3) (lv' := [(0, .long y0), (2, .long y2), (4, .long y4)]) (st' := [.int (lg_cmp y0 y2)]) rfl ?_
  refine PC.if1 (t := 17) rfl rfl (fun c => ?_) (fun c => ?_)
  · have h := h.1 (cmp_lt.1.mp c)
    refine PC.pr (k := 1) (pc' := 18) (lv' := [(0, .long y0), (2, .long y2), (4, .long y4)]) (st' := [.int 0]) rfl ?_
    exact PC.retI rfl h
  · have h := h.2 (cmp_lt.2.mp c)
    refine PC.pr (k := 1) (pc' := 7) (lv' := [(0, .long y0), (2, .long y2), (4, .long y4)]) (st' := [.long y0]) rfl ?_
    refine PC.pr (k := 1) (pc' := 9) (lv' := [(0, .long y0), (2, .long y2), (4, .long y4)]) (st' := [.long y4, .long y0]) rfl ?_
    refine PC.pr (k := 1) (pc' := 10) (lv' := [(0, .long y0), (2, .long y2), (4, .long y4)]) (st' := [.int (lg_cmp y0 y4)]) rfl ?_
    refine PC.if1 (t := 17) rfl rfl (fun c => ?_) (fun c => ?_)
    · have h := h.1 (cmp_gt.1.mp c)
      refine PC.pr (k := 1) (pc' := 18) (lv' := [(0, .long y0), (2, .long y2), (4, .long y4)]) (st' := [.int 0]) rfl ?_
      exact PC.retI rfl h
    · have h := h.2 (cmp_gt.2.mp c)
      refine PC.pr (k := 1) (pc' := 14) (lv' := [(0, .long y0), (2, .long y2), (4, .long y4)]) (st' := [.int 1]) rfl ?_
      refine PC.pr (k := 1) (pc' := 18) (lv' := [(0, .long y0), (2, .long y2), (4, .long y4)]) (st' := [.int 1]) rfl ?_
      exact PC.retI rfl h

/-- DoorPaintsModel.next()V -/
theorem t_151_0 {xl : List Int32} {n : Nat} {ι : IS} {Q : Option Value → IS → Prop} {a0 : Nat} (h : ((¬ 0 < (ι a0 18) → PC xl n 151 8 [(0, .ref a0)] [] ι Q) ∧ (0 < (ι a0 18) → Q none ι))) : PC xl (n + 1) 151 0 [(0, .ref a0)] [] ι Q := by
  refine PC.pr1 (k := 0) (pc' := 1) (lv' := [(0, .ref a0)]) (st' := [.ref a0]) rfl ?_
  refine PC.gI (ci := 9) (j := 18) rfl rfl (by decide) ?_
  refine PC.if1 (t := 8) rfl rfl (fun c => ?_) (fun c => ?_)
  · have h := h.1 (cmp_le.1.mp c)
    exact h
  · have h := h.2 (cmp_le.2.mp c)
    exact PC.retV rfl h
theorem t_151_8 {xl : List Int32} {n : Nat} {ι : IS} {Q : Option Value → IS → Prop} {a0 : Nat} (h : PC xl n 152 0 [(0, .ref a0), (1, .int (ι a0 14))] [] ι (fun v1 κ1 => ∀ r1, v1 = some (.int r1) → ((¬ r1 = 32 → PC xl n 151 34 [(0, .ref a0)] [] κ1 Q) ∧ (r1 = 32 → PC xl n 151 8 [(0, .ref a0)] [] (up κ1 a0 14 ((κ1 a0 14) + 1)) Q)))) : PC xl (n + 1) 151 8 [(0, .ref a0)] [] ι Q := by
  refine PC.pr1 (k := 0) (pc' := 9) (lv' := [(0, .ref a0)]) (st' := [.ref a0]) rfl ?_
  refine PC.pr (k := 1) (pc' := 10) (lv' := [(0, .ref a0)]) (st' := [.ref a0, .ref a0]) rfl ?_
  refine PC.gI (ci := 9) (j := 14) rfl rfl (by decide) ?_
  refine (PC.callI (j := 152) (args := [.ref a0, .int (ι a0 14)]) (rest := []) (M := cM152) (ty := .int) rfl rfl rfl rfl rfl rfl (by decide) rfl rfl (by decide) ?_).weak
  refine PC.imp h (fun v1 κ1 h r1 hv => ?_)
  have h := h r1 hv
  refine PC.pr (k := 1) (pc' := 18) (lv' := [(0, .ref a0)]) (st' := [.int 32, .int r1]) rfl ?_
  refine PC.if2 (t := 34) rfl rfl (fun c => ?_) (fun c => ?_)
  · have h := h.1 (cmp_ne.1.mp c)
    exact h
  · have h := h.2 (cmp_ne.2.mp c)
    refine PC.pr (k := 1) (pc' := 22) (lv' := [(0, .ref a0)]) (st' := [.ref a0]) rfl ?_
    refine PC.pr (k := 1) (pc' := 23) (lv' := [(0, .ref a0)]) (st' := [.ref a0, .ref a0]) rfl ?_
    refine PC.gI (ci := 9) (j := 14) rfl rfl (by decide) ?_
    refine PC.pr (k := 1) (pc' := 27) (lv' := [(0, .ref a0)]) (st' := [.int 1, .int (κ1 a0 14), .ref a0]) rfl ?_
    refine PC.pr (k := 1) (pc' := 28) (lv' := [(0, .ref a0)]) (st' := [.int ((κ1 a0 14) + 1), .ref a0]) rfl ?_
    refine PC.pI (ci := 9) (j := 14) rfl rfl ?_
    refine PC.pr (k := 1) (pc' := 8) (lv' := [(0, .ref a0)]) (st' := []) rfl ?_
    exact h
theorem t_151_34 {xl : List Int32} {n : Nat} {ι : IS} {Q : Option Value → IS → Prop} {a0 : Nat} (h : PC xl n 152 0 [(0, .ref a0), (1, .int ((up ι a0 15 (ι a0 14)) a0 14))] [] (up ι a0 15 (ι a0 14)) (fun v1 κ1 => ∀ r1, v1 = some (.int r1) → ((¬ r1 < 0 → PC xl n 148 0 [(0, .long (r1).toInt64), (2, .long 97), (4, .long 122)] [] κ1 (fun v2 κ2 => ∀ r2, v2 = some (.int r2) → ((r2 = 0 → PC xl n 148 0 [(0, .long (r1).toInt64), (2, .long 48), (4, .long 57)] [] κ2 (fun v3 κ3 => ∀ r3, v3 = some (.int r3) → ((r3 = 0 → ((¬ r1 = 59 → PC xl n 153 0 [(0, .ref a0), (1, .int 0), (2, .int 1)] [] (up κ3 a0 16 3) (fun _ κ4 => Q none (up κ4 a0 14 ((κ4 a0 14) + 1)))) ∧ (r1 = 59 → PC xl n 153 0 [(0, .ref a0), (1, .int 1), (2, .int 1)] [] (up κ3 a0 16 3) (fun _ κ5 => Q none (up κ5 a0 14 ((κ5 a0 14) + 1)))))) ∧ (¬ r3 = 0 → PC xl n 151 140 [(0, .ref a0), (1, .int r1)] [] (up (up κ3 a0 16 2) a0 17 0) Q)))) ∧ (¬ r2 = 0 → PC xl n 151 82 [(0, .ref a0), (1, .int r1)] [] (up κ2 a0 16 1) Q)))) ∧ (r1 < 0 → Q none (up κ1 a0 16 0))))) : PC xl (n + 1) 151 34 [(0, .ref a0)] [] ι Q := by
  refine PC.pr1 (k := 0) (pc' := 35) (lv' := [(0, .ref a0)]) (st' := [.ref a0]) rfl ?_
  refine PC.pr (k := 1) (pc' := 36) (lv' := [(0, .ref a0)]) (st' := [.ref a0, .ref a0]) rfl ?_
  refine PC.gI (ci := 9) (j := 14) rfl rfl (by decide) ?_
  refine PC.pI (ci := 9) (j := 15) rfl rfl ?_
  refine PC.pr (k := 1) (pc' := 43) (lv' := [(0, .ref a0)]) (st' := [.ref a0]) rfl ?_
  refine PC.pr (k := 1) (pc' := 44) (lv' := [(0, .ref a0)]) (st' := [.ref a0, .ref a0]) rfl ?_
  refine PC.gI (ci := 9) (j := 14) rfl rfl (by decide) ?_
  refine (PC.callI (j := 152) (args := [.ref a0, .int ((up ι a0 15 (ι a0 14)) a0 14)]) (rest := []) (M := cM152) (ty := .int) rfl rfl rfl rfl rfl rfl (by decide) rfl rfl (by decide) ?_).weak
  refine PC.imp h (fun v1 κ1 h r1 hv => ?_)
  have h := h r1 hv
  refine PC.pr (k := 1) (pc' := 51) (lv' := [(1, .int r1), (0, .ref a0)]) (st' := []) rfl ?_
  refine PC.pr (k := 1) (pc' := 52) (lv' := [(1, .int r1), (0, .ref a0)]) (st' := [.int r1]) rfl ?_
  refine PC.if1 (t := 63) rfl rfl (fun c => ?_) (fun c => ?_)
  · have h := h.1 (cmp_ge.1.mp c)
    refine PC.pr (k := 1) (pc' := 64) (lv' := [(1, .int r1), (0, .ref a0)]) (st' := [.int r1]) rfl ?_
    refine PC.pr (k := 1) (pc' := 65) (lv' := [(1, .int r1), (0, .ref a0)]) (st' := [.long (r1).toInt64]) rfl ?_
    refine PC.pr (k := 1) (pc' := 68) (lv' := [(1, .int r1), (0, .ref a0)]) (st' := [.long 97, .long (r1).toInt64]) rfl ?_
    refine PC.pr (k := 1) (pc' := 71) (lv' := [(1, .int r1), (0, .ref a0)]) (st' := [.long 122, .long 97, .long (r1).toInt64]) rfl ?_
    refine (PC.callI (j := 148) (args := [.long (r1).toInt64, .long 97, .long 122]) (rest := []) (M := cM148) (ty := .boolean) rfl rfl rfl rfl rfl rfl (by decide) rfl rfl (by decide) ?_).weak
    refine PC.imp h (fun v2 κ2 h r2 hv => ?_)
    have h := h r2 hv
    refine PC.if1 (t := 116) rfl rfl (fun c => ?_) (fun c => ?_)
    · have h := h.1 (cmp_eq.1.mp c)
      refine PC.pr (k := 1) (pc' := 117) (lv' := [(1, .int r1), (0, .ref a0)]) (st' := [.int r1]) rfl ?_
      refine PC.pr (k := 1) (pc' := 118) (lv' := [(1, .int r1), (0, .ref a0)]) (st' := [.long (r1).toInt64]) rfl ?_
      refine PC.pr (k := 1) (pc' := 121) (lv' := [(1, .int r1), (0, .ref a0)]) (st' := [.long 48, .long (r1).toInt64]) rfl ?_
      refine PC.pr (k := 1) (pc' := 124) (lv' := [(1, .int r1), (0, .ref a0)]) (st' := [.long 57, .long 48, .long (r1).toInt64]) rfl ?_
      refine (PC.callI (j := 148) (args := [.long (r1).toInt64, .long 48, .long 57]) (rest := []) (M := cM148) (ty := .boolean) rfl rfl rfl rfl rfl rfl (by decide) rfl rfl (by decide) ?_).weak
      refine PC.imp h (fun v3 κ3 h r3 hv => ?_)
      have h := h r3 hv
      refine PC.if1 (t := 243) rfl rfl (fun c => ?_) (fun c => ?_)
      · have h := h.1 (cmp_eq.1.mp c)
        refine PC.pr (k := 1) (pc' := 244) (lv' := [(1, .int r1), (0, .ref a0)]) (st' := [.ref a0]) rfl ?_
        refine PC.pr (k := 1) (pc' := 245) (lv' := [(1, .int r1), (0, .ref a0)]) (st' := [.int 3, .ref a0]) rfl ?_
        refine PC.pI (ci := 9) (j := 16) rfl rfl ?_
        refine PC.pr (k := 1) (pc' := 249) (lv' := [(1, .int r1), (0, .ref a0)]) (st' := [.ref a0]) rfl ?_
        refine PC.pr (k := 1) (pc' := 250) (lv' := [(1, .int r1), (0, .ref a0)]) (st' := [.int r1, .ref a0]) rfl ?_
        refine PC.pr (k := 1) (pc' := 252) (lv' := [(1, .int r1), (0, .ref a0)]) (st' := [.int 59, .int r1, .ref a0]) rfl ?_
        refine PC.if2 (t := 259) rfl rfl (fun c => ?_) (fun c => ?_)
        · have h := h.1 (cmp_ne.1.mp c)
          refine PC.pr (k := 1) (pc' := 260) (lv' := [(1, .int r1), (0, .ref a0)]) (st' := [.int 0, .ref a0]) rfl ?_
          refine PC.pr (k := 1) (pc' := 261) (lv' := [(1, .int r1), (0, .ref a0)]) (st' := [.int 1, .int 0, .ref a0]) rfl ?_
          refine (PC.callV (j := 153) (args := [.ref a0, .int 0, .int 1]) (rest := []) (M := cM153) rfl rfl rfl rfl rfl rfl (by decide) rfl rfl ?_).weak
          refine PC.imp h (fun _ κ4 h => ?_)
          refine PC.pr (k := 1) (pc' := 265) (lv' := [(1, .int r1), (0, .ref a0)]) (st' := [.ref a0]) rfl ?_
          refine PC.pr (k := 1) (pc' := 266) (lv' := [(1, .int r1), (0, .ref a0)]) (st' := [.ref a0, .ref a0]) rfl ?_
          refine PC.gI (ci := 9) (j := 14) rfl rfl (by decide) ?_
          refine PC.pr (k := 1) (pc' := 270) (lv' := [(1, .int r1), (0, .ref a0)]) (st' := [.int 1, .int (κ4 a0 14), .ref a0]) rfl ?_
          refine PC.pr (k := 1) (pc' := 271) (lv' := [(1, .int r1), (0, .ref a0)]) (st' := [.int ((κ4 a0 14) + 1), .ref a0]) rfl ?_
          refine PC.pI (ci := 9) (j := 14) rfl rfl ?_
          exact PC.retV rfl h
        · have h := h.2 (cmp_ne.2.mp c)
          refine PC.pr (k := 1) (pc' := 256) (lv' := [(1, .int r1), (0, .ref a0)]) (st' := [.int 1, .ref a0]) rfl ?_
          refine PC.pr (k := 1) (pc' := 260) (lv' := [(1, .int r1), (0, .ref a0)]) (st' := [.int 1, .ref a0]) rfl ?_
          refine PC.pr (k := 1) (pc' := 261) (lv' := [(1, .int r1), (0, .ref a0)]) (st' := [.int 1, .int 1, .ref a0]) rfl ?_
          refine (PC.callV (j := 153) (args := [.ref a0, .int 1, .int 1]) (rest := []) (M := cM153) rfl rfl rfl rfl rfl rfl (by decide) rfl rfl ?_).weak
          refine PC.imp h (fun _ κ5 h => ?_)
          refine PC.pr (k := 1) (pc' := 265) (lv' := [(1, .int r1), (0, .ref a0)]) (st' := [.ref a0]) rfl ?_
          refine PC.pr (k := 1) (pc' := 266) (lv' := [(1, .int r1), (0, .ref a0)]) (st' := [.ref a0, .ref a0]) rfl ?_
          refine PC.gI (ci := 9) (j := 14) rfl rfl (by decide) ?_
          refine PC.pr (k := 1) (pc' := 270) (lv' := [(1, .int r1), (0, .ref a0)]) (st' := [.int 1, .int (κ5 a0 14), .ref a0]) rfl ?_
          refine PC.pr (k := 1) (pc' := 271) (lv' := [(1, .int r1), (0, .ref a0)]) (st' := [.int ((κ5 a0 14) + 1), .ref a0]) rfl ?_
          refine PC.pI (ci := 9) (j := 14) rfl rfl ?_
          exact PC.retV rfl h
      · have h := h.2 (cmp_eq.2.mp c)
        refine PC.pr (k := 1) (pc' := 131) (lv' := [(1, .int r1), (0, .ref a0)]) (st' := [.ref a0]) rfl ?_
        refine PC.pr (k := 1) (pc' := 132) (lv' := [(1, .int r1), (0, .ref a0)]) (st' := [.int 2, .ref a0]) rfl ?_
        refine PC.pI (ci := 9) (j := 16) rfl rfl ?_
        refine PC.pr (k := 1) (pc' := 136) (lv' := [(1, .int r1), (0, .ref a0)]) (st' := [.ref a0]) rfl ?_
        refine PC.pr (k := 1) (pc' := 137) (lv' := [(1, .int r1), (0, .ref a0)]) (st' := [.int 0, .ref a0]) rfl ?_
        refine PC.pI (ci := 9) (j := 17) rfl rfl ?_
        exact PC.lv (lvE.cons rfl (lvE.cons rfl (lvE.nil))) h
    · have h := h.2 (cmp_eq.2.mp c)
      refine PC.pr (k := 1) (pc' := 78) (lv' := [(1, .int r1), (0, .ref a0)]) (st' := [.ref a0]) rfl ?_
      refine PC.pr (k := 1) (pc' := 79) (lv' := [(1, .int r1), (0, .ref a0)]) (st' := [.int 1, .ref a0]) rfl ?_
      refine PC.pI (ci := 9) (j := 16) rfl rfl ?_
      exact PC.lv (lvE.cons rfl (lvE.cons rfl (lvE.nil))) h
  · have h := h.2 (cmp_ge.2.mp c)
    refine PC.pr (k := 1) (pc' := 56) (lv' := [(1, .int r1), (0, .ref a0)]) (st' := [.ref a0]) rfl ?_
    refine PC.pr (k := 1) (pc' := 57) (lv' := [(1, .int r1), (0, .ref a0)]) (st' := [.int 0, .ref a0]) rfl ?_
    refine PC.pI (ci := 9) (j := 16) rfl rfl ?_
    refine PC.pr (k := 1) (pc' := 274) (lv' := [(1, .int r1), (0, .ref a0)]) (st' := []) rfl ?_
    exact PC.retV rfl h
theorem t_151_82 {xl : List Int32} {n : Nat} {ι : IS} {Q : Option Value → IS → Prop} {a0 : Nat} {w1 : Value} (h : PC xl n 152 0 [(0, .ref a0), (1, .int (ι a0 14))] [] ι (fun v1 κ1 => ∀ r1, v1 = some (.int r1) → PC xl n 148 0 [(0, .long (r1).toInt64), (2, .long 97), (4, .long 122)] [] κ1 (fun v2 κ2 => ∀ r2, v2 = some (.int r2) → ((r2 = 0 → Q none κ2) ∧ (¬ r2 = 0 → PC xl n 151 82 [(0, .ref a0), (1, w1)] [] (up κ2 a0 14 ((κ2 a0 14) + 1)) Q))))) : PC xl (n + 1) 151 82 [(0, .ref a0), (1, w1)] [] ι Q := by
  refine PC.pr1 (k := 0) (pc' := 83) (lv' := [(0, .ref a0), (1, w1)]) (st' := [.ref a0]) rfl ?_
  refine PC.pr (k := 1) (pc' := 84) (lv' := [(0, .ref a0), (1, w1)]) (st' := [.ref a0, .ref a0]) rfl ?_
  refine PC.gI (ci := 9) (j := 14) rfl rfl (by decide) ?_
  refine (PC.callI (j := 152) (args := [.ref a0, .int (ι a0 14)]) (rest := []) (M := cM152) (ty := .int) rfl rfl rfl rfl rfl rfl (by decide) rfl rfl (by decide) ?_).weak
  refine PC.imp h (fun v1 κ1 h r1 hv => ?_)
  have h := h r1 hv
  refine PC.pr (k := 1) (pc' := 91) (lv' := [(0, .ref a0), (1, w1)]) (st' := [.long (r1).toInt64]) rfl ?_
  refine PC.pr (k := 1) (pc' := 94) (lv' := [(0, .ref a0), (1, w1)]) (st' := [.long 97, .long (r1).toInt64]) rfl ?_
  refine PC.pr (k := 1) (pc' := 97) (lv' := [(0, .ref a0), (1, w1)]) (st' := [.long 122, .long 97, .long (r1).toInt64]) rfl ?_
  refine (PC.callI (j := 148) (args := [.long (r1).toInt64, .long 97, .long 122]) (rest := []) (M := cM148) (ty := .boolean) rfl rfl rfl rfl rfl rfl (by decide) rfl rfl (by decide) ?_).weak
  refine PC.imp h (fun v2 κ2 h r2 hv => ?_)
  have h := h r2 hv
  refine PC.if1 (t := 274) rfl rfl (fun c => ?_) (fun c => ?_)
  · have h := h.1 (cmp_eq.1.mp c)
    exact PC.retV rfl h
  · have h := h.2 (cmp_eq.2.mp c)
    refine PC.pr (k := 1) (pc' := 104) (lv' := [(0, .ref a0), (1, w1)]) (st' := [.ref a0]) rfl ?_
    refine PC.pr (k := 1) (pc' := 105) (lv' := [(0, .ref a0), (1, w1)]) (st' := [.ref a0, .ref a0]) rfl ?_
    refine PC.gI (ci := 9) (j := 14) rfl rfl (by decide) ?_
    refine PC.pr (k := 1) (pc' := 109) (lv' := [(0, .ref a0), (1, w1)]) (st' := [.int 1, .int (κ2 a0 14), .ref a0]) rfl ?_
    refine PC.pr (k := 1) (pc' := 110) (lv' := [(0, .ref a0), (1, w1)]) (st' := [.int ((κ2 a0 14) + 1), .ref a0]) rfl ?_
    refine PC.pI (ci := 9) (j := 14) rfl rfl ?_
    refine PC.pr (k := 1) (pc' := 82) (lv' := [(0, .ref a0), (1, w1)]) (st' := []) rfl ?_
    exact h
theorem t_151_140 {xl : List Int32} {n : Nat} {ι : IS} {Q : Option Value → IS → Prop} {a0 : Nat} {w1 : Value} (h : PC xl n 152 0 [(0, .ref a0), (1, .int (ι a0 14))] [] ι (fun v1 κ1 => ∀ r1, v1 = some (.int r1) → PC xl n 148 0 [(0, .long (r1).toInt64), (2, .long 48), (4, .long 57)] [] κ1 (fun v2 κ2 => ∀ r2, v2 = some (.int r2) → ((r2 = 0 → ((2 < ((κ2 a0 14) - (κ2 a0 15)) → PC xl n 153 0 [(0, .ref a0), (1, .int 0), (2, .int 1)] [] κ2 (fun _ κ3 => Q none κ3)) ∧ (¬ 2 < ((κ2 a0 14) - (κ2 a0 15)) → PC xl n 153 0 [(0, .ref a0), (1, .int 1), (2, .int 1)] [] κ2 (fun _ κ4 => Q none κ4)))) ∧ (¬ r2 = 0 → ((¬ ((κ2 a0 14) - (κ2 a0 15)) < 2 → PC xl n 151 140 [(0, .ref a0), (1, w1)] [] (up (up κ2 a0 17 (κ2 a0 17)) a0 14 (((up κ2 a0 17 (κ2 a0 17)) a0 14) + 1)) Q) ∧ (((κ2 a0 14) - (κ2 a0 15)) < 2 → PC xl n 152 0 [(0, .ref a0), (1, .int (κ2 a0 14))] [] κ2 (fun v5 κ5 => ∀ r5, v5 = some (.int r5) → PC xl n 151 140 [(0, .ref a0), (1, w1)] [] (up (up κ5 a0 17 (((10 * (κ2 a0 17)) + r5) - 48)) a0 14 (((up κ5 a0 17 (((10 * (κ2 a0 17)) + r5) - 48)) a0 14) + 1)) Q)))))))) : PC xl (n + 1) 151 140 [(0, .ref a0), (1, w1)] [] ι Q := by
  refine PC.pr1 (k := 0) (pc' := 141) (lv' := [(0, .ref a0), (1, w1)]) (st' := [.ref a0]) rfl ?_
  refine PC.pr (k := 1) (pc' := 142) (lv' := [(0, .ref a0), (1, w1)]) (st' := [.ref a0, .ref a0]) rfl ?_
  refine PC.gI (ci := 9) (j := 14) rfl rfl (by decide) ?_
  refine (PC.callI (j := 152) (args := [.ref a0, .int (ι a0 14)]) (rest := []) (M := cM152) (ty := .int) rfl rfl rfl rfl rfl rfl (by decide) rfl rfl (by decide) ?_).weak
  refine PC.imp h (fun v1 κ1 h r1 hv => ?_)
  have h := h r1 hv
  refine PC.pr (k := 1) (pc' := 149) (lv' := [(0, .ref a0), (1, w1)]) (st' := [.long (r1).toInt64]) rfl ?_
  refine PC.pr (k := 1) (pc' := 152) (lv' := [(0, .ref a0), (1, w1)]) (st' := [.long 48, .long (r1).toInt64]) rfl ?_
  refine PC.pr (k := 1) (pc' := 155) (lv' := [(0, .ref a0), (1, w1)]) (st' := [.long 57, .long 48, .long (r1).toInt64]) rfl ?_
  refine (PC.callI (j := 148) (args := [.long (r1).toInt64, .long 48, .long 57]) (rest := []) (M := cM148) (ty := .boolean) rfl rfl rfl rfl rfl rfl (by decide) rfl rfl (by decide) ?_).weak
  refine PC.imp h (fun v2 κ2 h r2 hv => ?_)
  have h := h r2 hv
  refine PC.if1 (t := 217) rfl rfl (fun c => ?_) (fun c => ?_)
  · have h := h.1 (cmp_eq.1.mp c)
    refine PC.pr (k := 1) (pc' := 218) (lv' := [(0, .ref a0), (1, w1)]) (st' := [.ref a0]) rfl ?_
    refine PC.pr (k := 1) (pc' := 219) (lv' := [(0, .ref a0), (1, w1)]) (st' := [.ref a0, .ref a0]) rfl ?_
    refine PC.gI (ci := 9) (j := 14) rfl rfl (by decide) ?_
    refine PC.pr (k := 1) (pc' := 223) (lv' := [(0, .ref a0), (1, w1)]) (st' := [.ref a0, .int (κ2 a0 14), .ref a0]) rfl ?_
    refine PC.gI (ci := 9) (j := 15) rfl rfl (by decide) ?_
    refine PC.pr (k := 1) (pc' := 227) (lv' := [(0, .ref a0), (1, w1)]) (st' := [.int ((κ2 a0 14) - (κ2 a0 15)), .ref a0]) rfl ?_
    refine PC.pr (k := 1) (pc' := 228) (lv' := [(0, .ref a0), (1, w1)]) (st' := [.int 2, .int ((κ2 a0 14) - (κ2 a0 15)), .ref a0]) rfl ?_
    refine PC.if2 (t := 235) rfl rfl (fun c => ?_) (fun c => ?_)
    · have h := h.1 (cmp_gt.1.mp c)
      refine PC.pr (k := 1) (pc' := 236) (lv' := [(0, .ref a0), (1, w1)]) (st' := [.int 0, .ref a0]) rfl ?_
      refine PC.pr (k := 1) (pc' := 237) (lv' := [(0, .ref a0), (1, w1)]) (st' := [.int 1, .int 0, .ref a0]) rfl ?_
      refine (PC.callV (j := 153) (args := [.ref a0, .int 0, .int 1]) (rest := []) (M := cM153) rfl rfl rfl rfl rfl rfl (by decide) rfl rfl ?_).weak
      refine PC.imp h (fun _ κ3 h => ?_)
      refine PC.pr (k := 1) (pc' := 274) (lv' := [(0, .ref a0), (1, w1)]) (st' := []) rfl ?_
      exact PC.retV rfl h
    · have h := h.2 (cmp_gt.2.mp c)
      refine PC.pr (k := 1) (pc' := 232) (lv' := [(0, .ref a0), (1, w1)]) (st' := [.int 1, .ref a0]) rfl ?_
      refine PC.pr (k := 1) (pc' := 236) (lv' := [(0, .ref a0), (1, w1)]) (st' := [.int 1, .ref a0]) rfl ?_
      refine PC.pr (k := 1) (pc' := 237) (lv' := [(0, .ref a0), (1, w1)]) (st' := [.int 1, .int 1, .ref a0]) rfl ?_
      refine (PC.callV (j := 153) (args := [.ref a0, .int 1, .int 1]) (rest := []) (M := cM153) rfl rfl rfl rfl rfl rfl (by decide) rfl rfl ?_).weak
      refine PC.imp h (fun _ κ4 h => ?_)
      refine PC.pr (k := 1) (pc' := 274) (lv' := [(0, .ref a0), (1, w1)]) (st' := []) rfl ?_
      exact PC.retV rfl h
  · have h := h.2 (cmp_eq.2.mp c)
    refine PC.pr (k := 1) (pc' := 162) (lv' := [(0, .ref a0), (1, w1)]) (st' := [.ref a0]) rfl ?_
    refine PC.pr (k := 1) (pc' := 163) (lv' := [(0, .ref a0), (1, w1)]) (st' := [.ref a0, .ref a0]) rfl ?_
    refine PC.gI (ci := 9) (j := 14) rfl rfl (by decide) ?_
    refine PC.pr (k := 1) (pc' := 167) (lv' := [(0, .ref a0), (1, w1)]) (st' := [.ref a0, .int (κ2 a0 14), .ref a0]) rfl ?_
    refine PC.gI (ci := 9) (j := 15) rfl rfl (by decide) ?_
    refine PC.pr (k := 1) (pc' := 171) (lv' := [(0, .ref a0), (1, w1)]) (st' := [.int ((κ2 a0 14) - (κ2 a0 15)), .ref a0]) rfl ?_
    refine PC.pr (k := 1) (pc' := 172) (lv' := [(0, .ref a0), (1, w1)]) (st' := [.int 2, .int ((κ2 a0 14) - (κ2 a0 15)), .ref a0]) rfl ?_
    refine PC.if2 (t := 197) rfl rfl (fun c => ?_) (fun c => ?_)
    · have h := h.1 (cmp_ge.1.mp c)
      refine PC.pr (k := 1) (pc' := 198) (lv' := [(0, .ref a0), (1, w1)]) (st' := [.ref a0, .ref a0]) rfl ?_
      refine PC.gI (ci := 9) (j := 17) rfl rfl (by decide) ?_
      refine PC.pI (ci := 9) (j := 17) rfl rfl ?_
      refine PC.pr (k := 1) (pc' := 205) (lv' := [(0, .ref a0), (1, w1)]) (st' := [.ref a0]) rfl ?_
      refine PC.pr (k := 1) (pc' := 206) (lv' := [(0, .ref a0), (1, w1)]) (st' := [.ref a0, .ref a0]) rfl ?_
      refine PC.gI (ci := 9) (j := 14) rfl rfl (by decide) ?_
      refine PC.pr (k := 1) (pc' := 210) (lv' := [(0, .ref a0), (1, w1)]) (st' := [.int 1, .int ((up κ2 a0 17 (κ2 a0 17)) a0 14), .ref a0]) rfl ?_
      refine PC.pr (k := 1) (pc' := 211) (lv' := [(0, .ref a0), (1, w1)]) (st' := [.int (((up κ2 a0 17 (κ2 a0 17)) a0 14) + 1), .ref a0]) rfl ?_
      refine PC.pI (ci := 9) (j := 14) rfl rfl ?_
      refine PC.pr (k := 1) (pc' := 140) (lv' := [(0, .ref a0), (1, w1)]) (st' := []) rfl ?_
      exact h
    · have h := h.2 (cmp_ge.2.mp c)
      refine PC.pr (k := 1) (pc' := 177) (lv' := [(0, .ref a0), (1, w1)]) (st' := [.int 10, .ref a0]) rfl ?_
      refine PC.pr (k := 1) (pc' := 178) (lv' := [(0, .ref a0), (1, w1)]) (st' := [.ref a0, .int 10, .ref a0]) rfl ?_
      refine PC.gI (ci := 9) (j := 17) rfl rfl (by decide) ?_
      refine PC.pr (k := 1) (pc' := 182) (lv' := [(0, .ref a0), (1, w1)]) (st' := [.int (10 * (κ2 a0 17)), .ref a0]) rfl ?_
      refine PC.pr (k := 1) (pc' := 183) (lv' := [(0, .ref a0), (1, w1)]) (st' := [.ref a0, .int (10 * (κ2 a0 17)), .ref a0]) rfl ?_
      refine PC.pr (k := 1) (pc' := 184) (lv' := [(0, .ref a0), (1, w1)]) (st' := [.ref a0, .ref a0, .int (10 * (κ2 a0 17)), .ref a0]) rfl ?_
      refine PC.gI (ci := 9) (j := 14) rfl rfl (by decide) ?_
      refine (PC.callI (j := 152) (args := [.ref a0, .int (κ2 a0 14)]) (rest := [.int (10 * (κ2 a0 17)), .ref a0]) (M := cM152) (ty := .int) rfl rfl rfl rfl rfl rfl (by decide) rfl rfl (by decide) ?_).weak
      refine PC.imp h (fun v5 κ5 h r5 hv => ?_)
      have h := h r5 hv
      refine PC.pr (k := 1) (pc' := 191) (lv' := [(0, .ref a0), (1, w1)]) (st' := [.int ((10 * (κ2 a0 17)) + r5), .ref a0]) rfl ?_
      refine PC.pr (k := 1) (pc' := 193) (lv' := [(0, .ref a0), (1, w1)]) (st' := [.int 48, .int ((10 * (κ2 a0 17)) + r5), .ref a0]) rfl ?_
      refine PC.pr (k := 1) (pc' := 194) (lv' := [(0, .ref a0), (1, w1)]) (st' := [.int (((10 * (κ2 a0 17)) + r5) - 48), .ref a0]) rfl ?_
      refine PC.pr (k := 1) (pc' := 201) (lv' := [(0, .ref a0), (1, w1)]) (st' := [.int (((10 * (κ2 a0 17)) + r5) - 48), .ref a0]) rfl ?_
      refine PC.pI (ci := 9) (j := 17) rfl rfl ?_
      refine PC.pr (k := 1) (pc' := 205) (lv' := [(0, .ref a0), (1, w1)]) (st' := [.ref a0]) rfl ?_
      refine PC.pr (k := 1) (pc' := 206) (lv' := [(0, .ref a0), (1, w1)]) (st' := [.ref a0, .ref a0]) rfl ?_
      refine PC.gI (ci := 9) (j := 14) rfl rfl (by decide) ?_
      refine PC.pr (k := 1) (pc' := 210) (lv' := [(0, .ref a0), (1, w1)]) (st' := [.int 1, .int ((up κ5 a0 17 (((10 * (κ2 a0 17)) + r5) - 48)) a0 14), .ref a0]) rfl ?_
      refine PC.pr (k := 1) (pc' := 211) (lv' := [(0, .ref a0), (1, w1)]) (st' := [.int (((up κ5 a0 17 (((10 * (κ2 a0 17)) + r5) - 48)) a0 14) + 1), .ref a0]) rfl ?_
      refine PC.pI (ci := 9) (j := 14) rfl rfl ?_
      refine PC.pr (k := 1) (pc' := 140) (lv' := [(0, .ref a0), (1, w1)]) (st' := []) rfl ?_
      exact h

/-- DoorPaintsModel.byteAt(I)I -/
theorem t_152_0 {xl : List Int32} {n : Nat} {ι : IS} {Q : Option Value → IS → Prop} {a0 : Nat} {x1 : Int32} (h : ((¬ x1 < (ι a0 13) → Q (some (.int (-1))) ι) ∧ (x1 < (ι a0 13) → (0 ≤ x1.toInt → x1.toInt < ln (rf a0 12) → Q (some (.int (ι (rf a0 12) x1.toNatClampNeg))) ι)))) : PC xl (n + 1) 152 0 [(0, .ref a0), (1, .int x1)] [] ι Q := by
  refine PC.pr1 (k := 0) (pc' := 1) (lv' := [(0, .ref a0), (1, .int x1)]) (st' := [.int x1]) rfl ?_
  refine PC.pr (k := 1) (pc' := 2) (lv' := [(0, .ref a0), (1, .int x1)]) (st' := [.ref a0, .int x1]) rfl ?_
  refine PC.gI (ci := 9) (j := 13) rfl rfl (by decide) ?_
  refine PC.if2 (t := 17) rfl rfl (fun c => ?_) (fun c => ?_)
  · have h := h.1 (cmp_ge.1.mp c)
    refine PC.pr (k := 1) (pc' := 18) (lv' := [(0, .ref a0), (1, .int x1)]) (st' := [.int (-1)]) rfl ?_
    exact PC.retI rfl h
  · have h := h.2 (cmp_ge.2.mp c)
    refine PC.pr (k := 1) (pc' := 9) (lv' := [(0, .ref a0), (1, .int x1)]) (st' := [.ref a0]) rfl ?_
    refine PC.gR (ci := 9) (j := 12) rfl rfl (by decide) ?_
    refine PC.pr (k := 1) (pc' := 13) (lv' := [(0, .ref a0), (1, .int x1)]) (st' := [.int x1, .ref (rf a0 12)]) rfl ?_
    refine PC.rd rfl (rf_lt _ _) (fun c1 c2 => ?_)
    have h := h c1 c2
    refine PC.pr (k := 1) (pc' := 18) (lv' := [(0, .ref a0), (1, .int x1)]) (st' := [.int (ι (rf a0 12) x1.toNatClampNeg)]) rfl ?_
    exact PC.retI rfl h

/-- DoorPaintsModel.needs(ZI)V -/
theorem t_153_0 {xl : List Int32} {n : Nat} {ι : IS} {Q : Option Value → IS → Prop} {a0 : Nat} {x1 : Int32} {x2 : Int32} (h : ((¬ x1 = 0 → Q none ι) ∧ (x1 = 0 → ((¬ (ι a0 18) = 0 → Q none ι) ∧ ((ι a0 18) = 0 → Q none (up (up ι a0 18 x2) a0 19 ((up ι a0 18 x2) a0 15))))))) : PC xl (n + 1) 153 0 [(0, .ref a0), (1, .int x1), (2, .int x2)] [] ι Q := by
  refine PC.pr1 (k := 0) (pc' := 1) (lv' := [(0, .ref a0), (1, .int x1), (2, .int x2)]) (st' := [.int x1]) rfl ?_
  refine PC.if1 (t := 24) rfl rfl (fun c => ?_) (fun c => ?_)
  · have h := h.1 (cmp_ne.1.mp c)
    exact PC.retV rfl h
  · have h := h.2 (cmp_ne.2.mp c)
    refine PC.pr (k := 1) (pc' := 5) (lv' := [(0, .ref a0), (1, .int x1), (2, .int x2)]) (st' := [.ref a0]) rfl ?_
    refine PC.gI (ci := 9) (j := 18) rfl rfl (by decide) ?_
    refine PC.if1 (t := 24) rfl rfl (fun c => ?_) (fun c => ?_)
    · have h := h.1 (cmp_ne.1.mp c)
      exact PC.retV rfl h
    · have h := h.2 (cmp_ne.2.mp c)
      refine PC.pr (k := 1) (pc' := 12) (lv' := [(0, .ref a0), (1, .int x1), (2, .int x2)]) (st' := [.ref a0]) rfl ?_
      refine PC.pr (k := 1) (pc' := 13) (lv' := [(0, .ref a0), (1, .int x1), (2, .int x2)]) (st' := [.int x2, .ref a0]) rfl ?_
      refine PC.pI (ci := 9) (j := 18) rfl rfl ?_
      refine PC.pr (k := 1) (pc' := 17) (lv' := [(0, .ref a0), (1, .int x1), (2, .int x2)]) (st' := [.ref a0]) rfl ?_
      refine PC.pr (k := 1) (pc' := 18) (lv' := [(0, .ref a0), (1, .int x1), (2, .int x2)]) (st' := [.ref a0, .ref a0]) rfl ?_
      refine PC.gI (ci := 9) (j := 15) rfl rfl (by decide) ?_
      refine PC.pI (ci := 9) (j := 19) rfl rfl ?_
      exact PC.retV rfl h

